theorem vc_X6_wordAt_1 {z313 z315 z316 : Int} (h0 : (148 - z313) < ((0 : Nat) : Int)) (h1 : z316 ≤ z313) (h2 : z315 ≤ z313) (h3 : 0 ≤ z313 ∧ z313 ≤ 147) (h4 : 0 ≤ z315 ∧ z315 ≤ 147) (h5 : 0 ≤ z316 ∧ z316 ≤ 147) : False := by omega
theorem vc_X6_wordAt_2 {z313 z315 z316 : Int} (h0 : 147 ≤ z313) (h1 : z316 ≤ z313) (h2 : z315 ≤ z313) (h3 : 0 ≤ z313 ∧ z313 ≤ 147) (h4 : 0 ≤ z315 ∧ z315 ≤ 147) (h5 : 0 ≤ z316 ∧ z316 ≤ 147) : 147 ≤ z313 ∧ z313 ≤ 147 := by omega
theorem vc_X6_wordAt_3 {z313 z315 z316 : Int} (h0 : z313 < 147) (h1 : z316 ≤ z313) (h2 : z315 ≤ z313) (h3 : 0 ≤ z313 ∧ z313 ≤ 147) (h4 : 0 ≤ z315 ∧ z315 ≤ 147) (h5 : 0 ≤ z316 ∧ z316 ≤ 147) : 0 ≤ z313 ∧ z313 ≤ 146 := by omega
theorem vc_X6_wordAt_4 {z332 : Int} (h0 : z332 = 32) (h1 : 0 ≤ z332 ∧ z332 ≤ 255) : 32 ≤ z332 ∧ z332 ≤ 32 := by omega
theorem vc_X6_wordAt_5 {z314 : Int} (h0 : z314 = 0) (h1 : 0 ≤ z314 ∧ z314 ≤ 1) : 0 ≤ z314 ∧ z314 ≤ 0 := by omega
theorem vc_X6_wordAt_6 {z313 z315 z316 : Int} (h0 : z316 ≤ z313) (h1 : z315 ≤ z313) (h2 : z313 < 147) (h3 : 0 ≤ z313 ∧ z313 ≤ 146) (h4 : 0 ≤ z315 ∧ z315 ≤ 147) (h5 : 0 ≤ z316 ∧ z316 ≤ 147) : 0 ≤ (z316 + 1) ∧ (z316 + 1) ≤ 147 := by omega
theorem vc_X6_wordAt_7 {z313 z315 z316 : Int} (h0 : z316 ≤ z313) (h1 : z315 ≤ z313) (h2 : z313 < 147) (h3 : 0 ≤ z313 ∧ z313 ≤ 146) (h4 : 0 ≤ z315 ∧ z315 ≤ 147) (h5 : 0 ≤ z316 ∧ z316 ≤ 147) : (z316 + 1) ≤ (z313 + 1) := by omega
theorem vc_X6_wordAt_8 {z313 z315 z316 : Int} (h0 : z316 ≤ z313) (h1 : z315 ≤ z313) (h2 : z313 < 147) (h3 : 0 ≤ z313 ∧ z313 ≤ 146) (h4 : 0 ≤ z315 ∧ z315 ≤ 147) (h5 : 0 ≤ z316 ∧ z316 ≤ 147) : (z313 + 1) ≤ (z313 + 1) := by omega
theorem vc_X6_wordAt_9 {N z313 z315 z316 : Int} (h0 : (148 - z313) < N + 1) (h1 : z316 ≤ z313) (h2 : z315 ≤ z313) (h3 : z313 < 147) (h4 : 0 ≤ z313 ∧ z313 ≤ 146) (h5 : 0 ≤ z315 ∧ z315 ≤ 147) (h6 : 0 ≤ z316 ∧ z316 ≤ 147) : (148 - (z313 + 1)) < N := by omega
theorem vc_X6_wordAt_10 {z314 : Int} (h0 : ¬ z314 = 0) (h1 : 0 ≤ z314 ∧ z314 ≤ 1) : 1 ≤ z314 ∧ z314 ≤ 1 := by omega
theorem vc_X6_wordAt_11 {p3 z313 z315 z316 : Int} (h0 : z316 ≤ z313) (h1 : z315 ≤ z313) (h2 : z313 < 147) (h3 : ¬ (z313 - z315) = p3) (h4 : 0 ≤ p3 ∧ p3 ≤ 1000) (h5 : 0 ≤ z313 ∧ z313 ≤ 146) (h6 : 0 ≤ z315 ∧ z315 ≤ 147) (h7 : 0 ≤ z316 ∧ z316 ≤ 147) : 0 ≤ (z316 + 1) ∧ (z316 + 1) ≤ 147 := by omega
theorem vc_X6_wordAt_12 {p2 p3 z313 z315 z316 : Int} (h0 : z316 ≤ z313) (h1 : z315 ≤ z313) (h2 : z313 < 147) (h3 : ¬ (z313 - z315) = p3) (h4 : p2 + p3 ≤ 1000) (h5 : 0 ≤ p2 ∧ p2 ≤ 1000) (h6 : 0 ≤ p3 ∧ p3 ≤ 1000) (h7 : 0 ≤ z313 ∧ z313 ≤ 146) (h8 : 0 ≤ z315 ∧ z315 ≤ 147) (h9 : 0 ≤ z316 ∧ z316 ≤ 147) : (z316 + 1) ≤ (z313 + 1) := by omega
theorem vc_X6_wordAt_13 {p2 p3 z313 z315 z316 : Int} (h0 : z316 ≤ z313) (h1 : z315 ≤ z313) (h2 : z313 < 147) (h3 : ¬ (z313 - z315) = p3) (h4 : p2 + p3 ≤ 1000) (h5 : 0 ≤ p2 ∧ p2 ≤ 1000) (h6 : 0 ≤ p3 ∧ p3 ≤ 1000) (h7 : 0 ≤ z313 ∧ z313 ≤ 146) (h8 : 0 ≤ z315 ∧ z315 ≤ 147) (h9 : 0 ≤ z316 ∧ z316 ≤ 147) : (z313 + 1) ≤ (z313 + 1) := by omega
theorem vc_X6_wordAt_14 {N p2 p3 z313 z315 z316 : Int} (h0 : (148 - z313) < N + 1) (h1 : z316 ≤ z313) (h2 : z315 ≤ z313) (h3 : z313 < 147) (h4 : ¬ (z313 - z315) = p3) (h5 : p2 + p3 ≤ 1000) (h6 : 0 ≤ p2 ∧ p2 ≤ 1000) (h7 : 0 ≤ p3 ∧ p3 ≤ 1000) (h8 : 0 ≤ z313 ∧ z313 ≤ 146) (h9 : 0 ≤ z315 ∧ z315 ≤ 147) (h10 : 0 ≤ z316 ∧ z316 ≤ 147) : (148 - (z313 + 1)) < N := by omega
theorem vc_X6_wordAt_15 {p2 p3 z313 z315 z316 : Int} (h0 : (z313 - z315) = p3) (h1 : p2 + p3 ≤ 1000) (h2 : z316 ≤ z313) (h3 : z315 ≤ z313) (h4 : z313 < 147) (h5 : 0 ≤ p2 ∧ p2 ≤ 1000) (h6 : 0 ≤ p3 ∧ p3 ≤ 1000) (h7 : 0 ≤ z313 ∧ z313 ≤ 146) (h8 : 0 ≤ z315 ∧ z315 ≤ 147) (h9 : 0 ≤ z316 ∧ z316 ≤ 147) : 0 ≤ z315 ∧ z315 ≤ 146 := by omega
theorem vc_X6_wordAt_16 {p2 p3 z313 z315 z316 : Int} (h0 : (z313 - z315) = p3) (h1 : p2 + p3 ≤ 1000) (h2 : z316 ≤ z313) (h3 : z315 ≤ z313) (h4 : z313 < 147) (h5 : 0 ≤ p2 ∧ p2 ≤ 1000) (h6 : 0 ≤ p3 ∧ p3 ≤ 1000) (h7 : 0 ≤ z313 ∧ z313 ≤ 146) (h8 : 0 ≤ z315 ∧ z315 ≤ 146) (h9 : 0 ≤ z316 ∧ z316 ≤ 147) : 0 ≤ p3 ∧ p3 ≤ 146 := by omega
theorem vc_X6_wordAt_17 {z313 z315 z316 : Int} (h0 : z316 ≤ z313) (h1 : z315 ≤ z313) (h2 : z313 < 147) (h3 : 0 ≤ z313 ∧ z313 ≤ 146) (h4 : 0 ≤ z315 ∧ z315 ≤ 147) (h5 : 0 ≤ z316 ∧ z316 ≤ 147) : z316 ≤ (z313 + 1) := by omega
theorem vc_X6_wordAt_18 {z313 z315 z316 : Int} (h0 : z316 ≤ z313) (h1 : z315 ≤ z313) (h2 : z313 < 147) (h3 : 0 ≤ z313 ∧ z313 ≤ 146) (h4 : 0 ≤ z315 ∧ z315 ≤ 147) (h5 : 0 ≤ z316 ∧ z316 ≤ 147) : z315 ≤ (z313 + 1) := by omega
theorem vc_X6_wordAt_19 {p2 p3 z313 z315 z316 : Int} (h0 : p3 ≤ (z313 - z315)) (h1 : p2 + p3 ≤ 1000) (h2 : z316 ≤ z313) (h3 : z315 ≤ z313) (h4 : z313 < 147) (h5 : 0 ≤ p2 ∧ p2 ≤ 1000) (h6 : 0 ≤ p3 ∧ p3 ≤ 1000) (h7 : 0 ≤ z313 ∧ z313 ≤ 146) (h8 : 0 ≤ z315 ∧ z315 ≤ 147) (h9 : 0 ≤ z316 ∧ z316 ≤ 147) : 0 ≤ z315 ∧ z315 ≤ 146 := by omega
theorem vc_X6_wordAt_20 {p2 p3 z313 z315 z316 : Int} (h0 : p3 ≤ (z313 - z315)) (h1 : p2 + p3 ≤ 1000) (h2 : z316 ≤ z313) (h3 : z315 ≤ z313) (h4 : z313 < 147) (h5 : 0 ≤ p2 ∧ p2 ≤ 1000) (h6 : 0 ≤ p3 ∧ p3 ≤ 1000) (h7 : 0 ≤ z313 ∧ z313 ≤ 146) (h8 : 0 ≤ z315 ∧ z315 ≤ 146) (h9 : 0 ≤ z316 ∧ z316 ≤ 147) : 0 ≤ p3 ∧ p3 ≤ 146 := by omega
theorem vc_X6_wordAt_21 {p2 p3 z313 z315 z316 : Int} (h0 : p2 + p3 ≤ 1000) (h1 : z316 ≤ z313) (h2 : z315 ≤ z313) (h3 : z313 < 147) (h4 : (z313 - z315) < p3) (h5 : 0 ≤ p2 ∧ p2 ≤ 1000) (h6 : 0 ≤ p3 ∧ p3 ≤ 1000) (h7 : 0 ≤ z313 ∧ z313 ≤ 146) (h8 : 0 ≤ z315 ∧ z315 ≤ 147) (h9 : 0 ≤ z316 ∧ z316 ≤ 147) : 0 ≤ ((p2 + z313) - z315) ∧ ((p2 + z313) - z315) < 1000 := by omega
theorem vc_X6_wordAt_22  : ((0 : Int) : Int) ≤ ((0 : Int) : Int) := by omega
theorem vc_X6_wordAt_23  : (148 - 0) < ((149 : Nat) : Int) := by omega
set_option maxRecDepth 4000 in
set_option maxHeartbeats 4000000 in
theorem c_X6_wordAt {l : Launch} {D : va_G} {c : Nat → ClassId} {H0 : Heap} {sa : Nat × Nat × (Nat → Int32)} {w : mW} {μ : mM} (hw : mWF w) (hT : mT w μ) (hA1 : mAt w 1 1) {p2 : Int} (hp2 : 0 ≤ p2 ∧ p2 ≤ 1000) {p3 : Int} (hp3 : 0 ≤ p3 ∧ p3 ≤ 1000) (hq0 : p2 + p3 ≤ 1000) : sC (gG l D c H0 sa) mX6_wordAt 8 0 0 [.ref 1, iv p2, iv p3] (mk w μ) (qP w μ (fun z => ((-3) ≤ z ∧ z ≤ 147) ∧ True)) := by
  refine sC.of rfl (by decide) (le_t rfl) ?_
  refine mr_lvE (lv' := [(0, .ref 1), (1, iv p2), (2, iv p3)]) rfl ?_
  refine mr_iconst (pc := 0) (z := 0) dX6_wordAt_0 ?_
  refine mr_istore_n (pc := 1) (lv' := [(3, iv 0), (0, .ref 1), (1, iv p2), (2, iv p3)]) dX6_wordAt_1 rfl (by decide) rfl ?_
  refine mr_iconst (pc := 2) (z := 0) dX6_wordAt_2 ?_
  refine mr_istore (pc := 3) (lv' := [(4, iv 0), (3, iv 0), (0, .ref 1), (1, iv p2), (2, iv p3)]) dX6_wordAt_3 (by decide) rfl ?_
  refine mr_iconst (pc := 5) (z := 1) dX6_wordAt_5 ?_
  refine mr_istore (pc := 6) (lv' := [(5, iv 1), (4, iv 0), (3, iv 0), (0, .ref 1), (1, iv p2), (2, iv p3)]) dX6_wordAt_6 (by decide) rfl ?_
  refine mr_iconst (pc := 8) (z := 0) dX6_wordAt_8 ?_
  refine mr_istore (pc := 9) (lv' := [(6, iv 0), (5, iv 1), (4, iv 0), (3, iv 0), (0, .ref 1), (1, iv p2), (2, iv p3)]) dX6_wordAt_9 (by decide) rfl ?_
  have L317 : ∀ (nL317 : Nat) (z316 z315 z314 z313 : Int), True → (0 ≤ z316 ∧ z316 ≤ 147) → (0 ≤ z315 ∧ z315 ≤ 147) → (0 ≤ z314 ∧ z314 ≤ 1) → (0 ≤ z313 ∧ z313 ≤ 147) → (z316 ≤ z313) → (z315 ≤ z313) → (148 - z313) < (nL317 : Int) → sV (gG l D c H0 sa) mX6_wordAt (sRm 8 0 0) (sZ (gG l D c H0 sa) 0 0 (qP w μ (fun z => ((-3) ≤ z ∧ z ≤ 147) ∧ True))) 11 [(0, .ref 1), (1, iv p2), (2, iv p3), (3, iv z316), (4, iv z315), (5, iv z314), (6, iv z313)] [] (mk w μ) 0 0 := by
    intro nL317
    induction nL317 with
    | zero => intro z316 z315 z314 z313 _ h318 h319 h320 h321 h325 h326 h327; exact ((vc_X6_wordAt_1 h327 h325 h326 h321 h319 h318)).elim
    | succ nL317 ih328 =>
      intro z316 z315 z314 z313 _ h318 h319 h320 h321 h325 h326 h327
      refine mr_iload (pc := 11) (z := z313) dX6_wordAt_11 rfl ?_
      refine mr_strlen (pc := 13) dX6_wordAt_13 dX6_wordAt_15 rfl ⟨le_t rfl, le_t rfl⟩ ⟨le_t rfl, le_t rfl⟩ (le_t rfl) ?_
      refine mr_icmp_ge (pc := 18) (tgt := 109) dX6_wordAt_18 (by decide) (r32 h321 rfl) (r32 (rR (x := 147)) rfl) (fun h329 => ?_) (fun h329 => ?_)
      · have h330 : 147 ≤ z313 ∧ z313 ≤ 147 := (vc_X6_wordAt_2 h329 h325 h326 h321 h319 h318)
        refine mr_bipush (pc := 109) (z := (-3)) dX6_wordAt_109 (by decide) ?_
        exact mr_iretP dX6_wordAt_111 rfl (le_t rfl) (le_t rfl) ⟨(rW (c := (-3)) (d := 147) (rR (x := (-3))) rfl), trivial⟩
      have h331 : 0 ≤ z313 ∧ z313 ≤ 146 := (vc_X6_wordAt_3 h329 h325 h326 h321 h319 h318)
      refine mr_strchr (pc := 21) (x := z313) dX6_wordAt_21 dX6_wordAt_23 dX6_wordAt_25 rfl rfl h331 ⟨le_t rfl, le_t rfl⟩ ⟨le_t rfl, le_t rfl⟩ (le_t rfl) fun z332 h333 => ?_
      refine mr_istore (pc := 28) (lv' := [(7, iv z332), (0, .ref 1), (1, iv p2), (2, iv p3), (3, iv z316), (4, iv z315), (5, iv z314), (6, iv z313)]) dX6_wordAt_28 (by decide) rfl ?_
      refine mr_iload (pc := 30) (z := z332) dX6_wordAt_30 rfl ?_
      refine mr_bipush (pc := 32) (z := 32) dX6_wordAt_32 (by decide) ?_
      refine mr_icmp_eq (pc := 34) (tgt := 75) dX6_wordAt_34 (by decide) (r32 h333 rfl) (r32 (rR (x := 32)) rfl) (fun h334 => ?_) (fun h334 => ?_)
      · have h335 : 32 ≤ z332 ∧ z332 ≤ 32 := (vc_X6_wordAt_4 h334 h333)
        refine mr_iload (pc := 75) (z := z314) dX6_wordAt_75 rfl ?_
        refine mr_if_eq (pc := 77) (tgt := 91) dX6_wordAt_77 (by decide) (r32 h320 rfl) (fun h336 => ?_) (fun h336 => ?_)
        · have h337 : 0 ≤ z314 ∧ z314 ≤ 0 := (vc_X6_wordAt_5 h336 h320)
          refine mr_iinc (pc := 91) (lv' := [(3, iv (z316 + 1)), (7, iv z332), (0, .ref 1), (1, iv p2), (2, iv p3), (4, iv z315), (5, iv z314), (6, iv z313)]) dX6_wordAt_91 rfl (by decide) rfl ?_
          refine mr_iload (pc := 94) (z := z313) dX6_wordAt_94 rfl ?_
          refine mr_iconst (pc := 96) (z := 1) dX6_wordAt_96 ?_
          refine mr_iadd (pc := 97) (x := z313) (y := 1) dX6_wordAt_97 ?_
          refine mr_istore (pc := 98) (lv' := [(4, iv (z313 + 1)), (3, iv (z316 + 1)), (7, iv z332), (0, .ref 1), (1, iv p2), (2, iv p3), (5, iv z314), (6, iv z313)]) dX6_wordAt_98 (by decide) rfl ?_
          refine mr_iconst (pc := 100) (z := 1) dX6_wordAt_100 ?_
          refine mr_istore (pc := 101) (lv' := [(5, iv 1), (4, iv (z313 + 1)), (3, iv (z316 + 1)), (7, iv z332), (0, .ref 1), (1, iv p2), (2, iv p3), (6, iv z313)]) dX6_wordAt_101 (by decide) rfl ?_
          refine mr_iinc (pc := 103) (lv' := [(6, iv (z313 + 1)), (5, iv 1), (4, iv (z313 + 1)), (3, iv (z316 + 1)), (7, iv z332), (0, .ref 1), (1, iv p2), (2, iv p3)]) dX6_wordAt_103 rfl (by decide) rfl ?_
          refine sv_goto (pc := 106) (tgt := 11) dX6_wordAt_106 (by decide) ?_
          refine mr_lvS (lv' := [(0, .ref 1), (1, iv p2), (2, iv p3), (3, iv (z316 + 1)), (4, iv (z313 + 1)), (5, iv 1), (6, iv (z313 + 1))]) (List.forall_mem_cons.mpr ⟨rfl, List.forall_mem_cons.mpr ⟨rfl, List.forall_mem_cons.mpr ⟨rfl, List.forall_mem_cons.mpr ⟨rfl, List.forall_mem_cons.mpr ⟨rfl, List.forall_mem_cons.mpr ⟨rfl, List.forall_mem_cons.mpr ⟨rfl, fun _ h => absurd h List.not_mem_nil⟩⟩⟩⟩⟩⟩⟩) ?_
          exact ih328 (z316 + 1) (z313 + 1) 1 (z313 + 1) trivial (vc_X6_wordAt_6 h325 h326 h329 h331 h319 h318) (rW (c := 0) (d := 147) (rAdd (e := 1) (f := 147) h331 (rR (x := 1)) rfl) rfl) (rW (c := 0) (d := 1) (rR (x := 1)) rfl) (rW (c := 0) (d := 147) (rAdd (e := 1) (f := 147) h331 (rR (x := 1)) rfl) rfl) (vc_X6_wordAt_7 h325 h326 h329 h331 h319 h318) (vc_X6_wordAt_8 h325 h326 h329 h331 h319 h318) (vc_X6_wordAt_9 (nS h327) h325 h326 h329 h331 h319 h318)
        have h338 : 1 ≤ z314 ∧ z314 ≤ 1 := (vc_X6_wordAt_10 h336 h320)
        refine mr_iload (pc := 80) (z := z313) dX6_wordAt_80 rfl ?_
        refine mr_iload (pc := 82) (z := z315) dX6_wordAt_82 rfl ?_
        refine mr_isub (pc := 84) (x := z313) (y := z315) dX6_wordAt_84 ?_
        refine mr_iload_n (pc := 85) (z := p3) dX6_wordAt_85 rfl rfl ?_
        refine mr_icmp_ne (pc := 86) (tgt := 91) dX6_wordAt_86 (by decide) (r32 (rSub (e := (-147)) (f := 146) h331 h319 rfl) rfl) (r32 hp3 rfl) (fun h339 => ?_) (fun h339 => ?_)
        · refine mr_iinc (pc := 91) (lv' := [(3, iv (z316 + 1)), (7, iv z332), (0, .ref 1), (1, iv p2), (2, iv p3), (4, iv z315), (5, iv z314), (6, iv z313)]) dX6_wordAt_91 rfl (by decide) rfl ?_
          refine mr_iload (pc := 94) (z := z313) dX6_wordAt_94 rfl ?_
          refine mr_iconst (pc := 96) (z := 1) dX6_wordAt_96 ?_
          refine mr_iadd (pc := 97) (x := z313) (y := 1) dX6_wordAt_97 ?_
          refine mr_istore (pc := 98) (lv' := [(4, iv (z313 + 1)), (3, iv (z316 + 1)), (7, iv z332), (0, .ref 1), (1, iv p2), (2, iv p3), (5, iv z314), (6, iv z313)]) dX6_wordAt_98 (by decide) rfl ?_
          refine mr_iconst (pc := 100) (z := 1) dX6_wordAt_100 ?_
          refine mr_istore (pc := 101) (lv' := [(5, iv 1), (4, iv (z313 + 1)), (3, iv (z316 + 1)), (7, iv z332), (0, .ref 1), (1, iv p2), (2, iv p3), (6, iv z313)]) dX6_wordAt_101 (by decide) rfl ?_
          refine mr_iinc (pc := 103) (lv' := [(6, iv (z313 + 1)), (5, iv 1), (4, iv (z313 + 1)), (3, iv (z316 + 1)), (7, iv z332), (0, .ref 1), (1, iv p2), (2, iv p3)]) dX6_wordAt_103 rfl (by decide) rfl ?_
          refine sv_goto (pc := 106) (tgt := 11) dX6_wordAt_106 (by decide) ?_
          refine mr_lvS (lv' := [(0, .ref 1), (1, iv p2), (2, iv p3), (3, iv (z316 + 1)), (4, iv (z313 + 1)), (5, iv 1), (6, iv (z313 + 1))]) (List.forall_mem_cons.mpr ⟨rfl, List.forall_mem_cons.mpr ⟨rfl, List.forall_mem_cons.mpr ⟨rfl, List.forall_mem_cons.mpr ⟨rfl, List.forall_mem_cons.mpr ⟨rfl, List.forall_mem_cons.mpr ⟨rfl, List.forall_mem_cons.mpr ⟨rfl, fun _ h => absurd h List.not_mem_nil⟩⟩⟩⟩⟩⟩⟩) ?_
          exact ih328 (z316 + 1) (z313 + 1) 1 (z313 + 1) trivial (vc_X6_wordAt_11 h325 h326 h329 h339 hp3 h331 h319 h318) (rW (c := 0) (d := 147) (rAdd (e := 1) (f := 147) h331 (rR (x := 1)) rfl) rfl) (rW (c := 0) (d := 1) (rR (x := 1)) rfl) (rW (c := 0) (d := 147) (rAdd (e := 1) (f := 147) h331 (rR (x := 1)) rfl) rfl) (vc_X6_wordAt_12 h325 h326 h329 h339 hq0 hp2 hp3 h331 h319 h318) (vc_X6_wordAt_13 h325 h326 h329 h339 hq0 hp2 hp3 h331 h319 h318) (vc_X6_wordAt_14 (nS h327) h325 h326 h329 h339 hq0 hp2 hp3 h331 h319 h318)
        have h340 : 0 ≤ z315 ∧ z315 ≤ 146 := (vc_X6_wordAt_15 h339 hq0 h325 h326 h329 hp2 hp3 h331 h319 h318)
        have h341 : 0 ≤ p3 ∧ p3 ≤ 146 := (vc_X6_wordAt_16 h339 hq0 h325 h326 h329 hp2 hp3 h331 h340 h318)
        refine mr_iload_n (pc := 89) (z := z316) dX6_wordAt_89 rfl rfl ?_
        exact mr_iretP dX6_wordAt_90 rfl (le_t rfl) (le_t rfl) ⟨(rW (c := (-3)) (d := 147) h318 rfl), trivial⟩
      refine mr_iload (pc := 37) (z := z314) dX6_wordAt_37 rfl ?_
      have J351 : ∀ (z349 : Int), ((0 ≤ z349 ∧ z349 ≤ 1)) → sV (gG l D c H0 sa) mX6_wordAt (sRm 8 0 0) (sZ (gG l D c H0 sa) 0 0 (qP w μ (fun z => ((-3) ≤ z ∧ z ≤ 147) ∧ True))) 70 [(0, .ref 1), (1, iv p2), (2, iv p3), (3, iv z316), (4, iv z315), (6, iv z313)] [iv z349] (mk w μ) 0 0 := by
        intro z349 h350
        refine mr_istore (pc := 70) (lv' := [(5, iv z349), (0, .ref 1), (1, iv p2), (2, iv p3), (3, iv z316), (4, iv z315), (6, iv z313)]) dX6_wordAt_70 (by decide) rfl ?_
        refine sv_goto (pc := 72) (tgt := 103) dX6_wordAt_72 (by decide) ?_
        refine mr_iinc (pc := 103) (lv' := [(6, iv (z313 + 1)), (5, iv z349), (0, .ref 1), (1, iv p2), (2, iv p3), (3, iv z316), (4, iv z315)]) dX6_wordAt_103 rfl (by decide) rfl ?_
        refine sv_goto (pc := 106) (tgt := 11) dX6_wordAt_106 (by decide) ?_
        refine mr_lvS (lv' := [(0, .ref 1), (1, iv p2), (2, iv p3), (3, iv z316), (4, iv z315), (5, iv z349), (6, iv (z313 + 1))]) (List.forall_mem_cons.mpr ⟨rfl, List.forall_mem_cons.mpr ⟨rfl, List.forall_mem_cons.mpr ⟨rfl, List.forall_mem_cons.mpr ⟨rfl, List.forall_mem_cons.mpr ⟨rfl, List.forall_mem_cons.mpr ⟨rfl, List.forall_mem_cons.mpr ⟨rfl, fun _ h => absurd h List.not_mem_nil⟩⟩⟩⟩⟩⟩⟩) ?_
        exact ih328 z316 z315 z349 (z313 + 1) trivial h318 h319 h350 (rW (c := 0) (d := 147) (rAdd (e := 1) (f := 147) h331 (rR (x := 1)) rfl) rfl) (vc_X6_wordAt_17 h325 h326 h329 h331 h319 h318) (vc_X6_wordAt_18 h325 h326 h329 h331 h319 h318) (vc_X6_wordAt_9 (nS h327) h325 h326 h329 h331 h319 h318)
      refine mr_if_eq (pc := 39) (tgt := 69) dX6_wordAt_39 (by decide) (r32 h320 rfl) (fun h352 => ?_) (fun h352 => ?_)
      · have h353 : 0 ≤ z314 ∧ z314 ≤ 0 := (vc_X6_wordAt_5 h352 h320)
        refine mr_iconst (pc := 69) (z := 0) dX6_wordAt_69 ?_
        refine mr_lvS (lv' := [(0, .ref 1), (1, iv p2), (2, iv p3), (3, iv z316), (4, iv z315), (6, iv z313)]) (List.forall_mem_cons.mpr ⟨rfl, List.forall_mem_cons.mpr ⟨rfl, List.forall_mem_cons.mpr ⟨rfl, List.forall_mem_cons.mpr ⟨rfl, List.forall_mem_cons.mpr ⟨rfl, List.forall_mem_cons.mpr ⟨rfl, fun _ h => absurd h List.not_mem_nil⟩⟩⟩⟩⟩⟩) ?_
        exact J351 0 (rW (c := 0) (d := 1) (rR (x := 0)) rfl)
      have h354 : 1 ≤ z314 ∧ z314 ≤ 1 := (vc_X6_wordAt_10 h352 h320)
      refine mr_iload (pc := 42) (z := z313) dX6_wordAt_42 rfl ?_
      refine mr_iload (pc := 44) (z := z315) dX6_wordAt_44 rfl ?_
      refine mr_isub (pc := 46) (x := z313) (y := z315) dX6_wordAt_46 ?_
      refine mr_iload_n (pc := 47) (z := p3) dX6_wordAt_47 rfl rfl ?_
      refine mr_icmp_ge (pc := 48) (tgt := 69) dX6_wordAt_48 (by decide) (r32 (rSub (e := (-147)) (f := 146) h331 h319 rfl) rfl) (r32 hp3 rfl) (fun h355 => ?_) (fun h355 => ?_)
      · have h356 : 0 ≤ z315 ∧ z315 ≤ 146 := (vc_X6_wordAt_19 h355 hq0 h325 h326 h329 hp2 hp3 h331 h319 h318)
        have h357 : 0 ≤ p3 ∧ p3 ≤ 146 := (vc_X6_wordAt_20 h355 hq0 h325 h326 h329 hp2 hp3 h331 h356 h318)
        refine mr_iconst (pc := 69) (z := 0) dX6_wordAt_69 ?_
        refine mr_lvS (lv' := [(0, .ref 1), (1, iv p2), (2, iv p3), (3, iv z316), (4, iv z315), (6, iv z313)]) (List.forall_mem_cons.mpr ⟨rfl, List.forall_mem_cons.mpr ⟨rfl, List.forall_mem_cons.mpr ⟨rfl, List.forall_mem_cons.mpr ⟨rfl, List.forall_mem_cons.mpr ⟨rfl, List.forall_mem_cons.mpr ⟨rfl, fun _ h => absurd h List.not_mem_nil⟩⟩⟩⟩⟩⟩) ?_
        exact J351 0 (rW (c := 0) (d := 1) (rR (x := 0)) rfl)
      refine sv_aload_n (pc := 51) dX6_wordAt_51 rfl rfl ?_
      refine mr_iload_n (pc := 52) (z := p2) dX6_wordAt_52 rfl rfl ?_
      refine mr_iload (pc := 53) (z := z313) dX6_wordAt_53 rfl ?_
      refine mr_iadd (pc := 55) (x := p2) (y := z313) dX6_wordAt_55 ?_
      refine mr_iload (pc := 56) (z := z315) dX6_wordAt_56 rfl ?_
      refine mr_isub (pc := 58) (x := (p2 + z313)) (y := z315) dX6_wordAt_58 ?_
      refine la_1 (pc := 59) dX6_wordAt_59 (A_1 hw) hT (vc_X6_wordAt_21 hq0 h325 h326 h329 h355 hp2 hp3 h331 h319 h318) fun z358 q359 h360 => ?_
      refine mr_iload (pc := 60) (z := z332) dX6_wordAt_60 rfl ?_
      refine mr_icmp_ne (pc := 62) (tgt := 69) dX6_wordAt_62 (by decide) (r32 h360 rfl) (r32 h333 rfl) (fun h361 => ?_) (fun h361 => ?_)
      · refine mr_iconst (pc := 69) (z := 0) dX6_wordAt_69 ?_
        refine mr_lvS (lv' := [(0, .ref 1), (1, iv p2), (2, iv p3), (3, iv z316), (4, iv z315), (6, iv z313)]) (List.forall_mem_cons.mpr ⟨rfl, List.forall_mem_cons.mpr ⟨rfl, List.forall_mem_cons.mpr ⟨rfl, List.forall_mem_cons.mpr ⟨rfl, List.forall_mem_cons.mpr ⟨rfl, List.forall_mem_cons.mpr ⟨rfl, fun _ h => absurd h List.not_mem_nil⟩⟩⟩⟩⟩⟩) ?_
        exact J351 0 (rW (c := 0) (d := 1) (rR (x := 0)) rfl)
      refine mr_iconst (pc := 65) (z := 1) dX6_wordAt_65 ?_
      refine sv_goto (pc := 66) (tgt := 70) dX6_wordAt_66 (by decide) ?_
      refine mr_lvS (lv' := [(0, .ref 1), (1, iv p2), (2, iv p3), (3, iv z316), (4, iv z315), (6, iv z313)]) (List.forall_mem_cons.mpr ⟨rfl, List.forall_mem_cons.mpr ⟨rfl, List.forall_mem_cons.mpr ⟨rfl, List.forall_mem_cons.mpr ⟨rfl, List.forall_mem_cons.mpr ⟨rfl, List.forall_mem_cons.mpr ⟨rfl, fun _ h => absurd h List.not_mem_nil⟩⟩⟩⟩⟩⟩) ?_
      exact J351 1 (rW (c := 0) (d := 1) (rR (x := 1)) rfl)
  refine mr_lvS (lv' := [(0, .ref 1), (1, iv p2), (2, iv p3), (3, iv 0), (4, iv 0), (5, iv 1), (6, iv 0)]) (List.forall_mem_cons.mpr ⟨rfl, List.forall_mem_cons.mpr ⟨rfl, List.forall_mem_cons.mpr ⟨rfl, List.forall_mem_cons.mpr ⟨rfl, List.forall_mem_cons.mpr ⟨rfl, List.forall_mem_cons.mpr ⟨rfl, List.forall_mem_cons.mpr ⟨rfl, fun _ h => absurd h List.not_mem_nil⟩⟩⟩⟩⟩⟩⟩) ?_
  exact L317 149 0 0 1 0 trivial (rW (c := 0) (d := 147) (rR (x := 0)) rfl) (rW (c := 0) (d := 147) (rR (x := 0)) rfl) (rW (c := 0) (d := 1) (rR (x := 1)) rfl) (rW (c := 0) (d := 147) (rR (x := 0)) rfl) vc_X6_wordAt_22 vc_X6_wordAt_22 vc_X6_wordAt_23
theorem vc_X6_putNumber_1 {z75 : Int} (h0 : (1001 - z75) < ((0 : Nat) : Int)) (h1 : 0 ≤ z75 ∧ z75 ≤ 1000) : False := by omega
theorem vc_X6_putNumber_2 {p2 p3 z75 : Int} (h0 : z75 < p3) (h1 : (p3 - p2) ≤ 9) (h2 : 0 ≤ p2 ∧ p2 ≤ 1000) (h3 : 0 ≤ p3 ∧ p3 ≤ 1000) (h4 : 0 ≤ z75 ∧ z75 ≤ 1000) : 0 ≤ z75 ∧ z75 ≤ 999 := by omega
theorem vc_X6_putNumber_3 {p2 p3 z75 : Int} (h0 : z75 < p3) (h1 : (p3 - p2) ≤ 9) (h2 : 0 ≤ p2 ∧ p2 ≤ 1000) (h3 : 0 ≤ p3 ∧ p3 ≤ 1000) (h4 : 0 ≤ z75 ∧ z75 ≤ 999) : 1 ≤ p3 ∧ p3 ≤ 1000 := by omega
theorem vc_X6_putNumber_4 {N p2 p3 z75 : Int} (h0 : (1001 - z75) < N + 1) (h1 : z75 < p3) (h2 : (p3 - p2) ≤ 9) (h3 : 0 ≤ p2 ∧ p2 ≤ 1000) (h4 : 1 ≤ p3 ∧ p3 ≤ 1000) (h5 : 0 ≤ z75 ∧ z75 ≤ 999) : (1001 - (z75 + 1)) < N := by omega
theorem vc_X6_putNumber_5 {p2 p3 : Int} (h0 : (p3 - p2) ≤ 9) (h1 : 0 ≤ p2 ∧ p2 ≤ 1000) (h2 : 0 ≤ p3 ∧ p3 ≤ 1000) : (1001 - p2) < ((1002 : Nat) : Int) := by omega
theorem vc_X6_putNumber_6 {p2 p3 : Int} (h0 : 9 < (p3 - p2)) (h1 : 0 ≤ p2 ∧ p2 ≤ 1000) (h2 : 0 ≤ p3 ∧ p3 ≤ 1000) : 10 ≤ p3 ∧ p3 ≤ 1000 := by omega
theorem vc_X6_putNumber_7 {p2 p3 : Int} (h0 : 9 < (p3 - p2)) (h1 : 0 ≤ p2 ∧ p2 ≤ 1000) (h2 : 10 ≤ p3 ∧ p3 ≤ 1000) : 0 ≤ p2 ∧ p2 ≤ 990 := by omega
set_option maxRecDepth 4000 in
set_option maxHeartbeats 4000000 in
theorem c_X6_putNumber {l : Launch} {D : va_G} {c : Nat → ClassId} {H0 : Heap} {sa : Nat × Nat × (Nat → Int32)} {w : mW} {μ : mM} (hw : mWF w) (hT : mT w μ) (hA1 : mAt w 1 1) {p2 : Int} (hp2 : 0 ≤ p2 ∧ p2 ≤ 1000) {p3 : Int} (hp3 : 0 ≤ p3 ∧ p3 ≤ 1000) : sC (gG l D c H0 sa) mX6_putNumber 2 0 0 [.ref 23, .ref 1, iv p2, iv p3] (mk w μ) (qV w [23008, 24999, 25999, 26999] μ (fun μ1 => True)) := by
  refine sC.of rfl (by decide) (le_t rfl) ?_
  refine mr_lvE (lv' := [(0, .ref 23), (1, .ref 1), (2, iv p2), (3, iv p3)]) rfl ?_
  refine mr_iload_n (pc := 0) (z := p3) dX6_putNumber_0 rfl rfl ?_
  refine mr_iload_n (pc := 1) (z := p2) dX6_putNumber_1 rfl rfl ?_
  refine mr_isub (pc := 2) (x := p3) (y := p2) dX6_putNumber_2 ?_
  refine mr_bipush (pc := 3) (z := 9) dX6_putNumber_3 (by decide) ?_
  refine mr_icmp_le (pc := 5) (tgt := 17) dX6_putNumber_5 (by decide) (r32 (rSub (e := (-1000)) (f := 1000) hp3 hp2 rfl) rfl) (r32 (rR (x := 9)) rfl) (fun h1 => ?_) (fun h1 => ?_)
  · refine mr_iconst (pc := 17) (z := 0) dX6_putNumber_17 ?_
    refine mr_istore (pc := 18) (lv' := [(4, iv 0), (0, .ref 23), (1, .ref 1), (2, iv p2), (3, iv p3)]) dX6_putNumber_18 (by decide) rfl ?_
    refine mr_iload_n (pc := 20) (z := p2) dX6_putNumber_20 rfl rfl ?_
    refine mr_istore (pc := 21) (lv' := [(5, iv p2), (4, iv 0), (0, .ref 23), (1, .ref 1), (2, iv p2), (3, iv p3)]) dX6_putNumber_21 (by decide) rfl ?_
    have L77 : ∀ (nL77 : Nat) (z76 z75 : Int), True → ((-2147483648) ≤ z76 ∧ z76 ≤ 2147483647) → (0 ≤ z75 ∧ z75 ≤ 1000) → (1001 - z75) < (nL77 : Int) → sV (gG l D c H0 sa) mX6_putNumber (sRm 2 0 0) (sZ (gG l D c H0 sa) 0 0 (qV w [23008, 24999, 25999, 26999] μ (fun μ1 => True))) 23 [(0, .ref 23), (1, .ref 1), (2, iv p2), (3, iv p3), (4, iv z76), (5, iv z75)] [] (mk w μ) 0 0 := by
      intro nL77
      induction nL77 with
      | zero => intro z76 z75 _ h78 h79 h83; exact ((vc_X6_putNumber_1 h83 h79)).elim
      | succ nL77 ih84 =>
        intro z76 z75 _ h78 h79 h83
        refine mr_iload (pc := 23) (z := z75) dX6_putNumber_23 rfl ?_
        refine mr_iload_n (pc := 25) (z := p3) dX6_putNumber_25 rfl rfl ?_
        refine mr_icmp_ge (pc := 26) (tgt := 50) dX6_putNumber_26 (by decide) (r32 h79 rfl) (r32 hp3 rfl) (fun h96 => ?_) (fun h96 => ?_)
        · refine sv_aload_n (pc := 50) dX6_putNumber_50 rfl rfl ?_
          refine mr_bipush (pc := 51) (z := (-2)) dX6_putNumber_51 (by decide) ?_
          refine mr_iload (pc := 53) (z := z76) dX6_putNumber_53 rfl ?_
          refine mr_iload_n (pc := 55) (z := p2) dX6_putNumber_55 rfl rfl ?_
          refine mr_cVV (pc := 56) (c_X6_putToken hw hT (rW (c := (-2147483648)) (d := 2147483647) (rR (x := (-2))) rfl) h78 hp2) (gOk _ _ _ _ _) dX6_putNumber_56 (tX6_putToken _ _ _ _ _) ⟨wV_X6_putToken, wL_X6_putToken⟩ wM_X6_94 (gCX6 _ _ _ _ _) rfl (A_23 hw) rfl ⟨le_t rfl, le_t rfl⟩ ⟨le_t rfl, le_t rfl⟩ rfl (le_t rfl) fun μ97 T98 F99 h100 => ?_
          exact mr_vret dX6_putNumber_59 rfl (le_t rfl) (le_t rfl) T98 (mF.call mF.refl F99 rfl) trivial
        have h101 : 0 ≤ z75 ∧ z75 ≤ 999 := (vc_X6_putNumber_2 h96 h1 hp2 hp3 h79)
        have h102 : 1 ≤ p3 ∧ p3 ≤ 1000 := (vc_X6_putNumber_3 h96 h1 hp2 hp3 h101)
        refine mr_iload (pc := 29) (z := z76) dX6_putNumber_29 rfl ?_
        refine mr_bipush (pc := 31) (z := 10) dX6_putNumber_31 (by decide) ?_
        refine mr_imul (pc := 33) (x := z76) (y := 10) dX6_putNumber_33 ?_
        refine mr_wrap fun z103 h104 => ?_
        refine sv_aload_n (pc := 34) dX6_putNumber_34 rfl rfl ?_
        refine mr_iload (pc := 35) (z := z75) dX6_putNumber_35 rfl ?_
        refine la_1 (pc := 37) dX6_putNumber_37 (A_1 hw) hT (rIx (n := 1000) h101 rfl) fun z105 q106 h107 => ?_
        refine mr_iadd (pc := 38) (x := z103) (y := z105) dX6_putNumber_38 ?_
        refine mr_wrap fun z108 h109 => ?_
        refine mr_bipush (pc := 39) (z := 48) dX6_putNumber_39 (by decide) ?_
        refine mr_isub (pc := 41) (x := z108) (y := 48) dX6_putNumber_41 ?_
        refine mr_wrap fun z110 h111 => ?_
        refine mr_istore (pc := 42) (lv' := [(4, iv z110), (0, .ref 23), (1, .ref 1), (2, iv p2), (3, iv p3), (5, iv z75)]) dX6_putNumber_42 (by decide) rfl ?_
        refine mr_iinc (pc := 44) (lv' := [(5, iv (z75 + 1)), (4, iv z110), (0, .ref 23), (1, .ref 1), (2, iv p2), (3, iv p3)]) dX6_putNumber_44 rfl (by decide) rfl ?_
        refine sv_goto (pc := 47) (tgt := 23) dX6_putNumber_47 (by decide) ?_
        refine mr_lvS (lv' := [(0, .ref 23), (1, .ref 1), (2, iv p2), (3, iv p3), (4, iv z110), (5, iv (z75 + 1))]) (List.forall_mem_cons.mpr ⟨rfl, List.forall_mem_cons.mpr ⟨rfl, List.forall_mem_cons.mpr ⟨rfl, List.forall_mem_cons.mpr ⟨rfl, List.forall_mem_cons.mpr ⟨rfl, List.forall_mem_cons.mpr ⟨rfl, fun _ h => absurd h List.not_mem_nil⟩⟩⟩⟩⟩⟩) ?_
        exact ih84 z110 (z75 + 1) trivial h111 (rW (c := 0) (d := 1000) (rAdd (e := 1) (f := 1000) h101 (rR (x := 1)) rfl) rfl) (vc_X6_putNumber_4 (nS h83) h96 h1 hp2 h102 h101)
    refine mr_lvS (lv' := [(0, .ref 23), (1, .ref 1), (2, iv p2), (3, iv p3), (4, iv 0), (5, iv p2)]) (List.forall_mem_cons.mpr ⟨rfl, List.forall_mem_cons.mpr ⟨rfl, List.forall_mem_cons.mpr ⟨rfl, List.forall_mem_cons.mpr ⟨rfl, List.forall_mem_cons.mpr ⟨rfl, List.forall_mem_cons.mpr ⟨rfl, fun _ h => absurd h List.not_mem_nil⟩⟩⟩⟩⟩⟩) ?_
    exact L77 1002 0 p2 trivial (rW (c := (-2147483648)) (d := 2147483647) (rR (x := 0)) rfl) hp2 (vc_X6_putNumber_5 h1 hp2 hp3)
  have h112 : 10 ≤ p3 ∧ p3 ≤ 1000 := (vc_X6_putNumber_6 h1 hp2 hp3)
  have h113 : 0 ≤ p2 ∧ p2 ≤ 990 := (vc_X6_putNumber_7 h1 hp2 h112)
  refine sv_aload_n (pc := 8) dX6_putNumber_8 rfl rfl ?_
  refine mr_bipush (pc := 9) (z := (-3)) dX6_putNumber_9 (by decide) ?_
  refine mr_iconst (pc := 11) (z := 0) dX6_putNumber_11 ?_
  refine mr_iload_n (pc := 12) (z := p2) dX6_putNumber_12 rfl rfl ?_
  refine mr_cVV (pc := 13) (c_X6_putToken hw hT (rW (c := (-2147483648)) (d := 2147483647) (rR (x := (-3))) rfl) (rW (c := (-2147483648)) (d := 2147483647) (rR (x := 0)) rfl) (rW (c := 0) (d := 1000) h113 rfl)) (gOk _ _ _ _ _) dX6_putNumber_13 (tX6_putToken _ _ _ _ _) ⟨wV_X6_putToken, wL_X6_putToken⟩ wM_X6_94 (gCX6 _ _ _ _ _) rfl (A_23 hw) rfl ⟨le_t rfl, le_t rfl⟩ ⟨le_t rfl, le_t rfl⟩ rfl (le_t rfl) fun μ114 T115 F116 h117 => ?_
  exact mr_vret dX6_putNumber_16 rfl (le_t rfl) (le_t rfl) T115 (mF.call mF.refl F116 rfl) trivial
theorem vc_X6_split_1 {z394 : Int} (h0 : (1001 - z394) < ((0 : Nat) : Int)) (h1 : 0 ≤ z394 ∧ z394 ≤ 1000) : False := by omega
theorem vc_X6_split_2 {p2 z394 : Int} (h0 : z394 < p2) (h1 : 0 ≤ p2 ∧ p2 ≤ 1000) (h2 : 0 ≤ z394 ∧ z394 ≤ 1000) : 0 ≤ z394 ∧ z394 ≤ 999 := by omega
theorem vc_X6_split_3 {p2 z394 : Int} (h0 : z394 < p2) (h1 : 0 ≤ p2 ∧ p2 ≤ 1000) (h2 : 0 ≤ z394 ∧ z394 ≤ 999) : 1 ≤ p2 ∧ p2 ≤ 1000 := by omega
theorem vc_X6_split_4 {z541 : Int} (h0 : z541 = 0) (h1 : 0 ≤ z541 ∧ z541 ≤ 1) : 0 ≤ z541 ∧ z541 ≤ 0 := by omega
theorem vc_X6_split_5 {z548 : Int} (h0 : z548 = 0) (h1 : 0 ≤ z548 ∧ z548 ≤ 1) : 0 ≤ z548 ∧ z548 ≤ 0 := by omega
theorem vc_X6_split_6 {z534 : Int} (h0 : z534 = 32) (h1 : 0 ≤ z534 ∧ z534 ≤ 255) : 32 ≤ z534 ∧ z534 ≤ 32 := by omega
theorem vc_X6_split_7 {N p2 z394 : Int} (h0 : (1001 - z394) < N + 1) (h1 : z394 < p2) (h2 : 1 ≤ p2 ∧ p2 ≤ 1000) (h3 : 0 ≤ z394 ∧ z394 ≤ 999) : (1001 - (z394 + 1)) < N := by omega
theorem vc_X6_split_8 {z534 : Int} (h0 : z534 = 10) (h1 : ¬ z534 = 32) (h2 : 0 ≤ z534 ∧ z534 ≤ 255) : 10 ≤ z534 ∧ z534 ≤ 10 := by omega
theorem vc_X6_split_9 {z548 : Int} (h0 : ¬ z548 = 0) (h1 : 0 ≤ z548 ∧ z548 ≤ 1) : 1 ≤ z548 ∧ z548 ≤ 1 := by omega
theorem vc_X6_split_10 {p2 z394 z606 : Int} (h0 : (1001 - z606) < ((0 : Nat) : Int)) (h1 : z606 ≤ p2) (h2 : z394 < z606) (h3 : z394 < p2) (h4 : 1 ≤ p2 ∧ p2 ≤ 1000) (h5 : 0 ≤ z394 ∧ z394 ≤ 999) (h6 : 1 ≤ z606 ∧ z606 ≤ 1000) : False := by omega
theorem vc_X6_split_11 {N p2 z394 z606 : Int} (h0 : (1001 - z394) < N + 1) (h1 : z394 < p2) (h2 : z606 ≤ p2) (h3 : z394 < z606) (h4 : p2 ≤ z606) (h5 : 1 ≤ p2 ∧ p2 ≤ 1000) (h6 : 0 ≤ z394 ∧ z394 ≤ 999) (h7 : 1 ≤ z606 ∧ z606 ≤ 1000) : (1001 - z606) < N := by omega
theorem vc_X6_split_12 {p2 z394 z606 : Int} (h0 : z606 < p2) (h1 : z394 < p2) (h2 : z606 ≤ p2) (h3 : z394 < z606) (h4 : 1 ≤ p2 ∧ p2 ≤ 1000) (h5 : 0 ≤ z394 ∧ z394 ≤ 999) (h6 : 1 ≤ z606 ∧ z606 ≤ 1000) : 1 ≤ z606 ∧ z606 ≤ 999 := by omega
theorem vc_X6_split_13 {p2 z394 z606 : Int} (h0 : z606 < p2) (h1 : z394 < p2) (h2 : z606 ≤ p2) (h3 : z394 < z606) (h4 : 1 ≤ p2 ∧ p2 ≤ 1000) (h5 : 0 ≤ z394 ∧ z394 ≤ 999) (h6 : 1 ≤ z606 ∧ z606 ≤ 999) : 2 ≤ p2 ∧ p2 ≤ 1000 := by omega
theorem vc_X6_split_14 {z642 : Int} (h0 : z642 = 0) (h1 : 0 ≤ z642 ∧ z642 ≤ 1) : 0 ≤ z642 ∧ z642 ≤ 0 := by omega
theorem vc_X6_split_15 {N p2 z394 z606 : Int} (h0 : (1001 - z394) < N + 1) (h1 : z394 < p2) (h2 : z606 ≤ p2) (h3 : z394 < z606) (h4 : z606 < p2) (h5 : 2 ≤ p2 ∧ p2 ≤ 1000) (h6 : 0 ≤ z394 ∧ z394 ≤ 999) (h7 : 1 ≤ z606 ∧ z606 ≤ 999) : (1001 - z606) < N := by omega
theorem vc_X6_split_16 {z642 : Int} (h0 : ¬ z642 = 0) (h1 : 0 ≤ z642 ∧ z642 ≤ 1) : 1 ≤ z642 ∧ z642 ≤ 1 := by omega
theorem vc_X6_split_17 {p2 z394 z606 : Int} (h0 : z394 < p2) (h1 : z606 ≤ p2) (h2 : z394 < z606) (h3 : z606 < p2) (h4 : 2 ≤ p2 ∧ p2 ≤ 1000) (h5 : 0 ≤ z394 ∧ z394 ≤ 999) (h6 : 1 ≤ z606 ∧ z606 ≤ 999) : (z606 + 1) ≤ p2 := by omega
theorem vc_X6_split_18 {p2 z394 z606 : Int} (h0 : z394 < p2) (h1 : z606 ≤ p2) (h2 : z394 < z606) (h3 : z606 < p2) (h4 : 2 ≤ p2 ∧ p2 ≤ 1000) (h5 : 0 ≤ z394 ∧ z394 ≤ 999) (h6 : 1 ≤ z606 ∧ z606 ≤ 999) : z394 < (z606 + 1) := by omega
theorem vc_X6_split_19 {N p2 z394 z606 : Int} (h0 : (1001 - z606) < N + 1) (h1 : z606 ≤ p2) (h2 : z394 < z606) (h3 : z606 < p2) (h4 : z394 < p2) (h5 : 2 ≤ p2 ∧ p2 ≤ 1000) (h6 : 0 ≤ z394 ∧ z394 ≤ 999) (h7 : 1 ≤ z606 ∧ z606 ≤ 999) : (1001 - (z606 + 1)) < N := by omega
theorem vc_X6_split_20 {p2 z394 : Int} (h0 : z394 < p2) (h1 : 1 ≤ p2 ∧ p2 ≤ 1000) (h2 : 0 ≤ z394 ∧ z394 ≤ 999) : (z394 + 1) ≤ p2 := by omega
theorem vc_X6_split_21 {p2 z394 : Int} (h0 : z394 < p2) (h1 : 1 ≤ p2 ∧ p2 ≤ 1000) (h2 : 0 ≤ z394 ∧ z394 ≤ 999) : z394 < (z394 + 1) := by omega
theorem vc_X6_split_22 {p2 z394 : Int} (h0 : z394 < p2) (h1 : 1 ≤ p2 ∧ p2 ≤ 1000) (h2 : 0 ≤ z394 ∧ z394 ≤ 999) : (1001 - (z394 + 1)) < ((1001 : Nat) : Int) := by omega
theorem vc_X6_split_23 {z541 : Int} (h0 : ¬ z541 = 0) (h1 : 0 ≤ z541 ∧ z541 ≤ 1) : 1 ≤ z541 ∧ z541 ≤ 1 := by omega
theorem vc_X6_split_24 {p2 z394 z701 : Int} (h0 : (1001 - z701) < ((0 : Nat) : Int)) (h1 : z701 ≤ p2) (h2 : z394 < z701) (h3 : z394 < p2) (h4 : 1 ≤ p2 ∧ p2 ≤ 1000) (h5 : 0 ≤ z394 ∧ z394 ≤ 999) (h6 : 1 ≤ z701 ∧ z701 ≤ 1000) : False := by omega
theorem vc_X6_split_25 {p2 z394 z701 : Int} (h0 : z394 < p2) (h1 : z701 ≤ p2) (h2 : z394 < z701) (h3 : 1 ≤ p2 ∧ p2 ≤ 1000) (h4 : 0 ≤ z394 ∧ z394 ≤ 999) (h5 : 1 ≤ z701 ∧ z701 ≤ 1000) : 0 ≤ (z701 - z394) ∧ (z701 - z394) ≤ 1000 := by omega
theorem vc_X6_split_26 {p2 z394 z701 : Int} (h0 : z394 < p2) (h1 : z701 ≤ p2) (h2 : z394 < z701) (h3 : 1 ≤ p2 ∧ p2 ≤ 1000) (h4 : 0 ≤ z394 ∧ z394 ≤ 999) (h5 : 1 ≤ z701 ∧ z701 ≤ 1000) : z394 + (z701 - z394) ≤ 1000 := by omega
theorem vc_X6_split_27 {N p2 z394 z701 : Int} (h0 : (1001 - z394) < N + 1) (h1 : z394 < p2) (h2 : z701 ≤ p2) (h3 : z394 < z701) (h4 : 1 ≤ p2 ∧ p2 ≤ 1000) (h5 : 0 ≤ z394 ∧ z394 ≤ 999) (h6 : 1 ≤ z701 ∧ z701 ≤ 1000) : (1001 - z701) < N := by omega
theorem vc_X6_split_28 {p2 z394 z701 : Int} (h0 : z701 < p2) (h1 : z394 < p2) (h2 : z701 ≤ p2) (h3 : z394 < z701) (h4 : 1 ≤ p2 ∧ p2 ≤ 1000) (h5 : 0 ≤ z394 ∧ z394 ≤ 999) (h6 : 1 ≤ z701 ∧ z701 ≤ 1000) : 1 ≤ z701 ∧ z701 ≤ 999 := by omega
theorem vc_X6_split_29 {p2 z394 z701 : Int} (h0 : z701 < p2) (h1 : z394 < p2) (h2 : z701 ≤ p2) (h3 : z394 < z701) (h4 : 1 ≤ p2 ∧ p2 ≤ 1000) (h5 : 0 ≤ z394 ∧ z394 ≤ 999) (h6 : 1 ≤ z701 ∧ z701 ≤ 999) : 2 ≤ p2 ∧ p2 ≤ 1000 := by omega
theorem vc_X6_split_30 {z743 : Int} (h0 : z743 = 0) (h1 : 0 ≤ z743 ∧ z743 ≤ 1) : 0 ≤ z743 ∧ z743 ≤ 0 := by omega
theorem vc_X6_split_31 {z743 : Int} (h0 : ¬ z743 = 0) (h1 : 0 ≤ z743 ∧ z743 ≤ 1) : 1 ≤ z743 ∧ z743 ≤ 1 := by omega
theorem vc_X6_split_32 {p2 z394 z701 : Int} (h0 : z394 < p2) (h1 : z701 ≤ p2) (h2 : z394 < z701) (h3 : z701 < p2) (h4 : 2 ≤ p2 ∧ p2 ≤ 1000) (h5 : 0 ≤ z394 ∧ z394 ≤ 999) (h6 : 1 ≤ z701 ∧ z701 ≤ 999) : (z701 + 1) ≤ p2 := by omega
theorem vc_X6_split_33 {p2 z394 z701 : Int} (h0 : z394 < p2) (h1 : z701 ≤ p2) (h2 : z394 < z701) (h3 : z701 < p2) (h4 : 2 ≤ p2 ∧ p2 ≤ 1000) (h5 : 0 ≤ z394 ∧ z394 ≤ 999) (h6 : 1 ≤ z701 ∧ z701 ≤ 999) : z394 < (z701 + 1) := by omega
theorem vc_X6_split_34 {N p2 z394 z701 : Int} (h0 : (1001 - z701) < N + 1) (h1 : z701 ≤ p2) (h2 : z394 < z701) (h3 : z701 < p2) (h4 : z394 < p2) (h5 : 2 ≤ p2 ∧ p2 ≤ 1000) (h6 : 0 ≤ z394 ∧ z394 ≤ 999) (h7 : 1 ≤ z701 ∧ z701 ≤ 999) : (1001 - (z701 + 1)) < N := by omega
theorem vc_X6_split_35  : (1001 - 0) < ((1002 : Nat) : Int) := by omega
set_option maxRecDepth 4000 in
set_option maxHeartbeats 4000000 in
theorem c_X6_split {l : Launch} {D : va_G} {c : Nat → ClassId} {H0 : Heap} {sa : Nat × Nat × (Nat → Int32)} {w : mW} {μ : mM} (hw : mWF w) (hT : mT w μ) (hA1 : mAt w 1 1) {p2 : Int} (hp2 : 0 ≤ p2 ∧ p2 ≤ 1000) : sC (gG l D c H0 sa) mX6_split 9 0 0 [.ref 23, .ref 1, iv p2] (mk w μ) (qV w [23008, 24999, 25999, 26999] μ (fun μ1 => (μ1 24 (μ1 23 8).toNat = -1) ∧ True)) := by
  refine sC.of rfl (by decide) (le_t rfl) ?_
  refine mr_lvE (lv' := [(0, .ref 23), (1, .ref 1), (2, iv p2)]) rfl ?_
  refine sv_aload_n (pc := 0) dX6_split_0 rfl rfl ?_
  refine mr_iconst (pc := 1) (z := 0) dX6_split_1 ?_
  refine pf_X6_8 (pc := 2) dX6_split_2 wF_X6_83 (A_23 hw) hT (rW (c := 0) (d := 1000) (rR (x := 0)) rfl) fun μ1 u2 T3 => ?_
  refine mr_iconst (pc := 5) (z := 0) dX6_split_5 ?_
  refine mr_istore_n (pc := 6) (lv' := [(3, iv 0), (0, .ref 23), (1, .ref 1), (2, iv p2)]) dX6_split_6 rfl (by decide) rfl ?_
  have L396 : ∀ (nL396 : Nat) (z394 : Int) (μ395 : mM), mT w μ395 → mF [23008, 24999, 25999, 26999] w μ1 μ395 → (0 ≤ z394 ∧ z394 ≤ 1000) → (1001 - z394) < (nL396 : Int) → sV (gG l D c H0 sa) mX6_split (sRm 9 0 0) (sZ (gG l D c H0 sa) 0 0 (qV w [23008, 24999, 25999, 26999] μ (fun μ1 => (μ1 24 (μ1 23 8).toNat = -1) ∧ True))) 7 [(0, .ref 23), (1, .ref 1), (2, iv p2), (3, iv z394)] [] (mk w μ395) 0 0 := by
    intro nL396
    induction nL396 with
    | zero => intro z394 μ395 T398 F399 h397 h401; exact ((vc_X6_split_1 h401 h397)).elim
    | succ nL396 ih402 =>
      intro z394 μ395 T398 F399 h397 h401
      refine mr_iload_n (pc := 7) (z := z394) dX6_split_7 rfl rfl ?_
      refine mr_iload_n (pc := 8) (z := p2) dX6_split_8 rfl rfl ?_
      refine mr_icmp_ge (pc := 9) (tgt := 143) dX6_split_9 (by decide) (r32 h397 rfl) (r32 hp2 rfl) (fun h522 => ?_) (fun h522 => ?_)
      · refine sv_aload_n (pc := 143) dX6_split_143 rfl rfl ?_
        refine gf_X6_0 (pc := 144) dX6_split_144 wF_X6_9 (A_23 hw) T398 ?_
        refine sv_aload_n (pc := 147) dX6_split_147 rfl rfl ?_
        refine gf_X6_8 (pc := 148) dX6_split_148 wF_X6_83 (A_23 hw) T398 fun z523 q524 h525 => ?_
        refine mr_iconst (pc := 151) (z := (-1)) dX6_split_151 ?_
        refine ss_24 (pc := 152) dX6_split_152 (A_24 hw) T398 (rIx (n := 1001) h525 rfl) (rW (c := (-2147483648)) (d := 2147483647) (rR (x := (-1))) rfl) fun μ526 u527 T528 => ?_
        refine sv_aload_n (pc := 153) dX6_split_153 rfl rfl ?_
        refine gf_X6_2 (pc := 154) dX6_split_154 wF_X6_18 (A_23 hw) T528 ?_
        refine sv_aload_n (pc := 157) dX6_split_157 rfl rfl ?_
        refine gk_X6_8 (pc := 158) dX6_split_158 wF_X6_83 (A_23 hw) (u527.f (Or.inl (mAt.ne (A_24 hw) (A_23 hw) rfl)) q524) ?_
        refine mr_iload_n (pc := 161) (z := p2) dX6_split_161 rfl rfl ?_
        refine ss_26 (pc := 162) dX6_split_162 (A_26 hw) T528 (rIx (n := 1001) h525 rfl) hp2 fun μ529 u530 T531 => ?_
        exact mr_vret dX6_split_163 rfl (le_t rfl) (le_t rfl) T531 (mF.up (mF.up (mF.call (mF.up mF.refl (A_23 hw) u2 rfl) F399 rfl) (A_24 hw) u527 rfl) (A_26 hw) u530 rfl) ⟨(by show μ529 24 (μ529 23 8).toNat = -1; rw [(u530.f (Or.inl (mAt.ne (A_26 hw) (A_23 hw) rfl)) (u527.f (Or.inl (mAt.ne (A_24 hw) (A_23 hw) rfl)) q524))]; exact (u530.f (Or.inl (mAt.ne (A_26 hw) (A_24 hw) rfl)) u527.1)), trivial⟩
      have h532 : 0 ≤ z394 ∧ z394 ≤ 999 := (vc_X6_split_2 h522 hp2 h397)
      have h533 : 1 ≤ p2 ∧ p2 ≤ 1000 := (vc_X6_split_3 h522 hp2 h532)
      refine sv_aload_n (pc := 12) dX6_split_12 rfl rfl ?_
      refine mr_iload_n (pc := 13) (z := z394) dX6_split_13 rfl rfl ?_
      refine la_1 (pc := 14) dX6_split_14 (A_1 hw) T398 (rIx (n := 1000) h532 rfl) fun z534 q535 h536 => ?_
      refine mr_istore (pc := 15) (lv' := [(4, iv z534), (0, .ref 23), (1, .ref 1), (2, iv p2), (3, iv z394)]) dX6_split_15 (by decide) rfl ?_
      refine mr_iload_n (pc := 17) (z := z394) dX6_split_17 rfl rfl ?_
      refine mr_iconst (pc := 18) (z := 1) dX6_split_18 ?_
      refine mr_iadd (pc := 19) (x := z394) (y := 1) dX6_split_19 ?_
      refine mr_istore (pc := 20) (lv' := [(5, iv (z394 + 1)), (4, iv z534), (0, .ref 23), (1, .ref 1), (2, iv p2), (3, iv z394)]) dX6_split_20 (by decide) rfl ?_
      refine mr_iload (pc := 22) (z := z534) dX6_split_22 rfl ?_
      refine mr_cSP (pc := 24) (c_X6_isLetter hw T398 (rW (c := (-2147483648)) (d := 2147483647) h536 rfl)) (gOk _ _ _ _ _) dX6_split_24 (tX6_isLetter _ _ _ _ _) wS_X6_isLetter wM_X6_86 ⟨le_t rfl, le_t rfl⟩ ⟨le_t rfl, le_t rfl⟩ rfl (le_t rfl) fun z541 h540 => ?_
      refine mr_if_eq (pc := 27) (tgt := 70) dX6_split_27 (by decide) (r32 h540.1 rfl) (fun h542 => ?_) (fun h542 => ?_)
      · have h543 : 0 ≤ z541 ∧ z541 ≤ 0 := (vc_X6_split_4 h542 h540.1)
        refine mr_iload (pc := 70) (z := z534) dX6_split_70 rfl ?_
        refine mr_cSP (pc := 72) (c_X6_isFigure hw T398 (rW (c := (-2147483648)) (d := 2147483647) h536 rfl)) (gOk _ _ _ _ _) dX6_split_72 (tX6_isFigure _ _ _ _ _) wS_X6_isFigure wM_X6_98 ⟨le_t rfl, le_t rfl⟩ ⟨le_t rfl, le_t rfl⟩ rfl (le_t rfl) fun z548 h547 => ?_
        refine mr_if_eq (pc := 75) (tgt := 111) dX6_split_75 (by decide) (r32 h547.1 rfl) (fun h549 => ?_) (fun h549 => ?_)
        · have h550 : 0 ≤ z548 ∧ z548 ≤ 0 := (vc_X6_split_5 h549 h547.1)
          refine mr_iload (pc := 111) (z := z534) dX6_split_111 rfl ?_
          refine mr_bipush (pc := 113) (z := 32) dX6_split_113 (by decide) ?_
          refine mr_icmp_eq (pc := 115) (tgt := 137) dX6_split_115 (by decide) (r32 h536 rfl) (r32 (rR (x := 32)) rfl) (fun h551 => ?_) (fun h551 => ?_)
          · have h552 : 32 ≤ z534 ∧ z534 ≤ 32 := (vc_X6_split_6 h551 h536)
            refine mr_iload (pc := 137) (z := (z394 + 1)) dX6_split_137 rfl ?_
            refine mr_istore_n (pc := 139) (lv' := [(3, iv (z394 + 1)), (5, iv (z394 + 1)), (4, iv z534), (0, .ref 23), (1, .ref 1), (2, iv p2)]) dX6_split_139 rfl (by decide) rfl ?_
            refine sv_goto (pc := 140) (tgt := 7) dX6_split_140 (by decide) ?_
            refine mr_lvS (lv' := [(0, .ref 23), (1, .ref 1), (2, iv p2), (3, iv (z394 + 1))]) (List.forall_mem_cons.mpr ⟨rfl, List.forall_mem_cons.mpr ⟨rfl, List.forall_mem_cons.mpr ⟨rfl, List.forall_mem_cons.mpr ⟨rfl, fun _ h => absurd h List.not_mem_nil⟩⟩⟩⟩) ?_
            exact ih402 (z394 + 1) μ395 T398 (mF.call mF.refl F399 rfl) (rW (c := 0) (d := 1000) (rAdd (e := 1) (f := 1000) h532 (rR (x := 1)) rfl) rfl) (vc_X6_split_7 (nS h401) h522 h533 h532)
          refine mr_iload (pc := 118) (z := z534) dX6_split_118 rfl ?_
          refine mr_bipush (pc := 120) (z := 10) dX6_split_120 (by decide) ?_
          refine mr_icmp_eq (pc := 122) (tgt := 137) dX6_split_122 (by decide) (r32 h536 rfl) (r32 (rR (x := 10)) rfl) (fun h553 => ?_) (fun h553 => ?_)
          · have h554 : 10 ≤ z534 ∧ z534 ≤ 10 := (vc_X6_split_8 h553 h551 h536)
            refine mr_iload (pc := 137) (z := (z394 + 1)) dX6_split_137 rfl ?_
            refine mr_istore_n (pc := 139) (lv' := [(3, iv (z394 + 1)), (5, iv (z394 + 1)), (4, iv z534), (0, .ref 23), (1, .ref 1), (2, iv p2)]) dX6_split_139 rfl (by decide) rfl ?_
            refine sv_goto (pc := 140) (tgt := 7) dX6_split_140 (by decide) ?_
            refine mr_lvS (lv' := [(0, .ref 23), (1, .ref 1), (2, iv p2), (3, iv (z394 + 1))]) (List.forall_mem_cons.mpr ⟨rfl, List.forall_mem_cons.mpr ⟨rfl, List.forall_mem_cons.mpr ⟨rfl, List.forall_mem_cons.mpr ⟨rfl, fun _ h => absurd h List.not_mem_nil⟩⟩⟩⟩) ?_
            exact ih402 (z394 + 1) μ395 T398 (mF.call mF.refl F399 rfl) (rW (c := 0) (d := 1000) (rAdd (e := 1) (f := 1000) h532 (rR (x := 1)) rfl) rfl) (vc_X6_split_7 (nS h401) h522 h533 h532)
          refine sv_aload_n (pc := 125) dX6_split_125 rfl rfl ?_
          refine mr_sipush (pc := 126) (z := 1000) dX6_split_126 (by decide) ?_
          refine mr_iload (pc := 129) (z := z534) dX6_split_129 rfl ?_
          refine mr_iadd (pc := 131) (x := 1000) (y := z534) dX6_split_131 ?_
          refine mr_iconst (pc := 132) (z := 0) dX6_split_132 ?_
          refine mr_iload_n (pc := 133) (z := z394) dX6_split_133 rfl rfl ?_
          refine mr_cVV (pc := 134) (c_X6_putToken hw T398 (rW (c := (-2147483648)) (d := 2147483647) (rAdd (e := 1000) (f := 1255) (rR (x := 1000)) h536 rfl) rfl) (rW (c := (-2147483648)) (d := 2147483647) (rR (x := 0)) rfl) (rW (c := 0) (d := 1000) h532 rfl)) (gOk _ _ _ _ _) dX6_split_134 (tX6_putToken _ _ _ _ _) ⟨wV_X6_putToken, wL_X6_putToken⟩ wM_X6_94 (gCX6 _ _ _ _ _) rfl (A_23 hw) rfl ⟨le_t rfl, le_t rfl⟩ ⟨le_t rfl, le_t rfl⟩ rfl (le_t rfl) fun μ555 T556 F557 h558 => ?_
          refine mr_iload (pc := 137) (z := (z394 + 1)) dX6_split_137 rfl ?_
          refine mr_istore_n (pc := 139) (lv' := [(3, iv (z394 + 1)), (5, iv (z394 + 1)), (4, iv z534), (0, .ref 23), (1, .ref 1), (2, iv p2)]) dX6_split_139 rfl (by decide) rfl ?_
          refine sv_goto (pc := 140) (tgt := 7) dX6_split_140 (by decide) ?_
          refine mr_lvS (lv' := [(0, .ref 23), (1, .ref 1), (2, iv p2), (3, iv (z394 + 1))]) (List.forall_mem_cons.mpr ⟨rfl, List.forall_mem_cons.mpr ⟨rfl, List.forall_mem_cons.mpr ⟨rfl, List.forall_mem_cons.mpr ⟨rfl, fun _ h => absurd h List.not_mem_nil⟩⟩⟩⟩) ?_
          exact ih402 (z394 + 1) μ555 T556 (mF.call (mF.call mF.refl F399 rfl) F557 rfl) (rW (c := 0) (d := 1000) (rAdd (e := 1) (f := 1000) h532 (rR (x := 1)) rfl) rfl) (vc_X6_split_7 (nS h401) h522 h533 h532)
        have h559 : 1 ≤ z548 ∧ z548 ≤ 1 := (vc_X6_split_9 h549 h547.1)
        have L607 : ∀ (nL607 : Nat) (z606 : Int), True → (1 ≤ z606 ∧ z606 ≤ 1000) → (z606 ≤ p2) → (z394 < z606) → (1001 - z606) < (nL607 : Int) → sV (gG l D c H0 sa) mX6_split (sRm 9 0 0) (sZ (gG l D c H0 sa) 0 0 (qV w [23008, 24999, 25999, 26999] μ (fun μ1 => (μ1 24 (μ1 23 8).toNat = -1) ∧ True))) 78 [(0, .ref 23), (1, .ref 1), (2, iv p2), (3, iv z394), (5, iv z606)] [] (mk w μ395) 0 0 := by
          intro nL607
          induction nL607 with
          | zero => intro z606 _ h608 h612 h613 h614; exact ((vc_X6_split_10 h614 h612 h613 h522 h533 h532 h608)).elim
          | succ nL607 ih615 =>
            intro z606 _ h608 h612 h613 h614
            refine mr_iload (pc := 78) (z := z606) dX6_split_78 rfl ?_
            refine mr_iload_n (pc := 80) (z := p2) dX6_split_80 rfl rfl ?_
            refine mr_icmp_ge (pc := 81) (tgt := 100) dX6_split_81 (by decide) (r32 h608 rfl) (r32 h533 rfl) (fun h628 => ?_) (fun h628 => ?_)
            · refine sv_aload_n (pc := 100) dX6_split_100 rfl rfl ?_
              refine sv_aload_n (pc := 101) dX6_split_101 rfl rfl ?_
              refine mr_iload_n (pc := 102) (z := z394) dX6_split_102 rfl rfl ?_
              refine mr_iload (pc := 103) (z := z606) dX6_split_103 rfl ?_
              refine mr_cVV (pc := 105) (c_X6_putNumber hw T398 (A_1 hw) (rW (c := 0) (d := 1000) h532 rfl) (rW (c := 0) (d := 1000) h608 rfl)) (gOk _ _ _ _ _) dX6_split_105 (tX6_putNumber _ _ _ _ _) ⟨wV_X6_putNumber, wL_X6_putNumber⟩ wM_X6_101 (gCX6 _ _ _ _ _) rfl (A_23 hw) rfl ⟨le_t rfl, le_t rfl⟩ ⟨le_t rfl, le_t rfl⟩ rfl (le_t rfl) fun μ629 T630 F631 h632 => ?_
              refine sv_goto (pc := 108) (tgt := 137) dX6_split_108 (by decide) ?_
              refine mr_iload (pc := 137) (z := z606) dX6_split_137 rfl ?_
              refine mr_istore_n (pc := 139) (lv' := [(3, iv z606), (0, .ref 23), (1, .ref 1), (2, iv p2), (5, iv z606)]) dX6_split_139 rfl (by decide) rfl ?_
              refine sv_goto (pc := 140) (tgt := 7) dX6_split_140 (by decide) ?_
              refine mr_lvS (lv' := [(0, .ref 23), (1, .ref 1), (2, iv p2), (3, iv z606)]) (List.forall_mem_cons.mpr ⟨rfl, List.forall_mem_cons.mpr ⟨rfl, List.forall_mem_cons.mpr ⟨rfl, List.forall_mem_cons.mpr ⟨rfl, fun _ h => absurd h List.not_mem_nil⟩⟩⟩⟩) ?_
              exact ih402 z606 μ629 T630 (mF.call (mF.call mF.refl F399 rfl) F631 rfl) (rW (c := 0) (d := 1000) h608 rfl) (vc_X6_split_11 (nS h401) h522 h612 h613 h628 h533 h532 h608)
            have h633 : 1 ≤ z606 ∧ z606 ≤ 999 := (vc_X6_split_12 h628 h522 h612 h613 h533 h532 h608)
            have h634 : 2 ≤ p2 ∧ p2 ≤ 1000 := (vc_X6_split_13 h628 h522 h612 h613 h533 h532 h633)
            refine sv_aload_n (pc := 84) dX6_split_84 rfl rfl ?_
            refine mr_iload (pc := 85) (z := z606) dX6_split_85 rfl ?_
            refine la_1 (pc := 87) dX6_split_87 (A_1 hw) T398 (rIx (n := 1000) h633 rfl) fun z635 q636 h637 => ?_
            refine mr_cSP (pc := 88) (c_X6_isFigure hw T398 (rW (c := (-2147483648)) (d := 2147483647) h637 rfl)) (gOk _ _ _ _ _) dX6_split_88 (tX6_isFigure _ _ _ _ _) wS_X6_isFigure wM_X6_98 ⟨le_t rfl, le_t rfl⟩ ⟨le_t rfl, le_t rfl⟩ rfl (le_t rfl) fun z642 h641 => ?_
            refine mr_if_eq (pc := 91) (tgt := 100) dX6_split_91 (by decide) (r32 h641.1 rfl) (fun h645 => ?_) (fun h645 => ?_)
            · have h646 : 0 ≤ z642 ∧ z642 ≤ 0 := (vc_X6_split_14 h645 h641.1)
              refine sv_aload_n (pc := 100) dX6_split_100 rfl rfl ?_
              refine sv_aload_n (pc := 101) dX6_split_101 rfl rfl ?_
              refine mr_iload_n (pc := 102) (z := z394) dX6_split_102 rfl rfl ?_
              refine mr_iload (pc := 103) (z := z606) dX6_split_103 rfl ?_
              refine mr_cVV (pc := 105) (c_X6_putNumber hw T398 (A_1 hw) (rW (c := 0) (d := 1000) h532 rfl) (rW (c := 0) (d := 1000) h633 rfl)) (gOk _ _ _ _ _) dX6_split_105 (tX6_putNumber _ _ _ _ _) ⟨wV_X6_putNumber, wL_X6_putNumber⟩ wM_X6_101 (gCX6 _ _ _ _ _) rfl (A_23 hw) rfl ⟨le_t rfl, le_t rfl⟩ ⟨le_t rfl, le_t rfl⟩ rfl (le_t rfl) fun μ647 T648 F649 h650 => ?_
              refine sv_goto (pc := 108) (tgt := 137) dX6_split_108 (by decide) ?_
              refine mr_iload (pc := 137) (z := z606) dX6_split_137 rfl ?_
              refine mr_istore_n (pc := 139) (lv' := [(3, iv z606), (0, .ref 23), (1, .ref 1), (2, iv p2), (5, iv z606)]) dX6_split_139 rfl (by decide) rfl ?_
              refine sv_goto (pc := 140) (tgt := 7) dX6_split_140 (by decide) ?_
              refine mr_lvS (lv' := [(0, .ref 23), (1, .ref 1), (2, iv p2), (3, iv z606)]) (List.forall_mem_cons.mpr ⟨rfl, List.forall_mem_cons.mpr ⟨rfl, List.forall_mem_cons.mpr ⟨rfl, List.forall_mem_cons.mpr ⟨rfl, fun _ h => absurd h List.not_mem_nil⟩⟩⟩⟩) ?_
              exact ih402 z606 μ647 T648 (mF.call (mF.call mF.refl F399 rfl) F649 rfl) (rW (c := 0) (d := 1000) h633 rfl) (vc_X6_split_15 (nS h401) h522 h612 h613 h628 h634 h532 h633)
            have h651 : 1 ≤ z642 ∧ z642 ≤ 1 := (vc_X6_split_16 h645 h641.1)
            refine mr_iinc (pc := 94) (lv' := [(5, iv (z606 + 1)), (0, .ref 23), (1, .ref 1), (2, iv p2), (3, iv z394)]) dX6_split_94 rfl (by decide) rfl ?_
            refine sv_goto (pc := 97) (tgt := 78) dX6_split_97 (by decide) ?_
            refine mr_lvS (lv' := [(0, .ref 23), (1, .ref 1), (2, iv p2), (3, iv z394), (5, iv (z606 + 1))]) (List.forall_mem_cons.mpr ⟨rfl, List.forall_mem_cons.mpr ⟨rfl, List.forall_mem_cons.mpr ⟨rfl, List.forall_mem_cons.mpr ⟨rfl, List.forall_mem_cons.mpr ⟨rfl, fun _ h => absurd h List.not_mem_nil⟩⟩⟩⟩⟩) ?_
            exact ih615 (z606 + 1) trivial (rW (c := 1) (d := 1000) (rAdd (e := 2) (f := 1000) h633 (rR (x := 1)) rfl) rfl) (vc_X6_split_17 h522 h612 h613 h628 h634 h532 h633) (vc_X6_split_18 h522 h612 h613 h628 h634 h532 h633) (vc_X6_split_19 (nS h614) h612 h613 h628 h522 h634 h532 h633)
        refine mr_lvS (lv' := [(0, .ref 23), (1, .ref 1), (2, iv p2), (3, iv z394), (5, iv (z394 + 1))]) (List.forall_mem_cons.mpr ⟨rfl, List.forall_mem_cons.mpr ⟨rfl, List.forall_mem_cons.mpr ⟨rfl, List.forall_mem_cons.mpr ⟨rfl, List.forall_mem_cons.mpr ⟨rfl, fun _ h => absurd h List.not_mem_nil⟩⟩⟩⟩⟩) ?_
        exact L607 1001 (z394 + 1) trivial (rAdd (e := 1) (f := 1000) h532 (rR (x := 1)) rfl) (vc_X6_split_20 h522 h533 h532) (vc_X6_split_21 h522 h533 h532) (vc_X6_split_22 h522 h533 h532)
      have h652 : 1 ≤ z541 ∧ z541 ≤ 1 := (vc_X6_split_23 h542 h540.1)
      have L702 : ∀ (nL702 : Nat) (z701 : Int), True → (1 ≤ z701 ∧ z701 ≤ 1000) → (z701 ≤ p2) → (z394 < z701) → (1001 - z701) < (nL702 : Int) → sV (gG l D c H0 sa) mX6_split (sRm 9 0 0) (sZ (gG l D c H0 sa) 0 0 (qV w [23008, 24999, 25999, 26999] μ (fun μ1 => (μ1 24 (μ1 23 8).toNat = -1) ∧ True))) 30 [(0, .ref 23), (1, .ref 1), (2, iv p2), (3, iv z394), (5, iv z701)] [] (mk w μ395) 0 0 := by
        intro nL702
        induction nL702 with
        | zero => intro z701 _ h703 h707 h708 h709; exact ((vc_X6_split_24 h709 h707 h708 h522 h533 h532 h703)).elim
        | succ nL702 ih710 =>
          intro z701 _ h703 h707 h708 h709
          refine mr_iload (pc := 30) (z := z701) dX6_split_30 rfl ?_
          refine mr_iload_n (pc := 32) (z := p2) dX6_split_32 rfl rfl ?_
          have J723 : sV (gG l D c H0 sa) mX6_split (sRm 9 0 0) (sZ (gG l D c H0 sa) 0 0 (qV w [23008, 24999, 25999, 26999] μ (fun μ1 => (μ1 24 (μ1 23 8).toNat = -1) ∧ True))) 52 [(0, .ref 23), (1, .ref 1), (2, iv p2), (3, iv z394), (5, iv z701)] [] (mk w μ395) 0 0 := by
            refine sv_aload_n (pc := 52) dX6_split_52 rfl rfl ?_
            refine sv_aload_n (pc := 53) dX6_split_53 rfl rfl ?_
            refine mr_iload_n (pc := 54) (z := z394) dX6_split_54 rfl rfl ?_
            refine mr_iload (pc := 55) (z := z701) dX6_split_55 rfl ?_
            refine mr_iload_n (pc := 57) (z := z394) dX6_split_57 rfl rfl ?_
            refine mr_isub (pc := 58) (x := z701) (y := z394) dX6_split_58 ?_
            refine mr_cSP (pc := 59) (c_X6_wordAt hw T398 (A_1 hw) (rW (c := 0) (d := 1000) h532 rfl) (vc_X6_split_25 h522 h707 h708 h533 h532 h703) (vc_X6_split_26 h522 h707 h708 h533 h532 h703)) (gOk _ _ _ _ _) dX6_split_59 (tX6_wordAt _ _ _ _ _) wS_X6_wordAt wM_X6_90 ⟨le_t rfl, le_t rfl⟩ ⟨le_t rfl, le_t rfl⟩ rfl (le_t rfl) fun z728 h727 => ?_
            refine mr_iconst (pc := 62) (z := 0) dX6_split_62 ?_
            refine mr_iload_n (pc := 63) (z := z394) dX6_split_63 rfl rfl ?_
            refine mr_cVV (pc := 64) (c_X6_putToken hw T398 (rW (c := (-2147483648)) (d := 2147483647) h727.1 rfl) (rW (c := (-2147483648)) (d := 2147483647) (rR (x := 0)) rfl) (rW (c := 0) (d := 1000) h532 rfl)) (gOk _ _ _ _ _) dX6_split_64 (tX6_putToken _ _ _ _ _) ⟨wV_X6_putToken, wL_X6_putToken⟩ wM_X6_94 (gCX6 _ _ _ _ _) rfl (A_23 hw) rfl ⟨le_t rfl, le_t rfl⟩ ⟨le_t rfl, le_t rfl⟩ rfl (le_t rfl) fun μ729 T730 F731 h732 => ?_
            refine sv_goto (pc := 67) (tgt := 137) dX6_split_67 (by decide) ?_
            refine mr_iload (pc := 137) (z := z701) dX6_split_137 rfl ?_
            refine mr_istore_n (pc := 139) (lv' := [(3, iv z701), (0, .ref 23), (1, .ref 1), (2, iv p2), (5, iv z701)]) dX6_split_139 rfl (by decide) rfl ?_
            refine sv_goto (pc := 140) (tgt := 7) dX6_split_140 (by decide) ?_
            refine mr_lvS (lv' := [(0, .ref 23), (1, .ref 1), (2, iv p2), (3, iv z701)]) (List.forall_mem_cons.mpr ⟨rfl, List.forall_mem_cons.mpr ⟨rfl, List.forall_mem_cons.mpr ⟨rfl, List.forall_mem_cons.mpr ⟨rfl, fun _ h => absurd h List.not_mem_nil⟩⟩⟩⟩) ?_
            exact ih402 z701 μ729 T730 (mF.call (mF.call mF.refl F399 rfl) F731 rfl) (rW (c := 0) (d := 1000) h703 rfl) (vc_X6_split_27 (nS h401) h522 h707 h708 h533 h532 h703)
          refine mr_icmp_ge (pc := 33) (tgt := 52) dX6_split_33 (by decide) (r32 h703 rfl) (r32 h533 rfl) (fun h733 => ?_) (fun h733 => ?_)
          · exact J723 
          have h734 : 1 ≤ z701 ∧ z701 ≤ 999 := (vc_X6_split_28 h733 h522 h707 h708 h533 h532 h703)
          have h735 : 2 ≤ p2 ∧ p2 ≤ 1000 := (vc_X6_split_29 h733 h522 h707 h708 h533 h532 h734)
          refine sv_aload_n (pc := 36) dX6_split_36 rfl rfl ?_
          refine mr_iload (pc := 37) (z := z701) dX6_split_37 rfl ?_
          refine la_1 (pc := 39) dX6_split_39 (A_1 hw) T398 (rIx (n := 1000) h734 rfl) fun z736 q737 h738 => ?_
          refine mr_cSP (pc := 40) (c_X6_isLetter hw T398 (rW (c := (-2147483648)) (d := 2147483647) h738 rfl)) (gOk _ _ _ _ _) dX6_split_40 (tX6_isLetter _ _ _ _ _) wS_X6_isLetter wM_X6_86 ⟨le_t rfl, le_t rfl⟩ ⟨le_t rfl, le_t rfl⟩ rfl (le_t rfl) fun z743 h742 => ?_
          refine mr_if_eq (pc := 43) (tgt := 52) dX6_split_43 (by decide) (r32 h742.1 rfl) (fun h744 => ?_) (fun h744 => ?_)
          · have h745 : 0 ≤ z743 ∧ z743 ≤ 0 := (vc_X6_split_30 h744 h742.1)
            exact J723 
          have h746 : 1 ≤ z743 ∧ z743 ≤ 1 := (vc_X6_split_31 h744 h742.1)
          refine mr_iinc (pc := 46) (lv' := [(5, iv (z701 + 1)), (0, .ref 23), (1, .ref 1), (2, iv p2), (3, iv z394)]) dX6_split_46 rfl (by decide) rfl ?_
          refine sv_goto (pc := 49) (tgt := 30) dX6_split_49 (by decide) ?_
          refine mr_lvS (lv' := [(0, .ref 23), (1, .ref 1), (2, iv p2), (3, iv z394), (5, iv (z701 + 1))]) (List.forall_mem_cons.mpr ⟨rfl, List.forall_mem_cons.mpr ⟨rfl, List.forall_mem_cons.mpr ⟨rfl, List.forall_mem_cons.mpr ⟨rfl, List.forall_mem_cons.mpr ⟨rfl, fun _ h => absurd h List.not_mem_nil⟩⟩⟩⟩⟩) ?_
          exact ih710 (z701 + 1) trivial (rW (c := 1) (d := 1000) (rAdd (e := 2) (f := 1000) h734 (rR (x := 1)) rfl) rfl) (vc_X6_split_32 h522 h707 h708 h733 h735 h532 h734) (vc_X6_split_33 h522 h707 h708 h733 h735 h532 h734) (vc_X6_split_34 (nS h709) h707 h708 h733 h522 h735 h532 h734)
      refine mr_lvS (lv' := [(0, .ref 23), (1, .ref 1), (2, iv p2), (3, iv z394), (5, iv (z394 + 1))]) (List.forall_mem_cons.mpr ⟨rfl, List.forall_mem_cons.mpr ⟨rfl, List.forall_mem_cons.mpr ⟨rfl, List.forall_mem_cons.mpr ⟨rfl, List.forall_mem_cons.mpr ⟨rfl, fun _ h => absurd h List.not_mem_nil⟩⟩⟩⟩⟩) ?_
      exact L702 1001 (z394 + 1) trivial (rAdd (e := 1) (f := 1000) h532 (rR (x := 1)) rfl) (vc_X6_split_20 h522 h533 h532) (vc_X6_split_21 h522 h533 h532) (vc_X6_split_22 h522 h533 h532)
  refine mr_lvS (lv' := [(0, .ref 23), (1, .ref 1), (2, iv p2), (3, iv 0)]) (List.forall_mem_cons.mpr ⟨rfl, List.forall_mem_cons.mpr ⟨rfl, List.forall_mem_cons.mpr ⟨rfl, List.forall_mem_cons.mpr ⟨rfl, fun _ h => absurd h List.not_mem_nil⟩⟩⟩⟩) ?_
  exact L396 1002 0 μ1 T3 mF.refl (rW (c := 0) (d := 1000) (rR (x := 0)) rfl) vc_X6_split_35
theorem vc_X6_read_1 {z456 : Int} (h0 : (1002 - z456) < ((0 : Nat) : Int)) (h1 : 0 ≤ z456 ∧ z456 ≤ 1001) : False := by omega
theorem vc_X6_read_2 {z456 : Int} (h0 : 1000 < z456) (h1 : 0 ≤ z456 ∧ z456 ≤ 1001) : 1001 ≤ z456 ∧ z456 ≤ 1001 := by omega
theorem vc_X6_read_3 {z456 : Int} (h0 : z456 ≤ 1000) (h1 : 0 ≤ z456 ∧ z456 ≤ 1001) : 0 ≤ z456 ∧ z456 ≤ 1000 := by omega
theorem vc_X6_read_4 {z509 : Int} (h0 : z509 = (-1)) (h1 : (-2147483648) ≤ z509 ∧ z509 ≤ 2147483647) : (-1) ≤ z509 ∧ z509 ≤ (-1) := by omega
theorem vc_X6_read_5 {f_la f_lc f_lf f_lr f_lw z26 z509 : Int} (h0 : (f_la = z26 → z509 = -1)) (h1 : f_la ≤ z26) (h2 : f_lf = 0 ∨ f_la = z26) (h3 : f_lf = 0 → 3 * f_lc ≤ 6 * f_lr + 5 * f_la) (h4 : f_lf = 0 → 4 * f_lw ≤ f_la) (h5 : ¬ z509 = (-1)) (h6 : 0 ≤ f_la ∧ f_la ≤ 1000) (h7 : 0 ≤ f_lc ∧ f_lc ≤ 2000) (h8 : 0 ≤ f_lf ∧ f_lf ≤ 4) (h9 : 0 ≤ f_lr ∧ f_lr ≤ 30) (h10 : 0 ≤ f_lw ∧ f_lw ≤ 250) (h11 : 0 ≤ z26 ∧ z26 ≤ 1000) (h12 : (-2147483648) ≤ z509 ∧ z509 ≤ 2147483647) : f_lf = 0 := by omega
theorem vc_X6_read_6 {f_la f_lc f_lf f_lr f_lw z26 : Int} (h0 : f_lf = 0) (h1 : f_lf = 0 ∨ f_la = z26) (h2 : f_lf = 0 → 3 * f_lc ≤ 6 * f_lr + 5 * f_la) (h3 : f_lf = 0 → 4 * f_lw ≤ f_la) (h4 : 0 ≤ f_la ∧ f_la ≤ 1000) (h5 : 0 ≤ f_lc ∧ f_lc ≤ 2000) (h6 : 0 ≤ f_lf ∧ f_lf ≤ 4) (h7 : 0 ≤ f_lr ∧ f_lr ≤ 30) (h8 : 0 ≤ f_lw ∧ f_lw ≤ 250) (h9 : 0 ≤ z26 ∧ z26 ≤ 1000) : 0 ≤ f_lf ∧ f_lf ≤ 0 := by omega
theorem vc_X6_read_7 {f_la f_lc f_lf f_lr f_lw z26 : Int} (h0 : f_la ≤ z26) (h1 : f_lf = 0 ∨ f_la = z26) (h2 : f_lf = 0 → 3 * f_lc ≤ 6 * f_lr + 5 * f_la) (h3 : f_lf = 0 → 4 * f_lw ≤ f_la) (h4 : f_lf = 0) (h5 : 0 ≤ f_la ∧ f_la ≤ 1000) (h6 : 0 ≤ f_lc ∧ f_lc ≤ 2000) (h7 : 0 ≤ f_lf ∧ f_lf ≤ 0) (h8 : 0 ≤ f_lr ∧ f_lr ≤ 30) (h9 : 0 ≤ f_lw ∧ f_lw ≤ 250) (h10 : 0 ≤ z26 ∧ z26 ≤ 1000) : f_la ≤ z26 := by omega
theorem vc_X6_read_8  : (((-1) : Int) : Int) = -(1 : Int) := by omega
theorem vc_X6_read_9 {f_la f_lc f_lf f_lr f_lw z26 : Int} (h0 : f_la ≤ z26) (h1 : f_lf = 0 ∨ f_la = z26) (h2 : f_lf = 0 → 3 * f_lc ≤ 6 * f_lr + 5 * f_la) (h3 : f_lf = 0 → 4 * f_lw ≤ f_la) (h4 : f_lf = 0) (h5 : 0 ≤ f_la ∧ f_la ≤ 1000) (h6 : 0 ≤ f_lc ∧ f_lc ≤ 2000) (h7 : 0 ≤ f_lf ∧ f_lf ≤ 0) (h8 : 0 ≤ f_lr ∧ f_lr ≤ 30) (h9 : 0 ≤ f_lw ∧ f_lw ≤ 250) (h10 : 0 ≤ z26 ∧ z26 ≤ 1000) : f_lf = 0 ∨ f_la = z26 := by omega
theorem vc_X6_read_10 {f_la f_lc f_lf f_lr f_lw z26 : Int} (h0 : f_lf = 0 ∨ f_la = z26) (h1 : f_lf = 0 → 3 * f_lc ≤ 6 * f_lr + 5 * f_la) (h2 : f_lf = 0 → 4 * f_lw ≤ f_la) (h3 : f_lf = 0) (h4 : f_la ≤ z26) (h5 : 0 ≤ f_la ∧ f_la ≤ 1000) (h6 : 0 ≤ f_lc ∧ f_lc ≤ 2000) (h7 : 0 ≤ f_lf ∧ f_lf ≤ 0) (h8 : 0 ≤ f_lr ∧ f_lr ≤ 30) (h9 : 0 ≤ f_lw ∧ f_lw ≤ 250) (h10 : 0 ≤ z26 ∧ z26 ≤ 1000) : f_lf = 0 := by omega
theorem vc_X6_read_11 {p3 : Int} (h0 : 0 ≤ p3 ∧ p3 ≤ 12) : p3 ≤ 12 := by omega
theorem vc_X6_read_12 {p3 : Int} (h0 : 0 ≤ p3 ∧ p3 ≤ 12) : 0 ≤ p3 := by omega
theorem vc_X6_read_13 {f_la f_lc f_lf f_lr f_lw z26 : Int} (h0 : f_la ≤ z26) (h1 : f_lf = 0 ∨ f_la = z26) (h2 : f_lf = 0 → 3 * f_lc ≤ 6 * f_lr + 5 * f_la) (h3 : f_lf = 0 → 4 * f_lw ≤ f_la) (h4 : f_lf = 0) (h5 : 0 ≤ f_la ∧ f_la ≤ 1000) (h6 : 0 ≤ f_lc ∧ f_lc ≤ 2000) (h7 : 0 ≤ f_lf ∧ f_lf ≤ 0) (h8 : 0 ≤ f_lr ∧ f_lr ≤ 30) (h9 : 0 ≤ f_lw ∧ f_lw ≤ 250) (h10 : 0 ≤ z26 ∧ z26 ≤ 1000) : 3 * f_lc ≤ 6 * f_lr + 5 * f_la := by omega
theorem vc_X6_read_14 {f_la f_lc f_lf f_lr f_lw z26 : Int} (h0 : f_la ≤ z26) (h1 : f_lf = 0 ∨ f_la = z26) (h2 : f_lf = 0 → 3 * f_lc ≤ 6 * f_lr + 5 * f_la) (h3 : f_lf = 0 → 4 * f_lw ≤ f_la) (h4 : f_lf = 0) (h5 : 0 ≤ f_la ∧ f_la ≤ 1000) (h6 : 0 ≤ f_lc ∧ f_lc ≤ 2000) (h7 : 0 ≤ f_lf ∧ f_lf ≤ 0) (h8 : 0 ≤ f_lr ∧ f_lr ≤ 30) (h9 : 0 ≤ f_lw ∧ f_lw ≤ 250) (h10 : 0 ≤ z26 ∧ z26 ≤ 1000) : 4 * f_lw ≤ f_la := by omega
theorem vc_X6_read_15 {f_la f_lc f_lf f_lr f_lw z26 z541 z543 z545 z547 z549 : Int} (h0 : f_la ≤ z26) (h1 : f_lf = 0 ∨ f_la = z26) (h2 : z541 ≤ z26) (h3 : f_la ≤ z541) (h4 : z543 = 0 ∨ z541 = z26) (h5 : z543 = 0 → 3 * z545 ≤ 6 * z549 + 5 * z541) (h6 : z543 = 0 → 4 * z547 ≤ z541) (h7 : f_lf = 0 → 3 * f_lc ≤ 6 * f_lr + 5 * f_la) (h8 : f_lf = 0 → 4 * f_lw ≤ f_la) (h9 : f_lf = 0) (h10 : f_lf = 0 ∨ 1 ≤ z543) (h11 : 0 ≤ f_la ∧ f_la ≤ 1000) (h12 : 0 ≤ f_lc ∧ f_lc ≤ 2000) (h13 : 0 ≤ f_lf ∧ f_lf ≤ 0) (h14 : 0 ≤ f_lr ∧ f_lr ≤ 30) (h15 : 0 ≤ f_lw ∧ f_lw ≤ 250) (h16 : 0 ≤ z26 ∧ z26 ≤ 1000) (h17 : 0 ≤ z541 ∧ z541 ≤ 1000) (h18 : 0 ≤ z543 ∧ z543 ≤ 4) (h19 : 0 ≤ z545 ∧ z545 ≤ 2000) (h20 : 0 ≤ z547 ∧ z547 ≤ 250) (h21 : 0 ≤ z549 ∧ z549 ≤ 30) : z541 ≤ z26 := by omega
theorem vc_X6_read_16 {f_la f_lc f_lf f_lr f_lw z26 z541 z543 z545 z547 z549 : Int} (h0 : f_la ≤ z26) (h1 : f_lf = 0 ∨ f_la = z26) (h2 : z541 ≤ z26) (h3 : f_la ≤ z541) (h4 : f_lf = 0 ∨ 1 ≤ z543) (h5 : z543 = 0 ∨ z541 = z26) (h6 : z543 = 0 → 3 * z545 ≤ 6 * z549 + 5 * z541) (h7 : z543 = 0 → 4 * z547 ≤ z541) (h8 : f_lf = 0 → 3 * f_lc ≤ 6 * f_lr + 5 * f_la) (h9 : f_lf = 0 → 4 * f_lw ≤ f_la) (h10 : f_lf = 0) (h11 : 0 ≤ f_la ∧ f_la ≤ 1000) (h12 : 0 ≤ f_lc ∧ f_lc ≤ 2000) (h13 : 0 ≤ f_lf ∧ f_lf ≤ 0) (h14 : 0 ≤ f_lr ∧ f_lr ≤ 30) (h15 : 0 ≤ f_lw ∧ f_lw ≤ 250) (h16 : 0 ≤ z26 ∧ z26 ≤ 1000) (h17 : 0 ≤ z541 ∧ z541 ≤ 1000) (h18 : 0 ≤ z543 ∧ z543 ≤ 4) (h19 : 0 ≤ z545 ∧ z545 ≤ 2000) (h20 : 0 ≤ z547 ∧ z547 ≤ 250) (h21 : 0 ≤ z549 ∧ z549 ≤ 30) : z543 = 0 ∨ z541 = z26 := by omega
theorem vc_X6_read_17 {f_la f_lc f_lf f_lr f_lw z26 z541 z543 z545 z547 z549 : Int} (h0 : z541 ≤ z26) (h1 : f_la ≤ z541) (h2 : f_lf = 0 ∨ 1 ≤ z543) (h3 : z543 = 0 ∨ z541 = z26) (h4 : z543 = 0 → 3 * z545 ≤ 6 * z549 + 5 * z541) (h5 : z543 = 0 → 4 * z547 ≤ z541) (h6 : f_la ≤ z26) (h7 : f_lf = 0 ∨ f_la = z26) (h8 : f_lf = 0 → 3 * f_lc ≤ 6 * f_lr + 5 * f_la) (h9 : f_lf = 0 → 4 * f_lw ≤ f_la) (h10 : f_lf = 0) (h11 : 0 ≤ f_la ∧ f_la ≤ 1000) (h12 : 0 ≤ f_lc ∧ f_lc ≤ 2000) (h13 : 0 ≤ f_lf ∧ f_lf ≤ 0) (h14 : 0 ≤ f_lr ∧ f_lr ≤ 30) (h15 : 0 ≤ f_lw ∧ f_lw ≤ 250) (h16 : 0 ≤ z26 ∧ z26 ≤ 1000) (h17 : 0 ≤ z541 ∧ z541 ≤ 1000) (h18 : 0 ≤ z543 ∧ z543 ≤ 4) (h19 : 0 ≤ z545 ∧ z545 ≤ 2000) (h20 : 0 ≤ z547 ∧ z547 ≤ 250) (h21 : 0 ≤ z549 ∧ z549 ≤ 30) : z543 = 0 → 3 * z545 ≤ 6 * z549 + 5 * z541 := by omega
theorem vc_X6_read_18 {f_la f_lc f_lf f_lr f_lw z26 z541 z543 z545 z547 z549 : Int} (h0 : z541 ≤ z26) (h1 : f_la ≤ z541) (h2 : f_lf = 0 ∨ 1 ≤ z543) (h3 : z543 = 0 ∨ z541 = z26) (h4 : z543 = 0 → 3 * z545 ≤ 6 * z549 + 5 * z541) (h5 : z543 = 0 → 4 * z547 ≤ z541) (h6 : f_la ≤ z26) (h7 : f_lf = 0 ∨ f_la = z26) (h8 : f_lf = 0 → 3 * f_lc ≤ 6 * f_lr + 5 * f_la) (h9 : f_lf = 0 → 4 * f_lw ≤ f_la) (h10 : f_lf = 0) (h11 : 0 ≤ f_la ∧ f_la ≤ 1000) (h12 : 0 ≤ f_lc ∧ f_lc ≤ 2000) (h13 : 0 ≤ f_lf ∧ f_lf ≤ 0) (h14 : 0 ≤ f_lr ∧ f_lr ≤ 30) (h15 : 0 ≤ f_lw ∧ f_lw ≤ 250) (h16 : 0 ≤ z26 ∧ z26 ≤ 1000) (h17 : 0 ≤ z541 ∧ z541 ≤ 1000) (h18 : 0 ≤ z543 ∧ z543 ≤ 4) (h19 : 0 ≤ z545 ∧ z545 ≤ 2000) (h20 : 0 ≤ z547 ∧ z547 ≤ 250) (h21 : 0 ≤ z549 ∧ z549 ≤ 30) : z543 = 0 → 4 * z547 ≤ z541 := by omega
theorem vc_X6_read_19 {N z456 : Int} (h0 : (1002 - z456) < N + 1) (h1 : z456 ≤ 1000) (h2 : 0 ≤ z456 ∧ z456 ≤ 1000) : (1002 - (z456 + 1)) < N := by omega
theorem vc_X6_read_20 {z26 : Int} (h0 : 0 ≤ z26 ∧ z26 ≤ 1000) : (0 : Int) ≤ z26 := by omega
theorem vc_X6_read_21 {z26 : Int} (h0 : 0 ≤ z26 ∧ z26 ≤ 1000) : (0 : Int) = 0 ∨ (0 : Int) = z26 := by omega
theorem vc_X6_read_22  : ((0 : Int) : Int) = (0 : Int) → (3 : Int) * ((0 : Int) : Int) ≤ (6 : Int) * ((0 : Int) : Int) + (5 : Int) * ((0 : Int) : Int) := by omega
theorem vc_X6_read_23  : ((0 : Int) : Int) = (0 : Int) → (4 : Int) * ((0 : Int) : Int) ≤ ((0 : Int) : Int) := by omega
theorem vc_X6_read_24  : (1002 - 0) < ((1003 : Nat) : Int) := by omega
theorem vc_X6_read_25  : ((0 : Int) : Int) = (0 : Int) := by omega
set_option maxRecDepth 4000 in
set_option maxHeartbeats 4000000 in
theorem c_X6_read {l : Launch} {D : va_G} {c : Nat → ClassId} {H0 : Heap} {sa : Nat × Nat × (Nat → Int32)} {w : mW} {μ : mM} (hw : mWF w) (hT : mT w μ) (hA1 : mAt w 1 1) {p2 : Int} (hp2 : 0 ≤ p2 ∧ p2 ≤ 1000) {p3 : Int} (hp3 : 0 ≤ p3 ∧ p3 ≤ 12) : sC (gG l D c H0 sa) mX6_read 17 0 0 [.ref 23, .ref 1, iv p2, iv p3] (mk w μ) (qV w [23008, 23009, 23010, 23011, 23012, 23013, 23014, 23015, 23016, 23017, 23018, 23019, 24999, 25999, 26999, 27999, 28999, 29999, 30999, 31999] μ (fun μ1 => ∃ o_ft o_rw o_cs : Int, μ1 23 18 = o_ft ∧ μ1 23 10 = o_rw ∧ μ1 23 11 = o_cs ∧ (¬ o_ft = 0 ∨ wfF (μ1 27) o_rw.toNat o_cs.toNat) ∧ True)) := by
  refine sC.of rfl (by decide) (le_t rfl) ?_
  refine mr_lvE (lv' := [(0, .ref 23), (1, .ref 1), (2, iv p2), (3, iv p3)]) rfl ?_
  refine sv_aload_n (pc := 0) dX6_read_0 rfl rfl ?_
  refine mr_iconst (pc := 1) (z := 0) dX6_read_1 ?_
  refine pf_X6_18 (pc := 2) dX6_read_2 wF_X6_37 (A_23 hw) hT (rW (c := 0) (d := 4) (rR (x := 0)) rfl) fun μ1 u2 T3 => ?_
  refine sv_aload_n (pc := 5) dX6_read_5 rfl rfl ?_
  refine mr_iconst (pc := 6) (z := 0) dX6_read_6 ?_
  refine pf_X6_19 (pc := 7) dX6_read_7 wF_X6_41 (A_23 hw) T3 (rW (c := 0) (d := 1000) (rR (x := 0)) rfl) fun μ4 u5 T6 => ?_
  refine sv_aload_n (pc := 10) dX6_read_10 rfl rfl ?_
  refine mr_iconst (pc := 11) (z := 0) dX6_read_11 ?_
  refine pf_X6_10 (pc := 12) dX6_read_12 wF_X6_44 (A_23 hw) T6 (rW (c := 0) (d := 30) (rR (x := 0)) rfl) fun μ7 u8 T9 => ?_
  refine sv_aload_n (pc := 15) dX6_read_15 rfl rfl ?_
  refine mr_iconst (pc := 16) (z := 0) dX6_read_16 ?_
  refine pf_X6_11 (pc := 17) dX6_read_17 wF_X6_47 (A_23 hw) T9 (rW (c := 0) (d := 2000) (rR (x := 0)) rfl) fun μ10 u11 T12 => ?_
  refine sv_aload_n (pc := 20) dX6_read_20 rfl rfl ?_
  refine mr_iconst (pc := 21) (z := 0) dX6_read_21 ?_
  refine pf_X6_12 (pc := 22) dX6_read_22 wF_X6_50 (A_23 hw) T12 (rW (c := 0) (d := 40) (rR (x := 0)) rfl) fun μ13 u14 T15 => ?_
  refine sv_aload_n (pc := 25) dX6_read_25 rfl rfl ?_
  refine mr_iconst (pc := 26) (z := 0) dX6_read_26 ?_
  refine pf_X6_13 (pc := 27) dX6_read_27 wF_X6_53 (A_23 hw) T15 (rW (c := 0) (d := 250) (rR (x := 0)) rfl) fun μ16 u17 T18 => ?_
  refine sv_aload_n (pc := 30) dX6_read_30 rfl rfl ?_
  refine mr_iload_n (pc := 31) (z := p3) dX6_read_31 rfl rfl ?_
  refine pf_X6_14 (pc := 32) dX6_read_32 wF_X6_56 (A_23 hw) T18 (rW (c := (-2147483648)) (d := 2147483647) hp3 rfl) fun μ19 u20 T21 => ?_
  refine sv_aload_n (pc := 35) dX6_read_35 rfl rfl ?_
  refine sv_aload_n (pc := 36) dX6_read_36 rfl rfl ?_
  refine mr_iload_n (pc := 37) (z := p2) dX6_read_37 rfl rfl ?_
  refine mr_cVV (pc := 38) (c_X6_split hw T21 (A_1 hw) hp2) (gOk _ _ _ _ _) dX6_read_38 (tX6_split _ _ _ _ _) ⟨wV_X6_split, wL_X6_split⟩ wM_X6_59 (gCX6 _ _ _ _ _) rfl (A_23 hw) rfl ⟨le_t rfl, le_t rfl⟩ ⟨le_t rfl, le_t rfl⟩ rfl (le_t rfl) fun μ22 T23 F24 h25 => ?_
  obtain ⟨z26, q27⟩ : ∃ z, μ22 23 8 = z := ⟨_, rfl⟩
  have h28 : (0 ≤ z26 ∧ z26 ≤ 1000) := by rw [← q27]; exact T23 23 23 (A_23 hw) 8
  refine sv_aload_n (pc := 41) dX6_read_41 rfl rfl ?_
  refine mr_iconst (pc := 42) (z := 0) dX6_read_42 ?_
  refine pf_X6_9 (pc := 43) dX6_read_43 wF_X6_63 (A_23 hw) T23 (rW (c := 0) (d := 1000) (rR (x := 0)) rfl) fun μ29 u30 T31 => ?_
  refine mr_iconst (pc := 46) (z := 0) dX6_read_46 ?_
  refine mr_istore (pc := 47) (lv' := [(4, iv 0), (0, .ref 23), (1, .ref 1), (2, iv p2), (3, iv p3)]) dX6_read_47 (by decide) rfl ?_
  have L458 : ∀ (nL458 : Nat) (z456 : Int) (μ457 : mM) (f_la : Int) (f_lf : Int) (f_lc : Int) (f_lw : Int) (f_lr : Int), mT w μ457 → mF [23009, 23010, 23011, 23012, 23013, 23015, 23016, 23017, 23018, 23019, 27999, 28999, 29999, 30999, 31999] w μ29 μ457 → μ457 23 (9) = f_la → μ457 23 (18) = f_lf → μ457 23 (11) = f_lc → μ457 23 (13) = f_lw → μ457 23 (10) = f_lr → (0 ≤ z456 ∧ z456 ≤ 1001) → (f_la ≤ z26) → (f_lf = 0 ∨ f_la = z26) → (f_lf = 0 → 3 * f_lc ≤ 6 * f_lr + 5 * f_la) → (f_lf = 0 → 4 * f_lw ≤ f_la) → (¬ f_lf = 0 ∨ wfF (μ457 27) f_lr.toNat f_lc.toNat) → (1002 - z456) < (nL458 : Int) → sV (gG l D c H0 sa) mX6_read (sRm 17 0 0) (sZ (gG l D c H0 sa) 0 0 (qV w [23008, 23009, 23010, 23011, 23012, 23013, 23014, 23015, 23016, 23017, 23018, 23019, 24999, 25999, 26999, 27999, 28999, 29999, 30999, 31999] μ (fun μ1 => ∃ o_ft o_rw o_cs : Int, μ1 23 18 = o_ft ∧ μ1 23 10 = o_rw ∧ μ1 23 11 = o_cs ∧ (¬ o_ft = 0 ∨ wfF (μ1 27) o_rw.toNat o_cs.toNat) ∧ True))) 49 [(0, .ref 23), (4, iv z456)] [] (mk w μ457) 0 0 := by
    intro nL458
    induction nL458 with
    | zero => intro z456 μ457 f_la f_lf f_lc f_lw f_lr T460 F461 q469 q470 q471 q472 q473 h459 h463 h464 h465 h466 R467 h468; exact ((vc_X6_read_1 h468 h459)).elim
    | succ nL458 ih474 =>
      intro z456 μ457 f_la f_lf f_lc f_lw f_lr T460 F461 q469 q470 q471 q472 q473 h459 h463 h464 h465 h466 R467 h468
      have h475 : (0 ≤ f_la ∧ f_la ≤ 1000) := by rw [← q469]; exact T460 23 23 (A_23 hw) (9)
      have h476 : (0 ≤ f_lf ∧ f_lf ≤ 4) := by rw [← q470]; exact T460 23 23 (A_23 hw) (18)
      have h477 : (0 ≤ f_lc ∧ f_lc ≤ 2000) := by rw [← q471]; exact T460 23 23 (A_23 hw) (11)
      have h478 : (0 ≤ f_lw ∧ f_lw ≤ 250) := by rw [← q472]; exact T460 23 23 (A_23 hw) (13)
      have h479 : (0 ≤ f_lr ∧ f_lr ≤ 30) := by rw [← q473]; exact T460 23 23 (A_23 hw) (10)
      refine mr_iload (pc := 49) (z := z456) dX6_read_49 rfl ?_
      refine mr_sipush (pc := 51) (z := 1000) dX6_read_51 (by decide) ?_
      refine mr_icmp_gt (pc := 54) (tgt := 80) dX6_read_54 (by decide) (r32 h459 rfl) (r32 (rR (x := 1000)) rfl) (fun h506 => ?_) (fun h506 => ?_)
      · have h507 : 1001 ≤ z456 ∧ z456 ≤ 1001 := (vc_X6_read_2 h506 h459)
        exact mr_vret dX6_read_80 rfl (le_t rfl) (le_t rfl) T460 (mF.call (mF.up (mF.call (mF.up (mF.up (mF.up (mF.up (mF.up (mF.up (mF.up mF.refl (A_23 hw) u2 rfl) (A_23 hw) u5 rfl) (A_23 hw) u8 rfl) (A_23 hw) u11 rfl) (A_23 hw) u14 rfl) (A_23 hw) u17 rfl) (A_23 hw) u20 rfl) F24 rfl) (A_23 hw) u30 rfl) F461 rfl) ⟨f_lf, f_lr, f_lc, q470, q473, q471, R467, trivial⟩
      have h508 : 0 ≤ z456 ∧ z456 ≤ 1000 := (vc_X6_read_3 h506 h459)
      refine sv_aload_n (pc := 57) dX6_read_57 rfl rfl ?_
      refine gf_X6_0 (pc := 58) dX6_read_58 wF_X6_9 (A_23 hw) T460 ?_
      refine sv_aload_n (pc := 61) dX6_read_61 rfl rfl ?_
      refine gk_X6_9 (pc := 62) dX6_read_62 wF_X6_63 (A_23 hw) q469 ?_
      refine la_24 (pc := 65) dX6_read_65 (A_24 hw) T460 (rIx (n := 1001) h475 rfl) fun z509 q510 h511 => ?_
      refine mr_iconst (pc := 66) (z := (-1)) dX6_read_66 ?_
      refine mr_icmp_eq (pc := 67) (tgt := 80) dX6_read_67 (by decide) h511 (r32 (rR (x := (-1))) rfl) (fun h533 => ?_) (fun h533 => ?_)
      · have h534 : (-1) ≤ z509 ∧ z509 ≤ (-1) := (vc_X6_read_4 h533 h511)
        exact mr_vret dX6_read_80 rfl (le_t rfl) (le_t rfl) T460 (mF.call (mF.up (mF.call (mF.up (mF.up (mF.up (mF.up (mF.up (mF.up (mF.up mF.refl (A_23 hw) u2 rfl) (A_23 hw) u5 rfl) (A_23 hw) u8 rfl) (A_23 hw) u11 rfl) (A_23 hw) u14 rfl) (A_23 hw) u17 rfl) (A_23 hw) u20 rfl) F24 rfl) (A_23 hw) u30 rfl) F461 rfl) ⟨f_lf, f_lr, f_lc, q470, q473, q471, R467, trivial⟩
      have h535 : f_lf = 0 := (vc_X6_read_5 (cgr q510 (F461.f (A_24 hw) rfl (u30.f (Or.inl (mAt.ne (A_23 hw) (A_24 hw) rfl)) (by have h := h25.1; rw [q27] at h; exact h)))) h463 h464 h465 h466 h533 h475 h477 h476 h479 h478 h28 h511)
      have h536 : 0 ≤ f_lf ∧ f_lf ≤ 0 := (vc_X6_read_6 h535 h464 h465 h466 h475 h477 h476 h479 h478 h28)
      refine sv_aload_n (pc := 70) dX6_read_70 rfl rfl ?_
      refine mr_cVV (pc := 71) (c_X6_readRow_g hw T460 q469 (F461.f (A_23 hw) rfl (u30.f (Or.inr (by decide)) q27)) q470 (F461.f (A_24 hw) rfl (u30.f (Or.inl (mAt.ne (A_23 hw) (A_24 hw) rfl)) (by have h := h25.1; rw [q27] at h; exact h))) q471 q472 q473 (F461.f (A_23 hw) rfl (u30.f (Or.inr (by decide)) (F24.f (A_23 hw) rfl u20.1))) (vc_X6_read_7 h463 h464 h465 h466 h535 h475 h477 h536 h479 h478 h28) vc_X6_read_8 (vc_X6_read_9 h463 h464 h465 h466 h535 h475 h477 h536 h479 h478 h28) (vc_X6_read_10 h464 h465 h466 h535 h463 h475 h477 h536 h479 h478 h28) (vc_X6_read_11 hp3) (vc_X6_read_12 hp3) (vc_X6_read_13 h463 h464 h465 h466 h535 h475 h477 h536 h479 h478 h28) (vc_X6_read_14 h463 h464 h465 h466 h535 h475 h477 h536 h479 h478 h28) (R467.resolve_left (fun h => h (vc_X6_read_10 h464 h465 h466 h535 h463 h475 h477 h536 h479 h478 h28)))) (gOk _ _ _ _ _) dX6_read_71 (tX6_readRow _ _ _ _ _) ⟨wV_X6_readRow, wL_X6_readRow⟩ wM_X6_66 (gCX6 _ _ _ _ _) rfl (A_23 hw) rfl ⟨le_t rfl, le_t rfl⟩ ⟨le_t rfl, le_t rfl⟩ rfl (le_t rfl) fun μ537 T538 F539 h540 => ?_
      obtain ⟨z541, z543, z545, z547, z549, q542, q544, q546, q548, q550, h551⟩ := h540
      have h552 : (0 ≤ z541 ∧ z541 ≤ 1000) := by rw [← q542]; exact T538 23 23 (A_23 hw) 9
      have h553 : (0 ≤ z543 ∧ z543 ≤ 4) := by rw [← q544]; exact T538 23 23 (A_23 hw) 18
      have h554 : (0 ≤ z545 ∧ z545 ≤ 2000) := by rw [← q546]; exact T538 23 23 (A_23 hw) 11
      have h555 : (0 ≤ z547 ∧ z547 ≤ 250) := by rw [← q548]; exact T538 23 23 (A_23 hw) 13
      have h556 : (0 ≤ z549 ∧ z549 ≤ 30) := by rw [← q550]; exact T538 23 23 (A_23 hw) 10
      refine mr_iinc (pc := 74) (lv' := [(4, iv (z456 + 1)), (0, .ref 23)]) dX6_read_74 rfl (by decide) rfl ?_
      refine sv_goto (pc := 77) (tgt := 49) dX6_read_77 (by decide) ?_
      refine mr_lvS (lv' := [(0, .ref 23), (4, iv (z456 + 1))]) (List.forall_mem_cons.mpr ⟨rfl, List.forall_mem_cons.mpr ⟨rfl, fun _ h => absurd h List.not_mem_nil⟩⟩) ?_
      exact ih474 (z456 + 1) μ537 z541 z543 z545 z547 z549 T538 (mF.call (mF.call mF.refl F461 rfl) F539 rfl) q542 q544 q546 q548 q550 (rW (c := 0) (d := 1001) (rAdd (e := 1) (f := 1001) h508 (rR (x := 1)) rfl) rfl) (vc_X6_read_15 h463 h464 h551.1 h551.2.1 h551.2.2.2.1 h551.2.2.2.2.1 h551.2.2.2.2.2.1 h465 h466 h535 h551.2.2.1 h475 h477 h536 h479 h478 h28 h552 h553 h554 h555 h556) (vc_X6_read_16 h463 h464 h551.1 h551.2.1 h551.2.2.1 h551.2.2.2.1 h551.2.2.2.2.1 h551.2.2.2.2.2.1 h465 h466 h535 h475 h477 h536 h479 h478 h28 h552 h553 h554 h555 h556) (vc_X6_read_17 h551.1 h551.2.1 h551.2.2.1 h551.2.2.2.1 h551.2.2.2.2.1 h551.2.2.2.2.2.1 h463 h464 h465 h466 h535 h475 h477 h536 h479 h478 h28 h552 h553 h554 h555 h556) (vc_X6_read_18 h551.1 h551.2.1 h551.2.2.1 h551.2.2.2.1 h551.2.2.2.2.1 h551.2.2.2.2.2.1 h463 h464 h465 h466 h535 h475 h477 h536 h479 h478 h28 h552 h553 h554 h555 h556) h551.2.2.2.2.2.2.1 (vc_X6_read_19 (nS h468) h506 h508)
  refine mr_lvS (lv' := [(0, .ref 23), (4, iv 0)]) (List.forall_mem_cons.mpr ⟨rfl, List.forall_mem_cons.mpr ⟨rfl, fun _ h => absurd h List.not_mem_nil⟩⟩) ?_
  exact L458 1003 0 μ29 0 0 0 0 0 T31 mF.refl u30.1 (u30.f (Or.inr (by decide)) (F24.f (A_23 hw) rfl (u20.f (Or.inr (by decide)) (u17.f (Or.inr (by decide)) (u14.f (Or.inr (by decide)) (u11.f (Or.inr (by decide)) (u8.f (Or.inr (by decide)) (u5.f (Or.inr (by decide)) u2.1)))))))) (u30.f (Or.inr (by decide)) (F24.f (A_23 hw) rfl (u20.f (Or.inr (by decide)) (u17.f (Or.inr (by decide)) (u14.f (Or.inr (by decide)) u11.1))))) (u30.f (Or.inr (by decide)) (F24.f (A_23 hw) rfl (u20.f (Or.inr (by decide)) u17.1))) (u30.f (Or.inr (by decide)) (F24.f (A_23 hw) rfl (u20.f (Or.inr (by decide)) (u17.f (Or.inr (by decide)) (u14.f (Or.inr (by decide)) (u11.f (Or.inr (by decide)) u8.1)))))) (rW (c := 0) (d := 1001) (rR (x := 0)) rfl) (vc_X6_read_20 h28) (vc_X6_read_21 h28) vc_X6_read_22 vc_X6_read_23 (Or.inr (wfF.zero vc_X6_read_25 vc_X6_read_25)) vc_X6_read_24
theorem vc_X4_isWish_r_1 {p2 : Int} (h0 : p2 < 2) (h1 : 0 ≤ p2 ∧ p2 ≤ 20) : 0 ≤ p2 ∧ p2 ≤ 1 := by omega
theorem vc_X4_isWish_r_2 {p2 : Int} (h0 : p2 < 2) (h1 : 0 ≤ p2 ∧ p2 ≤ 1) : (0 : Int) = 1 → 2 ≤ p2 ∧ p2 ≤ 7 := by omega
theorem vc_X4_isWish_r_3 {p2 : Int} (h0 : 2 ≤ p2) (h1 : 0 ≤ p2 ∧ p2 ≤ 20) : 2 ≤ p2 ∧ p2 ≤ 20 := by omega
theorem vc_X4_isWish_r_4 {p2 : Int} (h0 : 7 < p2) (h1 : 2 ≤ p2) (h2 : 2 ≤ p2 ∧ p2 ≤ 20) : 8 ≤ p2 ∧ p2 ≤ 20 := by omega
theorem vc_X4_isWish_r_5 {p2 : Int} (h0 : 2 ≤ p2) (h1 : 7 < p2) (h2 : 8 ≤ p2 ∧ p2 ≤ 20) : (0 : Int) = 1 → 2 ≤ p2 ∧ p2 ≤ 7 := by omega
theorem vc_X4_isWish_r_6 {p2 : Int} (h0 : p2 ≤ 7) (h1 : 2 ≤ p2) (h2 : 2 ≤ p2 ∧ p2 ≤ 20) : 2 ≤ p2 ∧ p2 ≤ 7 := by omega
theorem vc_X4_isWish_r_7 {z7 : Int} (h0 : z7 = 0) (h1 : 0 ≤ z7 ∧ z7 ≤ 9) : 0 ≤ z7 ∧ z7 ≤ 0 := by omega
theorem vc_X4_isWish_r_8 {p2 z176 : Int} (h0 : (8 - z176) < ((0 : Nat) : Int)) (h1 : z176 ≤ p2) (h2 : 2 ≤ p2) (h3 : p2 ≤ 7) (h4 : 2 ≤ p2 ∧ p2 ≤ 7) (h5 : 0 ≤ z176 ∧ z176 ≤ 7) : False := by omega
theorem vc_X4_isWish_r_9 {p2 z176 : Int} (h0 : p2 ≤ z176) (h1 : 2 ≤ p2) (h2 : p2 ≤ 7) (h3 : z176 ≤ p2) (h4 : 2 ≤ p2 ∧ p2 ≤ 7) (h5 : 0 ≤ z176 ∧ z176 ≤ 7) : 2 ≤ z176 ∧ z176 ≤ 7 := by omega
theorem vc_X4_isWish_r_10 {p2 z176 : Int} (h0 : 2 ≤ p2) (h1 : p2 ≤ 7) (h2 : z176 ≤ p2) (h3 : p2 ≤ z176) (h4 : 2 ≤ p2 ∧ p2 ≤ 7) (h5 : 2 ≤ z176 ∧ z176 ≤ 7) : (1 : Int) = 1 → 2 ≤ p2 ∧ p2 ≤ 7 := by omega
theorem vc_X4_isWish_r_11 {p2 z176 : Int} (h0 : 2 ≤ p2) (h1 : p2 ≤ 7) (h2 : z176 ≤ p2) (h3 : p2 ≤ z176) (h4 : 2 ≤ p2 ∧ p2 ≤ 7) (h5 : 2 ≤ z176 ∧ z176 ≤ 7) : z176 = p2 := by omega
theorem vc_X4_isWish_r_12 {p2 z176 : Int} (h0 : z176 < p2) (h1 : 2 ≤ p2) (h2 : p2 ≤ 7) (h3 : z176 ≤ p2) (h4 : 2 ≤ p2 ∧ p2 ≤ 7) (h5 : 0 ≤ z176 ∧ z176 ≤ 7) : 0 ≤ z176 ∧ z176 ≤ 6 := by omega
theorem vc_X4_isWish_r_13 {z191 : Int} (h0 : 7 ≤ z191) (h1 : 0 ≤ z191 ∧ z191 ≤ 9) : 7 ≤ z191 ∧ z191 ≤ 9 := by omega
theorem vc_X4_isWish_r_14 {p2 z176 : Int} (h0 : 2 ≤ p2) (h1 : p2 ≤ 7) (h2 : z176 ≤ p2) (h3 : z176 < p2) (h4 : 2 ≤ p2 ∧ p2 ≤ 7) (h5 : 0 ≤ z176 ∧ z176 ≤ 6) : (0 : Int) = 1 → 2 ≤ p2 ∧ p2 ≤ 7 := by omega
theorem vc_X4_isWish_r_15 {z191 : Int} (h0 : z191 < 7) (h1 : 0 ≤ z191 ∧ z191 ≤ 9) : 0 ≤ z191 ∧ z191 ≤ 6 := by omega
theorem vc_X4_isWish_r_16 {z200 : Int} (h0 : z200 = 0) (h1 : 0 ≤ z200 ∧ z200 ≤ 1) : 0 ≤ z200 ∧ z200 ≤ 0 := by omega
theorem vc_X4_isWish_r_17 {p2 z176 : Int} (h0 : 2 ≤ p2) (h1 : p2 ≤ 7) (h2 : z176 ≤ p2) (h3 : z176 < p2) (h4 : 2 ≤ p2 ∧ p2 ≤ 7) (h5 : 0 ≤ z176 ∧ z176 ≤ 6) : (z176 + 1) ≤ p2 := by omega
theorem vc_X4_isWish_r_18 {N p2 z176 : Int} (h0 : (8 - z176) < N + 1) (h1 : z176 ≤ p2) (h2 : z176 < p2) (h3 : 2 ≤ p2) (h4 : p2 ≤ 7) (h5 : 2 ≤ p2 ∧ p2 ≤ 7) (h6 : 0 ≤ z176 ∧ z176 ≤ 6) : (8 - (z176 + 1)) < N := by omega
theorem vc_X4_isWish_r_19 {z191 : Int} (h0 : z191 < 7) (h1 : 0 ≤ z191 ∧ z191 ≤ 6) : z191 ≤ 6 := by omega
theorem vc_X4_isWish_r_20 {z200 : Int} (h0 : ¬ z200 = 0) (h1 : 0 ≤ z200 ∧ z200 ≤ 1) : 1 ≤ z200 ∧ z200 ≤ 1 := by omega
theorem vc_X4_isWish_r_21 {p2 : Int} (h0 : 2 ≤ p2) (h1 : p2 ≤ 7) (h2 : 2 ≤ p2 ∧ p2 ≤ 7) : (0 : Int) ≤ p2 := by omega
theorem vc_X4_isWish_r_22  : (8 - 0) < ((9 : Nat) : Int) := by omega
theorem vc_X4_isWish_r_23 {z7 : Int} (h0 : ¬ z7 = 0) (h1 : 0 ≤ z7 ∧ z7 ≤ 9) : 1 ≤ z7 ∧ z7 ≤ 9 := by omega
theorem vc_X4_isWish_r_24 {p2 : Int} (h0 : 2 ≤ p2) (h1 : p2 ≤ 7) (h2 : 2 ≤ p2 ∧ p2 ≤ 7) : (0 : Int) = 1 → 2 ≤ p2 ∧ p2 ≤ 7 := by omega
set_option maxRecDepth 4000 in
set_option maxHeartbeats 4000000 in
theorem c_X4_isWish_r {l : Launch} {D : va_G} {c : Nat → ClassId} {H0 : Heap} {sa : Nat × Nat × (Nat → Int32)} {w : mW} {μ : mM} (hw : mWF w) (hT : mT w μ) (hA1 : mAt w 2 2) {p2 : Int} (hp2 : 0 ≤ p2 ∧ p2 ≤ 20) : sC (gG l D c H0 sa) mX4_isWish 1 0 0 [.ref 2, iv p2] (mk w μ) (qP w μ (fun z => (0 ≤ z ∧ z ≤ 1) ∧ (z = 1 → 2 ≤ p2 ∧ p2 ≤ 7) ∧ (z = 1 → allLe μ 2 p2 6) ∧ True)) := by
  refine sC.of rfl (by decide) (le_t rfl) ?_
  refine mr_lvE (lv' := [(0, .ref 2), (1, iv p2)]) rfl ?_
  refine mr_iload_n (pc := 0) (z := p2) dX4_isWish_0 rfl rfl ?_
  refine mr_iconst (pc := 1) (z := 2) dX4_isWish_1 ?_
  refine mr_icmp_lt (pc := 2) (tgt := 19) dX4_isWish_2 (by decide) (r32 hp2 rfl) (r32 (rR (x := 2)) rfl) (fun h1 => ?_) (fun h1 => ?_)
  · have h2 : 0 ≤ p2 ∧ p2 ≤ 1 := (vc_X4_isWish_r_1 h1 hp2)
    refine mr_iconst (pc := 19) (z := 0) dX4_isWish_19 ?_
    exact mr_zretP dX4_isWish_20 rfl (rW (c := 0) (d := 1) (rR (x := 0)) rfl) (le_t rfl) (le_t rfl) ⟨(rW (c := 0) (d := 1) (rR (x := 0)) rfl), (vc_X4_isWish_r_2 h1 h2), (fun h => absurd h (by decide)), trivial⟩
  have h3 : 2 ≤ p2 ∧ p2 ≤ 20 := (vc_X4_isWish_r_3 h1 hp2)
  refine mr_iload_n (pc := 5) (z := p2) dX4_isWish_5 rfl rfl ?_
  refine mr_bipush (pc := 6) (z := 7) dX4_isWish_6 (by decide) ?_
  refine mr_icmp_gt (pc := 8) (tgt := 19) dX4_isWish_8 (by decide) (r32 h3 rfl) (r32 (rR (x := 7)) rfl) (fun h4 => ?_) (fun h4 => ?_)
  · have h5 : 8 ≤ p2 ∧ p2 ≤ 20 := (vc_X4_isWish_r_4 h4 h1 h3)
    refine mr_iconst (pc := 19) (z := 0) dX4_isWish_19 ?_
    exact mr_zretP dX4_isWish_20 rfl (rW (c := 0) (d := 1) (rR (x := 0)) rfl) (le_t rfl) (le_t rfl) ⟨(rW (c := 0) (d := 1) (rR (x := 0)) rfl), (vc_X4_isWish_r_5 h1 h4 h5), (fun h => absurd h (by decide)), trivial⟩
  have h6 : 2 ≤ p2 ∧ p2 ≤ 7 := (vc_X4_isWish_r_6 h4 h1 h3)
  refine sv_aload_n (pc := 11) dX4_isWish_11 rfl rfl ?_
  refine mr_iload_n (pc := 12) (z := p2) dX4_isWish_12 rfl rfl ?_
  refine mr_iconst (pc := 13) (z := 1) dX4_isWish_13 ?_
  refine mr_isub (pc := 14) (x := p2) (y := 1) dX4_isWish_14 ?_
  refine la_2 (pc := 15) dX4_isWish_15 (A_2 hw) hT (rIx (n := 20) (rSub (e := 1) (f := 6) h6 (rR (x := 1)) rfl) rfl) fun z7 q8 h9 => ?_
  refine mr_if_eq (pc := 16) (tgt := 21) dX4_isWish_16 (by decide) (r32 h9 rfl) (fun h10 => ?_) (fun h10 => ?_)
  · have h11 : 0 ≤ z7 ∧ z7 ≤ 0 := (vc_X4_isWish_r_7 h10 h9)
    refine mr_iconst (pc := 21) (z := 0) dX4_isWish_21 ?_
    refine mr_istore_n (pc := 22) (lv' := [(2, iv 0), (0, .ref 2), (1, iv p2)]) dX4_isWish_22 rfl (by decide) rfl ?_
    refine mr_iconst (pc := 23) (z := 0) dX4_isWish_23 ?_
    refine mr_istore_n (pc := 24) (lv' := [(3, iv 0), (2, iv 0), (0, .ref 2), (1, iv p2)]) dX4_isWish_24 rfl (by decide) rfl ?_
    have L178 : ∀ (nL178 : Nat) (z177 z176 : Int), True → ((-2147483648) ≤ z177 ∧ z177 ≤ 2147483647) → (0 ≤ z176 ∧ z176 ≤ 7) → (z176 ≤ p2) → allLe μ 2 z176 6 → (8 - z176) < (nL178 : Int) → sV (gG l D c H0 sa) mX4_isWish (sRm 1 0 0) (sZ (gG l D c H0 sa) 0 0 (qP w μ (fun z => (0 ≤ z ∧ z ≤ 1) ∧ (z = 1 → 2 ≤ p2 ∧ p2 ≤ 7) ∧ (z = 1 → allLe μ 2 p2 6) ∧ True))) 25 [(0, .ref 2), (1, iv p2), (2, iv z177), (3, iv z176)] [] (mk w μ) 0 0 := by
      intro nL178
      induction nL178 with
      | zero => intro z177 z176 _ h179 h180 h184 R185 h186; exact ((vc_X4_isWish_r_8 h186 h184 h1 h4 h6 h180)).elim
      | succ nL178 ih187 =>
        intro z177 z176 _ h179 h180 h184 R185 h186
        refine mr_iload_n (pc := 25) (z := z176) dX4_isWish_25 rfl rfl ?_
        refine mr_iload_n (pc := 26) (z := p2) dX4_isWish_26 rfl rfl ?_
        refine mr_icmp_ge (pc := 27) (tgt := 64) dX4_isWish_27 (by decide) (r32 h180 rfl) (r32 h6 rfl) (fun h188 => ?_) (fun h188 => ?_)
        · have h189 : 2 ≤ z176 ∧ z176 ≤ 7 := (vc_X4_isWish_r_9 h188 h1 h4 h184 h6 h180)
          refine mr_iconst (pc := 64) (z := 1) dX4_isWish_64 ?_
          exact mr_zretP dX4_isWish_65 rfl (rW (c := 0) (d := 1) (rR (x := 1)) rfl) (le_t rfl) (le_t rfl) ⟨(rW (c := 0) (d := 1) (rR (x := 1)) rfl), (vc_X4_isWish_r_10 h1 h4 h184 h188 h6 h189), (fun _ => by have h := R185; rw [show z176 = p2 from (vc_X4_isWish_r_11 h1 h4 h184 h188 h6 h189)] at h; exact h), trivial⟩
        have h190 : 0 ≤ z176 ∧ z176 ≤ 6 := (vc_X4_isWish_r_12 h188 h1 h4 h184 h6 h180)
        refine sv_aload_n (pc := 30) dX4_isWish_30 rfl rfl ?_
        refine mr_iload_n (pc := 31) (z := z176) dX4_isWish_31 rfl rfl ?_
        refine la_2 (pc := 32) dX4_isWish_32 (A_2 hw) hT (rIx (n := 20) h190 rfl) fun z191 q192 h193 => ?_
        refine mr_bipush (pc := 33) (z := 7) dX4_isWish_33 (by decide) ?_
        refine mr_icmp_ge (pc := 35) (tgt := 48) dX4_isWish_35 (by decide) (r32 h193 rfl) (r32 (rR (x := 7)) rfl) (fun h194 => ?_) (fun h194 => ?_)
        · have h195 : 7 ≤ z191 ∧ z191 ≤ 9 := (vc_X4_isWish_r_13 h194 h193)
          refine mr_iconst (pc := 48) (z := 0) dX4_isWish_48 ?_
          exact mr_zretP dX4_isWish_49 rfl (rW (c := 0) (d := 1) (rR (x := 0)) rfl) (le_t rfl) (le_t rfl) ⟨(rW (c := 0) (d := 1) (rR (x := 0)) rfl), (vc_X4_isWish_r_14 h1 h4 h184 h188 h6 h190), (fun h => absurd h (by decide)), trivial⟩
        have h196 : 0 ≤ z191 ∧ z191 ≤ 6 := (vc_X4_isWish_r_15 h194 h193)
        refine mr_iload_n (pc := 38) (z := z177) dX4_isWish_38 rfl rfl ?_
        refine sv_aload_n (pc := 39) dX4_isWish_39 rfl rfl ?_
        refine mr_iload_n (pc := 40) (z := z176) dX4_isWish_40 rfl rfl ?_
        refine lk_2 (pc := 41) dX4_isWish_41 (A_2 hw) (rIx (n := 20) h190 rfl) q192 ?_
        refine mr_ishr (pc := 42) (x := z177) (y := z191) dX4_isWish_42 ?_
        refine mr_gen (P := fun z => (-2147483648) ≤ z ∧ z ≤ 2147483647) (r32i _) fun z197 q198 h199 => ?_
        refine mr_iconst (pc := 43) (z := 1) dX4_isWish_43 ?_
        refine mr_iand (pc := 44) (x := z197) (y := 1) dX4_isWish_44 ?_
        refine mr_gen (P := fun z => 0 ≤ z ∧ z ≤ 1) (rAndR (rR (x := 1)) rfl) fun z200 q201 h202 => ?_
        refine mr_if_eq (pc := 45) (tgt := 50) dX4_isWish_45 (by decide) (r32 h202 rfl) (fun h203 => ?_) (fun h203 => ?_)
        · have h204 : 0 ≤ z200 ∧ z200 ≤ 0 := (vc_X4_isWish_r_16 h203 h202)
          refine mr_iload_n (pc := 50) (z := z177) dX4_isWish_50 rfl rfl ?_
          refine mr_iconst (pc := 51) (z := 1) dX4_isWish_51 ?_
          refine sv_aload_n (pc := 52) dX4_isWish_52 rfl rfl ?_
          refine mr_iload_n (pc := 53) (z := z176) dX4_isWish_53 rfl rfl ?_
          refine lk_2 (pc := 54) dX4_isWish_54 (A_2 hw) (rIx (n := 20) h190 rfl) q192 ?_
          refine mr_ishl (pc := 55) (x := 1) (y := z191) dX4_isWish_55 ?_
          refine mr_gen (P := fun z => (-2147483648) ≤ z ∧ z ≤ 2147483647) (r32i _) fun z205 q206 h207 => ?_
          refine mr_ior (pc := 56) (x := z177) (y := z205) dX4_isWish_56 ?_
          refine mr_gen (P := fun z => (-2147483648) ≤ z ∧ z ≤ 2147483647) (r32i _) fun z208 q209 h210 => ?_
          refine mr_istore_n (pc := 57) (lv' := [(2, iv z208), (0, .ref 2), (1, iv p2), (3, iv z176)]) dX4_isWish_57 rfl (by decide) rfl ?_
          refine mr_iinc (pc := 58) (lv' := [(3, iv (z176 + 1)), (2, iv z208), (0, .ref 2), (1, iv p2)]) dX4_isWish_58 rfl (by decide) rfl ?_
          refine sv_goto (pc := 61) (tgt := 25) dX4_isWish_61 (by decide) ?_
          refine mr_lvS (lv' := [(0, .ref 2), (1, iv p2), (2, iv z208), (3, iv (z176 + 1))]) (List.forall_mem_cons.mpr ⟨rfl, List.forall_mem_cons.mpr ⟨rfl, List.forall_mem_cons.mpr ⟨rfl, List.forall_mem_cons.mpr ⟨rfl, fun _ h => absurd h List.not_mem_nil⟩⟩⟩⟩) ?_
          exact ih187 z208 (z176 + 1) trivial h210 (rW (c := 0) (d := 7) (rAdd (e := 1) (f := 7) h190 (rR (x := 1)) rfl) rfl) (vc_X4_isWish_r_17 h1 h4 h184 h188 h6 h190) (allLe.succ R185 q192 (vc_X4_isWish_r_19 h194 h196)) (vc_X4_isWish_r_18 (nS h186) h184 h188 h1 h4 h6 h190)
        have h211 : 1 ≤ z200 ∧ z200 ≤ 1 := (vc_X4_isWish_r_20 h203 h202)
        refine mr_iconst (pc := 48) (z := 0) dX4_isWish_48 ?_
        exact mr_zretP dX4_isWish_49 rfl (rW (c := 0) (d := 1) (rR (x := 0)) rfl) (le_t rfl) (le_t rfl) ⟨(rW (c := 0) (d := 1) (rR (x := 0)) rfl), (vc_X4_isWish_r_14 h1 h4 h184 h188 h6 h190), (fun h => absurd h (by decide)), trivial⟩
    refine mr_lvS (lv' := [(0, .ref 2), (1, iv p2), (2, iv 0), (3, iv 0)]) (List.forall_mem_cons.mpr ⟨rfl, List.forall_mem_cons.mpr ⟨rfl, List.forall_mem_cons.mpr ⟨rfl, List.forall_mem_cons.mpr ⟨rfl, fun _ h => absurd h List.not_mem_nil⟩⟩⟩⟩) ?_
    exact L178 9 0 0 trivial (rW (c := (-2147483648)) (d := 2147483647) (rR (x := 0)) rfl) (rW (c := 0) (d := 7) (rR (x := 0)) rfl) (vc_X4_isWish_r_21 h1 h4 h6) (allLe.zero (Int.le_refl 0)) vc_X4_isWish_r_22
  have h212 : 1 ≤ z7 ∧ z7 ≤ 9 := (vc_X4_isWish_r_23 h10 h9)
  refine mr_iconst (pc := 19) (z := 0) dX4_isWish_19 ?_
  exact mr_zretP dX4_isWish_20 rfl (rW (c := 0) (d := 1) (rR (x := 0)) rfl) (le_t rfl) (le_t rfl) ⟨(rW (c := 0) (d := 1) (rR (x := 0)) rfl), (vc_X4_isWish_r_24 h1 h4 h6), (fun h => absurd h (by decide)), trivial⟩
theorem vc_X4_addWish_1 {f_p : Int} (h0 : f_p ≤ 6) (h1 : 0 ≤ f_p ∧ f_p ≤ 9) : 0 ≤ f_p ∧ f_p ≤ 6 := by omega
theorem vc_X4_addWish_2 {f_wp : Int} (h0 : f_wp ≤ 4) (h1 : 0 ≤ f_wp ∧ f_wp ≤ 5) : 0 ≤ f_wp ∧ f_wp ≤ 4 := by omega
theorem vc_X4_addWish_3  : (0 : Int) ≤ (0 : Int) := by omega
theorem vc_X4_addWish_4 {f_p f_wp : Int} (h0 : f_p ≤ 6) (h1 : f_wp ≤ 4) (h2 : 0 ≤ f_p ∧ f_p ≤ 6) (h3 : 0 ≤ f_wp ∧ f_wp ≤ 4) : 0 ≤ (((f_p * 5) + f_wp) * 7) := by omega
theorem vc_X4_addWish_5 {p2 : Int} (h0 : 2 ≤ p2 ∧ p2 ≤ 7) : 0 ≤ p2 := by omega
theorem vc_X4_addWish_6 {p2 : Int} (h0 : 2 ≤ p2 ∧ p2 ≤ 7) : 0 + p2 ≤ ((20 : Nat) : Int) := by omega
theorem vc_X4_addWish_7 {f_p f_wp p2 : Int} (h0 : f_p ≤ 6) (h1 : f_wp ≤ 4) (h2 : 0 ≤ f_p ∧ f_p ≤ 6) (h3 : 0 ≤ f_wp ∧ f_wp ≤ 4) (h4 : 2 ≤ p2 ∧ p2 ≤ 7) : (((f_p * 5) + f_wp) * 7) + p2 ≤ ((245 : Nat) : Int) := by omega
set_option maxRecDepth 4000 in
set_option maxHeartbeats 4000000 in
theorem c_X4_addWish {l : Launch} {D : va_G} {c : Nat → ClassId} {H0 : Heap} {sa : Nat × Nat × (Nat → Int32)} {w : mW} {μ : mM} (hw : mWF w) (hT : mT w μ) (hA1 : mAt w 2 2) {p2 : Int} (hp2 : 2 ≤ p2 ∧ p2 ≤ 7) {f_p : Int} (q_f_p : μ 2 ((0 : Int).toNat) = f_p) {f_wp : Int} (q_f_wp : μ 95 (f_p.toNat) = f_wp) (hq0 : f_p ≤ 6) (hq1 : f_wp ≤ 4) (hall : allLe μ 2 p2 6) : sC (gG l D c H0 sa) mX4_addWish 3 0 0 [.ref 94, .ref 2, iv p2] (mk w μ) (qI w [94010, 94011, 95999, 96999, 97999] μ (fun z μ1 => ((-2147483648) ≤ z ∧ z ≤ 2147483647) ∧ True)) := by
  refine sC.of rfl (by decide) (le_t rfl) ?_
  have ht_f_p : (0 ≤ f_p ∧ f_p ≤ 9) := by rw [← q_f_p]; exact hT 2 2 (A_2 hw) ((0 : Int).toNat)
  have ht_f_wp : (0 ≤ f_wp ∧ f_wp ≤ 5) := by rw [← q_f_wp]; exact hT 95 95 (A_95 hw) (f_p.toNat)
  have h1 : 0 ≤ f_p ∧ f_p ≤ 6 := (vc_X4_addWish_1 hq0 ht_f_p)
  have h2 : 0 ≤ f_wp ∧ f_wp ≤ 4 := (vc_X4_addWish_2 hq1 ht_f_wp)
  refine mr_lvE (lv' := [(0, .ref 94), (1, .ref 2), (2, iv p2)]) rfl ?_
  refine sv_aload_n (pc := 0) dX4_addWish_0 rfl rfl ?_
  refine mr_iconst (pc := 1) (z := 0) dX4_addWish_1 ?_
  refine lk_2 (pc := 2) dX4_addWish_2 (A_2 hw) (rIx (n := 20) (rR (x := 0)) rfl) q_f_p ?_
  refine mr_istore_n (pc := 3) (lv' := [(3, iv f_p), (0, .ref 94), (1, .ref 2), (2, iv p2)]) dX4_addWish_3 rfl (by decide) rfl ?_
  refine mr_iload_n (pc := 4) (z := f_p) dX4_addWish_4 rfl rfl ?_
  refine mr_iconst (pc := 5) (z := 5) dX4_addWish_5 ?_
  refine mr_imul (pc := 6) (x := f_p) (y := 5) dX4_addWish_6 ?_
  refine sv_aload_n (pc := 7) dX4_addWish_7 rfl rfl ?_
  refine gf_X4_12 (pc := 8) dX4_addWish_8 wF_X4_11 (A_94 hw) hT ?_
  refine mr_iload_n (pc := 11) (z := f_p) dX4_addWish_11 rfl rfl ?_
  refine lk_95 (pc := 12) dX4_addWish_12 (A_95 hw) (rIx (n := 7) h1 rfl) q_f_wp ?_
  refine mr_iadd (pc := 13) (x := (f_p * 5)) (y := f_wp) dX4_addWish_13 ?_
  refine mr_istore (pc := 14) (lv' := [(4, iv ((f_p * 5) + f_wp)), (3, iv f_p), (0, .ref 94), (1, .ref 2), (2, iv p2)]) dX4_addWish_14 (by decide) rfl ?_
  refine sv_aload_n (pc := 16) dX4_addWish_16 rfl rfl ?_
  refine mr_iconst (pc := 17) (z := 0) dX4_addWish_17 ?_
  refine sv_aload_n (pc := 18) dX4_addWish_18 rfl rfl ?_
  refine gf_X4_0 (pc := 19) dX4_addWish_19 wF_X4_15 (A_94 hw) hT ?_
  refine mr_iload (pc := 22) (z := ((f_p * 5) + f_wp)) dX4_addWish_22 rfl ?_
  refine mr_bipush (pc := 24) (z := 7) dX4_addWish_24 (by decide) ?_
  refine mr_imul (pc := 26) (x := ((f_p * 5) + f_wp)) (y := 7) dX4_addWish_26 ?_
  refine mr_iload_n (pc := 27) (z := p2) dX4_addWish_27 rfl rfl ?_
  refine mr_acR (pc := 28) (sp := 0) (dp := (((f_p * 5) + f_wp) * 7)) (n := p2) dX4_addWish_28 wM_X4_46 wN_J_ac wS_J_ac wI_J_sys rfl (A_2 hw) rfl (A_96 hw) rfl vc_X4_addWish_3 (vc_X4_addWish_4 hq0 hq1 h1 h2) (vc_X4_addWish_5 hp2) (by have h := (A_2 hw).2.2.2 rfl; rw [h]; exact (vc_X4_addWish_6 hp2)) (by have h := (A_96 hw).2.2.2 rfl; rw [h]; exact (vc_X4_addWish_7 hq0 hq1 h1 h2 hp2)) (Nat.le_trans (A_2 hw).2.2.1 (le_t rfl)) (Nat.le_trans (A_96 hw).2.2.1 (le_t rfl)) (le_t rfl) (le_t rfl) (le_t rfl) hT (fun i j h1 h2 _ _ => ⟨(hT 2 2 (A_2 hw) i).1, hall (i : Int) (Int.natCast_nonneg i) (by omega)⟩) fun μ51 q52 T53 => ?_
  have F54 : mF [96999] w μ μ51 := mF.cell q52.1 (A_96 hw) rfl
  refine sv_aload_n (pc := 31) dX4_addWish_31 rfl rfl ?_
  refine gf_X4_1 (pc := 32) dX4_addWish_32 wF_X4_18 (A_94 hw) T53 ?_
  refine mr_iload (pc := 35) (z := ((f_p * 5) + f_wp)) dX4_addWish_35 rfl ?_
  refine mr_iload_n (pc := 37) (z := p2) dX4_addWish_37 rfl rfl ?_
  refine ss_97 (pc := 38) dX4_addWish_38 (A_97 hw) T53 (rIx (n := 35) (rAdd (e := 0) (f := 34) (rMulR (n := 5) (e := 0) (f := 30) h1 rfl) h2 rfl) rfl) (rW (c := 0) (d := 7) hp2 rfl) fun μ55 u56 T57 => ?_
  refine sv_aload_n (pc := 39) dX4_addWish_39 rfl rfl ?_
  refine gf_X4_12 (pc := 40) dX4_addWish_40 wF_X4_11 (A_94 hw) T57 ?_
  refine mr_iload_n (pc := 43) (z := f_p) dX4_addWish_43 rfl rfl ?_
  refine sv_dup2 (pc := 44) dX4_addWish_44 rfl rfl ?_
  refine lk_95 (pc := 45) dX4_addWish_45 (A_95 hw) (rIx (n := 7) h1 rfl) (u56.f (Or.inl (mAt.ne (A_97 hw) (A_95 hw) rfl)) (F54.f (A_95 hw) rfl q_f_wp)) ?_
  refine mr_iconst (pc := 46) (z := 1) dX4_addWish_46 ?_
  refine mr_iadd (pc := 47) (x := f_wp) (y := 1) dX4_addWish_47 ?_
  refine ss_95 (pc := 48) dX4_addWish_48 (A_95 hw) T57 (rIx (n := 7) h1 rfl) (rW (c := 0) (d := 5) (rAdd (e := 1) (f := 5) h2 (rR (x := 1)) rfl) rfl) fun μ58 u59 T60 => ?_
  refine sv_aload_n (pc := 49) dX4_addWish_49 rfl rfl ?_
  refine mr_iconst (pc := 50) (z := 0) dX4_addWish_50 ?_
  refine pf_X4_10 (pc := 51) dX4_addWish_51 wF_X4_52 (A_94 hw) T60 (rW (c := 0) (d := 1) (rR (x := 0)) rfl) fun μ61 u62 T63 => ?_
  refine sv_aload_n (pc := 54) dX4_addWish_54 rfl rfl ?_
  refine mr_iconst (pc := 55) (z := 0) dX4_addWish_55 ?_
  refine pf_X4_11 (pc := 56) dX4_addWish_56 wF_X4_56 (A_94 hw) T63 (rW (c := 0) (d := 1) (rR (x := 0)) rfl) fun μ64 u65 T66 => ?_
  refine sv_aload_n (pc := 59) dX4_addWish_59 rfl rfl ?_
  refine gf_X4_12 (pc := 60) dX4_addWish_60 wF_X4_11 (A_94 hw) T66 ?_
  refine mr_iload_n (pc := 63) (z := f_p) dX4_addWish_63 rfl rfl ?_
  refine lk_95 (pc := 64) dX4_addWish_64 (A_95 hw) (rIx (n := 7) h1 rfl) (u65.f (Or.inl (mAt.ne (A_94 hw) (A_95 hw) rfl)) (u62.f (Or.inl (mAt.ne (A_94 hw) (A_95 hw) rfl)) u59.1)) ?_
  exact mr_iret dX4_addWish_65 rfl (le_t rfl) (le_t rfl) T66 (mF.up (mF.up (mF.up (mF.up (mF.call mF.refl F54 rfl) (A_97 hw) u56 rfl) (A_95 hw) u59 rfl) (A_94 hw) u62 rfl) (A_94 hw) u65 rfl) ⟨(rW (c := (-2147483648)) (d := 2147483647) (rAdd (e := 1) (f := 5) h2 (rR (x := 1)) rfl) rfl), trivial⟩
theorem vc_X11_wish_1 {z1 z8 : Int} (h0 : ¬ z8 = 0) (h1 : (z8 = 1 → 2 ≤ z1 ∧ z1 ≤ 7)) (h2 : 0 ≤ z1 ∧ z1 ≤ 20) (h3 : 0 ≤ z8 ∧ z8 ≤ 1) : 1 ≤ z8 ∧ z8 ≤ 1 := by omega
theorem vc_X11_wish_2 {z1 z8 : Int} (h0 : (z8 = 1 → 2 ≤ z1 ∧ z1 ≤ 7)) (h1 : ¬ z8 = 0) (h2 : 0 ≤ z1 ∧ z1 ≤ 20) (h3 : 1 ≤ z8 ∧ z8 ≤ 1) : z8 = 1 := by omega
theorem vc_X11_wish_3 {z1 z8 : Int} (h0 : 2 ≤ z1 ∧ z1 ≤ 7) (h1 : (z8 = 1 → 2 ≤ z1 ∧ z1 ≤ 7)) (h2 : 0 ≤ z1 ∧ z1 ≤ 20) (h3 : 1 ≤ z8 ∧ z8 ≤ 1) : 2 ≤ z1 ∧ z1 ≤ 7 := by omega
theorem vc_X11_wish_4 {z1 z8 : Int} (h0 : (z8 = 1 → 2 ≤ z1 ∧ z1 ≤ 7)) (h1 : ¬ z8 = 0) (h2 : 2 ≤ z1 ∧ z1 ≤ 7) (h3 : 1 ≤ z8 ∧ z8 ≤ 1) : z8 = 1 := by omega
theorem vc_X11_wish_5 {z1 z8 : Int} (h0 : (z8 = 1 → 2 ≤ z1 ∧ z1 ≤ 7)) (h1 : 2 ≤ z1 ∧ z1 ≤ 7) (h2 : ¬ z8 = 0) (h3 : 1 ≤ z8 ∧ z8 ≤ 1) : 0 < z1 := by omega
theorem vc_X11_wish_6 {z13 : Int} (h0 : z13 ≤ 6) (h1 : 0 ≤ z13 ∧ z13 ≤ 9) : 0 ≤ z13 ∧ z13 ≤ 6 := by omega
theorem vc_X11_wish_7 {z13 : Int} (h0 : z13 ≤ 6) (h1 : 0 ≤ z13 ∧ z13 ≤ 6) : z13 ≤ 6 := by omega
theorem vc_X11_wish_8 {z22 : Int} (h0 : z22 < 0) (h1 : (-1) ≤ z22 ∧ z22 ≤ 4) : (-1) ≤ z22 ∧ z22 ≤ (-1) := by omega
theorem vc_X11_wish_9 {z25 : Int} (h0 : z25 < 5) (h1 : 0 ≤ z25 ∧ z25 ≤ 5) : 0 ≤ z25 ∧ z25 ≤ 4 := by omega
theorem vc_X11_wish_10 {z25 : Int} (h0 : z25 < 5) (h1 : 0 ≤ z25 ∧ z25 ≤ 4) : z25 ≤ 4 := by omega
theorem vc_X11_wish_11 {z25 : Int} (h0 : 5 ≤ z25) (h1 : 0 ≤ z25 ∧ z25 ≤ 5) : 5 ≤ z25 ∧ z25 ≤ 5 := by omega
theorem vc_X11_wish_12 {z22 : Int} (h0 : 0 ≤ z22) (h1 : (-1) ≤ z22 ∧ z22 ≤ 4) : 0 ≤ z22 ∧ z22 ≤ 4 := by omega
theorem vc_X11_wish_13 {z1 z8 : Int} (h0 : z8 = 0) (h1 : (z8 = 1 → 2 ≤ z1 ∧ z1 ≤ 7)) (h2 : 0 ≤ z1 ∧ z1 ≤ 20) (h3 : 0 ≤ z8 ∧ z8 ≤ 1) : 0 ≤ z8 ∧ z8 ≤ 0 := by omega
set_option maxRecDepth 4000 in
set_option maxHeartbeats 4000000 in
theorem c_X11_wish {l : Launch} {D : va_G} {c : Nat → ClassId} {H0 : Heap} {sa : Nat × Nat × (Nat → Int32)} {w : mW} {μ : mM} (hw : mWF w) (hT : mT w μ) : sC (gG l D c H0 sa) mX11_wish 4 0 0 [.ref 0] (mk w μ) (qI w [94010, 94011, 95999, 96999, 97999] μ (fun z μ1 => ((-2147483648) ≤ z ∧ z ≤ 2147483647) ∧ True)) := by
  refine sC.of rfl (by decide) (le_t rfl) ?_
  refine mr_lvE (lv' := [(0, .ref 0)]) rfl ?_
  refine sv_aload_n (pc := 0) dX11_wish_0 rfl rfl ?_
  refine gf_X11_1 (pc := 1) dX11_wish_1 wF_X11_13 (A_0 hw) hT ?_
  refine sv_aload_n (pc := 4) dX11_wish_4 rfl rfl ?_
  refine gf_X11_11 (pc := 5) dX11_wish_5 wF_X11_169 (A_0 hw) hT fun z1 q2 h3 => ?_
  refine mr_cSP (pc := 8) (c_X4_isWish_r hw hT (A_2 hw) h3) (gOk _ _ _ _ _) dX11_wish_8 (tX4_isWish _ _ _ _ _) wS_X4_isWish wM_X11_397 ⟨le_t rfl, le_t rfl⟩ ⟨le_t rfl, le_t rfl⟩ rfl (le_t rfl) fun z8 h7 => ?_
  refine mr_if_ne (pc := 11) (tgt := 16) dX11_wish_11 (by decide) (r32 h7.1 rfl) (fun h9 => ?_) (fun h9 => ?_)
  · have h10 : 1 ≤ z8 ∧ z8 ≤ 1 := (vc_X11_wish_1 h9 h7.2.1 h3 h7.1)
    have h11 : 2 ≤ z1 ∧ z1 ≤ 7 := (h7.2.1 (vc_X11_wish_2 h7.2.1 h9 h3 h10))
    have h12 : 2 ≤ z1 ∧ z1 ≤ 7 := (vc_X11_wish_3 h11 h7.2.1 h3 h10)
    obtain ⟨z13, q14⟩ : ∃ z, μ 2 ((0 : Int).toNat) = z := ⟨_, rfl⟩
    have h15 : (0 ≤ z13 ∧ z13 ≤ 9) := by rw [← q14]; exact hT 2 2 (A_2 hw) ((0 : Int).toNat)
    have h16 : z13 ≤ 6 := allLe.at (h7.2.2.1 (vc_X11_wish_4 h7.2.1 h9 h11 h10)) (e := 0) (by decide) (vc_X11_wish_5 h7.2.1 h11 h9 h10) q14
    have h17 : 0 ≤ z13 ∧ z13 ≤ 6 := (vc_X11_wish_6 h16 h15)
    refine sv_aload_n (pc := 16) dX11_wish_16 rfl rfl ?_
    refine gf_X11_9 (pc := 17) dX11_wish_17 wF_X11_72 (A_0 hw) hT ?_
    refine sv_aload_n (pc := 20) dX11_wish_20 rfl rfl ?_
    refine gf_X11_1 (pc := 21) dX11_wish_21 wF_X11_13 (A_0 hw) hT ?_
    refine mr_iconst (pc := 24) (z := 0) dX11_wish_24 ?_
    refine sv_aload_n (pc := 25) dX11_wish_25 rfl rfl ?_
    refine gk_X11_11 (pc := 26) dX11_wish_26 wF_X11_169 (A_0 hw) q2 ?_
    refine mr_cVP (pc := 29) (c_X4_find_h hw hT (A_2 hw) (rR (x := 0)) (rW (c := 0) (d := 7) h12 rfl) q14 (vc_X11_wish_7 h16 h17)) (gOk _ _ _ _ _) dX11_wish_29 (tX4_find _ _ _ _ _) ⟨wV_X4_find, wL_X4_find⟩ wM_X11_401 (gCX4 _ _ _ _ _) rfl (A_94 hw) rfl ⟨le_t rfl, le_t rfl⟩ ⟨le_t rfl, le_t rfl⟩ rfl (le_t rfl) fun z22 h21 => ?_
    refine mr_if_lt (pc := 32) (tgt := 38) dX11_wish_32 (by decide) (r32 h21.1 rfl) (fun h23 => ?_) (fun h23 => ?_)
    · have h24 : (-1) ≤ z22 ∧ z22 ≤ (-1) := (vc_X11_wish_8 h23 h21.1)
      refine sv_aload_n (pc := 38) dX11_wish_38 rfl rfl ?_
      refine gf_X11_9 (pc := 39) dX11_wish_39 wF_X11_72 (A_0 hw) hT ?_
      refine gf_X4_12 (pc := 42) dX11_wish_42 wF_X11_405 (A_94 hw) hT ?_
      refine sv_aload_n (pc := 45) dX11_wish_45 rfl rfl ?_
      refine gf_X11_1 (pc := 46) dX11_wish_46 wF_X11_13 (A_0 hw) hT ?_
      refine mr_iconst (pc := 49) (z := 0) dX11_wish_49 ?_
      refine lk_2 (pc := 50) dX11_wish_50 (A_2 hw) (rIx (n := 20) (rR (x := 0)) rfl) q14 ?_
      refine la_95 (pc := 51) dX11_wish_51 (A_95 hw) hT (rIx (n := 7) h17 rfl) fun z25 q26 h27 => ?_
      refine mr_iconst (pc := 52) (z := 5) dX11_wish_52 ?_
      refine mr_icmp_lt (pc := 53) (tgt := 59) dX11_wish_53 (by decide) (r32 h27 rfl) (r32 (rR (x := 5)) rfl) (fun h28 => ?_) (fun h28 => ?_)
      · have h29 : 0 ≤ z25 ∧ z25 ≤ 4 := (vc_X11_wish_9 h28 h27)
        refine sv_aload_n (pc := 59) dX11_wish_59 rfl rfl ?_
        refine gf_X11_9 (pc := 60) dX11_wish_60 wF_X11_72 (A_0 hw) hT ?_
        refine sv_aload_n (pc := 63) dX11_wish_63 rfl rfl ?_
        refine gf_X11_1 (pc := 64) dX11_wish_64 wF_X11_13 (A_0 hw) hT ?_
        refine sv_aload_n (pc := 67) dX11_wish_67 rfl rfl ?_
        refine gk_X11_11 (pc := 68) dX11_wish_68 wF_X11_169 (A_0 hw) q2 ?_
        refine mr_cVI (pc := 71) (c_X4_addWish hw hT (A_2 hw) h12 q14 q26 (vc_X11_wish_7 h16 h17) (vc_X11_wish_10 h28 h29) (h7.2.2.1 (vc_X11_wish_4 h7.2.1 h9 h11 h10))) (gOk _ _ _ _ _) dX11_wish_71 (tX4_addWish _ _ _ _ _) ⟨wV_X4_addWish, wL_X4_addWish⟩ wM_X11_408 (gCX4 _ _ _ _ _) rfl (A_94 hw) rfl ⟨le_t rfl, le_t rfl⟩ ⟨le_t rfl, le_t rfl⟩ rfl (le_t rfl) fun z34 μ30 T31 F32 h33 => ?_
        exact mr_iret dX11_wish_74 rfl (le_t rfl) (le_t rfl) T31 (mF.call mF.refl F32 rfl) ⟨h33.1, trivial⟩
      have h35 : 5 ≤ z25 ∧ z25 ≤ 5 := (vc_X11_wish_11 h28 h27)
      refine mr_bipush (pc := 56) (z := (-3)) dX11_wish_56 (by decide) ?_
      exact mr_iret dX11_wish_58 rfl (le_t rfl) (le_t rfl) hT mF.refl ⟨(rW (c := (-2147483648)) (d := 2147483647) (rR (x := (-3))) rfl), trivial⟩
    have h36 : 0 ≤ z22 ∧ z22 ≤ 4 := (vc_X11_wish_12 h23 h21.1)
    refine mr_bipush (pc := 35) (z := (-2)) dX11_wish_35 (by decide) ?_
    exact mr_iret dX11_wish_37 rfl (le_t rfl) (le_t rfl) hT mF.refl ⟨(rW (c := (-2147483648)) (d := 2147483647) (rR (x := (-2))) rfl), trivial⟩
  have h37 : 0 ≤ z8 ∧ z8 ≤ 0 := (vc_X11_wish_13 h9 h7.2.1 h3 h7.1)
  refine mr_iconst (pc := 14) (z := (-1)) dX11_wish_14 ?_
  exact mr_iret dX11_wish_15 rfl (le_t rfl) (le_t rfl) hT mF.refl ⟨(rW (c := (-2147483648)) (d := 2147483647) (rR (x := (-1))) rfl), trivial⟩
