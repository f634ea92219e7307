set_option maxHeartbeats 40000000 in
set_option maxRecDepth 100000 in
theorem op_0 (l : Launch) (D : va_G) (c : Nat → ClassId) (H0 : Heap) (b : Nat) (xs : Nat → Int32) (Z : sZT) (x1 x2 x3 x4 x5 x6 : Int32) (hx1 : xs 1 = x1) (hx2 : xs 2 = x2) (hx3 : xs 3 = x3) (hx4 : xs 4 = x4) (hx5 : xs 5 = x5) (hx6 : xs 6 = x6) (kk : ∀ (hp : sHp) (ce sl : Nat), ce ≤ 600000 → sl ≤ 7302250 → sV (gG l D c H0 (b, 7, xs)) mL room_1 Z 1799 [(3, .int 0), (2, .ref 106), (1, .ref 0), (0, .retAddr 0)] [] hp ce sl) : sV (gG l D c H0 (b, 7, xs)) mL room_1 Z 240 [(3, .int 0), (2, .ref 106), (1, .ref 0), (0, .retAddr 0)] [] (192, tF) 192 297215 := by
  refine sv_aload_n (pc := 240) dL_law_240 rfl rfl ?_
  refine sv_aload_nS (pc := 241) dL_law_241 rfl rfl ?_
  refine sv_iload_n (pc := 242) dL_law_242 rfl rfl ?_
  refine sv_iconst (pc := 243) (v := 1) dL_law_243 (by decide) ?_
  refine sw_iadd (pc := 244) (v := 1) dL_law_244 (by decide) ?_
  refine sw_sld (pc := 245) (v := x1) dL_law_245 (k := 1) (by decide) (by decide) rfl hx1 ?_
  refine sv_aload_nS (pc := 246) dL_law_246 rfl rfl ?_
  refine sv_iload_n (pc := 247) dL_law_247 rfl rfl ?_
  refine sv_iconst (pc := 248) (v := 2) dL_law_248 (by decide) ?_
  refine sw_iadd (pc := 249) (v := 2) dL_law_249 (by decide) ?_
  refine sw_sld (pc := 250) (v := x2) dL_law_250 (k := 2) (by decide) (by decide) rfl hx2 ?_
  refine sv_aload_nS (pc := 251) dL_law_251 rfl rfl ?_
  refine sv_iload_n (pc := 252) dL_law_252 rfl rfl ?_
  refine sv_iconst (pc := 253) (v := 3) dL_law_253 (by decide) ?_
  refine sw_iadd (pc := 254) (v := 3) dL_law_254 (by decide) ?_
  refine sw_sld (pc := 255) (v := x3) dL_law_255 (k := 3) (by decide) (by decide) rfl hx3 ?_
  refine sv_aload_nS (pc := 256) dL_law_256 rfl rfl ?_
  refine sv_iload_n (pc := 257) dL_law_257 rfl rfl ?_
  refine sv_iconst (pc := 258) (v := 4) dL_law_258 (by decide) ?_
  refine sw_iadd (pc := 259) (v := 4) dL_law_259 (by decide) ?_
  refine sw_sld (pc := 260) (v := x4) dL_law_260 (k := 4) (by decide) (by decide) rfl hx4 ?_
  refine sv_aload_nS (pc := 261) dL_law_261 rfl rfl ?_
  refine sv_iload_n (pc := 262) dL_law_262 rfl rfl ?_
  refine sv_iconst (pc := 263) (v := 5) dL_law_263 (by decide) ?_
  refine sw_iadd (pc := 264) (v := 5) dL_law_264 (by decide) ?_
  refine sw_sld (pc := 265) (v := x5) dL_law_265 (k := 5) (by decide) (by decide) rfl hx5 ?_
  refine sv_callV (pc := 266) (M' := mX11_feed) (d' := 20) (C' := 0) (S' := 0) (av := [.int x1, .int x2, .int x3, .int x4, .int x5]) ?_ (gOk _ _ _ _ _) dL_law_266 (tX11_feed _ _ _ _ _) ⟨wV_X11_feed, wL_X11_feed⟩ wM_DomainHouseLaw_13 (gCX11 _ _ _ _ _) rfl (lt_t rfl) rfl ⟨le_t rfl, le_t rfl⟩ ⟨le_t rfl, le_t rfl⟩ rfl (le_t rfl) (fun _ _ h => h)
  refine sC.of rfl (by decide) (le_t rfl) ?_
  refine sv_aload_n (pc := 0) dX11_feed_0 rfl rfl ?_
  refine sw_getfield (pc := 1) dX11_feed_1 (gCX11 _ _ _ _ _) 10 (by decide) wF_X11_76 rfl rfl rfl ?_
  refine sv_bipush (pc := 4) (v := 20) dX11_feed_4 (by decide) ?_
  refine sw_iadd (pc := 6) (v := 20) dX11_feed_6 (by decide) ?_
  refine sv_sipush (pc := 7) (v := 1000) dX11_feed_7 (by decide) ?_
  refine sv_icmp_le (pc := 10) (tgt := 16) dX11_feed_10 (by decide) (fun _ => ?_) (fun h => absurd (by decide) h)
  refine sv_aload_n (pc := 16) dX11_feed_16 rfl rfl ?_
  refine sv_iload_n (pc := 17) dX11_feed_17 rfl rfl ?_
  refine sv_callV (pc := 18) (M' := mX11_feedNumber) (d' := 19) (C' := 0) (S' := 0) (av := [.int x1]) ?_ (gOk _ _ _ _ _) dX11_feed_18 (tX11_feedNumber _ _ _ _ _) ⟨wV_X11_feedNumber, wL_X11_feedNumber⟩ wM_X11_80 (gCX11 _ _ _ _ _) rfl (lt_t rfl) rfl ⟨le_t rfl, le_t rfl⟩ ⟨le_t rfl, le_t rfl⟩ rfl (le_t rfl) (fun _ _ h => h)
  refine sC.of rfl (by decide) (le_t rfl) ?_
  refine sv_bipush (pc := 0) (v := 24) dX11_feedNumber_0 (by decide) ?_
  refine sv_istore_n (pc := 2) dX11_feedNumber_2 rfl (by decide) ?_
  refine sv_iload_n (pc := 3) dX11_feedNumber_3 rfl rfl ?_
  refine sv_if_lt (pc := 4) (tgt := 39) dX11_feedNumber_4 (by decide) (fun h => absurd h (by decide)) (fun _ => ?_)
  refine sv_aload_n (pc := 7) dX11_feedNumber_7 rfl rfl ?_
  refine sw_getfield (pc := 8) dX11_feedNumber_8 (gCX11 _ _ _ _ _) 0 (by decide) wF_X11_9 rfl rfl rfl ?_
  refine sv_aload_n (pc := 11) dX11_feedNumber_11 rfl rfl ?_
  refine sw_getfield (pc := 12) dX11_feedNumber_12 (gCX11 _ _ _ _ _) 10 (by decide) wF_X11_76 rfl rfl rfl ?_
  refine sv_iload_n (pc := 15) dX11_feedNumber_15 rfl rfl ?_
  refine sv_iload_n (pc := 16) dX11_feedNumber_16 rfl rfl ?_
  refine sv_iushr (pc := 17) dX11_feedNumber_17 rfl ?_
  refine sv_sipush (pc := 18) (v := 255) dX11_feedNumber_18 (by decide) ?_
  refine sv_iand (pc := 21) dX11_feedNumber_21 ?_
  refine sw_iastore (pc := 22) (k := 0) dX11_feedNumber_22 rfl rfl rfl (by decide) (by decide) rfl rfl ?_
  refine sv_aload_n (pc := 23) dX11_feedNumber_23 rfl rfl ?_
  refine sv_dup (pc := 24) dX11_feedNumber_24 rfl ?_
  refine sw_getfield (pc := 25) dX11_feedNumber_25 (gCX11 _ _ _ _ _) 10 (by decide) wF_X11_76 rfl rfl rfl ?_
  refine sv_iconst (pc := 28) (v := 1) dX11_feedNumber_28 (by decide) ?_
  refine sw_iadd (pc := 29) (v := 1) dX11_feedNumber_29 (by decide) ?_
  refine sw_putfield (pc := 30) dX11_feedNumber_30 (gCX11 _ _ _ _ _) 10 (by decide) wF_X11_76 rfl rfl rfl (fun _ => rfl) (fun _ => rfl) rfl ?_
  refine sw_iinc (pc := 33) (v := 16) dX11_feedNumber_33 rfl (by decide) (by decide) ?_
  refine sv_goto (pc := 36) (tgt := 3) dX11_feedNumber_36 (by decide) ?_
  refine sv_iload_n (pc := 3) dX11_feedNumber_3 rfl rfl ?_
  refine sv_if_lt (pc := 4) (tgt := 39) dX11_feedNumber_4 (by decide) (fun h => absurd h (by decide)) (fun _ => ?_)
  refine sv_aload_n (pc := 7) dX11_feedNumber_7 rfl rfl ?_
  refine sw_getfield (pc := 8) dX11_feedNumber_8 (gCX11 _ _ _ _ _) 0 (by decide) wF_X11_9 rfl rfl rfl ?_
  refine sv_aload_n (pc := 11) dX11_feedNumber_11 rfl rfl ?_
  refine sw_getfield (pc := 12) dX11_feedNumber_12 (gCX11 _ _ _ _ _) 10 (by decide) wF_X11_76 rfl rfl rfl ?_
  refine sv_iload_n (pc := 15) dX11_feedNumber_15 rfl rfl ?_
  refine sv_iload_n (pc := 16) dX11_feedNumber_16 rfl rfl ?_
  refine sv_iushr (pc := 17) dX11_feedNumber_17 rfl ?_
  refine sv_sipush (pc := 18) (v := 255) dX11_feedNumber_18 (by decide) ?_
  refine sv_iand (pc := 21) dX11_feedNumber_21 ?_
  refine sw_iastore (pc := 22) (k := 1) dX11_feedNumber_22 rfl rfl rfl (by decide) (by decide) rfl rfl ?_
  refine sv_aload_n (pc := 23) dX11_feedNumber_23 rfl rfl ?_
  refine sv_dup (pc := 24) dX11_feedNumber_24 rfl ?_
  refine sw_getfield (pc := 25) dX11_feedNumber_25 (gCX11 _ _ _ _ _) 10 (by decide) wF_X11_76 rfl rfl rfl ?_
  refine sv_iconst (pc := 28) (v := 1) dX11_feedNumber_28 (by decide) ?_
  refine sw_iadd (pc := 29) (v := 2) dX11_feedNumber_29 (by decide) ?_
  refine sw_putfield (pc := 30) dX11_feedNumber_30 (gCX11 _ _ _ _ _) 10 (by decide) wF_X11_76 rfl rfl rfl (fun _ => rfl) (fun _ => rfl) rfl ?_
  refine sw_iinc (pc := 33) (v := 8) dX11_feedNumber_33 rfl (by decide) (by decide) ?_
  refine sv_goto (pc := 36) (tgt := 3) dX11_feedNumber_36 (by decide) ?_
  refine sv_iload_n (pc := 3) dX11_feedNumber_3 rfl rfl ?_
  refine sv_if_lt (pc := 4) (tgt := 39) dX11_feedNumber_4 (by decide) (fun h => absurd h (by decide)) (fun _ => ?_)
  refine sv_aload_n (pc := 7) dX11_feedNumber_7 rfl rfl ?_
  refine sw_getfield (pc := 8) dX11_feedNumber_8 (gCX11 _ _ _ _ _) 0 (by decide) wF_X11_9 rfl rfl rfl ?_
  refine sv_aload_n (pc := 11) dX11_feedNumber_11 rfl rfl ?_
  refine sw_getfield (pc := 12) dX11_feedNumber_12 (gCX11 _ _ _ _ _) 10 (by decide) wF_X11_76 rfl rfl rfl ?_
  refine sv_iload_n (pc := 15) dX11_feedNumber_15 rfl rfl ?_
  refine sv_iload_n (pc := 16) dX11_feedNumber_16 rfl rfl ?_
  refine sv_iushr (pc := 17) dX11_feedNumber_17 rfl ?_
  refine sv_sipush (pc := 18) (v := 255) dX11_feedNumber_18 (by decide) ?_
  refine sv_iand (pc := 21) dX11_feedNumber_21 ?_
  refine sw_iastore (pc := 22) (k := 2) dX11_feedNumber_22 rfl rfl rfl (by decide) (by decide) rfl rfl ?_
  refine sv_aload_n (pc := 23) dX11_feedNumber_23 rfl rfl ?_
  refine sv_dup (pc := 24) dX11_feedNumber_24 rfl ?_
  refine sw_getfield (pc := 25) dX11_feedNumber_25 (gCX11 _ _ _ _ _) 10 (by decide) wF_X11_76 rfl rfl rfl ?_
  refine sv_iconst (pc := 28) (v := 1) dX11_feedNumber_28 (by decide) ?_
  refine sw_iadd (pc := 29) (v := 3) dX11_feedNumber_29 (by decide) ?_
  refine sw_putfield (pc := 30) dX11_feedNumber_30 (gCX11 _ _ _ _ _) 10 (by decide) wF_X11_76 rfl rfl rfl (fun _ => rfl) (fun _ => rfl) rfl ?_
  refine sw_iinc (pc := 33) (v := 0) dX11_feedNumber_33 rfl (by decide) (by decide) ?_
  refine sv_goto (pc := 36) (tgt := 3) dX11_feedNumber_36 (by decide) ?_
  refine sv_iload_n (pc := 3) dX11_feedNumber_3 rfl rfl ?_
  refine sv_if_lt (pc := 4) (tgt := 39) dX11_feedNumber_4 (by decide) (fun h => absurd h (by decide)) (fun _ => ?_)
  refine sv_aload_n (pc := 7) dX11_feedNumber_7 rfl rfl ?_
  refine sw_getfield (pc := 8) dX11_feedNumber_8 (gCX11 _ _ _ _ _) 0 (by decide) wF_X11_9 rfl rfl rfl ?_
  refine sv_aload_n (pc := 11) dX11_feedNumber_11 rfl rfl ?_
  refine sw_getfield (pc := 12) dX11_feedNumber_12 (gCX11 _ _ _ _ _) 10 (by decide) wF_X11_76 rfl rfl rfl ?_
  refine sv_iload_n (pc := 15) dX11_feedNumber_15 rfl rfl ?_
  refine sv_iload_n (pc := 16) dX11_feedNumber_16 rfl rfl ?_
  refine sv_iushr (pc := 17) dX11_feedNumber_17 rfl ?_
  refine sv_sipush (pc := 18) (v := 255) dX11_feedNumber_18 (by decide) ?_
  refine sv_iand (pc := 21) dX11_feedNumber_21 ?_
  refine sw_iastore (pc := 22) (k := 3) dX11_feedNumber_22 rfl rfl rfl (by decide) (by decide) rfl rfl ?_
  refine sv_aload_n (pc := 23) dX11_feedNumber_23 rfl rfl ?_
  refine sv_dup (pc := 24) dX11_feedNumber_24 rfl ?_
  refine sw_getfield (pc := 25) dX11_feedNumber_25 (gCX11 _ _ _ _ _) 10 (by decide) wF_X11_76 rfl rfl rfl ?_
  refine sv_iconst (pc := 28) (v := 1) dX11_feedNumber_28 (by decide) ?_
  refine sw_iadd (pc := 29) (v := 4) dX11_feedNumber_29 (by decide) ?_
  refine sw_putfield (pc := 30) dX11_feedNumber_30 (gCX11 _ _ _ _ _) 10 (by decide) wF_X11_76 rfl rfl rfl (fun _ => rfl) (fun _ => rfl) rfl ?_
  refine sw_iinc (pc := 33) (v := (-8)) dX11_feedNumber_33 rfl (by decide) (by decide) ?_
  refine sv_goto (pc := 36) (tgt := 3) dX11_feedNumber_36 (by decide) ?_
  refine sv_iload_n (pc := 3) dX11_feedNumber_3 rfl rfl ?_
  refine sv_if_lt (pc := 4) (tgt := 39) dX11_feedNumber_4 (by decide) (fun _ => ?_) (fun h => absurd (by decide) h)
  refine sv_vret (pc := 39) dX11_feedNumber_39 rfl (le_t rfl) (le_t rfl) ?_
  refine sv_aload_n (pc := 21) dX11_feed_21 rfl rfl ?_
  refine sv_iload_n (pc := 22) dX11_feed_22 rfl rfl ?_
  refine sv_callV (pc := 23) (M' := mX11_feedNumber) (d' := 19) (C' := 0) (S' := 0) (av := [.int x2]) ?_ (gOk _ _ _ _ _) dX11_feed_23 (tX11_feedNumber _ _ _ _ _) ⟨wV_X11_feedNumber, wL_X11_feedNumber⟩ wM_X11_80 (gCX11 _ _ _ _ _) rfl (lt_t rfl) rfl ⟨le_t rfl, le_t rfl⟩ ⟨le_t rfl, le_t rfl⟩ rfl (le_t rfl) (fun _ _ h => h)
  refine sC.of rfl (by decide) (le_t rfl) ?_
  refine sv_bipush (pc := 0) (v := 24) dX11_feedNumber_0 (by decide) ?_
  refine sv_istore_n (pc := 2) dX11_feedNumber_2 rfl (by decide) ?_
  refine sv_iload_n (pc := 3) dX11_feedNumber_3 rfl rfl ?_
  refine sv_if_lt (pc := 4) (tgt := 39) dX11_feedNumber_4 (by decide) (fun h => absurd h (by decide)) (fun _ => ?_)
  refine sv_aload_n (pc := 7) dX11_feedNumber_7 rfl rfl ?_
  refine sw_getfield (pc := 8) dX11_feedNumber_8 (gCX11 _ _ _ _ _) 0 (by decide) wF_X11_9 rfl rfl rfl ?_
  refine sv_aload_n (pc := 11) dX11_feedNumber_11 rfl rfl ?_
  refine sw_getfield (pc := 12) dX11_feedNumber_12 (gCX11 _ _ _ _ _) 10 (by decide) wF_X11_76 rfl rfl rfl ?_
  refine sv_iload_n (pc := 15) dX11_feedNumber_15 rfl rfl ?_
  refine sv_iload_n (pc := 16) dX11_feedNumber_16 rfl rfl ?_
  refine sv_iushr (pc := 17) dX11_feedNumber_17 rfl ?_
  refine sv_sipush (pc := 18) (v := 255) dX11_feedNumber_18 (by decide) ?_
  refine sv_iand (pc := 21) dX11_feedNumber_21 ?_
  refine sw_iastore (pc := 22) (k := 4) dX11_feedNumber_22 rfl rfl rfl (by decide) (by decide) rfl rfl ?_
  refine sv_aload_n (pc := 23) dX11_feedNumber_23 rfl rfl ?_
  refine sv_dup (pc := 24) dX11_feedNumber_24 rfl ?_
  refine sw_getfield (pc := 25) dX11_feedNumber_25 (gCX11 _ _ _ _ _) 10 (by decide) wF_X11_76 rfl rfl rfl ?_
  refine sv_iconst (pc := 28) (v := 1) dX11_feedNumber_28 (by decide) ?_
  refine sw_iadd (pc := 29) (v := 5) dX11_feedNumber_29 (by decide) ?_
  refine sw_putfield (pc := 30) dX11_feedNumber_30 (gCX11 _ _ _ _ _) 10 (by decide) wF_X11_76 rfl rfl rfl (fun _ => rfl) (fun _ => rfl) rfl ?_
  refine sw_iinc (pc := 33) (v := 16) dX11_feedNumber_33 rfl (by decide) (by decide) ?_
  refine sv_goto (pc := 36) (tgt := 3) dX11_feedNumber_36 (by decide) ?_
  refine sv_iload_n (pc := 3) dX11_feedNumber_3 rfl rfl ?_
  refine sv_if_lt (pc := 4) (tgt := 39) dX11_feedNumber_4 (by decide) (fun h => absurd h (by decide)) (fun _ => ?_)
  refine sv_aload_n (pc := 7) dX11_feedNumber_7 rfl rfl ?_
  refine sw_getfield (pc := 8) dX11_feedNumber_8 (gCX11 _ _ _ _ _) 0 (by decide) wF_X11_9 rfl rfl rfl ?_
  refine sv_aload_n (pc := 11) dX11_feedNumber_11 rfl rfl ?_
  refine sw_getfield (pc := 12) dX11_feedNumber_12 (gCX11 _ _ _ _ _) 10 (by decide) wF_X11_76 rfl rfl rfl ?_
  refine sv_iload_n (pc := 15) dX11_feedNumber_15 rfl rfl ?_
  refine sv_iload_n (pc := 16) dX11_feedNumber_16 rfl rfl ?_
  refine sv_iushr (pc := 17) dX11_feedNumber_17 rfl ?_
  refine sv_sipush (pc := 18) (v := 255) dX11_feedNumber_18 (by decide) ?_
  refine sv_iand (pc := 21) dX11_feedNumber_21 ?_
  refine sw_iastore (pc := 22) (k := 5) dX11_feedNumber_22 rfl rfl rfl (by decide) (by decide) rfl rfl ?_
  refine sv_aload_n (pc := 23) dX11_feedNumber_23 rfl rfl ?_
  refine sv_dup (pc := 24) dX11_feedNumber_24 rfl ?_
  refine sw_getfield (pc := 25) dX11_feedNumber_25 (gCX11 _ _ _ _ _) 10 (by decide) wF_X11_76 rfl rfl rfl ?_
  refine sv_iconst (pc := 28) (v := 1) dX11_feedNumber_28 (by decide) ?_
  refine sw_iadd (pc := 29) (v := 6) dX11_feedNumber_29 (by decide) ?_
  refine sw_putfield (pc := 30) dX11_feedNumber_30 (gCX11 _ _ _ _ _) 10 (by decide) wF_X11_76 rfl rfl rfl (fun _ => rfl) (fun _ => rfl) rfl ?_
  refine sw_iinc (pc := 33) (v := 8) dX11_feedNumber_33 rfl (by decide) (by decide) ?_
  refine sv_goto (pc := 36) (tgt := 3) dX11_feedNumber_36 (by decide) ?_
  refine sv_iload_n (pc := 3) dX11_feedNumber_3 rfl rfl ?_
  refine sv_if_lt (pc := 4) (tgt := 39) dX11_feedNumber_4 (by decide) (fun h => absurd h (by decide)) (fun _ => ?_)
  refine sv_aload_n (pc := 7) dX11_feedNumber_7 rfl rfl ?_
  refine sw_getfield (pc := 8) dX11_feedNumber_8 (gCX11 _ _ _ _ _) 0 (by decide) wF_X11_9 rfl rfl rfl ?_
  refine sv_aload_n (pc := 11) dX11_feedNumber_11 rfl rfl ?_
  refine sw_getfield (pc := 12) dX11_feedNumber_12 (gCX11 _ _ _ _ _) 10 (by decide) wF_X11_76 rfl rfl rfl ?_
  refine sv_iload_n (pc := 15) dX11_feedNumber_15 rfl rfl ?_
  refine sv_iload_n (pc := 16) dX11_feedNumber_16 rfl rfl ?_
  refine sv_iushr (pc := 17) dX11_feedNumber_17 rfl ?_
  refine sv_sipush (pc := 18) (v := 255) dX11_feedNumber_18 (by decide) ?_
  refine sv_iand (pc := 21) dX11_feedNumber_21 ?_
  refine sw_iastore (pc := 22) (k := 6) dX11_feedNumber_22 rfl rfl rfl (by decide) (by decide) rfl rfl ?_
  refine sv_aload_n (pc := 23) dX11_feedNumber_23 rfl rfl ?_
  refine sv_dup (pc := 24) dX11_feedNumber_24 rfl ?_
  refine sw_getfield (pc := 25) dX11_feedNumber_25 (gCX11 _ _ _ _ _) 10 (by decide) wF_X11_76 rfl rfl rfl ?_
  refine sv_iconst (pc := 28) (v := 1) dX11_feedNumber_28 (by decide) ?_
  refine sw_iadd (pc := 29) (v := 7) dX11_feedNumber_29 (by decide) ?_
  refine sw_putfield (pc := 30) dX11_feedNumber_30 (gCX11 _ _ _ _ _) 10 (by decide) wF_X11_76 rfl rfl rfl (fun _ => rfl) (fun _ => rfl) rfl ?_
  refine sw_iinc (pc := 33) (v := 0) dX11_feedNumber_33 rfl (by decide) (by decide) ?_
  refine sv_goto (pc := 36) (tgt := 3) dX11_feedNumber_36 (by decide) ?_
  refine sv_iload_n (pc := 3) dX11_feedNumber_3 rfl rfl ?_
  refine sv_if_lt (pc := 4) (tgt := 39) dX11_feedNumber_4 (by decide) (fun h => absurd h (by decide)) (fun _ => ?_)
  refine sv_aload_n (pc := 7) dX11_feedNumber_7 rfl rfl ?_
  refine sw_getfield (pc := 8) dX11_feedNumber_8 (gCX11 _ _ _ _ _) 0 (by decide) wF_X11_9 rfl rfl rfl ?_
  refine sv_aload_n (pc := 11) dX11_feedNumber_11 rfl rfl ?_
  refine sw_getfield (pc := 12) dX11_feedNumber_12 (gCX11 _ _ _ _ _) 10 (by decide) wF_X11_76 rfl rfl rfl ?_
  refine sv_iload_n (pc := 15) dX11_feedNumber_15 rfl rfl ?_
  refine sv_iload_n (pc := 16) dX11_feedNumber_16 rfl rfl ?_
  refine sv_iushr (pc := 17) dX11_feedNumber_17 rfl ?_
  refine sv_sipush (pc := 18) (v := 255) dX11_feedNumber_18 (by decide) ?_
  refine sv_iand (pc := 21) dX11_feedNumber_21 ?_
  refine sw_iastore (pc := 22) (k := 7) dX11_feedNumber_22 rfl rfl rfl (by decide) (by decide) rfl rfl ?_
  refine sv_aload_n (pc := 23) dX11_feedNumber_23 rfl rfl ?_
  refine sv_dup (pc := 24) dX11_feedNumber_24 rfl ?_
  refine sw_getfield (pc := 25) dX11_feedNumber_25 (gCX11 _ _ _ _ _) 10 (by decide) wF_X11_76 rfl rfl rfl ?_
  refine sv_iconst (pc := 28) (v := 1) dX11_feedNumber_28 (by decide) ?_
  refine sw_iadd (pc := 29) (v := 8) dX11_feedNumber_29 (by decide) ?_
  refine sw_putfield (pc := 30) dX11_feedNumber_30 (gCX11 _ _ _ _ _) 10 (by decide) wF_X11_76 rfl rfl rfl (fun _ => rfl) (fun _ => rfl) rfl ?_
  refine sw_iinc (pc := 33) (v := (-8)) dX11_feedNumber_33 rfl (by decide) (by decide) ?_
  refine sv_goto (pc := 36) (tgt := 3) dX11_feedNumber_36 (by decide) ?_
  refine sv_iload_n (pc := 3) dX11_feedNumber_3 rfl rfl ?_
  refine sv_if_lt (pc := 4) (tgt := 39) dX11_feedNumber_4 (by decide) (fun _ => ?_) (fun h => absurd (by decide) h)
  refine sv_vret (pc := 39) dX11_feedNumber_39 rfl (le_t rfl) (le_t rfl) ?_
  refine sv_aload_n (pc := 26) dX11_feed_26 rfl rfl ?_
  refine sv_iload_n (pc := 27) dX11_feed_27 rfl rfl ?_
  refine sv_callV (pc := 28) (M' := mX11_feedNumber) (d' := 19) (C' := 0) (S' := 0) (av := [.int x3]) ?_ (gOk _ _ _ _ _) dX11_feed_28 (tX11_feedNumber _ _ _ _ _) ⟨wV_X11_feedNumber, wL_X11_feedNumber⟩ wM_X11_80 (gCX11 _ _ _ _ _) rfl (lt_t rfl) rfl ⟨le_t rfl, le_t rfl⟩ ⟨le_t rfl, le_t rfl⟩ rfl (le_t rfl) (fun _ _ h => h)
  refine sC.of rfl (by decide) (le_t rfl) ?_
  refine sv_bipush (pc := 0) (v := 24) dX11_feedNumber_0 (by decide) ?_
  refine sv_istore_n (pc := 2) dX11_feedNumber_2 rfl (by decide) ?_
  refine sv_iload_n (pc := 3) dX11_feedNumber_3 rfl rfl ?_
  refine sv_if_lt (pc := 4) (tgt := 39) dX11_feedNumber_4 (by decide) (fun h => absurd h (by decide)) (fun _ => ?_)
  refine sv_aload_n (pc := 7) dX11_feedNumber_7 rfl rfl ?_
  refine sw_getfield (pc := 8) dX11_feedNumber_8 (gCX11 _ _ _ _ _) 0 (by decide) wF_X11_9 rfl rfl rfl ?_
  refine sv_aload_n (pc := 11) dX11_feedNumber_11 rfl rfl ?_
  refine sw_getfield (pc := 12) dX11_feedNumber_12 (gCX11 _ _ _ _ _) 10 (by decide) wF_X11_76 rfl rfl rfl ?_
  refine sv_iload_n (pc := 15) dX11_feedNumber_15 rfl rfl ?_
  refine sv_iload_n (pc := 16) dX11_feedNumber_16 rfl rfl ?_
  refine sv_iushr (pc := 17) dX11_feedNumber_17 rfl ?_
  refine sv_sipush (pc := 18) (v := 255) dX11_feedNumber_18 (by decide) ?_
  refine sv_iand (pc := 21) dX11_feedNumber_21 ?_
  refine sw_iastore (pc := 22) (k := 8) dX11_feedNumber_22 rfl rfl rfl (by decide) (by decide) rfl rfl ?_
  refine sv_aload_n (pc := 23) dX11_feedNumber_23 rfl rfl ?_
  refine sv_dup (pc := 24) dX11_feedNumber_24 rfl ?_
  refine sw_getfield (pc := 25) dX11_feedNumber_25 (gCX11 _ _ _ _ _) 10 (by decide) wF_X11_76 rfl rfl rfl ?_
  refine sv_iconst (pc := 28) (v := 1) dX11_feedNumber_28 (by decide) ?_
  refine sw_iadd (pc := 29) (v := 9) dX11_feedNumber_29 (by decide) ?_
  refine sw_putfield (pc := 30) dX11_feedNumber_30 (gCX11 _ _ _ _ _) 10 (by decide) wF_X11_76 rfl rfl rfl (fun _ => rfl) (fun _ => rfl) rfl ?_
  refine sw_iinc (pc := 33) (v := 16) dX11_feedNumber_33 rfl (by decide) (by decide) ?_
  refine sv_goto (pc := 36) (tgt := 3) dX11_feedNumber_36 (by decide) ?_
  refine sv_iload_n (pc := 3) dX11_feedNumber_3 rfl rfl ?_
  refine sv_if_lt (pc := 4) (tgt := 39) dX11_feedNumber_4 (by decide) (fun h => absurd h (by decide)) (fun _ => ?_)
  refine sv_aload_n (pc := 7) dX11_feedNumber_7 rfl rfl ?_
  refine sw_getfield (pc := 8) dX11_feedNumber_8 (gCX11 _ _ _ _ _) 0 (by decide) wF_X11_9 rfl rfl rfl ?_
  refine sv_aload_n (pc := 11) dX11_feedNumber_11 rfl rfl ?_
  refine sw_getfield (pc := 12) dX11_feedNumber_12 (gCX11 _ _ _ _ _) 10 (by decide) wF_X11_76 rfl rfl rfl ?_
  refine sv_iload_n (pc := 15) dX11_feedNumber_15 rfl rfl ?_
  refine sv_iload_n (pc := 16) dX11_feedNumber_16 rfl rfl ?_
  refine sv_iushr (pc := 17) dX11_feedNumber_17 rfl ?_
  refine sv_sipush (pc := 18) (v := 255) dX11_feedNumber_18 (by decide) ?_
  refine sv_iand (pc := 21) dX11_feedNumber_21 ?_
  refine sw_iastore (pc := 22) (k := 9) dX11_feedNumber_22 rfl rfl rfl (by decide) (by decide) rfl rfl ?_
  refine sv_aload_n (pc := 23) dX11_feedNumber_23 rfl rfl ?_
  refine sv_dup (pc := 24) dX11_feedNumber_24 rfl ?_
  refine sw_getfield (pc := 25) dX11_feedNumber_25 (gCX11 _ _ _ _ _) 10 (by decide) wF_X11_76 rfl rfl rfl ?_
  refine sv_iconst (pc := 28) (v := 1) dX11_feedNumber_28 (by decide) ?_
  refine sw_iadd (pc := 29) (v := 10) dX11_feedNumber_29 (by decide) ?_
  refine sw_putfield (pc := 30) dX11_feedNumber_30 (gCX11 _ _ _ _ _) 10 (by decide) wF_X11_76 rfl rfl rfl (fun _ => rfl) (fun _ => rfl) rfl ?_
  refine sw_iinc (pc := 33) (v := 8) dX11_feedNumber_33 rfl (by decide) (by decide) ?_
  refine sv_goto (pc := 36) (tgt := 3) dX11_feedNumber_36 (by decide) ?_
  refine sv_iload_n (pc := 3) dX11_feedNumber_3 rfl rfl ?_
  refine sv_if_lt (pc := 4) (tgt := 39) dX11_feedNumber_4 (by decide) (fun h => absurd h (by decide)) (fun _ => ?_)
  refine sv_aload_n (pc := 7) dX11_feedNumber_7 rfl rfl ?_
  refine sw_getfield (pc := 8) dX11_feedNumber_8 (gCX11 _ _ _ _ _) 0 (by decide) wF_X11_9 rfl rfl rfl ?_
  refine sv_aload_n (pc := 11) dX11_feedNumber_11 rfl rfl ?_
  refine sw_getfield (pc := 12) dX11_feedNumber_12 (gCX11 _ _ _ _ _) 10 (by decide) wF_X11_76 rfl rfl rfl ?_
  refine sv_iload_n (pc := 15) dX11_feedNumber_15 rfl rfl ?_
  refine sv_iload_n (pc := 16) dX11_feedNumber_16 rfl rfl ?_
  refine sv_iushr (pc := 17) dX11_feedNumber_17 rfl ?_
  refine sv_sipush (pc := 18) (v := 255) dX11_feedNumber_18 (by decide) ?_
  refine sv_iand (pc := 21) dX11_feedNumber_21 ?_
  refine sw_iastore (pc := 22) (k := 10) dX11_feedNumber_22 rfl rfl rfl (by decide) (by decide) rfl rfl ?_
  refine sv_aload_n (pc := 23) dX11_feedNumber_23 rfl rfl ?_
  refine sv_dup (pc := 24) dX11_feedNumber_24 rfl ?_
  refine sw_getfield (pc := 25) dX11_feedNumber_25 (gCX11 _ _ _ _ _) 10 (by decide) wF_X11_76 rfl rfl rfl ?_
  refine sv_iconst (pc := 28) (v := 1) dX11_feedNumber_28 (by decide) ?_
  refine sw_iadd (pc := 29) (v := 11) dX11_feedNumber_29 (by decide) ?_
  refine sw_putfield (pc := 30) dX11_feedNumber_30 (gCX11 _ _ _ _ _) 10 (by decide) wF_X11_76 rfl rfl rfl (fun _ => rfl) (fun _ => rfl) rfl ?_
  refine sw_iinc (pc := 33) (v := 0) dX11_feedNumber_33 rfl (by decide) (by decide) ?_
  refine sv_goto (pc := 36) (tgt := 3) dX11_feedNumber_36 (by decide) ?_
  refine sv_iload_n (pc := 3) dX11_feedNumber_3 rfl rfl ?_
  refine sv_if_lt (pc := 4) (tgt := 39) dX11_feedNumber_4 (by decide) (fun h => absurd h (by decide)) (fun _ => ?_)
  refine sv_aload_n (pc := 7) dX11_feedNumber_7 rfl rfl ?_
  refine sw_getfield (pc := 8) dX11_feedNumber_8 (gCX11 _ _ _ _ _) 0 (by decide) wF_X11_9 rfl rfl rfl ?_
  refine sv_aload_n (pc := 11) dX11_feedNumber_11 rfl rfl ?_
  refine sw_getfield (pc := 12) dX11_feedNumber_12 (gCX11 _ _ _ _ _) 10 (by decide) wF_X11_76 rfl rfl rfl ?_
  refine sv_iload_n (pc := 15) dX11_feedNumber_15 rfl rfl ?_
  refine sv_iload_n (pc := 16) dX11_feedNumber_16 rfl rfl ?_
  refine sv_iushr (pc := 17) dX11_feedNumber_17 rfl ?_
  refine sv_sipush (pc := 18) (v := 255) dX11_feedNumber_18 (by decide) ?_
  refine sv_iand (pc := 21) dX11_feedNumber_21 ?_
  refine sw_iastore (pc := 22) (k := 11) dX11_feedNumber_22 rfl rfl rfl (by decide) (by decide) rfl rfl ?_
  refine sv_aload_n (pc := 23) dX11_feedNumber_23 rfl rfl ?_
  refine sv_dup (pc := 24) dX11_feedNumber_24 rfl ?_
  refine sw_getfield (pc := 25) dX11_feedNumber_25 (gCX11 _ _ _ _ _) 10 (by decide) wF_X11_76 rfl rfl rfl ?_
  refine sv_iconst (pc := 28) (v := 1) dX11_feedNumber_28 (by decide) ?_
  refine sw_iadd (pc := 29) (v := 12) dX11_feedNumber_29 (by decide) ?_
  refine sw_putfield (pc := 30) dX11_feedNumber_30 (gCX11 _ _ _ _ _) 10 (by decide) wF_X11_76 rfl rfl rfl (fun _ => rfl) (fun _ => rfl) rfl ?_
  refine sw_iinc (pc := 33) (v := (-8)) dX11_feedNumber_33 rfl (by decide) (by decide) ?_
  refine sv_goto (pc := 36) (tgt := 3) dX11_feedNumber_36 (by decide) ?_
  refine sv_iload_n (pc := 3) dX11_feedNumber_3 rfl rfl ?_
  refine sv_if_lt (pc := 4) (tgt := 39) dX11_feedNumber_4 (by decide) (fun _ => ?_) (fun h => absurd (by decide) h)
  refine sv_vret (pc := 39) dX11_feedNumber_39 rfl (le_t rfl) (le_t rfl) ?_
  refine sv_aload_n (pc := 31) dX11_feed_31 rfl rfl ?_
  refine sv_iload (pc := 32) dX11_feed_32 rfl ?_
  refine sv_callV (pc := 34) (M' := mX11_feedNumber) (d' := 19) (C' := 0) (S' := 0) (av := [.int x4]) ?_ (gOk _ _ _ _ _) dX11_feed_34 (tX11_feedNumber _ _ _ _ _) ⟨wV_X11_feedNumber, wL_X11_feedNumber⟩ wM_X11_80 (gCX11 _ _ _ _ _) rfl (lt_t rfl) rfl ⟨le_t rfl, le_t rfl⟩ ⟨le_t rfl, le_t rfl⟩ rfl (le_t rfl) (fun _ _ h => h)
  refine sC.of rfl (by decide) (le_t rfl) ?_
  refine sv_bipush (pc := 0) (v := 24) dX11_feedNumber_0 (by decide) ?_
  refine sv_istore_n (pc := 2) dX11_feedNumber_2 rfl (by decide) ?_
  refine sv_iload_n (pc := 3) dX11_feedNumber_3 rfl rfl ?_
  refine sv_if_lt (pc := 4) (tgt := 39) dX11_feedNumber_4 (by decide) (fun h => absurd h (by decide)) (fun _ => ?_)
  refine sv_aload_n (pc := 7) dX11_feedNumber_7 rfl rfl ?_
  refine sw_getfield (pc := 8) dX11_feedNumber_8 (gCX11 _ _ _ _ _) 0 (by decide) wF_X11_9 rfl rfl rfl ?_
  refine sv_aload_n (pc := 11) dX11_feedNumber_11 rfl rfl ?_
  refine sw_getfield (pc := 12) dX11_feedNumber_12 (gCX11 _ _ _ _ _) 10 (by decide) wF_X11_76 rfl rfl rfl ?_
  refine sv_iload_n (pc := 15) dX11_feedNumber_15 rfl rfl ?_
  refine sv_iload_n (pc := 16) dX11_feedNumber_16 rfl rfl ?_
  refine sv_iushr (pc := 17) dX11_feedNumber_17 rfl ?_
  refine sv_sipush (pc := 18) (v := 255) dX11_feedNumber_18 (by decide) ?_
  refine sv_iand (pc := 21) dX11_feedNumber_21 ?_
  refine sw_iastore (pc := 22) (k := 12) dX11_feedNumber_22 rfl rfl rfl (by decide) (by decide) rfl rfl ?_
  refine sv_aload_n (pc := 23) dX11_feedNumber_23 rfl rfl ?_
  refine sv_dup (pc := 24) dX11_feedNumber_24 rfl ?_
  refine sw_getfield (pc := 25) dX11_feedNumber_25 (gCX11 _ _ _ _ _) 10 (by decide) wF_X11_76 rfl rfl rfl ?_
  refine sv_iconst (pc := 28) (v := 1) dX11_feedNumber_28 (by decide) ?_
  refine sw_iadd (pc := 29) (v := 13) dX11_feedNumber_29 (by decide) ?_
  refine sw_putfield (pc := 30) dX11_feedNumber_30 (gCX11 _ _ _ _ _) 10 (by decide) wF_X11_76 rfl rfl rfl (fun _ => rfl) (fun _ => rfl) rfl ?_
  refine sw_iinc (pc := 33) (v := 16) dX11_feedNumber_33 rfl (by decide) (by decide) ?_
  refine sv_goto (pc := 36) (tgt := 3) dX11_feedNumber_36 (by decide) ?_
  refine sv_iload_n (pc := 3) dX11_feedNumber_3 rfl rfl ?_
  refine sv_if_lt (pc := 4) (tgt := 39) dX11_feedNumber_4 (by decide) (fun h => absurd h (by decide)) (fun _ => ?_)
  refine sv_aload_n (pc := 7) dX11_feedNumber_7 rfl rfl ?_
  refine sw_getfield (pc := 8) dX11_feedNumber_8 (gCX11 _ _ _ _ _) 0 (by decide) wF_X11_9 rfl rfl rfl ?_
  refine sv_aload_n (pc := 11) dX11_feedNumber_11 rfl rfl ?_
  refine sw_getfield (pc := 12) dX11_feedNumber_12 (gCX11 _ _ _ _ _) 10 (by decide) wF_X11_76 rfl rfl rfl ?_
  refine sv_iload_n (pc := 15) dX11_feedNumber_15 rfl rfl ?_
  refine sv_iload_n (pc := 16) dX11_feedNumber_16 rfl rfl ?_
  refine sv_iushr (pc := 17) dX11_feedNumber_17 rfl ?_
  refine sv_sipush (pc := 18) (v := 255) dX11_feedNumber_18 (by decide) ?_
  refine sv_iand (pc := 21) dX11_feedNumber_21 ?_
  refine sw_iastore (pc := 22) (k := 13) dX11_feedNumber_22 rfl rfl rfl (by decide) (by decide) rfl rfl ?_
  refine sv_aload_n (pc := 23) dX11_feedNumber_23 rfl rfl ?_
  refine sv_dup (pc := 24) dX11_feedNumber_24 rfl ?_
  refine sw_getfield (pc := 25) dX11_feedNumber_25 (gCX11 _ _ _ _ _) 10 (by decide) wF_X11_76 rfl rfl rfl ?_
  refine sv_iconst (pc := 28) (v := 1) dX11_feedNumber_28 (by decide) ?_
  refine sw_iadd (pc := 29) (v := 14) dX11_feedNumber_29 (by decide) ?_
  refine sw_putfield (pc := 30) dX11_feedNumber_30 (gCX11 _ _ _ _ _) 10 (by decide) wF_X11_76 rfl rfl rfl (fun _ => rfl) (fun _ => rfl) rfl ?_
  refine sw_iinc (pc := 33) (v := 8) dX11_feedNumber_33 rfl (by decide) (by decide) ?_
  refine sv_goto (pc := 36) (tgt := 3) dX11_feedNumber_36 (by decide) ?_
  refine sv_iload_n (pc := 3) dX11_feedNumber_3 rfl rfl ?_
  refine sv_if_lt (pc := 4) (tgt := 39) dX11_feedNumber_4 (by decide) (fun h => absurd h (by decide)) (fun _ => ?_)
  refine sv_aload_n (pc := 7) dX11_feedNumber_7 rfl rfl ?_
  refine sw_getfield (pc := 8) dX11_feedNumber_8 (gCX11 _ _ _ _ _) 0 (by decide) wF_X11_9 rfl rfl rfl ?_
  refine sv_aload_n (pc := 11) dX11_feedNumber_11 rfl rfl ?_
  refine sw_getfield (pc := 12) dX11_feedNumber_12 (gCX11 _ _ _ _ _) 10 (by decide) wF_X11_76 rfl rfl rfl ?_
  refine sv_iload_n (pc := 15) dX11_feedNumber_15 rfl rfl ?_
  refine sv_iload_n (pc := 16) dX11_feedNumber_16 rfl rfl ?_
  refine sv_iushr (pc := 17) dX11_feedNumber_17 rfl ?_
  refine sv_sipush (pc := 18) (v := 255) dX11_feedNumber_18 (by decide) ?_
  refine sv_iand (pc := 21) dX11_feedNumber_21 ?_
  refine sw_iastore (pc := 22) (k := 14) dX11_feedNumber_22 rfl rfl rfl (by decide) (by decide) rfl rfl ?_
  refine sv_aload_n (pc := 23) dX11_feedNumber_23 rfl rfl ?_
  refine sv_dup (pc := 24) dX11_feedNumber_24 rfl ?_
  refine sw_getfield (pc := 25) dX11_feedNumber_25 (gCX11 _ _ _ _ _) 10 (by decide) wF_X11_76 rfl rfl rfl ?_
  refine sv_iconst (pc := 28) (v := 1) dX11_feedNumber_28 (by decide) ?_
  refine sw_iadd (pc := 29) (v := 15) dX11_feedNumber_29 (by decide) ?_
  refine sw_putfield (pc := 30) dX11_feedNumber_30 (gCX11 _ _ _ _ _) 10 (by decide) wF_X11_76 rfl rfl rfl (fun _ => rfl) (fun _ => rfl) rfl ?_
  refine sw_iinc (pc := 33) (v := 0) dX11_feedNumber_33 rfl (by decide) (by decide) ?_
  refine sv_goto (pc := 36) (tgt := 3) dX11_feedNumber_36 (by decide) ?_
  refine sv_iload_n (pc := 3) dX11_feedNumber_3 rfl rfl ?_
  refine sv_if_lt (pc := 4) (tgt := 39) dX11_feedNumber_4 (by decide) (fun h => absurd h (by decide)) (fun _ => ?_)
  refine sv_aload_n (pc := 7) dX11_feedNumber_7 rfl rfl ?_
  refine sw_getfield (pc := 8) dX11_feedNumber_8 (gCX11 _ _ _ _ _) 0 (by decide) wF_X11_9 rfl rfl rfl ?_
  refine sv_aload_n (pc := 11) dX11_feedNumber_11 rfl rfl ?_
  refine sw_getfield (pc := 12) dX11_feedNumber_12 (gCX11 _ _ _ _ _) 10 (by decide) wF_X11_76 rfl rfl rfl ?_
  refine sv_iload_n (pc := 15) dX11_feedNumber_15 rfl rfl ?_
  refine sv_iload_n (pc := 16) dX11_feedNumber_16 rfl rfl ?_
  refine sv_iushr (pc := 17) dX11_feedNumber_17 rfl ?_
  refine sv_sipush (pc := 18) (v := 255) dX11_feedNumber_18 (by decide) ?_
  refine sv_iand (pc := 21) dX11_feedNumber_21 ?_
  refine sw_iastore (pc := 22) (k := 15) dX11_feedNumber_22 rfl rfl rfl (by decide) (by decide) rfl rfl ?_
  refine sv_aload_n (pc := 23) dX11_feedNumber_23 rfl rfl ?_
  refine sv_dup (pc := 24) dX11_feedNumber_24 rfl ?_
  refine sw_getfield (pc := 25) dX11_feedNumber_25 (gCX11 _ _ _ _ _) 10 (by decide) wF_X11_76 rfl rfl rfl ?_
  refine sv_iconst (pc := 28) (v := 1) dX11_feedNumber_28 (by decide) ?_
  refine sw_iadd (pc := 29) (v := 16) dX11_feedNumber_29 (by decide) ?_
  refine sw_putfield (pc := 30) dX11_feedNumber_30 (gCX11 _ _ _ _ _) 10 (by decide) wF_X11_76 rfl rfl rfl (fun _ => rfl) (fun _ => rfl) rfl ?_
  refine sw_iinc (pc := 33) (v := (-8)) dX11_feedNumber_33 rfl (by decide) (by decide) ?_
  refine sv_goto (pc := 36) (tgt := 3) dX11_feedNumber_36 (by decide) ?_
  refine sv_iload_n (pc := 3) dX11_feedNumber_3 rfl rfl ?_
  refine sv_if_lt (pc := 4) (tgt := 39) dX11_feedNumber_4 (by decide) (fun _ => ?_) (fun h => absurd (by decide) h)
  refine sv_vret (pc := 39) dX11_feedNumber_39 rfl (le_t rfl) (le_t rfl) ?_
  refine sv_aload_n (pc := 37) dX11_feed_37 rfl rfl ?_
  refine sv_iload (pc := 38) dX11_feed_38 rfl ?_
  refine sv_callV (pc := 40) (M' := mX11_feedNumber) (d' := 19) (C' := 0) (S' := 0) (av := [.int x5]) ?_ (gOk _ _ _ _ _) dX11_feed_40 (tX11_feedNumber _ _ _ _ _) ⟨wV_X11_feedNumber, wL_X11_feedNumber⟩ wM_X11_80 (gCX11 _ _ _ _ _) rfl (lt_t rfl) rfl ⟨le_t rfl, le_t rfl⟩ ⟨le_t rfl, le_t rfl⟩ rfl (le_t rfl) (fun _ _ h => h)
  refine sC.of rfl (by decide) (le_t rfl) ?_
  refine sv_bipush (pc := 0) (v := 24) dX11_feedNumber_0 (by decide) ?_
  refine sv_istore_n (pc := 2) dX11_feedNumber_2 rfl (by decide) ?_
  refine sv_iload_n (pc := 3) dX11_feedNumber_3 rfl rfl ?_
  refine sv_if_lt (pc := 4) (tgt := 39) dX11_feedNumber_4 (by decide) (fun h => absurd h (by decide)) (fun _ => ?_)
  refine sv_aload_n (pc := 7) dX11_feedNumber_7 rfl rfl ?_
  refine sw_getfield (pc := 8) dX11_feedNumber_8 (gCX11 _ _ _ _ _) 0 (by decide) wF_X11_9 rfl rfl rfl ?_
  refine sv_aload_n (pc := 11) dX11_feedNumber_11 rfl rfl ?_
  refine sw_getfield (pc := 12) dX11_feedNumber_12 (gCX11 _ _ _ _ _) 10 (by decide) wF_X11_76 rfl rfl rfl ?_
  refine sv_iload_n (pc := 15) dX11_feedNumber_15 rfl rfl ?_
  refine sv_iload_n (pc := 16) dX11_feedNumber_16 rfl rfl ?_
  refine sv_iushr (pc := 17) dX11_feedNumber_17 rfl ?_
  refine sv_sipush (pc := 18) (v := 255) dX11_feedNumber_18 (by decide) ?_
  refine sv_iand (pc := 21) dX11_feedNumber_21 ?_
  refine sw_iastore (pc := 22) (k := 16) dX11_feedNumber_22 rfl rfl rfl (by decide) (by decide) rfl rfl ?_
  refine sv_aload_n (pc := 23) dX11_feedNumber_23 rfl rfl ?_
  refine sv_dup (pc := 24) dX11_feedNumber_24 rfl ?_
  refine sw_getfield (pc := 25) dX11_feedNumber_25 (gCX11 _ _ _ _ _) 10 (by decide) wF_X11_76 rfl rfl rfl ?_
  refine sv_iconst (pc := 28) (v := 1) dX11_feedNumber_28 (by decide) ?_
  refine sw_iadd (pc := 29) (v := 17) dX11_feedNumber_29 (by decide) ?_
  refine sw_putfield (pc := 30) dX11_feedNumber_30 (gCX11 _ _ _ _ _) 10 (by decide) wF_X11_76 rfl rfl rfl (fun _ => rfl) (fun _ => rfl) rfl ?_
  refine sw_iinc (pc := 33) (v := 16) dX11_feedNumber_33 rfl (by decide) (by decide) ?_
  refine sv_goto (pc := 36) (tgt := 3) dX11_feedNumber_36 (by decide) ?_
  refine sv_iload_n (pc := 3) dX11_feedNumber_3 rfl rfl ?_
  refine sv_if_lt (pc := 4) (tgt := 39) dX11_feedNumber_4 (by decide) (fun h => absurd h (by decide)) (fun _ => ?_)
  refine sv_aload_n (pc := 7) dX11_feedNumber_7 rfl rfl ?_
  refine sw_getfield (pc := 8) dX11_feedNumber_8 (gCX11 _ _ _ _ _) 0 (by decide) wF_X11_9 rfl rfl rfl ?_
  refine sv_aload_n (pc := 11) dX11_feedNumber_11 rfl rfl ?_
  refine sw_getfield (pc := 12) dX11_feedNumber_12 (gCX11 _ _ _ _ _) 10 (by decide) wF_X11_76 rfl rfl rfl ?_
  refine sv_iload_n (pc := 15) dX11_feedNumber_15 rfl rfl ?_
  refine sv_iload_n (pc := 16) dX11_feedNumber_16 rfl rfl ?_
  refine sv_iushr (pc := 17) dX11_feedNumber_17 rfl ?_
  refine sv_sipush (pc := 18) (v := 255) dX11_feedNumber_18 (by decide) ?_
  refine sv_iand (pc := 21) dX11_feedNumber_21 ?_
  refine sw_iastore (pc := 22) (k := 17) dX11_feedNumber_22 rfl rfl rfl (by decide) (by decide) rfl rfl ?_
  refine sv_aload_n (pc := 23) dX11_feedNumber_23 rfl rfl ?_
  refine sv_dup (pc := 24) dX11_feedNumber_24 rfl ?_
  refine sw_getfield (pc := 25) dX11_feedNumber_25 (gCX11 _ _ _ _ _) 10 (by decide) wF_X11_76 rfl rfl rfl ?_
  refine sv_iconst (pc := 28) (v := 1) dX11_feedNumber_28 (by decide) ?_
  refine sw_iadd (pc := 29) (v := 18) dX11_feedNumber_29 (by decide) ?_
  refine sw_putfield (pc := 30) dX11_feedNumber_30 (gCX11 _ _ _ _ _) 10 (by decide) wF_X11_76 rfl rfl rfl (fun _ => rfl) (fun _ => rfl) rfl ?_
  refine sw_iinc (pc := 33) (v := 8) dX11_feedNumber_33 rfl (by decide) (by decide) ?_
  refine sv_goto (pc := 36) (tgt := 3) dX11_feedNumber_36 (by decide) ?_
  refine sv_iload_n (pc := 3) dX11_feedNumber_3 rfl rfl ?_
  refine sv_if_lt (pc := 4) (tgt := 39) dX11_feedNumber_4 (by decide) (fun h => absurd h (by decide)) (fun _ => ?_)
  refine sv_aload_n (pc := 7) dX11_feedNumber_7 rfl rfl ?_
  refine sw_getfield (pc := 8) dX11_feedNumber_8 (gCX11 _ _ _ _ _) 0 (by decide) wF_X11_9 rfl rfl rfl ?_
  refine sv_aload_n (pc := 11) dX11_feedNumber_11 rfl rfl ?_
  refine sw_getfield (pc := 12) dX11_feedNumber_12 (gCX11 _ _ _ _ _) 10 (by decide) wF_X11_76 rfl rfl rfl ?_
  refine sv_iload_n (pc := 15) dX11_feedNumber_15 rfl rfl ?_
  refine sv_iload_n (pc := 16) dX11_feedNumber_16 rfl rfl ?_
  refine sv_iushr (pc := 17) dX11_feedNumber_17 rfl ?_
  refine sv_sipush (pc := 18) (v := 255) dX11_feedNumber_18 (by decide) ?_
  refine sv_iand (pc := 21) dX11_feedNumber_21 ?_
  refine sw_iastore (pc := 22) (k := 18) dX11_feedNumber_22 rfl rfl rfl (by decide) (by decide) rfl rfl ?_
  refine sv_aload_n (pc := 23) dX11_feedNumber_23 rfl rfl ?_
  refine sv_dup (pc := 24) dX11_feedNumber_24 rfl ?_
  refine sw_getfield (pc := 25) dX11_feedNumber_25 (gCX11 _ _ _ _ _) 10 (by decide) wF_X11_76 rfl rfl rfl ?_
  refine sv_iconst (pc := 28) (v := 1) dX11_feedNumber_28 (by decide) ?_
  refine sw_iadd (pc := 29) (v := 19) dX11_feedNumber_29 (by decide) ?_
  refine sw_putfield (pc := 30) dX11_feedNumber_30 (gCX11 _ _ _ _ _) 10 (by decide) wF_X11_76 rfl rfl rfl (fun _ => rfl) (fun _ => rfl) rfl ?_
  refine sw_iinc (pc := 33) (v := 0) dX11_feedNumber_33 rfl (by decide) (by decide) ?_
  refine sv_goto (pc := 36) (tgt := 3) dX11_feedNumber_36 (by decide) ?_
  refine sv_iload_n (pc := 3) dX11_feedNumber_3 rfl rfl ?_
  refine sv_if_lt (pc := 4) (tgt := 39) dX11_feedNumber_4 (by decide) (fun h => absurd h (by decide)) (fun _ => ?_)
  refine sv_aload_n (pc := 7) dX11_feedNumber_7 rfl rfl ?_
  refine sw_getfield (pc := 8) dX11_feedNumber_8 (gCX11 _ _ _ _ _) 0 (by decide) wF_X11_9 rfl rfl rfl ?_
  refine sv_aload_n (pc := 11) dX11_feedNumber_11 rfl rfl ?_
  refine sw_getfield (pc := 12) dX11_feedNumber_12 (gCX11 _ _ _ _ _) 10 (by decide) wF_X11_76 rfl rfl rfl ?_
  refine sv_iload_n (pc := 15) dX11_feedNumber_15 rfl rfl ?_
  refine sv_iload_n (pc := 16) dX11_feedNumber_16 rfl rfl ?_
  refine sv_iushr (pc := 17) dX11_feedNumber_17 rfl ?_
  refine sv_sipush (pc := 18) (v := 255) dX11_feedNumber_18 (by decide) ?_
  refine sv_iand (pc := 21) dX11_feedNumber_21 ?_
  refine sw_iastore (pc := 22) (k := 19) dX11_feedNumber_22 rfl rfl rfl (by decide) (by decide) rfl rfl ?_
  refine sv_aload_n (pc := 23) dX11_feedNumber_23 rfl rfl ?_
  refine sv_dup (pc := 24) dX11_feedNumber_24 rfl ?_
  refine sw_getfield (pc := 25) dX11_feedNumber_25 (gCX11 _ _ _ _ _) 10 (by decide) wF_X11_76 rfl rfl rfl ?_
  refine sv_iconst (pc := 28) (v := 1) dX11_feedNumber_28 (by decide) ?_
  refine sw_iadd (pc := 29) (v := 20) dX11_feedNumber_29 (by decide) ?_
  refine sw_putfield (pc := 30) dX11_feedNumber_30 (gCX11 _ _ _ _ _) 10 (by decide) wF_X11_76 rfl rfl rfl (fun _ => rfl) (fun _ => rfl) rfl ?_
  refine sw_iinc (pc := 33) (v := (-8)) dX11_feedNumber_33 rfl (by decide) (by decide) ?_
  refine sv_goto (pc := 36) (tgt := 3) dX11_feedNumber_36 (by decide) ?_
  refine sv_iload_n (pc := 3) dX11_feedNumber_3 rfl rfl ?_
  refine sv_if_lt (pc := 4) (tgt := 39) dX11_feedNumber_4 (by decide) (fun _ => ?_) (fun h => absurd (by decide) h)
  refine sv_vret (pc := 39) dX11_feedNumber_39 rfl (le_t rfl) (le_t rfl) ?_
  refine sv_aload_n (pc := 43) dX11_feed_43 rfl rfl ?_
  refine sw_getfield (pc := 44) dX11_feed_44 (gCX11 _ _ _ _ _) 10 (by decide) wF_X11_76 rfl rfl rfl ?_
  refine sv_iret (pc := 47) dX11_feed_47 rfl (le_t rfl) (le_t rfl) ?_
  refine sv_aload_n (pc := 269) dL_law_269 rfl rfl ?_
  refine sv_aload_nS (pc := 270) dL_law_270 rfl rfl ?_
  refine sv_iload_n (pc := 271) dL_law_271 rfl rfl ?_
  refine sv_iconst (pc := 272) (v := 1) dL_law_272 (by decide) ?_
  refine sw_iadd (pc := 273) (v := 1) dL_law_273 (by decide) ?_
  refine sw_sld (pc := 274) (v := x1) dL_law_274 (k := 1) (by decide) (by decide) rfl hx1 ?_
  refine sv_aload_nS (pc := 275) dL_law_275 rfl rfl ?_
  refine sv_iload_n (pc := 276) dL_law_276 rfl rfl ?_
  refine sv_iconst (pc := 277) (v := 2) dL_law_277 (by decide) ?_
  refine sw_iadd (pc := 278) (v := 2) dL_law_278 (by decide) ?_
  refine sw_sld (pc := 279) (v := x2) dL_law_279 (k := 2) (by decide) (by decide) rfl hx2 ?_
  refine sv_aload_nS (pc := 280) dL_law_280 rfl rfl ?_
  refine sv_iload_n (pc := 281) dL_law_281 rfl rfl ?_
  refine sv_iconst (pc := 282) (v := 3) dL_law_282 (by decide) ?_
  refine sw_iadd (pc := 283) (v := 3) dL_law_283 (by decide) ?_
  refine sw_sld (pc := 284) (v := x3) dL_law_284 (k := 3) (by decide) (by decide) rfl hx3 ?_
  refine sv_aload_nS (pc := 285) dL_law_285 rfl rfl ?_
  refine sv_iload_n (pc := 286) dL_law_286 rfl rfl ?_
  refine sv_iconst (pc := 287) (v := 4) dL_law_287 (by decide) ?_
  refine sw_iadd (pc := 288) (v := 4) dL_law_288 (by decide) ?_
  refine sw_sld (pc := 289) (v := x4) dL_law_289 (k := 4) (by decide) (by decide) rfl hx4 ?_
  refine sv_aload_nS (pc := 290) dL_law_290 rfl rfl ?_
  refine sv_iload_n (pc := 291) dL_law_291 rfl rfl ?_
  refine sv_iconst (pc := 292) (v := 5) dL_law_292 (by decide) ?_
  refine sw_iadd (pc := 293) (v := 5) dL_law_293 (by decide) ?_
  refine sw_sld (pc := 294) (v := x5) dL_law_294 (k := 5) (by decide) (by decide) rfl hx5 ?_
  refine sv_callV (pc := 295) (M' := mX12_feed) (d' := 20) (C' := 0) (S' := 0) (av := [.int x1, .int x2, .int x3, .int x4, .int x5]) ?_ (gOk _ _ _ _ _) dL_law_295 (tX12_feed _ _ _ _ _) ⟨wV_X12_feed, wL_X12_feed⟩ wM_DomainHouseLaw_17 (gCX12 _ _ _ _ _) rfl (lt_t rfl) rfl ⟨le_t rfl, le_t rfl⟩ ⟨le_t rfl, le_t rfl⟩ rfl (le_t rfl) (fun _ _ h => h)
  refine sC.of rfl (by decide) (le_t rfl) ?_
  refine sv_aload_n (pc := 0) dX12_feed_0 rfl rfl ?_
  refine sw_getfield (pc := 1) dX12_feed_1 (gCX12 _ _ _ _ _) 1 (by decide) wF_X12_1 rfl rfl rfl ?_
  refine sv_bipush (pc := 4) (v := 20) dX12_feed_4 (by decide) ?_
  refine sw_iadd (pc := 6) (v := 20) dX12_feed_6 (by decide) ?_
  refine sv_sipush (pc := 7) (v := 1000) dX12_feed_7 (by decide) ?_
  refine sv_icmp_le (pc := 10) (tgt := 16) dX12_feed_10 (by decide) (fun _ => ?_) (fun h => absurd (by decide) h)
  refine sv_iconst (pc := 16) (v := 0) dX12_feed_16 (by decide) ?_
  refine sv_istore (pc := 17) dX12_feed_17 (by decide) ?_
  refine sv_iload (pc := 19) dX12_feed_19 rfl ?_
  refine sv_bipush (pc := 21) (v := 20) dX12_feed_21 (by decide) ?_
  refine sv_icmp_ge (pc := 23) (tgt := 106) dX12_feed_23 (by decide) (fun h => absurd h (by decide)) (fun _ => ?_)
  refine sv_iload (pc := 26) dX12_feed_26 rfl ?_
  refine sv_iconst (pc := 28) (v := 4) dX12_feed_28 (by decide) ?_
  refine sv_icmp_ge (pc := 29) (tgt := 36) dX12_feed_29 (by decide) (fun h => absurd h (by decide)) (fun _ => ?_)
  refine sv_iload_n (pc := 32) dX12_feed_32 rfl rfl ?_
  refine sv_goto (pc := 33) (tgt := 72) dX12_feed_33 (by decide) ?_
  refine sv_istore (pc := 72) dX12_feed_72 (by decide) ?_
  refine sv_aload_n (pc := 74) dX12_feed_74 rfl rfl ?_
  refine sw_getfield (pc := 75) dX12_feed_75 (gCX12 _ _ _ _ _) 0 (by decide) wF_X12_7 rfl rfl rfl ?_
  refine sv_aload_n (pc := 78) dX12_feed_78 rfl rfl ?_
  refine sw_getfield (pc := 79) dX12_feed_79 (gCX12 _ _ _ _ _) 1 (by decide) wF_X12_1 rfl rfl rfl ?_
  refine sv_iload (pc := 82) dX12_feed_82 rfl ?_
  refine sw_iadd (pc := 84) (v := 0) dX12_feed_84 (by decide) ?_
  refine sv_iload (pc := 85) dX12_feed_85 rfl ?_
  refine sv_bipush (pc := 87) (v := 24) dX12_feed_87 (by decide) ?_
  refine sv_bipush (pc := 89) (v := 8) dX12_feed_89 (by decide) ?_
  refine sv_iload (pc := 91) dX12_feed_91 rfl ?_
  refine sv_iconst (pc := 93) (v := 4) dX12_feed_93 (by decide) ?_
  refine sw_irem (pc := 94) (v := 0) dX12_feed_94 (by decide) (by decide) ?_
  refine sw_imul (pc := 95) (v := 0) dX12_feed_95 (by decide) ?_
  refine sw_isub (pc := 96) (v := 24) dX12_feed_96 (by decide) ?_
  refine sv_ishr (pc := 97) dX12_feed_97 ?_
  refine sv_i2b (pc := 98) dX12_feed_98 rfl ?_
  refine sw_bastore (pc := 99) (k := 0) dX12_feed_99 rfl rfl rfl (by decide) (by decide) rfl rfl ?_
  refine sw_iinc (pc := 100) (v := 1) dX12_feed_100 rfl (by decide) (by decide) ?_
  refine sv_goto (pc := 103) (tgt := 19) dX12_feed_103 (by decide) ?_
  refine sv_iload (pc := 19) dX12_feed_19 rfl ?_
  refine sv_bipush (pc := 21) (v := 20) dX12_feed_21 (by decide) ?_
  refine sv_icmp_ge (pc := 23) (tgt := 106) dX12_feed_23 (by decide) (fun h => absurd h (by decide)) (fun _ => ?_)
  refine sv_iload (pc := 26) dX12_feed_26 rfl ?_
  refine sv_iconst (pc := 28) (v := 4) dX12_feed_28 (by decide) ?_
  refine sv_icmp_ge (pc := 29) (tgt := 36) dX12_feed_29 (by decide) (fun h => absurd h (by decide)) (fun _ => ?_)
  refine sv_iload_n (pc := 32) dX12_feed_32 rfl rfl ?_
  refine sv_goto (pc := 33) (tgt := 72) dX12_feed_33 (by decide) ?_
  refine sv_istore (pc := 72) dX12_feed_72 (by decide) ?_
  refine sv_aload_n (pc := 74) dX12_feed_74 rfl rfl ?_
  refine sw_getfield (pc := 75) dX12_feed_75 (gCX12 _ _ _ _ _) 0 (by decide) wF_X12_7 rfl rfl rfl ?_
  refine sv_aload_n (pc := 78) dX12_feed_78 rfl rfl ?_
  refine sw_getfield (pc := 79) dX12_feed_79 (gCX12 _ _ _ _ _) 1 (by decide) wF_X12_1 rfl rfl rfl ?_
  refine sv_iload (pc := 82) dX12_feed_82 rfl ?_
  refine sw_iadd (pc := 84) (v := 1) dX12_feed_84 (by decide) ?_
  refine sv_iload (pc := 85) dX12_feed_85 rfl ?_
  refine sv_bipush (pc := 87) (v := 24) dX12_feed_87 (by decide) ?_
  refine sv_bipush (pc := 89) (v := 8) dX12_feed_89 (by decide) ?_
  refine sv_iload (pc := 91) dX12_feed_91 rfl ?_
  refine sv_iconst (pc := 93) (v := 4) dX12_feed_93 (by decide) ?_
  refine sw_irem (pc := 94) (v := 1) dX12_feed_94 (by decide) (by decide) ?_
  refine sw_imul (pc := 95) (v := 8) dX12_feed_95 (by decide) ?_
  refine sw_isub (pc := 96) (v := 16) dX12_feed_96 (by decide) ?_
  refine sv_ishr (pc := 97) dX12_feed_97 ?_
  refine sv_i2b (pc := 98) dX12_feed_98 rfl ?_
  refine sw_bastore (pc := 99) (k := 1) dX12_feed_99 rfl rfl rfl (by decide) (by decide) rfl rfl ?_
  refine sw_iinc (pc := 100) (v := 2) dX12_feed_100 rfl (by decide) (by decide) ?_
  refine sv_goto (pc := 103) (tgt := 19) dX12_feed_103 (by decide) ?_
  refine sv_iload (pc := 19) dX12_feed_19 rfl ?_
  refine sv_bipush (pc := 21) (v := 20) dX12_feed_21 (by decide) ?_
  refine sv_icmp_ge (pc := 23) (tgt := 106) dX12_feed_23 (by decide) (fun h => absurd h (by decide)) (fun _ => ?_)
  refine sv_iload (pc := 26) dX12_feed_26 rfl ?_
  refine sv_iconst (pc := 28) (v := 4) dX12_feed_28 (by decide) ?_
  refine sv_icmp_ge (pc := 29) (tgt := 36) dX12_feed_29 (by decide) (fun h => absurd h (by decide)) (fun _ => ?_)
  refine sv_iload_n (pc := 32) dX12_feed_32 rfl rfl ?_
  refine sv_goto (pc := 33) (tgt := 72) dX12_feed_33 (by decide) ?_
  refine sv_istore (pc := 72) dX12_feed_72 (by decide) ?_
  refine sv_aload_n (pc := 74) dX12_feed_74 rfl rfl ?_
  refine sw_getfield (pc := 75) dX12_feed_75 (gCX12 _ _ _ _ _) 0 (by decide) wF_X12_7 rfl rfl rfl ?_
  refine sv_aload_n (pc := 78) dX12_feed_78 rfl rfl ?_
  refine sw_getfield (pc := 79) dX12_feed_79 (gCX12 _ _ _ _ _) 1 (by decide) wF_X12_1 rfl rfl rfl ?_
  refine sv_iload (pc := 82) dX12_feed_82 rfl ?_
  refine sw_iadd (pc := 84) (v := 2) dX12_feed_84 (by decide) ?_
  refine sv_iload (pc := 85) dX12_feed_85 rfl ?_
  refine sv_bipush (pc := 87) (v := 24) dX12_feed_87 (by decide) ?_
  refine sv_bipush (pc := 89) (v := 8) dX12_feed_89 (by decide) ?_
  refine sv_iload (pc := 91) dX12_feed_91 rfl ?_
  refine sv_iconst (pc := 93) (v := 4) dX12_feed_93 (by decide) ?_
  refine sw_irem (pc := 94) (v := 2) dX12_feed_94 (by decide) (by decide) ?_
  refine sw_imul (pc := 95) (v := 16) dX12_feed_95 (by decide) ?_
  refine sw_isub (pc := 96) (v := 8) dX12_feed_96 (by decide) ?_
  refine sv_ishr (pc := 97) dX12_feed_97 ?_
  refine sv_i2b (pc := 98) dX12_feed_98 rfl ?_
  refine sw_bastore (pc := 99) (k := 2) dX12_feed_99 rfl rfl rfl (by decide) (by decide) rfl rfl ?_
  refine sw_iinc (pc := 100) (v := 3) dX12_feed_100 rfl (by decide) (by decide) ?_
  refine sv_goto (pc := 103) (tgt := 19) dX12_feed_103 (by decide) ?_
  refine sv_iload (pc := 19) dX12_feed_19 rfl ?_
  refine sv_bipush (pc := 21) (v := 20) dX12_feed_21 (by decide) ?_
  refine sv_icmp_ge (pc := 23) (tgt := 106) dX12_feed_23 (by decide) (fun h => absurd h (by decide)) (fun _ => ?_)
  refine sv_iload (pc := 26) dX12_feed_26 rfl ?_
  refine sv_iconst (pc := 28) (v := 4) dX12_feed_28 (by decide) ?_
  refine sv_icmp_ge (pc := 29) (tgt := 36) dX12_feed_29 (by decide) (fun h => absurd h (by decide)) (fun _ => ?_)
  refine sv_iload_n (pc := 32) dX12_feed_32 rfl rfl ?_
  refine sv_goto (pc := 33) (tgt := 72) dX12_feed_33 (by decide) ?_
  refine sv_istore (pc := 72) dX12_feed_72 (by decide) ?_
  refine sv_lvG (pc := 74) (lv' := [(0, .ref 106), (1, .int x1), (2, .int x2), (3, .int x3), (4, .int x4), (5, .int x5), (6, .int 3), (7, .int x1)]) (List.forall_mem_cons.mpr ⟨rfl, List.forall_mem_cons.mpr ⟨rfl, List.forall_mem_cons.mpr ⟨rfl, List.forall_mem_cons.mpr ⟨rfl, List.forall_mem_cons.mpr ⟨rfl, List.forall_mem_cons.mpr ⟨rfl, List.forall_mem_cons.mpr ⟨rfl, List.forall_mem_cons.mpr ⟨rfl, fun _ h => absurd h List.not_mem_nil⟩⟩⟩⟩⟩⟩⟩⟩) ?_
  refine sv_aload_n (pc := 74) dX12_feed_74 rfl rfl ?_
  refine sw_getfield (pc := 75) dX12_feed_75 (gCX12 _ _ _ _ _) 0 (by decide) wF_X12_7 rfl rfl rfl ?_
  refine sv_aload_n (pc := 78) dX12_feed_78 rfl rfl ?_
  refine sw_getfield (pc := 79) dX12_feed_79 (gCX12 _ _ _ _ _) 1 (by decide) wF_X12_1 rfl rfl rfl ?_
  refine sv_iload (pc := 82) dX12_feed_82 rfl ?_
  refine sw_iadd (pc := 84) (v := 3) dX12_feed_84 (by decide) ?_
  refine sv_iload (pc := 85) dX12_feed_85 rfl ?_
  refine sv_bipush (pc := 87) (v := 24) dX12_feed_87 (by decide) ?_
  refine sv_bipush (pc := 89) (v := 8) dX12_feed_89 (by decide) ?_
  refine sv_iload (pc := 91) dX12_feed_91 rfl ?_
  refine sv_iconst (pc := 93) (v := 4) dX12_feed_93 (by decide) ?_
  refine sw_irem (pc := 94) (v := 3) dX12_feed_94 (by decide) (by decide) ?_
  refine sw_imul (pc := 95) (v := 24) dX12_feed_95 (by decide) ?_
  refine sw_isub (pc := 96) (v := 0) dX12_feed_96 (by decide) ?_
  refine sv_ishr (pc := 97) dX12_feed_97 ?_
  refine sv_i2b (pc := 98) dX12_feed_98 rfl ?_
  refine sw_bastore (pc := 99) (k := 3) dX12_feed_99 rfl rfl rfl (by decide) (by decide) rfl rfl ?_
  refine sw_iinc (pc := 100) (v := 4) dX12_feed_100 rfl (by decide) (by decide) ?_
  refine sv_goto (pc := 103) (tgt := 19) dX12_feed_103 (by decide) ?_
  refine sv_iload (pc := 19) dX12_feed_19 rfl ?_
  refine sv_bipush (pc := 21) (v := 20) dX12_feed_21 (by decide) ?_
  refine sv_icmp_ge (pc := 23) (tgt := 106) dX12_feed_23 (by decide) (fun h => absurd h (by decide)) (fun _ => ?_)
  refine sv_iload (pc := 26) dX12_feed_26 rfl ?_
  refine sv_iconst (pc := 28) (v := 4) dX12_feed_28 (by decide) ?_
  refine sv_icmp_ge (pc := 29) (tgt := 36) dX12_feed_29 (by decide) (fun _ => ?_) (fun h => absurd (by decide) h)
  refine sv_iload (pc := 36) dX12_feed_36 rfl ?_
  refine sv_bipush (pc := 38) (v := 8) dX12_feed_38 (by decide) ?_
  refine sv_icmp_ge (pc := 40) (tgt := 47) dX12_feed_40 (by decide) (fun h => absurd h (by decide)) (fun _ => ?_)
  refine sv_iload_n (pc := 43) dX12_feed_43 rfl rfl ?_
  refine sv_goto (pc := 44) (tgt := 72) dX12_feed_44 (by decide) ?_
  refine sv_istore (pc := 72) dX12_feed_72 (by decide) ?_
  refine sv_aload_n (pc := 74) dX12_feed_74 rfl rfl ?_
  refine sw_getfield (pc := 75) dX12_feed_75 (gCX12 _ _ _ _ _) 0 (by decide) wF_X12_7 rfl rfl rfl ?_
  refine sv_aload_n (pc := 78) dX12_feed_78 rfl rfl ?_
  refine sw_getfield (pc := 79) dX12_feed_79 (gCX12 _ _ _ _ _) 1 (by decide) wF_X12_1 rfl rfl rfl ?_
  refine sv_iload (pc := 82) dX12_feed_82 rfl ?_
  refine sw_iadd (pc := 84) (v := 4) dX12_feed_84 (by decide) ?_
  refine sv_iload (pc := 85) dX12_feed_85 rfl ?_
  refine sv_bipush (pc := 87) (v := 24) dX12_feed_87 (by decide) ?_
  refine sv_bipush (pc := 89) (v := 8) dX12_feed_89 (by decide) ?_
  refine sv_iload (pc := 91) dX12_feed_91 rfl ?_
  refine sv_iconst (pc := 93) (v := 4) dX12_feed_93 (by decide) ?_
  refine sw_irem (pc := 94) (v := 0) dX12_feed_94 (by decide) (by decide) ?_
  refine sw_imul (pc := 95) (v := 0) dX12_feed_95 (by decide) ?_
  refine sw_isub (pc := 96) (v := 24) dX12_feed_96 (by decide) ?_
  refine sv_ishr (pc := 97) dX12_feed_97 ?_
  refine sv_i2b (pc := 98) dX12_feed_98 rfl ?_
  refine sw_bastore (pc := 99) (k := 4) dX12_feed_99 rfl rfl rfl (by decide) (by decide) rfl rfl ?_
  refine sw_iinc (pc := 100) (v := 5) dX12_feed_100 rfl (by decide) (by decide) ?_
  refine sv_goto (pc := 103) (tgt := 19) dX12_feed_103 (by decide) ?_
  refine sv_iload (pc := 19) dX12_feed_19 rfl ?_
  refine sv_bipush (pc := 21) (v := 20) dX12_feed_21 (by decide) ?_
  refine sv_icmp_ge (pc := 23) (tgt := 106) dX12_feed_23 (by decide) (fun h => absurd h (by decide)) (fun _ => ?_)
  refine sv_iload (pc := 26) dX12_feed_26 rfl ?_
  refine sv_iconst (pc := 28) (v := 4) dX12_feed_28 (by decide) ?_
  refine sv_icmp_ge (pc := 29) (tgt := 36) dX12_feed_29 (by decide) (fun _ => ?_) (fun h => absurd (by decide) h)
  refine sv_iload (pc := 36) dX12_feed_36 rfl ?_
  refine sv_bipush (pc := 38) (v := 8) dX12_feed_38 (by decide) ?_
  refine sv_icmp_ge (pc := 40) (tgt := 47) dX12_feed_40 (by decide) (fun h => absurd h (by decide)) (fun _ => ?_)
  refine sv_iload_n (pc := 43) dX12_feed_43 rfl rfl ?_
  refine sv_goto (pc := 44) (tgt := 72) dX12_feed_44 (by decide) ?_
  refine sv_istore (pc := 72) dX12_feed_72 (by decide) ?_
  refine sv_aload_n (pc := 74) dX12_feed_74 rfl rfl ?_
  refine sw_getfield (pc := 75) dX12_feed_75 (gCX12 _ _ _ _ _) 0 (by decide) wF_X12_7 rfl rfl rfl ?_
  refine sv_aload_n (pc := 78) dX12_feed_78 rfl rfl ?_
  refine sw_getfield (pc := 79) dX12_feed_79 (gCX12 _ _ _ _ _) 1 (by decide) wF_X12_1 rfl rfl rfl ?_
  refine sv_iload (pc := 82) dX12_feed_82 rfl ?_
  refine sw_iadd (pc := 84) (v := 5) dX12_feed_84 (by decide) ?_
  refine sv_iload (pc := 85) dX12_feed_85 rfl ?_
  refine sv_bipush (pc := 87) (v := 24) dX12_feed_87 (by decide) ?_
  refine sv_bipush (pc := 89) (v := 8) dX12_feed_89 (by decide) ?_
  refine sv_iload (pc := 91) dX12_feed_91 rfl ?_
  refine sv_iconst (pc := 93) (v := 4) dX12_feed_93 (by decide) ?_
  refine sw_irem (pc := 94) (v := 1) dX12_feed_94 (by decide) (by decide) ?_
  refine sw_imul (pc := 95) (v := 8) dX12_feed_95 (by decide) ?_
  refine sw_isub (pc := 96) (v := 16) dX12_feed_96 (by decide) ?_
  refine sv_ishr (pc := 97) dX12_feed_97 ?_
  refine sv_i2b (pc := 98) dX12_feed_98 rfl ?_
  refine sw_bastore (pc := 99) (k := 5) dX12_feed_99 rfl rfl rfl (by decide) (by decide) rfl rfl ?_
  refine sw_iinc (pc := 100) (v := 6) dX12_feed_100 rfl (by decide) (by decide) ?_
  refine sv_goto (pc := 103) (tgt := 19) dX12_feed_103 (by decide) ?_
  refine sv_iload (pc := 19) dX12_feed_19 rfl ?_
  refine sv_bipush (pc := 21) (v := 20) dX12_feed_21 (by decide) ?_
  refine sv_icmp_ge (pc := 23) (tgt := 106) dX12_feed_23 (by decide) (fun h => absurd h (by decide)) (fun _ => ?_)
  refine sv_iload (pc := 26) dX12_feed_26 rfl ?_
  refine sv_iconst (pc := 28) (v := 4) dX12_feed_28 (by decide) ?_
  refine sv_icmp_ge (pc := 29) (tgt := 36) dX12_feed_29 (by decide) (fun _ => ?_) (fun h => absurd (by decide) h)
  refine sv_iload (pc := 36) dX12_feed_36 rfl ?_
  refine sv_bipush (pc := 38) (v := 8) dX12_feed_38 (by decide) ?_
  refine sv_icmp_ge (pc := 40) (tgt := 47) dX12_feed_40 (by decide) (fun h => absurd h (by decide)) (fun _ => ?_)
  refine sv_iload_n (pc := 43) dX12_feed_43 rfl rfl ?_
  refine sv_goto (pc := 44) (tgt := 72) dX12_feed_44 (by decide) ?_
  refine sv_istore (pc := 72) dX12_feed_72 (by decide) ?_
  refine sv_aload_n (pc := 74) dX12_feed_74 rfl rfl ?_
  refine sw_getfield (pc := 75) dX12_feed_75 (gCX12 _ _ _ _ _) 0 (by decide) wF_X12_7 rfl rfl rfl ?_
  refine sv_aload_n (pc := 78) dX12_feed_78 rfl rfl ?_
  refine sw_getfield (pc := 79) dX12_feed_79 (gCX12 _ _ _ _ _) 1 (by decide) wF_X12_1 rfl rfl rfl ?_
  refine sv_iload (pc := 82) dX12_feed_82 rfl ?_
  refine sw_iadd (pc := 84) (v := 6) dX12_feed_84 (by decide) ?_
  refine sv_iload (pc := 85) dX12_feed_85 rfl ?_
  refine sv_bipush (pc := 87) (v := 24) dX12_feed_87 (by decide) ?_
  refine sv_bipush (pc := 89) (v := 8) dX12_feed_89 (by decide) ?_
  refine sv_iload (pc := 91) dX12_feed_91 rfl ?_
  refine sv_iconst (pc := 93) (v := 4) dX12_feed_93 (by decide) ?_
  refine sw_irem (pc := 94) (v := 2) dX12_feed_94 (by decide) (by decide) ?_
  refine sw_imul (pc := 95) (v := 16) dX12_feed_95 (by decide) ?_
  refine sw_isub (pc := 96) (v := 8) dX12_feed_96 (by decide) ?_
  refine sv_ishr (pc := 97) dX12_feed_97 ?_
  refine sv_i2b (pc := 98) dX12_feed_98 rfl ?_
  refine sw_bastore (pc := 99) (k := 6) dX12_feed_99 rfl rfl rfl (by decide) (by decide) rfl rfl ?_
  refine sw_iinc (pc := 100) (v := 7) dX12_feed_100 rfl (by decide) (by decide) ?_
  refine sv_goto (pc := 103) (tgt := 19) dX12_feed_103 (by decide) ?_
  refine sv_iload (pc := 19) dX12_feed_19 rfl ?_
  refine sv_bipush (pc := 21) (v := 20) dX12_feed_21 (by decide) ?_
  refine sv_icmp_ge (pc := 23) (tgt := 106) dX12_feed_23 (by decide) (fun h => absurd h (by decide)) (fun _ => ?_)
  refine sv_iload (pc := 26) dX12_feed_26 rfl ?_
  refine sv_iconst (pc := 28) (v := 4) dX12_feed_28 (by decide) ?_
  refine sv_icmp_ge (pc := 29) (tgt := 36) dX12_feed_29 (by decide) (fun _ => ?_) (fun h => absurd (by decide) h)
  refine sv_iload (pc := 36) dX12_feed_36 rfl ?_
  refine sv_bipush (pc := 38) (v := 8) dX12_feed_38 (by decide) ?_
  refine sv_icmp_ge (pc := 40) (tgt := 47) dX12_feed_40 (by decide) (fun h => absurd h (by decide)) (fun _ => ?_)
  refine sv_iload_n (pc := 43) dX12_feed_43 rfl rfl ?_
  refine sv_goto (pc := 44) (tgt := 72) dX12_feed_44 (by decide) ?_
  refine sv_istore (pc := 72) dX12_feed_72 (by decide) ?_
  refine sv_lvG (pc := 74) (lv' := [(0, .ref 106), (1, .int x1), (2, .int x2), (3, .int x3), (4, .int x4), (5, .int x5), (6, .int 7), (7, .int x2)]) (List.forall_mem_cons.mpr ⟨rfl, List.forall_mem_cons.mpr ⟨rfl, List.forall_mem_cons.mpr ⟨rfl, List.forall_mem_cons.mpr ⟨rfl, List.forall_mem_cons.mpr ⟨rfl, List.forall_mem_cons.mpr ⟨rfl, List.forall_mem_cons.mpr ⟨rfl, List.forall_mem_cons.mpr ⟨rfl, fun _ h => absurd h List.not_mem_nil⟩⟩⟩⟩⟩⟩⟩⟩) ?_
  refine sv_aload_n (pc := 74) dX12_feed_74 rfl rfl ?_
  refine sw_getfield (pc := 75) dX12_feed_75 (gCX12 _ _ _ _ _) 0 (by decide) wF_X12_7 rfl rfl rfl ?_
  refine sv_aload_n (pc := 78) dX12_feed_78 rfl rfl ?_
  refine sw_getfield (pc := 79) dX12_feed_79 (gCX12 _ _ _ _ _) 1 (by decide) wF_X12_1 rfl rfl rfl ?_
  refine sv_iload (pc := 82) dX12_feed_82 rfl ?_
  refine sw_iadd (pc := 84) (v := 7) dX12_feed_84 (by decide) ?_
  refine sv_iload (pc := 85) dX12_feed_85 rfl ?_
  refine sv_bipush (pc := 87) (v := 24) dX12_feed_87 (by decide) ?_
  refine sv_bipush (pc := 89) (v := 8) dX12_feed_89 (by decide) ?_
  refine sv_iload (pc := 91) dX12_feed_91 rfl ?_
  refine sv_iconst (pc := 93) (v := 4) dX12_feed_93 (by decide) ?_
  refine sw_irem (pc := 94) (v := 3) dX12_feed_94 (by decide) (by decide) ?_
  refine sw_imul (pc := 95) (v := 24) dX12_feed_95 (by decide) ?_
  refine sw_isub (pc := 96) (v := 0) dX12_feed_96 (by decide) ?_
  refine sv_ishr (pc := 97) dX12_feed_97 ?_
  refine sv_i2b (pc := 98) dX12_feed_98 rfl ?_
  refine sw_bastore (pc := 99) (k := 7) dX12_feed_99 rfl rfl rfl (by decide) (by decide) rfl rfl ?_
  refine sw_iinc (pc := 100) (v := 8) dX12_feed_100 rfl (by decide) (by decide) ?_
  refine sv_goto (pc := 103) (tgt := 19) dX12_feed_103 (by decide) ?_
  refine sv_iload (pc := 19) dX12_feed_19 rfl ?_
  refine sv_bipush (pc := 21) (v := 20) dX12_feed_21 (by decide) ?_
  refine sv_icmp_ge (pc := 23) (tgt := 106) dX12_feed_23 (by decide) (fun h => absurd h (by decide)) (fun _ => ?_)
  refine sv_iload (pc := 26) dX12_feed_26 rfl ?_
  refine sv_iconst (pc := 28) (v := 4) dX12_feed_28 (by decide) ?_
  refine sv_icmp_ge (pc := 29) (tgt := 36) dX12_feed_29 (by decide) (fun _ => ?_) (fun h => absurd (by decide) h)
  refine sv_iload (pc := 36) dX12_feed_36 rfl ?_
  refine sv_bipush (pc := 38) (v := 8) dX12_feed_38 (by decide) ?_
  refine sv_icmp_ge (pc := 40) (tgt := 47) dX12_feed_40 (by decide) (fun _ => ?_) (fun h => absurd (by decide) h)
  refine sv_iload (pc := 47) dX12_feed_47 rfl ?_
  refine sv_bipush (pc := 49) (v := 12) dX12_feed_49 (by decide) ?_
  refine sv_icmp_ge (pc := 51) (tgt := 58) dX12_feed_51 (by decide) (fun h => absurd h (by decide)) (fun _ => ?_)
  refine sv_iload_n (pc := 54) dX12_feed_54 rfl rfl ?_
  refine sv_goto (pc := 55) (tgt := 72) dX12_feed_55 (by decide) ?_
  refine sv_istore (pc := 72) dX12_feed_72 (by decide) ?_
  refine sv_aload_n (pc := 74) dX12_feed_74 rfl rfl ?_
  refine sw_getfield (pc := 75) dX12_feed_75 (gCX12 _ _ _ _ _) 0 (by decide) wF_X12_7 rfl rfl rfl ?_
  refine sv_aload_n (pc := 78) dX12_feed_78 rfl rfl ?_
  refine sw_getfield (pc := 79) dX12_feed_79 (gCX12 _ _ _ _ _) 1 (by decide) wF_X12_1 rfl rfl rfl ?_
  refine sv_iload (pc := 82) dX12_feed_82 rfl ?_
  refine sw_iadd (pc := 84) (v := 8) dX12_feed_84 (by decide) ?_
  refine sv_iload (pc := 85) dX12_feed_85 rfl ?_
  refine sv_bipush (pc := 87) (v := 24) dX12_feed_87 (by decide) ?_
  refine sv_bipush (pc := 89) (v := 8) dX12_feed_89 (by decide) ?_
  refine sv_iload (pc := 91) dX12_feed_91 rfl ?_
  refine sv_iconst (pc := 93) (v := 4) dX12_feed_93 (by decide) ?_
  refine sw_irem (pc := 94) (v := 0) dX12_feed_94 (by decide) (by decide) ?_
  refine sw_imul (pc := 95) (v := 0) dX12_feed_95 (by decide) ?_
  refine sw_isub (pc := 96) (v := 24) dX12_feed_96 (by decide) ?_
  refine sv_ishr (pc := 97) dX12_feed_97 ?_
  refine sv_i2b (pc := 98) dX12_feed_98 rfl ?_
  refine sw_bastore (pc := 99) (k := 8) dX12_feed_99 rfl rfl rfl (by decide) (by decide) rfl rfl ?_
  refine sw_iinc (pc := 100) (v := 9) dX12_feed_100 rfl (by decide) (by decide) ?_
  refine sv_goto (pc := 103) (tgt := 19) dX12_feed_103 (by decide) ?_
  refine sv_iload (pc := 19) dX12_feed_19 rfl ?_
  refine sv_bipush (pc := 21) (v := 20) dX12_feed_21 (by decide) ?_
  refine sv_icmp_ge (pc := 23) (tgt := 106) dX12_feed_23 (by decide) (fun h => absurd h (by decide)) (fun _ => ?_)
  refine sv_iload (pc := 26) dX12_feed_26 rfl ?_
  refine sv_iconst (pc := 28) (v := 4) dX12_feed_28 (by decide) ?_
  refine sv_icmp_ge (pc := 29) (tgt := 36) dX12_feed_29 (by decide) (fun _ => ?_) (fun h => absurd (by decide) h)
  refine sv_iload (pc := 36) dX12_feed_36 rfl ?_
  refine sv_bipush (pc := 38) (v := 8) dX12_feed_38 (by decide) ?_
  refine sv_icmp_ge (pc := 40) (tgt := 47) dX12_feed_40 (by decide) (fun _ => ?_) (fun h => absurd (by decide) h)
  refine sv_iload (pc := 47) dX12_feed_47 rfl ?_
  refine sv_bipush (pc := 49) (v := 12) dX12_feed_49 (by decide) ?_
  refine sv_icmp_ge (pc := 51) (tgt := 58) dX12_feed_51 (by decide) (fun h => absurd h (by decide)) (fun _ => ?_)
  refine sv_iload_n (pc := 54) dX12_feed_54 rfl rfl ?_
  refine sv_goto (pc := 55) (tgt := 72) dX12_feed_55 (by decide) ?_
  refine sv_istore (pc := 72) dX12_feed_72 (by decide) ?_
  refine sv_aload_n (pc := 74) dX12_feed_74 rfl rfl ?_
  refine sw_getfield (pc := 75) dX12_feed_75 (gCX12 _ _ _ _ _) 0 (by decide) wF_X12_7 rfl rfl rfl ?_
  refine sv_aload_n (pc := 78) dX12_feed_78 rfl rfl ?_
  refine sw_getfield (pc := 79) dX12_feed_79 (gCX12 _ _ _ _ _) 1 (by decide) wF_X12_1 rfl rfl rfl ?_
  refine sv_iload (pc := 82) dX12_feed_82 rfl ?_
  refine sw_iadd (pc := 84) (v := 9) dX12_feed_84 (by decide) ?_
  refine sv_iload (pc := 85) dX12_feed_85 rfl ?_
  refine sv_bipush (pc := 87) (v := 24) dX12_feed_87 (by decide) ?_
  refine sv_bipush (pc := 89) (v := 8) dX12_feed_89 (by decide) ?_
  refine sv_iload (pc := 91) dX12_feed_91 rfl ?_
  refine sv_iconst (pc := 93) (v := 4) dX12_feed_93 (by decide) ?_
  refine sw_irem (pc := 94) (v := 1) dX12_feed_94 (by decide) (by decide) ?_
  refine sw_imul (pc := 95) (v := 8) dX12_feed_95 (by decide) ?_
  refine sw_isub (pc := 96) (v := 16) dX12_feed_96 (by decide) ?_
  refine sv_ishr (pc := 97) dX12_feed_97 ?_
  refine sv_i2b (pc := 98) dX12_feed_98 rfl ?_
  refine sw_bastore (pc := 99) (k := 9) dX12_feed_99 rfl rfl rfl (by decide) (by decide) rfl rfl ?_
  refine sw_iinc (pc := 100) (v := 10) dX12_feed_100 rfl (by decide) (by decide) ?_
  refine sv_goto (pc := 103) (tgt := 19) dX12_feed_103 (by decide) ?_
  refine sv_iload (pc := 19) dX12_feed_19 rfl ?_
  refine sv_bipush (pc := 21) (v := 20) dX12_feed_21 (by decide) ?_
  refine sv_icmp_ge (pc := 23) (tgt := 106) dX12_feed_23 (by decide) (fun h => absurd h (by decide)) (fun _ => ?_)
  refine sv_iload (pc := 26) dX12_feed_26 rfl ?_
  refine sv_iconst (pc := 28) (v := 4) dX12_feed_28 (by decide) ?_
  refine sv_icmp_ge (pc := 29) (tgt := 36) dX12_feed_29 (by decide) (fun _ => ?_) (fun h => absurd (by decide) h)
  refine sv_iload (pc := 36) dX12_feed_36 rfl ?_
  refine sv_bipush (pc := 38) (v := 8) dX12_feed_38 (by decide) ?_
  refine sv_icmp_ge (pc := 40) (tgt := 47) dX12_feed_40 (by decide) (fun _ => ?_) (fun h => absurd (by decide) h)
  refine sv_iload (pc := 47) dX12_feed_47 rfl ?_
  refine sv_bipush (pc := 49) (v := 12) dX12_feed_49 (by decide) ?_
  refine sv_icmp_ge (pc := 51) (tgt := 58) dX12_feed_51 (by decide) (fun h => absurd h (by decide)) (fun _ => ?_)
  refine sv_iload_n (pc := 54) dX12_feed_54 rfl rfl ?_
  refine sv_goto (pc := 55) (tgt := 72) dX12_feed_55 (by decide) ?_
  refine sv_istore (pc := 72) dX12_feed_72 (by decide) ?_
  refine sv_aload_n (pc := 74) dX12_feed_74 rfl rfl ?_
  refine sw_getfield (pc := 75) dX12_feed_75 (gCX12 _ _ _ _ _) 0 (by decide) wF_X12_7 rfl rfl rfl ?_
  refine sv_aload_n (pc := 78) dX12_feed_78 rfl rfl ?_
  refine sw_getfield (pc := 79) dX12_feed_79 (gCX12 _ _ _ _ _) 1 (by decide) wF_X12_1 rfl rfl rfl ?_
  refine sv_iload (pc := 82) dX12_feed_82 rfl ?_
  refine sw_iadd (pc := 84) (v := 10) dX12_feed_84 (by decide) ?_
  refine sv_iload (pc := 85) dX12_feed_85 rfl ?_
  refine sv_bipush (pc := 87) (v := 24) dX12_feed_87 (by decide) ?_
  refine sv_bipush (pc := 89) (v := 8) dX12_feed_89 (by decide) ?_
  refine sv_iload (pc := 91) dX12_feed_91 rfl ?_
  refine sv_iconst (pc := 93) (v := 4) dX12_feed_93 (by decide) ?_
  refine sw_irem (pc := 94) (v := 2) dX12_feed_94 (by decide) (by decide) ?_
  refine sw_imul (pc := 95) (v := 16) dX12_feed_95 (by decide) ?_
  refine sw_isub (pc := 96) (v := 8) dX12_feed_96 (by decide) ?_
  refine sv_ishr (pc := 97) dX12_feed_97 ?_
  refine sv_i2b (pc := 98) dX12_feed_98 rfl ?_
  refine sw_bastore (pc := 99) (k := 10) dX12_feed_99 rfl rfl rfl (by decide) (by decide) rfl rfl ?_
  refine sw_iinc (pc := 100) (v := 11) dX12_feed_100 rfl (by decide) (by decide) ?_
  refine sv_goto (pc := 103) (tgt := 19) dX12_feed_103 (by decide) ?_
  refine sv_iload (pc := 19) dX12_feed_19 rfl ?_
  refine sv_bipush (pc := 21) (v := 20) dX12_feed_21 (by decide) ?_
  refine sv_icmp_ge (pc := 23) (tgt := 106) dX12_feed_23 (by decide) (fun h => absurd h (by decide)) (fun _ => ?_)
  refine sv_iload (pc := 26) dX12_feed_26 rfl ?_
  refine sv_iconst (pc := 28) (v := 4) dX12_feed_28 (by decide) ?_
  refine sv_icmp_ge (pc := 29) (tgt := 36) dX12_feed_29 (by decide) (fun _ => ?_) (fun h => absurd (by decide) h)
  refine sv_iload (pc := 36) dX12_feed_36 rfl ?_
  refine sv_bipush (pc := 38) (v := 8) dX12_feed_38 (by decide) ?_
  refine sv_icmp_ge (pc := 40) (tgt := 47) dX12_feed_40 (by decide) (fun _ => ?_) (fun h => absurd (by decide) h)
  refine sv_iload (pc := 47) dX12_feed_47 rfl ?_
  refine sv_bipush (pc := 49) (v := 12) dX12_feed_49 (by decide) ?_
  refine sv_icmp_ge (pc := 51) (tgt := 58) dX12_feed_51 (by decide) (fun h => absurd h (by decide)) (fun _ => ?_)
  refine sv_iload_n (pc := 54) dX12_feed_54 rfl rfl ?_
  refine sv_goto (pc := 55) (tgt := 72) dX12_feed_55 (by decide) ?_
  refine sv_istore (pc := 72) dX12_feed_72 (by decide) ?_
  refine sv_lvG (pc := 74) (lv' := [(0, .ref 106), (1, .int x1), (2, .int x2), (3, .int x3), (4, .int x4), (5, .int x5), (6, .int 11), (7, .int x3)]) (List.forall_mem_cons.mpr ⟨rfl, List.forall_mem_cons.mpr ⟨rfl, List.forall_mem_cons.mpr ⟨rfl, List.forall_mem_cons.mpr ⟨rfl, List.forall_mem_cons.mpr ⟨rfl, List.forall_mem_cons.mpr ⟨rfl, List.forall_mem_cons.mpr ⟨rfl, List.forall_mem_cons.mpr ⟨rfl, fun _ h => absurd h List.not_mem_nil⟩⟩⟩⟩⟩⟩⟩⟩) ?_
  refine sv_aload_n (pc := 74) dX12_feed_74 rfl rfl ?_
  refine sw_getfield (pc := 75) dX12_feed_75 (gCX12 _ _ _ _ _) 0 (by decide) wF_X12_7 rfl rfl rfl ?_
  refine sv_aload_n (pc := 78) dX12_feed_78 rfl rfl ?_
  refine sw_getfield (pc := 79) dX12_feed_79 (gCX12 _ _ _ _ _) 1 (by decide) wF_X12_1 rfl rfl rfl ?_
  refine sv_iload (pc := 82) dX12_feed_82 rfl ?_
  refine sw_iadd (pc := 84) (v := 11) dX12_feed_84 (by decide) ?_
  refine sv_iload (pc := 85) dX12_feed_85 rfl ?_
  refine sv_bipush (pc := 87) (v := 24) dX12_feed_87 (by decide) ?_
  refine sv_bipush (pc := 89) (v := 8) dX12_feed_89 (by decide) ?_
  refine sv_iload (pc := 91) dX12_feed_91 rfl ?_
  refine sv_iconst (pc := 93) (v := 4) dX12_feed_93 (by decide) ?_
  refine sw_irem (pc := 94) (v := 3) dX12_feed_94 (by decide) (by decide) ?_
  refine sw_imul (pc := 95) (v := 24) dX12_feed_95 (by decide) ?_
  refine sw_isub (pc := 96) (v := 0) dX12_feed_96 (by decide) ?_
  refine sv_ishr (pc := 97) dX12_feed_97 ?_
  refine sv_i2b (pc := 98) dX12_feed_98 rfl ?_
  refine sw_bastore (pc := 99) (k := 11) dX12_feed_99 rfl rfl rfl (by decide) (by decide) rfl rfl ?_
  refine sw_iinc (pc := 100) (v := 12) dX12_feed_100 rfl (by decide) (by decide) ?_
  refine sv_goto (pc := 103) (tgt := 19) dX12_feed_103 (by decide) ?_
  refine sv_iload (pc := 19) dX12_feed_19 rfl ?_
  refine sv_bipush (pc := 21) (v := 20) dX12_feed_21 (by decide) ?_
  refine sv_icmp_ge (pc := 23) (tgt := 106) dX12_feed_23 (by decide) (fun h => absurd h (by decide)) (fun _ => ?_)
  refine sv_iload (pc := 26) dX12_feed_26 rfl ?_
  refine sv_iconst (pc := 28) (v := 4) dX12_feed_28 (by decide) ?_
  refine sv_icmp_ge (pc := 29) (tgt := 36) dX12_feed_29 (by decide) (fun _ => ?_) (fun h => absurd (by decide) h)
  refine sv_iload (pc := 36) dX12_feed_36 rfl ?_
  refine sv_bipush (pc := 38) (v := 8) dX12_feed_38 (by decide) ?_
  refine sv_icmp_ge (pc := 40) (tgt := 47) dX12_feed_40 (by decide) (fun _ => ?_) (fun h => absurd (by decide) h)
  refine sv_iload (pc := 47) dX12_feed_47 rfl ?_
  refine sv_bipush (pc := 49) (v := 12) dX12_feed_49 (by decide) ?_
  refine sv_icmp_ge (pc := 51) (tgt := 58) dX12_feed_51 (by decide) (fun _ => ?_) (fun h => absurd (by decide) h)
  refine sv_iload (pc := 58) dX12_feed_58 rfl ?_
  refine sv_bipush (pc := 60) (v := 16) dX12_feed_60 (by decide) ?_
  refine sv_icmp_ge (pc := 62) (tgt := 70) dX12_feed_62 (by decide) (fun h => absurd h (by decide)) (fun _ => ?_)
  refine sv_iload (pc := 65) dX12_feed_65 rfl ?_
  refine sv_goto (pc := 67) (tgt := 72) dX12_feed_67 (by decide) ?_
  refine sv_istore (pc := 72) dX12_feed_72 (by decide) ?_
  refine sv_aload_n (pc := 74) dX12_feed_74 rfl rfl ?_
  refine sw_getfield (pc := 75) dX12_feed_75 (gCX12 _ _ _ _ _) 0 (by decide) wF_X12_7 rfl rfl rfl ?_
  refine sv_aload_n (pc := 78) dX12_feed_78 rfl rfl ?_
  refine sw_getfield (pc := 79) dX12_feed_79 (gCX12 _ _ _ _ _) 1 (by decide) wF_X12_1 rfl rfl rfl ?_
  refine sv_iload (pc := 82) dX12_feed_82 rfl ?_
  refine sw_iadd (pc := 84) (v := 12) dX12_feed_84 (by decide) ?_
  refine sv_iload (pc := 85) dX12_feed_85 rfl ?_
  refine sv_bipush (pc := 87) (v := 24) dX12_feed_87 (by decide) ?_
  refine sv_bipush (pc := 89) (v := 8) dX12_feed_89 (by decide) ?_
  refine sv_iload (pc := 91) dX12_feed_91 rfl ?_
  refine sv_iconst (pc := 93) (v := 4) dX12_feed_93 (by decide) ?_
  refine sw_irem (pc := 94) (v := 0) dX12_feed_94 (by decide) (by decide) ?_
  refine sw_imul (pc := 95) (v := 0) dX12_feed_95 (by decide) ?_
  refine sw_isub (pc := 96) (v := 24) dX12_feed_96 (by decide) ?_
  refine sv_ishr (pc := 97) dX12_feed_97 ?_
  refine sv_i2b (pc := 98) dX12_feed_98 rfl ?_
  refine sw_bastore (pc := 99) (k := 12) dX12_feed_99 rfl rfl rfl (by decide) (by decide) rfl rfl ?_
  refine sw_iinc (pc := 100) (v := 13) dX12_feed_100 rfl (by decide) (by decide) ?_
  refine sv_goto (pc := 103) (tgt := 19) dX12_feed_103 (by decide) ?_
  refine sv_iload (pc := 19) dX12_feed_19 rfl ?_
  refine sv_bipush (pc := 21) (v := 20) dX12_feed_21 (by decide) ?_
  refine sv_icmp_ge (pc := 23) (tgt := 106) dX12_feed_23 (by decide) (fun h => absurd h (by decide)) (fun _ => ?_)
  refine sv_iload (pc := 26) dX12_feed_26 rfl ?_
  refine sv_iconst (pc := 28) (v := 4) dX12_feed_28 (by decide) ?_
  refine sv_icmp_ge (pc := 29) (tgt := 36) dX12_feed_29 (by decide) (fun _ => ?_) (fun h => absurd (by decide) h)
  refine sv_iload (pc := 36) dX12_feed_36 rfl ?_
  refine sv_bipush (pc := 38) (v := 8) dX12_feed_38 (by decide) ?_
  refine sv_icmp_ge (pc := 40) (tgt := 47) dX12_feed_40 (by decide) (fun _ => ?_) (fun h => absurd (by decide) h)
  refine sv_iload (pc := 47) dX12_feed_47 rfl ?_
  refine sv_bipush (pc := 49) (v := 12) dX12_feed_49 (by decide) ?_
  refine sv_icmp_ge (pc := 51) (tgt := 58) dX12_feed_51 (by decide) (fun _ => ?_) (fun h => absurd (by decide) h)
  refine sv_iload (pc := 58) dX12_feed_58 rfl ?_
  refine sv_bipush (pc := 60) (v := 16) dX12_feed_60 (by decide) ?_
  refine sv_icmp_ge (pc := 62) (tgt := 70) dX12_feed_62 (by decide) (fun h => absurd h (by decide)) (fun _ => ?_)
  refine sv_iload (pc := 65) dX12_feed_65 rfl ?_
  refine sv_goto (pc := 67) (tgt := 72) dX12_feed_67 (by decide) ?_
  refine sv_istore (pc := 72) dX12_feed_72 (by decide) ?_
  refine sv_aload_n (pc := 74) dX12_feed_74 rfl rfl ?_
  refine sw_getfield (pc := 75) dX12_feed_75 (gCX12 _ _ _ _ _) 0 (by decide) wF_X12_7 rfl rfl rfl ?_
  refine sv_aload_n (pc := 78) dX12_feed_78 rfl rfl ?_
  refine sw_getfield (pc := 79) dX12_feed_79 (gCX12 _ _ _ _ _) 1 (by decide) wF_X12_1 rfl rfl rfl ?_
  refine sv_iload (pc := 82) dX12_feed_82 rfl ?_
  refine sw_iadd (pc := 84) (v := 13) dX12_feed_84 (by decide) ?_
  refine sv_iload (pc := 85) dX12_feed_85 rfl ?_
  refine sv_bipush (pc := 87) (v := 24) dX12_feed_87 (by decide) ?_
  refine sv_bipush (pc := 89) (v := 8) dX12_feed_89 (by decide) ?_
  refine sv_iload (pc := 91) dX12_feed_91 rfl ?_
  refine sv_iconst (pc := 93) (v := 4) dX12_feed_93 (by decide) ?_
  refine sw_irem (pc := 94) (v := 1) dX12_feed_94 (by decide) (by decide) ?_
  refine sw_imul (pc := 95) (v := 8) dX12_feed_95 (by decide) ?_
  refine sw_isub (pc := 96) (v := 16) dX12_feed_96 (by decide) ?_
  refine sv_ishr (pc := 97) dX12_feed_97 ?_
  refine sv_i2b (pc := 98) dX12_feed_98 rfl ?_
  refine sw_bastore (pc := 99) (k := 13) dX12_feed_99 rfl rfl rfl (by decide) (by decide) rfl rfl ?_
  refine sw_iinc (pc := 100) (v := 14) dX12_feed_100 rfl (by decide) (by decide) ?_
  refine sv_goto (pc := 103) (tgt := 19) dX12_feed_103 (by decide) ?_
  refine sv_iload (pc := 19) dX12_feed_19 rfl ?_
  refine sv_bipush (pc := 21) (v := 20) dX12_feed_21 (by decide) ?_
  refine sv_icmp_ge (pc := 23) (tgt := 106) dX12_feed_23 (by decide) (fun h => absurd h (by decide)) (fun _ => ?_)
  refine sv_iload (pc := 26) dX12_feed_26 rfl ?_
  refine sv_iconst (pc := 28) (v := 4) dX12_feed_28 (by decide) ?_
  refine sv_icmp_ge (pc := 29) (tgt := 36) dX12_feed_29 (by decide) (fun _ => ?_) (fun h => absurd (by decide) h)
  refine sv_iload (pc := 36) dX12_feed_36 rfl ?_
  refine sv_bipush (pc := 38) (v := 8) dX12_feed_38 (by decide) ?_
  refine sv_icmp_ge (pc := 40) (tgt := 47) dX12_feed_40 (by decide) (fun _ => ?_) (fun h => absurd (by decide) h)
  refine sv_iload (pc := 47) dX12_feed_47 rfl ?_
  refine sv_bipush (pc := 49) (v := 12) dX12_feed_49 (by decide) ?_
  refine sv_icmp_ge (pc := 51) (tgt := 58) dX12_feed_51 (by decide) (fun _ => ?_) (fun h => absurd (by decide) h)
  refine sv_iload (pc := 58) dX12_feed_58 rfl ?_
  refine sv_bipush (pc := 60) (v := 16) dX12_feed_60 (by decide) ?_
  refine sv_icmp_ge (pc := 62) (tgt := 70) dX12_feed_62 (by decide) (fun h => absurd h (by decide)) (fun _ => ?_)
  refine sv_iload (pc := 65) dX12_feed_65 rfl ?_
  refine sv_goto (pc := 67) (tgt := 72) dX12_feed_67 (by decide) ?_
  refine sv_istore (pc := 72) dX12_feed_72 (by decide) ?_
  refine sv_aload_n (pc := 74) dX12_feed_74 rfl rfl ?_
  refine sw_getfield (pc := 75) dX12_feed_75 (gCX12 _ _ _ _ _) 0 (by decide) wF_X12_7 rfl rfl rfl ?_
  refine sv_aload_n (pc := 78) dX12_feed_78 rfl rfl ?_
  refine sw_getfield (pc := 79) dX12_feed_79 (gCX12 _ _ _ _ _) 1 (by decide) wF_X12_1 rfl rfl rfl ?_
  refine sv_iload (pc := 82) dX12_feed_82 rfl ?_
  refine sw_iadd (pc := 84) (v := 14) dX12_feed_84 (by decide) ?_
  refine sv_iload (pc := 85) dX12_feed_85 rfl ?_
  refine sv_bipush (pc := 87) (v := 24) dX12_feed_87 (by decide) ?_
  refine sv_bipush (pc := 89) (v := 8) dX12_feed_89 (by decide) ?_
  refine sv_iload (pc := 91) dX12_feed_91 rfl ?_
  refine sv_iconst (pc := 93) (v := 4) dX12_feed_93 (by decide) ?_
  refine sw_irem (pc := 94) (v := 2) dX12_feed_94 (by decide) (by decide) ?_
  refine sw_imul (pc := 95) (v := 16) dX12_feed_95 (by decide) ?_
  refine sw_isub (pc := 96) (v := 8) dX12_feed_96 (by decide) ?_
  refine sv_ishr (pc := 97) dX12_feed_97 ?_
  refine sv_i2b (pc := 98) dX12_feed_98 rfl ?_
  refine sw_bastore (pc := 99) (k := 14) dX12_feed_99 rfl rfl rfl (by decide) (by decide) rfl rfl ?_
  refine sw_iinc (pc := 100) (v := 15) dX12_feed_100 rfl (by decide) (by decide) ?_
  refine sv_goto (pc := 103) (tgt := 19) dX12_feed_103 (by decide) ?_
  refine sv_iload (pc := 19) dX12_feed_19 rfl ?_
  refine sv_bipush (pc := 21) (v := 20) dX12_feed_21 (by decide) ?_
  refine sv_icmp_ge (pc := 23) (tgt := 106) dX12_feed_23 (by decide) (fun h => absurd h (by decide)) (fun _ => ?_)
  refine sv_iload (pc := 26) dX12_feed_26 rfl ?_
  refine sv_iconst (pc := 28) (v := 4) dX12_feed_28 (by decide) ?_
  refine sv_icmp_ge (pc := 29) (tgt := 36) dX12_feed_29 (by decide) (fun _ => ?_) (fun h => absurd (by decide) h)
  refine sv_iload (pc := 36) dX12_feed_36 rfl ?_
  refine sv_bipush (pc := 38) (v := 8) dX12_feed_38 (by decide) ?_
  refine sv_icmp_ge (pc := 40) (tgt := 47) dX12_feed_40 (by decide) (fun _ => ?_) (fun h => absurd (by decide) h)
  refine sv_iload (pc := 47) dX12_feed_47 rfl ?_
  refine sv_bipush (pc := 49) (v := 12) dX12_feed_49 (by decide) ?_
  refine sv_icmp_ge (pc := 51) (tgt := 58) dX12_feed_51 (by decide) (fun _ => ?_) (fun h => absurd (by decide) h)
  refine sv_iload (pc := 58) dX12_feed_58 rfl ?_
  refine sv_bipush (pc := 60) (v := 16) dX12_feed_60 (by decide) ?_
  refine sv_icmp_ge (pc := 62) (tgt := 70) dX12_feed_62 (by decide) (fun h => absurd h (by decide)) (fun _ => ?_)
  refine sv_iload (pc := 65) dX12_feed_65 rfl ?_
  refine sv_goto (pc := 67) (tgt := 72) dX12_feed_67 (by decide) ?_
  refine sv_istore (pc := 72) dX12_feed_72 (by decide) ?_
  refine sv_lvG (pc := 74) (lv' := [(0, .ref 106), (1, .int x1), (2, .int x2), (3, .int x3), (4, .int x4), (5, .int x5), (6, .int 15), (7, .int x4)]) (List.forall_mem_cons.mpr ⟨rfl, List.forall_mem_cons.mpr ⟨rfl, List.forall_mem_cons.mpr ⟨rfl, List.forall_mem_cons.mpr ⟨rfl, List.forall_mem_cons.mpr ⟨rfl, List.forall_mem_cons.mpr ⟨rfl, List.forall_mem_cons.mpr ⟨rfl, List.forall_mem_cons.mpr ⟨rfl, fun _ h => absurd h List.not_mem_nil⟩⟩⟩⟩⟩⟩⟩⟩) ?_
  refine sv_aload_n (pc := 74) dX12_feed_74 rfl rfl ?_
  refine sw_getfield (pc := 75) dX12_feed_75 (gCX12 _ _ _ _ _) 0 (by decide) wF_X12_7 rfl rfl rfl ?_
  refine sv_aload_n (pc := 78) dX12_feed_78 rfl rfl ?_
  refine sw_getfield (pc := 79) dX12_feed_79 (gCX12 _ _ _ _ _) 1 (by decide) wF_X12_1 rfl rfl rfl ?_
  refine sv_iload (pc := 82) dX12_feed_82 rfl ?_
  refine sw_iadd (pc := 84) (v := 15) dX12_feed_84 (by decide) ?_
  refine sv_iload (pc := 85) dX12_feed_85 rfl ?_
  refine sv_bipush (pc := 87) (v := 24) dX12_feed_87 (by decide) ?_
  refine sv_bipush (pc := 89) (v := 8) dX12_feed_89 (by decide) ?_
  refine sv_iload (pc := 91) dX12_feed_91 rfl ?_
  refine sv_iconst (pc := 93) (v := 4) dX12_feed_93 (by decide) ?_
  refine sw_irem (pc := 94) (v := 3) dX12_feed_94 (by decide) (by decide) ?_
  refine sw_imul (pc := 95) (v := 24) dX12_feed_95 (by decide) ?_
  refine sw_isub (pc := 96) (v := 0) dX12_feed_96 (by decide) ?_
  refine sv_ishr (pc := 97) dX12_feed_97 ?_
  refine sv_i2b (pc := 98) dX12_feed_98 rfl ?_
  refine sw_bastore (pc := 99) (k := 15) dX12_feed_99 rfl rfl rfl (by decide) (by decide) rfl rfl ?_
  refine sw_iinc (pc := 100) (v := 16) dX12_feed_100 rfl (by decide) (by decide) ?_
  refine sv_goto (pc := 103) (tgt := 19) dX12_feed_103 (by decide) ?_
  refine sv_iload (pc := 19) dX12_feed_19 rfl ?_
  refine sv_bipush (pc := 21) (v := 20) dX12_feed_21 (by decide) ?_
  refine sv_icmp_ge (pc := 23) (tgt := 106) dX12_feed_23 (by decide) (fun h => absurd h (by decide)) (fun _ => ?_)
  refine sv_iload (pc := 26) dX12_feed_26 rfl ?_
  refine sv_iconst (pc := 28) (v := 4) dX12_feed_28 (by decide) ?_
  refine sv_icmp_ge (pc := 29) (tgt := 36) dX12_feed_29 (by decide) (fun _ => ?_) (fun h => absurd (by decide) h)
  refine sv_iload (pc := 36) dX12_feed_36 rfl ?_
  refine sv_bipush (pc := 38) (v := 8) dX12_feed_38 (by decide) ?_
  refine sv_icmp_ge (pc := 40) (tgt := 47) dX12_feed_40 (by decide) (fun _ => ?_) (fun h => absurd (by decide) h)
  refine sv_iload (pc := 47) dX12_feed_47 rfl ?_
  refine sv_bipush (pc := 49) (v := 12) dX12_feed_49 (by decide) ?_
  refine sv_icmp_ge (pc := 51) (tgt := 58) dX12_feed_51 (by decide) (fun _ => ?_) (fun h => absurd (by decide) h)
  refine sv_iload (pc := 58) dX12_feed_58 rfl ?_
  refine sv_bipush (pc := 60) (v := 16) dX12_feed_60 (by decide) ?_
  refine sv_icmp_ge (pc := 62) (tgt := 70) dX12_feed_62 (by decide) (fun _ => ?_) (fun h => absurd (by decide) h)
  refine sv_iload (pc := 70) dX12_feed_70 rfl ?_
  refine sv_istore (pc := 72) dX12_feed_72 (by decide) ?_
  refine sv_aload_n (pc := 74) dX12_feed_74 rfl rfl ?_
  refine sw_getfield (pc := 75) dX12_feed_75 (gCX12 _ _ _ _ _) 0 (by decide) wF_X12_7 rfl rfl rfl ?_
  refine sv_aload_n (pc := 78) dX12_feed_78 rfl rfl ?_
  refine sw_getfield (pc := 79) dX12_feed_79 (gCX12 _ _ _ _ _) 1 (by decide) wF_X12_1 rfl rfl rfl ?_
  refine sv_iload (pc := 82) dX12_feed_82 rfl ?_
  refine sw_iadd (pc := 84) (v := 16) dX12_feed_84 (by decide) ?_
  refine sv_iload (pc := 85) dX12_feed_85 rfl ?_
  refine sv_bipush (pc := 87) (v := 24) dX12_feed_87 (by decide) ?_
  refine sv_bipush (pc := 89) (v := 8) dX12_feed_89 (by decide) ?_
  refine sv_iload (pc := 91) dX12_feed_91 rfl ?_
  refine sv_iconst (pc := 93) (v := 4) dX12_feed_93 (by decide) ?_
  refine sw_irem (pc := 94) (v := 0) dX12_feed_94 (by decide) (by decide) ?_
  refine sw_imul (pc := 95) (v := 0) dX12_feed_95 (by decide) ?_
  refine sw_isub (pc := 96) (v := 24) dX12_feed_96 (by decide) ?_
  refine sv_ishr (pc := 97) dX12_feed_97 ?_
  refine sv_i2b (pc := 98) dX12_feed_98 rfl ?_
  refine sw_bastore (pc := 99) (k := 16) dX12_feed_99 rfl rfl rfl (by decide) (by decide) rfl rfl ?_
  refine sw_iinc (pc := 100) (v := 17) dX12_feed_100 rfl (by decide) (by decide) ?_
  refine sv_goto (pc := 103) (tgt := 19) dX12_feed_103 (by decide) ?_
  refine sv_iload (pc := 19) dX12_feed_19 rfl ?_
  refine sv_bipush (pc := 21) (v := 20) dX12_feed_21 (by decide) ?_
  refine sv_icmp_ge (pc := 23) (tgt := 106) dX12_feed_23 (by decide) (fun h => absurd h (by decide)) (fun _ => ?_)
  refine sv_iload (pc := 26) dX12_feed_26 rfl ?_
  refine sv_iconst (pc := 28) (v := 4) dX12_feed_28 (by decide) ?_
  refine sv_icmp_ge (pc := 29) (tgt := 36) dX12_feed_29 (by decide) (fun _ => ?_) (fun h => absurd (by decide) h)
  refine sv_iload (pc := 36) dX12_feed_36 rfl ?_
  refine sv_bipush (pc := 38) (v := 8) dX12_feed_38 (by decide) ?_
  refine sv_icmp_ge (pc := 40) (tgt := 47) dX12_feed_40 (by decide) (fun _ => ?_) (fun h => absurd (by decide) h)
  refine sv_iload (pc := 47) dX12_feed_47 rfl ?_
  refine sv_bipush (pc := 49) (v := 12) dX12_feed_49 (by decide) ?_
  refine sv_icmp_ge (pc := 51) (tgt := 58) dX12_feed_51 (by decide) (fun _ => ?_) (fun h => absurd (by decide) h)
  refine sv_iload (pc := 58) dX12_feed_58 rfl ?_
  refine sv_bipush (pc := 60) (v := 16) dX12_feed_60 (by decide) ?_
  refine sv_icmp_ge (pc := 62) (tgt := 70) dX12_feed_62 (by decide) (fun _ => ?_) (fun h => absurd (by decide) h)
  refine sv_iload (pc := 70) dX12_feed_70 rfl ?_
  refine sv_istore (pc := 72) dX12_feed_72 (by decide) ?_
  refine sv_aload_n (pc := 74) dX12_feed_74 rfl rfl ?_
  refine sw_getfield (pc := 75) dX12_feed_75 (gCX12 _ _ _ _ _) 0 (by decide) wF_X12_7 rfl rfl rfl ?_
  refine sv_aload_n (pc := 78) dX12_feed_78 rfl rfl ?_
  refine sw_getfield (pc := 79) dX12_feed_79 (gCX12 _ _ _ _ _) 1 (by decide) wF_X12_1 rfl rfl rfl ?_
  refine sv_iload (pc := 82) dX12_feed_82 rfl ?_
  refine sw_iadd (pc := 84) (v := 17) dX12_feed_84 (by decide) ?_
  refine sv_iload (pc := 85) dX12_feed_85 rfl ?_
  refine sv_bipush (pc := 87) (v := 24) dX12_feed_87 (by decide) ?_
  refine sv_bipush (pc := 89) (v := 8) dX12_feed_89 (by decide) ?_
  refine sv_iload (pc := 91) dX12_feed_91 rfl ?_
  refine sv_iconst (pc := 93) (v := 4) dX12_feed_93 (by decide) ?_
  refine sw_irem (pc := 94) (v := 1) dX12_feed_94 (by decide) (by decide) ?_
  refine sw_imul (pc := 95) (v := 8) dX12_feed_95 (by decide) ?_
  refine sw_isub (pc := 96) (v := 16) dX12_feed_96 (by decide) ?_
  refine sv_ishr (pc := 97) dX12_feed_97 ?_
  refine sv_i2b (pc := 98) dX12_feed_98 rfl ?_
  refine sw_bastore (pc := 99) (k := 17) dX12_feed_99 rfl rfl rfl (by decide) (by decide) rfl rfl ?_
  refine sw_iinc (pc := 100) (v := 18) dX12_feed_100 rfl (by decide) (by decide) ?_
  refine sv_goto (pc := 103) (tgt := 19) dX12_feed_103 (by decide) ?_
  refine sv_iload (pc := 19) dX12_feed_19 rfl ?_
  refine sv_bipush (pc := 21) (v := 20) dX12_feed_21 (by decide) ?_
  refine sv_icmp_ge (pc := 23) (tgt := 106) dX12_feed_23 (by decide) (fun h => absurd h (by decide)) (fun _ => ?_)
  refine sv_iload (pc := 26) dX12_feed_26 rfl ?_
  refine sv_iconst (pc := 28) (v := 4) dX12_feed_28 (by decide) ?_
  refine sv_icmp_ge (pc := 29) (tgt := 36) dX12_feed_29 (by decide) (fun _ => ?_) (fun h => absurd (by decide) h)
  refine sv_iload (pc := 36) dX12_feed_36 rfl ?_
  refine sv_bipush (pc := 38) (v := 8) dX12_feed_38 (by decide) ?_
  refine sv_icmp_ge (pc := 40) (tgt := 47) dX12_feed_40 (by decide) (fun _ => ?_) (fun h => absurd (by decide) h)
  refine sv_iload (pc := 47) dX12_feed_47 rfl ?_
  refine sv_bipush (pc := 49) (v := 12) dX12_feed_49 (by decide) ?_
  refine sv_icmp_ge (pc := 51) (tgt := 58) dX12_feed_51 (by decide) (fun _ => ?_) (fun h => absurd (by decide) h)
  refine sv_iload (pc := 58) dX12_feed_58 rfl ?_
  refine sv_bipush (pc := 60) (v := 16) dX12_feed_60 (by decide) ?_
  refine sv_icmp_ge (pc := 62) (tgt := 70) dX12_feed_62 (by decide) (fun _ => ?_) (fun h => absurd (by decide) h)
  refine sv_iload (pc := 70) dX12_feed_70 rfl ?_
  refine sv_istore (pc := 72) dX12_feed_72 (by decide) ?_
  refine sv_aload_n (pc := 74) dX12_feed_74 rfl rfl ?_
  refine sw_getfield (pc := 75) dX12_feed_75 (gCX12 _ _ _ _ _) 0 (by decide) wF_X12_7 rfl rfl rfl ?_
  refine sv_aload_n (pc := 78) dX12_feed_78 rfl rfl ?_
  refine sw_getfield (pc := 79) dX12_feed_79 (gCX12 _ _ _ _ _) 1 (by decide) wF_X12_1 rfl rfl rfl ?_
  refine sv_iload (pc := 82) dX12_feed_82 rfl ?_
  refine sw_iadd (pc := 84) (v := 18) dX12_feed_84 (by decide) ?_
  refine sv_iload (pc := 85) dX12_feed_85 rfl ?_
  refine sv_bipush (pc := 87) (v := 24) dX12_feed_87 (by decide) ?_
  refine sv_bipush (pc := 89) (v := 8) dX12_feed_89 (by decide) ?_
  refine sv_iload (pc := 91) dX12_feed_91 rfl ?_
  refine sv_iconst (pc := 93) (v := 4) dX12_feed_93 (by decide) ?_
  refine sw_irem (pc := 94) (v := 2) dX12_feed_94 (by decide) (by decide) ?_
  refine sw_imul (pc := 95) (v := 16) dX12_feed_95 (by decide) ?_
  refine sw_isub (pc := 96) (v := 8) dX12_feed_96 (by decide) ?_
  refine sv_ishr (pc := 97) dX12_feed_97 ?_
  refine sv_i2b (pc := 98) dX12_feed_98 rfl ?_
  refine sw_bastore (pc := 99) (k := 18) dX12_feed_99 rfl rfl rfl (by decide) (by decide) rfl rfl ?_
  refine sw_iinc (pc := 100) (v := 19) dX12_feed_100 rfl (by decide) (by decide) ?_
  refine sv_goto (pc := 103) (tgt := 19) dX12_feed_103 (by decide) ?_
  refine sv_iload (pc := 19) dX12_feed_19 rfl ?_
  refine sv_bipush (pc := 21) (v := 20) dX12_feed_21 (by decide) ?_
  refine sv_icmp_ge (pc := 23) (tgt := 106) dX12_feed_23 (by decide) (fun h => absurd h (by decide)) (fun _ => ?_)
  refine sv_iload (pc := 26) dX12_feed_26 rfl ?_
  refine sv_iconst (pc := 28) (v := 4) dX12_feed_28 (by decide) ?_
  refine sv_icmp_ge (pc := 29) (tgt := 36) dX12_feed_29 (by decide) (fun _ => ?_) (fun h => absurd (by decide) h)
  refine sv_iload (pc := 36) dX12_feed_36 rfl ?_
  refine sv_bipush (pc := 38) (v := 8) dX12_feed_38 (by decide) ?_
  refine sv_icmp_ge (pc := 40) (tgt := 47) dX12_feed_40 (by decide) (fun _ => ?_) (fun h => absurd (by decide) h)
  refine sv_iload (pc := 47) dX12_feed_47 rfl ?_
  refine sv_bipush (pc := 49) (v := 12) dX12_feed_49 (by decide) ?_
  refine sv_icmp_ge (pc := 51) (tgt := 58) dX12_feed_51 (by decide) (fun _ => ?_) (fun h => absurd (by decide) h)
  refine sv_iload (pc := 58) dX12_feed_58 rfl ?_
  refine sv_bipush (pc := 60) (v := 16) dX12_feed_60 (by decide) ?_
  refine sv_icmp_ge (pc := 62) (tgt := 70) dX12_feed_62 (by decide) (fun _ => ?_) (fun h => absurd (by decide) h)
  refine sv_iload (pc := 70) dX12_feed_70 rfl ?_
  refine sv_istore (pc := 72) dX12_feed_72 (by decide) ?_
  refine sv_lvG (pc := 74) (lv' := [(0, .ref 106), (1, .int x1), (2, .int x2), (3, .int x3), (4, .int x4), (5, .int x5), (6, .int 19), (7, .int x5)]) (List.forall_mem_cons.mpr ⟨rfl, List.forall_mem_cons.mpr ⟨rfl, List.forall_mem_cons.mpr ⟨rfl, List.forall_mem_cons.mpr ⟨rfl, List.forall_mem_cons.mpr ⟨rfl, List.forall_mem_cons.mpr ⟨rfl, List.forall_mem_cons.mpr ⟨rfl, List.forall_mem_cons.mpr ⟨rfl, fun _ h => absurd h List.not_mem_nil⟩⟩⟩⟩⟩⟩⟩⟩) ?_
  refine sv_aload_n (pc := 74) dX12_feed_74 rfl rfl ?_
  refine sw_getfield (pc := 75) dX12_feed_75 (gCX12 _ _ _ _ _) 0 (by decide) wF_X12_7 rfl rfl rfl ?_
  refine sv_aload_n (pc := 78) dX12_feed_78 rfl rfl ?_
  refine sw_getfield (pc := 79) dX12_feed_79 (gCX12 _ _ _ _ _) 1 (by decide) wF_X12_1 rfl rfl rfl ?_
  refine sv_iload (pc := 82) dX12_feed_82 rfl ?_
  refine sw_iadd (pc := 84) (v := 19) dX12_feed_84 (by decide) ?_
  refine sv_iload (pc := 85) dX12_feed_85 rfl ?_
  refine sv_bipush (pc := 87) (v := 24) dX12_feed_87 (by decide) ?_
  refine sv_bipush (pc := 89) (v := 8) dX12_feed_89 (by decide) ?_
  refine sv_iload (pc := 91) dX12_feed_91 rfl ?_
  refine sv_iconst (pc := 93) (v := 4) dX12_feed_93 (by decide) ?_
  refine sw_irem (pc := 94) (v := 3) dX12_feed_94 (by decide) (by decide) ?_
  refine sw_imul (pc := 95) (v := 24) dX12_feed_95 (by decide) ?_
  refine sw_isub (pc := 96) (v := 0) dX12_feed_96 (by decide) ?_
  refine sv_ishr (pc := 97) dX12_feed_97 ?_
  refine sv_i2b (pc := 98) dX12_feed_98 rfl ?_
  refine sw_bastore (pc := 99) (k := 19) dX12_feed_99 rfl rfl rfl (by decide) (by decide) rfl rfl ?_
  refine sw_iinc (pc := 100) (v := 20) dX12_feed_100 rfl (by decide) (by decide) ?_
  refine sv_goto (pc := 103) (tgt := 19) dX12_feed_103 (by decide) ?_
  refine sv_iload (pc := 19) dX12_feed_19 rfl ?_
  refine sv_bipush (pc := 21) (v := 20) dX12_feed_21 (by decide) ?_
  refine sv_icmp_ge (pc := 23) (tgt := 106) dX12_feed_23 (by decide) (fun _ => ?_) (fun h => absurd (by decide) h)
  refine sv_aload_n (pc := 106) dX12_feed_106 rfl rfl ?_
  refine sv_dup (pc := 107) dX12_feed_107 rfl ?_
  refine sw_getfield (pc := 108) dX12_feed_108 (gCX12 _ _ _ _ _) 1 (by decide) wF_X12_1 rfl rfl rfl ?_
  refine sv_bipush (pc := 111) (v := 20) dX12_feed_111 (by decide) ?_
  refine sw_iadd (pc := 113) (v := 20) dX12_feed_113 (by decide) ?_
  refine sw_putfield (pc := 114) dX12_feed_114 (gCX12 _ _ _ _ _) 1 (by decide) wF_X12_1 rfl rfl rfl (fun _ => rfl) (fun _ => rfl) rfl ?_
  refine sv_aload_n (pc := 117) dX12_feed_117 rfl rfl ?_
  refine sw_getfield (pc := 118) dX12_feed_118 (gCX12 _ _ _ _ _) 1 (by decide) wF_X12_1 rfl rfl rfl ?_
  refine sv_iret (pc := 121) dX12_feed_121 rfl (le_t rfl) (le_t rfl) ?_
  refine sv_icmp_eq (pc := 298) (tgt := 1799) dL_law_298 (by decide) (fun _ => ?_) (fun h => absurd (by decide) h)
  exact kk _ _ _ (le_t rfl) (le_t rfl)
set_option maxHeartbeats 40000000 in
set_option maxRecDepth 100000 in
theorem op_1 (l : Launch) (D : va_G) (c : Nat → ClassId) (H0 : Heap) (b : Nat) (xs : Nat → Int32) (Z : sZT) (x1 x2 x3 x4 x5 x6 : Int32) (hx1 : xs 1 = x1) (hx2 : xs 2 = x2) (hx3 : xs 3 = x3) (hx4 : xs 4 = x4) (hx5 : xs 5 = x5) (hx6 : xs 6 = x6) (kk : ∀ (hp : sHp) (ce sl : Nat), ce ≤ 600000 → sl ≤ 7302250 → sV (gG l D c H0 (b, 7, xs)) mL room_1 Z 1799 [(3, .int 0), (2, .ref 106), (1, .ref 0), (0, .retAddr 0)] [] hp ce sl) : sV (gG l D c H0 (b, 7, xs)) mL room_1 Z 303 [(3, .int 0), (2, .ref 106), (1, .ref 0), (0, .retAddr 0)] [] (192, tF) 192 297215 := by
  refine sv_aload_n (pc := 303) dL_law_303 rfl rfl ?_
  refine sv_aload_nS (pc := 304) dL_law_304 rfl rfl ?_
  refine sv_iload_n (pc := 305) dL_law_305 rfl rfl ?_
  refine sv_iconst (pc := 306) (v := 1) dL_law_306 (by decide) ?_
  refine sw_iadd (pc := 307) (v := 1) dL_law_307 (by decide) ?_
  refine sw_sld (pc := 308) (v := x1) dL_law_308 (k := 1) (by decide) (by decide) rfl hx1 ?_
  refine sv_callV (pc := 309) (M' := mX11_cut) (d' := 20) (C' := 0) (S' := 0) (av := [.int x1]) ?_ (gOk _ _ _ _ _) dL_law_309 (tX11_cut _ _ _ _ _) ⟨wV_X11_cut, wL_X11_cut⟩ wM_DomainHouseLaw_18 (gCX11 _ _ _ _ _) rfl (lt_t rfl) rfl ⟨le_t rfl, le_t rfl⟩ ⟨le_t rfl, le_t rfl⟩ rfl (le_t rfl) (fun _ _ h => h)
  refine sC.of rfl (by decide) (le_t rfl) ?_
  refine sv_iload_n (pc := 0) dX11_cut_0 rfl rfl ?_
  refine sv_if_lt (pc := 1) (tgt := 12) dX11_cut_1 (by decide) (fun h_1 => ?_) (fun h_1 => ?_)
  · refine sv_iconst (pc := 12) (v := (-1)) dX11_cut_12 (by decide) ?_
    refine sv_iret (pc := 13) dX11_cut_13 rfl (le_t rfl) (le_t rfl) ?_
    refine sv_aload_n (pc := 312) dL_law_312 rfl rfl ?_
    refine sv_aload_nS (pc := 313) dL_law_313 rfl rfl ?_
    refine sv_iload_n (pc := 314) dL_law_314 rfl rfl ?_
    refine sv_iconst (pc := 315) (v := 1) dL_law_315 (by decide) ?_
    refine sw_iadd (pc := 316) (v := 1) dL_law_316 (by decide) ?_
    refine sw_sld (pc := 317) (v := x1) dL_law_317 (k := 1) (by decide) (by decide) rfl hx1 ?_
    refine sv_callV (pc := 318) (M' := mX12_cut) (d' := 20) (C' := 0) (S' := 0) (av := [.int x1]) ?_ (gOk _ _ _ _ _) dL_law_318 (tX12_cut _ _ _ _ _) ⟨wV_X12_cut, wL_X12_cut⟩ wM_DomainHouseLaw_22 (gCX12 _ _ _ _ _) rfl (lt_t rfl) rfl ⟨le_t rfl, le_t rfl⟩ ⟨le_t rfl, le_t rfl⟩ rfl (le_t rfl) (fun _ _ h => h)
    refine sC.of rfl (by decide) (le_t rfl) ?_
    refine sv_iload_n (pc := 0) dX12_cut_0 rfl rfl ?_
    refine sv_if_lt (pc := 1) (tgt := 12) dX12_cut_1 (by decide) (fun _ => ?_) (fun h => absurd h_1 h)
    refine sv_iconst (pc := 12) (v := (-1)) dX12_cut_12 (by decide) ?_
    refine sv_iret (pc := 13) dX12_cut_13 rfl (le_t rfl) (le_t rfl) ?_
    refine sv_icmp_eq (pc := 321) (tgt := 1799) dL_law_321 (by decide) (fun _ => ?_) (fun h => absurd (by decide) h)
    exact kk _ _ _ (le_t rfl) (le_t rfl)
  refine sv_iload_n (pc := 4) dX11_cut_4 rfl rfl ?_
  refine sv_aload_n (pc := 5) dX11_cut_5 rfl rfl ?_
  refine sw_getfield (pc := 6) dX11_cut_6 (gCX11 _ _ _ _ _) 10 (by decide) wF_X11_76 rfl rfl rfl ?_
  refine sv_icmp_le (pc := 9) (tgt := 14) dX11_cut_9 (by decide) (fun h_2 => ?_) (fun h_2 => ?_)
  · refine sv_aload_n (pc := 14) dX11_cut_14 rfl rfl ?_
    refine sw_getfield (pc := 15) dX11_cut_15 (gCX11 _ _ _ _ _) 10 (by decide) wF_X11_76 rfl rfl rfl ?_
    refine sv_istore_n (pc := 18) dX11_cut_18 rfl (by decide) ?_
    refine sv_aload_n (pc := 19) dX11_cut_19 rfl rfl ?_
    refine sv_iload_n (pc := 20) dX11_cut_20 rfl rfl ?_
    refine sw_putfield (pc := 21) dX11_cut_21 (gCX11 _ _ _ _ _) 10 (by decide) wF_X11_76 rfl rfl rfl (fun _ => rfl) (fun _ => rfl) rfl ?_
    refine sv_iload_n (pc := 24) dX11_cut_24 rfl rfl ?_
    refine sv_iret (pc := 25) dX11_cut_25 rfl (le_t rfl) (le_t rfl) ?_
    refine sv_aload_n (pc := 312) dL_law_312 rfl rfl ?_
    refine sv_aload_nS (pc := 313) dL_law_313 rfl rfl ?_
    refine sv_iload_n (pc := 314) dL_law_314 rfl rfl ?_
    refine sv_iconst (pc := 315) (v := 1) dL_law_315 (by decide) ?_
    refine sw_iadd (pc := 316) (v := 1) dL_law_316 (by decide) ?_
    refine sw_sld (pc := 317) (v := x1) dL_law_317 (k := 1) (by decide) (by decide) rfl hx1 ?_
    refine sv_callV (pc := 318) (M' := mX12_cut) (d' := 20) (C' := 0) (S' := 0) (av := [.int x1]) ?_ (gOk _ _ _ _ _) dL_law_318 (tX12_cut _ _ _ _ _) ⟨wV_X12_cut, wL_X12_cut⟩ wM_DomainHouseLaw_22 (gCX12 _ _ _ _ _) rfl (lt_t rfl) rfl ⟨le_t rfl, le_t rfl⟩ ⟨le_t rfl, le_t rfl⟩ rfl (le_t rfl) (fun _ _ h => h)
    refine sC.of rfl (by decide) (le_t rfl) ?_
    refine sv_iload_n (pc := 0) dX12_cut_0 rfl rfl ?_
    refine sv_if_lt (pc := 1) (tgt := 12) dX12_cut_1 (by decide) (fun h => absurd h h_1) (fun _ => ?_)
    refine sv_iload_n (pc := 4) dX12_cut_4 rfl rfl ?_
    refine sv_aload_n (pc := 5) dX12_cut_5 rfl rfl ?_
    refine sw_getfield (pc := 6) dX12_cut_6 (gCX12 _ _ _ _ _) 1 (by decide) wF_X12_1 rfl rfl rfl ?_
    refine sv_icmp_le (pc := 9) (tgt := 14) dX12_cut_9 (by decide) (fun _ => ?_) (fun h => absurd h_2 h)
    refine sv_aload_n (pc := 14) dX12_cut_14 rfl rfl ?_
    refine sw_getfield (pc := 15) dX12_cut_15 (gCX12 _ _ _ _ _) 1 (by decide) wF_X12_1 rfl rfl rfl ?_
    refine sv_istore_n (pc := 18) dX12_cut_18 rfl (by decide) ?_
    refine sv_aload_n (pc := 19) dX12_cut_19 rfl rfl ?_
    refine sv_iload_n (pc := 20) dX12_cut_20 rfl rfl ?_
    refine sw_putfield (pc := 21) dX12_cut_21 (gCX12 _ _ _ _ _) 1 (by decide) wF_X12_1 rfl rfl rfl (fun _ => rfl) (fun _ => rfl) rfl ?_
    refine sv_iload_n (pc := 24) dX12_cut_24 rfl rfl ?_
    refine sv_iret (pc := 25) dX12_cut_25 rfl (le_t rfl) (le_t rfl) ?_
    refine sv_icmp_eq (pc := 321) (tgt := 1799) dL_law_321 (by decide) (fun _ => ?_) (fun h => absurd (by decide) h)
    exact kk _ _ _ (le_t rfl) (le_t rfl)
  refine sv_iconst (pc := 12) (v := (-1)) dX11_cut_12 (by decide) ?_
  refine sv_iret (pc := 13) dX11_cut_13 rfl (le_t rfl) (le_t rfl) ?_
  refine sv_aload_n (pc := 312) dL_law_312 rfl rfl ?_
  refine sv_aload_nS (pc := 313) dL_law_313 rfl rfl ?_
  refine sv_iload_n (pc := 314) dL_law_314 rfl rfl ?_
  refine sv_iconst (pc := 315) (v := 1) dL_law_315 (by decide) ?_
  refine sw_iadd (pc := 316) (v := 1) dL_law_316 (by decide) ?_
  refine sw_sld (pc := 317) (v := x1) dL_law_317 (k := 1) (by decide) (by decide) rfl hx1 ?_
  refine sv_callV (pc := 318) (M' := mX12_cut) (d' := 20) (C' := 0) (S' := 0) (av := [.int x1]) ?_ (gOk _ _ _ _ _) dL_law_318 (tX12_cut _ _ _ _ _) ⟨wV_X12_cut, wL_X12_cut⟩ wM_DomainHouseLaw_22 (gCX12 _ _ _ _ _) rfl (lt_t rfl) rfl ⟨le_t rfl, le_t rfl⟩ ⟨le_t rfl, le_t rfl⟩ rfl (le_t rfl) (fun _ _ h => h)
  refine sC.of rfl (by decide) (le_t rfl) ?_
  refine sv_iload_n (pc := 0) dX12_cut_0 rfl rfl ?_
  refine sv_if_lt (pc := 1) (tgt := 12) dX12_cut_1 (by decide) (fun h => absurd h h_1) (fun _ => ?_)
  refine sv_iload_n (pc := 4) dX12_cut_4 rfl rfl ?_
  refine sv_aload_n (pc := 5) dX12_cut_5 rfl rfl ?_
  refine sw_getfield (pc := 6) dX12_cut_6 (gCX12 _ _ _ _ _) 1 (by decide) wF_X12_1 rfl rfl rfl ?_
  refine sv_icmp_le (pc := 9) (tgt := 14) dX12_cut_9 (by decide) (fun h => absurd h h_2) (fun _ => ?_)
  refine sv_iconst (pc := 12) (v := (-1)) dX12_cut_12 (by decide) ?_
  refine sv_iret (pc := 13) dX12_cut_13 rfl (le_t rfl) (le_t rfl) ?_
  refine sv_icmp_eq (pc := 321) (tgt := 1799) dL_law_321 (by decide) (fun _ => ?_) (fun h => absurd (by decide) h)
  exact kk _ _ _ (le_t rfl) (le_t rfl)
set_option maxHeartbeats 40000000 in
set_option maxRecDepth 100000 in
theorem op_2 (l : Launch) (D : va_G) (c : Nat → ClassId) (H0 : Heap) (b : Nat) (xs : Nat → Int32) (Z : sZT) (x1 x2 x3 x4 x5 x6 : Int32) (hx1 : xs 1 = x1) (hx2 : xs 2 = x2) (hx3 : xs 3 = x3) (hx4 : xs 4 = x4) (hx5 : xs 5 = x5) (hx6 : xs 6 = x6) (kk : ∀ (hp : sHp) (ce sl : Nat), ce ≤ 600000 → sl ≤ 7302250 → sV (gG l D c H0 (b, 7, xs)) mL room_1 Z 1799 [(3, .int 0), (2, .ref 106), (1, .ref 0), (0, .retAddr 0)] [] hp ce sl) : sV (gG l D c H0 (b, 7, xs)) mL room_1 Z 326 [(3, .int 0), (2, .ref 106), (1, .ref 0), (0, .retAddr 0)] [] (192, tF) 192 297215 := by
  refine sv_aload_n (pc := 326) dL_law_326 rfl rfl ?_
  refine sv_aload_nS (pc := 327) dL_law_327 rfl rfl ?_
  refine sv_iload_n (pc := 328) dL_law_328 rfl rfl ?_
  refine sv_iconst (pc := 329) (v := 1) dL_law_329 (by decide) ?_
  refine sw_iadd (pc := 330) (v := 1) dL_law_330 (by decide) ?_
  refine sw_sld (pc := 331) (v := x1) dL_law_331 (k := 1) (by decide) (by decide) rfl hx1 ?_
  refine sv_aload_nS (pc := 332) dL_law_332 rfl rfl ?_
  refine sv_iload_n (pc := 333) dL_law_333 rfl rfl ?_
  refine sv_iconst (pc := 334) (v := 2) dL_law_334 (by decide) ?_
  refine sw_iadd (pc := 335) (v := 2) dL_law_335 (by decide) ?_
  refine sw_sld (pc := 336) (v := x2) dL_law_336 (k := 2) (by decide) (by decide) rfl hx2 ?_
  refine sv_callV (pc := 337) (M' := mX11_prefix) (d' := 20) (C' := 0) (S' := 0) (av := [.int x1, .int x2]) ?_ (gOk _ _ _ _ _) dL_law_337 (tX11_prefix _ _ _ _ _) ⟨wV_X11_prefix, wL_X11_prefix⟩ wM_DomainHouseLaw_23 (gCX11 _ _ _ _ _) rfl (lt_t rfl) rfl ⟨le_t rfl, le_t rfl⟩ ⟨le_t rfl, le_t rfl⟩ rfl (le_t rfl) (fun _ _ h => h)
  refine sC.of rfl (by decide) (le_t rfl) ?_
  refine sv_iload_n (pc := 0) dX11_prefix_0 rfl rfl ?_
  refine sv_if_lt (pc := 1) (tgt := 21) dX11_prefix_1 (by decide) (fun h_1 => ?_) (fun h_1 => ?_)
  · refine sv_iconst (pc := 21) (v := (-1)) dX11_prefix_21 (by decide) ?_
    refine sv_iret (pc := 22) dX11_prefix_22 rfl (le_t rfl) (le_t rfl) ?_
    refine sv_aload_n (pc := 340) dL_law_340 rfl rfl ?_
    refine sv_aload_nS (pc := 341) dL_law_341 rfl rfl ?_
    refine sv_iload_n (pc := 342) dL_law_342 rfl rfl ?_
    refine sv_iconst (pc := 343) (v := 1) dL_law_343 (by decide) ?_
    refine sw_iadd (pc := 344) (v := 1) dL_law_344 (by decide) ?_
    refine sw_sld (pc := 345) (v := x1) dL_law_345 (k := 1) (by decide) (by decide) rfl hx1 ?_
    refine sv_aload_nS (pc := 346) dL_law_346 rfl rfl ?_
    refine sv_iload_n (pc := 347) dL_law_347 rfl rfl ?_
    refine sv_iconst (pc := 348) (v := 2) dL_law_348 (by decide) ?_
    refine sw_iadd (pc := 349) (v := 2) dL_law_349 (by decide) ?_
    refine sw_sld (pc := 350) (v := x2) dL_law_350 (k := 2) (by decide) (by decide) rfl hx2 ?_
    refine sv_callV (pc := 351) (M' := mX12_prefix) (d' := 20) (C' := 0) (S' := 0) (av := [.int x1, .int x2]) ?_ (gOk _ _ _ _ _) dL_law_351 (tX12_prefix _ _ _ _ _) ⟨wV_X12_prefix, wL_X12_prefix⟩ wM_DomainHouseLaw_27 (gCX12 _ _ _ _ _) rfl (lt_t rfl) rfl ⟨le_t rfl, le_t rfl⟩ ⟨le_t rfl, le_t rfl⟩ rfl (le_t rfl) (fun _ _ h => h)
    refine sC.of rfl (by decide) (le_t rfl) ?_
    refine sv_iload_n (pc := 0) dX12_prefix_0 rfl rfl ?_
    refine sv_iconst (pc := 1) (v := 0) dX12_prefix_1 (by decide) ?_
    refine sv_bipush (pc := 2) (v := 32) dX12_prefix_2 (by decide) ?_
    refine sv_callS (pc := 4) (M' := mX12_in) (d' := 19) (C' := 0) (S' := 0) (av := [.int x2, .int 0, .int 32]) ?_ (gOk _ _ _ _ _) dX12_prefix_4 (tX12_in _ _ _ _ _) wS_X12_in wM_X12_18 ⟨le_t rfl, le_t rfl⟩ ⟨le_t rfl, le_t rfl⟩ rfl (le_t rfl) (fun _ _ h => h)
    refine sC.of rfl (by decide) (le_t rfl) ?_
    refine sv_iload_n (pc := 0) dX12_in_0 rfl rfl ?_
    refine sv_iload_n (pc := 1) dX12_in_1 rfl rfl ?_
    refine sv_icmp_lt (pc := 2) (tgt := 14) dX12_in_2 (by decide) (fun _ => ?_) (fun h => absurd h_1 h)
    refine sv_iconst (pc := 14) (v := 0) dX12_in_14 (by decide) ?_
    refine sv_zret (pc := 15) dX12_in_15 rfl (by decide) (le_t rfl) (le_t rfl) ?_
    refine sv_if_eq (pc := 7) (tgt := 21) dX12_prefix_7 (by decide) (fun _ => ?_) (fun h => absurd (by decide) h)
    refine sv_iconst (pc := 21) (v := (-1)) dX12_prefix_21 (by decide) ?_
    refine sv_iret (pc := 22) dX12_prefix_22 rfl (le_t rfl) (le_t rfl) ?_
    refine sv_icmp_eq (pc := 354) (tgt := 1799) dL_law_354 (by decide) (fun _ => ?_) (fun h => absurd (by decide) h)
    exact kk _ _ _ (le_t rfl) (le_t rfl)
  refine sv_iload_n (pc := 4) dX11_prefix_4 rfl rfl ?_
  refine sv_bipush (pc := 5) (v := 32) dX11_prefix_5 (by decide) ?_
  refine sv_icmp_gt (pc := 7) (tgt := 21) dX11_prefix_7 (by decide) (fun h_2 => ?_) (fun h_2 => ?_)
  · refine sv_iconst (pc := 21) (v := (-1)) dX11_prefix_21 (by decide) ?_
    refine sv_iret (pc := 22) dX11_prefix_22 rfl (le_t rfl) (le_t rfl) ?_
    refine sv_aload_n (pc := 340) dL_law_340 rfl rfl ?_
    refine sv_aload_nS (pc := 341) dL_law_341 rfl rfl ?_
    refine sv_iload_n (pc := 342) dL_law_342 rfl rfl ?_
    refine sv_iconst (pc := 343) (v := 1) dL_law_343 (by decide) ?_
    refine sw_iadd (pc := 344) (v := 1) dL_law_344 (by decide) ?_
    refine sw_sld (pc := 345) (v := x1) dL_law_345 (k := 1) (by decide) (by decide) rfl hx1 ?_
    refine sv_aload_nS (pc := 346) dL_law_346 rfl rfl ?_
    refine sv_iload_n (pc := 347) dL_law_347 rfl rfl ?_
    refine sv_iconst (pc := 348) (v := 2) dL_law_348 (by decide) ?_
    refine sw_iadd (pc := 349) (v := 2) dL_law_349 (by decide) ?_
    refine sw_sld (pc := 350) (v := x2) dL_law_350 (k := 2) (by decide) (by decide) rfl hx2 ?_
    refine sv_callV (pc := 351) (M' := mX12_prefix) (d' := 20) (C' := 0) (S' := 0) (av := [.int x1, .int x2]) ?_ (gOk _ _ _ _ _) dL_law_351 (tX12_prefix _ _ _ _ _) ⟨wV_X12_prefix, wL_X12_prefix⟩ wM_DomainHouseLaw_27 (gCX12 _ _ _ _ _) rfl (lt_t rfl) rfl ⟨le_t rfl, le_t rfl⟩ ⟨le_t rfl, le_t rfl⟩ rfl (le_t rfl) (fun _ _ h => h)
    refine sC.of rfl (by decide) (le_t rfl) ?_
    refine sv_iload_n (pc := 0) dX12_prefix_0 rfl rfl ?_
    refine sv_iconst (pc := 1) (v := 0) dX12_prefix_1 (by decide) ?_
    refine sv_bipush (pc := 2) (v := 32) dX12_prefix_2 (by decide) ?_
    refine sv_callS (pc := 4) (M' := mX12_in) (d' := 19) (C' := 0) (S' := 0) (av := [.int x2, .int 0, .int 32]) ?_ (gOk _ _ _ _ _) dX12_prefix_4 (tX12_in _ _ _ _ _) wS_X12_in wM_X12_18 ⟨le_t rfl, le_t rfl⟩ ⟨le_t rfl, le_t rfl⟩ rfl (le_t rfl) (fun _ _ h => h)
    refine sC.of rfl (by decide) (le_t rfl) ?_
    refine sv_iload_n (pc := 0) dX12_in_0 rfl rfl ?_
    refine sv_iload_n (pc := 1) dX12_in_1 rfl rfl ?_
    refine sv_icmp_lt (pc := 2) (tgt := 14) dX12_in_2 (by decide) (fun h => absurd h h_1) (fun _ => ?_)
    refine sv_iload_n (pc := 5) dX12_in_5 rfl rfl ?_
    refine sv_iload_n (pc := 6) dX12_in_6 rfl rfl ?_
    refine sv_icmp_gt (pc := 7) (tgt := 14) dX12_in_7 (by decide) (fun _ => ?_) (fun h => absurd h_2 h)
    refine sv_iconst (pc := 14) (v := 0) dX12_in_14 (by decide) ?_
    refine sv_zret (pc := 15) dX12_in_15 rfl (by decide) (le_t rfl) (le_t rfl) ?_
    refine sv_if_eq (pc := 7) (tgt := 21) dX12_prefix_7 (by decide) (fun _ => ?_) (fun h => absurd (by decide) h)
    refine sv_iconst (pc := 21) (v := (-1)) dX12_prefix_21 (by decide) ?_
    refine sv_iret (pc := 22) dX12_prefix_22 rfl (le_t rfl) (le_t rfl) ?_
    refine sv_icmp_eq (pc := 354) (tgt := 1799) dL_law_354 (by decide) (fun _ => ?_) (fun h => absurd (by decide) h)
    exact kk _ _ _ (le_t rfl) (le_t rfl)
  refine sv_iload_n (pc := 10) dX11_prefix_10 rfl rfl ?_
  refine sv_iload_n (pc := 11) dX11_prefix_11 rfl rfl ?_
  refine sv_callS (pc := 12) (M' := mX10_maskOf) (d' := 19) (C' := 0) (S' := 0) (av := [.int x2]) ?_ (gOk _ _ _ _ _) dX11_prefix_12 (tX10_maskOf _ _ _ _ _) wS_X10_maskOf wM_X11_84 ⟨le_t rfl, le_t rfl⟩ ⟨le_t rfl, le_t rfl⟩ rfl (le_t rfl) (fun _ _ h => h)
  refine sC.of rfl (by decide) (le_t rfl) ?_
  refine sv_iload_n (pc := 0) dX10_maskOf_0 rfl rfl ?_
  refine sv_if_ne (pc := 1) (tgt := 8) dX10_maskOf_1 (by decide) (fun h_3 => ?_) (fun h_3 => ?_)
  · refine sv_iconst (pc := 8) (v := (-1)) dX10_maskOf_8 (by decide) ?_
    refine sv_bipush (pc := 9) (v := 32) dX10_maskOf_9 (by decide) ?_
    refine sv_iload_n (pc := 11) dX10_maskOf_11 rfl rfl ?_
    refine sv_isub (pc := 12) dX10_maskOf_12 ?_
    refine sv_ishl (pc := 13) dX10_maskOf_13 ?_
    refine sv_iret (pc := 14) dX10_maskOf_14 rfl (le_t rfl) (le_t rfl) ?_
    refine sv_iconst (pc := 15) (v := (-1)) dX11_prefix_15 (by decide) ?_
    refine sv_ixor (pc := 16) dX11_prefix_16 ?_
    refine sv_iand (pc := 17) dX11_prefix_17 ?_
    refine sv_if_eq (pc := 18) (tgt := 23) dX11_prefix_18 (by decide) (fun h_4 => ?_) (fun h_4 => ?_)
    · refine sv_aload_n (pc := 23) dX11_prefix_23 rfl rfl ?_
      refine sw_getfield (pc := 24) dX11_prefix_24 (gCX11 _ _ _ _ _) 3 (by decide) wF_X11_26 rfl rfl rfl ?_
      refine sv_iload_n (pc := 27) dX11_prefix_27 rfl rfl ?_
      refine sv_iload_n (pc := 28) dX11_prefix_28 rfl rfl ?_
      refine sv_callV (pc := 29) (M' := mX10_findPrefix) (d' := 19) (C' := 0) (S' := 0) (av := [.int x1, .int x2]) ?_ (gOk _ _ _ _ _) dX11_prefix_29 (tX10_findPrefix _ _ _ _ _) ⟨wV_X10_findPrefix, wL_X10_findPrefix⟩ wM_X11_88 (gCX10 _ _ _ _ _) rfl (lt_t rfl) rfl ⟨le_t rfl, le_t rfl⟩ ⟨le_t rfl, le_t rfl⟩ rfl (le_t rfl) (fun _ _ h => h)
      refine sC.of rfl (by decide) (le_t rfl) ?_
      refine sv_iconst (pc := 0) (v := 0) dX10_findPrefix_0 (by decide) ?_
      refine sv_istore_n (pc := 1) dX10_findPrefix_1 rfl (by decide) ?_
      refine sv_iload_n (pc := 2) dX10_findPrefix_2 rfl rfl ?_
      refine sv_aload_n (pc := 3) dX10_findPrefix_3 rfl rfl ?_
      refine sw_getfield (pc := 4) dX10_findPrefix_4 (gCX10 _ _ _ _ _) 14 (by decide) wF_X10_60 rfl rfl rfl ?_
      refine sv_icmp_ge (pc := 7) (tgt := 38) dX10_findPrefix_7 (by decide) (fun _ => ?_) (fun h => absurd (by decide) h)
      refine sv_iconst (pc := 38) (v := (-1)) dX10_findPrefix_38 (by decide) ?_
      refine sv_iret (pc := 39) dX10_findPrefix_39 rfl (le_t rfl) (le_t rfl) ?_
      refine sv_if_lt (pc := 32) (tgt := 38) dX11_prefix_32 (by decide) (fun _ => ?_) (fun h => absurd (by decide) h)
      refine sv_aload_n (pc := 38) dX11_prefix_38 rfl rfl ?_
      refine sw_getfield (pc := 39) dX11_prefix_39 (gCX11 _ _ _ _ _) 3 (by decide) wF_X11_26 rfl rfl rfl ?_
      refine sw_getfield (pc := 42) dX11_prefix_42 (gCX10 _ _ _ _ _) 14 (by decide) wF_X11_92 rfl rfl rfl ?_
      refine sv_bipush (pc := 45) (v := 10) dX11_prefix_45 (by decide) ?_
      refine sv_icmp_lt (pc := 47) (tgt := 53) dX11_prefix_47 (by decide) (fun _ => ?_) (fun h => absurd (by decide) h)
      refine sv_aload_n (pc := 53) dX11_prefix_53 rfl rfl ?_
      refine sw_getfield (pc := 54) dX11_prefix_54 (gCX11 _ _ _ _ _) 3 (by decide) wF_X11_26 rfl rfl rfl ?_
      refine sv_iload_n (pc := 57) dX11_prefix_57 rfl rfl ?_
      refine sv_iload_n (pc := 58) dX11_prefix_58 rfl rfl ?_
      refine sv_callV (pc := 59) (M' := mX10_addPrefix) (d' := 19) (C' := 0) (S' := 0) (av := [.int x1, .int x2]) ?_ (gOk _ _ _ _ _) dX11_prefix_59 (tX10_addPrefix _ _ _ _ _) ⟨wV_X10_addPrefix, wL_X10_addPrefix⟩ wM_X11_95 (gCX10 _ _ _ _ _) rfl (lt_t rfl) rfl ⟨le_t rfl, le_t rfl⟩ ⟨le_t rfl, le_t rfl⟩ rfl (le_t rfl) (fun _ _ h => h)
      refine sC.of rfl (by decide) (le_t rfl) ?_
      refine sv_aload_n (pc := 0) dX10_addPrefix_0 rfl rfl ?_
      refine sw_getfield (pc := 1) dX10_addPrefix_1 (gCX10 _ _ _ _ _) 0 (by decide) wF_X10_9 rfl rfl rfl ?_
      refine sv_aload_n (pc := 4) dX10_addPrefix_4 rfl rfl ?_
      refine sw_getfield (pc := 5) dX10_addPrefix_5 (gCX10 _ _ _ _ _) 14 (by decide) wF_X10_60 rfl rfl rfl ?_
      refine sv_iload_n (pc := 8) dX10_addPrefix_8 rfl rfl ?_
      refine sw_iastore (pc := 9) (k := 0) dX10_addPrefix_9 rfl rfl rfl (by decide) (by decide) rfl rfl ?_
      refine sv_aload_n (pc := 10) dX10_addPrefix_10 rfl rfl ?_
      refine sw_getfield (pc := 11) dX10_addPrefix_11 (gCX10 _ _ _ _ _) 1 (by decide) wF_X10_15 rfl rfl rfl ?_
      refine sv_aload_n (pc := 14) dX10_addPrefix_14 rfl rfl ?_
      refine sw_getfield (pc := 15) dX10_addPrefix_15 (gCX10 _ _ _ _ _) 14 (by decide) wF_X10_60 rfl rfl rfl ?_
      refine sv_iload_n (pc := 18) dX10_addPrefix_18 rfl rfl ?_
      refine sw_iastore (pc := 19) (k := 0) dX10_addPrefix_19 rfl rfl rfl (by decide) (by decide) rfl rfl ?_
      refine sv_aload_n (pc := 20) dX10_addPrefix_20 rfl rfl ?_
      refine sw_getfield (pc := 21) dX10_addPrefix_21 (gCX10 _ _ _ _ _) 2 (by decide) wF_X10_18 rfl rfl rfl ?_
      refine sv_aload_n (pc := 24) dX10_addPrefix_24 rfl rfl ?_
      refine sw_getfield (pc := 25) dX10_addPrefix_25 (gCX10 _ _ _ _ _) 14 (by decide) wF_X10_60 rfl rfl rfl ?_
      refine sv_iload_n (pc := 28) dX10_addPrefix_28 rfl rfl ?_
      refine sv_callS (pc := 29) (M' := mX10_maskOf) (d' := 18) (C' := 0) (S' := 0) (av := [.int x2]) ?_ (gOk _ _ _ _ _) dX10_addPrefix_29 (tX10_maskOf _ _ _ _ _) wS_X10_maskOf wM_X10_64 ⟨le_t rfl, le_t rfl⟩ ⟨le_t rfl, le_t rfl⟩ rfl (le_t rfl) (fun _ _ h => h)
      refine sC.of rfl (by decide) (le_t rfl) ?_
      refine sv_iload_n (pc := 0) dX10_maskOf_0 rfl rfl ?_
      refine sv_if_ne (pc := 1) (tgt := 8) dX10_maskOf_1 (by decide) (fun _ => ?_) (fun h => absurd h h_3)
      refine sv_iconst (pc := 8) (v := (-1)) dX10_maskOf_8 (by decide) ?_
      refine sv_bipush (pc := 9) (v := 32) dX10_maskOf_9 (by decide) ?_
      refine sv_iload_n (pc := 11) dX10_maskOf_11 rfl rfl ?_
      refine sv_isub (pc := 12) dX10_maskOf_12 ?_
      refine sv_ishl (pc := 13) dX10_maskOf_13 ?_
      refine sv_iret (pc := 14) dX10_maskOf_14 rfl (le_t rfl) (le_t rfl) ?_
      refine sw_iastore (pc := 32) (k := 0) dX10_addPrefix_32 rfl rfl rfl (by decide) (by decide) rfl rfl ?_
      refine sv_aload_n (pc := 33) dX10_addPrefix_33 rfl rfl ?_
      refine sv_dup (pc := 34) dX10_addPrefix_34 rfl ?_
      refine sw_getfield (pc := 35) dX10_addPrefix_35 (gCX10 _ _ _ _ _) 14 (by decide) wF_X10_60 rfl rfl rfl ?_
      refine sv_iconst (pc := 38) (v := 1) dX10_addPrefix_38 (by decide) ?_
      refine sw_iadd (pc := 39) (v := 1) dX10_addPrefix_39 (by decide) ?_
      refine sw_putfield (pc := 40) dX10_addPrefix_40 (gCX10 _ _ _ _ _) 14 (by decide) wF_X10_60 rfl rfl rfl (fun _ => rfl) (fun _ => rfl) rfl ?_
      refine sv_aload_n (pc := 43) dX10_addPrefix_43 rfl rfl ?_
      refine sw_getfield (pc := 44) dX10_addPrefix_44 (gCX10 _ _ _ _ _) 14 (by decide) wF_X10_60 rfl rfl rfl ?_
      refine sv_iconst (pc := 47) (v := 1) dX10_addPrefix_47 (by decide) ?_
      refine sw_isub (pc := 48) (v := 0) dX10_addPrefix_48 (by decide) ?_
      refine sv_iret (pc := 49) dX10_addPrefix_49 rfl (le_t rfl) (le_t rfl) ?_
      refine sv_iret (pc := 62) dX11_prefix_62 rfl (le_t rfl) (le_t rfl) ?_
      refine sv_aload_n (pc := 340) dL_law_340 rfl rfl ?_
      refine sv_aload_nS (pc := 341) dL_law_341 rfl rfl ?_
      refine sv_iload_n (pc := 342) dL_law_342 rfl rfl ?_
      refine sv_iconst (pc := 343) (v := 1) dL_law_343 (by decide) ?_
      refine sw_iadd (pc := 344) (v := 1) dL_law_344 (by decide) ?_
      refine sw_sld (pc := 345) (v := x1) dL_law_345 (k := 1) (by decide) (by decide) rfl hx1 ?_
      refine sv_aload_nS (pc := 346) dL_law_346 rfl rfl ?_
      refine sv_iload_n (pc := 347) dL_law_347 rfl rfl ?_
      refine sv_iconst (pc := 348) (v := 2) dL_law_348 (by decide) ?_
      refine sw_iadd (pc := 349) (v := 2) dL_law_349 (by decide) ?_
      refine sw_sld (pc := 350) (v := x2) dL_law_350 (k := 2) (by decide) (by decide) rfl hx2 ?_
      refine sv_callV (pc := 351) (M' := mX12_prefix) (d' := 20) (C' := 0) (S' := 0) (av := [.int x1, .int x2]) ?_ (gOk _ _ _ _ _) dL_law_351 (tX12_prefix _ _ _ _ _) ⟨wV_X12_prefix, wL_X12_prefix⟩ wM_DomainHouseLaw_27 (gCX12 _ _ _ _ _) rfl (lt_t rfl) rfl ⟨le_t rfl, le_t rfl⟩ ⟨le_t rfl, le_t rfl⟩ rfl (le_t rfl) (fun _ _ h => h)
      refine sC.of rfl (by decide) (le_t rfl) ?_
      refine sv_iload_n (pc := 0) dX12_prefix_0 rfl rfl ?_
      refine sv_iconst (pc := 1) (v := 0) dX12_prefix_1 (by decide) ?_
      refine sv_bipush (pc := 2) (v := 32) dX12_prefix_2 (by decide) ?_
      refine sv_callS (pc := 4) (M' := mX12_in) (d' := 19) (C' := 0) (S' := 0) (av := [.int x2, .int 0, .int 32]) ?_ (gOk _ _ _ _ _) dX12_prefix_4 (tX12_in _ _ _ _ _) wS_X12_in wM_X12_18 ⟨le_t rfl, le_t rfl⟩ ⟨le_t rfl, le_t rfl⟩ rfl (le_t rfl) (fun _ _ h => h)
      refine sC.of rfl (by decide) (le_t rfl) ?_
      refine sv_iload_n (pc := 0) dX12_in_0 rfl rfl ?_
      refine sv_iload_n (pc := 1) dX12_in_1 rfl rfl ?_
      refine sv_icmp_lt (pc := 2) (tgt := 14) dX12_in_2 (by decide) (fun h => absurd h h_1) (fun _ => ?_)
      refine sv_iload_n (pc := 5) dX12_in_5 rfl rfl ?_
      refine sv_iload_n (pc := 6) dX12_in_6 rfl rfl ?_
      refine sv_icmp_gt (pc := 7) (tgt := 14) dX12_in_7 (by decide) (fun h => absurd h h_2) (fun _ => ?_)
      refine sv_iconst (pc := 10) (v := 1) dX12_in_10 (by decide) ?_
      refine sv_goto (pc := 11) (tgt := 15) dX12_in_11 (by decide) ?_
      refine sv_zret (pc := 15) dX12_in_15 rfl (by decide) (le_t rfl) (le_t rfl) ?_
      refine sv_if_eq (pc := 7) (tgt := 21) dX12_prefix_7 (by decide) (fun h => absurd h (by decide)) (fun _ => ?_)
      refine sv_iload_n (pc := 10) dX12_prefix_10 rfl rfl ?_
      refine sv_iload_n (pc := 11) dX12_prefix_11 rfl rfl ?_
      refine sv_callS (pc := 12) (M' := mX12_mask) (d' := 19) (C' := 0) (S' := 0) (av := [.int x2]) ?_ (gOk _ _ _ _ _) dX12_prefix_12 (tX12_mask _ _ _ _ _) wS_X12_mask wM_X12_11 ⟨le_t rfl, le_t rfl⟩ ⟨le_t rfl, le_t rfl⟩ rfl (le_t rfl) (fun _ _ h => h)
      refine sC.of rfl (by decide) (le_t rfl) ?_
      refine sv_iload_n (pc := 0) dX12_mask_0 rfl rfl ?_
      refine sv_if_ne (pc := 1) (tgt := 8) dX12_mask_1 (by decide) (fun _ => ?_) (fun h => absurd h h_3)
      refine sv_iconst (pc := 8) (v := (-1)) dX12_mask_8 (by decide) ?_
      refine sv_bipush (pc := 9) (v := 32) dX12_mask_9 (by decide) ?_
      refine sv_iload_n (pc := 11) dX12_mask_11 rfl rfl ?_
      refine sv_isub (pc := 12) dX12_mask_12 ?_
      refine sv_ishl (pc := 13) dX12_mask_13 ?_
      refine sv_iret (pc := 14) dX12_mask_14 rfl (le_t rfl) (le_t rfl) ?_
      refine sv_iconst (pc := 15) (v := (-1)) dX12_prefix_15 (by decide) ?_
      refine sv_ixor (pc := 16) dX12_prefix_16 ?_
      refine sv_iand (pc := 17) dX12_prefix_17 ?_
      refine sv_if_eq (pc := 18) (tgt := 23) dX12_prefix_18 (by decide) (fun _ => ?_) (fun h => absurd h_4 h)
      refine sv_aload_n (pc := 23) dX12_prefix_23 rfl rfl ?_
      refine sv_iload_n (pc := 24) dX12_prefix_24 rfl rfl ?_
      refine sv_iload_n (pc := 25) dX12_prefix_25 rfl rfl ?_
      refine sv_callV (pc := 26) (M' := mX12_prefixOf) (d' := 19) (C' := 0) (S' := 0) (av := [.int x1, .int x2]) ?_ (gOk _ _ _ _ _) dX12_prefix_26 (tX12_prefixOf _ _ _ _ _) ⟨wV_X12_prefixOf, wL_X12_prefixOf⟩ wM_X12_30 (gCX12 _ _ _ _ _) rfl (lt_t rfl) rfl ⟨le_t rfl, le_t rfl⟩ ⟨le_t rfl, le_t rfl⟩ rfl (le_t rfl) (fun _ _ h => h)
      refine sC.of rfl (by decide) (le_t rfl) ?_
      refine sv_iconst (pc := 0) (v := 0) dX12_prefixOf_0 (by decide) ?_
      refine sv_istore_n (pc := 1) dX12_prefixOf_1 rfl (by decide) ?_
      refine sv_iload_n (pc := 2) dX12_prefixOf_2 rfl rfl ?_
      refine sv_aload_n (pc := 3) dX12_prefixOf_3 rfl rfl ?_
      refine sw_getfield (pc := 4) dX12_prefixOf_4 (gCX12 _ _ _ _ _) 2 (by decide) wF_X12_15 rfl rfl rfl ?_
      refine sv_icmp_ge (pc := 7) (tgt := 38) dX12_prefixOf_7 (by decide) (fun _ => ?_) (fun h => absurd (by decide) h)
      refine sv_ldc (pc := 38) dX12_prefixOf_38 wG_X12_29 ?_
      refine sv_iret (pc := 40) dX12_prefixOf_40 rfl (le_t rfl) (le_t rfl) ?_
      refine sv_ldc (pc := 29) dX12_prefix_29 wG_X12_29 ?_
      refine sv_icmp_eq (pc := 31) (tgt := 37) dX12_prefix_31 (by decide) (fun _ => ?_) (fun h => absurd (by decide) h)
      refine sv_aload_n (pc := 37) dX12_prefix_37 rfl rfl ?_
      refine sw_getfield (pc := 38) dX12_prefix_38 (gCX12 _ _ _ _ _) 2 (by decide) wF_X12_15 rfl rfl rfl ?_
      refine sv_bipush (pc := 41) (v := 10) dX12_prefix_41 (by decide) ?_
      refine sv_icmp_ne (pc := 43) (tgt := 49) dX12_prefix_43 (by decide) (fun _ => ?_) (fun h => absurd h (by decide))
      refine sv_aload_n (pc := 49) dX12_prefix_49 rfl rfl ?_
      refine sw_getfield (pc := 50) dX12_prefix_50 (gCX12 _ _ _ _ _) 3 (by decide) wF_X12_22 rfl rfl rfl ?_
      refine sv_aload_n (pc := 53) dX12_prefix_53 rfl rfl ?_
      refine sw_getfield (pc := 54) dX12_prefix_54 (gCX12 _ _ _ _ _) 2 (by decide) wF_X12_15 rfl rfl rfl ?_
      refine sv_iload_n (pc := 57) dX12_prefix_57 rfl rfl ?_
      refine sw_iastore (pc := 58) (k := 0) dX12_prefix_58 rfl rfl rfl (by decide) (by decide) rfl rfl ?_
      refine sv_aload_n (pc := 59) dX12_prefix_59 rfl rfl ?_
      refine sw_getfield (pc := 60) dX12_prefix_60 (gCX12 _ _ _ _ _) 4 (by decide) wF_X12_26 rfl rfl rfl ?_
      refine sv_aload_n (pc := 63) dX12_prefix_63 rfl rfl ?_
      refine sw_getfield (pc := 64) dX12_prefix_64 (gCX12 _ _ _ _ _) 2 (by decide) wF_X12_15 rfl rfl rfl ?_
      refine sv_iload_n (pc := 67) dX12_prefix_67 rfl rfl ?_
      refine sw_iastore (pc := 68) (k := 0) dX12_prefix_68 rfl rfl rfl (by decide) (by decide) rfl rfl ?_
      refine sv_aload_n (pc := 69) dX12_prefix_69 rfl rfl ?_
      refine sv_dup (pc := 70) dX12_prefix_70 rfl ?_
      refine sw_getfield (pc := 71) dX12_prefix_71 (gCX12 _ _ _ _ _) 2 (by decide) wF_X12_15 rfl rfl rfl ?_
      refine sv_iconst (pc := 74) (v := 1) dX12_prefix_74 (by decide) ?_
      refine sw_iadd (pc := 75) (v := 1) dX12_prefix_75 (by decide) ?_
      refine sw_putfield (pc := 76) dX12_prefix_76 (gCX12 _ _ _ _ _) 2 (by decide) wF_X12_15 rfl rfl rfl (fun _ => rfl) (fun _ => rfl) rfl ?_
      refine sv_aload_n (pc := 79) dX12_prefix_79 rfl rfl ?_
      refine sw_getfield (pc := 80) dX12_prefix_80 (gCX12 _ _ _ _ _) 2 (by decide) wF_X12_15 rfl rfl rfl ?_
      refine sv_iconst (pc := 83) (v := 1) dX12_prefix_83 (by decide) ?_
      refine sw_isub (pc := 84) (v := 0) dX12_prefix_84 (by decide) ?_
      refine sv_iret (pc := 85) dX12_prefix_85 rfl (le_t rfl) (le_t rfl) ?_
      refine sv_icmp_eq (pc := 354) (tgt := 1799) dL_law_354 (by decide) (fun _ => ?_) (fun h => absurd (by decide) h)
      exact kk _ _ _ (le_t rfl) (le_t rfl)
    refine sv_iconst (pc := 21) (v := (-1)) dX11_prefix_21 (by decide) ?_
    refine sv_iret (pc := 22) dX11_prefix_22 rfl (le_t rfl) (le_t rfl) ?_
    refine sv_aload_n (pc := 340) dL_law_340 rfl rfl ?_
    refine sv_aload_nS (pc := 341) dL_law_341 rfl rfl ?_
    refine sv_iload_n (pc := 342) dL_law_342 rfl rfl ?_
    refine sv_iconst (pc := 343) (v := 1) dL_law_343 (by decide) ?_
    refine sw_iadd (pc := 344) (v := 1) dL_law_344 (by decide) ?_
    refine sw_sld (pc := 345) (v := x1) dL_law_345 (k := 1) (by decide) (by decide) rfl hx1 ?_
    refine sv_aload_nS (pc := 346) dL_law_346 rfl rfl ?_
    refine sv_iload_n (pc := 347) dL_law_347 rfl rfl ?_
    refine sv_iconst (pc := 348) (v := 2) dL_law_348 (by decide) ?_
    refine sw_iadd (pc := 349) (v := 2) dL_law_349 (by decide) ?_
    refine sw_sld (pc := 350) (v := x2) dL_law_350 (k := 2) (by decide) (by decide) rfl hx2 ?_
    refine sv_callV (pc := 351) (M' := mX12_prefix) (d' := 20) (C' := 0) (S' := 0) (av := [.int x1, .int x2]) ?_ (gOk _ _ _ _ _) dL_law_351 (tX12_prefix _ _ _ _ _) ⟨wV_X12_prefix, wL_X12_prefix⟩ wM_DomainHouseLaw_27 (gCX12 _ _ _ _ _) rfl (lt_t rfl) rfl ⟨le_t rfl, le_t rfl⟩ ⟨le_t rfl, le_t rfl⟩ rfl (le_t rfl) (fun _ _ h => h)
    refine sC.of rfl (by decide) (le_t rfl) ?_
    refine sv_iload_n (pc := 0) dX12_prefix_0 rfl rfl ?_
    refine sv_iconst (pc := 1) (v := 0) dX12_prefix_1 (by decide) ?_
    refine sv_bipush (pc := 2) (v := 32) dX12_prefix_2 (by decide) ?_
    refine sv_callS (pc := 4) (M' := mX12_in) (d' := 19) (C' := 0) (S' := 0) (av := [.int x2, .int 0, .int 32]) ?_ (gOk _ _ _ _ _) dX12_prefix_4 (tX12_in _ _ _ _ _) wS_X12_in wM_X12_18 ⟨le_t rfl, le_t rfl⟩ ⟨le_t rfl, le_t rfl⟩ rfl (le_t rfl) (fun _ _ h => h)
    refine sC.of rfl (by decide) (le_t rfl) ?_
    refine sv_iload_n (pc := 0) dX12_in_0 rfl rfl ?_
    refine sv_iload_n (pc := 1) dX12_in_1 rfl rfl ?_
    refine sv_icmp_lt (pc := 2) (tgt := 14) dX12_in_2 (by decide) (fun h => absurd h h_1) (fun _ => ?_)
    refine sv_iload_n (pc := 5) dX12_in_5 rfl rfl ?_
    refine sv_iload_n (pc := 6) dX12_in_6 rfl rfl ?_
    refine sv_icmp_gt (pc := 7) (tgt := 14) dX12_in_7 (by decide) (fun h => absurd h h_2) (fun _ => ?_)
    refine sv_iconst (pc := 10) (v := 1) dX12_in_10 (by decide) ?_
    refine sv_goto (pc := 11) (tgt := 15) dX12_in_11 (by decide) ?_
    refine sv_zret (pc := 15) dX12_in_15 rfl (by decide) (le_t rfl) (le_t rfl) ?_
    refine sv_if_eq (pc := 7) (tgt := 21) dX12_prefix_7 (by decide) (fun h => absurd h (by decide)) (fun _ => ?_)
    refine sv_iload_n (pc := 10) dX12_prefix_10 rfl rfl ?_
    refine sv_iload_n (pc := 11) dX12_prefix_11 rfl rfl ?_
    refine sv_callS (pc := 12) (M' := mX12_mask) (d' := 19) (C' := 0) (S' := 0) (av := [.int x2]) ?_ (gOk _ _ _ _ _) dX12_prefix_12 (tX12_mask _ _ _ _ _) wS_X12_mask wM_X12_11 ⟨le_t rfl, le_t rfl⟩ ⟨le_t rfl, le_t rfl⟩ rfl (le_t rfl) (fun _ _ h => h)
    refine sC.of rfl (by decide) (le_t rfl) ?_
    refine sv_iload_n (pc := 0) dX12_mask_0 rfl rfl ?_
    refine sv_if_ne (pc := 1) (tgt := 8) dX12_mask_1 (by decide) (fun _ => ?_) (fun h => absurd h h_3)
    refine sv_iconst (pc := 8) (v := (-1)) dX12_mask_8 (by decide) ?_
    refine sv_bipush (pc := 9) (v := 32) dX12_mask_9 (by decide) ?_
    refine sv_iload_n (pc := 11) dX12_mask_11 rfl rfl ?_
    refine sv_isub (pc := 12) dX12_mask_12 ?_
    refine sv_ishl (pc := 13) dX12_mask_13 ?_
    refine sv_iret (pc := 14) dX12_mask_14 rfl (le_t rfl) (le_t rfl) ?_
    refine sv_iconst (pc := 15) (v := (-1)) dX12_prefix_15 (by decide) ?_
    refine sv_ixor (pc := 16) dX12_prefix_16 ?_
    refine sv_iand (pc := 17) dX12_prefix_17 ?_
    refine sv_if_eq (pc := 18) (tgt := 23) dX12_prefix_18 (by decide) (fun h => absurd h h_4) (fun _ => ?_)
    refine sv_iconst (pc := 21) (v := (-1)) dX12_prefix_21 (by decide) ?_
    refine sv_iret (pc := 22) dX12_prefix_22 rfl (le_t rfl) (le_t rfl) ?_
    refine sv_icmp_eq (pc := 354) (tgt := 1799) dL_law_354 (by decide) (fun _ => ?_) (fun h => absurd (by decide) h)
    exact kk _ _ _ (le_t rfl) (le_t rfl)
  refine sv_iconst (pc := 4) (v := 0) dX10_maskOf_4 (by decide) ?_
  refine sv_goto (pc := 5) (tgt := 14) dX10_maskOf_5 (by decide) ?_
  refine sv_iret (pc := 14) dX10_maskOf_14 rfl (le_t rfl) (le_t rfl) ?_
  refine sv_iconst (pc := 15) (v := (-1)) dX11_prefix_15 (by decide) ?_
  refine sw_ixor (pc := 16) (v := (-1)) dX11_prefix_16 (by decide) ?_
  refine sv_iand (pc := 17) dX11_prefix_17 ?_
  refine sv_if_eq (pc := 18) (tgt := 23) dX11_prefix_18 (by decide) (fun h_4 => ?_) (fun h_4 => ?_)
  · refine sv_aload_n (pc := 23) dX11_prefix_23 rfl rfl ?_
    refine sw_getfield (pc := 24) dX11_prefix_24 (gCX11 _ _ _ _ _) 3 (by decide) wF_X11_26 rfl rfl rfl ?_
    refine sv_iload_n (pc := 27) dX11_prefix_27 rfl rfl ?_
    refine sv_iload_n (pc := 28) dX11_prefix_28 rfl rfl ?_
    refine sv_callV (pc := 29) (M' := mX10_findPrefix) (d' := 19) (C' := 0) (S' := 0) (av := [.int x1, .int x2]) ?_ (gOk _ _ _ _ _) dX11_prefix_29 (tX10_findPrefix _ _ _ _ _) ⟨wV_X10_findPrefix, wL_X10_findPrefix⟩ wM_X11_88 (gCX10 _ _ _ _ _) rfl (lt_t rfl) rfl ⟨le_t rfl, le_t rfl⟩ ⟨le_t rfl, le_t rfl⟩ rfl (le_t rfl) (fun _ _ h => h)
    refine sC.of rfl (by decide) (le_t rfl) ?_
    refine sv_iconst (pc := 0) (v := 0) dX10_findPrefix_0 (by decide) ?_
    refine sv_istore_n (pc := 1) dX10_findPrefix_1 rfl (by decide) ?_
    refine sv_iload_n (pc := 2) dX10_findPrefix_2 rfl rfl ?_
    refine sv_aload_n (pc := 3) dX10_findPrefix_3 rfl rfl ?_
    refine sw_getfield (pc := 4) dX10_findPrefix_4 (gCX10 _ _ _ _ _) 14 (by decide) wF_X10_60 rfl rfl rfl ?_
    refine sv_icmp_ge (pc := 7) (tgt := 38) dX10_findPrefix_7 (by decide) (fun _ => ?_) (fun h => absurd (by decide) h)
    refine sv_iconst (pc := 38) (v := (-1)) dX10_findPrefix_38 (by decide) ?_
    refine sv_iret (pc := 39) dX10_findPrefix_39 rfl (le_t rfl) (le_t rfl) ?_
    refine sv_if_lt (pc := 32) (tgt := 38) dX11_prefix_32 (by decide) (fun _ => ?_) (fun h => absurd (by decide) h)
    refine sv_aload_n (pc := 38) dX11_prefix_38 rfl rfl ?_
    refine sw_getfield (pc := 39) dX11_prefix_39 (gCX11 _ _ _ _ _) 3 (by decide) wF_X11_26 rfl rfl rfl ?_
    refine sw_getfield (pc := 42) dX11_prefix_42 (gCX10 _ _ _ _ _) 14 (by decide) wF_X11_92 rfl rfl rfl ?_
    refine sv_bipush (pc := 45) (v := 10) dX11_prefix_45 (by decide) ?_
    refine sv_icmp_lt (pc := 47) (tgt := 53) dX11_prefix_47 (by decide) (fun _ => ?_) (fun h => absurd (by decide) h)
    refine sv_aload_n (pc := 53) dX11_prefix_53 rfl rfl ?_
    refine sw_getfield (pc := 54) dX11_prefix_54 (gCX11 _ _ _ _ _) 3 (by decide) wF_X11_26 rfl rfl rfl ?_
    refine sv_iload_n (pc := 57) dX11_prefix_57 rfl rfl ?_
    refine sv_iload_n (pc := 58) dX11_prefix_58 rfl rfl ?_
    refine sv_callV (pc := 59) (M' := mX10_addPrefix) (d' := 19) (C' := 0) (S' := 0) (av := [.int x1, .int x2]) ?_ (gOk _ _ _ _ _) dX11_prefix_59 (tX10_addPrefix _ _ _ _ _) ⟨wV_X10_addPrefix, wL_X10_addPrefix⟩ wM_X11_95 (gCX10 _ _ _ _ _) rfl (lt_t rfl) rfl ⟨le_t rfl, le_t rfl⟩ ⟨le_t rfl, le_t rfl⟩ rfl (le_t rfl) (fun _ _ h => h)
    refine sC.of rfl (by decide) (le_t rfl) ?_
    refine sv_aload_n (pc := 0) dX10_addPrefix_0 rfl rfl ?_
    refine sw_getfield (pc := 1) dX10_addPrefix_1 (gCX10 _ _ _ _ _) 0 (by decide) wF_X10_9 rfl rfl rfl ?_
    refine sv_aload_n (pc := 4) dX10_addPrefix_4 rfl rfl ?_
    refine sw_getfield (pc := 5) dX10_addPrefix_5 (gCX10 _ _ _ _ _) 14 (by decide) wF_X10_60 rfl rfl rfl ?_
    refine sv_iload_n (pc := 8) dX10_addPrefix_8 rfl rfl ?_
    refine sw_iastore (pc := 9) (k := 0) dX10_addPrefix_9 rfl rfl rfl (by decide) (by decide) rfl rfl ?_
    refine sv_aload_n (pc := 10) dX10_addPrefix_10 rfl rfl ?_
    refine sw_getfield (pc := 11) dX10_addPrefix_11 (gCX10 _ _ _ _ _) 1 (by decide) wF_X10_15 rfl rfl rfl ?_
    refine sv_aload_n (pc := 14) dX10_addPrefix_14 rfl rfl ?_
    refine sw_getfield (pc := 15) dX10_addPrefix_15 (gCX10 _ _ _ _ _) 14 (by decide) wF_X10_60 rfl rfl rfl ?_
    refine sv_iload_n (pc := 18) dX10_addPrefix_18 rfl rfl ?_
    refine sw_iastore (pc := 19) (k := 0) dX10_addPrefix_19 rfl rfl rfl (by decide) (by decide) rfl rfl ?_
    refine sv_aload_n (pc := 20) dX10_addPrefix_20 rfl rfl ?_
    refine sw_getfield (pc := 21) dX10_addPrefix_21 (gCX10 _ _ _ _ _) 2 (by decide) wF_X10_18 rfl rfl rfl ?_
    refine sv_aload_n (pc := 24) dX10_addPrefix_24 rfl rfl ?_
    refine sw_getfield (pc := 25) dX10_addPrefix_25 (gCX10 _ _ _ _ _) 14 (by decide) wF_X10_60 rfl rfl rfl ?_
    refine sv_iload_n (pc := 28) dX10_addPrefix_28 rfl rfl ?_
    refine sv_callS (pc := 29) (M' := mX10_maskOf) (d' := 18) (C' := 0) (S' := 0) (av := [.int x2]) ?_ (gOk _ _ _ _ _) dX10_addPrefix_29 (tX10_maskOf _ _ _ _ _) wS_X10_maskOf wM_X10_64 ⟨le_t rfl, le_t rfl⟩ ⟨le_t rfl, le_t rfl⟩ rfl (le_t rfl) (fun _ _ h => h)
    refine sC.of rfl (by decide) (le_t rfl) ?_
    refine sv_iload_n (pc := 0) dX10_maskOf_0 rfl rfl ?_
    refine sv_if_ne (pc := 1) (tgt := 8) dX10_maskOf_1 (by decide) (fun h => absurd h_3 h) (fun _ => ?_)
    refine sv_iconst (pc := 4) (v := 0) dX10_maskOf_4 (by decide) ?_
    refine sv_goto (pc := 5) (tgt := 14) dX10_maskOf_5 (by decide) ?_
    refine sv_iret (pc := 14) dX10_maskOf_14 rfl (le_t rfl) (le_t rfl) ?_
    refine sw_iastore (pc := 32) (k := 0) (v := .int 0) dX10_addPrefix_32 rfl rfl rfl (by decide) (by decide) rfl rfl ?_
    refine sv_aload_n (pc := 33) dX10_addPrefix_33 rfl rfl ?_
    refine sv_dup (pc := 34) dX10_addPrefix_34 rfl ?_
    refine sw_getfield (pc := 35) dX10_addPrefix_35 (gCX10 _ _ _ _ _) 14 (by decide) wF_X10_60 rfl rfl rfl ?_
    refine sv_iconst (pc := 38) (v := 1) dX10_addPrefix_38 (by decide) ?_
    refine sw_iadd (pc := 39) (v := 1) dX10_addPrefix_39 (by decide) ?_
    refine sw_putfield (pc := 40) dX10_addPrefix_40 (gCX10 _ _ _ _ _) 14 (by decide) wF_X10_60 rfl rfl rfl (fun _ => rfl) (fun _ => rfl) rfl ?_
    refine sv_aload_n (pc := 43) dX10_addPrefix_43 rfl rfl ?_
    refine sw_getfield (pc := 44) dX10_addPrefix_44 (gCX10 _ _ _ _ _) 14 (by decide) wF_X10_60 rfl rfl rfl ?_
    refine sv_iconst (pc := 47) (v := 1) dX10_addPrefix_47 (by decide) ?_
    refine sw_isub (pc := 48) (v := 0) dX10_addPrefix_48 (by decide) ?_
    refine sv_iret (pc := 49) dX10_addPrefix_49 rfl (le_t rfl) (le_t rfl) ?_
    refine sv_iret (pc := 62) dX11_prefix_62 rfl (le_t rfl) (le_t rfl) ?_
    refine sv_aload_n (pc := 340) dL_law_340 rfl rfl ?_
    refine sv_aload_nS (pc := 341) dL_law_341 rfl rfl ?_
    refine sv_iload_n (pc := 342) dL_law_342 rfl rfl ?_
    refine sv_iconst (pc := 343) (v := 1) dL_law_343 (by decide) ?_
    refine sw_iadd (pc := 344) (v := 1) dL_law_344 (by decide) ?_
    refine sw_sld (pc := 345) (v := x1) dL_law_345 (k := 1) (by decide) (by decide) rfl hx1 ?_
    refine sv_aload_nS (pc := 346) dL_law_346 rfl rfl ?_
    refine sv_iload_n (pc := 347) dL_law_347 rfl rfl ?_
    refine sv_iconst (pc := 348) (v := 2) dL_law_348 (by decide) ?_
    refine sw_iadd (pc := 349) (v := 2) dL_law_349 (by decide) ?_
    refine sw_sld (pc := 350) (v := x2) dL_law_350 (k := 2) (by decide) (by decide) rfl hx2 ?_
    refine sv_callV (pc := 351) (M' := mX12_prefix) (d' := 20) (C' := 0) (S' := 0) (av := [.int x1, .int x2]) ?_ (gOk _ _ _ _ _) dL_law_351 (tX12_prefix _ _ _ _ _) ⟨wV_X12_prefix, wL_X12_prefix⟩ wM_DomainHouseLaw_27 (gCX12 _ _ _ _ _) rfl (lt_t rfl) rfl ⟨le_t rfl, le_t rfl⟩ ⟨le_t rfl, le_t rfl⟩ rfl (le_t rfl) (fun _ _ h => h)
    refine sC.of rfl (by decide) (le_t rfl) ?_
    refine sv_iload_n (pc := 0) dX12_prefix_0 rfl rfl ?_
    refine sv_iconst (pc := 1) (v := 0) dX12_prefix_1 (by decide) ?_
    refine sv_bipush (pc := 2) (v := 32) dX12_prefix_2 (by decide) ?_
    refine sv_callS (pc := 4) (M' := mX12_in) (d' := 19) (C' := 0) (S' := 0) (av := [.int x2, .int 0, .int 32]) ?_ (gOk _ _ _ _ _) dX12_prefix_4 (tX12_in _ _ _ _ _) wS_X12_in wM_X12_18 ⟨le_t rfl, le_t rfl⟩ ⟨le_t rfl, le_t rfl⟩ rfl (le_t rfl) (fun _ _ h => h)
    refine sC.of rfl (by decide) (le_t rfl) ?_
    refine sv_iload_n (pc := 0) dX12_in_0 rfl rfl ?_
    refine sv_iload_n (pc := 1) dX12_in_1 rfl rfl ?_
    refine sv_icmp_lt (pc := 2) (tgt := 14) dX12_in_2 (by decide) (fun h => absurd h h_1) (fun _ => ?_)
    refine sv_iload_n (pc := 5) dX12_in_5 rfl rfl ?_
    refine sv_iload_n (pc := 6) dX12_in_6 rfl rfl ?_
    refine sv_icmp_gt (pc := 7) (tgt := 14) dX12_in_7 (by decide) (fun h => absurd h h_2) (fun _ => ?_)
    refine sv_iconst (pc := 10) (v := 1) dX12_in_10 (by decide) ?_
    refine sv_goto (pc := 11) (tgt := 15) dX12_in_11 (by decide) ?_
    refine sv_zret (pc := 15) dX12_in_15 rfl (by decide) (le_t rfl) (le_t rfl) ?_
    refine sv_if_eq (pc := 7) (tgt := 21) dX12_prefix_7 (by decide) (fun h => absurd h (by decide)) (fun _ => ?_)
    refine sv_iload_n (pc := 10) dX12_prefix_10 rfl rfl ?_
    refine sv_iload_n (pc := 11) dX12_prefix_11 rfl rfl ?_
    refine sv_callS (pc := 12) (M' := mX12_mask) (d' := 19) (C' := 0) (S' := 0) (av := [.int x2]) ?_ (gOk _ _ _ _ _) dX12_prefix_12 (tX12_mask _ _ _ _ _) wS_X12_mask wM_X12_11 ⟨le_t rfl, le_t rfl⟩ ⟨le_t rfl, le_t rfl⟩ rfl (le_t rfl) (fun _ _ h => h)
    refine sC.of rfl (by decide) (le_t rfl) ?_
    refine sv_iload_n (pc := 0) dX12_mask_0 rfl rfl ?_
    refine sv_if_ne (pc := 1) (tgt := 8) dX12_mask_1 (by decide) (fun h => absurd h_3 h) (fun _ => ?_)
    refine sv_iconst (pc := 4) (v := 0) dX12_mask_4 (by decide) ?_
    refine sv_goto (pc := 5) (tgt := 14) dX12_mask_5 (by decide) ?_
    refine sv_iret (pc := 14) dX12_mask_14 rfl (le_t rfl) (le_t rfl) ?_
    refine sv_iconst (pc := 15) (v := (-1)) dX12_prefix_15 (by decide) ?_
    refine sw_ixor (pc := 16) (v := (-1)) dX12_prefix_16 (by decide) ?_
    refine sv_iand (pc := 17) dX12_prefix_17 ?_
    refine sv_if_eq (pc := 18) (tgt := 23) dX12_prefix_18 (by decide) (fun _ => ?_) (fun h => absurd h_4 h)
    refine sv_aload_n (pc := 23) dX12_prefix_23 rfl rfl ?_
    refine sv_iload_n (pc := 24) dX12_prefix_24 rfl rfl ?_
    refine sv_iload_n (pc := 25) dX12_prefix_25 rfl rfl ?_
    refine sv_callV (pc := 26) (M' := mX12_prefixOf) (d' := 19) (C' := 0) (S' := 0) (av := [.int x1, .int x2]) ?_ (gOk _ _ _ _ _) dX12_prefix_26 (tX12_prefixOf _ _ _ _ _) ⟨wV_X12_prefixOf, wL_X12_prefixOf⟩ wM_X12_30 (gCX12 _ _ _ _ _) rfl (lt_t rfl) rfl ⟨le_t rfl, le_t rfl⟩ ⟨le_t rfl, le_t rfl⟩ rfl (le_t rfl) (fun _ _ h => h)
    refine sC.of rfl (by decide) (le_t rfl) ?_
    refine sv_iconst (pc := 0) (v := 0) dX12_prefixOf_0 (by decide) ?_
    refine sv_istore_n (pc := 1) dX12_prefixOf_1 rfl (by decide) ?_
    refine sv_iload_n (pc := 2) dX12_prefixOf_2 rfl rfl ?_
    refine sv_aload_n (pc := 3) dX12_prefixOf_3 rfl rfl ?_
    refine sw_getfield (pc := 4) dX12_prefixOf_4 (gCX12 _ _ _ _ _) 2 (by decide) wF_X12_15 rfl rfl rfl ?_
    refine sv_icmp_ge (pc := 7) (tgt := 38) dX12_prefixOf_7 (by decide) (fun _ => ?_) (fun h => absurd (by decide) h)
    refine sv_ldc (pc := 38) dX12_prefixOf_38 wG_X12_29 ?_
    refine sv_iret (pc := 40) dX12_prefixOf_40 rfl (le_t rfl) (le_t rfl) ?_
    refine sv_ldc (pc := 29) dX12_prefix_29 wG_X12_29 ?_
    refine sv_icmp_eq (pc := 31) (tgt := 37) dX12_prefix_31 (by decide) (fun _ => ?_) (fun h => absurd (by decide) h)
    refine sv_aload_n (pc := 37) dX12_prefix_37 rfl rfl ?_
    refine sw_getfield (pc := 38) dX12_prefix_38 (gCX12 _ _ _ _ _) 2 (by decide) wF_X12_15 rfl rfl rfl ?_
    refine sv_bipush (pc := 41) (v := 10) dX12_prefix_41 (by decide) ?_
    refine sv_icmp_ne (pc := 43) (tgt := 49) dX12_prefix_43 (by decide) (fun _ => ?_) (fun h => absurd h (by decide))
    refine sv_aload_n (pc := 49) dX12_prefix_49 rfl rfl ?_
    refine sw_getfield (pc := 50) dX12_prefix_50 (gCX12 _ _ _ _ _) 3 (by decide) wF_X12_22 rfl rfl rfl ?_
    refine sv_aload_n (pc := 53) dX12_prefix_53 rfl rfl ?_
    refine sw_getfield (pc := 54) dX12_prefix_54 (gCX12 _ _ _ _ _) 2 (by decide) wF_X12_15 rfl rfl rfl ?_
    refine sv_iload_n (pc := 57) dX12_prefix_57 rfl rfl ?_
    refine sw_iastore (pc := 58) (k := 0) dX12_prefix_58 rfl rfl rfl (by decide) (by decide) rfl rfl ?_
    refine sv_aload_n (pc := 59) dX12_prefix_59 rfl rfl ?_
    refine sw_getfield (pc := 60) dX12_prefix_60 (gCX12 _ _ _ _ _) 4 (by decide) wF_X12_26 rfl rfl rfl ?_
    refine sv_aload_n (pc := 63) dX12_prefix_63 rfl rfl ?_
    refine sw_getfield (pc := 64) dX12_prefix_64 (gCX12 _ _ _ _ _) 2 (by decide) wF_X12_15 rfl rfl rfl ?_
    refine sv_iload_n (pc := 67) dX12_prefix_67 rfl rfl ?_
    refine sw_iastore (pc := 68) (k := 0) dX12_prefix_68 rfl rfl rfl (by decide) (by decide) rfl rfl ?_
    refine sv_aload_n (pc := 69) dX12_prefix_69 rfl rfl ?_
    refine sv_dup (pc := 70) dX12_prefix_70 rfl ?_
    refine sw_getfield (pc := 71) dX12_prefix_71 (gCX12 _ _ _ _ _) 2 (by decide) wF_X12_15 rfl rfl rfl ?_
    refine sv_iconst (pc := 74) (v := 1) dX12_prefix_74 (by decide) ?_
    refine sw_iadd (pc := 75) (v := 1) dX12_prefix_75 (by decide) ?_
    refine sw_putfield (pc := 76) dX12_prefix_76 (gCX12 _ _ _ _ _) 2 (by decide) wF_X12_15 rfl rfl rfl (fun _ => rfl) (fun _ => rfl) rfl ?_
    refine sv_aload_n (pc := 79) dX12_prefix_79 rfl rfl ?_
    refine sw_getfield (pc := 80) dX12_prefix_80 (gCX12 _ _ _ _ _) 2 (by decide) wF_X12_15 rfl rfl rfl ?_
    refine sv_iconst (pc := 83) (v := 1) dX12_prefix_83 (by decide) ?_
    refine sw_isub (pc := 84) (v := 0) dX12_prefix_84 (by decide) ?_
    refine sv_iret (pc := 85) dX12_prefix_85 rfl (le_t rfl) (le_t rfl) ?_
    refine sv_icmp_eq (pc := 354) (tgt := 1799) dL_law_354 (by decide) (fun _ => ?_) (fun h => absurd (by decide) h)
    exact kk _ _ _ (le_t rfl) (le_t rfl)
  refine sv_iconst (pc := 21) (v := (-1)) dX11_prefix_21 (by decide) ?_
  refine sv_iret (pc := 22) dX11_prefix_22 rfl (le_t rfl) (le_t rfl) ?_
  refine sv_aload_n (pc := 340) dL_law_340 rfl rfl ?_
  refine sv_aload_nS (pc := 341) dL_law_341 rfl rfl ?_
  refine sv_iload_n (pc := 342) dL_law_342 rfl rfl ?_
  refine sv_iconst (pc := 343) (v := 1) dL_law_343 (by decide) ?_
  refine sw_iadd (pc := 344) (v := 1) dL_law_344 (by decide) ?_
  refine sw_sld (pc := 345) (v := x1) dL_law_345 (k := 1) (by decide) (by decide) rfl hx1 ?_
  refine sv_aload_nS (pc := 346) dL_law_346 rfl rfl ?_
  refine sv_iload_n (pc := 347) dL_law_347 rfl rfl ?_
  refine sv_iconst (pc := 348) (v := 2) dL_law_348 (by decide) ?_
  refine sw_iadd (pc := 349) (v := 2) dL_law_349 (by decide) ?_
  refine sw_sld (pc := 350) (v := x2) dL_law_350 (k := 2) (by decide) (by decide) rfl hx2 ?_
  refine sv_callV (pc := 351) (M' := mX12_prefix) (d' := 20) (C' := 0) (S' := 0) (av := [.int x1, .int x2]) ?_ (gOk _ _ _ _ _) dL_law_351 (tX12_prefix _ _ _ _ _) ⟨wV_X12_prefix, wL_X12_prefix⟩ wM_DomainHouseLaw_27 (gCX12 _ _ _ _ _) rfl (lt_t rfl) rfl ⟨le_t rfl, le_t rfl⟩ ⟨le_t rfl, le_t rfl⟩ rfl (le_t rfl) (fun _ _ h => h)
  refine sC.of rfl (by decide) (le_t rfl) ?_
  refine sv_iload_n (pc := 0) dX12_prefix_0 rfl rfl ?_
  refine sv_iconst (pc := 1) (v := 0) dX12_prefix_1 (by decide) ?_
  refine sv_bipush (pc := 2) (v := 32) dX12_prefix_2 (by decide) ?_
  refine sv_callS (pc := 4) (M' := mX12_in) (d' := 19) (C' := 0) (S' := 0) (av := [.int x2, .int 0, .int 32]) ?_ (gOk _ _ _ _ _) dX12_prefix_4 (tX12_in _ _ _ _ _) wS_X12_in wM_X12_18 ⟨le_t rfl, le_t rfl⟩ ⟨le_t rfl, le_t rfl⟩ rfl (le_t rfl) (fun _ _ h => h)
  refine sC.of rfl (by decide) (le_t rfl) ?_
  refine sv_iload_n (pc := 0) dX12_in_0 rfl rfl ?_
  refine sv_iload_n (pc := 1) dX12_in_1 rfl rfl ?_
  refine sv_icmp_lt (pc := 2) (tgt := 14) dX12_in_2 (by decide) (fun h => absurd h h_1) (fun _ => ?_)
  refine sv_iload_n (pc := 5) dX12_in_5 rfl rfl ?_
  refine sv_iload_n (pc := 6) dX12_in_6 rfl rfl ?_
  refine sv_icmp_gt (pc := 7) (tgt := 14) dX12_in_7 (by decide) (fun h => absurd h h_2) (fun _ => ?_)
  refine sv_iconst (pc := 10) (v := 1) dX12_in_10 (by decide) ?_
  refine sv_goto (pc := 11) (tgt := 15) dX12_in_11 (by decide) ?_
  refine sv_zret (pc := 15) dX12_in_15 rfl (by decide) (le_t rfl) (le_t rfl) ?_
  refine sv_if_eq (pc := 7) (tgt := 21) dX12_prefix_7 (by decide) (fun h => absurd h (by decide)) (fun _ => ?_)
  refine sv_iload_n (pc := 10) dX12_prefix_10 rfl rfl ?_
  refine sv_iload_n (pc := 11) dX12_prefix_11 rfl rfl ?_
  refine sv_callS (pc := 12) (M' := mX12_mask) (d' := 19) (C' := 0) (S' := 0) (av := [.int x2]) ?_ (gOk _ _ _ _ _) dX12_prefix_12 (tX12_mask _ _ _ _ _) wS_X12_mask wM_X12_11 ⟨le_t rfl, le_t rfl⟩ ⟨le_t rfl, le_t rfl⟩ rfl (le_t rfl) (fun _ _ h => h)
  refine sC.of rfl (by decide) (le_t rfl) ?_
  refine sv_iload_n (pc := 0) dX12_mask_0 rfl rfl ?_
  refine sv_if_ne (pc := 1) (tgt := 8) dX12_mask_1 (by decide) (fun h => absurd h_3 h) (fun _ => ?_)
  refine sv_iconst (pc := 4) (v := 0) dX12_mask_4 (by decide) ?_
  refine sv_goto (pc := 5) (tgt := 14) dX12_mask_5 (by decide) ?_
  refine sv_iret (pc := 14) dX12_mask_14 rfl (le_t rfl) (le_t rfl) ?_
  refine sv_iconst (pc := 15) (v := (-1)) dX12_prefix_15 (by decide) ?_
  refine sw_ixor (pc := 16) (v := (-1)) dX12_prefix_16 (by decide) ?_
  refine sv_iand (pc := 17) dX12_prefix_17 ?_
  refine sv_if_eq (pc := 18) (tgt := 23) dX12_prefix_18 (by decide) (fun h => absurd h h_4) (fun _ => ?_)
  refine sv_iconst (pc := 21) (v := (-1)) dX12_prefix_21 (by decide) ?_
  refine sv_iret (pc := 22) dX12_prefix_22 rfl (le_t rfl) (le_t rfl) ?_
  refine sv_icmp_eq (pc := 354) (tgt := 1799) dL_law_354 (by decide) (fun _ => ?_) (fun h => absurd (by decide) h)
  exact kk _ _ _ (le_t rfl) (le_t rfl)
