set_option maxHeartbeats 4000000 in
set_option maxRecDepth 100000 in
theorem ct_X2_add (l : Launch) (E : cE) (a : Nat → Nat) (I : Nat → Nat → Nat) (tr : Int64) (h f t q : Nat) (hc : I 44 0 < 4) : Ct l E 0 yX2_add cX2_add 5 none [.ref (a 5), .int (nI (h)), .int (nI (f)), .int (nI (t)), .int (nI (q))] (WC E a I tr) none (WC E a (up2 (up2 (up2 (up2 (up2 I 40 (I 44 0) h) 41 (I 44 0) f) 42 (I 44 0) t) 43 (I 44 0) q) 44 0 (I 44 0 + 1)) tr) := by
  refine Ct_of (plainFor_of_name (by decide)) (Nat.le_of_ble_eq_true rfl) ?_
  intro p e s m args below meth c A ls hE hP hD hS hl
  have hE : cEnv p s m args meth c E RX2 cX2_add 5 none A := hE
  have hx := hE.1
  have hb := hE.2.1
  have hl : lv_has ls 5 [(0, .ref (a 5)), (1, .int (nI (h))), (2, .int (nI (f))), (3, .int (nI (t))), (4, .int (nI (q)))] := hl
  have hP : va_P E.1 vwCl (WC E a I tr) s.heap := hP
  generalize hH : s.heap = H at hP hS ⊢
  have hS : va_S A s.heap H [] := by rw [hH]; exact hS
  clear hH
  refine lv_aload_n hx hb dX2_add_0 rfl (lv_at hl 0 rfl) ?_
  refine gf_X2_28 hE hP (38) (gC_38 E a I tr) (v := .int (nI (I (44) (0)))) rfl dX2_add_1 ?_
  refine lv_iconst (v := nI (4)) hx hb dX2_add_4 (by decide) ?_
  refine bN_ge (tgt := 59) hx hb (by omega) (by omega) dX2_add_5 (by decide) (fun c5 => absurd c5 (by omega)) (fun c5 => ?_)
  refine lv_aload_n hx hb dX2_add_8 rfl (lv_at hl 0 rfl) ?_
  refine gf_X2_9 hE hP (38) (gC_38 E a I tr) (v := .ref (a 19)) rfl dX2_add_9 ?_
  refine lv_aload_n hx hb dX2_add_12 rfl (lv_at hl 0 rfl) ?_
  refine gf_X2_28 hE hP (38) (gC_38 E a I tr) (v := .int (nI (I (44) (0)))) rfl dX2_add_13 ?_
  refine lv_iload_n hx hb dX2_add_16 rfl (lv_at hl 1 rfl) ?_
  refine ast_i hE hP hD hS (39) (gC_39 E a I tr) (by omega) (by decide) (sC_39 E a I tr (I (44) (0)) (h)) dX2_add_17 (fun H locs hP hD hS => ?_)
  refine lv_aload_n hx hb dX2_add_18 rfl (lv_at hl 0 rfl) ?_
  refine gf_X2_15 hE hP (38) (gC_38 E a (up2 I (40) (I (44) (0)) (h)) tr) (v := .ref (a 20)) rfl dX2_add_19 ?_
  refine lv_aload_n hx hb dX2_add_22 rfl (lv_at hl 0 rfl) ?_
  refine gf_X2_28 hE hP (38) (gC_38 E a (up2 I (40) (I (44) (0)) (h)) tr) (v := .int (nI (I (44) (0)))) rfl dX2_add_23 ?_
  refine lv_iload_n hx hb dX2_add_26 rfl (lv_at hl 2 rfl) ?_
  refine ast_i hE hP hD hS (40) (gC_40 E a (up2 I (40) (I (44) (0)) (h)) tr) (by omega) (by decide) (sC_40 E a (up2 I (40) (I (44) (0)) (h)) tr (I (44) (0)) (f)) dX2_add_27 (fun H locs hP hD hS => ?_)
  refine lv_aload_n hx hb dX2_add_28 rfl (lv_at hl 0 rfl) ?_
  refine gf_X2_18 hE hP (38) (gC_38 E a (up2 (up2 I (40) (I (44) (0)) (h)) (41) (I (44) (0)) (f)) tr) (v := .ref (a 21)) rfl dX2_add_29 ?_
  refine lv_aload_n hx hb dX2_add_32 rfl (lv_at hl 0 rfl) ?_
  refine gf_X2_28 hE hP (38) (gC_38 E a (up2 (up2 I (40) (I (44) (0)) (h)) (41) (I (44) (0)) (f)) tr) (v := .int (nI (I (44) (0)))) rfl dX2_add_33 ?_
  refine lv_iload_n hx hb dX2_add_36 rfl (lv_at hl 3 rfl) ?_
  refine ast_i hE hP hD hS (41) (gC_41 E a (up2 (up2 I (40) (I (44) (0)) (h)) (41) (I (44) (0)) (f)) tr) (by omega) (by decide) (sC_41 E a (up2 (up2 I (40) (I (44) (0)) (h)) (41) (I (44) (0)) (f)) tr (I (44) (0)) (t)) dX2_add_37 (fun H locs hP hD hS => ?_)
  refine lv_aload_n hx hb dX2_add_38 rfl (lv_at hl 0 rfl) ?_
  refine gf_X2_21 hE hP (38) (gC_38 E a (up2 (up2 (up2 I (40) (I (44) (0)) (h)) (41) (I (44) (0)) (f)) (42) (I (44) (0)) (t)) tr) (v := .ref (a 22)) rfl dX2_add_39 ?_
  refine lv_aload_n hx hb dX2_add_42 rfl (lv_at hl 0 rfl) ?_
  refine gf_X2_28 hE hP (38) (gC_38 E a (up2 (up2 (up2 I (40) (I (44) (0)) (h)) (41) (I (44) (0)) (f)) (42) (I (44) (0)) (t)) tr) (v := .int (nI (I (44) (0)))) rfl dX2_add_43 ?_
  refine lv_iload hx hb dX2_add_46 (lv_at hl 4 rfl) ?_
  refine ast_i hE hP hD hS (42) (gC_42 E a (up2 (up2 (up2 I (40) (I (44) (0)) (h)) (41) (I (44) (0)) (f)) (42) (I (44) (0)) (t)) tr) (by omega) (by decide) (sC_42 E a (up2 (up2 (up2 I (40) (I (44) (0)) (h)) (41) (I (44) (0)) (f)) (42) (I (44) (0)) (t)) tr (I (44) (0)) (q)) dX2_add_48 (fun H locs hP hD hS => ?_)
  refine lv_aload_n hx hb dX2_add_49 rfl (lv_at hl 0 rfl) ?_
  refine lv_dup hx hb dX2_add_50 rfl ?_
  refine gf_X2_28 hE hP (38) (gC_38 E a (up2 (up2 (up2 (up2 I (40) (I (44) (0)) (h)) (41) (I (44) (0)) (f)) (42) (I (44) (0)) (t)) (43) (I (44) (0)) (q)) tr) (v := .int (nI (I (44) (0)))) rfl dX2_add_51 ?_
  refine lv_iconst (v := nI (1)) hx hb dX2_add_54 (by decide) ?_
  refine lv_iadd hx hb dX2_add_55 ?_
  refine tp (nI_add _ _) ?_
  refine pf_X2_28 hE hP hD hS (38) (gC_38 E a (up2 (up2 (up2 (up2 I (40) (I (44) (0)) (h)) (41) (I (44) (0)) (f)) (42) (I (44) (0)) (t)) (43) (I (44) (0)) (q)) tr) rfl rfl (Nat.le_of_ble_eq_true rfl) (sC_38_5 E a (up2 (up2 (up2 (up2 I (40) (I (44) (0)) (h)) (41) (I (44) (0)) (f)) (42) (I (44) (0)) (t)) (43) (I (44) (0)) (q)) tr (I (44) (0) + 1)) dX2_add_56 (fun H locs hP hD hS => ?_)
  exact ret_v hE rfl hP hD hS dX2_add_59

set_option maxHeartbeats 4000000 in
set_option maxRecDepth 100000 in
theorem ct_X2_inOrder (l : Launch) (E : cE) (a : Nat → Nat) (I : Nat → Nat → Nat) (tr : Int64) (o i : Nat) (hc4 : I 44 0 ≤ 4) (hi : i < I 44 0) (ho : o < 256) : Ct l E 0 yX2_inOrder cX2_inOrder 3 (some .int) [.ref (a 5), .int (nI (o)), .int (nI (i))] (WC E a I tr) (some (.int (nI (ioC (I 44 0) o i)))) (WC E a I tr) := by
  refine Ct_of (plainFor_of_name (by decide)) (Nat.le_of_ble_eq_true rfl) ?_
  intro p e s m args below meth c A ls hE hP hD hS hl
  have hE : cEnv p s m args meth c E RX2 cX2_inOrder 3 (some .int) A := hE
  have hx := hE.1
  have hb := hE.2.1
  have hl : lv_has ls 3 [(0, .ref (a 5)), (1, .int (nI (o))), (2, .int (nI (i)))] := hl
  have hP : va_P E.1 vwCl (WC E a I tr) s.heap := hP
  generalize hH : s.heap = H at hP hS ⊢
  have hS : va_S A s.heap H [] := by rw [hH]; exact hS
  clear hH
  refine lv_iload_n hx hb dX2_inOrder_0 rfl (lv_at hl 1 rfl) ?_
  refine lv_iconst (v := nI (2)) hx hb dX2_inOrder_1 (by decide) ?_
  refine lv_aload_n hx hb dX2_inOrder_2 rfl (lv_at hl 0 rfl) ?_
  refine gf_X2_28 hE hP (38) (gC_38 E a I tr) (v := .int (nI (I (44) (0)))) rfl dX2_inOrder_3 ?_
  refine lv_iconst (v := nI (1)) hx hb dX2_inOrder_6 (by decide) ?_
  refine lv_isub hx hb dX2_inOrder_7 ?_
  refine tp (pk_sub (by omega)) ?_
  refine lv_iload_n hx hb dX2_inOrder_8 rfl (lv_at hl 2 rfl) ?_
  refine lv_isub hx hb dX2_inOrder_9 ?_
  refine tp (pk_sub (by omega)) ?_
  refine lv_imul hx hb dX2_inOrder_10 ?_
  refine tp (pk_mul _ _) ?_
  have hq := Nat.div_le_self o (2 ^ (2 * (I 44 0 - 1 - i)))
  refine lv_ishr hx hb dX2_inOrder_11 ?_
  refine tp (nI_shr (by omega) (by omega)) ?_
  refine lv_iconst (v := nI (3)) hx hb dX2_inOrder_12 (by decide) ?_
  refine lv_iand hx hb dX2_inOrder_13 ?_
  refine tp (nI_and3 (by omega)) ?_
  exact ret_i hE (r := nI ((((o) / 2 ^ ((2) * (I (44) (0) - (1) - (i))))) % 4)) (rfl) hP hD hS dX2_inOrder_14

set_option maxHeartbeats 4000000 in
set_option maxRecDepth 100000 in
theorem ct_X2_isOrder (l : Launch) (E : cE) (a : Nat → Nat) (I : Nat → Nat → Nat) (tr : Int64) (o : Nat) (hc4 : I 44 0 ≤ 4) (ho : o < 256) : Ct l E 1 yX2_isOrder cX2_isOrder 4 (some .boolean) [.ref (a 5), .int (nI (o))] (WC E a I tr) (some (.int (bB (oC (I 44 0) o)))) (WC E a I tr) := by
  refine Ct_of (plainFor_of_name (by decide)) (Nat.le_of_ble_eq_true rfl) ?_
  intro p e s m args below meth c A ls hE hP hD hS hl
  have hE : cEnv p s m args meth c E RX2 cX2_isOrder 4 (some .boolean) A := hE
  have hx := hE.1
  have hb := hE.2.1
  have hl : lv_has ls 4 [(0, .ref (a 5)), (1, .int (nI (o)))] := hl
  have hP : va_P E.1 vwCl (WC E a I tr) s.heap := hP
  generalize hH : s.heap = H at hP hS ⊢
  have hS : va_S A s.heap H [] := by rw [hH]; exact hS
  clear hH
  have hp4 := p4 (I 44 0) hc4
  refine lv_iconst (v := nI (0)) hx hb dX2_isOrder_0 (by decide) ?_
  refine lv_istore_n (lv' := [(2, .int (nI (0))), (0, .ref (a 5)), (1, .int (nI (o)))]) hx hb dX2_isOrder_1 rfl hl (by decide) rfl (fun ls hl => ?_)
  refine lv_iconst (v := nI (0)) hx hb dX2_isOrder_2 (by decide) ?_
  refine lv_istore_n (lv' := [(3, .int (nI (0))), (2, .int (nI (0))), (0, .ref (a 5)), (1, .int (nI (o)))]) hx hb dX2_isOrder_3 rfl hl (by decide) rfl (fun ls hl => ?_)
  have loop4 : ∀ (fu4 : Nat) (k : Nat) (i : Nat), I 44 0 - i < fu4 → (i ≤ I 44 0) → (k = mk (ioC (I 44 0) o) i) → ∀ (ls : Array Slot) (H : Heap) (locs : List Loc), lv_has ls 4 [(0, .ref (a 5)), (1, .int (nI (o))), (2, .int (nI (k))), (3, .int (nI (i)))] → va_P E.1 vwCl (WC E a I tr) H → va_D A (WC E a I tr) → va_S A s.heap H locs → W p l e (rmL 1) s m args below meth c H locs 0 0 (RQ E below args s A (some (.int (bB (oC (I 44 0) o)))) (WC E a I tr)) (F0 m 4 ls []) := by
    intro fu4
    induction fu4 with
    | zero => intro k i h; exact absurd h (Nat.not_lt_zero _)
    | succ fu4 ih4 =>
      intro k i hfu4 hi hk ls H locs hl hP hD hS
      have hm := mk_lt4 (f := ioC (I 44 0) o) i (fun u _ => ioC_lt _ _ _)
      rw [← hk] at hm
      refine lv_iload_n hx hb dX2_isOrder_4 rfl (lv_at hl 3 rfl) ?_
      refine lv_aload_n hx hb dX2_isOrder_5 rfl (lv_at hl 0 rfl) ?_
      refine gf_X2_28 hE hP (38) (gC_38 E a I tr) (v := .int (nI (I (44) (0)))) rfl dX2_isOrder_6 ?_
      refine bN_ge (tgt := 29) hx hb (by omega) (by omega) dX2_isOrder_9 (by decide) (fun c9 => ?_) (fun c9 => ?_)
      · refine lv_iload_n hx hb dX2_isOrder_29 rfl (lv_at hl 2 rfl) ?_
        refine lv_iconst (v := nI (1)) hx hb dX2_isOrder_30 (by decide) ?_
        refine lv_aload_n hx hb dX2_isOrder_31 rfl (lv_at hl 0 rfl) ?_
        refine gf_X2_28 hE hP (38) (gC_38 E a I tr) (v := .int (nI (I (44) (0)))) rfl dX2_isOrder_32 ?_
        refine lv_ishl hx hb dX2_isOrder_35 ?_
        refine tp (nI_pow (k := I (44) (0)) (by omega)) ?_
        refine lv_iconst (v := nI (1)) hx hb dX2_isOrder_36 (by decide) ?_
        refine lv_isub hx hb dX2_isOrder_37 ?_
        refine tp (pk_sub (by omega)) ?_
        refine bN_ne (tgt := 45) hx hb (by omega) (by omega) dX2_isOrder_38 (by decide) (fun c38 => ?_) (fun c38 => ?_)
        · refine lv_iconst (v := nI (0)) hx hb dX2_isOrder_45 (by decide) ?_
          exact ret_z hE (r := nI (0)) (by decide) (by rw [show oC (I 44 0) o = false from df (by rw [show mk (ioC (I 44 0) o) (I 44 0) = k by rw [hk, show I 44 0 = i by omega]]; exact c38)]; rfl) hP hD hS dX2_isOrder_46
        · refine lv_iconst (v := nI (1)) hx hb dX2_isOrder_41 (by decide) ?_
          refine lv_goto (tgt := 46) hx hb dX2_isOrder_42 (by decide) ?_
          exact ret_z hE (r := nI (1)) (by decide) (by rw [show oC (I 44 0) o = true from dt (by rw [show mk (ioC (I 44 0) o) (I 44 0) = k by rw [hk, show I 44 0 = i by omega]]; exact c38)]; rfl) hP hD hS dX2_isOrder_46
      · refine lv_iload_n hx hb dX2_isOrder_12 rfl (lv_at hl 2 rfl) ?_
        refine lv_iconst (v := nI (1)) hx hb dX2_isOrder_13 (by decide) ?_
        refine lv_aload_n hx hb dX2_isOrder_14 rfl (lv_at hl 0 rfl) ?_
        refine lv_iload_n hx hb dX2_isOrder_15 rfl (lv_at hl 1 rfl) ?_
        refine lv_iload_n hx hb dX2_isOrder_16 rfl (lv_at hl 3 rfl) ?_
        refine call_V (As := [.int (nI (o)), .int (nI (i))]) (rest := [.int (nI (1)), .int (nI (k))]) hE (ct_X2_inOrder l E a I tr (o) (i) hc4 (by omega) (by omega)) cm_X2_inOrder (uw mt_L_X2_40 rfl) (gC_38 E a I tr) rfl rfl hP hD hS hl.1 rfl rfl (Nat.le_of_ble_eq_true rfl) ⟨by decide, by decide⟩ dX2_isOrder_17 (fun H locs hP hD hS => ?_)
        refine W.eq (g2 := F0 m 20 ls [.int (nI (ioC (I 44 0) (o) (i))), .int (nI (1)), .int (nI (k))]) rfl ?_
        have hi1 := ioC_lt (I 44 0) (o) (i)
        refine lv_ishl hx hb dX2_isOrder_20 ?_
        refine tp (nI_pow (k := ioC (I 44 0) (o) (i)) (by omega)) ?_
        refine lv_ior hx hb dX2_isOrder_21 ?_
        refine tp nI_or ?_
        refine lv_istore_n (lv' := [(2, .int (nI ((k) ||| (2 ^ (ioC (I 44 0) (o) (i)))))), (0, .ref (a 5)), (1, .int (nI (o))), (3, .int (nI (i)))]) hx hb dX2_isOrder_22 rfl hl (by decide) rfl (fun ls hl => ?_)
        refine lv_iinc (v := nI (i + 1)) (lv' := [(3, .int (nI (i + 1))), (2, .int (nI ((k) ||| (2 ^ (ioC (I 44 0) (o) (i)))))), (0, .ref (a 5)), (1, .int (nI (o)))]) hx hb dX2_isOrder_23 hl (k := 3) rfl (ii1_N _) (by decide) rfl (fun ls hl => ?_)
        refine lv_goto (tgt := 4) hx hb dX2_isOrder_26 (by decide) ?_
        exact ih4 ((k) ||| (2 ^ (ioC (I 44 0) (o) (i)))) (i + 1) (by omega) (by omega) (by subst hk; rfl) ls _ _ (lv_sub hl [2, 3, 1, 0] rfl) hP hD hS
  exact loop4 (_ + 1) (0) (0) (Nat.lt_succ_self _) (by omega) rfl ls _ _ (lv_sub hl [2, 3, 1, 0] rfl) hP hD hS

set_option maxHeartbeats 4000000 in
set_option maxRecDepth 100000 in
theorem ct_X2_isBetween (l : Launch) (E : cE) (ws : va_W) (n lo hi : Nat) (hn : n < 48) (hlo : lo < 48) (hhi : hi < 48) : Ct l E 1 yX2_isBetween cX2_isBetween 3 (some .boolean) [.int (nI (n)), .int (nI (lo)), .int (nI (hi))] ws (some (.int (bB (btw n lo hi)))) ws := by
  refine Ct_of (plainFor_of_name (by decide)) (Nat.le_of_ble_eq_true rfl) ?_
  intro p e s m args below meth c A ls hE hP hD hS hl
  have hE : cEnv p s m args meth c E RX2 cX2_isBetween 3 (some .boolean) A := hE
  have hx := hE.1
  have hb := hE.2.1
  have hl : lv_has ls 3 [(0, .int (nI (n))), (1, .int (nI (lo))), (2, .int (nI (hi)))] := hl
  generalize hH : s.heap = H at hP hS ⊢
  have hS : va_S A s.heap H [] := by rw [hH]; exact hS
  clear hH
  refine lv_iload_n hx hb dX2_isBetween_0 rfl (lv_at hl 0 rfl) ?_
  refine lv_iload_n hx hb dX2_isBetween_1 rfl (lv_at hl 1 rfl) ?_
  refine lv_isub hx hb dX2_isBetween_2 ?_
  refine lv_bipush (v := nI (48)) hx hb dX2_isBetween_3 (by decide) ?_
  refine call_S (As := [.int (nI (n) - nI (lo)), .int (nI (48))]) (rest := []) hE (ct_J9_floorMod_7cf53 l E ws (n) (lo) (by omega) (by omega)) cm_J9_floorMod_7cf53 (uw mt_L_X2_73 rfl) hP hD hS hl.1 rfl rfl (Nat.le_of_ble_eq_true rfl) ⟨by decide, by decide⟩ dX2_isBetween_5 (fun H locs hP hD hS => ?_)
  refine W.eq (g2 := F0 m 8 ls [.int (nI (fm (n) (lo)))]) rfl ?_
  have hm1 := fm_lt (n) (lo)
  refine lv_iload_n hx hb dX2_isBetween_8 rfl (lv_at hl 2 rfl) ?_
  refine lv_iload_n hx hb dX2_isBetween_9 rfl (lv_at hl 1 rfl) ?_
  refine lv_isub hx hb dX2_isBetween_10 ?_
  refine lv_bipush (v := nI (48)) hx hb dX2_isBetween_11 (by decide) ?_
  refine call_S (As := [.int (nI (hi) - nI (lo)), .int (nI (48))]) (rest := [.int (nI (fm (n) (lo)))]) hE (ct_J9_floorMod_7cf53 l E ws (hi) (lo) (by omega) (by omega)) cm_J9_floorMod_7cf53 (uw mt_L_X2_73 rfl) hP hD hS hl.1 rfl rfl (Nat.le_of_ble_eq_true rfl) ⟨by decide, by decide⟩ dX2_isBetween_13 (fun H locs hP hD hS => ?_)
  refine W.eq (g2 := F0 m 16 ls [.int (nI (fm (hi) (lo))), .int (nI (fm (n) (lo)))]) rfl ?_
  have hm2 := fm_lt (hi) (lo)
  refine bN_gt (tgt := 23) hx hb (by omega) (by omega) dX2_isBetween_16 (by decide) (fun c16 => ?_) (fun c16 => ?_)
  · refine lv_iconst (v := nI (0)) hx hb dX2_isBetween_23 (by decide) ?_
    exact ret_z hE (r := nI (0)) (by decide) (by rw [show btw n lo hi = false from df (by omega)]; rfl) hP hD hS dX2_isBetween_24
  · refine lv_iconst (v := nI (1)) hx hb dX2_isBetween_19 (by decide) ?_
    refine lv_goto (tgt := 24) hx hb dX2_isBetween_20 (by decide) ?_
    exact ret_z hE (r := nI (1)) (by decide) (by rw [show btw n lo hi = true from dt c16]; rfl) hP hD hS dX2_isBetween_24

set_option maxHeartbeats 4000000 in
set_option maxRecDepth 100000 in
theorem ct_X2_beginOf (l : Launch) (E : cE) (a : Nat → Nat) (I : Nat → Nat → Nat) (tr : Int64) (e1 cm : Nat) (hI : CK I) (hEK : EK I) (he : e1 < I 44 0) (hcm : cm ≤ 104) : Ct l E 2 yX2_beginOf cX2_beginOf 4 (some .int) [.ref (a 5), .int (nI (e1)), .int (nI (cm))] (WC E a I tr) (some (.int (rN (btC (shC I (I 40 e1)) (I 41 e1) (I 42 e1) cm)))) (WC E a I tr) := by
  refine Ct_of (plainFor_of_name (by decide)) (Nat.le_of_ble_eq_true rfl) ?_
  intro p e s m args below meth c A ls hE hP hD hS hl
  have hE : cEnv p s m args meth c E RX2 cX2_beginOf 4 (some .int) A := hE
  have hx := hE.1
  have hb := hE.2.1
  have hl : lv_has ls 4 [(0, .ref (a 5)), (1, .int (nI (e1))), (2, .int (nI (cm)))] := hl
  have hP : va_P E.1 vwCl (WC E a I tr) s.heap := hP
  generalize hH : s.heap = H at hP hS ⊢
  have hS : va_S A s.heap H [] := by rw [hH]; exact hS
  clear hH
  have hc4 := hEK.1
  have hek := hEK.2 e1 he
  refine lv_iload_n hx hb dX2_beginOf_0 rfl (lv_at hl 2 rfl) ?_
  refine lv_istore_n (lv' := [(3, .int (nI (cm))), (0, .ref (a 5)), (1, .int (nI (e1))), (2, .int (nI (cm)))]) hx hb dX2_beginOf_1 rfl hl (by decide) rfl (fun ls hl => ?_)
  have loop2 : ∀ (fu2 : Nat) (t : Nat), 96 - t < fu2 → (t ≤ 104) → (btC (shC I (I 40 e1)) (I 41 e1) (I 42 e1) cm = btC (shC I (I 40 e1)) (I 41 e1) (I 42 e1) t) → ∀ (ls : Array Slot) (H : Heap) (locs : List Loc), lv_has ls 4 [(0, .ref (a 5)), (1, .int (nI (e1))), (3, .int (nI (t)))] → va_P E.1 vwCl (WC E a I tr) H → va_D A (WC E a I tr) → va_S A s.heap H locs → W p l e (rmL 2) s m args below meth c H locs 0 0 (RQ E below args s A (some (.int (rN (btC (shC I (I 40 e1)) (I 41 e1) (I 42 e1) cm)))) (WC E a I tr)) (F0 m 2 ls []) := by
    intro fu2
    induction fu2 with
    | zero => intro t h; exact absurd h (Nat.not_lt_zero _)
    | succ fu2 ih2 =>
      intro t hfu2 ht hq ls H locs hl hP hD hS
      refine lv_iload_n hx hb dX2_beginOf_2 rfl (lv_at hl 2 rfl) ?_
      refine lv_bipush (v := nI (96)) hx hb dX2_beginOf_3 (by decide) ?_
      refine bN_ge (tgt := 48) hx hb (by omega) (by omega) dX2_beginOf_5 (by decide) (fun c5 => ?_) (fun c5 => ?_)
      · refine lv_bipush (v := (-9)) hx hb dX2_beginOf_48 (by decide) ?_
        exact ret_i hE (r := (-9)) (by rw [hq, show btC (shC I (I 40 e1)) (I 41 e1) (I 42 e1) t = 0 from sr_end c5, rN_0]) hP hD hS dX2_beginOf_50
      · refine lv_aload_n hx hb dX2_beginOf_8 rfl (lv_at hl 0 rfl) ?_
        refine gf_X2_24 hE hP (38) (gC_38 E a I tr) (v := .ref (a 3)) rfl dX2_beginOf_9 ?_
        refine lv_aload_n hx hb dX2_beginOf_12 rfl (lv_at hl 0 rfl) ?_
        refine gf_X2_9 hE hP (38) (gC_38 E a I tr) (v := .ref (a 19)) rfl dX2_beginOf_13 ?_
        refine lv_iload_n hx hb dX2_beginOf_16 rfl (lv_at hl 1 rfl) ?_
        refine ald_i hE hP (39) (gC_39 E a I tr) (by omega) (by decide) (r := nI (I (40) (e1))) rfl dX2_beginOf_17 ?_
        refine lv_iload_n hx hb dX2_beginOf_18 rfl (lv_at hl 2 rfl) ?_
        refine call_V (As := [.int (nI (I (40) (e1))), .int (nI (t))]) (rest := []) hE (ct_X0_showsAt l E a I tr (I (40) (e1)) (t) (hI) (by omega) (by omega)) cm_X0_showsAt (uw mt_L_X2_66 rfl) (gC_4 E a I tr) rfl rfl hP hD hS hl.1 rfl rfl (Nat.le_of_ble_eq_true rfl) ⟨by decide, by decide⟩ dX2_beginOf_19 (fun H locs hP hD hS => ?_)
        refine W.eq (g2 := F0 m 22 ls [.int (nI (shC I (I (40) (e1)) (t)))]) rfl ?_
        have hs1 := shC_lt I (I (40) (e1)) (t)
        refine lv_aload_n hx hb dX2_beginOf_22 rfl (lv_at hl 0 rfl) ?_
        refine gf_X2_15 hE hP (38) (gC_38 E a I tr) (v := .ref (a 20)) rfl dX2_beginOf_23 ?_
        refine lv_iload_n hx hb dX2_beginOf_26 rfl (lv_at hl 1 rfl) ?_
        refine ald_i hE hP (40) (gC_40 E a I tr) (by omega) (by decide) (r := nI (I (41) (e1))) rfl dX2_beginOf_27 ?_
        refine lv_aload_n hx hb dX2_beginOf_28 rfl (lv_at hl 0 rfl) ?_
        refine gf_X2_18 hE hP (38) (gC_38 E a I tr) (v := .ref (a 21)) rfl dX2_beginOf_29 ?_
        refine lv_iload_n hx hb dX2_beginOf_32 rfl (lv_at hl 1 rfl) ?_
        refine ald_i hE hP (41) (gC_41 E a I tr) (by omega) (by decide) (r := nI (I (42) (e1))) rfl dX2_beginOf_33 ?_
        refine call_S (As := [.int (nI (shC I (I (40) (e1)) (t))), .int (nI (I (41) (e1))), .int (nI (I (42) (e1)))]) (rest := []) hE (ct_X2_isBetween l E (WC E a I tr) (shC I (I (40) (e1)) (t)) (I (41) (e1)) (I (42) (e1)) (by omega) (by omega) (by omega)) cm_X2_isBetween (uw mt_L_X2_69 rfl) hP hD hS hl.1 rfl rfl (Nat.le_of_ble_eq_true rfl) ⟨by decide, by decide⟩ dX2_beginOf_34 (fun H locs hP hD hS => ?_)
        refine W.eq (g2 := F0 m 37 ls [.int (bB (btw (shC I (I (40) (e1)) (t)) (I (41) (e1)) (I (42) (e1))))]) rfl ?_
        refine bB_eq (tgt := 42) hx hb dX2_beginOf_37 (by decide) (fun c37 => ?_) (fun c37 => ?_)
        · refine lv_iinc (v := nI (t + 1)) (lv' := [(3, .int (nI (t + 1))), (0, .ref (a 5)), (1, .int (nI (e1)))]) hx hb dX2_beginOf_42 hl (k := 2) rfl (ii1_N _) (by decide) rfl (fun ls hl => ?_)
          refine lv_goto (tgt := 2) hx hb dX2_beginOf_45 (by decide) ?_
          exact ih2 (t + 1) (by omega) (by omega) (hq.trans (sr_miss c5 c37)) ls _ _ (lv_sub hl [1, 2, 0] rfl) hP hD hS
        · refine lv_iload_n hx hb dX2_beginOf_40 rfl (lv_at hl 2 rfl) ?_
          exact ret_i hE (r := nI (t)) (by rw [hq, show btC (shC I (I 40 e1)) (I 41 e1) (I 42 e1) t = t + 9 from sr_hit c5 c37, rN_9]) hP hD hS dX2_beginOf_41
  exact loop2 (_ + 1) (cm) (Nat.lt_succ_self _) (by omega) rfl ls _ _ (lv_sub hl [1, 2, 0] rfl) hP hD hS

set_option maxHeartbeats 4000000 in
set_option maxRecDepth 100000 in
theorem ct_X2_endOf (l : Launch) (E : cE) (a : Nat → Nat) (I : Nat → Nat → Nat) (tr : Int64) (o h : Nat) (hI : CK I) (hEK : EK I) (ho : o < 256) (hO : ∀ i, i < I 44 0 → ioC (I 44 0) o i < I 44 0) (hh : h < 6) : Ct l E 3 yX2_endOf cX2_endOf 8 (some .int) [.ref (a 5), .int (nI (o)), .int (nI (h))] (WC E a I tr) (some (.int (rN (enC I (ioC (I 44 0) o) h)))) (WC E a I tr) := by
  refine Ct_of (plainFor_of_name (by decide)) (Nat.le_of_ble_eq_true rfl) ?_
  intro p e s m args below meth c A ls hE hP hD hS hl
  have hE : cEnv p s m args meth c E RX2 cX2_endOf 8 (some .int) A := hE
  have hx := hE.1
  have hb := hE.2.1
  have hl : lv_has ls 8 [(0, .ref (a 5)), (1, .int (nI (o))), (2, .int (nI (h)))] := hl
  have hP : va_P E.1 vwCl (WC E a I tr) s.heap := hP
  generalize hH : s.heap = H at hP hS ⊢
  have hS : va_S A s.heap H [] := by rw [hH]; exact hS
  clear hH
  have hc4 := hEK.1
  have hnow := hI.2.2.1
  have hw := hI.2.1
  refine lv_iload_n hx hb dX2_endOf_0 rfl (lv_at hl 2 rfl) ?_
  refine lv_istore_n (lv' := [(3, .int (nI (h))), (0, .ref (a 5)), (1, .int (nI (o))), (2, .int (nI (h)))]) hx hb dX2_endOf_1 rfl hl (by decide) rfl (fun ls hl => ?_)
  refine lv_aload_n hx hb dX2_endOf_2 rfl (lv_at hl 1 rfl) ?_
  refine gf_X2_24 hE hP (38) (gC_38 E a I tr) (v := .ref (a 3)) rfl dX2_endOf_3 ?_
  refine gf_X2_43 hE hP (4) (gC_4 E a I tr) (v := .ref (a 4)) rfl dX2_endOf_6 ?_
  refine gf_X2_49 hE hP (5) (gC_5 E a I tr) (v := .int (nI (I (11) (0)))) rfl dX2_endOf_9 ?_
  refine lv_istore (lv' := [(4, .int (nI (I (11) (0)))), (3, .int (nI (h))), (0, .ref (a 5)), (1, .int (nI (o))), (2, .int (nI (h)))]) hx hb dX2_endOf_12 hl (by decide) rfl (fun ls hl => ?_)
  refine lv_iconst (v := nI (0)) hx hb dX2_endOf_14 (by decide) ?_
  refine lv_istore (lv' := [(5, .int (nI (0))), (4, .int (nI (I (11) (0)))), (3, .int (nI (h))), (0, .ref (a 5)), (1, .int (nI (o))), (2, .int (nI (h)))]) hx hb dX2_endOf_15 hl (by decide) rfl (fun ls hl => ?_)
  have loop17 : ∀ (fu17 : Nat) (pl : Nat) (t : Nat) (i : Nat), I 44 0 - i < fu17 → (t ≤ 95) → (pl < 6) → (i ≤ I 44 0) → (enC I (ioC (I 44 0) o) h = enK (shC I) (I 14 0) (I 40) (I 41) (I 42) (I 43) (ioC (I 44 0) o) (I 44 0 - i) i pl t) → ∀ (ls : Array Slot) (H : Heap) (locs : List Loc), lv_has ls 8 [(0, .ref (a 5)), (1, .int (nI (o))), (3, .int (nI (pl))), (4, .int (nI (t))), (5, .int (nI (i)))] → va_P E.1 vwCl (WC E a I tr) H → va_D A (WC E a I tr) → va_S A s.heap H locs → W p l e (rmL 3) s m args below meth c H locs 0 0 (RQ E below args s A (some (.int (rN (enC I (ioC (I 44 0) o) h)))) (WC E a I tr)) (F0 m 17 ls []) := by
    intro fu17
    induction fu17 with
    | zero => intro pl t i h; exact absurd h (Nat.not_lt_zero _)
    | succ fu17 ih17 =>
      intro pl t i hfu17 ht hpl hi hq ls H locs hl hP hD hS
      refine lv_iload hx hb dX2_endOf_17 (lv_at hl 4 rfl) ?_
      refine lv_aload_n hx hb dX2_endOf_19 rfl (lv_at hl 0 rfl) ?_
      refine gf_X2_28 hE hP (38) (gC_38 E a I tr) (v := .int (nI (I (44) (0)))) rfl dX2_endOf_20 ?_
      refine bN_ge (tgt := 122) hx hb (by omega) (by omega) dX2_endOf_23 (by decide) (fun c23 => ?_) (fun c23 => ?_)
      · refine lv_iload hx hb dX2_endOf_122 (lv_at hl 3 rfl) ?_
        exact ret_i hE (r := nI (t)) (by rw [hq, show I 44 0 - i = 0 by omega]; exact congrArg (fun x => some (Value.int x)) (rN_9 t)) hP hD hS dX2_endOf_124
      · have hO1 := hO i c23
        have hek := hEK.2 _ hO1
        refine lv_aload_n hx hb dX2_endOf_26 rfl (lv_at hl 0 rfl) ?_
        refine lv_iload_n hx hb dX2_endOf_27 rfl (lv_at hl 1 rfl) ?_
        refine lv_iload hx hb dX2_endOf_28 (lv_at hl 4 rfl) ?_
        refine call_V (As := [.int (nI (o)), .int (nI (i))]) (rest := []) hE (ct_X2_inOrder l E a I tr (o) (i) hc4 (by omega) (by omega)) cm_X2_inOrder (uw mt_L_X2_40 rfl) (gC_38 E a I tr) rfl rfl hP hD hS hl.1 rfl rfl (Nat.le_of_ble_eq_true rfl) ⟨by decide, by decide⟩ dX2_endOf_30 (fun H locs hP hD hS => ?_)
        refine W.eq (g2 := F0 m 33 ls [.int (nI (ioC (I 44 0) (o) (i)))]) rfl ?_
        have hi1 := ioC_lt (I 44 0) (o) (i)
        refine lv_istore (lv' := [(6, .int (nI (ioC (I 44 0) (o) (i)))), (0, .ref (a 5)), (1, .int (nI (o))), (3, .int (nI (pl))), (4, .int (nI (t))), (5, .int (nI (i)))]) hx hb dX2_endOf_33 hl (by decide) rfl (fun ls hl => ?_)
        refine lv_aload_n hx hb dX2_endOf_35 rfl (lv_at hl 1 rfl) ?_
        refine gf_X2_9 hE hP (38) (gC_38 E a I tr) (v := .ref (a 19)) rfl dX2_endOf_36 ?_
        refine lv_iload hx hb dX2_endOf_39 (lv_at hl 0 rfl) ?_
        refine ald_i hE hP (39) (gC_39 E a I tr) (by omega) (by decide) (r := nI (I (40) (ioC (I 44 0) (o) (i)))) rfl dX2_endOf_41 ?_
        refine lv_iload_n hx hb dX2_endOf_42 rfl (lv_at hl 3 rfl) ?_
        refine bN_eq (tgt := 61) hx hb (by omega) (by omega) dX2_endOf_43 (by decide) (fun c43 => ?_) (fun c43 => ?_)
        · refine lv_aload_n hx hb dX2_endOf_61 rfl (lv_at hl 1 rfl) ?_
          refine gf_X2_9 hE hP (38) (gC_38 E a I tr) (v := .ref (a 19)) rfl dX2_endOf_62 ?_
          refine lv_iload hx hb dX2_endOf_65 (lv_at hl 0 rfl) ?_
          refine ald_i hE hP (39) (gC_39 E a I tr) (by omega) (by decide) (r := nI (I (40) (ioC (I 44 0) (o) (i)))) rfl dX2_endOf_67 ?_
          refine lv_istore_n (lv' := [(3, .int (nI (I (40) (ioC (I 44 0) (o) (i))))), (6, .int (nI (ioC (I 44 0) (o) (i)))), (0, .ref (a 5)), (1, .int (nI (o))), (4, .int (nI (t))), (5, .int (nI (i)))]) hx hb dX2_endOf_68 rfl hl (by decide) rfl (fun ls hl => ?_)
          refine lv_aload_n hx hb dX2_endOf_69 rfl (lv_at hl 2 rfl) ?_
          refine lv_iload hx hb dX2_endOf_70 (lv_at hl 1 rfl) ?_
          refine lv_iload hx hb dX2_endOf_72 (lv_at hl 4 rfl) ?_
          refine call_V (As := [.int (nI (ioC (I 44 0) (o) (i))), .int (nI (t))]) (rest := []) hE (ct_X2_beginOf l E a I tr (ioC (I 44 0) (o) (i)) (t) hI hEK (by omega) (by omega)) cm_X2_beginOf (uw mt_L_X2_63 rfl) (gC_38 E a I tr) rfl rfl hP hD hS hl.1 rfl rfl (Nat.le_of_ble_eq_true rfl) ⟨by decide, by decide⟩ dX2_endOf_74 (fun H locs hP hD hS => ?_)
          refine W.eq (g2 := F0 m 77 ls [.int (rN (btC (shC I (I 40 (ioC (I 44 0) (o) (i)))) (I 41 (ioC (I 44 0) (o) (i))) (I 42 (ioC (I 44 0) (o) (i))) (t)))]) rfl ?_
          have hb2 := btC_le (shC I (I 40 (ioC (I 44 0) (o) (i)))) (I 41 (ioC (I 44 0) (o) (i))) (I 42 (ioC (I 44 0) (o) (i))) (t)
          refine lv_istore (lv' := [(7, .int (rN (btC (shC I (I 40 (ioC (I 44 0) (o) (i)))) (I 41 (ioC (I 44 0) (o) (i))) (I 42 (ioC (I 44 0) (o) (i))) (t)))), (3, .int (nI (I (40) (ioC (I 44 0) (o) (i))))), (6, .int (nI (ioC (I 44 0) (o) (i)))), (0, .ref (a 5)), (1, .int (nI (o))), (4, .int (nI (t))), (5, .int (nI (i)))]) hx hb dX2_endOf_77 hl (by decide) rfl (fun ls hl => ?_)
          refine lv_iload hx hb dX2_endOf_79 (lv_at hl 0 rfl) ?_
          refine lv_bipush (v := (-9)) hx hb dX2_endOf_81 (by decide) ?_
          refine bQ9_eq (tgt := 101) hx hb (by omega) dX2_endOf_83 (by decide) (fun c83 => ?_) (fun c83 => ?_)
          · refine lv_bipush (v := (-9)) hx hb dX2_endOf_101 (by decide) ?_
            exact ret_i hE (r := (-9)) (by obtain ⟨k, hk⟩ : ∃ k, I 44 0 - i = k + 1 := ⟨I 44 0 - i - 1, by omega⟩; rw [hq, hk]; first | rw [enK_0 (f := shC I) (w := I 14 0) (hs := I 40) (fr := I 41) (to := I 42) (st := I 43) (r := ioC (I 44 0) o) (i := i) (q := pl) (t := t) (k := k) (by first | rw [if_pos c43] | rw [if_neg c43]) c83, rN_0] | rw [enK_1 (f := shC I) (w := I 14 0) (hs := I 40) (fr := I 41) (to := I 42) (st := I 43) (r := ioC (I 44 0) o) (i := i) (q := pl) (t := t) (k := k) (by first | rw [if_pos c43] | rw [if_neg c43]) c98, rN_0]) hP hD hS dX2_endOf_103
          · rw [rN_pos ((btC_pos c83).1)] at hl
            refine lv_iload hx hb dX2_endOf_86 (lv_at hl 0 rfl) ?_
            refine lv_aload_n hx hb dX2_endOf_88 rfl (lv_at hl 3 rfl) ?_
            refine gf_X2_21 hE hP (38) (gC_38 E a I tr) (v := .ref (a 22)) rfl dX2_endOf_89 ?_
            refine lv_iload hx hb dX2_endOf_92 (lv_at hl 2 rfl) ?_
            refine ald_i hE hP (42) (gC_42 E a I tr) (by omega) (by decide) (r := nI (I (43) (ioC (I 44 0) (o) (i)))) rfl dX2_endOf_94 ?_
            refine lv_iadd hx hb dX2_endOf_95 ?_
            refine tp (nI_add _ _) ?_
            refine lv_bipush (v := nI (95)) hx hb dX2_endOf_96 (by decide) ?_
            refine bN_le (tgt := 104) hx hb (by omega) (by omega) dX2_endOf_98 (by decide) (fun c98 => ?_) (fun c98 => ?_)
            · refine lv_iload hx hb dX2_endOf_104 (lv_at hl 0 rfl) ?_
              refine lv_aload_n hx hb dX2_endOf_106 rfl (lv_at hl 3 rfl) ?_
              refine gf_X2_21 hE hP (38) (gC_38 E a I tr) (v := .ref (a 22)) rfl dX2_endOf_107 ?_
              refine lv_iload hx hb dX2_endOf_110 (lv_at hl 2 rfl) ?_
              refine ald_i hE hP (42) (gC_42 E a I tr) (by omega) (by decide) (r := nI (I (43) (ioC (I 44 0) (o) (i)))) rfl dX2_endOf_112 ?_
              refine lv_iadd hx hb dX2_endOf_113 ?_
              refine tp (nI_add _ _) ?_
              refine lv_istore (lv' := [(4, .int (nI (btC (shC I (I 40 (ioC (I 44 0) (o) (i)))) (I 41 (ioC (I 44 0) (o) (i))) (I 42 (ioC (I 44 0) (o) (i))) (t) - 9 + (I (43) (ioC (I 44 0) (o) (i)))))), (7, .int (nI (btC (shC I (I 40 (ioC (I 44 0) (o) (i)))) (I 41 (ioC (I 44 0) (o) (i))) (I 42 (ioC (I 44 0) (o) (i))) (t) - 9))), (3, .int (nI (I (40) (ioC (I 44 0) (o) (i))))), (6, .int (nI (ioC (I 44 0) (o) (i)))), (0, .ref (a 5)), (1, .int (nI (o))), (5, .int (nI (i)))]) hx hb dX2_endOf_114 hl (by decide) rfl (fun ls hl => ?_)
              refine lv_iinc (v := nI (i + 1)) (lv' := [(5, .int (nI (i + 1))), (4, .int (nI (btC (shC I (I 40 (ioC (I 44 0) (o) (i)))) (I 41 (ioC (I 44 0) (o) (i))) (I 42 (ioC (I 44 0) (o) (i))) (t) - 9 + (I (43) (ioC (I 44 0) (o) (i)))))), (7, .int (nI (btC (shC I (I 40 (ioC (I 44 0) (o) (i)))) (I 41 (ioC (I 44 0) (o) (i))) (I 42 (ioC (I 44 0) (o) (i))) (t) - 9))), (3, .int (nI (I (40) (ioC (I 44 0) (o) (i))))), (6, .int (nI (ioC (I 44 0) (o) (i)))), (0, .ref (a 5)), (1, .int (nI (o)))]) hx hb dX2_endOf_116 hl (k := 6) rfl (ii1_N _) (by decide) rfl (fun ls hl => ?_)
              refine lv_goto (tgt := 17) hx hb dX2_endOf_119 (by decide) ?_
              exact ih17 (I (40) (ioC (I 44 0) (o) (i))) (btC (shC I (I 40 (ioC (I 44 0) (o) (i)))) (I 41 (ioC (I 44 0) (o) (i))) (I 42 (ioC (I 44 0) (o) (i))) (t) - 9 + (I (43) (ioC (I 44 0) (o) (i)))) (i + 1) (by omega) (by omega) (by omega) (by omega) (by obtain ⟨k, hk⟩ : ∃ k, I 44 0 - i = k + 1 := ⟨I 44 0 - i - 1, by omega⟩; rw [hq, hk, enK_2 (f := shC I) (w := I 14 0) (hs := I 40) (fr := I 41) (to := I 42) (st := I 43) (r := ioC (I 44 0) o) (i := i) (q := pl) (t := t) (k := k) (by first | rw [if_pos c43] | rw [if_neg c43]) c83 c98, show I 44 0 - (i + 1) = k by omega]) ls _ _ (lv_sub hl [5, 6, 3, 1, 0] rfl) hP hD hS
            · refine lv_bipush (v := (-9)) hx hb dX2_endOf_101 (by decide) ?_
              exact ret_i hE (r := (-9)) (by obtain ⟨k, hk⟩ : ∃ k, I 44 0 - i = k + 1 := ⟨I 44 0 - i - 1, by omega⟩; rw [hq, hk]; first | rw [enK_0 (f := shC I) (w := I 14 0) (hs := I 40) (fr := I 41) (to := I 42) (st := I 43) (r := ioC (I 44 0) o) (i := i) (q := pl) (t := t) (k := k) (by first | rw [if_pos c43] | rw [if_neg c43]) c83, rN_0] | rw [enK_1 (f := shC I) (w := I 14 0) (hs := I 40) (fr := I 41) (to := I 42) (st := I 43) (r := ioC (I 44 0) o) (i := i) (q := pl) (t := t) (k := k) (by first | rw [if_pos c43] | rw [if_neg c43]) c98, rN_0]) hP hD hS dX2_endOf_103
        · refine lv_iload hx hb dX2_endOf_46 (lv_at hl 4 rfl) ?_
          refine lv_aload_n hx hb dX2_endOf_48 rfl (lv_at hl 1 rfl) ?_
          refine gf_X2_24 hE hP (38) (gC_38 E a I tr) (v := .ref (a 3)) rfl dX2_endOf_49 ?_
          refine gf_X2_54 hE hP (4) (gC_4 E a I tr) (v := .ref (a 11)) rfl dX2_endOf_52 ?_
          refine gf_X2_58 hE hP (10) (gC_10 E a I tr) (v := .int (nI (I (14) (0)))) rfl dX2_endOf_55 ?_
          refine lv_iadd hx hb dX2_endOf_58 ?_
          refine tp (nI_add _ _) ?_
          refine lv_istore (lv' := [(4, .int (nI (t + (I (14) (0))))), (6, .int (nI (ioC (I 44 0) (o) (i)))), (0, .ref (a 5)), (1, .int (nI (o))), (3, .int (nI (pl))), (5, .int (nI (i)))]) hx hb dX2_endOf_59 hl (by decide) rfl (fun ls hl => ?_)
          refine lv_aload_n hx hb dX2_endOf_61 rfl (lv_at hl 2 rfl) ?_
          refine gf_X2_9 hE hP (38) (gC_38 E a I tr) (v := .ref (a 19)) rfl dX2_endOf_62 ?_
          refine lv_iload hx hb dX2_endOf_65 (lv_at hl 1 rfl) ?_
          refine ald_i hE hP (39) (gC_39 E a I tr) (by omega) (by decide) (r := nI (I (40) (ioC (I 44 0) (o) (i)))) rfl dX2_endOf_67 ?_
          refine lv_istore_n (lv' := [(3, .int (nI (I (40) (ioC (I 44 0) (o) (i))))), (4, .int (nI (t + (I (14) (0))))), (6, .int (nI (ioC (I 44 0) (o) (i)))), (0, .ref (a 5)), (1, .int (nI (o))), (5, .int (nI (i)))]) hx hb dX2_endOf_68 rfl hl (by decide) rfl (fun ls hl => ?_)
          refine lv_aload_n hx hb dX2_endOf_69 rfl (lv_at hl 3 rfl) ?_
          refine lv_iload hx hb dX2_endOf_70 (lv_at hl 2 rfl) ?_
          refine lv_iload hx hb dX2_endOf_72 (lv_at hl 1 rfl) ?_
          refine call_V (As := [.int (nI (ioC (I 44 0) (o) (i))), .int (nI (t + (I (14) (0))))]) (rest := []) hE (ct_X2_beginOf l E a I tr (ioC (I 44 0) (o) (i)) (t + (I (14) (0))) hI hEK (by omega) (by omega)) cm_X2_beginOf (uw mt_L_X2_63 rfl) (gC_38 E a I tr) rfl rfl hP hD hS hl.1 rfl rfl (Nat.le_of_ble_eq_true rfl) ⟨by decide, by decide⟩ dX2_endOf_74 (fun H locs hP hD hS => ?_)
          refine W.eq (g2 := F0 m 77 ls [.int (rN (btC (shC I (I 40 (ioC (I 44 0) (o) (i)))) (I 41 (ioC (I 44 0) (o) (i))) (I 42 (ioC (I 44 0) (o) (i))) (t + (I (14) (0)))))]) rfl ?_
          have hb3 := btC_le (shC I (I 40 (ioC (I 44 0) (o) (i)))) (I 41 (ioC (I 44 0) (o) (i))) (I 42 (ioC (I 44 0) (o) (i))) (t + (I (14) (0)))
          refine lv_istore (lv' := [(7, .int (rN (btC (shC I (I 40 (ioC (I 44 0) (o) (i)))) (I 41 (ioC (I 44 0) (o) (i))) (I 42 (ioC (I 44 0) (o) (i))) (t + (I (14) (0)))))), (3, .int (nI (I (40) (ioC (I 44 0) (o) (i))))), (4, .int (nI (t + (I (14) (0))))), (6, .int (nI (ioC (I 44 0) (o) (i)))), (0, .ref (a 5)), (1, .int (nI (o))), (5, .int (nI (i)))]) hx hb dX2_endOf_77 hl (by decide) rfl (fun ls hl => ?_)
          refine lv_iload hx hb dX2_endOf_79 (lv_at hl 0 rfl) ?_
          refine lv_bipush (v := (-9)) hx hb dX2_endOf_81 (by decide) ?_
          refine bQ9_eq (tgt := 101) hx hb (by omega) dX2_endOf_83 (by decide) (fun c83 => ?_) (fun c83 => ?_)
          · refine lv_bipush (v := (-9)) hx hb dX2_endOf_101 (by decide) ?_
            exact ret_i hE (r := (-9)) (by obtain ⟨k, hk⟩ : ∃ k, I 44 0 - i = k + 1 := ⟨I 44 0 - i - 1, by omega⟩; rw [hq, hk]; first | rw [enK_0 (f := shC I) (w := I 14 0) (hs := I 40) (fr := I 41) (to := I 42) (st := I 43) (r := ioC (I 44 0) o) (i := i) (q := pl) (t := t) (k := k) (by first | rw [if_pos c43] | rw [if_neg c43]) c83, rN_0] | rw [enK_1 (f := shC I) (w := I 14 0) (hs := I 40) (fr := I 41) (to := I 42) (st := I 43) (r := ioC (I 44 0) o) (i := i) (q := pl) (t := t) (k := k) (by first | rw [if_pos c43] | rw [if_neg c43]) c98, rN_0]) hP hD hS dX2_endOf_103
          · rw [rN_pos ((btC_pos c83).1)] at hl
            refine lv_iload hx hb dX2_endOf_86 (lv_at hl 0 rfl) ?_
            refine lv_aload_n hx hb dX2_endOf_88 rfl (lv_at hl 4 rfl) ?_
            refine gf_X2_21 hE hP (38) (gC_38 E a I tr) (v := .ref (a 22)) rfl dX2_endOf_89 ?_
            refine lv_iload hx hb dX2_endOf_92 (lv_at hl 3 rfl) ?_
            refine ald_i hE hP (42) (gC_42 E a I tr) (by omega) (by decide) (r := nI (I (43) (ioC (I 44 0) (o) (i)))) rfl dX2_endOf_94 ?_
            refine lv_iadd hx hb dX2_endOf_95 ?_
            refine tp (nI_add _ _) ?_
            refine lv_bipush (v := nI (95)) hx hb dX2_endOf_96 (by decide) ?_
            refine bN_le (tgt := 104) hx hb (by omega) (by omega) dX2_endOf_98 (by decide) (fun c98 => ?_) (fun c98 => ?_)
            · refine lv_iload hx hb dX2_endOf_104 (lv_at hl 0 rfl) ?_
              refine lv_aload_n hx hb dX2_endOf_106 rfl (lv_at hl 4 rfl) ?_
              refine gf_X2_21 hE hP (38) (gC_38 E a I tr) (v := .ref (a 22)) rfl dX2_endOf_107 ?_
              refine lv_iload hx hb dX2_endOf_110 (lv_at hl 3 rfl) ?_
              refine ald_i hE hP (42) (gC_42 E a I tr) (by omega) (by decide) (r := nI (I (43) (ioC (I 44 0) (o) (i)))) rfl dX2_endOf_112 ?_
              refine lv_iadd hx hb dX2_endOf_113 ?_
              refine tp (nI_add _ _) ?_
              refine lv_istore (lv' := [(4, .int (nI (btC (shC I (I 40 (ioC (I 44 0) (o) (i)))) (I 41 (ioC (I 44 0) (o) (i))) (I 42 (ioC (I 44 0) (o) (i))) (t + (I (14) (0))) - 9 + (I (43) (ioC (I 44 0) (o) (i)))))), (7, .int (nI (btC (shC I (I 40 (ioC (I 44 0) (o) (i)))) (I 41 (ioC (I 44 0) (o) (i))) (I 42 (ioC (I 44 0) (o) (i))) (t + (I (14) (0))) - 9))), (3, .int (nI (I (40) (ioC (I 44 0) (o) (i))))), (6, .int (nI (ioC (I 44 0) (o) (i)))), (0, .ref (a 5)), (1, .int (nI (o))), (5, .int (nI (i)))]) hx hb dX2_endOf_114 hl (by decide) rfl (fun ls hl => ?_)
              refine lv_iinc (v := nI (i + 1)) (lv' := [(5, .int (nI (i + 1))), (4, .int (nI (btC (shC I (I 40 (ioC (I 44 0) (o) (i)))) (I 41 (ioC (I 44 0) (o) (i))) (I 42 (ioC (I 44 0) (o) (i))) (t + (I (14) (0))) - 9 + (I (43) (ioC (I 44 0) (o) (i)))))), (7, .int (nI (btC (shC I (I 40 (ioC (I 44 0) (o) (i)))) (I 41 (ioC (I 44 0) (o) (i))) (I 42 (ioC (I 44 0) (o) (i))) (t + (I (14) (0))) - 9))), (3, .int (nI (I (40) (ioC (I 44 0) (o) (i))))), (6, .int (nI (ioC (I 44 0) (o) (i)))), (0, .ref (a 5)), (1, .int (nI (o)))]) hx hb dX2_endOf_116 hl (k := 6) rfl (ii1_N _) (by decide) rfl (fun ls hl => ?_)
              refine lv_goto (tgt := 17) hx hb dX2_endOf_119 (by decide) ?_
              exact ih17 (I (40) (ioC (I 44 0) (o) (i))) (btC (shC I (I 40 (ioC (I 44 0) (o) (i)))) (I 41 (ioC (I 44 0) (o) (i))) (I 42 (ioC (I 44 0) (o) (i))) (t + (I (14) (0))) - 9 + (I (43) (ioC (I 44 0) (o) (i)))) (i + 1) (by omega) (by omega) (by omega) (by omega) (by obtain ⟨k, hk⟩ : ∃ k, I 44 0 - i = k + 1 := ⟨I 44 0 - i - 1, by omega⟩; rw [hq, hk, enK_2 (f := shC I) (w := I 14 0) (hs := I 40) (fr := I 41) (to := I 42) (st := I 43) (r := ioC (I 44 0) o) (i := i) (q := pl) (t := t) (k := k) (by first | rw [if_pos c43] | rw [if_neg c43]) c83 c98, show I 44 0 - (i + 1) = k by omega]) ls _ _ (lv_sub hl [5, 6, 3, 1, 0] rfl) hP hD hS
            · refine lv_bipush (v := (-9)) hx hb dX2_endOf_101 (by decide) ?_
              exact ret_i hE (r := (-9)) (by obtain ⟨k, hk⟩ : ∃ k, I 44 0 - i = k + 1 := ⟨I 44 0 - i - 1, by omega⟩; rw [hq, hk]; first | rw [enK_0 (f := shC I) (w := I 14 0) (hs := I 40) (fr := I 41) (to := I 42) (st := I 43) (r := ioC (I 44 0) o) (i := i) (q := pl) (t := t) (k := k) (by first | rw [if_pos c43] | rw [if_neg c43]) c83, rN_0] | rw [enK_1 (f := shC I) (w := I 14 0) (hs := I 40) (fr := I 41) (to := I 42) (st := I 43) (r := ioC (I 44 0) o) (i := i) (q := pl) (t := t) (k := k) (by first | rw [if_pos c43] | rw [if_neg c43]) c98, rN_0]) hP hD hS dX2_endOf_103
  exact loop17 (_ + 1) (h) (I (11) (0)) (0) (Nat.lt_succ_self _) (by omega) (by omega) (by omega) rfl ls _ _ (lv_sub hl [3, 4, 2, 1, 0] rfl) hP hD hS

set_option maxHeartbeats 4000000 in
set_option maxRecDepth 100000 in
theorem ct_X2_soonestOrder (l : Launch) (E : cE) (a : Nat → Nat) (I : Nat → Nat → Nat) (tr : Int64) (h : Nat) (hI : CK I) (hEK : EK I) (hh : h < 6) : Ct l E 4 yX2_soonestOrder cX2_soonestOrder 6 (some .int) [.ref (a 5), .int (nI (h))] (WC E a I tr) (some (.int (rN (pb (soC I h) (2 ^ (2 * I 44 0))).1))) (WC E a I tr) := by
  refine Ct_of (plainFor_of_name (by decide)) (Nat.le_of_ble_eq_true rfl) ?_
  intro p e s m args below meth c A ls hE hP hD hS hl
  have hE : cEnv p s m args meth c E RX2 cX2_soonestOrder 6 (some .int) A := hE
  have hx := hE.1
  have hb := hE.2.1
  have hl : lv_has ls 6 [(0, .ref (a 5)), (1, .int (nI (h)))] := hl
  have hP : va_P E.1 vwCl (WC E a I tr) s.heap := hP
  generalize hH : s.heap = H at hP hS ⊢
  have hS : va_S A s.heap H [] := by rw [hH]; exact hS
  clear hH
  have hc4 := hEK.1
  have hp4 := p4 (I 44 0) hc4
  have hnow := hI.2.2.1
  refine lv_bipush (v := (-9)) hx hb dX2_soonestOrder_0 (by decide) ?_
  refine tp (show (-9 : Int32) = rN 0 by decide) ?_
  refine lv_istore_n (lv' := [(2, .int (rN (0))), (0, .ref (a 5)), (1, .int (nI (h)))]) hx hb dX2_soonestOrder_2 rfl hl (by decide) rfl (fun ls hl => ?_)
  refine lv_bipush (v := nI (96)) hx hb dX2_soonestOrder_3 (by decide) ?_
  refine lv_istore_n (lv' := [(3, .int (nI (96))), (2, .int (rN (0))), (0, .ref (a 5)), (1, .int (nI (h)))]) hx hb dX2_soonestOrder_5 rfl hl (by decide) rfl (fun ls hl => ?_)
  refine lv_iconst (v := nI (0)) hx hb dX2_soonestOrder_6 (by decide) ?_
  refine lv_istore (lv' := [(4, .int (nI (0))), (3, .int (nI (96))), (2, .int (rN (0))), (0, .ref (a 5)), (1, .int (nI (h)))]) hx hb dX2_soonestOrder_7 hl (by decide) rfl (fun ls hl => ?_)
  have loop9 : ∀ (fu9 : Nat) (be : Nat) (le : Nat) (o : Nat), 2 ^ (2 * I 44 0) - o < fu9 → (o ≤ 2 ^ (2 * I 44 0)) → (pbC (soC I h) o be le) → ∀ (ls : Array Slot) (H : Heap) (locs : List Loc), lv_has ls 6 [(0, .ref (a 5)), (1, .int (nI (h))), (2, .int (rN (be))), (3, .int (nI (le))), (4, .int (nI (o)))] → va_P E.1 vwCl (WC E a I tr) H → va_D A (WC E a I tr) → va_S A s.heap H locs → W p l e (rmL 4) s m args below meth c H locs 0 0 (RQ E below args s A (some (.int (rN (pb (soC I h) (2 ^ (2 * I 44 0))).1))) (WC E a I tr)) (F0 m 9 ls []) := by
    intro fu9
    induction fu9 with
    | zero => intro be le o h; exact absurd h (Nat.not_lt_zero _)
    | succ fu9 ih9 =>
      intro be le o hfu9 ho hp ls H locs hl hP hD hS
      have hle : le ≤ 96 := by have h := hp.2.1; split at h <;> have := hp.2.2.1 <;> omega
      have hbe : be ≤ o + 9 := by rw [hp.1]; exact hp.2.2.2
      refine lv_iload hx hb dX2_soonestOrder_9 (lv_at hl 4 rfl) ?_
      refine lv_iconst (v := nI (1)) hx hb dX2_soonestOrder_11 (by decide) ?_
      refine lv_iconst (v := nI (2)) hx hb dX2_soonestOrder_12 (by decide) ?_
      refine lv_aload_n hx hb dX2_soonestOrder_13 rfl (lv_at hl 0 rfl) ?_
      refine gf_X2_28 hE hP (38) (gC_38 E a I tr) (v := .int (nI (I (44) (0)))) rfl dX2_soonestOrder_14 ?_
      refine lv_imul hx hb dX2_soonestOrder_17 ?_
      refine tp (pk_mul _ _) ?_
      refine lv_ishl hx hb dX2_soonestOrder_18 ?_
      refine tp (nI_pow (k := (2) * (I (44) (0))) (by omega)) ?_
      refine bN_ge (tgt := 70) hx hb (by omega) (by omega) dX2_soonestOrder_19 (by decide) (fun c19 => ?_) (fun c19 => ?_)
      · refine lv_iload_n hx hb dX2_soonestOrder_70 rfl (lv_at hl 2 rfl) ?_
        exact ret_i hE (r := rN (be)) (by rw [hp.1, show 2 ^ (2 * I 44 0) = o by omega]) hP hD hS dX2_soonestOrder_71
      · refine lv_aload_n hx hb dX2_soonestOrder_22 rfl (lv_at hl 0 rfl) ?_
        refine lv_iload hx hb dX2_soonestOrder_23 (lv_at hl 4 rfl) ?_
        refine call_V (As := [.int (nI (o))]) (rest := []) hE (ct_X2_isOrder l E a I tr (o) hc4 (by omega)) cm_X2_isOrder (uw mt_L_X2_32 rfl) (gC_38 E a I tr) rfl rfl hP hD hS hl.1 rfl rfl (Nat.le_of_ble_eq_true rfl) ⟨by decide, by decide⟩ dX2_soonestOrder_25 (fun H locs hP hD hS => ?_)
        refine W.eq (g2 := F0 m 28 ls [.int (bB (oC (I 44 0) (o)))]) rfl ?_
        refine bB_eq (tgt := 41) hx hb dX2_soonestOrder_28 (by decide) (fun c28 => ?_) (fun c28 => ?_)
        · refine lv_bipush (v := (-9)) hx hb dX2_soonestOrder_41 (by decide) ?_
          refine tp (show (-9 : Int32) = rN 0 by decide) ?_
          refine lv_istore (lv' := [(5, .int (rN (0))), (0, .ref (a 5)), (1, .int (nI (h))), (2, .int (rN (be))), (3, .int (nI (le))), (4, .int (nI (o)))]) hx hb dX2_soonestOrder_43 hl (by decide) rfl (fun ls hl => ?_)
          refine lv_iload hx hb dX2_soonestOrder_45 (lv_at hl 0 rfl) ?_
          refine lv_bipush (v := (-9)) hx hb dX2_soonestOrder_47 (by decide) ?_
          refine bQ9_eq (tgt := 64) hx hb (by omega) dX2_soonestOrder_49 (by decide) (fun c49 => ?_) (fun c49 => absurd c49 (by omega))
          refine lv_iinc (v := nI (o + 1)) (lv' := [(4, .int (nI (o + 1))), (5, .int (rN (0))), (0, .ref (a 5)), (1, .int (nI (h))), (2, .int (rN (be))), (3, .int (nI (le)))]) hx hb dX2_soonestOrder_64 hl (k := 5) rfl (ii1_N _) (by decide) rfl (fun ls hl => ?_)
          refine lv_goto (tgt := 9) hx hb dX2_soonestOrder_67 (by decide) ?_
          exact ih9 (be) (le) (o + 1) (by omega) (by omega) (by first | exact pbC_0 (S := soC I h) hp (by rw [soC, if_neg (by rw [c28]; decide)]) | exact pbC_0 (S := soC I h) hp (by rw [hso]; exact c49) | exact pbC_s (S := soC I h) hp (by rw [hso]; exact c55) (by rw [hso]; exact hsl) | (have z := pbC_t (S := soC I h) hp (soC_ge (by rw [hso]; exact c49)) (by rw [hso]; exact c55) (by rw [hso]; exact hsl); rw [hso] at z; exact z)) ls _ _ (lv_sub hl [2, 3, 4, 5, 0] rfl) hP hD hS
        · refine lv_aload_n hx hb dX2_soonestOrder_31 rfl (lv_at hl 0 rfl) ?_
          refine lv_iload hx hb dX2_soonestOrder_32 (lv_at hl 4 rfl) ?_
          refine lv_iload_n hx hb dX2_soonestOrder_34 rfl (lv_at hl 1 rfl) ?_
          refine call_V (As := [.int (nI (o)), .int (nI (h))]) (rest := []) hE (ct_X2_endOf l E a I tr (o) (h) hI hEK (by omega) (oC_lt c28) hh) cm_X2_endOf (uw mt_L_X2_36 rfl) (gC_38 E a I tr) rfl rfl hP hD hS hl.1 rfl rfl (Nat.le_of_ble_eq_true rfl) ⟨by decide, by decide⟩ dX2_soonestOrder_35 (fun H locs hP hD hS => ?_)
          refine W.eq (g2 := F0 m 38 ls [.int (rN (enC I (ioC (I 44 0) (o)) (h)))]) rfl ?_
          have hso : soC I h o = enC I (ioC (I 44 0) o) h := if_pos c28
          have hsl := soC_le (I := I) (h := h) (o := o) hnow
          rw [hso] at hsl
          refine lv_goto (tgt := 43) hx hb dX2_soonestOrder_38 (by decide) ?_
          refine lv_istore (lv' := [(5, .int (rN (enC I (ioC (I 44 0) (o)) (h)))), (0, .ref (a 5)), (1, .int (nI (h))), (2, .int (rN (be))), (3, .int (nI (le))), (4, .int (nI (o)))]) hx hb dX2_soonestOrder_43 hl (by decide) rfl (fun ls hl => ?_)
          refine lv_iload hx hb dX2_soonestOrder_45 (lv_at hl 0 rfl) ?_
          refine lv_bipush (v := (-9)) hx hb dX2_soonestOrder_47 (by decide) ?_
          refine bQ9_eq (tgt := 64) hx hb (by omega) dX2_soonestOrder_49 (by decide) (fun c49 => ?_) (fun c49 => ?_)
          · refine lv_iinc (v := nI (o + 1)) (lv' := [(4, .int (nI (o + 1))), (5, .int (rN (enC I (ioC (I 44 0) (o)) (h)))), (0, .ref (a 5)), (1, .int (nI (h))), (2, .int (rN (be))), (3, .int (nI (le)))]) hx hb dX2_soonestOrder_64 hl (k := 5) rfl (ii1_N _) (by decide) rfl (fun ls hl => ?_)
            refine lv_goto (tgt := 9) hx hb dX2_soonestOrder_67 (by decide) ?_
            exact ih9 (be) (le) (o + 1) (by omega) (by omega) (by first | exact pbC_0 (S := soC I h) hp (by rw [soC, if_neg (by rw [c28]; decide)]) | exact pbC_0 (S := soC I h) hp (by rw [hso]; exact c49) | exact pbC_s (S := soC I h) hp (by rw [hso]; exact c55) (by rw [hso]; exact hsl) | (have z := pbC_t (S := soC I h) hp (soC_ge (by rw [hso]; exact c49)) (by rw [hso]; exact c55) (by rw [hso]; exact hsl); rw [hso] at z; exact z)) ls _ _ (lv_sub hl [2, 3, 4, 5, 0] rfl) hP hD hS
          · refine lv_iload hx hb dX2_soonestOrder_52 (lv_at hl 0 rfl) ?_
            refine lv_iload_n hx hb dX2_soonestOrder_54 rfl (lv_at hl 4 rfl) ?_
            refine tp (rN_9 (le)).symm ?_
            refine bQ_ge (tgt := 64) hx hb (by omega) (by omega) dX2_soonestOrder_55 (by decide) (fun c55 => ?_) (fun c55 => ?_)
            · refine lv_iinc (v := nI (o + 1)) (lv' := [(4, .int (nI (o + 1))), (5, .int (rN (enC I (ioC (I 44 0) (o)) (h)))), (0, .ref (a 5)), (1, .int (nI (h))), (2, .int (rN (be))), (3, .int (nI (le)))]) hx hb dX2_soonestOrder_64 hl (k := 5) rfl (ii1_N _) (by decide) rfl (fun ls hl => ?_)
              refine lv_goto (tgt := 9) hx hb dX2_soonestOrder_67 (by decide) ?_
              exact ih9 (be) (le) (o + 1) (by omega) (by omega) (by first | exact pbC_0 (S := soC I h) hp (by rw [soC, if_neg (by rw [c28]; decide)]) | exact pbC_0 (S := soC I h) hp (by rw [hso]; exact c49) | exact pbC_s (S := soC I h) hp (by rw [hso]; exact c55) (by rw [hso]; exact hsl) | (have z := pbC_t (S := soC I h) hp (soC_ge (by rw [hso]; exact c49)) (by rw [hso]; exact c55) (by rw [hso]; exact hsl); rw [hso] at z; exact z)) ls _ _ (lv_sub hl [2, 3, 4, 5, 0] rfl) hP hD hS
            · refine lv_iload hx hb dX2_soonestOrder_58 (lv_at hl 0 rfl) ?_
              refine tp (rN_pos ((hso ▸ soC_ge (by rw [hso]; exact c49)))) ?_
              refine lv_istore_n (lv' := [(3, .int (nI (enC I (ioC (I 44 0) (o)) (h) - 9))), (5, .int (rN (enC I (ioC (I 44 0) (o)) (h)))), (0, .ref (a 5)), (1, .int (nI (h))), (2, .int (rN (be))), (4, .int (nI (o)))]) hx hb dX2_soonestOrder_60 rfl hl (by decide) rfl (fun ls hl => ?_)
              refine lv_iload hx hb dX2_soonestOrder_61 (lv_at hl 5 rfl) ?_
              refine tp (rN_9 (o)).symm ?_
              refine lv_istore_n (lv' := [(2, .int (rN (o + 9))), (3, .int (nI (enC I (ioC (I 44 0) (o)) (h) - 9))), (5, .int (rN (enC I (ioC (I 44 0) (o)) (h)))), (0, .ref (a 5)), (1, .int (nI (h))), (4, .int (nI (o)))]) hx hb dX2_soonestOrder_63 rfl hl (by decide) rfl (fun ls hl => ?_)
              refine lv_iinc (v := nI (o + 1)) (lv' := [(4, .int (nI (o + 1))), (2, .int (rN (o + 9))), (3, .int (nI (enC I (ioC (I 44 0) (o)) (h) - 9))), (5, .int (rN (enC I (ioC (I 44 0) (o)) (h)))), (0, .ref (a 5)), (1, .int (nI (h)))]) hx hb dX2_soonestOrder_64 hl (k := 5) rfl (ii1_N _) (by decide) rfl (fun ls hl => ?_)
              refine lv_goto (tgt := 9) hx hb dX2_soonestOrder_67 (by decide) ?_
              exact ih9 (o + 9) (enC I (ioC (I 44 0) (o)) (h) - 9) (o + 1) (by omega) (by omega) (by first | exact pbC_0 (S := soC I h) hp (by rw [soC, if_neg (by rw [c28]; decide)]) | exact pbC_0 (S := soC I h) hp (by rw [hso]; exact c49) | exact pbC_s (S := soC I h) hp (by rw [hso]; exact c55) (by rw [hso]; exact hsl) | (have z := pbC_t (S := soC I h) hp (soC_ge (by rw [hso]; exact c49)) (by rw [hso]; exact c55) (by rw [hso]; exact hsl); rw [hso] at z; exact z)) ls _ _ (lv_sub hl [4, 5, 1, 2, 0] rfl) hP hD hS
  exact loop9 (_ + 1) (0) (96) (0) (Nat.lt_succ_self _) (Nat.zero_le _) (pbC_z _) ls _ _ (lv_sub hl [3, 4, 2, 1, 0] rfl) hP hD hS
