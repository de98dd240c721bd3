set_option maxHeartbeats 4000000 in
set_option maxRecDepth 100000 in
theorem ct_X1_add (l : Launch) (E : cE) (a : Nat → Nat) (I : Nat → Nat → Nat) (tr : Int64) (x y n : Nat) (hc : I 55 0 < 8) : Ct l E 0 yX1_add cX1_add 4 none [.ref (a 7), .int (nI (x)), .int (nI (y)), .int (nI (n))] (WC E a I tr) none (WC E a (up2 (up2 (up2 (up2 I 50 (I 55 0) x) 51 (I 55 0) y) 52 (I 55 0) n) 55 0 (I 55 0 + 1)) tr) := by
  refine Ct_of (plainFor_of_name (by decide)) (Nat.le_of_ble_eq_true rfl) ?_
  intro p e s m args below meth c A ls hE hP hD hS hl
  have hE : cEnv p s m args meth c E RX1 cX1_add 4 none A := hE
  have hx := hE.1
  have hb := hE.2.1
  have hl : lv_has ls 4 [(0, .ref (a 7)), (1, .int (nI (x))), (2, .int (nI (y))), (3, .int (nI (n)))] := hl
  have hP : va_P E.1 vwCl (WC E a I tr) s.heap := hP
  generalize hH : s.heap = H at hP hS ⊢
  have hS : va_S A s.heap H [] := by rw [hH]; exact hS
  clear hH
  refine lv_aload_n hx hb dX1_add_0 rfl (lv_at hl 0 rfl) ?_
  refine gf_X1_31 hE hP (46) (gC_46 E a I tr) (v := .int (nI (I (55) (0)))) rfl dX1_add_1 ?_
  refine lv_bipush (v := nI (8)) hx hb dX1_add_4 (by decide) ?_
  refine bN_ge (tgt := 49) hx hb (by omega) (by omega) dX1_add_6 (by decide) (fun c6 => absurd c6 (by omega)) (fun c6 => ?_)
  refine lv_aload_n hx hb dX1_add_9 rfl (lv_at hl 0 rfl) ?_
  refine gf_X1_9 hE hP (46) (gC_46 E a I tr) (v := .ref (a 25)) rfl dX1_add_10 ?_
  refine lv_aload_n hx hb dX1_add_13 rfl (lv_at hl 0 rfl) ?_
  refine gf_X1_31 hE hP (46) (gC_46 E a I tr) (v := .int (nI (I (55) (0)))) rfl dX1_add_14 ?_
  refine lv_iload_n hx hb dX1_add_17 rfl (lv_at hl 1 rfl) ?_
  refine ast_i hE hP hD hS (47) (gC_47 E a I tr) (by omega) (by decide) (sC_47 E a I tr (I (55) (0)) (x)) dX1_add_18 (fun H locs hP hD hS => ?_)
  refine lv_aload_n hx hb dX1_add_19 rfl (lv_at hl 0 rfl) ?_
  refine gf_X1_15 hE hP (46) (gC_46 E a (up2 I (50) (I (55) (0)) (x)) tr) (v := .ref (a 26)) rfl dX1_add_20 ?_
  refine lv_aload_n hx hb dX1_add_23 rfl (lv_at hl 0 rfl) ?_
  refine gf_X1_31 hE hP (46) (gC_46 E a (up2 I (50) (I (55) (0)) (x)) tr) (v := .int (nI (I (55) (0)))) rfl dX1_add_24 ?_
  refine lv_iload_n hx hb dX1_add_27 rfl (lv_at hl 2 rfl) ?_
  refine ast_i hE hP hD hS (48) (gC_48 E a (up2 I (50) (I (55) (0)) (x)) tr) (by omega) (by decide) (sC_48 E a (up2 I (50) (I (55) (0)) (x)) tr (I (55) (0)) (y)) dX1_add_28 (fun H locs hP hD hS => ?_)
  refine lv_aload_n hx hb dX1_add_29 rfl (lv_at hl 0 rfl) ?_
  refine gf_X1_18 hE hP (46) (gC_46 E a (up2 (up2 I (50) (I (55) (0)) (x)) (51) (I (55) (0)) (y)) tr) (v := .ref (a 27)) rfl dX1_add_30 ?_
  refine lv_aload_n hx hb dX1_add_33 rfl (lv_at hl 0 rfl) ?_
  refine gf_X1_31 hE hP (46) (gC_46 E a (up2 (up2 I (50) (I (55) (0)) (x)) (51) (I (55) (0)) (y)) tr) (v := .int (nI (I (55) (0)))) rfl dX1_add_34 ?_
  refine lv_iload_n hx hb dX1_add_37 rfl (lv_at hl 3 rfl) ?_
  refine ast_i hE hP hD hS (49) (gC_49 E a (up2 (up2 I (50) (I (55) (0)) (x)) (51) (I (55) (0)) (y)) tr) (by omega) (by decide) (sC_49 E a (up2 (up2 I (50) (I (55) (0)) (x)) (51) (I (55) (0)) (y)) tr (I (55) (0)) (n)) dX1_add_38 (fun H locs hP hD hS => ?_)
  refine lv_aload_n hx hb dX1_add_39 rfl (lv_at hl 0 rfl) ?_
  refine lv_dup hx hb dX1_add_40 rfl ?_
  refine gf_X1_31 hE hP (46) (gC_46 E a (up2 (up2 (up2 I (50) (I (55) (0)) (x)) (51) (I (55) (0)) (y)) (52) (I (55) (0)) (n)) tr) (v := .int (nI (I (55) (0)))) rfl dX1_add_41 ?_
  refine lv_iconst (v := nI (1)) hx hb dX1_add_44 (by decide) ?_
  refine lv_iadd hx hb dX1_add_45 ?_
  refine tp (nI_add _ _) ?_
  refine pf_X1_31 hE hP hD hS (46) (gC_46 E a (up2 (up2 (up2 I (50) (I (55) (0)) (x)) (51) (I (55) (0)) (y)) (52) (I (55) (0)) (n)) tr) rfl rfl (Nat.le_of_ble_eq_true rfl) (sC_46_6 E a (up2 (up2 (up2 I (50) (I (55) (0)) (x)) (51) (I (55) (0)) (y)) (52) (I (55) (0)) (n)) tr (I (55) (0) + 1)) dX1_add_46 (fun H locs hP hD hS => ?_)
  exact ret_v hE rfl hP hD hS dX1_add_49

set_option maxHeartbeats 4000000 in
set_option maxRecDepth 100000 in
theorem ct_X1_quarterOf (l : Launch) (E : cE) (a : Nat → Nat) (I : Nat → Nat → Nat) (tr : Int64) (k : Nat) (hI : CK I) (hD7 : DK I) (hk : k < I 55 0) : Ct l E 2 yX1_quarterOf cX1_quarterOf 2 (some .int) [.ref (a 7), .int (nI (k))] (WC E a I tr) (some (.int (rN (quE I k)))) (WC E a I tr) := by
  refine Ct_of (plainFor_of_name (by decide)) (Nat.le_of_ble_eq_true rfl) ?_
  intro p e s m args below meth c A ls hE hP hD hS hl
  have hE : cEnv p s m args meth c E RX1 cX1_quarterOf 2 (some .int) A := hE
  have hx := hE.1
  have hb := hE.2.1
  have hl : lv_has ls 2 [(0, .ref (a 7)), (1, .int (nI (k)))] := hl
  have hP : va_P E.1 vwCl (WC E a I tr) s.heap := hP
  generalize hH : s.heap = H at hP hS ⊢
  have hS : va_S A s.heap H [] := by rw [hH]; exact hS
  clear hH
  have hc8 := hD7.1
  have hd := hD7.2 k hk
  refine lv_aload_n hx hb dX1_quarterOf_0 rfl (lv_at hl 0 rfl) ?_
  refine gf_X1_27 hE hP (46) (gC_46 E a I tr) (v := .ref (a 3)) rfl dX1_quarterOf_1 ?_
  refine lv_aload_n hx hb dX1_quarterOf_4 rfl (lv_at hl 0 rfl) ?_
  refine gf_X1_15 hE hP (46) (gC_46 E a I tr) (v := .ref (a 26)) rfl dX1_quarterOf_5 ?_
  refine lv_iload_n hx hb dX1_quarterOf_8 rfl (lv_at hl 1 rfl) ?_
  refine ald_i hE hP (48) (gC_48 E a I tr) (by omega) (by decide) (r := nI (I (51) (k))) rfl dX1_quarterOf_9 ?_
  refine lv_aload_n hx hb dX1_quarterOf_10 rfl (lv_at hl 0 rfl) ?_
  refine gf_X1_18 hE hP (46) (gC_46 E a I tr) (v := .ref (a 27)) rfl dX1_quarterOf_11 ?_
  refine lv_iload_n hx hb dX1_quarterOf_14 rfl (lv_at hl 1 rfl) ?_
  refine ald_i hE hP (49) (gC_49 E a I tr) (by omega) (by decide) (r := nI (I (52) (k))) rfl dX1_quarterOf_15 ?_
  refine lv_iconst (v := nI (0)) hx hb dX1_quarterOf_16 (by decide) ?_
  refine call_V (As := [.int (nI (I (51) (k))), .int (nI (I (52) (k))), .int (nI (0))]) (rest := []) hE (ct_X0_firstFrom l E a I tr (I (51) (k)) (I (52) (k)) (0) (hI) (by omega) (by omega) (by omega)) cm_X0_firstFrom (uw mt_L_X1_35 rfl) (gC_4 E a I tr) rfl rfl hP hD hS hl.1 rfl rfl (Nat.le_of_ble_eq_true rfl) ⟨by decide, by decide⟩ dX1_quarterOf_17 (fun H locs hP hD hS => ?_)
  refine W.eq (g2 := F0 m 20 ls [.int (rN (fst (shC I (I (51) (k))) (I (52) (k)) (0)))]) rfl ?_
  have hf1 := fst_le (shC I (I (51) (k))) (I (52) (k)) (0)
  exact ret_i hE (r := rN (fst (shC I (I (51) (k))) (I (52) (k)) (0))) (rfl) hP hD hS dX1_quarterOf_20

set_option maxHeartbeats 4000000 in
set_option maxRecDepth 100000 in
theorem ct_X1_isFollowedBy (l : Launch) (E : cE) (a : Nat → Nat) (I : Nat → Nat → Nat) (tr : Int64) (k o : Nat) (hk : k < 8) (ho : o < 8) (h256 : I 54 k < 256) : Ct l E 0 yX1_isFollowedBy cX1_isFollowedBy 3 (some .boolean) [.ref (a 7), .int (nI (k)), .int (nI (o))] (WC E a I tr) (some (.int (bB (fbB (I 54) k o)))) (WC E a I tr) := by
  refine Ct_of (plainFor_of_name (by decide)) (Nat.le_of_ble_eq_true rfl) ?_
  intro p e s m args below meth c A ls hE hP hD hS hl
  have hE : cEnv p s m args meth c E RX1 cX1_isFollowedBy 3 (some .boolean) A := hE
  have hx := hE.1
  have hb := hE.2.1
  have hl : lv_has ls 3 [(0, .ref (a 7)), (1, .int (nI (k))), (2, .int (nI (o)))] := hl
  have hP : va_P E.1 vwCl (WC E a I tr) s.heap := hP
  generalize hH : s.heap = H at hP hS ⊢
  have hS : va_S A s.heap H [] := by rw [hH]; exact hS
  clear hH
  refine lv_aload_n hx hb dX1_isFollowedBy_0 rfl (lv_at hl 0 rfl) ?_
  refine gf_X1_24 hE hP (46) (gC_46 E a I tr) (v := .ref (a 29)) rfl dX1_isFollowedBy_1 ?_
  refine lv_iload_n hx hb dX1_isFollowedBy_4 rfl (lv_at hl 1 rfl) ?_
  refine ald_i hE hP (51) (gC_51 E a I tr) (by omega) (by decide) (r := nI (I (54) (k))) rfl dX1_isFollowedBy_5 ?_
  refine lv_iload_n hx hb dX1_isFollowedBy_6 rfl (lv_at hl 2 rfl) ?_
  refine lv_ishr hx hb dX1_isFollowedBy_7 ?_
  refine tp (nI_shr (by omega) (by omega)) ?_
  have hq := Nat.div_le_self (I 54 k) (2 ^ o)
  refine lv_iconst (v := nI (1)) hx hb dX1_isFollowedBy_8 (by decide) ?_
  refine lv_iand hx hb dX1_isFollowedBy_9 ?_
  refine tp (nI_and1 (by omega)) ?_
  refine bZ_eq (tgt := 17) hx hb (by omega) dX1_isFollowedBy_10 (by decide) (fun c10 => ?_) (fun c10 => ?_)
  · refine lv_iconst (v := nI (0)) hx hb dX1_isFollowedBy_17 (by decide) ?_
    exact ret_z hE (r := nI (0)) (by decide) (by rw [show fbB (I 54) k o = false from df (by omega)]; rfl) hP hD hS dX1_isFollowedBy_18
  · refine lv_iconst (v := nI (1)) hx hb dX1_isFollowedBy_13 (by decide) ?_
    refine lv_goto (tgt := 18) hx hb dX1_isFollowedBy_14 (by decide) ?_
    exact ret_z hE (r := nI (1)) (by decide) (by rw [show fbB (I 54) k o = true from dt (by omega)]; rfl) hP hD hS dX1_isFollowedBy_18

set_option maxHeartbeats 4000000 in
set_option maxRecDepth 100000 in
theorem ct_X1_canPrecede (l : Launch) (E : cE) (a : Nat → Nat) (I : Nat → Nat → Nat) (tr : Int64) (k n : Nat) (hk : k < 8) (hn : n < 8) (h1 : I 51 k < 6) (h2 : I 50 n < 6) (h3 : I 53 k ≤ 104) (h4 : I 53 n ≤ 104) : Ct l E 0 yX1_canPrecede cX1_canPrecede 3 (some .boolean) [.ref (a 7), .int (nI (k)), .int (nI (n))] (WC E a I tr) (some (.int (bB (cpB I k n)))) (WC E a I tr) := by
  refine Ct_of (plainFor_of_name (by decide)) (Nat.le_of_ble_eq_true rfl) ?_
  intro p e s m args below meth c A ls hE hP hD hS hl
  have hE : cEnv p s m args meth c E RX1 cX1_canPrecede 3 (some .boolean) A := hE
  have hx := hE.1
  have hb := hE.2.1
  have hl : lv_has ls 3 [(0, .ref (a 7)), (1, .int (nI (k))), (2, .int (nI (n)))] := hl
  have hP : va_P E.1 vwCl (WC E a I tr) s.heap := hP
  generalize hH : s.heap = H at hP hS ⊢
  have hS : va_S A s.heap H [] := by rw [hH]; exact hS
  clear hH
  refine lv_aload_n hx hb dX1_canPrecede_0 rfl (lv_at hl 0 rfl) ?_
  refine gf_X1_15 hE hP (46) (gC_46 E a I tr) (v := .ref (a 26)) rfl dX1_canPrecede_1 ?_
  refine lv_iload_n hx hb dX1_canPrecede_4 rfl (lv_at hl 1 rfl) ?_
  refine ald_i hE hP (48) (gC_48 E a I tr) (by omega) (by decide) (r := nI (I (51) (k))) rfl dX1_canPrecede_5 ?_
  refine lv_aload_n hx hb dX1_canPrecede_6 rfl (lv_at hl 0 rfl) ?_
  refine gf_X1_9 hE hP (46) (gC_46 E a I tr) (v := .ref (a 25)) rfl dX1_canPrecede_7 ?_
  refine lv_iload_n hx hb dX1_canPrecede_10 rfl (lv_at hl 2 rfl) ?_
  refine ald_i hE hP (47) (gC_47 E a I tr) (by omega) (by decide) (r := nI (I (50) (n))) rfl dX1_canPrecede_11 ?_
  refine bN_ne (tgt := 45) hx hb (by omega) (by omega) dX1_canPrecede_12 (by decide) (fun c12 => ?_) (fun c12 => ?_)
  · refine lv_iconst (v := nI (0)) hx hb dX1_canPrecede_45 (by decide) ?_
    exact ret_z hE (r := nI (0)) (by decide) (by first | (rw [show cpB I k n = false from by rw [cpB, df c12]; rfl]; rfl) | (rw [show cpB I k n = false from by rw [cpB, dt c12, df (show ¬ 0 < I 53 k by omega)]; rfl]; rfl) | (rw [show cpB I k n = false from by rw [cpB, dt c12, dt c23, df (show ¬ I 53 k < I 53 n by omega)]; rfl]; rfl)) hP hD hS dX1_canPrecede_46
  · refine lv_aload_n hx hb dX1_canPrecede_15 rfl (lv_at hl 0 rfl) ?_
    refine gf_X1_21 hE hP (46) (gC_46 E a I tr) (v := .ref (a 28)) rfl dX1_canPrecede_16 ?_
    refine lv_iload_n hx hb dX1_canPrecede_19 rfl (lv_at hl 1 rfl) ?_
    refine ald_i hE hP (50) (gC_50 E a I tr) (by omega) (by decide) (r := rN (I (53) (k))) rfl dX1_canPrecede_20 ?_
    refine lv_bipush (v := (-9)) hx hb dX1_canPrecede_21 (by decide) ?_
    refine bQ9_eq (tgt := 45) hx hb (by omega) dX1_canPrecede_23 (by decide) (fun c23 => ?_) (fun c23 => ?_)
    · refine lv_iconst (v := nI (0)) hx hb dX1_canPrecede_45 (by decide) ?_
      exact ret_z hE (r := nI (0)) (by decide) (by first | (rw [show cpB I k n = false from by rw [cpB, df c12]; rfl]; rfl) | (rw [show cpB I k n = false from by rw [cpB, dt c12, df (show ¬ 0 < I 53 k by omega)]; rfl]; rfl) | (rw [show cpB I k n = false from by rw [cpB, dt c12, dt c23, df (show ¬ I 53 k < I 53 n by omega)]; rfl]; rfl)) hP hD hS dX1_canPrecede_46
    · refine lv_aload_n hx hb dX1_canPrecede_26 rfl (lv_at hl 0 rfl) ?_
      refine gf_X1_21 hE hP (46) (gC_46 E a I tr) (v := .ref (a 28)) rfl dX1_canPrecede_27 ?_
      refine lv_iload_n hx hb dX1_canPrecede_30 rfl (lv_at hl 1 rfl) ?_
      refine ald_i hE hP (50) (gC_50 E a I tr) (by omega) (by decide) (r := rN (I (53) (k))) rfl dX1_canPrecede_31 ?_
      refine lv_aload_n hx hb dX1_canPrecede_32 rfl (lv_at hl 0 rfl) ?_
      refine gf_X1_21 hE hP (46) (gC_46 E a I tr) (v := .ref (a 28)) rfl dX1_canPrecede_33 ?_
      refine lv_iload_n hx hb dX1_canPrecede_36 rfl (lv_at hl 2 rfl) ?_
      refine ald_i hE hP (50) (gC_50 E a I tr) (by omega) (by decide) (r := rN (I (53) (n))) rfl dX1_canPrecede_37 ?_
      refine bQ_ge (tgt := 45) hx hb (by omega) (by omega) dX1_canPrecede_38 (by decide) (fun c38 => ?_) (fun c38 => ?_)
      · refine lv_iconst (v := nI (0)) hx hb dX1_canPrecede_45 (by decide) ?_
        exact ret_z hE (r := nI (0)) (by decide) (by first | (rw [show cpB I k n = false from by rw [cpB, df c12]; rfl]; rfl) | (rw [show cpB I k n = false from by rw [cpB, dt c12, df (show ¬ 0 < I 53 k by omega)]; rfl]; rfl) | (rw [show cpB I k n = false from by rw [cpB, dt c12, dt c23, df (show ¬ I 53 k < I 53 n by omega)]; rfl]; rfl)) hP hD hS dX1_canPrecede_46
      · refine lv_iconst (v := nI (1)) hx hb dX1_canPrecede_41 (by decide) ?_
        refine lv_goto (tgt := 46) hx hb dX1_canPrecede_42 (by decide) ?_
        exact ret_z hE (r := nI (1)) (by decide) (by rw [show cpB I k n = true from by rw [cpB, dt c12, dt c23, dt c38]; rfl]; rfl) hP hD hS dX1_canPrecede_46

set_option maxHeartbeats 4000000 in
set_option maxRecDepth 100000 in
theorem ct_X1_findNextOnes (l : Launch) (E : cE) (a : Nat → Nat) (I : Nat → Nat → Nat) (tr : Int64) (hI : CK I) (hD7 : DK I) : Ct l E 3 yX1_findNextOnes cX1_findNextOnes 3 none [.ref (a 7)] (WC E a I tr) none (WC E a (upA (upA I 53 (flF (I 53) (quE I) (I 55 0))) 54 (flF (I 54) (nxC I) (I 55 0))) tr) := by
  refine Ct_of (plainFor_of_name (by decide)) (Nat.le_of_ble_eq_true rfl) ?_
  intro p e s m args below meth c A ls hE hP hD hS hl
  have hE : cEnv p s m args meth c E RX1 cX1_findNextOnes 3 none A := hE
  have hx := hE.1
  have hb := hE.2.1
  have hl : lv_has ls 3 [(0, .ref (a 7))] := hl
  have hP : va_P E.1 vwCl (WC E a I tr) s.heap := hP
  generalize hH : s.heap = H at hP hS ⊢
  have hS : va_S A s.heap H [] := by rw [hH]; exact hS
  clear hH
  have hc8 := hD7.1
  have hF : ∀ j, j < I 55 0 → flF (I 53) (quE I) (I 55 0) j ≤ 104 := fun j hj => by unfold flF; rw [if_pos hj]; exact quE_le I j
  refine lv_iconst (v := nI (0)) hx hb dX1_findNextOnes_0 (by decide) ?_
  refine lv_istore_n (lv' := [(1, .int (nI (0))), (0, .ref (a 7))]) hx hb dX1_findNextOnes_1 rfl hl (by decide) rfl (fun ls hl => ?_)
  have loop2 : ∀ (fu2 : Nat) (k : Nat), I 55 0 - k < fu2 → (k ≤ I 55 0) → ∀ (ls : Array Slot) (H : Heap) (locs : List Loc), lv_has ls 3 [(0, .ref (a 7)), (1, .int (nI (k)))] → va_P E.1 vwCl (WC E a (upA I (53) (flF (I 53) (quE I) k)) tr) H → va_D A (WC E a (upA I (53) (flF (I 53) (quE I) k)) tr) → va_S A s.heap H locs → W p l e (rmL 3) s m args below meth c H locs 0 0 (RQ E below args s A none (WC E a (upA (upA I 53 (flF (I 53) (quE I) (I 55 0))) 54 (flF (I 54) (nxC I) (I 55 0))) tr)) (F0 m 2 ls []) := by
    intro fu2
    induction fu2 with
    | zero => intro k h; exact absurd h (Nat.not_lt_zero _)
    | succ fu2 ih2 =>
      intro k hfu2 hk ls H locs hl hP hD hS
      refine lv_iload_n hx hb dX1_findNextOnes_2 rfl (lv_at hl 1 rfl) ?_
      refine lv_aload_n hx hb dX1_findNextOnes_3 rfl (lv_at hl 0 rfl) ?_
      refine gf_X1_31 hE hP (46) (gC_46 E a (upA I (53) (flF (I 53) (quE I) k)) tr) (v := .int (nI (I (55) (0)))) rfl dX1_findNextOnes_4 ?_
      refine bN_ge (tgt := 27) hx hb (by omega) (by omega) dX1_findNextOnes_7 (by decide) (fun c7 => ?_) (fun c7 => ?_)
      · refine lv_iconst (v := nI (0)) hx hb dX1_findNextOnes_27 (by decide) ?_
        refine lv_istore_n (lv' := [(1, .int (nI (0))), (0, .ref (a 7))]) hx hb dX1_findNextOnes_28 rfl hl (by decide) rfl (fun ls hl => ?_)
        have loop29 : ∀ (fu29 : Nat) (k : Nat), I 55 0 - k < fu29 → (k ≤ I 55 0) → ∀ (ls : Array Slot) (H : Heap) (locs : List Loc), lv_has ls 3 [(0, .ref (a 7)), (1, .int (nI (k)))] → va_P E.1 vwCl (WC E a (upA (upA I (53) (flF (I 53) (quE I) (I 55 0))) (54) (flF (I 54) (nxC I) k)) tr) H → va_D A (WC E a (upA (upA I (53) (flF (I 53) (quE I) (I 55 0))) (54) (flF (I 54) (nxC I) k)) tr) → va_S A s.heap H locs → W p l e (rmL 3) s m args below meth c H locs 0 0 (RQ E below args s A none (WC E a (upA (upA I 53 (flF (I 53) (quE I) (I 55 0))) 54 (flF (I 54) (nxC I) (I 55 0))) tr)) (F0 m 29 ls []) := by
          intro fu29
          induction fu29 with
          | zero => intro k h; exact absurd h (Nat.not_lt_zero _)
          | succ fu29 ih29 =>
            intro k hfu29 hk ls H locs hl hP hD hS
            refine lv_iload_n hx hb dX1_findNextOnes_29 rfl (lv_at hl 1 rfl) ?_
            refine lv_aload_n hx hb dX1_findNextOnes_30 rfl (lv_at hl 0 rfl) ?_
            refine gf_X1_31 hE hP (46) (gC_46 E a (upA (upA I (53) (flF (I 53) (quE I) (I 55 0))) (54) (flF (I 54) (nxC I) k)) tr) (v := .int (nI (I (55) (0)))) rfl dX1_findNextOnes_31 ?_
            refine bN_ge (tgt := 87) hx hb (by omega) (by omega) dX1_findNextOnes_34 (by decide) (fun c34 => ?_) (fun c34 => ?_)
            · rw [show k = I 55 0 by omega] at hP hD
              exact ret_v hE rfl hP hD hS dX1_findNextOnes_87
            · refine lv_aload_n hx hb dX1_findNextOnes_37 rfl (lv_at hl 0 rfl) ?_
              refine gf_X1_24 hE hP (46) (gC_46 E a (upA (upA I (53) (flF (I 53) (quE I) (I 55 0))) (54) (flF (I 54) (nxC I) k)) tr) (v := .ref (a 29)) rfl dX1_findNextOnes_38 ?_
              refine lv_iload_n hx hb dX1_findNextOnes_41 rfl (lv_at hl 1 rfl) ?_
              refine lv_iconst (v := nI (0)) hx hb dX1_findNextOnes_42 (by decide) ?_
              refine ast_i hE hP hD hS (51) (gC_51 E a (upA (upA I (53) (flF (I 53) (quE I) (I 55 0))) (54) (flF (I 54) (nxC I) k)) tr) (by omega) (by decide) (sC_51 E a (upA (upA I (53) (flF (I 53) (quE I) (I 55 0))) (54) (flF (I 54) (nxC I) k)) tr (k) (0)) dX1_findNextOnes_43 (fun H locs hP hD hS => ?_)
              refine lv_iconst (v := nI (0)) hx hb dX1_findNextOnes_44 (by decide) ?_
              refine lv_istore_n (lv' := [(2, .int (nI (0))), (0, .ref (a 7)), (1, .int (nI (k)))]) hx hb dX1_findNextOnes_45 rfl hl (by decide) rfl (fun ls hl => ?_)
              have loop46 : ∀ (fu46 : Nat) (n : Nat), I 55 0 - n < fu46 → (n ≤ I 55 0) → ∀ (ls : Array Slot) (H : Heap) (locs : List Loc), lv_has ls 3 [(0, .ref (a 7)), (1, .int (nI (k))), (2, .int (nI (n)))] → va_P E.1 vwCl (WC E a (upA (upA I (53) (flF (I 53) (quE I) (I 55 0))) (54) (upN (flF (I 54) (nxC I) k) k (btU (cpC I k) n))) tr) H → va_D A (WC E a (upA (upA I (53) (flF (I 53) (quE I) (I 55 0))) (54) (upN (flF (I 54) (nxC I) k) k (btU (cpC I k) n))) tr) → va_S A s.heap H locs → W p l e (rmL 3) s m args below meth c H locs 0 0 (RQ E below args s A none (WC E a (upA (upA I 53 (flF (I 53) (quE I) (I 55 0))) 54 (flF (I 54) (nxC I) (I 55 0))) tr)) (F0 m 46 ls []) := by
                intro fu46
                induction fu46 with
                | zero => intro n h; exact absurd h (Nat.not_lt_zero _)
                | succ fu46 ih46 =>
                  intro n hfu46 hn ls H locs hl hP hD hS
                  have hbt := btU_256 (cpC I k) (h := n) (by omega)
                  refine lv_iload_n hx hb dX1_findNextOnes_46 rfl (lv_at hl 2 rfl) ?_
                  refine lv_aload_n hx hb dX1_findNextOnes_47 rfl (lv_at hl 0 rfl) ?_
                  refine gf_X1_31 hE hP (46) (gC_46 E a (upA (upA I (53) (flF (I 53) (quE I) (I 55 0))) (54) (upN (flF (I 54) (nxC I) k) k (btU (cpC I k) n))) tr) (v := .int (nI (I (55) (0)))) rfl dX1_findNextOnes_48 ?_
                  refine bN_ge (tgt := 81) hx hb (by omega) (by omega) dX1_findNextOnes_51 (by decide) (fun c51 => ?_) (fun c51 => ?_)
                  · refine lv_iinc (v := nI (k + 1)) (lv' := [(1, .int (nI (k + 1))), (0, .ref (a 7)), (2, .int (nI (n)))]) hx hb dX1_findNextOnes_81 hl (k := 1) rfl (ii1_N _) (by decide) rfl (fun ls hl => ?_)
                    refine lv_goto (tgt := 29) hx hb dX1_findNextOnes_84 (by decide) ?_
                    exact ih29 (k + 1) (by omega) (by omega) ls _ _ (lv_sub hl [1, 0] rfl) (by have hw : (upA (upA I (53) (flF (I 53) (quE I) (I 55 0))) (54) (upN (flF (I 54) (nxC I) k) k (btU (cpC I k) n))) = (upA (upA I (53) (flF (I 53) (quE I) (I 55 0))) (54) (flF (I 54) (nxC I) (k + 1))) := (by rw [show n = I 55 0 by omega]; exact congrArg (upA _ 54) (flF_s (I 54) (nxC I) k)); rw [hw] at hP; exact hP) (by have hw : (upA (upA I (53) (flF (I 53) (quE I) (I 55 0))) (54) (upN (flF (I 54) (nxC I) k) k (btU (cpC I k) n))) = (upA (upA I (53) (flF (I 53) (quE I) (I 55 0))) (54) (flF (I 54) (nxC I) (k + 1))) := (by rw [show n = I 55 0 by omega]; exact congrArg (upA _ 54) (flF_s (I 54) (nxC I) k)); rw [hw] at hD; exact hD) hS
                  · refine lv_aload_n hx hb dX1_findNextOnes_54 rfl (lv_at hl 0 rfl) ?_
                    refine lv_iload_n hx hb dX1_findNextOnes_55 rfl (lv_at hl 1 rfl) ?_
                    refine lv_iload_n hx hb dX1_findNextOnes_56 rfl (lv_at hl 2 rfl) ?_
                    refine call_V (As := [.int (nI (k)), .int (nI (n))]) (rest := []) hE (ct_X1_canPrecede l E a (upA (upA I (53) (flF (I 53) (quE I) (I 55 0))) (54) (upN (flF (I 54) (nxC I) k) k (btU (cpC I k) n))) tr (k) (n) (by omega) (by omega) (hD7.2 k c34).2.1 (hD7.2 n c51).1 (hF k c34) (hF n c51)) cm_X1_canPrecede (uw mt_L_X1_55 rfl) (gC_46 E a (upA (upA I (53) (flF (I 53) (quE I) (I 55 0))) (54) (upN (flF (I 54) (nxC I) k) k (btU (cpC I k) n))) tr) rfl rfl hP hD hS hl.1 rfl rfl (Nat.le_of_ble_eq_true rfl) ⟨by decide, by decide⟩ dX1_findNextOnes_57 (fun H locs hP hD hS => ?_)
                    refine W.eq (g2 := F0 m 60 ls [.int (bB (cpB (upA (upA I (53) (flF (I 53) (quE I) (I 55 0))) (54) (upN (flF (I 54) (nxC I) k) k (btU (cpC I k) n))) (k) (n)))]) rfl ?_
                    rw [cpB_eq c34 c51]
                    refine bB_eq (tgt := 75) hx hb dX1_findNextOnes_60 (by decide) (fun c60 => ?_) (fun c60 => ?_)
                    · refine lv_iinc (v := nI (n + 1)) (lv' := [(2, .int (nI (n + 1))), (0, .ref (a 7)), (1, .int (nI (k)))]) hx hb dX1_findNextOnes_75 hl (k := 2) rfl (ii1_N _) (by decide) rfl (fun ls hl => ?_)
                      refine lv_goto (tgt := 46) hx hb dX1_findNextOnes_78 (by decide) ?_
                      exact ih46 (n + 1) (by omega) (by omega) ls _ _ (lv_sub hl [1, 2, 0] rfl) (by have hw : (upA (upA I (53) (flF (I 53) (quE I) (I 55 0))) (54) (upN (flF (I 54) (nxC I) k) k (btU (cpC I k) n))) = (upA (upA I (53) (flF (I 53) (quE I) (I 55 0))) (54) (upN (flF (I 54) (nxC I) k) k (btU (cpC I k) (n + 1)))) := (by first | rw [btU_f c60] | (rw [btU_t c60, up2_upA, upN_upN, upN_at])); rw [hw] at hP; exact hP) (by have hw : (upA (upA I (53) (flF (I 53) (quE I) (I 55 0))) (54) (upN (flF (I 54) (nxC I) k) k (btU (cpC I k) n))) = (upA (upA I (53) (flF (I 53) (quE I) (I 55 0))) (54) (upN (flF (I 54) (nxC I) k) k (btU (cpC I k) (n + 1)))) := (by first | rw [btU_f c60] | (rw [btU_t c60, up2_upA, upN_upN, upN_at])); rw [hw] at hD; exact hD) hS
                    · refine lv_aload_n hx hb dX1_findNextOnes_63 rfl (lv_at hl 0 rfl) ?_
                      refine gf_X1_24 hE hP (46) (gC_46 E a (upA (upA I (53) (flF (I 53) (quE I) (I 55 0))) (54) (upN (flF (I 54) (nxC I) k) k (btU (cpC I k) n))) tr) (v := .ref (a 29)) rfl dX1_findNextOnes_64 ?_
                      refine lv_iload_n hx hb dX1_findNextOnes_67 rfl (lv_at hl 1 rfl) ?_
                      refine lv_dup2_11 hx hb dX1_findNextOnes_68 rfl rfl ?_
                      refine ald_i hE hP (51) (gC_51 E a (upA (upA I (53) (flF (I 53) (quE I) (I 55 0))) (54) (upN (flF (I 54) (nxC I) k) k (btU (cpC I k) n))) tr) (by omega) (by decide) (r := nI ((upN (flF (I 54) (nxC I) k) k (btU (cpC I k) n)) (k))) rfl dX1_findNextOnes_69 ?_
                      refine lv_iconst (v := nI (1)) hx hb dX1_findNextOnes_70 (by decide) ?_
                      refine lv_iload_n hx hb dX1_findNextOnes_71 rfl (lv_at hl 2 rfl) ?_
                      refine lv_ishl hx hb dX1_findNextOnes_72 ?_
                      refine tp (nI_pow (k := n) (by omega)) ?_
                      refine lv_ior hx hb dX1_findNextOnes_73 ?_
                      refine tp nI_or ?_
                      refine ast_i hE hP hD hS (51) (gC_51 E a (upA (upA I (53) (flF (I 53) (quE I) (I 55 0))) (54) (upN (flF (I 54) (nxC I) k) k (btU (cpC I k) n))) tr) (by omega) (by decide) (sC_51 E a (upA (upA I (53) (flF (I 53) (quE I) (I 55 0))) (54) (upN (flF (I 54) (nxC I) k) k (btU (cpC I k) n))) tr (k) (((upN (flF (I 54) (nxC I) k) k (btU (cpC I k) n)) (k)) ||| (2 ^ (n)))) dX1_findNextOnes_74 (fun H locs hP hD hS => ?_)
                      refine lv_iinc (v := nI (n + 1)) (lv' := [(2, .int (nI (n + 1))), (0, .ref (a 7)), (1, .int (nI (k)))]) hx hb dX1_findNextOnes_75 hl (k := 2) rfl (ii1_N _) (by decide) rfl (fun ls hl => ?_)
                      refine lv_goto (tgt := 46) hx hb dX1_findNextOnes_78 (by decide) ?_
                      exact ih46 (n + 1) (by omega) (by omega) ls _ _ (lv_sub hl [1, 2, 0] rfl) (by have hw : (up2 (upA (upA I (53) (flF (I 53) (quE I) (I 55 0))) (54) (upN (flF (I 54) (nxC I) k) k (btU (cpC I k) n))) (54) (k) (((upN (flF (I 54) (nxC I) k) k (btU (cpC I k) n)) (k)) ||| (2 ^ (n)))) = (upA (upA I (53) (flF (I 53) (quE I) (I 55 0))) (54) (upN (flF (I 54) (nxC I) k) k (btU (cpC I k) (n + 1)))) := (by first | rw [btU_f c60] | (rw [btU_t c60, up2_upA, upN_upN, upN_at])); rw [hw] at hP; exact hP) (by have hw : (up2 (upA (upA I (53) (flF (I 53) (quE I) (I 55 0))) (54) (upN (flF (I 54) (nxC I) k) k (btU (cpC I k) n))) (54) (k) (((upN (flF (I 54) (nxC I) k) k (btU (cpC I k) n)) (k)) ||| (2 ^ (n)))) = (upA (upA I (53) (flF (I 53) (quE I) (I 55 0))) (54) (upN (flF (I 54) (nxC I) k) k (btU (cpC I k) (n + 1)))) := (by first | rw [btU_f c60] | (rw [btU_t c60, up2_upA, upN_upN, upN_at])); rw [hw] at hD; exact hD) hS
              exact loop46 (_ + 1) (0) (Nat.lt_succ_self _) (by omega) ls _ _ (lv_sub hl [1, 2, 0] rfl) (by have hw : (up2 (upA (upA I (53) (flF (I 53) (quE I) (I 55 0))) (54) (flF (I 54) (nxC I) k)) (54) (k) (0)) = (upA (upA I (53) (flF (I 53) (quE I) (I 55 0))) (54) (upN (flF (I 54) (nxC I) k) k (btU (cpC I k) (0)))) := (up2_upA _ _ _ _ _); rw [hw] at hP; exact hP) (by have hw : (up2 (upA (upA I (53) (flF (I 53) (quE I) (I 55 0))) (54) (flF (I 54) (nxC I) k)) (54) (k) (0)) = (upA (upA I (53) (flF (I 53) (quE I) (I 55 0))) (54) (upN (flF (I 54) (nxC I) k) k (btU (cpC I k) (0)))) := (up2_upA _ _ _ _ _); rw [hw] at hD; exact hD) hS
        exact loop29 (_ + 1) (0) (Nat.lt_succ_self _) (by omega) ls _ _ (lv_sub hl [1, 0] rfl) (by have hw : (upA I (53) (flF (I 53) (quE I) k)) = (upA (upA I (53) (flF (I 53) (quE I) (I 55 0))) (54) (flF (I 54) (nxC I) (0))) := (by rw [flF_0, show k = I 55 0 by omega]; exact (upA_self (upA I 53 (flF (I 53) (quE I) (I 55 0))) 54).symm); rw [hw] at hP; exact hP) (by have hw : (upA I (53) (flF (I 53) (quE I) k)) = (upA (upA I (53) (flF (I 53) (quE I) (I 55 0))) (54) (flF (I 54) (nxC I) (0))) := (by rw [flF_0, show k = I 55 0 by omega]; exact (upA_self (upA I 53 (flF (I 53) (quE I) (I 55 0))) 54).symm); rw [hw] at hD; exact hD) hS
      · refine lv_aload_n hx hb dX1_findNextOnes_10 rfl (lv_at hl 0 rfl) ?_
        refine gf_X1_21 hE hP (46) (gC_46 E a (upA I (53) (flF (I 53) (quE I) k)) tr) (v := .ref (a 28)) rfl dX1_findNextOnes_11 ?_
        refine lv_iload_n hx hb dX1_findNextOnes_14 rfl (lv_at hl 1 rfl) ?_
        refine lv_aload_n hx hb dX1_findNextOnes_15 rfl (lv_at hl 0 rfl) ?_
        refine lv_iload_n hx hb dX1_findNextOnes_16 rfl (lv_at hl 1 rfl) ?_
        refine call_V (As := [.int (nI (k))]) (rest := [.int (nI (k)), .ref (a 28)]) hE (ct_X1_quarterOf l E a (upA I (53) (flF (I 53) (quE I) k)) tr (k) (CK_A _ (by decide) hI) (DK_53 _ hD7) (by exact c7)) cm_X1_quarterOf (uw mt_L_X1_51 rfl) (gC_46 E a (upA I (53) (flF (I 53) (quE I) k)) tr) rfl rfl hP hD hS hl.1 rfl rfl (Nat.le_of_ble_eq_true rfl) ⟨by decide, by decide⟩ dX1_findNextOnes_17 (fun H locs hP hD hS => ?_)
        refine W.eq (g2 := F0 m 20 ls [.int (rN (quE (upA I (53) (flF (I 53) (quE I) k)) (k))), .int (nI (k)), .ref (a 28)]) rfl ?_
        rw [quE_53 I _ k (hD7.2 k c7).2.1]
        have hq1 := quE_le I k
        refine ast_i hE hP hD hS (50) (gC_50 E a (upA I (53) (flF (I 53) (quE I) k)) tr) (by omega) (by decide) (sC_50 E a (upA I (53) (flF (I 53) (quE I) k)) tr (k) (quE I k)) dX1_findNextOnes_20 (fun H locs hP hD hS => ?_)
        refine lv_iinc (v := nI (k + 1)) (lv' := [(1, .int (nI (k + 1))), (0, .ref (a 7))]) hx hb dX1_findNextOnes_21 hl (k := 1) rfl (ii1_N _) (by decide) rfl (fun ls hl => ?_)
        refine lv_goto (tgt := 2) hx hb dX1_findNextOnes_24 (by decide) ?_
        exact ih2 (k + 1) (by omega) (by omega) ls _ _ (lv_sub hl [1, 0] rfl) (by have hw : (up2 (upA I (53) (flF (I 53) (quE I) k)) (53) (k) (quE I k)) = (upA I (53) (flF (I 53) (quE I) (k + 1))) := (by rw [up2_upA, flF_s]); rw [hw] at hP; exact hP) (by have hw : (up2 (upA I (53) (flF (I 53) (quE I) k)) (53) (k) (quE I k)) = (upA I (53) (flF (I 53) (quE I) (k + 1))) := (by rw [up2_upA, flF_s]); rw [hw] at hD; exact hD) hS
  exact loop2 (_ + 1) (0) (Nat.lt_succ_self _) (by omega) ls _ _ (lv_sub hl [1, 0] rfl) (by have hw : I = (upA I (53) (flF (I 53) (quE I) (0))) := (by rw [flF_0, upA_self]); rw [hw] at hP; exact hP) (by have hw : I = (upA I (53) (flF (I 53) (quE I) (0))) := (by rw [flF_0, upA_self]); rw [hw] at hD; exact hD) hS

set_option maxHeartbeats 4000000 in
set_option maxRecDepth 100000 in
theorem ct_X1_findFollowers (l : Launch) (E : cE) (a : Nat → Nat) (I : Nat → Nat → Nat) (tr : Int64) (hc8 : I 55 0 ≤ 8) (h256 : ∀ j, j < I 55 0 → I 54 j < 256) : Ct l E 1 yX1_findFollowers cX1_findFollowers 3 none [.ref (a 7)] (WC E a I tr) none (WC E a (upA I 54 (wsO (I 54) (I 55 0) (I 55 0))) tr) := by
  refine Ct_of (plainFor_of_name (by decide)) (Nat.le_of_ble_eq_true rfl) ?_
  intro p e s m args below meth c A ls hE hP hD hS hl
  have hE : cEnv p s m args meth c E RX1 cX1_findFollowers 3 none A := hE
  have hx := hE.1
  have hb := hE.2.1
  have hl : lv_has ls 3 [(0, .ref (a 7))] := hl
  have hP : va_P E.1 vwCl (WC E a I tr) s.heap := hP
  generalize hH : s.heap = H at hP hS ⊢
  have hS : va_S A s.heap H [] := by rw [hH]; exact hS
  clear hH
  refine lv_iconst (v := nI (0)) hx hb dX1_findFollowers_0 (by decide) ?_
  refine lv_istore_n (lv' := [(1, .int (nI (0))), (0, .ref (a 7))]) hx hb dX1_findFollowers_1 rfl hl (by decide) rfl (fun ls hl => ?_)
  have loop2 : ∀ (fu2 : Nat) (b2 : Nat), I 55 0 - b2 < fu2 → (b2 ≤ I 55 0) → ∀ (ls : Array Slot) (H : Heap) (locs : List Loc), lv_has ls 3 [(0, .ref (a 7)), (1, .int (nI (b2)))] → va_P E.1 vwCl (WC E a (upA I (54) (wsO (I 54) (I 55 0) b2)) tr) H → va_D A (WC E a (upA I (54) (wsO (I 54) (I 55 0) b2)) tr) → va_S A s.heap H locs → W p l e (rmL 1) s m args below meth c H locs 0 0 (RQ E below args s A none (WC E a (upA I 54 (wsO (I 54) (I 55 0) (I 55 0))) tr)) (F0 m 2 ls []) := by
    intro fu2
    induction fu2 with
    | zero => intro b2 h; exact absurd h (Nat.not_lt_zero _)
    | succ fu2 ih2 =>
      intro b2 hfu2 hb2 ls H locs hl hP hD hS
      refine lv_iload_n hx hb dX1_findFollowers_2 rfl (lv_at hl 1 rfl) ?_
      refine lv_aload_n hx hb dX1_findFollowers_3 rfl (lv_at hl 0 rfl) ?_
      refine gf_X1_31 hE hP (46) (gC_46 E a (upA I (54) (wsO (I 54) (I 55 0) b2)) tr) (v := .int (nI (I (55) (0)))) rfl dX1_findFollowers_4 ?_
      refine bN_ge (tgt := 56) hx hb (by omega) (by omega) dX1_findFollowers_7 (by decide) (fun c7 => ?_) (fun c7 => ?_)
      · rw [show b2 = I 55 0 by omega] at hP hD
        exact ret_v hE rfl hP hD hS dX1_findFollowers_56
      · refine lv_iconst (v := nI (0)) hx hb dX1_findFollowers_10 (by decide) ?_
        refine lv_istore_n (lv' := [(2, .int (nI (0))), (0, .ref (a 7)), (1, .int (nI (b2)))]) hx hb dX1_findFollowers_11 rfl hl (by decide) rfl (fun ls hl => ?_)
        have loop12 : ∀ (fu12 : Nat) (k : Nat), I 55 0 - k < fu12 → (k ≤ I 55 0) → ∀ (ls : Array Slot) (H : Heap) (locs : List Loc), lv_has ls 3 [(0, .ref (a 7)), (1, .int (nI (b2))), (2, .int (nI (k)))] → va_P E.1 vwCl (WC E a (upA I (54) (wsI (wsO (I 54) (I 55 0) b2) b2 k)) tr) H → va_D A (WC E a (upA I (54) (wsI (wsO (I 54) (I 55 0) b2) b2 k)) tr) → va_S A s.heap H locs → W p l e (rmL 1) s m args below meth c H locs 0 0 (RQ E below args s A none (WC E a (upA I 54 (wsO (I 54) (I 55 0) (I 55 0))) tr)) (F0 m 12 ls []) := by
          intro fu12
          induction fu12 with
          | zero => intro k h; exact absurd h (Nat.not_lt_zero _)
          | succ fu12 ih12 =>
            intro k hfu12 hk ls H locs hl hP hD hS
            have hL := wsI_lt (g := wsO (I 54) (I 55 0) b2) c7 (wsO_lt h256 b2 (by omega)) k hk
            refine lv_iload_n hx hb dX1_findFollowers_12 rfl (lv_at hl 2 rfl) ?_
            refine lv_aload_n hx hb dX1_findFollowers_13 rfl (lv_at hl 0 rfl) ?_
            refine gf_X1_31 hE hP (46) (gC_46 E a (upA I (54) (wsI (wsO (I 54) (I 55 0) b2) b2 k)) tr) (v := .int (nI (I (55) (0)))) rfl dX1_findFollowers_14 ?_
            refine bN_ge (tgt := 50) hx hb (by omega) (by omega) dX1_findFollowers_17 (by decide) (fun c17 => ?_) (fun c17 => ?_)
            · refine lv_iinc (v := nI (b2 + 1)) (lv' := [(1, .int (nI (b2 + 1))), (0, .ref (a 7)), (2, .int (nI (k)))]) hx hb dX1_findFollowers_50 hl (k := 1) rfl (ii1_N _) (by decide) rfl (fun ls hl => ?_)
              refine lv_goto (tgt := 2) hx hb dX1_findFollowers_53 (by decide) ?_
              exact ih2 (b2 + 1) (by omega) (by omega) ls _ _ (lv_sub hl [1, 0] rfl) (by have hw : (upA I (54) (wsI (wsO (I 54) (I 55 0) b2) b2 k)) = (upA I (54) (wsO (I 54) (I 55 0) (b2 + 1))) := (by rw [show k = I 55 0 by omega]; rfl); rw [hw] at hP; exact hP) (by have hw : (upA I (54) (wsI (wsO (I 54) (I 55 0) b2) b2 k)) = (upA I (54) (wsO (I 54) (I 55 0) (b2 + 1))) := (by rw [show k = I 55 0 by omega]; rfl); rw [hw] at hD; exact hD) hS
            · refine lv_aload_n hx hb dX1_findFollowers_20 rfl (lv_at hl 0 rfl) ?_
              refine lv_iload_n hx hb dX1_findFollowers_21 rfl (lv_at hl 2 rfl) ?_
              refine lv_iload_n hx hb dX1_findFollowers_22 rfl (lv_at hl 1 rfl) ?_
              refine call_V (As := [.int (nI (k)), .int (nI (b2))]) (rest := []) hE (ct_X1_isFollowedBy l E a (upA I (54) (wsI (wsO (I 54) (I 55 0) b2) b2 k)) tr (k) (b2) (by omega) (by omega) (hL _ (by omega))) cm_X1_isFollowedBy (uw mt_L_X1_47 rfl) (gC_46 E a (upA I (54) (wsI (wsO (I 54) (I 55 0) b2) b2 k)) tr) rfl rfl hP hD hS hl.1 rfl rfl (Nat.le_of_ble_eq_true rfl) ⟨by decide, by decide⟩ dX1_findFollowers_23 (fun H locs hP hD hS => ?_)
              refine W.eq (g2 := F0 m 26 ls [.int (bB (fbB (wsI (wsO (I 54) (I 55 0) b2) b2 k) (k) (b2)))]) rfl ?_
              refine bB_eq (tgt := 44) hx hb dX1_findFollowers_26 (by decide) (fun c26 => ?_) (fun c26 => ?_)
              · refine lv_iinc (v := nI (k + 1)) (lv' := [(2, .int (nI (k + 1))), (0, .ref (a 7)), (1, .int (nI (b2)))]) hx hb dX1_findFollowers_44 hl (k := 2) rfl (ii1_N _) (by decide) rfl (fun ls hl => ?_)
                refine lv_goto (tgt := 12) hx hb dX1_findFollowers_47 (by decide) ?_
                exact ih12 (k + 1) (by omega) (by omega) ls _ _ (lv_sub hl [1, 2, 0] rfl) (by have hw : (upA I (54) (wsI (wsO (I 54) (I 55 0) b2) b2 k)) = (upA I (54) (wsI (wsO (I 54) (I 55 0) b2) b2 (k + 1))) := (by first | rw [wsI_f c26] | (rw [wsI_t c26, up2_upA])); rw [hw] at hP; exact hP) (by have hw : (upA I (54) (wsI (wsO (I 54) (I 55 0) b2) b2 k)) = (upA I (54) (wsI (wsO (I 54) (I 55 0) b2) b2 (k + 1))) := (by first | rw [wsI_f c26] | (rw [wsI_t c26, up2_upA])); rw [hw] at hD; exact hD) hS
              · refine lv_aload_n hx hb dX1_findFollowers_29 rfl (lv_at hl 0 rfl) ?_
                refine gf_X1_24 hE hP (46) (gC_46 E a (upA I (54) (wsI (wsO (I 54) (I 55 0) b2) b2 k)) tr) (v := .ref (a 29)) rfl dX1_findFollowers_30 ?_
                refine lv_iload_n hx hb dX1_findFollowers_33 rfl (lv_at hl 2 rfl) ?_
                refine lv_dup2_11 hx hb dX1_findFollowers_34 rfl rfl ?_
                refine ald_i hE hP (51) (gC_51 E a (upA I (54) (wsI (wsO (I 54) (I 55 0) b2) b2 k)) tr) (by omega) (by decide) (r := nI ((wsI (wsO (I 54) (I 55 0) b2) b2 k) (k))) rfl dX1_findFollowers_35 ?_
                refine lv_aload_n hx hb dX1_findFollowers_36 rfl (lv_at hl 0 rfl) ?_
                refine gf_X1_24 hE hP (46) (gC_46 E a (upA I (54) (wsI (wsO (I 54) (I 55 0) b2) b2 k)) tr) (v := .ref (a 29)) rfl dX1_findFollowers_37 ?_
                refine lv_iload_n hx hb dX1_findFollowers_40 rfl (lv_at hl 1 rfl) ?_
                refine ald_i hE hP (51) (gC_51 E a (upA I (54) (wsI (wsO (I 54) (I 55 0) b2) b2 k)) tr) (by omega) (by decide) (r := nI ((wsI (wsO (I 54) (I 55 0) b2) b2 k) (b2))) rfl dX1_findFollowers_41 ?_
                refine lv_ior hx hb dX1_findFollowers_42 ?_
                refine tp nI_or ?_
                refine ast_i hE hP hD hS (51) (gC_51 E a (upA I (54) (wsI (wsO (I 54) (I 55 0) b2) b2 k)) tr) (by omega) (by decide) (sC_51 E a (upA I (54) (wsI (wsO (I 54) (I 55 0) b2) b2 k)) tr (k) (((wsI (wsO (I 54) (I 55 0) b2) b2 k) (k)) ||| ((wsI (wsO (I 54) (I 55 0) b2) b2 k) (b2)))) dX1_findFollowers_43 (fun H locs hP hD hS => ?_)
                refine lv_iinc (v := nI (k + 1)) (lv' := [(2, .int (nI (k + 1))), (0, .ref (a 7)), (1, .int (nI (b2)))]) hx hb dX1_findFollowers_44 hl (k := 2) rfl (ii1_N _) (by decide) rfl (fun ls hl => ?_)
                refine lv_goto (tgt := 12) hx hb dX1_findFollowers_47 (by decide) ?_
                exact ih12 (k + 1) (by omega) (by omega) ls _ _ (lv_sub hl [1, 2, 0] rfl) (by have hw : (up2 (upA I (54) (wsI (wsO (I 54) (I 55 0) b2) b2 k)) (54) (k) (((wsI (wsO (I 54) (I 55 0) b2) b2 k) (k)) ||| ((wsI (wsO (I 54) (I 55 0) b2) b2 k) (b2)))) = (upA I (54) (wsI (wsO (I 54) (I 55 0) b2) b2 (k + 1))) := (by first | rw [wsI_f c26] | (rw [wsI_t c26, up2_upA])); rw [hw] at hP; exact hP) (by have hw : (up2 (upA I (54) (wsI (wsO (I 54) (I 55 0) b2) b2 k)) (54) (k) (((wsI (wsO (I 54) (I 55 0) b2) b2 k) (k)) ||| ((wsI (wsO (I 54) (I 55 0) b2) b2 k) (b2)))) = (upA I (54) (wsI (wsO (I 54) (I 55 0) b2) b2 (k + 1))) := (by first | rw [wsI_f c26] | (rw [wsI_t c26, up2_upA])); rw [hw] at hD; exact hD) hS
        exact loop12 (_ + 1) (0) (Nat.lt_succ_self _) (by omega) ls _ _ (lv_sub hl [1, 2, 0] rfl) (by have hw : (upA I (54) (wsO (I 54) (I 55 0) b2)) = (upA I (54) (wsI (wsO (I 54) (I 55 0) b2) b2 (0))) := rfl; rw [hw] at hP; exact hP) (by have hw : (upA I (54) (wsO (I 54) (I 55 0) b2)) = (upA I (54) (wsI (wsO (I 54) (I 55 0) b2) b2 (0))) := rfl; rw [hw] at hD; exact hD) hS
  exact loop2 (_ + 1) (0) (Nat.lt_succ_self _) (by omega) ls _ _ (lv_sub hl [1, 0] rfl) (by have hw : I = (upA I (54) (wsO (I 54) (I 55 0) (0))) := (upA_self I 54).symm; rw [hw] at hP; exact hP) (by have hw : I = (upA I (54) (wsO (I 54) (I 55 0) (0))) := (upA_self I 54).symm; rw [hw] at hD; exact hD) hS

set_option maxHeartbeats 4000000 in
set_option maxRecDepth 100000 in
theorem ct_X1_hasRing (l : Launch) (E : cE) (a : Nat → Nat) (I : Nat → Nat → Nat) (tr : Int64) (hI : CK I) (hD7 : DK I) : Ct l E 4 yX1_hasRing cX1_hasRing 3 (some .boolean) [.ref (a 7)] (WC E a I tr) (some (.int (bB (rgC I)))) (WC E a (rgI I) tr) := by
  refine Ct_of (plainFor_of_name (by decide)) (Nat.le_of_ble_eq_true rfl) ?_
  intro p e s m args below meth c A ls hE hP hD hS hl
  have hE : cEnv p s m args meth c E RX1 cX1_hasRing 3 (some .boolean) A := hE
  have hx := hE.1
  have hb := hE.2.1
  have hl : lv_has ls 3 [(0, .ref (a 7))] := hl
  have hP : va_P E.1 vwCl (WC E a I tr) s.heap := hP
  generalize hH : s.heap = H at hP hS ⊢
  have hS : va_S A s.heap H [] := by rw [hH]; exact hS
  clear hH
  have hc8 := hD7.1
  have hL := rgG_lt hD7
  refine lv_aload_n hx hb dX1_hasRing_0 rfl (lv_at hl 0 rfl) ?_
  refine call_V (As := []) (rest := []) hE (ct_X1_findNextOnes l E a I tr hI hD7) cm_X1_findNextOnes (uw mt_L_X1_41 rfl) (gC_46 E a I tr) rfl rfl hP hD hS hl.1 rfl rfl (Nat.le_of_ble_eq_true rfl) ⟨by decide, by decide⟩ dX1_hasRing_1 (fun H locs hP hD hS => ?_)
  refine W.eq (g2 := F0 m 4 ls []) rfl ?_
  refine lv_aload_n hx hb dX1_hasRing_4 rfl (lv_at hl 0 rfl) ?_
  refine call_V (As := []) (rest := []) hE (ct_X1_findFollowers l E a (upA (upA I (53) (flF (I 53) (quE I) (I 55 0))) (54) (flF (I 54) (nxC I) (I 55 0))) tr hD7.1 (flF_lt hD7)) cm_X1_findFollowers (uw mt_L_X1_44 rfl) (gC_46 E a (upA (upA I (53) (flF (I 53) (quE I) (I 55 0))) (54) (flF (I 54) (nxC I) (I 55 0))) tr) rfl rfl hP hD hS hl.1 rfl rfl (Nat.le_of_ble_eq_true rfl) ⟨by decide, by decide⟩ dX1_hasRing_5 (fun H locs hP hD hS => ?_)
  refine W.eq (g2 := F0 m 8 ls []) rfl ?_
  rw [upA_upA] at hP hD
  have hP : va_P E.1 vwCl (WC E a (upA (upA I 53 (flF (I 53) (quE I) (I 55 0))) 54 (rgG I)) tr) H := hP
  have hD : va_D A (WC E a (upA (upA I 53 (flF (I 53) (quE I) (I 55 0))) 54 (rgG I)) tr) := hD
  refine lv_iconst (v := nI (0)) hx hb dX1_hasRing_8 (by decide) ?_
  refine lv_istore_n (lv' := [(1, .int (nI (0))), (0, .ref (a 7))]) hx hb dX1_hasRing_9 rfl hl (by decide) rfl (fun ls hl => ?_)
  have loop10 : ∀ (fu10 : Nat) (k : Nat), I 55 0 - k < fu10 → (k ≤ I 55 0) → (al (fun k => al (rgP I k) (I 55 0)) k = true) → ∀ (ls : Array Slot) (H : Heap) (locs : List Loc), lv_has ls 3 [(0, .ref (a 7)), (1, .int (nI (k)))] → va_P E.1 vwCl (WC E a (upA (upA I (53) (flF (I 53) (quE I) (I 55 0))) (54) (rgG I)) tr) H → va_D A (WC E a (upA (upA I (53) (flF (I 53) (quE I) (I 55 0))) (54) (rgG I)) tr) → va_S A s.heap H locs → W p l e (rmL 4) s m args below meth c H locs 0 0 (RQ E below args s A (some (.int (bB (rgC I)))) (WC E a (rgI I) tr)) (F0 m 10 ls []) := by
    intro fu10
    induction fu10 with
    | zero => intro k h; exact absurd h (Nat.not_lt_zero _)
    | succ fu10 ih10 =>
      intro k hfu10 hk hq ls H locs hl hP hD hS
      refine lv_iload_n hx hb dX1_hasRing_10 rfl (lv_at hl 1 rfl) ?_
      refine lv_aload_n hx hb dX1_hasRing_11 rfl (lv_at hl 0 rfl) ?_
      refine gf_X1_31 hE hP (46) (gC_46 E a (upA (upA I (53) (flF (I 53) (quE I) (I 55 0))) (54) (rgG I)) tr) (v := .int (nI (I (55) (0)))) rfl dX1_hasRing_12 ?_
      refine bN_ge (tgt := 66) hx hb (by omega) (by omega) dX1_hasRing_15 (by decide) (fun c15 => ?_) (fun c15 => ?_)
      · refine lv_iconst (v := nI (0)) hx hb dX1_hasRing_66 (by decide) ?_
        have hP : va_P E.1 vwCl (WC E a (rgI I) tr) H := hP
        have hD : va_D A (WC E a (rgI I) tr) := hD
        exact ret_z hE (r := nI (0)) (by decide) (by rw [show rgC I = false from by rw [rgC, show al (fun k => al (rgP I k) (I 55 0)) (I 55 0) = true by rw [show I 55 0 = k by omega] at hq ⊢; exact hq]; rfl]; rfl) hP hD hS dX1_hasRing_67
      · refine lv_iconst (v := nI (0)) hx hb dX1_hasRing_18 (by decide) ?_
        refine lv_istore_n (lv' := [(2, .int (nI (0))), (0, .ref (a 7)), (1, .int (nI (k)))]) hx hb dX1_hasRing_19 rfl hl (by decide) rfl (fun ls hl => ?_)
        have loop20 : ∀ (fu20 : Nat) (n : Nat), I 55 0 - n < fu20 → (n ≤ I 55 0) → (al (rgP I k) n = true) → ∀ (ls : Array Slot) (H : Heap) (locs : List Loc), lv_has ls 3 [(0, .ref (a 7)), (1, .int (nI (k))), (2, .int (nI (n)))] → va_P E.1 vwCl (WC E a (upA (upA I (53) (flF (I 53) (quE I) (I 55 0))) (54) (rgG I)) tr) H → va_D A (WC E a (upA (upA I (53) (flF (I 53) (quE I) (I 55 0))) (54) (rgG I)) tr) → va_S A s.heap H locs → W p l e (rmL 4) s m args below meth c H locs 0 0 (RQ E below args s A (some (.int (bB (rgC I)))) (WC E a (rgI I) tr)) (F0 m 20 ls []) := by
          intro fu20
          induction fu20 with
          | zero => intro n h; exact absurd h (Nat.not_lt_zero _)
          | succ fu20 ih20 =>
            intro n hfu20 hn hz ls H locs hl hP hD hS
            refine lv_iload_n hx hb dX1_hasRing_20 rfl (lv_at hl 2 rfl) ?_
            refine lv_aload_n hx hb dX1_hasRing_21 rfl (lv_at hl 0 rfl) ?_
            refine gf_X1_31 hE hP (46) (gC_46 E a (upA (upA I (53) (flF (I 53) (quE I) (I 55 0))) (54) (rgG I)) tr) (v := .int (nI (I (55) (0)))) rfl dX1_hasRing_22 ?_
            refine bN_ge (tgt := 60) hx hb (by omega) (by omega) dX1_hasRing_25 (by decide) (fun c25 => ?_) (fun c25 => ?_)
            · refine lv_iinc (v := nI (k + 1)) (lv' := [(1, .int (nI (k + 1))), (0, .ref (a 7)), (2, .int (nI (n)))]) hx hb dX1_hasRing_60 hl (k := 1) rfl (ii1_N _) (by decide) rfl (fun ls hl => ?_)
              refine lv_goto (tgt := 10) hx hb dX1_hasRing_63 (by decide) ?_
              exact ih10 (k + 1) (by omega) (by omega) (al_t (P := fun k => al (rgP I k) (I 55 0)) hq (by rw [show I 55 0 = n by omega]; exact hz)) ls _ _ (lv_sub hl [1, 0] rfl) hP hD hS
            · have hd1 := hD7.2 k c15
              have hd2 := hD7.2 n c25
              refine lv_aload_n hx hb dX1_hasRing_28 rfl (lv_at hl 0 rfl) ?_
              refine lv_iload_n hx hb dX1_hasRing_29 rfl (lv_at hl 1 rfl) ?_
              refine lv_iload_n hx hb dX1_hasRing_30 rfl (lv_at hl 2 rfl) ?_
              refine call_V (As := [.int (nI (k)), .int (nI (n))]) (rest := []) hE (ct_X1_isFollowedBy l E a (upA (upA I (53) (flF (I 53) (quE I) (I 55 0))) (54) (rgG I)) tr (k) (n) (by omega) (by omega) (hL _ (by omega))) cm_X1_isFollowedBy (uw mt_L_X1_47 rfl) (gC_46 E a (upA (upA I (53) (flF (I 53) (quE I) (I 55 0))) (54) (rgG I)) tr) rfl rfl hP hD hS hl.1 rfl rfl (Nat.le_of_ble_eq_true rfl) ⟨by decide, by decide⟩ dX1_hasRing_31 (fun H locs hP hD hS => ?_)
              refine W.eq (g2 := F0 m 34 ls [.int (bB (fbB (rgG I) (k) (n)))]) rfl ?_
              refine bB_eq (tgt := 54) hx hb dX1_hasRing_34 (by decide) (fun c34 => ?_) (fun c34 => ?_)
              · refine lv_iinc (v := nI (n + 1)) (lv' := [(2, .int (nI (n + 1))), (0, .ref (a 7)), (1, .int (nI (k)))]) hx hb dX1_hasRing_54 hl (k := 2) rfl (ii1_N _) (by decide) rfl (fun ls hl => ?_)
                refine lv_goto (tgt := 20) hx hb dX1_hasRing_57 (by decide) ?_
                exact ih20 (n + 1) (by omega) (by omega) (al_t hz (by first | (rw [rgP, c34]; rfl) | (rw [rgP, c34, df c49]; rfl))) ls _ _ (lv_sub hl [1, 2, 0] rfl) hP hD hS
              · refine lv_aload_n hx hb dX1_hasRing_37 rfl (lv_at hl 0 rfl) ?_
                refine gf_X1_15 hE hP (46) (gC_46 E a (upA (upA I (53) (flF (I 53) (quE I) (I 55 0))) (54) (rgG I)) tr) (v := .ref (a 26)) rfl dX1_hasRing_38 ?_
                refine lv_iload_n hx hb dX1_hasRing_41 rfl (lv_at hl 2 rfl) ?_
                refine ald_i hE hP (48) (gC_48 E a (upA (upA I (53) (flF (I 53) (quE I) (I 55 0))) (54) (rgG I)) tr) (by omega) (by decide) (r := nI (I (51) (n))) rfl dX1_hasRing_42 ?_
                refine lv_aload_n hx hb dX1_hasRing_43 rfl (lv_at hl 0 rfl) ?_
                refine gf_X1_9 hE hP (46) (gC_46 E a (upA (upA I (53) (flF (I 53) (quE I) (I 55 0))) (54) (rgG I)) tr) (v := .ref (a 25)) rfl dX1_hasRing_44 ?_
                refine lv_iload_n hx hb dX1_hasRing_47 rfl (lv_at hl 1 rfl) ?_
                refine ald_i hE hP (47) (gC_47 E a (upA (upA I (53) (flF (I 53) (quE I) (I 55 0))) (54) (rgG I)) tr) (by omega) (by decide) (r := nI (I (50) (k))) rfl dX1_hasRing_48 ?_
                refine bN_ne (tgt := 54) hx hb (by omega) (by omega) dX1_hasRing_49 (by decide) (fun c49 => ?_) (fun c49 => ?_)
                · refine lv_iinc (v := nI (n + 1)) (lv' := [(2, .int (nI (n + 1))), (0, .ref (a 7)), (1, .int (nI (k)))]) hx hb dX1_hasRing_54 hl (k := 2) rfl (ii1_N _) (by decide) rfl (fun ls hl => ?_)
                  refine lv_goto (tgt := 20) hx hb dX1_hasRing_57 (by decide) ?_
                  exact ih20 (n + 1) (by omega) (by omega) (al_t hz (by first | (rw [rgP, c34]; rfl) | (rw [rgP, c34, df c49]; rfl))) ls _ _ (lv_sub hl [1, 2, 0] rfl) hP hD hS
                · refine lv_iconst (v := nI (1)) hx hb dX1_hasRing_52 (by decide) ?_
                  have hP : va_P E.1 vwCl (WC E a (rgI I) tr) H := hP
                  have hD : va_D A (WC E a (rgI I) tr) := hD
                  exact ret_z hE (r := nI (1)) (by decide) (by rw [show rgC I = true from by rw [rgC, al_f (P := fun k => al (rgP I k) (I 55 0)) (k := k) (al_f (k := n) (by rw [rgP, c34, dt c49]; rfl) _ c25) _ c15]; rfl]; rfl) hP hD hS dX1_hasRing_53
        exact loop20 (_ + 1) (0) (Nat.lt_succ_self _) (by omega) rfl ls _ _ (lv_sub hl [1, 2, 0] rfl) hP hD hS
  exact loop10 (_ + 1) (0) (Nat.lt_succ_self _) (by omega) rfl ls _ _ (lv_sub hl [1, 0] rfl) hP hD hS
