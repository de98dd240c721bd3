set_option maxHeartbeats 4000000 in
set_option maxRecDepth 100000 in
theorem ct_X9_go (l : Launch) (E : cE) (a : Nat → Nat) (I : Nat → Nat → Nat) (tr : Int64) (zp0 : Int32) (hn95 : I 11 0 ≤ 95) : Ct l E 2 yX9_go cX9_go 2 (some .int) [.ref (a 0), .int (zp0)] (WC E a I tr) (some (.int (r_go (I 11 0) zp0))) (WC E a (up2 I 11 0 (goN (I 11 0) zp0)) tr) := by
  refine Ct_of (plainFor_of_name (by decide)) (Nat.le_of_ble_eq_true rfl) ?_
  intro p e s m args below meth c A ls hE hP hD hS hl
  have hE : cEnv p s m args meth c E RX9 cX9_go 2 (some .int) A := hE
  have hx := hE.1
  have hb := hE.2.1
  have hl : lv_has ls 2 [(0, .ref (a 0)), (1, .int (zp0))] := hl
  have hP : va_P E.1 vwCl (WC E a I tr) s.heap := hP
  generalize hH : s.heap = H at hP hS ⊢
  have hS : va_S A s.heap H [] := by rw [hH]; exact hS
  clear hH
  refine lv_iload_n hx hb dX9_go_0 rfl (lv_at hl 1 rfl) ?_
  refine lv_iconst (v := nI (1)) hx hb dX9_go_1 (by decide) ?_
  refine lv_bipush (v := nI (95)) hx hb dX9_go_2 (by decide) ?_
  refine call_S (As := [.int (zp0), .int (nI (1)), .int (nI (95))]) (rest := []) hE (ct_X9_isWithin l E (WC E a I tr) ((zp0)) (nI (1)) (nI (95))) cm_X9_isWithin (uw mt_L_X9_73 rfl) hP hD hS hl.1 rfl rfl (Nat.le_of_ble_eq_true rfl) ⟨by decide, by decide⟩ dX9_go_4 (fun H locs hP hD hS => ?_)
  refine W.eq (g2 := F0 m 7 ls [.int (bB (wi ((zp0)) (nI (1)) (nI (95))))]) rfl ?_
  refine bB_ne (tgt := 12) hx hb dX9_go_7 (by decide) (fun c7 => ?_) (fun c7 => ?_)
  · obtain ⟨j, qj1, qj2, rfl⟩ := wi_of (by decide) (by decide) c7
    have kj : tn (nI j) = j := tn_nI (by omega)
    refine lv_aload_n hx hb dX9_go_12 rfl (lv_at hl 0 rfl) ?_
    refine gf_X9_36 hE hP (0) (gC_0 E a I tr) (v := .ref (a 4)) rfl dX9_go_13 ?_
    refine gf_X9_165 hE hP (5) (gC_5 E a I tr) (v := .int (nI (I (11) (0)))) rfl dX9_go_16 ?_
    refine lv_iload_n hx hb dX9_go_19 rfl (lv_at hl 1 rfl) ?_
    refine lv_iadd hx hb dX9_go_20 ?_
    refine tp (nI_add _ _) ?_
    refine lv_bipush (v := nI (95)) hx hb dX9_go_21 (by decide) ?_
    refine bN_le (tgt := 29) hx hb (by omega) (by omega) dX9_go_23 (by decide) (fun c23 => ?_) (fun c23 => ?_)
    · refine lv_aload_n hx hb dX9_go_29 rfl (lv_at hl 0 rfl) ?_
      refine gf_X9_36 hE hP (0) (gC_0 E a I tr) (v := .ref (a 4)) rfl dX9_go_30 ?_
      refine lv_dup hx hb dX9_go_33 rfl ?_
      refine gf_X9_165 hE hP (5) (gC_5 E a I tr) (v := .int (nI (I (11) (0)))) rfl dX9_go_34 ?_
      refine lv_iload_n hx hb dX9_go_37 rfl (lv_at hl 1 rfl) ?_
      refine lv_iadd hx hb dX9_go_38 ?_
      refine tp (nI_add _ _) ?_
      refine pf_X9_165 hE hP hD hS (5) (gC_5 E a I tr) rfl rfl (Nat.le_of_ble_eq_true rfl) (sC_5_4 E a I tr (I (11) (0) + j)) dX9_go_39 (fun H locs hP hD hS => ?_)
      refine lv_aload_n hx hb dX9_go_42 rfl (lv_at hl 0 rfl) ?_
      refine gf_X9_36 hE hP (0) (gC_0 E a (up2 I (11) (0) (I (11) (0) + j)) tr) (v := .ref (a 4)) rfl dX9_go_43 ?_
      refine gf_X9_165 hE hP (5) (gC_5 E a (up2 I (11) (0) (I (11) (0) + j)) tr) (v := .int (nI (I (11) (0) + j))) rfl dX9_go_46 ?_
      have hw : (up2 I (11) (0) (I (11) (0) + j)) = (up2 I 11 0 (goN (I 11 0) (nI j))) := by simp only [goN, c7, kj, cond_true]; rw [if_pos c23]
      have hP := Eq.mp (congrArg (fun q => va_P E.1 vwCl (WC E a q tr) H) hw) hP
      have hD := Eq.mp (congrArg (fun q => va_D A (WC E a q tr)) hw) hD
      exact ret_i hE (r := nI (I (11) (0) + j)) (by simp only [r_go, c7, kj, cond_true]; rw [if_pos c23]) hP hD hS dX9_go_49
    · refine lv_bipush (v := (-2)) hx hb dX9_go_26 (by decide) ?_
      have hw : I = (up2 I 11 0 (goN (I 11 0) (nI j))) := by simp only [goN, c7, kj, cond_true]; rw [if_neg (by omega)]; exact (up2_self _ _ _).symm
      have hP := Eq.mp (congrArg (fun q => va_P E.1 vwCl (WC E a q tr) H) hw) hP
      have hD := Eq.mp (congrArg (fun q => va_D A (WC E a q tr)) hw) hD
      exact ret_i hE (r := (-2)) (by simp only [r_go, c7, kj, cond_true]; rw [if_neg (by omega)]) hP hD hS dX9_go_28
  · refine lv_iconst (v := (-1)) hx hb dX9_go_10 (by decide) ?_
    have hw : I = (up2 I 11 0 (goN (I 11 0) zp0)) := by simp only [goN, c7, cond_false]; exact (up2_self _ _ _).symm
    have hP := Eq.mp (congrArg (fun q => va_P E.1 vwCl (WC E a q tr) H) hw) hP
    have hD := Eq.mp (congrArg (fun q => va_D A (WC E a q tr)) hw) hD
    exact ret_i hE (r := (-1)) (by simp only [r_go, c7, cond_false]) hP hD hS dX9_go_11

set_option maxHeartbeats 4000000 in
set_option maxRecDepth 100000 in
theorem ct_X9_turn (l : Launch) (E : cE) (a : Nat → Nat) (I : Nat → Nat → Nat) (tr : Int64) (zp0 zp1 : Int32) (hI : CK I) (h10 : I 10 0 ≤ 10) : Ct l E 3 yX9_turn cX9_turn 3 (some .int) [.ref (a 0), .int (zp0), .int (zp1)] (WC E a I tr) (some (.int (r_turn (I 13 0) (I 11 0) (shC I) zp0 zp1))) (WC E a (turI I zp0 zp1) tr) := by
  refine Ct_of (plainFor_of_name (by decide)) (Nat.le_of_ble_eq_true rfl) ?_
  intro p e s m args below meth c A ls hE hP hD hS hl
  have hE : cEnv p s m args meth c E RX9 cX9_turn 3 (some .int) A := hE
  have hx := hE.1
  have hb := hE.2.1
  have hl : lv_has ls 3 [(0, .ref (a 0)), (1, .int (zp0)), (2, .int (zp1))] := hl
  have hP : va_P E.1 vwCl (WC E a I tr) s.heap := hP
  generalize hH : s.heap = H at hP hS ⊢
  have hS : va_S A s.heap H [] := by rw [hH]; exact hS
  clear hH
  have hc6 := hI.1
  refine lv_aload_n hx hb dX9_turn_0 rfl (lv_at hl 0 rfl) ?_
  refine gf_X9_28 hE hP (0) (gC_0 E a I tr) (v := .ref (a 3)) rfl dX9_turn_1 ?_
  refine lv_iload_n hx hb dX9_turn_4 rfl (lv_at hl 1 rfl) ?_
  refine call_V (As := [.int (zp0)]) (rest := []) hE (ct_X0_has l E a I tr ((zp0)) (hI).1) cm_X0_has (uw mt_L_X9_100 rfl) (gC_4 E a I tr) rfl rfl hP hD hS hl.1 rfl rfl (Nat.le_of_ble_eq_true rfl) ⟨by decide, by decide⟩ dX9_turn_5 (fun H locs hP hD hS => ?_)
  refine W.eq (g2 := F0 m 8 ls [.int (bB (inB ((zp0)) (I (13) (0))))]) rfl ?_
  refine bB_eq (tgt := 21) hx hb dX9_turn_8 (by decide) (fun c8 => ?_) (fun c8 => ?_)
  · refine lv_iconst (v := (-1)) hx hb dX9_turn_21 (by decide) ?_
    have hw : I = (turI I zp0 zp1) := by first | (simp only [turI, c8, cond_false]; done) | (simp only [turI, c8, c18, cond_true, cond_false]; done)
    have hP := Eq.mp (congrArg (fun q => va_P E.1 vwCl (WC E a q tr) H) hw) hP
    have hD := Eq.mp (congrArg (fun q => va_D A (WC E a q tr)) hw) hD
    exact ret_i hE (r := (-1)) (by first | (simp only [r_turn, c8, cond_false]; done) | (simp only [r_turn, c8, c18, cond_true, cond_false]; done)) hP hD hS dX9_turn_22
  · obtain ⟨h, qh, rfl⟩ := inB_t (by omega) c8
    have kh : tn (nI h) = h := tn_nI (by omega)
    refine lv_iload_n hx hb dX9_turn_11 rfl (lv_at hl 2 rfl) ?_
    refine lv_iconst (v := nI (1)) hx hb dX9_turn_12 (by decide) ?_
    refine lv_bipush (v := nI (47)) hx hb dX9_turn_13 (by decide) ?_
    refine call_S (As := [.int (zp1), .int (nI (1)), .int (nI (47))]) (rest := []) hE (ct_X9_isWithin l E (WC E a I tr) ((zp1)) (nI (1)) (nI (47))) cm_X9_isWithin (uw mt_L_X9_73 rfl) hP hD hS hl.1 rfl rfl (Nat.le_of_ble_eq_true rfl) ⟨by decide, by decide⟩ dX9_turn_15 (fun H locs hP hD hS => ?_)
    refine W.eq (g2 := F0 m 18 ls [.int (bB (wi ((zp1)) (nI (1)) (nI (47))))]) rfl ?_
    refine bB_ne (tgt := 23) hx hb dX9_turn_18 (by decide) (fun c18 => ?_) (fun c18 => ?_)
    · obtain ⟨j, qj1, qj2, rfl⟩ := wi_of (by decide) (by decide) c18
      have kj : tn (nI j) = j := tn_nI (by omega)
      refine lv_aload_n hx hb dX9_turn_23 rfl (lv_at hl 0 rfl) ?_
      refine gf_X9_36 hE hP (0) (gC_0 E a I tr) (v := .ref (a 4)) rfl dX9_turn_24 ?_
      refine lv_iload_n hx hb dX9_turn_27 rfl (lv_at hl 1 rfl) ?_
      refine lv_iload_n hx hb dX9_turn_28 rfl (lv_at hl 2 rfl) ?_
      refine call_V (As := [.int (nI (h)), .int (nI (j))]) (rest := []) hE (ct_X4_addTurn l E a I tr (h) (j) (by omega) (by omega) (hI.2.2.2.2 _ (by omega)) h10) cm_X4_addTurn (uw mt_L_X9_168 rfl) (gC_5 E a I tr) rfl rfl hP hD hS hl.1 rfl rfl (Nat.le_of_ble_eq_true rfl) ⟨by decide, by decide⟩ dX9_turn_29 (fun H locs hP hD hS => ?_)
      refine W.eq (g2 := F0 m 32 ls []) rfl ?_
      have hI2 := CK_adT (x := h) (b := j) hI
      refine lv_aload_n hx hb dX9_turn_32 rfl (lv_at hl 0 rfl) ?_
      refine gf_X9_28 hE hP (0) (gC_0 E a (adT I (h) (j)) tr) (v := .ref (a 3)) rfl dX9_turn_33 ?_
      refine lv_iload_n hx hb dX9_turn_36 rfl (lv_at hl 1 rfl) ?_
      refine call_V (As := [.int (nI (h))]) (rest := []) hE (ct_X0_showsNow l E a (adT I (h) (j)) tr (h) (hI2) (by omega)) cm_X0_showsNow (uw mt_L_X9_172 rfl) (gC_4 E a (adT I (h) (j)) tr) rfl rfl hP hD hS hl.1 rfl rfl (Nat.le_of_ble_eq_true rfl) ⟨by decide, by decide⟩ dX9_turn_37 (fun H locs hP hD hS => ?_)
      refine W.eq (g2 := F0 m 40 ls [.int (nI (shC (adT I (h) (j)) (h) ((adT I (h) (j)) (11) (0))))]) rfl ?_
      have hs1 := shC_lt (adT I (h) (j)) (h) ((adT I (h) (j)) (11) (0))
      have hw : (adT I (h) (j)) = (turI I (nI h) (nI j)) := by simp only [turI, c8, c18, kh, kj, cond_true]
      have hP := Eq.mp (congrArg (fun q => va_P E.1 vwCl (WC E a q tr) H) hw) hP
      have hD := Eq.mp (congrArg (fun q => va_D A (WC E a q tr)) hw) hD
      exact ret_i hE (r := nI (shC (adT I (h) (j)) (h) ((adT I (h) (j)) (11) (0)))) (by simp only [r_turn, c8, c18, kh, kj, cond_true]; rw [shC_adT (by omega), adT_off _ _ _ (by decide)]) hP hD hS dX9_turn_40
    · refine lv_iconst (v := (-1)) hx hb dX9_turn_21 (by decide) ?_
      have hw : I = (turI I (nI h) zp1) := by first | (simp only [turI, c8, cond_false]; done) | (simp only [turI, c8, c18, cond_true, cond_false]; done)
      have hP := Eq.mp (congrArg (fun q => va_P E.1 vwCl (WC E a q tr) H) hw) hP
      have hD := Eq.mp (congrArg (fun q => va_D A (WC E a q tr)) hw) hD
      exact ret_i hE (r := (-1)) (by first | (simp only [r_turn, c8, cond_false]; done) | (simp only [r_turn, c8, c18, cond_true, cond_false]; done)) hP hD hS dX9_turn_22

set_option maxHeartbeats 4000000 in
set_option maxRecDepth 100000 in
theorem ct_X9_undo (l : Launch) (E : cE) (a : Nat → Nat) (I : Nat → Nat → Nat) (tr : Int64) (h10 : MK I) (h7 : ∀ h, h < 6 → I 7 h < 48) : Ct l E 2 yX9_undo cX9_undo 1 (some .int) [.ref (a 0)] (WC E a I tr) (some (.int (r_undo (I 10 0) (I 8 (I 10 0 - 1))))) (WC E a (undI I) tr) := by
  refine Ct_of (plainFor_of_name (by decide)) (Nat.le_of_ble_eq_true rfl) ?_
  intro p e s m args below meth c A ls hE hP hD hS hl
  have hE : cEnv p s m args meth c E RX9 cX9_undo 1 (some .int) A := hE
  have hx := hE.1
  have hb := hE.2.1
  have hl : lv_has ls 1 [(0, .ref (a 0))] := hl
  have hP : va_P E.1 vwCl (WC E a I tr) s.heap := hP
  generalize hH : s.heap = H at hP hS ⊢
  have hS : va_S A s.heap H [] := by rw [hH]; exact hS
  clear hH
  have h1010 := h10.1
  refine lv_aload_n hx hb dX9_undo_0 rfl (lv_at hl 0 rfl) ?_
  refine gf_X9_36 hE hP (0) (gC_0 E a I tr) (v := .ref (a 4)) rfl dX9_undo_1 ?_
  refine gf_X9_176 hE hP (5) (gC_5 E a I tr) (v := .int (nI (I (10) (0)))) rfl dX9_undo_4 ?_
  refine bZ_ne (tgt := 15) hx hb (by omega) dX9_undo_7 (by decide) (fun c7 => ?_) (fun c7 => ?_)
  · refine lv_aload_n hx hb dX9_undo_15 rfl (lv_at hl 0 rfl) ?_
    refine gf_X9_36 hE hP (0) (gC_0 E a I tr) (v := .ref (a 4)) rfl dX9_undo_16 ?_
    refine call_V (As := []) (rest := []) hE (ct_X4_takeTurnBack l E a I tr c7 h10.1 (h10.2 _ (by omega)).1 (h10.2 _ (by omega)).2 h7) cm_X4_takeTurnBack (uw mt_L_X9_179 rfl) (gC_5 E a I tr) rfl rfl hP hD hS hl.1 rfl rfl (Nat.le_of_ble_eq_true rfl) ⟨by decide, by decide⟩ dX9_undo_19 (fun H locs hP hD hS => ?_)
    refine W.eq (g2 := F0 m 22 ls [.int (nI (I 8 (I 10 0 - 1)))]) rfl ?_
    have hw : (tkT I) = (undI I) := by unfold undI; first | exact (if_pos c7).symm | exact (if_neg (by omega)).symm
    have hP := Eq.mp (congrArg (fun q => va_P E.1 vwCl (WC E a q tr) H) hw) hP
    have hD := Eq.mp (congrArg (fun q => va_D A (WC E a q tr)) hw) hD
    exact ret_i hE (r := nI (I 8 (I 10 0 - 1))) (by unfold r_undo; first | rw [if_pos c7] | rw [if_neg (show ¬ I 10 0 = 0 by omega)]) hP hD hS dX9_undo_22
  · refine lv_bipush (v := (-2)) hx hb dX9_undo_10 (by decide) ?_
    refine lv_goto (tgt := 22) hx hb dX9_undo_12 (by decide) ?_
    have hw : I = (undI I) := by unfold undI; first | exact (if_pos c7).symm | exact (if_neg (by omega)).symm
    have hP := Eq.mp (congrArg (fun q => va_P E.1 vwCl (WC E a q tr) H) hw) hP
    have hD := Eq.mp (congrArg (fun q => va_D A (WC E a q tr)) hw) hD
    exact ret_i hE (r := (-2)) (by unfold r_undo; first | rw [if_pos c7] | rw [if_neg (show ¬ I 10 0 = 0 by omega)]) hP hD hS dX9_undo_22

set_option maxHeartbeats 4000000 in
set_option maxRecDepth 100000 in
theorem ct_X9_errand (l : Launch) (E : cE) (a : Nat → Nat) (I : Nat → Nat → Nat) (tr : Int64) (zp0 zp1 zp2 zp3 : Int32) (hI : CK I) (h44 : I 44 0 ≤ 4) : Ct l E 3 yX9_errand cX9_errand 5 (some .int) [.ref (a 0), .int (zp0), .int (zp1), .int (zp2), .int (zp3)] (WC E a I tr) (some (.int (r_errand (I 13 0) (I 44 0) zp0 zp1 zp2 zp3))) (WC E a (errI I zp0 zp1 zp2 zp3) tr) := by
  refine Ct_of (plainFor_of_name (by decide)) (Nat.le_of_ble_eq_true rfl) ?_
  intro p e s m args below meth c A ls hE hP hD hS hl
  have hE : cEnv p s m args meth c E RX9 cX9_errand 5 (some .int) A := hE
  have hx := hE.1
  have hb := hE.2.1
  have hl : lv_has ls 5 [(0, .ref (a 0)), (1, .int (zp0)), (2, .int (zp1)), (3, .int (zp2)), (4, .int (zp3))] := hl
  have hP : va_P E.1 vwCl (WC E a I tr) s.heap := hP
  generalize hH : s.heap = H at hP hS ⊢
  have hS : va_S A s.heap H [] := by rw [hH]; exact hS
  clear hH
  have hc6 := hI.1
  refine lv_aload_n hx hb dX9_errand_0 rfl (lv_at hl 0 rfl) ?_
  refine gf_X9_28 hE hP (0) (gC_0 E a I tr) (v := .ref (a 3)) rfl dX9_errand_1 ?_
  refine lv_iload_n hx hb dX9_errand_4 rfl (lv_at hl 1 rfl) ?_
  refine call_V (As := [.int (zp0)]) (rest := []) hE (ct_X0_has l E a I tr ((zp0)) (hI).1) cm_X0_has (uw mt_L_X9_100 rfl) (gC_4 E a I tr) rfl rfl hP hD hS hl.1 rfl rfl (Nat.le_of_ble_eq_true rfl) ⟨by decide, by decide⟩ dX9_errand_5 (fun H locs hP hD hS => ?_)
  refine W.eq (g2 := F0 m 8 ls [.int (bB (inB ((zp0)) (I (13) (0))))]) rfl ?_
  refine bB_eq (tgt := 36) hx hb dX9_errand_8 (by decide) (fun c8 => ?_) (fun c8 => ?_)
  · refine lv_iconst (v := (-1)) hx hb dX9_errand_36 (by decide) ?_
    have hw : I = (errI I zp0 zp1 zp2 zp3) := by first | (simp only [errI, okE, c8, Bool.true_and, Bool.false_and, Bool.and_false, cond_false]; done) | (simp only [errI, okE, c8, c15, Bool.true_and, Bool.false_and, Bool.and_false, cond_false]; done) | (simp only [errI, okE, c8, c15, c22, Bool.true_and, Bool.false_and, Bool.and_false, cond_false]; done) | (simp only [errI, okE, c8, c15, c22, c33, Bool.true_and, Bool.false_and, Bool.and_false, cond_false]; done)
    have hP := Eq.mp (congrArg (fun q => va_P E.1 vwCl (WC E a q tr) H) hw) hP
    have hD := Eq.mp (congrArg (fun q => va_D A (WC E a q tr)) hw) hD
    exact ret_i hE (r := (-1)) (by first | (simp only [r_errand, okE, c8, Bool.true_and, Bool.false_and, Bool.and_false, cond_false]; done) | (simp only [r_errand, okE, c8, c15, Bool.true_and, Bool.false_and, Bool.and_false, cond_false]; done) | (simp only [r_errand, okE, c8, c15, c22, Bool.true_and, Bool.false_and, Bool.and_false, cond_false]; done) | (simp only [r_errand, okE, c8, c15, c22, c33, Bool.true_and, Bool.false_and, Bool.and_false, cond_false]; done)) hP hD hS dX9_errand_37
  · obtain ⟨h, qh, rfl⟩ := inB_t (by omega) c8
    have kh : tn (nI h) = h := tn_nI (by omega)
    refine lv_iload_n hx hb dX9_errand_11 rfl (lv_at hl 2 rfl) ?_
    refine call_S (As := [.int (zp1)]) (rest := []) hE (ct_X9_isNumber l E (WC E a I tr) ((zp1))) cm_X9_isNumber (uw mt_L_X9_135 rfl) hP hD hS hl.1 rfl rfl (Nat.le_of_ble_eq_true rfl) ⟨by decide, by decide⟩ dX9_errand_12 (fun H locs hP hD hS => ?_)
    refine W.eq (g2 := F0 m 15 ls [.int (bB (inB ((zp1)) 48))]) rfl ?_
    refine bB_eq (tgt := 36) hx hb dX9_errand_15 (by decide) (fun c15 => ?_) (fun c15 => ?_)
    · refine lv_iconst (v := (-1)) hx hb dX9_errand_36 (by decide) ?_
      have hw : I = (errI I (nI h) zp1 zp2 zp3) := by first | (simp only [errI, okE, c8, Bool.true_and, Bool.false_and, Bool.and_false, cond_false]; done) | (simp only [errI, okE, c8, c15, Bool.true_and, Bool.false_and, Bool.and_false, cond_false]; done) | (simp only [errI, okE, c8, c15, c22, Bool.true_and, Bool.false_and, Bool.and_false, cond_false]; done) | (simp only [errI, okE, c8, c15, c22, c33, Bool.true_and, Bool.false_and, Bool.and_false, cond_false]; done)
      have hP := Eq.mp (congrArg (fun q => va_P E.1 vwCl (WC E a q tr) H) hw) hP
      have hD := Eq.mp (congrArg (fun q => va_D A (WC E a q tr)) hw) hD
      exact ret_i hE (r := (-1)) (by first | (simp only [r_errand, okE, c8, Bool.true_and, Bool.false_and, Bool.and_false, cond_false]; done) | (simp only [r_errand, okE, c8, c15, Bool.true_and, Bool.false_and, Bool.and_false, cond_false]; done) | (simp only [r_errand, okE, c8, c15, c22, Bool.true_and, Bool.false_and, Bool.and_false, cond_false]; done) | (simp only [r_errand, okE, c8, c15, c22, c33, Bool.true_and, Bool.false_and, Bool.and_false, cond_false]; done)) hP hD hS dX9_errand_37
    · obtain ⟨f, qf, rfl⟩ := inB_t (by omega) c15
      have kf : tn (nI f) = f := tn_nI (by omega)
      refine lv_iload_n hx hb dX9_errand_18 rfl (lv_at hl 3 rfl) ?_
      refine call_S (As := [.int (zp2)]) (rest := []) hE (ct_X9_isNumber l E (WC E a I tr) ((zp2))) cm_X9_isNumber (uw mt_L_X9_135 rfl) hP hD hS hl.1 rfl rfl (Nat.le_of_ble_eq_true rfl) ⟨by decide, by decide⟩ dX9_errand_19 (fun H locs hP hD hS => ?_)
      refine W.eq (g2 := F0 m 22 ls [.int (bB (inB ((zp2)) 48))]) rfl ?_
      refine bB_eq (tgt := 36) hx hb dX9_errand_22 (by decide) (fun c22 => ?_) (fun c22 => ?_)
      · refine lv_iconst (v := (-1)) hx hb dX9_errand_36 (by decide) ?_
        have hw : I = (errI I (nI h) (nI f) zp2 zp3) := by first | (simp only [errI, okE, c8, Bool.true_and, Bool.false_and, Bool.and_false, cond_false]; done) | (simp only [errI, okE, c8, c15, Bool.true_and, Bool.false_and, Bool.and_false, cond_false]; done) | (simp only [errI, okE, c8, c15, c22, Bool.true_and, Bool.false_and, Bool.and_false, cond_false]; done) | (simp only [errI, okE, c8, c15, c22, c33, Bool.true_and, Bool.false_and, Bool.and_false, cond_false]; done)
        have hP := Eq.mp (congrArg (fun q => va_P E.1 vwCl (WC E a q tr) H) hw) hP
        have hD := Eq.mp (congrArg (fun q => va_D A (WC E a q tr)) hw) hD
        exact ret_i hE (r := (-1)) (by first | (simp only [r_errand, okE, c8, Bool.true_and, Bool.false_and, Bool.and_false, cond_false]; done) | (simp only [r_errand, okE, c8, c15, Bool.true_and, Bool.false_and, Bool.and_false, cond_false]; done) | (simp only [r_errand, okE, c8, c15, c22, Bool.true_and, Bool.false_and, Bool.and_false, cond_false]; done) | (simp only [r_errand, okE, c8, c15, c22, c33, Bool.true_and, Bool.false_and, Bool.and_false, cond_false]; done)) hP hD hS dX9_errand_37
      · obtain ⟨t, qt, rfl⟩ := inB_t (by omega) c22
        have kt : tn (nI t) = t := tn_nI (by omega)
        refine lv_iload hx hb dX9_errand_25 (lv_at hl 4 rfl) ?_
        refine lv_iconst (v := nI (0)) hx hb dX9_errand_27 (by decide) ?_
        refine lv_bipush (v := nI (9)) hx hb dX9_errand_28 (by decide) ?_
        refine call_S (As := [.int (zp3), .int (nI (0)), .int (nI (9))]) (rest := []) hE (ct_X9_isWithin l E (WC E a I tr) ((zp3)) (nI (0)) (nI (9))) cm_X9_isWithin (uw mt_L_X9_73 rfl) hP hD hS hl.1 rfl rfl (Nat.le_of_ble_eq_true rfl) ⟨by decide, by decide⟩ dX9_errand_30 (fun H locs hP hD hS => ?_)
        refine W.eq (g2 := F0 m 33 ls [.int (bB (wi ((zp3)) (nI (0)) (nI (9))))]) rfl ?_
        refine bB_ne (tgt := 38) hx hb dX9_errand_33 (by decide) (fun c33 => ?_) (fun c33 => ?_)
        · obtain ⟨q, qq1, qq2, rfl⟩ := wi_of (by decide) (by decide) c33
          have kq : tn (nI q) = q := tn_nI (by omega)
          refine lv_aload_n hx hb dX9_errand_38 rfl (lv_at hl 0 rfl) ?_
          refine gf_X9_44 hE hP (0) (gC_0 E a I tr) (v := .ref (a 5)) rfl dX9_errand_39 ?_
          refine gf_X9_182 hE hP (38) (gC_38 E a I tr) (v := .int (nI (I (44) (0)))) rfl dX9_errand_42 ?_
          refine lv_iconst (v := nI (4)) hx hb dX9_errand_45 (by decide) ?_
          refine bN_lt (tgt := 52) hx hb (by omega) (by omega) dX9_errand_46 (by decide) (fun c46 => ?_) (fun c46 => ?_)
          · refine lv_aload_n hx hb dX9_errand_52 rfl (lv_at hl 0 rfl) ?_
            refine gf_X9_44 hE hP (0) (gC_0 E a I tr) (v := .ref (a 5)) rfl dX9_errand_53 ?_
            refine lv_iload_n hx hb dX9_errand_56 rfl (lv_at hl 1 rfl) ?_
            refine lv_iload_n hx hb dX9_errand_57 rfl (lv_at hl 2 rfl) ?_
            refine lv_iload_n hx hb dX9_errand_58 rfl (lv_at hl 3 rfl) ?_
            refine lv_iload hx hb dX9_errand_59 (lv_at hl 4 rfl) ?_
            refine call_V (As := [.int (nI (h)), .int (nI (f)), .int (nI (t)), .int (nI (q))]) (rest := []) hE (ct_X2_add l E a I tr h f t q c46) cm_X2_add (uw mt_L_X9_185 rfl) (gC_38 E a I tr) rfl rfl hP hD hS hl.1 rfl rfl (Nat.le_of_ble_eq_true rfl) ⟨by decide, by decide⟩ dX9_errand_61 (fun H locs hP hD hS => ?_)
            refine W.eq (g2 := F0 m 64 ls []) rfl ?_
            refine lv_aload_n hx hb dX9_errand_64 rfl (lv_at hl 0 rfl) ?_
            refine gf_X9_44 hE hP (0) (gC_0 E a (up2 (up2 (up2 (up2 (up2 I (40) (I (44) (0)) (h)) (41) (I (44) (0)) (f)) (42) (I (44) (0)) (t)) (43) (I (44) (0)) (q)) (44) (0) (I 44 0 + 1)) tr) (v := .ref (a 5)) rfl dX9_errand_65 ?_
            refine gf_X9_182 hE hP (38) (gC_38 E a (up2 (up2 (up2 (up2 (up2 I (40) (I (44) (0)) (h)) (41) (I (44) (0)) (f)) (42) (I (44) (0)) (t)) (43) (I (44) (0)) (q)) (44) (0) (I 44 0 + 1)) tr) (v := .int (nI (I 44 0 + 1))) rfl dX9_errand_68 ?_
            have hw : (up2 (up2 (up2 (up2 (up2 I (40) (I (44) (0)) (h)) (41) (I (44) (0)) (f)) (42) (I (44) (0)) (t)) (43) (I (44) (0)) (q)) (44) (0) (I 44 0 + 1)) = (errI I (nI h) (nI f) (nI t) (nI q)) := by simp only [errI, okE, c8, c15, c22, c33, kh, kf, kt, kq, Bool.true_and, cond_true]; rw [if_pos c46]; rfl
            have hP := Eq.mp (congrArg (fun q => va_P E.1 vwCl (WC E a q tr) H) hw) hP
            have hD := Eq.mp (congrArg (fun q => va_D A (WC E a q tr)) hw) hD
            exact ret_i hE (r := nI (I 44 0 + 1)) (by simp only [r_errand, okE, c8, c15, c22, c33, Bool.true_and, cond_true]; rw [if_pos c46]) hP hD hS dX9_errand_71
          · refine lv_bipush (v := (-3)) hx hb dX9_errand_49 (by decide) ?_
            have hw : I = (errI I (nI h) (nI f) (nI t) (nI q)) := by simp only [errI, okE, c8, c15, c22, c33, Bool.true_and, cond_true]; rw [if_neg (by omega)]
            have hP := Eq.mp (congrArg (fun q => va_P E.1 vwCl (WC E a q tr) H) hw) hP
            have hD := Eq.mp (congrArg (fun q => va_D A (WC E a q tr)) hw) hD
            exact ret_i hE (r := (-3)) (by simp only [r_errand, okE, c8, c15, c22, c33, Bool.true_and, cond_true]; rw [if_neg (by omega)]) hP hD hS dX9_errand_51
        · refine lv_iconst (v := (-1)) hx hb dX9_errand_36 (by decide) ?_
          have hw : I = (errI I (nI h) (nI f) (nI t) zp3) := by first | (simp only [errI, okE, c8, Bool.true_and, Bool.false_and, Bool.and_false, cond_false]; done) | (simp only [errI, okE, c8, c15, Bool.true_and, Bool.false_and, Bool.and_false, cond_false]; done) | (simp only [errI, okE, c8, c15, c22, Bool.true_and, Bool.false_and, Bool.and_false, cond_false]; done) | (simp only [errI, okE, c8, c15, c22, c33, Bool.true_and, Bool.false_and, Bool.and_false, cond_false]; done)
          have hP := Eq.mp (congrArg (fun q => va_P E.1 vwCl (WC E a q tr) H) hw) hP
          have hD := Eq.mp (congrArg (fun q => va_D A (WC E a q tr)) hw) hD
          exact ret_i hE (r := (-1)) (by first | (simp only [r_errand, okE, c8, Bool.true_and, Bool.false_and, Bool.and_false, cond_false]; done) | (simp only [r_errand, okE, c8, c15, Bool.true_and, Bool.false_and, Bool.and_false, cond_false]; done) | (simp only [r_errand, okE, c8, c15, c22, Bool.true_and, Bool.false_and, Bool.and_false, cond_false]; done) | (simp only [r_errand, okE, c8, c15, c22, c33, Bool.true_and, Bool.false_and, Bool.and_false, cond_false]; done)) hP hD hS dX9_errand_37

set_option maxHeartbeats 4000000 in
set_option maxRecDepth 100000 in
theorem ct_X9_rests (l : Launch) (E : cE) (a : Nat → Nat) (I : Nat → Nat → Nat) (tr : Int64) (h44 : I 44 0 ≤ 4) : Ct l E 0 yX9_rests cX9_rests 2 (some .int) [.ref (a 0)] (WC E a I tr) (some (.int (nI (I 44 0)))) (WC E a (up2 I 44 0 0) tr) := by
  refine Ct_of (plainFor_of_name (by decide)) (Nat.le_of_ble_eq_true rfl) ?_
  intro p e s m args below meth c A ls hE hP hD hS hl
  have hE : cEnv p s m args meth c E RX9 cX9_rests 2 (some .int) A := hE
  have hx := hE.1
  have hb := hE.2.1
  have hl : lv_has ls 2 [(0, .ref (a 0))] := hl
  have hP : va_P E.1 vwCl (WC E a I tr) s.heap := hP
  generalize hH : s.heap = H at hP hS ⊢
  have hS : va_S A s.heap H [] := by rw [hH]; exact hS
  clear hH
  refine lv_aload_n hx hb dX9_rests_0 rfl (lv_at hl 0 rfl) ?_
  refine gf_X9_44 hE hP (0) (gC_0 E a I tr) (v := .ref (a 5)) rfl dX9_rests_1 ?_
  refine gf_X9_182 hE hP (38) (gC_38 E a I tr) (v := .int (nI (I (44) (0)))) rfl dX9_rests_4 ?_
  refine lv_istore_n (lv' := [(1, .int (nI (I (44) (0)))), (0, .ref (a 0))]) hx hb dX9_rests_7 rfl hl (by decide) rfl (fun ls hl => ?_)
  refine lv_aload_n hx hb dX9_rests_8 rfl (lv_at hl 1 rfl) ?_
  refine gf_X9_44 hE hP (0) (gC_0 E a I tr) (v := .ref (a 5)) rfl dX9_rests_9 ?_
  refine lv_iconst (v := nI (0)) hx hb dX9_rests_12 (by decide) ?_
  refine pf_X9_182 hE hP hD hS (38) (gC_38 E a I tr) rfl rfl (Nat.le_of_ble_eq_true rfl) (sC_38_5 E a I tr (0)) dX9_rests_13 (fun H locs hP hD hS => ?_)
  refine lv_iload_n hx hb dX9_rests_16 rfl (lv_at hl 0 rfl) ?_
  exact ret_i hE (r := nI (I (44) (0))) (rfl) hP hD hS dX9_rests_17

set_option maxHeartbeats 4000000 in
set_option maxRecDepth 100000 in
theorem ct_X9_forget (l : Launch) (E : cE) (a : Nat → Nat) (I : Nat → Nat → Nat) (tr : Int64) (h44 : I 47 0 ≤ 8) : Ct l E 0 yX9_forget cX9_forget 2 (some .int) [.ref (a 0)] (WC E a I tr) (some (.int (nI (I 47 0)))) (WC E a (up2 I 47 0 0) tr) := by
  refine Ct_of (plainFor_of_name (by decide)) (Nat.le_of_ble_eq_true rfl) ?_
  intro p e s m args below meth c A ls hE hP hD hS hl
  have hE : cEnv p s m args meth c E RX9 cX9_forget 2 (some .int) A := hE
  have hx := hE.1
  have hb := hE.2.1
  have hl : lv_has ls 2 [(0, .ref (a 0))] := hl
  have hP : va_P E.1 vwCl (WC E a I tr) s.heap := hP
  generalize hH : s.heap = H at hP hS ⊢
  have hS : va_S A s.heap H [] := by rw [hH]; exact hS
  clear hH
  refine lv_aload_n hx hb dX9_forget_0 rfl (lv_at hl 0 rfl) ?_
  refine gf_X9_51 hE hP (0) (gC_0 E a I tr) (v := .ref (a 6)) rfl dX9_forget_1 ?_
  refine gf_X9_212 hE hP (43) (gC_43 E a I tr) (v := .int (nI (I (47) (0)))) rfl dX9_forget_4 ?_
  refine lv_istore_n (lv' := [(1, .int (nI (I (47) (0)))), (0, .ref (a 0))]) hx hb dX9_forget_7 rfl hl (by decide) rfl (fun ls hl => ?_)
  refine lv_aload_n hx hb dX9_forget_8 rfl (lv_at hl 1 rfl) ?_
  refine gf_X9_51 hE hP (0) (gC_0 E a I tr) (v := .ref (a 6)) rfl dX9_forget_9 ?_
  refine lv_iconst (v := nI (0)) hx hb dX9_forget_12 (by decide) ?_
  refine pf_X9_212 hE hP hD hS (43) (gC_43 E a I tr) rfl rfl (Nat.le_of_ble_eq_true rfl) (sC_43_3 E a I tr (0)) dX9_forget_13 (fun H locs hP hD hS => ?_)
  refine lv_iload_n hx hb dX9_forget_16 rfl (lv_at hl 0 rfl) ?_
  exact ret_i hE (r := nI (I (47) (0))) (rfl) hP hD hS dX9_forget_17

set_option maxHeartbeats 4000000 in
set_option maxRecDepth 100000 in
theorem ct_X9_clear (l : Launch) (E : cE) (a : Nat → Nat) (I : Nat → Nat → Nat) (tr : Int64) (h44 : I 1 0 ≤ 300) : Ct l E 0 yX9_clear cX9_clear 2 (some .int) [.ref (a 0)] (WC E a I tr) (some (.int (nI (I 1 0)))) (WC E a (up2 I 1 0 0) tr) := by
  refine Ct_of (plainFor_of_name (by decide)) (Nat.le_of_ble_eq_true rfl) ?_
  intro p e s m args below meth c A ls hE hP hD hS hl
  have hE : cEnv p s m args meth c E RX9 cX9_clear 2 (some .int) A := hE
  have hx := hE.1
  have hb := hE.2.1
  have hl : lv_has ls 2 [(0, .ref (a 0))] := hl
  have hP : va_P E.1 vwCl (WC E a I tr) s.heap := hP
  generalize hH : s.heap = H at hP hS ⊢
  have hS : va_S A s.heap H [] := by rw [hH]; exact hS
  clear hH
  refine lv_aload_n hx hb dX9_clear_0 rfl (lv_at hl 0 rfl) ?_
  refine gf_X9_10 hE hP (0) (gC_0 E a I tr) (v := .ref (a 1)) rfl dX9_clear_1 ?_
  refine gf_X9_77 hE hP (1) (gC_1 E a I tr) (v := .int (nI (I (1) (0)))) rfl dX9_clear_4 ?_
  refine lv_istore_n (lv' := [(1, .int (nI (I (1) (0)))), (0, .ref (a 0))]) hx hb dX9_clear_7 rfl hl (by decide) rfl (fun ls hl => ?_)
  refine lv_aload_n hx hb dX9_clear_8 rfl (lv_at hl 1 rfl) ?_
  refine gf_X9_10 hE hP (0) (gC_0 E a I tr) (v := .ref (a 1)) rfl dX9_clear_9 ?_
  refine lv_iconst (v := nI (0)) hx hb dX9_clear_12 (by decide) ?_
  refine pf_X9_77 hE hP hD hS (1) (gC_1 E a I tr) rfl rfl (Nat.le_of_ble_eq_true rfl) (sC_1_1 E a I tr (0)) dX9_clear_13 (fun H locs hP hD hS => ?_)
  refine lv_iload_n hx hb dX9_clear_16 rfl (lv_at hl 0 rfl) ?_
  exact ret_i hE (r := nI (I (1) (0))) (rfl) hP hD hS dX9_clear_17

theorem sn_i {c : Nat} {p : Int32} (hc : c ≤ 4) (h1 : -1 ≤ p) (h2 : ¬ p = -1) (h3 : ¬ nI c ≤ p) : ∃ i : Nat, i < c ∧ p = nI i := by
  obtain ⟨j, hj, rfl⟩ := nI_of (x := p) (fun z => by
    rw [Int32.le_iff_toInt_le] at h1
    rw [Int32.lt_iff_toInt_lt] at z
    apply h2
    apply Int32.toInt_inj.mp
    have e0 : (0 : Int32).toInt = 0 := rfl
    have e1 : (-1 : Int32).toInt = -1 := rfl
    omega)
  exact ⟨j, Nat.not_le.mp (fun z => h3 ((nI_leI (by omega) hj).mpr z)), rfl⟩

set_option maxHeartbeats 4000000 in
set_option maxRecDepth 100000 in
theorem ct_X9_soonest (l : Launch) (E : cE) (a : Nat → Nat) (I : Nat → Nat → Nat) (tr : Int64) (zp0 zp1 : Int32) (hI : CK I) (hEK : EK I) : Ct l E 5 yX9_soonest cX9_soonest 4 (some .int) [.ref (a 0), .int (zp0), .int (zp1)] (WC E a I tr) (some (.int (r_soonest (I 13 0) (seC I) (sxC I) (I 44 0) zp0 zp1))) (WC E a I tr) := by
  refine Ct_of (plainFor_of_name (by decide)) (Nat.le_of_ble_eq_true rfl) ?_
  intro p e s m args below meth c A ls hE hP hD hS hl
  have hE : cEnv p s m args meth c E RX9 cX9_soonest 4 (some .int) A := hE
  have hx := hE.1
  have hb := hE.2.1
  have hl : lv_has ls 4 [(0, .ref (a 0)), (1, .int (zp0)), (2, .int (zp1))] := hl
  have hP : va_P E.1 vwCl (WC E a I tr) s.heap := hP
  generalize hH : s.heap = H at hP hS ⊢
  have hS : va_S A s.heap H [] := by rw [hH]; exact hS
  clear hH
  have hc6 := hI.1
  have hc4 := hEK.1
  refine lv_aload_n hx hb dX9_soonest_0 rfl (lv_at hl 0 rfl) ?_
  refine gf_X9_28 hE hP (0) (gC_0 E a I tr) (v := .ref (a 3)) rfl dX9_soonest_1 ?_
  refine lv_iload_n hx hb dX9_soonest_4 rfl (lv_at hl 1 rfl) ?_
  refine call_V (As := [.int (zp0)]) (rest := []) hE (ct_X0_has l E a I tr ((zp0)) (hI).1) cm_X0_has (uw mt_L_X9_100 rfl) (gC_4 E a I tr) rfl rfl hP hD hS hl.1 rfl rfl (Nat.le_of_ble_eq_true rfl) ⟨by decide, by decide⟩ dX9_soonest_5 (fun H locs hP hD hS => ?_)
  refine W.eq (g2 := F0 m 8 ls [.int (bB (inB ((zp0)) (I (13) (0))))]) rfl ?_
  refine bB_eq (tgt := 16) hx hb dX9_soonest_8 (by decide) (fun c8 => ?_) (fun c8 => ?_)
  · refine lv_iconst (v := (-1)) hx hb dX9_soonest_16 (by decide) ?_
    exact ret_i hE (r := (-1)) (by first | (simp only [r_soonest, c8, cond_false]; done) | (simp only [r_soonest, c8, kh, cond_true]; rw [if_pos (Int32.not_le.mp c13)]; done)) hP hD hS dX9_soonest_17
  · obtain ⟨h, qh, rfl⟩ := inB_t (by omega) c8
    have kh : tn (nI h) = h := tn_nI (by omega)
    refine lv_iload_n hx hb dX9_soonest_11 rfl (lv_at hl 2 rfl) ?_
    refine lv_iconst (v := (-1)) hx hb dX9_soonest_12 (by decide) ?_
    refine lv_icmp_ge (tgt := 18) hx hb dX9_soonest_13 (by decide) (fun c13 => ?_) (fun c13 => ?_)
    · refine lv_aload_n hx hb dX9_soonest_18 rfl (lv_at hl 0 rfl) ?_
      refine gf_X9_44 hE hP (0) (gC_0 E a I tr) (v := .ref (a 5)) rfl dX9_soonest_19 ?_
      refine lv_iload_n hx hb dX9_soonest_22 rfl (lv_at hl 1 rfl) ?_
      refine call_V (As := [.int (nI (h))]) (rest := []) hE (ct_X2_soonestOrder l E a I tr h hI hEK (by omega)) cm_X2_soonestOrder (uw mt_L_X9_188 rfl) (gC_38 E a I tr) rfl rfl hP hD hS hl.1 rfl rfl (Nat.le_of_ble_eq_true rfl) ⟨by decide, by decide⟩ dX9_soonest_23 (fun H locs hP hD hS => ?_)
      refine W.eq (g2 := F0 m 26 ls [.int (rN ((pb (soC I h) (2 ^ (2 * I 44 0))).1))]) rfl ?_
      have hp4 := p4 (I 44 0) hEK.1
      have hpb := pb1_le (soC I h) (2 ^ (2 * I 44 0))
      refine lv_istore_n (lv' := [(3, .int (rN ((pb (soC I h) (2 ^ (2 * I 44 0))).1))), (0, .ref (a 0)), (1, .int (nI (h))), (2, .int (zp1))]) hx hb dX9_soonest_26 rfl hl (by decide) rfl (fun ls hl => ?_)
      refine lv_iload_n hx hb dX9_soonest_27 rfl (lv_at hl 0 rfl) ?_
      refine lv_bipush (v := (-9)) hx hb dX9_soonest_28 (by decide) ?_
      refine bQ9_ne (tgt := 36) hx hb (by omega) dX9_soonest_30 (by decide) (fun c30 => ?_) (fun c30 => ?_)
      · have hs := seC_1 (I := I) (h := h) c30
        have hs1 := hs.1
        have hs2 := hs.2.1
        have hs3 := hs.2.2.1
        have hs4 := hs.2.2.2.1
        have hs5 := hs.2.2.2.2
        rw [rN_pos (hs4)] at hl
        refine lv_iload_n hx hb dX9_soonest_36 rfl (lv_at hl 3 rfl) ?_
        refine lv_iconst (v := (-1)) hx hb dX9_soonest_37 (by decide) ?_
        refine lv_icmp_ne (tgt := 51) hx hb dX9_soonest_38 (by decide) (fun c38 => ?_) (fun c38 => ?_)
        · refine lv_iload_n hx hb dX9_soonest_51 rfl (lv_at hl 3 rfl) ?_
          refine lv_aload_n hx hb dX9_soonest_52 rfl (lv_at hl 1 rfl) ?_
          refine gf_X9_44 hE hP (0) (gC_0 E a I tr) (v := .ref (a 5)) rfl dX9_soonest_53 ?_
          refine gf_X9_182 hE hP (38) (gC_38 E a I tr) (v := .int (nI (I (44) (0)))) rfl dX9_soonest_56 ?_
          refine lv_icmp_ge (tgt := 74) hx hb dX9_soonest_59 (by decide) (fun c59 => ?_) (fun c59 => ?_)
          · refine lv_bipush (v := (-5)) hx hb dX9_soonest_74 (by decide) ?_
            exact ret_i hE (r := (-5)) (by simp only [r_soonest, c8, kh, cond_true]; rw [if_neg (Int32.not_lt.mpr c13), if_neg (show ¬ seC I h = 0 by omega), if_neg c38, if_neg (Int32.not_lt.mpr c59)]) hP hD hS dX9_soonest_76
          · have hi0 : ∃ i : Nat, i < I 44 0 ∧ zp1 = nI i := sn_i hEK.1 c13 c38 c59
            obtain ⟨i, qi, rfl⟩ := hi0
            have ki : tn (nI i) = i := tn_nI (by omega)
            refine lv_aload_n hx hb dX9_soonest_62 rfl (lv_at hl 1 rfl) ?_
            refine gf_X9_44 hE hP (0) (gC_0 E a I tr) (v := .ref (a 5)) rfl dX9_soonest_63 ?_
            refine lv_iload_n hx hb dX9_soonest_66 rfl (lv_at hl 0 rfl) ?_
            refine lv_iload_n hx hb dX9_soonest_67 rfl (lv_at hl 3 rfl) ?_
            refine call_V (As := [.int (nI ((pb (soC I h) (2 ^ (2 * I 44 0))).1 - 9)), .int (nI (i))]) (rest := []) hE (ct_X2_inOrder l E a I tr ((pb (soC I h) (2 ^ (2 * I 44 0))).1 - 9) i hEK.1 (by omega) (by omega)) cm_X2_inOrder (uw mt_L_X9_194 rfl) (gC_38 E a I tr) rfl rfl hP hD hS hl.1 rfl rfl (Nat.le_of_ble_eq_true rfl) ⟨by decide, by decide⟩ dX9_soonest_68 (fun H locs hP hD hS => ?_)
            refine W.eq (g2 := F0 m 71 ls [.int (nI (ioC (I 44 0) ((pb (soC I h) (2 ^ (2 * I 44 0))).1 - 9) i))]) rfl ?_
            refine lv_goto (tgt := 76) hx hb dX9_soonest_71 (by decide) ?_
            exact ret_i hE (r := nI (ioC (I 44 0) ((pb (soC I h) (2 ^ (2 * I 44 0))).1 - 9) i)) (by simp only [r_soonest, c8, kh, ki, cond_true]; rw [if_neg (Int32.not_lt.mpr c13), if_neg (show ¬ seC I h = 0 by omega), if_neg c38, if_pos (Int32.not_le.mp c59)]; rfl) hP hD hS dX9_soonest_76
        · refine lv_aload_n hx hb dX9_soonest_41 rfl (lv_at hl 1 rfl) ?_
          refine gf_X9_44 hE hP (0) (gC_0 E a I tr) (v := .ref (a 5)) rfl dX9_soonest_42 ?_
          refine lv_iload_n hx hb dX9_soonest_45 rfl (lv_at hl 0 rfl) ?_
          refine lv_iload_n hx hb dX9_soonest_46 rfl (lv_at hl 2 rfl) ?_
          refine call_V (As := [.int (nI ((pb (soC I h) (2 ^ (2 * I 44 0))).1 - 9)), .int (nI (h))]) (rest := []) hE (ct_X2_endOf l E a I tr ((pb (soC I h) (2 ^ (2 * I 44 0))).1 - 9) h hI hEK (by omega) (oC_lt hs1) (by omega)) cm_X2_endOf (uw mt_L_X9_191 rfl) (gC_38 E a I tr) rfl rfl hP hD hS hl.1 rfl rfl (Nat.le_of_ble_eq_true rfl) ⟨by decide, by decide⟩ dX9_soonest_47 (fun H locs hP hD hS => ?_)
          refine W.eq (g2 := F0 m 50 ls [.int (rN (enC I (ioC (I 44 0) ((pb (soC I h) (2 ^ (2 * I 44 0))).1 - 9)) h))]) rfl ?_
          exact ret_i hE (r := rN (enC I (ioC (I 44 0) ((pb (soC I h) (2 ^ (2 * I 44 0))).1 - 9)) h)) (by simp only [r_soonest, c8, kh, cond_true]; rw [if_neg (Int32.not_lt.mpr c13), if_neg (show ¬ seC I h = 0 by omega), if_pos c38, hs2]) hP hD hS dX9_soonest_50
      · refine lv_bipush (v := (-9)) hx hb dX9_soonest_33 (by decide) ?_
        exact ret_i hE (r := (-9)) (by simp only [r_soonest, c8, kh, cond_true]; rw [if_neg (Int32.not_lt.mpr c13), if_pos (seC_0 c30)]) hP hD hS dX9_soonest_35
    · refine lv_iconst (v := (-1)) hx hb dX9_soonest_16 (by decide) ?_
      exact ret_i hE (r := (-1)) (by first | (simp only [r_soonest, c8, cond_false]; done) | (simp only [r_soonest, c8, kh, cond_true]; rw [if_pos (Int32.not_le.mp c13)]; done)) hP hD hS dX9_soonest_17

set_option maxHeartbeats 4000000 in
set_option maxRecDepth 100000 in
theorem ct_X9_party (l : Launch) (E : cE) (a : Nat → Nat) (I : Nat → Nat → Nat) (tr : Int64) (zp0 : Int32) (hI : CK I) : Ct l E 4 yX9_party cX9_party 2 (some .int) [.ref (a 0), .int (zp0)] (WC E a I tr) (some (.int (r_party (I 13 0) (shC I) zp0))) (WC E a I tr) := by
  refine Ct_of (plainFor_of_name (by decide)) (Nat.le_of_ble_eq_true rfl) ?_
  intro p e s m args below meth c A ls hE hP hD hS hl
  have hE : cEnv p s m args meth c E RX9 cX9_party 2 (some .int) A := hE
  have hx := hE.1
  have hb := hE.2.1
  have hl : lv_has ls 2 [(0, .ref (a 0)), (1, .int (zp0))] := hl
  have hP : va_P E.1 vwCl (WC E a I tr) s.heap := hP
  generalize hH : s.heap = H at hP hS ⊢
  have hS : va_S A s.heap H [] := by rw [hH]; exact hS
  clear hH
  have hc6 := hI.1
  refine lv_iload_n hx hb dX9_party_0 rfl (lv_at hl 1 rfl) ?_
  refine lv_iconst (v := (-1)) hx hb dX9_party_1 (by decide) ?_
  refine lv_icmp_ne (tgt := 13) hx hb dX9_party_2 (by decide) (fun c2 => ?_) (fun c2 => ?_)
  · refine lv_iload_n hx hb dX9_party_13 rfl (lv_at hl 1 rfl) ?_
    refine call_S (As := [.int (zp0)]) (rest := []) hE (ct_X9_isNumber l E (WC E a I tr) ((zp0))) cm_X9_isNumber (uw mt_L_X9_135 rfl) hP hD hS hl.1 rfl rfl (Nat.le_of_ble_eq_true rfl) ⟨by decide, by decide⟩ dX9_party_14 (fun H locs hP hD hS => ?_)
    refine W.eq (g2 := F0 m 17 ls [.int (bB (inB ((zp0)) 48))]) rfl ?_
    refine bB_eq (tgt := 31) hx hb dX9_party_17 (by decide) (fun c17 => ?_) (fun c17 => ?_)
    · refine lv_iconst (v := (-1)) hx hb dX9_party_31 (by decide) ?_
      exact ret_i hE (r := (-1)) (by first | (rw [r_party, if_neg c2]; simp only [c17, cond_false]; done) | (rw [r_party, if_neg c2]; simp only [c17, kn, cond_true]; done)) hP hD hS dX9_party_32
    · obtain ⟨n, qn, rfl⟩ := inB_t (by omega) c17
      have kn : tn (nI n) = n := tn_nI (by omega)
      refine lv_aload_n hx hb dX9_party_20 rfl (lv_at hl 0 rfl) ?_
      refine gf_X9_28 hE hP (0) (gC_0 E a I tr) (v := .ref (a 3)) rfl dX9_party_21 ?_
      refine lv_iload_n hx hb dX9_party_24 rfl (lv_at hl 1 rfl) ?_
      refine call_V (As := [.int (nI (n))]) (rest := []) hE (ct_X0_spread l E a I tr n hI (by omega)) cm_X0_spread (uw mt_L_X9_200 rfl) (gC_4 E a I tr) rfl rfl hP hD hS hl.1 rfl rfl (Nat.le_of_ble_eq_true rfl) ⟨by decide, by decide⟩ dX9_party_25 (fun H locs hP hD hS => ?_)
      refine W.eq (g2 := F0 m 28 ls [.int (rN (sprE (fun u => fst (shC I u) n 0) (I 13 0)))]) rfl ?_
      refine lv_goto (tgt := 32) hx hb dX9_party_28 (by decide) ?_
      exact ret_i hE (r := rN (sprE (fun u => fst (shC I u) n 0) (I 13 0))) (by first | (rw [r_party, if_neg c2]; simp only [c17, cond_false]; done) | (rw [r_party, if_neg c2]; simp only [c17, kn, cond_true]; done)) hP hD hS dX9_party_32
  · refine lv_aload_n hx hb dX9_party_5 rfl (lv_at hl 0 rfl) ?_
    refine gf_X9_28 hE hP (0) (gC_0 E a I tr) (v := .ref (a 3)) rfl dX9_party_6 ?_
    refine call_V (As := []) (rest := []) hE (ct_X0_numberOfLeastSpread l E a I tr hI) cm_X0_numberOfLeastSpread (uw mt_L_X9_197 rfl) (gC_4 E a I tr) rfl rfl hP hD hS hl.1 rfl rfl (Nat.le_of_ble_eq_true rfl) ⟨by decide, by decide⟩ dX9_party_9 (fun H locs hP hD hS => ?_)
    refine W.eq (g2 := F0 m 12 ls [.int (rN ((pb (fun v => sprE (fun u => fst (shC I u) v 0) (I 13 0)) 48).1))]) rfl ?_
    exact ret_i hE (r := rN ((pb (fun v => sprE (fun u => fst (shC I u) v 0) (I 13 0)) 48).1)) (by rw [r_party, if_pos c2]) hP hD hS dX9_party_12

theorem am_lt48 (T : Nat → Nat) : am T 48 < 48 := by
  have := am_lt T 47
  rw [am]
  split <;> omega

set_option maxHeartbeats 4000000 in
set_option maxRecDepth 100000 in
theorem ct_X9_treaty (l : Launch) (E : cE) (a : Nat → Nat) (I : Nat → Nat → Nat) (tr : Int64) (zp0 zp1 zp2 : Int32) (hI : CK I) : Ct l E 4 yX9_treaty cX9_treaty 5 (some .int) [.ref (a 0), .int (zp0), .int (zp1), .int (zp2)] (WC E a I tr) (some (.int (r_treaty (I 13 0) (shC I) zp0 zp1 zp2))) (WC E a (treI I zp0 zp1 zp2) tr) := by
  refine Ct_of (plainFor_of_name (by decide)) (Nat.le_of_ble_eq_true rfl) ?_
  intro p e s m args below meth c A ls hE hP hD hS hl
  have hE : cEnv p s m args meth c E RX9 cX9_treaty 5 (some .int) A := hE
  have hx := hE.1
  have hb := hE.2.1
  have hl : lv_has ls 5 [(0, .ref (a 0)), (1, .int (zp0)), (2, .int (zp1)), (3, .int (zp2))] := hl
  have hP : va_P E.1 vwCl (WC E a I tr) s.heap := hP
  generalize hH : s.heap = H at hP hS ⊢
  have hS : va_S A s.heap H [] := by rw [hH]; exact hS
  clear hH
  have hc6 := hI.1
  refine lv_aload_n hx hb dX9_treaty_0 rfl (lv_at hl 0 rfl) ?_
  refine gf_X9_28 hE hP (0) (gC_0 E a I tr) (v := .ref (a 3)) rfl dX9_treaty_1 ?_
  refine lv_iload_n hx hb dX9_treaty_4 rfl (lv_at hl 1 rfl) ?_
  refine lv_iload_n hx hb dX9_treaty_5 rfl (lv_at hl 2 rfl) ?_
  refine call_V (As := [.int (zp0), .int (zp1)]) (rest := []) hE (ct_X0_hasBoth l E a I tr ((zp0)) ((zp1)) hI) cm_X0_hasBoth (uw mt_L_X9_155 rfl) (gC_4 E a I tr) rfl rfl hP hD hS hl.1 rfl rfl (Nat.le_of_ble_eq_true rfl) ⟨by decide, by decide⟩ dX9_treaty_6 (fun H locs hP hD hS => ?_)
  refine W.eq (g2 := F0 m 9 ls [.int (bB (hb2 (I (13) (0)) ((zp0)) ((zp1))))]) rfl ?_
  refine bB_eq (tgt := 21) hx hb dX9_treaty_9 (by decide) (fun c9 => ?_) (fun c9 => ?_)
  · refine lv_iconst (v := (-1)) hx hb dX9_treaty_21 (by decide) ?_
    have hw : I = (treI I zp0 zp1 zp2) := by first | (simp only [treI, c9, cond_false]; done) | (simp only [treI, c9, c18, cond_true, cond_false]; done)
    have hP := Eq.mp (congrArg (fun q => va_P E.1 vwCl (WC E a q tr) H) hw) hP
    have hD := Eq.mp (congrArg (fun q => va_D A (WC E a q tr)) hw) hD
    exact ret_i hE (r := (-1)) (by first | (simp only [r_treaty, c9, cond_false]; done) | (simp only [r_treaty, c9, c18, cond_true, cond_false]; done)) hP hD hS dX9_treaty_22
  · obtain ⟨x, y, hx6, hy6, hxy, rfl, rfl⟩ := hb2_t (by omega) c9
    have kx : tn (nI x) = x := tn_nI (by omega)
    have ky : tn (nI y) = y := tn_nI (by omega)
    refine lv_iload_n hx hb dX9_treaty_12 rfl (lv_at hl 3 rfl) ?_
    refine lv_iconst (v := nI (0)) hx hb dX9_treaty_13 (by decide) ?_
    refine lv_iconst (v := nI (1)) hx hb dX9_treaty_14 (by decide) ?_
    refine call_S (As := [.int (zp2), .int (nI (0)), .int (nI (1))]) (rest := []) hE (ct_X9_isWithin l E (WC E a I tr) ((zp2)) (nI (0)) (nI (1))) cm_X9_isWithin (uw mt_L_X9_73 rfl) hP hD hS hl.1 rfl rfl (Nat.le_of_ble_eq_true rfl) ⟨by decide, by decide⟩ dX9_treaty_15 (fun H locs hP hD hS => ?_)
    refine W.eq (g2 := F0 m 18 ls [.int (bB (wi ((zp2)) (nI (0)) (nI (1))))]) rfl ?_
    refine bB_ne (tgt := 23) hx hb dX9_treaty_18 (by decide) (fun c18 => ?_) (fun c18 => ?_)
    · obtain ⟨j, qj1, qj2, rfl⟩ := wi_of (by decide) (by decide) c18
      have kj : tn (nI j) = j := tn_nI (by omega)
      refine lv_aload_n hx hb dX9_treaty_23 rfl (lv_at hl 0 rfl) ?_
      refine gf_X9_28 hE hP (0) (gC_0 E a I tr) (v := .ref (a 3)) rfl dX9_treaty_24 ?_
      refine lv_iload_n hx hb dX9_treaty_27 rfl (lv_at hl 1 rfl) ?_
      refine lv_iload_n hx hb dX9_treaty_28 rfl (lv_at hl 2 rfl) ?_
      refine call_V (As := [.int (nI (x)), .int (nI (y))]) (rest := []) hE (ct_X0_tallyTurns l E a I tr x y hI (by omega) (by omega)) cm_X0_tallyTurns (uw mt_L_X9_203 rfl) (gC_4 E a I tr) rfl rfl hP hD hS hl.1 rfl rfl (Nat.le_of_ble_eq_true rfl) ⟨by decide, by decide⟩ dX9_treaty_29 (fun H locs hP hD hS => ?_)
      refine W.eq (g2 := F0 m 32 ls []) rfl ?_
      have hT : ∀ v, v < 48 → tlU (flN (I 12) 48 0) (fun u => fm (shC I x u) (shC I y u)) 96 v = trT (shC I) x y v := fun v hv => by rw [tlU_eq, flN, if_pos hv, Nat.zero_add]; rfl
      have hT2 : ∀ v, v < 48 → tlU (flN (I 12) 48 0) (fun u => fm (shC I x u) (shC I y u)) 96 v ≤ 96 := fun v hv => by rw [hT v hv]; exact cnt_le _ _
      have hA : am (tlU (flN (I 12) 48 0) (fun u => fm (shC I x u) (shC I y u)) 96) 48 = am (trT (shC I) x y) 48 := am_congr 48 (by decide) (fun u hu => hT u hu)
      refine lv_aload_n hx hb dX9_treaty_32 rfl (lv_at hl 0 rfl) ?_
      refine gf_X9_28 hE hP (0) (gC_0 E a (upA I (12) (tlU (flN (I 12) 48 0) (fun u => fm (shC I x u) (shC I y u)) 96)) tr) (v := .ref (a 3)) rfl dX9_treaty_33 ?_
      refine call_V (As := []) (rest := []) hE (ct_X0_bestTallied l E a (upA I (12) (tlU (flN (I 12) 48 0) (fun u => fm (shC I x u) (shC I y u)) 96)) tr hT2) cm_X0_bestTallied (uw mt_L_X9_206 rfl) (gC_4 E a (upA I (12) (tlU (flN (I 12) 48 0) (fun u => fm (shC I x u) (shC I y u)) 96)) tr) rfl rfl hP hD hS hl.1 rfl rfl (Nat.le_of_ble_eq_true rfl) ⟨by decide, by decide⟩ dX9_treaty_36 (fun H locs hP hD hS => ?_)
      refine W.eq (g2 := F0 m 39 ls [.int (nI (am (tlU (flN (I 12) 48 0) (fun u => fm (shC I x u) (shC I y u)) 96) 48))]) rfl ?_
      rw [hA]
      have hA48 : am (trT (shC I) x y) 48 < 48 := am_lt48 _
      refine lv_istore (lv' := [(4, .int (nI (am (trT (shC I) x y) 48))), (0, .ref (a 0)), (1, .int (nI (x))), (2, .int (nI (y))), (3, .int (nI (j)))]) hx hb dX9_treaty_39 hl (by decide) rfl (fun ls hl => ?_)
      refine lv_iload_n hx hb dX9_treaty_41 rfl (lv_at hl 4 rfl) ?_
      refine bZ_ne (tgt := 50) hx hb (by omega) dX9_treaty_42 (by decide) (fun c42 => ?_) (fun c42 => ?_)
      · refine lv_aload_n hx hb dX9_treaty_50 rfl (lv_at hl 1 rfl) ?_
        refine gf_X9_28 hE hP (0) (gC_0 E a (upA I (12) (tlU (flN (I 12) 48 0) (fun u => fm (shC I x u) (shC I y u)) 96)) tr) (v := .ref (a 3)) rfl dX9_treaty_51 ?_
        refine gf_X9_209 hE hP (4) (gC_4 E a (upA I (12) (tlU (flN (I 12) 48 0) (fun u => fm (shC I x u) (shC I y u)) 96)) tr) (v := .ref (a 13)) rfl dX9_treaty_54 ?_
        refine lv_iload hx hb dX9_treaty_57 (lv_at hl 0 rfl) ?_
        refine ald_i hE hP (9) (gC_9 E a (upA I (12) (tlU (flN (I 12) 48 0) (fun u => fm (shC I x u) (shC I y u)) 96)) tr) (by omega) (by decide) (r := nI ((tlU (flN (I 12) 48 0) (fun u => fm (shC I x u) (shC I y u)) 96) (am (trT (shC I) x y) 48))) rfl dX9_treaty_59 ?_
        have hw : (upA I (12) (tlU (flN (I 12) 48 0) (fun u => fm (shC I x u) (shC I y u)) 96)) = (treI I (nI x) (nI y) (nI j)) := by simp only [treI, c9, c18, kx, ky, cond_true]
        have hP := Eq.mp (congrArg (fun q => va_P E.1 vwCl (WC E a q tr) H) hw) hP
        have hD := Eq.mp (congrArg (fun q => va_D A (WC E a q tr)) hw) hD
        exact ret_i hE (r := nI ((tlU (flN (I 12) 48 0) (fun u => fm (shC I x u) (shC I y u)) 96) (am (trT (shC I) x y) 48))) (by first | (simp only [r_treaty, c9, c18, kx, ky, cond_true]; subst c42; rw [if_pos rfl]; done) | (simp only [r_treaty, c9, c18, kx, ky, cond_true]; rw [if_neg (fun z => absurd ((nI_eq (by omega) (by decide)).mp z) (by omega)), hT _ hA48]; done)) hP hD hS dX9_treaty_60
      · refine lv_iload hx hb dX9_treaty_45 (lv_at hl 0 rfl) ?_
        refine lv_goto (tgt := 60) hx hb dX9_treaty_47 (by decide) ?_
        have hw : (upA I (12) (tlU (flN (I 12) 48 0) (fun u => fm (shC I x u) (shC I y u)) 96)) = (treI I (nI x) (nI y) (nI j)) := by simp only [treI, c9, c18, kx, ky, cond_true]
        have hP := Eq.mp (congrArg (fun q => va_P E.1 vwCl (WC E a q tr) H) hw) hP
        have hD := Eq.mp (congrArg (fun q => va_D A (WC E a q tr)) hw) hD
        exact ret_i hE (r := nI (am (trT (shC I) x y) 48)) (by first | (simp only [r_treaty, c9, c18, kx, ky, cond_true]; subst c42; rw [if_pos rfl]; done) | (simp only [r_treaty, c9, c18, kx, ky, cond_true]; rw [if_neg (fun z => absurd ((nI_eq (by omega) (by decide)).mp z) (by omega)), hT _ hA48]; done)) hP hD hS dX9_treaty_60
    · refine lv_iconst (v := (-1)) hx hb dX9_treaty_21 (by decide) ?_
      have hw : I = (treI I (nI x) (nI y) zp2) := by first | (simp only [treI, c9, cond_false]; done) | (simp only [treI, c9, c18, cond_true, cond_false]; done)
      have hP := Eq.mp (congrArg (fun q => va_P E.1 vwCl (WC E a q tr) H) hw) hP
      have hD := Eq.mp (congrArg (fun q => va_D A (WC E a q tr)) hw) hD
      exact ret_i hE (r := (-1)) (by first | (simp only [r_treaty, c9, cond_false]; done) | (simp only [r_treaty, c9, c18, cond_true, cond_false]; done)) hP hD hS dX9_treaty_22

set_option maxHeartbeats 4000000 in
set_option maxRecDepth 100000 in
theorem ct_X9_saw (l : Launch) (E : cE) (a : Nat → Nat) (I : Nat → Nat → Nat) (tr : Int64) (zp0 zp1 : Int32) (h47 : I 47 0 ≤ 8) : Ct l E 3 yX9_saw cX9_saw 3 (some .int) [.ref (a 0), .int (zp0), .int (zp1)] (WC E a I tr) (some (.int (r_saw (I 47 0) zp0 zp1))) (WC E a (sawI I zp0 zp1) tr) := by
  refine Ct_of (plainFor_of_name (by decide)) (Nat.le_of_ble_eq_true rfl) ?_
  intro p e s m args below meth c A ls hE hP hD hS hl
  have hE : cEnv p s m args meth c E RX9 cX9_saw 3 (some .int) A := hE
  have hx := hE.1
  have hb := hE.2.1
  have hl : lv_has ls 3 [(0, .ref (a 0)), (1, .int (zp0)), (2, .int (zp1))] := hl
  have hP : va_P E.1 vwCl (WC E a I tr) s.heap := hP
  generalize hH : s.heap = H at hP hS ⊢
  have hS : va_S A s.heap H [] := by rw [hH]; exact hS
  clear hH
  refine lv_iload_n hx hb dX9_saw_0 rfl (lv_at hl 1 rfl) ?_
  refine call_S (As := [.int (zp0)]) (rest := []) hE (ct_X9_isQuarter l E (WC E a I tr) ((zp0))) cm_X9_isQuarter (uw mt_L_X9_128 rfl) hP hD hS hl.1 rfl rfl (Nat.le_of_ble_eq_true rfl) ⟨by decide, by decide⟩ dX9_saw_1 (fun H locs hP hD hS => ?_)
  refine W.eq (g2 := F0 m 4 ls [.int (bB (inB ((zp0)) 96))]) rfl ?_
  refine bB_eq (tgt := 14) hx hb dX9_saw_4 (by decide) (fun c4 => ?_) (fun c4 => ?_)
  · refine lv_iconst (v := (-1)) hx hb dX9_saw_14 (by decide) ?_
    have hw : I = (sawI I zp0 zp1) := by first | (simp only [sawI, c4, cond_false]; done) | (simp only [sawI, c4, c11, cond_true, cond_false]; done)
    have hP := Eq.mp (congrArg (fun q => va_P E.1 vwCl (WC E a q tr) H) hw) hP
    have hD := Eq.mp (congrArg (fun q => va_D A (WC E a q tr)) hw) hD
    exact ret_i hE (r := (-1)) (by first | (simp only [r_saw, c4, cond_false]; done) | (simp only [r_saw, c4, c11, cond_true, cond_false]; done)) hP hD hS dX9_saw_15
  · obtain ⟨t, qt, rfl⟩ := inB_t (by omega) c4
    have kt : tn (nI t) = t := tn_nI (by omega)
    refine lv_iload_n hx hb dX9_saw_7 rfl (lv_at hl 2 rfl) ?_
    refine call_S (As := [.int (zp1)]) (rest := []) hE (ct_X9_isNumber l E (WC E a I tr) ((zp1))) cm_X9_isNumber (uw mt_L_X9_135 rfl) hP hD hS hl.1 rfl rfl (Nat.le_of_ble_eq_true rfl) ⟨by decide, by decide⟩ dX9_saw_8 (fun H locs hP hD hS => ?_)
    refine W.eq (g2 := F0 m 11 ls [.int (bB (inB ((zp1)) 48))]) rfl ?_
    refine bB_ne (tgt := 16) hx hb dX9_saw_11 (by decide) (fun c11 => ?_) (fun c11 => ?_)
    · obtain ⟨n, qn, rfl⟩ := inB_t (by omega) c11
      have kn : tn (nI n) = n := tn_nI (by omega)
      refine lv_aload_n hx hb dX9_saw_16 rfl (lv_at hl 0 rfl) ?_
      refine gf_X9_51 hE hP (0) (gC_0 E a I tr) (v := .ref (a 6)) rfl dX9_saw_17 ?_
      refine gf_X9_212 hE hP (43) (gC_43 E a I tr) (v := .int (nI (I (47) (0)))) rfl dX9_saw_20 ?_
      refine lv_bipush (v := nI (8)) hx hb dX9_saw_23 (by decide) ?_
      refine bN_lt (tgt := 31) hx hb (by omega) (by omega) dX9_saw_25 (by decide) (fun c25 => ?_) (fun c25 => ?_)
      · refine lv_aload_n hx hb dX9_saw_31 rfl (lv_at hl 0 rfl) ?_
        refine gf_X9_51 hE hP (0) (gC_0 E a I tr) (v := .ref (a 6)) rfl dX9_saw_32 ?_
        refine lv_iload_n hx hb dX9_saw_35 rfl (lv_at hl 1 rfl) ?_
        refine lv_iload_n hx hb dX9_saw_36 rfl (lv_at hl 2 rfl) ?_
        refine call_V (As := [.int (nI (t)), .int (nI (n))]) (rest := []) hE (ct_X8_add l E a I tr t n c25) cm_X8_add (uw mt_L_X9_213 rfl) (gC_43 E a I tr) rfl rfl hP hD hS hl.1 rfl rfl (Nat.le_of_ble_eq_true rfl) ⟨by decide, by decide⟩ dX9_saw_37 (fun H locs hP hD hS => ?_)
        refine W.eq (g2 := F0 m 40 ls []) rfl ?_
        refine lv_aload_n hx hb dX9_saw_40 rfl (lv_at hl 0 rfl) ?_
        refine gf_X9_51 hE hP (0) (gC_0 E a (up2 (up2 (up2 I (45) (I (47) (0)) (t)) (46) (I (47) (0)) (n)) (47) (0) (I 47 0 + 1)) tr) (v := .ref (a 6)) rfl dX9_saw_41 ?_
        refine gf_X9_212 hE hP (43) (gC_43 E a (up2 (up2 (up2 I (45) (I (47) (0)) (t)) (46) (I (47) (0)) (n)) (47) (0) (I 47 0 + 1)) tr) (v := .int (nI (I 47 0 + 1))) rfl dX9_saw_44 ?_
        have hw : (up2 (up2 (up2 I (45) (I (47) (0)) (t)) (46) (I (47) (0)) (n)) (47) (0) (I 47 0 + 1)) = (sawI I (nI t) (nI n)) := by simp only [sawI, c4, c11, kt, kn, cond_true]; rw [if_pos c25]; rfl
        have hP := Eq.mp (congrArg (fun q => va_P E.1 vwCl (WC E a q tr) H) hw) hP
        have hD := Eq.mp (congrArg (fun q => va_D A (WC E a q tr)) hw) hD
        exact ret_i hE (r := nI (I 47 0 + 1)) (by simp only [r_saw, c4, c11, cond_true]; rw [if_pos c25]) hP hD hS dX9_saw_47
      · refine lv_bipush (v := (-3)) hx hb dX9_saw_28 (by decide) ?_
        have hw : I = (sawI I (nI t) (nI n)) := by simp only [sawI, c4, c11, cond_true]; rw [if_neg (by omega)]
        have hP := Eq.mp (congrArg (fun q => va_P E.1 vwCl (WC E a q tr) H) hw) hP
        have hD := Eq.mp (congrArg (fun q => va_D A (WC E a q tr)) hw) hD
        exact ret_i hE (r := (-3)) (by simp only [r_saw, c4, c11, cond_true]; rw [if_neg (by omega)]) hP hD hS dX9_saw_30
    · refine lv_iconst (v := (-1)) hx hb dX9_saw_14 (by decide) ?_
      have hw : I = (sawI I (nI t) zp1) := by first | (simp only [sawI, c4, cond_false]; done) | (simp only [sawI, c4, c11, cond_true, cond_false]; done)
      have hP := Eq.mp (congrArg (fun q => va_P E.1 vwCl (WC E a q tr) H) hw) hP
      have hD := Eq.mp (congrArg (fun q => va_D A (WC E a q tr)) hw) hD
      exact ret_i hE (r := (-1)) (by first | (simp only [r_saw, c4, cond_false]; done) | (simp only [r_saw, c4, c11, cond_true, cond_false]; done)) hP hD hS dX9_saw_15

theorem mq_lt96 (U : Nat → Nat) : (mq U 96).1 < 96 := by
  have := mq_le U 95
  rw [mq]
  split
  · show 95 < 96; omega
  · omega

set_option maxHeartbeats 4000000 in
set_option maxRecDepth 100000 in
theorem ct_X9_whose (l : Launch) (E : cE) (a : Nat → Nat) (I : Nat → Nat → Nat) (tr : Int64) (zp0 : Int32) (hI : CK I) (hW : WK I) : Ct l E 4 yX9_whose cX9_whose 4 (some .int) [.ref (a 0), .int (zp0)] (WC E a I tr) (some (.int (r_whose (btU (fun h => cdB (shC I h) (I 45) (I 46) (I 47 0)) (I 13 0)) (fun t => ulC (fun u => shC I u t) (btU (fun h => cdB (shC I h) (I 45) (I 46) (I 47 0)) (I 13 0)) (I 13 0)) zp0))) (WC E a I tr) := by
  refine Ct_of (plainFor_of_name (by decide)) (Nat.le_of_ble_eq_true rfl) ?_
  intro p e s m args below meth c A ls hE hP hD hS hl
  have hE : cEnv p s m args meth c E RX9 cX9_whose 4 (some .int) A := hE
  have hx := hE.1
  have hb := hE.2.1
  have hl : lv_has ls 4 [(0, .ref (a 0)), (1, .int (zp0))] := hl
  have hP : va_P E.1 vwCl (WC E a I tr) s.heap := hP
  generalize hH : s.heap = H at hP hS ⊢
  have hS : va_S A s.heap H [] := by rw [hH]; exact hS
  clear hH
  have hc6 := hI.1
  refine lv_iload_n hx hb dX9_whose_0 rfl (lv_at hl 1 rfl) ?_
  refine lv_iconst (v := nI (0)) hx hb dX9_whose_1 (by decide) ?_
  refine lv_iconst (v := nI (2)) hx hb dX9_whose_2 (by decide) ?_
  refine call_S (As := [.int (zp0), .int (nI (0)), .int (nI (2))]) (rest := []) hE (ct_X9_isWithin l E (WC E a I tr) ((zp0)) (nI (0)) (nI (2))) cm_X9_isWithin (uw mt_L_X9_73 rfl) hP hD hS hl.1 rfl rfl (Nat.le_of_ble_eq_true rfl) ⟨by decide, by decide⟩ dX9_whose_3 (fun H locs hP hD hS => ?_)
  refine W.eq (g2 := F0 m 6 ls [.int (bB (wi ((zp0)) (nI (0)) (nI (2))))]) rfl ?_
  refine bB_ne (tgt := 11) hx hb dX9_whose_6 (by decide) (fun c6 => ?_) (fun c6 => ?_)
  · obtain ⟨j, qj1, qj2, rfl⟩ := wi_of (by decide) (by decide) c6
    have kj : tn (nI j) = j := tn_nI (by omega)
    refine lv_aload_n hx hb dX9_whose_11 rfl (lv_at hl 0 rfl) ?_
    refine gf_X9_51 hE hP (0) (gC_0 E a I tr) (v := .ref (a 6)) rfl dX9_whose_12 ?_
    refine call_V (As := []) (rest := []) hE (ct_X8_housesThatCould l E a I tr hI hW) cm_X8_housesThatCould (uw mt_L_X9_215 rfl) (gC_43 E a I tr) rfl rfl hP hD hS hl.1 rfl rfl (Nat.le_of_ble_eq_true rfl) ⟨by decide, by decide⟩ dX9_whose_15 (fun H locs hP hD hS => ?_)
    refine W.eq (g2 := F0 m 18 ls [.int (nI (btU (fun h => cdB (shC I h) (I 45) (I 46) (I 47 0)) (I 13 0)))]) rfl ?_
    obtain ⟨bw, hbw⟩ : ∃ b, b = btU (fun h => cdB (shC I h) (I 45) (I 46) (I 47 0)) (I 13 0) := ⟨_, rfl⟩
    have hb64 := btU_64 (fun h => cdB (shC I h) (I 45) (I 46) (I 47 0)) hI.1
    rw [← hbw] at hb64 ⊢
    refine lv_istore_n (lv' := [(2, .int (nI (bw))), (0, .ref (a 0)), (1, .int (nI (j)))]) hx hb dX9_whose_18 rfl hl (by decide) rfl (fun ls hl => ?_)
    refine lv_iload_n hx hb dX9_whose_19 rfl (lv_at hl 2 rfl) ?_
    refine bZ_ne (tgt := 25) hx hb (by omega) dX9_whose_20 (by decide) (fun c20 => ?_) (fun c20 => ?_)
    · refine lv_aload_n hx hb dX9_whose_25 rfl (lv_at hl 1 rfl) ?_
      refine gf_X9_28 hE hP (0) (gC_0 E a I tr) (v := .ref (a 3)) rfl dX9_whose_26 ?_
      refine lv_iload_n hx hb dX9_whose_29 rfl (lv_at hl 0 rfl) ?_
      refine call_V (As := [.int (nI (bw))]) (rest := []) hE (ct_X0_quarterMostUnlike l E a I tr bw hI hb64) cm_X0_quarterMostUnlike (uw mt_L_X9_218 rfl) (gC_4 E a I tr) rfl rfl hP hD hS hl.1 rfl rfl (Nat.le_of_ble_eq_true rfl) ⟨by decide, by decide⟩ dX9_whose_30 (fun H locs hP hD hS => ?_)
      refine W.eq (g2 := F0 m 33 ls [.int (rN (if pc bw < 2 then 0 else (mq (fun t => ulC (fun u => shC I u t) bw (I 13 0)) 96).1 + 9))]) rfl ?_
      have hmq : (mq (fun t => ulC (fun u => shC I u t) bw (I 13 0)) 96).1 < 96 := mq_lt96 _
      have hif : (if pc bw < 2 then 0 else (mq (fun t => ulC (fun u => shC I u t) bw (I 13 0)) 96).1 + 9) ≤ 105 := by split <;> omega
      refine lv_istore_n (lv' := [(3, .int (rN (if pc bw < 2 then 0 else (mq (fun t => ulC (fun u => shC I u t) bw (I 13 0)) 96).1 + 9))), (2, .int (nI (bw))), (0, .ref (a 0)), (1, .int (nI (j)))]) hx hb dX9_whose_33 rfl hl (by decide) rfl (fun ls hl => ?_)
      refine lv_iload_n hx hb dX9_whose_34 rfl (lv_at hl 3 rfl) ?_
      refine lv_iconst (v := nI (1)) hx hb dX9_whose_35 (by decide) ?_
      refine bN_eq (tgt := 45) hx hb (by omega) (by omega) dX9_whose_36 (by decide) (fun c36 => ?_) (fun c36 => ?_)
      · refine lv_iload_n hx hb dX9_whose_45 rfl (lv_at hl 0 rfl) ?_
        refine lv_goto (tgt := 58) hx hb dX9_whose_46 (by decide) ?_
        exact ret_i hE (r := rN (if pc bw < 2 then 0 else (mq (fun t => ulC (fun u => shC I u t) bw (I 13 0)) 96).1 + 9)) (by first | (simp only [r_whose, c6, cond_true]; rw [if_neg (fun z => absurd ((nI_eq (by omega) (by decide)).mp z) (by omega)), if_neg hp2, if_neg (fun z => absurd ((nI_eq (by omega) (by decide)).mp z) (by omega))]; done) | (simp only [r_whose, c6, cond_true]; rw [if_neg (fun z => absurd ((nI_eq (by omega) (by decide)).mp z) (by omega))]; subst c36; by_cases z : pc bw < 2; rw [if_pos z, if_pos z, rN_0]; rw [if_neg z, if_neg z, if_pos rfl, rN_9]; done) | (simp only [r_whose, c6, cond_true]; rw [if_neg (fun z => absurd ((nI_eq (by omega) (by decide)).mp z) (by omega))]; by_cases z : pc bw < 2; rw [if_pos z, if_pos z, rN_0]; rw [if_neg z] at c42; exact absurd c42 (by omega); done)) hP hD hS dX9_whose_58
      · refine lv_iload_n hx hb dX9_whose_39 rfl (lv_at hl 0 rfl) ?_
        refine lv_bipush (v := (-9)) hx hb dX9_whose_40 (by decide) ?_
        refine bQ9_ne (tgt := 49) hx hb (by omega) dX9_whose_42 (by decide) (fun c42 => ?_) (fun c42 => ?_)
        · have hp2 : ¬ pc bw < 2 := fun z => by rw [if_pos z] at c42; exact absurd c42 (by decide)
          rw [if_neg hp2, rN_9] at hl
          refine lv_aload_n hx hb dX9_whose_49 rfl (lv_at hl 2 rfl) ?_
          refine gf_X9_28 hE hP (0) (gC_0 E a I tr) (v := .ref (a 3)) rfl dX9_whose_50 ?_
          refine lv_iload_n hx hb dX9_whose_53 rfl (lv_at hl 1 rfl) ?_
          refine lv_iload_n hx hb dX9_whose_54 rfl (lv_at hl 0 rfl) ?_
          refine call_V (As := [.int (nI (bw)), .int (nI ((mq (fun t => ulC (fun u => shC I u t) bw (I 13 0)) 96).1))]) (rest := []) hE (ct_X0_unlikeAt l E a I tr bw ((mq (fun t => ulC (fun u => shC I u t) bw (I 13 0)) 96).1) hI hb64 (by omega)) cm_X0_unlikeAt (uw mt_L_X9_221 rfl) (gC_4 E a I tr) rfl rfl hP hD hS hl.1 rfl rfl (Nat.le_of_ble_eq_true rfl) ⟨by decide, by decide⟩ dX9_whose_55 (fun H locs hP hD hS => ?_)
          refine W.eq (g2 := F0 m 58 ls [.int (nI (ulC (fun u => shC I u ((mq (fun t => ulC (fun u => shC I u t) bw (I 13 0)) 96).1)) bw (I 13 0)))]) rfl ?_
          exact ret_i hE (r := nI (ulC (fun u => shC I u ((mq (fun t => ulC (fun u => shC I u t) bw (I 13 0)) 96).1)) bw (I 13 0))) (by first | (simp only [r_whose, c6, cond_true]; rw [if_neg (fun z => absurd ((nI_eq (by omega) (by decide)).mp z) (by omega)), if_neg hp2, if_neg (fun z => absurd ((nI_eq (by omega) (by decide)).mp z) (by omega))]; done) | (simp only [r_whose, c6, cond_true]; rw [if_neg (fun z => absurd ((nI_eq (by omega) (by decide)).mp z) (by omega))]; subst c36; by_cases z : pc bw < 2; rw [if_pos z, if_pos z, rN_0]; rw [if_neg z, if_neg z, if_pos rfl, rN_9]; done) | (simp only [r_whose, c6, cond_true]; rw [if_neg (fun z => absurd ((nI_eq (by omega) (by decide)).mp z) (by omega))]; by_cases z : pc bw < 2; rw [if_pos z, if_pos z, rN_0]; rw [if_neg z] at c42; exact absurd c42 (by omega); done)) hP hD hS dX9_whose_58
        · refine lv_iload_n hx hb dX9_whose_45 rfl (lv_at hl 0 rfl) ?_
          refine lv_goto (tgt := 58) hx hb dX9_whose_46 (by decide) ?_
          exact ret_i hE (r := rN (if pc bw < 2 then 0 else (mq (fun t => ulC (fun u => shC I u t) bw (I 13 0)) 96).1 + 9)) (by first | (simp only [r_whose, c6, cond_true]; rw [if_neg (fun z => absurd ((nI_eq (by omega) (by decide)).mp z) (by omega)), if_neg hp2, if_neg (fun z => absurd ((nI_eq (by omega) (by decide)).mp z) (by omega))]; done) | (simp only [r_whose, c6, cond_true]; rw [if_neg (fun z => absurd ((nI_eq (by omega) (by decide)).mp z) (by omega))]; subst c36; by_cases z : pc bw < 2; rw [if_pos z, if_pos z, rN_0]; rw [if_neg z, if_neg z, if_pos rfl, rN_9]; done) | (simp only [r_whose, c6, cond_true]; rw [if_neg (fun z => absurd ((nI_eq (by omega) (by decide)).mp z) (by omega))]; by_cases z : pc bw < 2; rw [if_pos z, if_pos z, rN_0]; rw [if_neg z] at c42; exact absurd c42 (by omega); done)) hP hD hS dX9_whose_58
    · refine lv_iload_n hx hb dX9_whose_23 rfl (lv_at hl 0 rfl) ?_
      exact ret_i hE (r := nI (bw)) (by simp only [r_whose, c6, cond_true]; subst c20; rw [if_pos rfl]) hP hD hS dX9_whose_24
  · refine lv_iconst (v := (-1)) hx hb dX9_whose_9 (by decide) ?_
    exact ret_i hE (r := (-1)) (by simp only [r_whose, c6, cond_false]) hP hD hS dX9_whose_10

set_option maxHeartbeats 4000000 in
set_option maxRecDepth 100000 in
theorem ct_X9_aged (l : Launch) (E : cE) (a : Nat → Nat) (I : Nat → Nat → Nat) (tr : Int64) (zp0 zp1 zp2 : Int32) (hI : CK I) (hH : HK I) : Ct l E 3 yX9_aged cX9_aged 4 (some .int) [.ref (a 0), .int (zp0), .int (zp1), .int (zp2)] (WC E a I tr) (some (.int (r_aged (I 13 0) (fun u t => lv (I 16 u) (I 17 u) t) zp0 zp1 zp2))) (WC E a I tr) := by
  refine Ct_of (plainFor_of_name (by decide)) (Nat.le_of_ble_eq_true rfl) ?_
  intro p e s m args below meth c A ls hE hP hD hS hl
  have hE : cEnv p s m args meth c E RX9 cX9_aged 4 (some .int) A := hE
  have hx := hE.1
  have hb := hE.2.1
  have hl : lv_has ls 4 [(0, .ref (a 0)), (1, .int (zp0)), (2, .int (zp1)), (3, .int (zp2))] := hl
  have hP : va_P E.1 vwCl (WC E a I tr) s.heap := hP
  generalize hH : s.heap = H at hP hS ⊢
  have hS : va_S A s.heap H [] := by rw [hH]; exact hS
  clear hH
  have hc6 := hI.1
  refine lv_iload_n hx hb dX9_aged_0 rfl (lv_at hl 2 rfl) ?_
  refine call_S (As := [.int (zp1)]) (rest := []) hE (ct_X9_isQuarter l E (WC E a I tr) ((zp1))) cm_X9_isQuarter (uw mt_L_X9_128 rfl) hP hD hS hl.1 rfl rfl (Nat.le_of_ble_eq_true rfl) ⟨by decide, by decide⟩ dX9_aged_1 (fun H locs hP hD hS => ?_)
  refine W.eq (g2 := F0 m 4 ls [.int (bB (inB ((zp1)) 96))]) rfl ?_
  refine bB_eq (tgt := 19) hx hb dX9_aged_4 (by decide) (fun c4 => ?_) (fun c4 => ?_)
  · refine lv_iconst (v := (-1)) hx hb dX9_aged_19 (by decide) ?_
    exact ret_i hE (r := (-1)) (by first | (simp only [r_aged, c4, cond_false]; done) | (simp only [r_aged, c4, c11, cond_true, cond_false]; done) | (simp only [r_aged, c4, c11, kx, ky, cond_true]; rw [if_neg (by omega)]; done)) hP hD hS dX9_aged_20
  · obtain ⟨x, qx, rfl⟩ := inB_t (by omega) c4
    have kx : tn (nI x) = x := tn_nI (by omega)
    refine lv_iload_n hx hb dX9_aged_7 rfl (lv_at hl 3 rfl) ?_
    refine call_S (As := [.int (zp2)]) (rest := []) hE (ct_X9_isQuarter l E (WC E a I tr) ((zp2))) cm_X9_isQuarter (uw mt_L_X9_128 rfl) hP hD hS hl.1 rfl rfl (Nat.le_of_ble_eq_true rfl) ⟨by decide, by decide⟩ dX9_aged_8 (fun H locs hP hD hS => ?_)
    refine W.eq (g2 := F0 m 11 ls [.int (bB (inB ((zp2)) 96))]) rfl ?_
    refine bB_eq (tgt := 19) hx hb dX9_aged_11 (by decide) (fun c11 => ?_) (fun c11 => ?_)
    · refine lv_iconst (v := (-1)) hx hb dX9_aged_19 (by decide) ?_
      exact ret_i hE (r := (-1)) (by first | (simp only [r_aged, c4, cond_false]; done) | (simp only [r_aged, c4, c11, cond_true, cond_false]; done) | (simp only [r_aged, c4, c11, kx, ky, cond_true]; rw [if_neg (by omega)]; done)) hP hD hS dX9_aged_20
    · obtain ⟨y, qy, rfl⟩ := inB_t (by omega) c11
      have ky : tn (nI y) = y := tn_nI (by omega)
      refine lv_iload_n hx hb dX9_aged_14 rfl (lv_at hl 3 rfl) ?_
      refine lv_iload_n hx hb dX9_aged_15 rfl (lv_at hl 2 rfl) ?_
      refine bN_ge (tgt := 21) hx hb (by omega) (by omega) dX9_aged_16 (by decide) (fun c16 => ?_) (fun c16 => ?_)
      · refine lv_iload_n hx hb dX9_aged_21 rfl (lv_at hl 1 rfl) ?_
        refine lv_iconst (v := (-1)) hx hb dX9_aged_22 (by decide) ?_
        refine lv_icmp_ne (tgt := 36) hx hb dX9_aged_23 (by decide) (fun c23 => ?_) (fun c23 => ?_)
        · refine lv_aload_n hx hb dX9_aged_36 rfl (lv_at hl 0 rfl) ?_
          refine gf_X9_28 hE hP (0) (gC_0 E a I tr) (v := .ref (a 3)) rfl dX9_aged_37 ?_
          refine lv_iload_n hx hb dX9_aged_40 rfl (lv_at hl 1 rfl) ?_
          refine call_V (As := [.int (zp0)]) (rest := []) hE (ct_X0_has l E a I tr ((zp0)) (hI).1) cm_X0_has (uw mt_L_X9_100 rfl) (gC_4 E a I tr) rfl rfl hP hD hS hl.1 rfl rfl (Nat.le_of_ble_eq_true rfl) ⟨by decide, by decide⟩ dX9_aged_41 (fun H locs hP hD hS => ?_)
          refine W.eq (g2 := F0 m 44 ls [.int (bB (inB ((zp0)) (I (13) (0))))]) rfl ?_
          refine bB_eq (tgt := 67) hx hb dX9_aged_44 (by decide) (fun c44 => ?_) (fun c44 => ?_)
          · refine lv_iconst (v := (-1)) hx hb dX9_aged_67 (by decide) ?_
            exact ret_i hE (r := (-1)) (by first | (simp only [r_aged, c4, c11, kx, ky, cond_true]; rw [if_pos c16, if_neg c23]; simp only [c44, cond_false]; done) | (simp only [r_aged, c4, c11, kx, ky, cond_true]; rw [if_pos c16, if_neg c23]; simp only [c44, kh, cond_true]; done)) hP hD hS dX9_aged_68
          · obtain ⟨h, qh, rfl⟩ := inB_t (by omega) c44
            have kh : tn (nI h) = h := tn_nI (by omega)
            refine lv_aload_n hx hb dX9_aged_47 rfl (lv_at hl 0 rfl) ?_
            refine gf_X9_28 hE hP (0) (gC_0 E a I tr) (v := .ref (a 3)) rfl dX9_aged_48 ?_
            refine gf_X9_89 hE hP (4) (gC_4 E a I tr) (v := .ref (a 11)) rfl dX9_aged_51 ?_
            refine gf_X9_104 hE hP (10) (gC_10 E a I tr) (v := .ref (a 17)) rfl dX9_aged_54 ?_
            refine lv_iload_n hx hb dX9_aged_57 rfl (lv_at hl 1 rfl) ?_
            refine ald_q 3 hE hP 11 (gC_11 E a I tr) rfl (by omega) (by decide) (r := a (40 + h)) rfl dX9_aged_58 ?_
            refine lv_iload_n hx hb dX9_aged_59 rfl (lv_at hl 2 rfl) ?_
            refine lv_iload_n hx hb dX9_aged_60 rfl (lv_at hl 3 rfl) ?_
            refine call_V (As := [.int (nI (x)), .int (nI (y))]) (rest := []) hE (ct_X3_agedBetween l E a I tr h x y (by omega) (by omega) (by omega) (hH h (by omega)).2.1 (hH h (by omega)).2.2.1) cm_X3_agedBetween (uw mt_L_X9_227 rfl) (gC_hc E a I tr (h) (by omega)) rfl rfl hP hD hS hl.1 rfl rfl (Nat.le_of_ble_eq_true rfl) ⟨by decide, by decide⟩ dX9_aged_61 (fun H locs hP hD hS => ?_)
            refine W.eq (g2 := F0 m 64 ls [.int (nI (lv (I 16 h) (I 17 h) y - lv (I 16 h) (I 17 h) x))]) rfl ?_
            refine lv_goto (tgt := 68) hx hb dX9_aged_64 (by decide) ?_
            exact ret_i hE (r := nI (lv (I 16 h) (I 17 h) y - lv (I 16 h) (I 17 h) x)) (by first | (simp only [r_aged, c4, c11, kx, ky, cond_true]; rw [if_pos c16, if_neg c23]; simp only [c44, cond_false]; done) | (simp only [r_aged, c4, c11, kx, ky, cond_true]; rw [if_pos c16, if_neg c23]; simp only [c44, kh, cond_true]; done)) hP hD hS dX9_aged_68
        · refine lv_aload_n hx hb dX9_aged_26 rfl (lv_at hl 0 rfl) ?_
          refine gf_X9_28 hE hP (0) (gC_0 E a I tr) (v := .ref (a 3)) rfl dX9_aged_27 ?_
          refine lv_iload_n hx hb dX9_aged_30 rfl (lv_at hl 2 rfl) ?_
          refine lv_iload_n hx hb dX9_aged_31 rfl (lv_at hl 3 rfl) ?_
          refine call_V (As := [.int (nI (x)), .int (nI (y))]) (rest := []) hE (ct_X0_eldest l E a I tr x y hI hH (by omega) (by omega)) cm_X0_eldest (uw mt_L_X9_224 rfl) (gC_4 E a I tr) rfl rfl hP hD hS hl.1 rfl rfl (Nat.le_of_ble_eq_true rfl) ⟨by decide, by decide⟩ dX9_aged_32 (fun H locs hP hD hS => ?_)
          refine W.eq (g2 := F0 m 35 ls [.int (rN ((eld (fun u => lv (I 16 u) (I 17 u) y - lv (I 16 u) (I 17 u) x) (I 13 0)).1))]) rfl ?_
          exact ret_i hE (r := rN ((eld (fun u => lv (I 16 u) (I 17 u) y - lv (I 16 u) (I 17 u) x) (I 13 0)).1)) (by simp only [r_aged, c4, c11, kx, ky, cond_true]; rw [if_pos c16, if_pos c23]) hP hD hS dX9_aged_35
      · refine lv_iconst (v := (-1)) hx hb dX9_aged_19 (by decide) ?_
        exact ret_i hE (r := (-1)) (by first | (simp only [r_aged, c4, cond_false]; done) | (simp only [r_aged, c4, c11, cond_true, cond_false]; done) | (simp only [r_aged, c4, c11, kx, ky, cond_true]; rw [if_neg (by omega)]; done)) hP hD hS dX9_aged_20

set_option maxHeartbeats 4000000 in
set_option maxRecDepth 100000 in
theorem ct_X9_owes (l : Launch) (E : cE) (a : Nat → Nat) (I : Nat → Nat → Nat) (tr : Int64) (zp0 zp1 zp2 : Int32) (hI : CK I) (h55 : I 55 0 ≤ 8) : Ct l E 3 yX9_owes cX9_owes 4 (some .int) [.ref (a 0), .int (zp0), .int (zp1), .int (zp2)] (WC E a I tr) (some (.int (r_owes (I 13 0) (I 55 0) zp0 zp1 zp2))) (WC E a (oweI I zp0 zp1 zp2) tr) := by
  refine Ct_of (plainFor_of_name (by decide)) (Nat.le_of_ble_eq_true rfl) ?_
  intro p e s m args below meth c A ls hE hP hD hS hl
  have hE : cEnv p s m args meth c E RX9 cX9_owes 4 (some .int) A := hE
  have hx := hE.1
  have hb := hE.2.1
  have hl : lv_has ls 4 [(0, .ref (a 0)), (1, .int (zp0)), (2, .int (zp1)), (3, .int (zp2))] := hl
  have hP : va_P E.1 vwCl (WC E a I tr) s.heap := hP
  generalize hH : s.heap = H at hP hS ⊢
  have hS : va_S A s.heap H [] := by rw [hH]; exact hS
  clear hH
  have hc6 := hI.1
  refine lv_aload_n hx hb dX9_owes_0 rfl (lv_at hl 0 rfl) ?_
  refine gf_X9_28 hE hP (0) (gC_0 E a I tr) (v := .ref (a 3)) rfl dX9_owes_1 ?_
  refine lv_iload_n hx hb dX9_owes_4 rfl (lv_at hl 1 rfl) ?_
  refine lv_iload_n hx hb dX9_owes_5 rfl (lv_at hl 2 rfl) ?_
  refine call_V (As := [.int (zp0), .int (zp1)]) (rest := []) hE (ct_X0_hasBoth l E a I tr ((zp0)) ((zp1)) hI) cm_X0_hasBoth (uw mt_L_X9_155 rfl) (gC_4 E a I tr) rfl rfl hP hD hS hl.1 rfl rfl (Nat.le_of_ble_eq_true rfl) ⟨by decide, by decide⟩ dX9_owes_6 (fun H locs hP hD hS => ?_)
  refine W.eq (g2 := F0 m 9 ls [.int (bB (hb2 (I (13) (0)) ((zp0)) ((zp1))))]) rfl ?_
  refine bB_eq (tgt := 19) hx hb dX9_owes_9 (by decide) (fun c9 => ?_) (fun c9 => ?_)
  · refine lv_iconst (v := (-1)) hx hb dX9_owes_19 (by decide) ?_
    have hw : I = (oweI I zp0 zp1 zp2) := by first | (simp only [oweI, c9, cond_false]; done) | (simp only [oweI, c9, c16, cond_true, cond_false]; done)
    have hP := Eq.mp (congrArg (fun q => va_P E.1 vwCl (WC E a q tr) H) hw) hP
    have hD := Eq.mp (congrArg (fun q => va_D A (WC E a q tr)) hw) hD
    exact ret_i hE (r := (-1)) (by first | (simp only [r_owes, c9, cond_false]; done) | (simp only [r_owes, c9, c16, cond_true, cond_false]; done)) hP hD hS dX9_owes_20
  · obtain ⟨x, y, hx6, hy6, hxy, rfl, rfl⟩ := hb2_t (by omega) c9
    have kx : tn (nI x) = x := tn_nI (by omega)
    have ky : tn (nI y) = y := tn_nI (by omega)
    refine lv_iload_n hx hb dX9_owes_12 rfl (lv_at hl 3 rfl) ?_
    refine call_S (As := [.int (zp2)]) (rest := []) hE (ct_X9_isNumber l E (WC E a I tr) ((zp2))) cm_X9_isNumber (uw mt_L_X9_135 rfl) hP hD hS hl.1 rfl rfl (Nat.le_of_ble_eq_true rfl) ⟨by decide, by decide⟩ dX9_owes_13 (fun H locs hP hD hS => ?_)
    refine W.eq (g2 := F0 m 16 ls [.int (bB (inB ((zp2)) 48))]) rfl ?_
    refine bB_ne (tgt := 21) hx hb dX9_owes_16 (by decide) (fun c16 => ?_) (fun c16 => ?_)
    · obtain ⟨n, qn, rfl⟩ := inB_t (by omega) c16
      have kn : tn (nI n) = n := tn_nI (by omega)
      refine lv_aload_n hx hb dX9_owes_21 rfl (lv_at hl 0 rfl) ?_
      refine gf_X9_58 hE hP (0) (gC_0 E a I tr) (v := .ref (a 7)) rfl dX9_owes_22 ?_
      refine gf_X9_230 hE hP (46) (gC_46 E a I tr) (v := .int (nI (I (55) (0)))) rfl dX9_owes_25 ?_
      refine lv_bipush (v := nI (8)) hx hb dX9_owes_28 (by decide) ?_
      refine bN_lt (tgt := 36) hx hb (by omega) (by omega) dX9_owes_30 (by decide) (fun c30 => ?_) (fun c30 => ?_)
      · refine lv_aload_n hx hb dX9_owes_36 rfl (lv_at hl 0 rfl) ?_
        refine gf_X9_58 hE hP (0) (gC_0 E a I tr) (v := .ref (a 7)) rfl dX9_owes_37 ?_
        refine lv_iload_n hx hb dX9_owes_40 rfl (lv_at hl 1 rfl) ?_
        refine lv_iload_n hx hb dX9_owes_41 rfl (lv_at hl 2 rfl) ?_
        refine lv_iload_n hx hb dX9_owes_42 rfl (lv_at hl 3 rfl) ?_
        refine call_V (As := [.int (nI (x)), .int (nI (y)), .int (nI (n))]) (rest := []) hE (ct_X1_add l E a I tr x y n c30) cm_X1_add (uw mt_L_X9_231 rfl) (gC_46 E a I tr) rfl rfl hP hD hS hl.1 rfl rfl (Nat.le_of_ble_eq_true rfl) ⟨by decide, by decide⟩ dX9_owes_43 (fun H locs hP hD hS => ?_)
        refine W.eq (g2 := F0 m 46 ls []) rfl ?_
        refine lv_aload_n hx hb dX9_owes_46 rfl (lv_at hl 0 rfl) ?_
        refine gf_X9_58 hE hP (0) (gC_0 E a (up2 (up2 (up2 (up2 I (50) (I (55) (0)) (x)) (51) (I (55) (0)) (y)) (52) (I (55) (0)) (n)) (55) (0) (I 55 0 + 1)) tr) (v := .ref (a 7)) rfl dX9_owes_47 ?_
        refine gf_X9_230 hE hP (46) (gC_46 E a (up2 (up2 (up2 (up2 I (50) (I (55) (0)) (x)) (51) (I (55) (0)) (y)) (52) (I (55) (0)) (n)) (55) (0) (I 55 0 + 1)) tr) (v := .int (nI (I 55 0 + 1))) rfl dX9_owes_50 ?_
        refine lv_iconst (v := nI (1)) hx hb dX9_owes_53 (by decide) ?_
        refine lv_isub hx hb dX9_owes_54 ?_
        refine tp (pk_sub (by omega)) ?_
        have hw : (up2 (up2 (up2 (up2 I (50) (I (55) (0)) (x)) (51) (I (55) (0)) (y)) (52) (I (55) (0)) (n)) (55) (0) (I 55 0 + 1)) = (oweI I (nI x) (nI y) (nI n)) := by simp only [oweI, c9, c16, kx, ky, kn, cond_true]; rw [if_pos c30]; rfl
        have hP := Eq.mp (congrArg (fun q => va_P E.1 vwCl (WC E a q tr) H) hw) hP
        have hD := Eq.mp (congrArg (fun q => va_D A (WC E a q tr)) hw) hD
        exact ret_i hE (r := nI (I 55 0 + 1 - (1))) (by simp only [r_owes, c9, c16, cond_true]; rw [if_pos c30]; rfl) hP hD hS dX9_owes_55
      · refine lv_bipush (v := (-3)) hx hb dX9_owes_33 (by decide) ?_
        have hw : I = (oweI I (nI x) (nI y) (nI n)) := by simp only [oweI, c9, c16, cond_true]; rw [if_neg (by omega)]
        have hP := Eq.mp (congrArg (fun q => va_P E.1 vwCl (WC E a q tr) H) hw) hP
        have hD := Eq.mp (congrArg (fun q => va_D A (WC E a q tr)) hw) hD
        exact ret_i hE (r := (-3)) (by simp only [r_owes, c9, c16, cond_true]; rw [if_neg (by omega)]) hP hD hS dX9_owes_35
    · refine lv_iconst (v := (-1)) hx hb dX9_owes_19 (by decide) ?_
      have hw : I = (oweI I (nI x) (nI y) zp2) := by first | (simp only [oweI, c9, cond_false]; done) | (simp only [oweI, c9, c16, cond_true, cond_false]; done)
      have hP := Eq.mp (congrArg (fun q => va_P E.1 vwCl (WC E a q tr) H) hw) hP
      have hD := Eq.mp (congrArg (fun q => va_D A (WC E a q tr)) hw) hD
      exact ret_i hE (r := (-1)) (by first | (simp only [r_owes, c9, cond_false]; done) | (simp only [r_owes, c9, c16, cond_true, cond_false]; done)) hP hD hS dX9_owes_20

set_option maxHeartbeats 4000000 in
set_option maxRecDepth 100000 in
theorem ct_X9_due (l : Launch) (E : cE) (a : Nat → Nat) (I : Nat → Nat → Nat) (tr : Int64) (zp0 : Int32) (hI : CK I) (hD7 : DK I) : Ct l E 5 yX9_due cX9_due 2 (some .int) [.ref (a 0), .int (zp0)] (WC E a I tr) (some (.int (r_due (I 55 0) (quE I) (rgC I) zp0))) (WC E a (dueI I zp0) tr) := by
  refine Ct_of (plainFor_of_name (by decide)) (Nat.le_of_ble_eq_true rfl) ?_
  intro p e s m args below meth c A ls hE hP hD hS hl
  have hE : cEnv p s m args meth c E RX9 cX9_due 2 (some .int) A := hE
  have hx := hE.1
  have hb := hE.2.1
  have hl : lv_has ls 2 [(0, .ref (a 0)), (1, .int (zp0))] := hl
  have hP : va_P E.1 vwCl (WC E a I tr) s.heap := hP
  generalize hH : s.heap = H at hP hS ⊢
  have hS : va_S A s.heap H [] := by rw [hH]; exact hS
  clear hH
  have hc8 := hD7.1
  refine lv_iload_n hx hb dX9_due_0 rfl (lv_at hl 1 rfl) ?_
  refine lv_iconst (v := (-1)) hx hb dX9_due_1 (by decide) ?_
  refine lv_icmp_ne (tgt := 21) hx hb dX9_due_2 (by decide) (fun c2 => ?_) (fun c2 => ?_)
  · refine lv_iload_n hx hb dX9_due_21 rfl (lv_at hl 1 rfl) ?_
    refine lv_iconst (v := nI (0)) hx hb dX9_due_22 (by decide) ?_
    refine lv_aload_n hx hb dX9_due_23 rfl (lv_at hl 0 rfl) ?_
    refine gf_X9_58 hE hP (0) (gC_0 E a I tr) (v := .ref (a 7)) rfl dX9_due_24 ?_
    refine gf_X9_230 hE hP (46) (gC_46 E a I tr) (v := .int (nI (I (55) (0)))) rfl dX9_due_27 ?_
    refine lv_iconst (v := nI (1)) hx hb dX9_due_30 (by decide) ?_
    refine lv_isub hx hb dX9_due_31 ?_
    refine call_S (As := [.int (zp0), .int (nI (0)), .int (nI (I (55) (0)) - nI (1))]) (rest := []) hE (ct_X9_isWithin l E (WC E a I tr) zp0 (nI 0) (nI (I 55 0) - nI 1)) cm_X9_isWithin (uw mt_L_X9_73 rfl) hP hD hS hl.1 rfl rfl (Nat.le_of_ble_eq_true rfl) ⟨by decide, by decide⟩ dX9_due_32 (fun H locs hP hD hS => ?_)
    refine W.eq (g2 := F0 m 35 ls [.int (bB (wi zp0 (nI 0) (nI (I 55 0) - nI 1)))]) rfl ?_
    rw [wi_in1 zp0 (by omega)]
    refine bB_eq (tgt := 49) hx hb dX9_due_35 (by decide) (fun c35 => ?_) (fun c35 => ?_)
    · refine lv_iconst (v := (-1)) hx hb dX9_due_49 (by decide) ?_
      have hw : I = (dueI I zp0) := (if_neg c2).symm
      have hP := Eq.mp (congrArg (fun q => va_P E.1 vwCl (WC E a q tr) H) hw) hP
      have hD := Eq.mp (congrArg (fun q => va_D A (WC E a q tr)) hw) hD
      exact ret_i hE (r := (-1)) (by first | (rw [r_due, if_neg c2]; simp only [c35, cond_false]; done) | (rw [r_due, if_neg c2]; simp only [c35, kk, cond_true]; done)) hP hD hS dX9_due_50
    · obtain ⟨k, qk, rfl⟩ := inB_t (by omega) c35
      have kk : tn (nI k) = k := tn_nI (by omega)
      refine lv_aload_n hx hb dX9_due_38 rfl (lv_at hl 0 rfl) ?_
      refine gf_X9_58 hE hP (0) (gC_0 E a I tr) (v := .ref (a 7)) rfl dX9_due_39 ?_
      refine lv_iload_n hx hb dX9_due_42 rfl (lv_at hl 1 rfl) ?_
      refine call_V (As := [.int (nI (k))]) (rest := []) hE (ct_X1_quarterOf l E a I tr k hI hD7 qk) cm_X1_quarterOf (uw mt_L_X9_238 rfl) (gC_46 E a I tr) rfl rfl hP hD hS hl.1 rfl rfl (Nat.le_of_ble_eq_true rfl) ⟨by decide, by decide⟩ dX9_due_43 (fun H locs hP hD hS => ?_)
      refine W.eq (g2 := F0 m 46 ls [.int (rN (quE I k))]) rfl ?_
      refine lv_goto (tgt := 50) hx hb dX9_due_46 (by decide) ?_
      have hw : I = (dueI I (nI k)) := (if_neg c2).symm
      have hP := Eq.mp (congrArg (fun q => va_P E.1 vwCl (WC E a q tr) H) hw) hP
      have hD := Eq.mp (congrArg (fun q => va_D A (WC E a q tr)) hw) hD
      exact ret_i hE (r := rN (quE I k)) (by first | (rw [r_due, if_neg c2]; simp only [c35, cond_false]; done) | (rw [r_due, if_neg c2]; simp only [c35, kk, cond_true]; done)) hP hD hS dX9_due_50
  · refine lv_aload_n hx hb dX9_due_5 rfl (lv_at hl 0 rfl) ?_
    refine gf_X9_58 hE hP (0) (gC_0 E a I tr) (v := .ref (a 7)) rfl dX9_due_6 ?_
    refine call_V (As := []) (rest := []) hE (ct_X1_hasRing l E a I tr hI hD7) cm_X1_hasRing (uw mt_L_X9_234 rfl) (gC_46 E a I tr) rfl rfl hP hD hS hl.1 rfl rfl (Nat.le_of_ble_eq_true rfl) ⟨by decide, by decide⟩ dX9_due_9 (fun H locs hP hD hS => ?_)
    refine W.eq (g2 := F0 m 12 ls [.int (bB (rgC I))]) rfl ?_
    refine bB_eq (tgt := 19) hx hb dX9_due_12 (by decide) (fun c12 => ?_) (fun c12 => ?_)
    · refine lv_iconst (v := nI (0)) hx hb dX9_due_19 (by decide) ?_
      have hw : (rgI I) = (dueI I zp0) := (if_pos c2).symm
      have hP := Eq.mp (congrArg (fun q => va_P E.1 vwCl (WC E a q tr) H) hw) hP
      have hD := Eq.mp (congrArg (fun q => va_D A (WC E a q tr)) hw) hD
      exact ret_i hE (r := nI (0)) (by rw [r_due, if_pos c2, c12]; rfl) hP hD hS dX9_due_20
    · refine lv_iconst (v := nI (1)) hx hb dX9_due_15 (by decide) ?_
      refine lv_goto (tgt := 20) hx hb dX9_due_16 (by decide) ?_
      have hw : (rgI I) = (dueI I zp0) := (if_pos c2).symm
      have hP := Eq.mp (congrArg (fun q => va_P E.1 vwCl (WC E a q tr) H) hw) hP
      have hD := Eq.mp (congrArg (fun q => va_D A (WC E a q tr)) hw) hD
      exact ret_i hE (r := nI (1)) (by rw [r_due, if_pos c2, c12]; rfl) hP hD hS dX9_due_20

set_option maxHeartbeats 4000000 in
set_option maxRecDepth 100000 in
theorem ct_X9_asHouse (l : Launch) (E : cE) (a : Nat → Nat) (I : Nat → Nat → Nat) (tr : Int64) (h : Nat) (hI : CK I) (hH : HK I) (hh : h < 6) : Ct l E 2 yX9_asHouse cX9_asHouse 2 (some .int) [.ref (a 0), .int (nI (h))] (WC E a I tr) (some (.int (nI (shC I h (I 11 0))))) (WC E a I (tr + 1)) := by
  refine Ct_of (plainFor_of_name (by decide)) (Nat.le_of_ble_eq_true rfl) ?_
  intro p e s m args below meth c A ls hE hP hD hS hl
  have hE : cEnv p s m args meth c E RX9 cX9_asHouse 2 (some .int) A := hE
  have hx := hE.1
  have hb := hE.2.1
  have hl : lv_has ls 2 [(0, .ref (a 0)), (1, .int (nI (h)))] := hl
  have hP : va_P E.1 vwCl (WC E a I tr) s.heap := hP
  generalize hH : s.heap = H at hP hS ⊢
  have hS : va_S A s.heap H [] := by rw [hH]; exact hS
  clear hH
  have hnow := hI.2.2.1
  have hhk := hH h hh
  refine lv_aload_n hx hb dX9_asHouse_0 rfl (lv_at hl 0 rfl) ?_
  refine lv_dup hx hb dX9_asHouse_1 rfl ?_
  refine gf_X9_268 hE hP (0) (gC_0 E a I tr) (v := .long (tr)) rfl dX9_asHouse_2 ?_
  refine lv_lconst (v := 1) hx hb dX9_asHouse_5 (by decide) ?_
  refine lv_ladd hx hb dX9_asHouse_6 ?_
  refine pf_X9_268 hE hP hD hS (0) (gC_0 E a I tr) rfl rfl (Nat.le_of_ble_eq_true rfl) (sC_0_9 E a I tr ((tr) + (1))) dX9_asHouse_7 (fun H locs hP hD hS => ?_)
  refine lv_aload_n hx hb dX9_asHouse_10 rfl (lv_at hl 0 rfl) ?_
  refine gf_X9_28 hE hP (0) (gC_0 E a I ((tr) + (1))) (v := .ref (a 3)) rfl dX9_asHouse_11 ?_
  refine lv_iload_n hx hb dX9_asHouse_14 rfl (lv_at hl 1 rfl) ?_
  refine call_V (As := [.int (nI (h))]) (rest := []) hE (ct_X0_showsNow l E a I ((tr) + (1)) (h) (hI) (by omega)) cm_X0_showsNow (uw mt_L_X9_172 rfl) (gC_4 E a I ((tr) + (1))) rfl rfl hP hD hS hl.1 rfl rfl (Nat.le_of_ble_eq_true rfl) ⟨by decide, by decide⟩ dX9_asHouse_15 (fun H locs hP hD hS => ?_)
  refine W.eq (g2 := F0 m 18 ls [.int (nI (shC I (h) (I (11) (0))))]) rfl ?_
  have hs1 := shC_lt I (h) (I (11) (0))
  exact ret_i hE (r := nI (shC I (h) (I (11) (0)))) (rfl) hP hD hS dX9_asHouse_18

set_option maxHeartbeats 4000000 in
set_option maxRecDepth 100000 in
theorem ct_X9_asInn (l : Launch) (E : cE) (a : Nat → Nat) (I : Nat → Nat → Nat) (tr : Int64) (h : Nat) (hI : CK I) (hH : HK I) (hh : h < 6) : Ct l E 3 yX9_asInn cX9_asInn 2 (some .int) [.ref (a 0), .int (nI (h))] (WC E a I tr) (some (.int (nI (shC I h (I 11 0) + I 18 h)))) (WC E a I (tr + 10 + 1)) := by
  refine Ct_of (plainFor_of_name (by decide)) (Nat.le_of_ble_eq_true rfl) ?_
  intro p e s m args below meth c A ls hE hP hD hS hl
  have hE : cEnv p s m args meth c E RX9 cX9_asInn 2 (some .int) A := hE
  have hx := hE.1
  have hb := hE.2.1
  have hl : lv_has ls 2 [(0, .ref (a 0)), (1, .int (nI (h)))] := hl
  have hP : va_P E.1 vwCl (WC E a I tr) s.heap := hP
  generalize hH : s.heap = H at hP hS ⊢
  have hS : va_S A s.heap H [] := by rw [hH]; exact hS
  clear hH
  have hnow := hI.2.2.1
  have hhk := hH h hh
  refine lv_aload_n hx hb dX9_asInn_0 rfl (lv_at hl 0 rfl) ?_
  refine lv_dup hx hb dX9_asInn_1 rfl ?_
  refine gf_X9_268 hE hP (0) (gC_0 E a I tr) (v := .long (tr)) rfl dX9_asInn_2 ?_
  refine lv_ldc2 (v := 10) hx hb hE.2.2.2.2.1 (hE.2.2.2.1 _ (uw mt_K_X9_275 rfl)) dX9_asInn_5 ?_
  refine lv_ladd hx hb dX9_asInn_8 ?_
  refine pf_X9_268 hE hP hD hS (0) (gC_0 E a I tr) rfl rfl (Nat.le_of_ble_eq_true rfl) (sC_0_9 E a I tr ((tr) + (10))) dX9_asInn_9 (fun H locs hP hD hS => ?_)
  refine lv_aload_n hx hb dX9_asInn_12 rfl (lv_at hl 0 rfl) ?_
  refine lv_iload_n hx hb dX9_asInn_13 rfl (lv_at hl 1 rfl) ?_
  refine call_V (As := [.int (nI (h))]) (rest := []) hE (ct_X9_asHouse l E a I (((tr) + (10))) (h) hI hH (by omega)) cm_X9_asHouse (uw mt_L_X9_242 rfl) (gC_0 E a I ((tr) + (10))) rfl rfl hP hD hS hl.1 rfl rfl (Nat.le_of_ble_eq_true rfl) ⟨by decide, by decide⟩ dX9_asInn_14 (fun H locs hP hD hS => ?_)
  refine W.eq (g2 := F0 m 17 ls [.int (nI (shC I (h) (I 11 0)))]) rfl ?_
  have hs1 := shC_lt I (h) (I 11 0)
  have hh2 := hH (h) (by omega)
  refine lv_aload_n hx hb dX9_asInn_17 rfl (lv_at hl 0 rfl) ?_
  refine gf_X9_28 hE hP (0) (gC_0 E a I (((tr) + (10)) + 1)) (v := .ref (a 3)) rfl dX9_asInn_18 ?_
  refine gf_X9_89 hE hP (4) (gC_4 E a I (((tr) + (10)) + 1)) (v := .ref (a 11)) rfl dX9_asInn_21 ?_
  refine gf_X9_104 hE hP (10) (gC_10 E a I (((tr) + (10)) + 1)) (v := .ref (a 17)) rfl dX9_asInn_24 ?_
  refine lv_iload_n hx hb dX9_asInn_27 rfl (lv_at hl 1 rfl) ?_
  refine ald_q 3 hE hP 11 (gC_11 E a I (((tr) + (10)) + 1)) rfl (by omega) (by decide) (r := a (40 + h)) rfl dX9_asInn_28 ?_
  refine gf_X9_121 hE hP (12 + h) (gC_hc E a I (((tr) + (10)) + 1) (h) (by omega)) (v := .int (nI (I (18) (h)))) rfl dX9_asInn_29 ?_
  refine lv_iadd hx hb dX9_asInn_32 ?_
  refine tp (nI_add _ _) ?_
  exact ret_i hE (r := nI (shC I (h) (I 11 0) + (I (18) (h)))) (rfl) hP hD hS dX9_asInn_33

set_option maxHeartbeats 4000000 in
set_option maxRecDepth 100000 in
theorem ct_X9_asMill (l : Launch) (E : cE) (a : Nat → Nat) (I : Nat → Nat → Nat) (tr : Int64) (h : Nat) (hI : CK I) (hH : HK I) (hh : h < 6) : Ct l E 3 yX9_asMill cX9_asMill 2 (some .int) [.ref (a 0), .int (nI (h))] (WC E a I tr) (some (.int (nI (shC I h (I 11 0)) - nI (I 16 h)))) (WC E a I (tr + 100 + 1)) := by
  refine Ct_of (plainFor_of_name (by decide)) (Nat.le_of_ble_eq_true rfl) ?_
  intro p e s m args below meth c A ls hE hP hD hS hl
  have hE : cEnv p s m args meth c E RX9 cX9_asMill 2 (some .int) A := hE
  have hx := hE.1
  have hb := hE.2.1
  have hl : lv_has ls 2 [(0, .ref (a 0)), (1, .int (nI (h)))] := hl
  have hP : va_P E.1 vwCl (WC E a I tr) s.heap := hP
  generalize hH : s.heap = H at hP hS ⊢
  have hS : va_S A s.heap H [] := by rw [hH]; exact hS
  clear hH
  have hnow := hI.2.2.1
  have hhk := hH h hh
  refine lv_aload_n hx hb dX9_asMill_0 rfl (lv_at hl 0 rfl) ?_
  refine lv_dup hx hb dX9_asMill_1 rfl ?_
  refine gf_X9_268 hE hP (0) (gC_0 E a I tr) (v := .long (tr)) rfl dX9_asMill_2 ?_
  refine lv_ldc2 (v := 100) hx hb hE.2.2.2.2.1 (hE.2.2.2.1 _ (uw mt_K_X9_277 rfl)) dX9_asMill_5 ?_
  refine lv_ladd hx hb dX9_asMill_8 ?_
  refine pf_X9_268 hE hP hD hS (0) (gC_0 E a I tr) rfl rfl (Nat.le_of_ble_eq_true rfl) (sC_0_9 E a I tr ((tr) + (100))) dX9_asMill_9 (fun H locs hP hD hS => ?_)
  refine lv_aload_n hx hb dX9_asMill_12 rfl (lv_at hl 0 rfl) ?_
  refine lv_iload_n hx hb dX9_asMill_13 rfl (lv_at hl 1 rfl) ?_
  refine call_V (As := [.int (nI (h))]) (rest := []) hE (ct_X9_asHouse l E a I (((tr) + (100))) (h) hI hH (by omega)) cm_X9_asHouse (uw mt_L_X9_242 rfl) (gC_0 E a I ((tr) + (100))) rfl rfl hP hD hS hl.1 rfl rfl (Nat.le_of_ble_eq_true rfl) ⟨by decide, by decide⟩ dX9_asMill_14 (fun H locs hP hD hS => ?_)
  refine W.eq (g2 := F0 m 17 ls [.int (nI (shC I (h) (I 11 0)))]) rfl ?_
  have hs1 := shC_lt I (h) (I 11 0)
  have hh2 := hH (h) (by omega)
  refine lv_aload_n hx hb dX9_asMill_17 rfl (lv_at hl 0 rfl) ?_
  refine gf_X9_28 hE hP (0) (gC_0 E a I (((tr) + (100)) + 1)) (v := .ref (a 3)) rfl dX9_asMill_18 ?_
  refine gf_X9_89 hE hP (4) (gC_4 E a I (((tr) + (100)) + 1)) (v := .ref (a 11)) rfl dX9_asMill_21 ?_
  refine gf_X9_104 hE hP (10) (gC_10 E a I (((tr) + (100)) + 1)) (v := .ref (a 17)) rfl dX9_asMill_24 ?_
  refine lv_iload_n hx hb dX9_asMill_27 rfl (lv_at hl 1 rfl) ?_
  refine ald_q 3 hE hP 11 (gC_11 E a I (((tr) + (100)) + 1)) rfl (by omega) (by decide) (r := a (40 + h)) rfl dX9_asMill_28 ?_
  refine gf_X9_115 hE hP (12 + h) (gC_hc E a I (((tr) + (100)) + 1) (h) (by omega)) (v := .int (nI (I (16) (h)))) rfl dX9_asMill_29 ?_
  refine lv_isub hx hb dX9_asMill_32 ?_
  exact ret_i hE (r := (nI (shC I (h) (I 11 0)) - nI (I (16) (h)))) (rfl) hP hD hS dX9_asMill_33

set_option maxHeartbeats 4000000 in
set_option maxRecDepth 100000 in
theorem ct_X9_asPalace (l : Launch) (E : cE) (a : Nat → Nat) (I : Nat → Nat → Nat) (tr : Int64) (h : Nat) (hI : CK I) (hH : HK I) (hh : h < 6) : Ct l E 4 yX9_asPalace cX9_asPalace 2 (some .int) [.ref (a 0), .int (nI (h))] (WC E a I tr) (some (.int (nI ((shC I h (I 11 0) + I 18 h) * 2)))) (WC E a I (tr + 1000 + 10 + 1)) := by
  refine Ct_of (plainFor_of_name (by decide)) (Nat.le_of_ble_eq_true rfl) ?_
  intro p e s m args below meth c A ls hE hP hD hS hl
  have hE : cEnv p s m args meth c E RX9 cX9_asPalace 2 (some .int) A := hE
  have hx := hE.1
  have hb := hE.2.1
  have hl : lv_has ls 2 [(0, .ref (a 0)), (1, .int (nI (h)))] := hl
  have hP : va_P E.1 vwCl (WC E a I tr) s.heap := hP
  generalize hH : s.heap = H at hP hS ⊢
  have hS : va_S A s.heap H [] := by rw [hH]; exact hS
  clear hH
  have hnow := hI.2.2.1
  have hhk := hH h hh
  refine lv_aload_n hx hb dX9_asPalace_0 rfl (lv_at hl 0 rfl) ?_
  refine lv_dup hx hb dX9_asPalace_1 rfl ?_
  refine gf_X9_268 hE hP (0) (gC_0 E a I tr) (v := .long (tr)) rfl dX9_asPalace_2 ?_
  refine lv_ldc2 (v := 1000) hx hb hE.2.2.2.2.1 (hE.2.2.2.1 _ (uw mt_K_X9_279 rfl)) dX9_asPalace_5 ?_
  refine lv_ladd hx hb dX9_asPalace_8 ?_
  refine pf_X9_268 hE hP hD hS (0) (gC_0 E a I tr) rfl rfl (Nat.le_of_ble_eq_true rfl) (sC_0_9 E a I tr ((tr) + (1000))) dX9_asPalace_9 (fun H locs hP hD hS => ?_)
  refine lv_aload_n hx hb dX9_asPalace_12 rfl (lv_at hl 0 rfl) ?_
  refine lv_iload_n hx hb dX9_asPalace_13 rfl (lv_at hl 1 rfl) ?_
  refine call_V (As := [.int (nI (h))]) (rest := []) hE (ct_X9_asInn l E a I (((tr) + (1000))) (h) hI hH (by omega)) cm_X9_asInn (uw mt_L_X9_245 rfl) (gC_0 E a I ((tr) + (1000))) rfl rfl hP hD hS hl.1 rfl rfl (Nat.le_of_ble_eq_true rfl) ⟨by decide, by decide⟩ dX9_asPalace_14 (fun H locs hP hD hS => ?_)
  refine W.eq (g2 := F0 m 17 ls [.int (nI (shC I (h) (I 11 0) + I 18 (h)))]) rfl ?_
  have hs1 := shC_lt I (h) (I 11 0)
  have hh2 := hH (h) (by omega)
  refine lv_iconst (v := nI (2)) hx hb dX9_asPalace_17 (by decide) ?_
  refine lv_imul hx hb dX9_asPalace_18 ?_
  refine tp (pk_mul _ _) ?_
  exact ret_i hE (r := nI ((shC I (h) (I 11 0) + I 18 (h)) * (2))) (rfl) hP hD hS dX9_asPalace_19

set_option maxHeartbeats 4000000 in
set_option maxRecDepth 100000 in
theorem ct_X9_asToll (l : Launch) (E : cE) (a : Nat → Nat) (I : Nat → Nat → Nat) (tr : Int64) (h : Nat) (hI : CK I) (hH : HK I) (hh : h < 6) : Ct l E 4 yX9_asToll cX9_asToll 2 (some .int) [.ref (a 0), .int (nI (h))] (WC E a I tr) (some (.int (nI (shC I h (I 11 0)) - nI (I 16 h) + nI (I 17 h)))) (WC E a I (tr + 10000 + 100 + 1)) := by
  refine Ct_of (plainFor_of_name (by decide)) (Nat.le_of_ble_eq_true rfl) ?_
  intro p e s m args below meth c A ls hE hP hD hS hl
  have hE : cEnv p s m args meth c E RX9 cX9_asToll 2 (some .int) A := hE
  have hx := hE.1
  have hb := hE.2.1
  have hl : lv_has ls 2 [(0, .ref (a 0)), (1, .int (nI (h)))] := hl
  have hP : va_P E.1 vwCl (WC E a I tr) s.heap := hP
  generalize hH : s.heap = H at hP hS ⊢
  have hS : va_S A s.heap H [] := by rw [hH]; exact hS
  clear hH
  have hnow := hI.2.2.1
  have hhk := hH h hh
  refine lv_aload_n hx hb dX9_asToll_0 rfl (lv_at hl 0 rfl) ?_
  refine lv_dup hx hb dX9_asToll_1 rfl ?_
  refine gf_X9_268 hE hP (0) (gC_0 E a I tr) (v := .long (tr)) rfl dX9_asToll_2 ?_
  refine lv_ldc2 (v := 10000) hx hb hE.2.2.2.2.1 (hE.2.2.2.1 _ (uw mt_K_X9_281 rfl)) dX9_asToll_5 ?_
  refine lv_ladd hx hb dX9_asToll_8 ?_
  refine pf_X9_268 hE hP hD hS (0) (gC_0 E a I tr) rfl rfl (Nat.le_of_ble_eq_true rfl) (sC_0_9 E a I tr ((tr) + (10000))) dX9_asToll_9 (fun H locs hP hD hS => ?_)
  refine lv_aload_n hx hb dX9_asToll_12 rfl (lv_at hl 0 rfl) ?_
  refine lv_iload_n hx hb dX9_asToll_13 rfl (lv_at hl 1 rfl) ?_
  refine call_V (As := [.int (nI (h))]) (rest := []) hE (ct_X9_asMill l E a I (((tr) + (10000))) (h) hI hH (by omega)) cm_X9_asMill (uw mt_L_X9_248 rfl) (gC_0 E a I ((tr) + (10000))) rfl rfl hP hD hS hl.1 rfl rfl (Nat.le_of_ble_eq_true rfl) ⟨by decide, by decide⟩ dX9_asToll_14 (fun H locs hP hD hS => ?_)
  refine W.eq (g2 := F0 m 17 ls [.int (nI (shC I (h) (I 11 0)) - nI (I 16 (h)))]) rfl ?_
  have hs1 := shC_lt I (h) (I 11 0)
  have hh2 := hH (h) (by omega)
  refine lv_aload_n hx hb dX9_asToll_17 rfl (lv_at hl 0 rfl) ?_
  refine gf_X9_28 hE hP (0) (gC_0 E a I (((tr) + (10000)) + 100 + 1)) (v := .ref (a 3)) rfl dX9_asToll_18 ?_
  refine gf_X9_89 hE hP (4) (gC_4 E a I (((tr) + (10000)) + 100 + 1)) (v := .ref (a 11)) rfl dX9_asToll_21 ?_
  refine gf_X9_104 hE hP (10) (gC_10 E a I (((tr) + (10000)) + 100 + 1)) (v := .ref (a 17)) rfl dX9_asToll_24 ?_
  refine lv_iload_n hx hb dX9_asToll_27 rfl (lv_at hl 1 rfl) ?_
  refine ald_q 3 hE hP 11 (gC_11 E a I (((tr) + (10000)) + 100 + 1)) rfl (by omega) (by decide) (r := a (40 + h)) rfl dX9_asToll_28 ?_
  refine gf_X9_118 hE hP (12 + h) (gC_hc E a I (((tr) + (10000)) + 100 + 1) (h) (by omega)) (v := .int (nI (I (17) (h)))) rfl dX9_asToll_29 ?_
  refine lv_iadd hx hb dX9_asToll_32 ?_
  exact ret_i hE (r := (((nI (shC I (h) (I 11 0)) - nI (I 16 (h)))) + (nI (I (17) (h))))) (rfl) hP hD hS dX9_asToll_33

set_option maxHeartbeats 4000000 in
set_option maxRecDepth 100000 in
theorem ct_X9_asChurch (l : Launch) (E : cE) (a : Nat → Nat) (I : Nat → Nat → Nat) (tr : Int64) (h : Nat) (hI : CK I) (hH : HK I) (hh : h < 6) : Ct l E 3 yX9_asChurch cX9_asChurch 2 (some .int) [.ref (a 0), .int (nI (h))] (WC E a I tr) (some (.int (nI (shC I h (I 11 0) + I 11 0)))) (WC E a I (tr + 100000 + 1)) := by
  refine Ct_of (plainFor_of_name (by decide)) (Nat.le_of_ble_eq_true rfl) ?_
  intro p e s m args below meth c A ls hE hP hD hS hl
  have hE : cEnv p s m args meth c E RX9 cX9_asChurch 2 (some .int) A := hE
  have hx := hE.1
  have hb := hE.2.1
  have hl : lv_has ls 2 [(0, .ref (a 0)), (1, .int (nI (h)))] := hl
  have hP : va_P E.1 vwCl (WC E a I tr) s.heap := hP
  generalize hH : s.heap = H at hP hS ⊢
  have hS : va_S A s.heap H [] := by rw [hH]; exact hS
  clear hH
  have hnow := hI.2.2.1
  have hhk := hH h hh
  refine lv_aload_n hx hb dX9_asChurch_0 rfl (lv_at hl 0 rfl) ?_
  refine lv_dup hx hb dX9_asChurch_1 rfl ?_
  refine gf_X9_268 hE hP (0) (gC_0 E a I tr) (v := .long (tr)) rfl dX9_asChurch_2 ?_
  refine lv_ldc2 (v := 100000) hx hb hE.2.2.2.2.1 (hE.2.2.2.1 _ (uw mt_K_X9_283 rfl)) dX9_asChurch_5 ?_
  refine lv_ladd hx hb dX9_asChurch_8 ?_
  refine pf_X9_268 hE hP hD hS (0) (gC_0 E a I tr) rfl rfl (Nat.le_of_ble_eq_true rfl) (sC_0_9 E a I tr ((tr) + (100000))) dX9_asChurch_9 (fun H locs hP hD hS => ?_)
  refine lv_aload_n hx hb dX9_asChurch_12 rfl (lv_at hl 0 rfl) ?_
  refine lv_iload_n hx hb dX9_asChurch_13 rfl (lv_at hl 1 rfl) ?_
  refine call_V (As := [.int (nI (h))]) (rest := []) hE (ct_X9_asHouse l E a I (((tr) + (100000))) (h) hI hH (by omega)) cm_X9_asHouse (uw mt_L_X9_242 rfl) (gC_0 E a I ((tr) + (100000))) rfl rfl hP hD hS hl.1 rfl rfl (Nat.le_of_ble_eq_true rfl) ⟨by decide, by decide⟩ dX9_asChurch_14 (fun H locs hP hD hS => ?_)
  refine W.eq (g2 := F0 m 17 ls [.int (nI (shC I (h) (I 11 0)))]) rfl ?_
  have hs1 := shC_lt I (h) (I 11 0)
  have hh2 := hH (h) (by omega)
  refine lv_aload_n hx hb dX9_asChurch_17 rfl (lv_at hl 0 rfl) ?_
  refine gf_X9_36 hE hP (0) (gC_0 E a I (((tr) + (100000)) + 1)) (v := .ref (a 4)) rfl dX9_asChurch_18 ?_
  refine gf_X9_165 hE hP (5) (gC_5 E a I (((tr) + (100000)) + 1)) (v := .int (nI (I (11) (0)))) rfl dX9_asChurch_21 ?_
  refine lv_iadd hx hb dX9_asChurch_24 ?_
  refine tp (nI_add _ _) ?_
  exact ret_i hE (r := nI (shC I (h) (I 11 0) + (I (11) (0)))) (rfl) hP hD hS dX9_asChurch_25

set_option maxHeartbeats 4000000 in
set_option maxRecDepth 100000 in
theorem ct_X9_mark (l : Launch) (E : cE) (a : Nat → Nat) (I : Nat → Nat → Nat) (tr : Int64) (zp0 zp1 : Int32) (hI : CK I) (hH : HK I) : Ct l E 5 yX9_mark cX9_mark 3 (some .int) [.ref (a 0), .int (zp0), .int (zp1)] (WC E a I tr) (some (.int (r_mark (I 13 0) (I 11 0) (shC I) (I 16) (I 17) (I 18) zp0 zp1))) (WC E a I (trM (I 13 0) tr zp0 zp1)) := by
  refine Ct_of (plainFor_of_name (by decide)) (Nat.le_of_ble_eq_true rfl) ?_
  intro p e s m args below meth c A ls hE hP hD hS hl
  have hE : cEnv p s m args meth c E RX9 cX9_mark 3 (some .int) A := hE
  have hx := hE.1
  have hb := hE.2.1
  have hl : lv_has ls 3 [(0, .ref (a 0)), (1, .int (zp0)), (2, .int (zp1))] := hl
  have hP : va_P E.1 vwCl (WC E a I tr) s.heap := hP
  generalize hH : s.heap = H at hP hS ⊢
  have hS : va_S A s.heap H [] := by rw [hH]; exact hS
  clear hH
  have hc6 := hI.1
  refine lv_aload_n hx hb dX9_mark_0 rfl (lv_at hl 0 rfl) ?_
  refine gf_X9_28 hE hP (0) (gC_0 E a I tr) (v := .ref (a 3)) rfl dX9_mark_1 ?_
  refine lv_iload_n hx hb dX9_mark_4 rfl (lv_at hl 2 rfl) ?_
  refine call_V (As := [.int (zp1)]) (rest := []) hE (ct_X0_has l E a I tr ((zp1)) (hI).1) cm_X0_has (uw mt_L_X9_100 rfl) (gC_4 E a I tr) rfl rfl hP hD hS hl.1 rfl rfl (Nat.le_of_ble_eq_true rfl) ⟨by decide, by decide⟩ dX9_mark_5 (fun H locs hP hD hS => ?_)
  refine W.eq (g2 := F0 m 8 ls [.int (bB (inB ((zp1)) (I (13) (0))))]) rfl ?_
  refine bB_ne (tgt := 14) hx hb dX9_mark_8 (by decide) (fun c8 => ?_) (fun c8 => ?_)
  · obtain ⟨h, qh, rfl⟩ := inB_t (by omega) c8
    have kh : tn (nI h) = h := tn_nI (by omega)
    refine lv_iload_n hx hb dX9_mark_14 rfl (lv_at hl 1 rfl) ?_
    by_cases w15_0 : zp0 = nI 0
    · subst w15_0
      refine lv_tableIn (off := 37) (tgt := 52) hx hb dX9_mark_15 (by decide) (by decide) (by decide) (by decide) ?_
      refine lv_aload_n hx hb dX9_mark_52 rfl (lv_at hl 0 rfl) ?_
      refine lv_iload_n hx hb dX9_mark_53 rfl (lv_at hl 2 rfl) ?_
      refine call_V (As := [.int (nI (h))]) (rest := []) hE (ct_X9_asHouse l E a I (tr) (h) hI hH (by omega)) cm_X9_asHouse (uw mt_L_X9_242 rfl) (gC_0 E a I tr) rfl rfl hP hD hS hl.1 rfl rfl (Nat.le_of_ble_eq_true rfl) ⟨by decide, by decide⟩ dX9_mark_54 (fun H locs hP hD hS => ?_)
      refine W.eq (g2 := F0 m 57 ls [.int (nI (shC I (h) (I 11 0)))]) rfl ?_
      have hs1 := shC_lt I (h) (I 11 0)
      have hh2 := hH (h) (by omega)
      have hw : (tr + 1) = (trM (I 13 0) tr (nI 0) (nI h)) := (by simp only [trM, c8, cond_true]; rw [if_pos trivial])
      have hP := Eq.mp (congrArg (fun q => va_P E.1 vwCl (WC E a I q) H) hw) hP
      have hD := Eq.mp (congrArg (fun q => va_D A (WC E a I q)) hw) hD
      exact ret_i hE (r := nI (shC I (h) (I 11 0))) (by simp only [r_mark, c8, kh, cond_true]; rw [if_pos trivial]) hP hD hS dX9_mark_57
    by_cases w15_1 : zp0 = nI 1
    · subst w15_1
      refine lv_tableIn (off := 43) (tgt := 58) hx hb dX9_mark_15 (by decide) (by decide) (by decide) (by decide) ?_
      refine lv_aload_n hx hb dX9_mark_58 rfl (lv_at hl 0 rfl) ?_
      refine lv_iload_n hx hb dX9_mark_59 rfl (lv_at hl 2 rfl) ?_
      refine call_V (As := [.int (nI (h))]) (rest := []) hE (ct_X9_asInn l E a I (tr) (h) hI hH (by omega)) cm_X9_asInn (uw mt_L_X9_245 rfl) (gC_0 E a I tr) rfl rfl hP hD hS hl.1 rfl rfl (Nat.le_of_ble_eq_true rfl) ⟨by decide, by decide⟩ dX9_mark_60 (fun H locs hP hD hS => ?_)
      refine W.eq (g2 := F0 m 63 ls [.int (nI (shC I (h) (I 11 0) + I 18 (h)))]) rfl ?_
      have hs3 := shC_lt I (h) (I 11 0)
      have hh4 := hH (h) (by omega)
      have hw : (tr + 10 + 1) = (trM (I 13 0) tr (nI 1) (nI h)) := (by simp only [trM, c8, cond_true]; rw [if_neg (show ¬ nI 1 = nI 0 by decide), if_pos trivial])
      have hP := Eq.mp (congrArg (fun q => va_P E.1 vwCl (WC E a I q) H) hw) hP
      have hD := Eq.mp (congrArg (fun q => va_D A (WC E a I q)) hw) hD
      exact ret_i hE (r := nI (shC I (h) (I 11 0) + I 18 (h))) (by simp only [r_mark, c8, kh, cond_true]; rw [if_neg (show ¬ nI 1 = nI 0 by decide), if_pos trivial]) hP hD hS dX9_mark_63
    by_cases w15_2 : zp0 = nI 2
    · subst w15_2
      refine lv_tableIn (off := 49) (tgt := 64) hx hb dX9_mark_15 (by decide) (by decide) (by decide) (by decide) ?_
      refine lv_aload_n hx hb dX9_mark_64 rfl (lv_at hl 0 rfl) ?_
      refine lv_iload_n hx hb dX9_mark_65 rfl (lv_at hl 2 rfl) ?_
      refine call_V (As := [.int (nI (h))]) (rest := []) hE (ct_X9_asMill l E a I (tr) (h) hI hH (by omega)) cm_X9_asMill (uw mt_L_X9_248 rfl) (gC_0 E a I tr) rfl rfl hP hD hS hl.1 rfl rfl (Nat.le_of_ble_eq_true rfl) ⟨by decide, by decide⟩ dX9_mark_66 (fun H locs hP hD hS => ?_)
      refine W.eq (g2 := F0 m 69 ls [.int (nI (shC I (h) (I 11 0)) - nI (I 16 (h)))]) rfl ?_
      have hs5 := shC_lt I (h) (I 11 0)
      have hh6 := hH (h) (by omega)
      have hw : (tr + 100 + 1) = (trM (I 13 0) tr (nI 2) (nI h)) := (by simp only [trM, c8, cond_true]; rw [if_neg (show ¬ nI 2 = nI 0 by decide), if_neg (show ¬ nI 2 = nI 1 by decide), if_pos trivial])
      have hP := Eq.mp (congrArg (fun q => va_P E.1 vwCl (WC E a I q) H) hw) hP
      have hD := Eq.mp (congrArg (fun q => va_D A (WC E a I q)) hw) hD
      exact ret_i hE (r := (nI (shC I (h) (I 11 0)) - nI (I 16 (h)))) (by simp only [r_mark, c8, kh, cond_true]; rw [if_neg (show ¬ nI 2 = nI 0 by decide), if_neg (show ¬ nI 2 = nI 1 by decide), if_pos trivial]) hP hD hS dX9_mark_69
    by_cases w15_3 : zp0 = nI 3
    · subst w15_3
      refine lv_tableIn (off := 55) (tgt := 70) hx hb dX9_mark_15 (by decide) (by decide) (by decide) (by decide) ?_
      refine lv_aload_n hx hb dX9_mark_70 rfl (lv_at hl 0 rfl) ?_
      refine lv_iload_n hx hb dX9_mark_71 rfl (lv_at hl 2 rfl) ?_
      refine call_V (As := [.int (nI (h))]) (rest := []) hE (ct_X9_asPalace l E a I (tr) (h) hI hH (by omega)) cm_X9_asPalace (uw mt_L_X9_251 rfl) (gC_0 E a I tr) rfl rfl hP hD hS hl.1 rfl rfl (Nat.le_of_ble_eq_true rfl) ⟨by decide, by decide⟩ dX9_mark_72 (fun H locs hP hD hS => ?_)
      refine W.eq (g2 := F0 m 75 ls [.int (nI ((shC I (h) (I 11 0) + I 18 (h)) * 2))]) rfl ?_
      have hs7 := shC_lt I (h) (I 11 0)
      have hh8 := hH (h) (by omega)
      have hw : (tr + 1000 + 10 + 1) = (trM (I 13 0) tr (nI 3) (nI h)) := (by simp only [trM, c8, cond_true]; rw [if_neg (show ¬ nI 3 = nI 0 by decide), if_neg (show ¬ nI 3 = nI 1 by decide), if_neg (show ¬ nI 3 = nI 2 by decide), if_pos trivial])
      have hP := Eq.mp (congrArg (fun q => va_P E.1 vwCl (WC E a I q) H) hw) hP
      have hD := Eq.mp (congrArg (fun q => va_D A (WC E a I q)) hw) hD
      exact ret_i hE (r := nI ((shC I (h) (I 11 0) + I 18 (h)) * 2)) (by simp only [r_mark, c8, kh, cond_true]; rw [if_neg (show ¬ nI 3 = nI 0 by decide), if_neg (show ¬ nI 3 = nI 1 by decide), if_neg (show ¬ nI 3 = nI 2 by decide), if_pos trivial]) hP hD hS dX9_mark_75
    by_cases w15_4 : zp0 = nI 4
    · subst w15_4
      refine lv_tableIn (off := 61) (tgt := 76) hx hb dX9_mark_15 (by decide) (by decide) (by decide) (by decide) ?_
      refine lv_aload_n hx hb dX9_mark_76 rfl (lv_at hl 0 rfl) ?_
      refine lv_iload_n hx hb dX9_mark_77 rfl (lv_at hl 2 rfl) ?_
      refine call_V (As := [.int (nI (h))]) (rest := []) hE (ct_X9_asToll l E a I (tr) (h) hI hH (by omega)) cm_X9_asToll (uw mt_L_X9_254 rfl) (gC_0 E a I tr) rfl rfl hP hD hS hl.1 rfl rfl (Nat.le_of_ble_eq_true rfl) ⟨by decide, by decide⟩ dX9_mark_78 (fun H locs hP hD hS => ?_)
      refine W.eq (g2 := F0 m 81 ls [.int (nI (shC I (h) (I 11 0)) - nI (I 16 (h)) + nI (I 17 (h)))]) rfl ?_
      have hs9 := shC_lt I (h) (I 11 0)
      have hh10 := hH (h) (by omega)
      have hw : (tr + 10000 + 100 + 1) = (trM (I 13 0) tr (nI 4) (nI h)) := (by simp only [trM, c8, cond_true]; rw [if_neg (show ¬ nI 4 = nI 0 by decide), if_neg (show ¬ nI 4 = nI 1 by decide), if_neg (show ¬ nI 4 = nI 2 by decide), if_neg (show ¬ nI 4 = nI 3 by decide), if_pos trivial])
      have hP := Eq.mp (congrArg (fun q => va_P E.1 vwCl (WC E a I q) H) hw) hP
      have hD := Eq.mp (congrArg (fun q => va_D A (WC E a I q)) hw) hD
      exact ret_i hE (r := (nI (shC I (h) (I 11 0)) - nI (I 16 (h)) + nI (I 17 (h)))) (by simp only [r_mark, c8, kh, cond_true]; rw [if_neg (show ¬ nI 4 = nI 0 by decide), if_neg (show ¬ nI 4 = nI 1 by decide), if_neg (show ¬ nI 4 = nI 2 by decide), if_neg (show ¬ nI 4 = nI 3 by decide), if_pos trivial]) hP hD hS dX9_mark_81
    by_cases w15_5 : zp0 = nI 5
    · subst w15_5
      refine lv_tableIn (off := 67) (tgt := 82) hx hb dX9_mark_15 (by decide) (by decide) (by decide) (by decide) ?_
      refine lv_aload_n hx hb dX9_mark_82 rfl (lv_at hl 0 rfl) ?_
      refine lv_iload_n hx hb dX9_mark_83 rfl (lv_at hl 2 rfl) ?_
      refine call_V (As := [.int (nI (h))]) (rest := []) hE (ct_X9_asChurch l E a I (tr) (h) hI hH (by omega)) cm_X9_asChurch (uw mt_L_X9_257 rfl) (gC_0 E a I tr) rfl rfl hP hD hS hl.1 rfl rfl (Nat.le_of_ble_eq_true rfl) ⟨by decide, by decide⟩ dX9_mark_84 (fun H locs hP hD hS => ?_)
      refine W.eq (g2 := F0 m 87 ls [.int (nI (shC I (h) (I 11 0) + I 11 0))]) rfl ?_
      have hs11 := shC_lt I (h) (I 11 0)
      have hh12 := hH (h) (by omega)
      have hw : (tr + 100000 + 1) = (trM (I 13 0) tr (nI 5) (nI h)) := (by simp only [trM, c8, cond_true]; rw [if_neg (show ¬ nI 5 = nI 0 by decide), if_neg (show ¬ nI 5 = nI 1 by decide), if_neg (show ¬ nI 5 = nI 2 by decide), if_neg (show ¬ nI 5 = nI 3 by decide), if_neg (show ¬ nI 5 = nI 4 by decide), if_pos trivial])
      have hP := Eq.mp (congrArg (fun q => va_P E.1 vwCl (WC E a I q) H) hw) hP
      have hD := Eq.mp (congrArg (fun q => va_D A (WC E a I q)) hw) hD
      exact ret_i hE (r := nI (shC I (h) (I 11 0) + I 11 0)) (by simp only [r_mark, c8, kh, cond_true]; rw [if_neg (show ¬ nI 5 = nI 0 by decide), if_neg (show ¬ nI 5 = nI 1 by decide), if_neg (show ¬ nI 5 = nI 2 by decide), if_neg (show ¬ nI 5 = nI 3 by decide), if_neg (show ¬ nI 5 = nI 4 by decide), if_pos trivial]) hP hD hS dX9_mark_87
    have wout : ∀ j, j ≤ 5 → ¬ zp0 = nI j := fun j hj => by rcases (show j = 0 ∨ j = 1 ∨ j = 2 ∨ j = 3 ∨ j = 4 ∨ j = 5 by omega) with rfl | rfl | rfl | rfl | rfl | rfl <;> assumption
    refine lv_tableOut (tgt := 88) hx hb dX9_mark_15 (sw_out 5 (by decide) wout) (by decide) ?_
    refine lv_ldc (v := (-1000000)) hx hb hE.2.2.2.2.1 (hE.2.2.2.1 _ (uw mt_K_X9_241 rfl)) dX9_mark_88 ?_
    have hw : tr = (trM (I 13 0) tr zp0 (nI h)) := (by simp only [trM, c8, cond_true]; rw [if_neg w15_0, if_neg w15_1, if_neg w15_2, if_neg w15_3, if_neg w15_4, if_neg w15_5])
    have hP := Eq.mp (congrArg (fun q => va_P E.1 vwCl (WC E a I q) H) hw) hP
    have hD := Eq.mp (congrArg (fun q => va_D A (WC E a I q)) hw) hD
    exact ret_i hE (r := (-1000000)) (by simp only [r_mark, c8, kh, cond_true]; rw [if_neg w15_0, if_neg w15_1, if_neg w15_2, if_neg w15_3, if_neg w15_4, if_neg w15_5]) hP hD hS dX9_mark_90
  · refine lv_ldc (v := (-1000000)) hx hb hE.2.2.2.2.1 (hE.2.2.2.1 _ (uw mt_K_X9_241 rfl)) dX9_mark_11 ?_
    have hw : tr = (trM (I 13 0) tr zp0 zp1) := by simp only [trM, c8, cond_false]
    have hP := Eq.mp (congrArg (fun q => va_P E.1 vwCl (WC E a I q) H) hw) hP
    have hD := Eq.mp (congrArg (fun q => va_D A (WC E a I q)) hw) hD
    exact ret_i hE (r := (-1000000)) (by simp only [r_mark, c8, cond_false]) hP hD hS dX9_mark_13

set_option maxHeartbeats 4000000 in
set_option maxRecDepth 100000 in
theorem ct_X9_keep (l : Launch) (E : cE) (a : Nat → Nat) (I : Nat → Nat → Nat) (tr : Int64) (zp0 : Int32) : Ct l E 2 yX9_keep cX9_keep 2 (some .int) [.ref (a 0), .int (zp0)] (WC E a I tr) (some (.int (r_keep (I 11 0) zp0))) (WC E a (keepI I zp0) tr) := by
  refine Ct_of (plainFor_of_name (by decide)) (Nat.le_of_ble_eq_true rfl) ?_
  intro p e s m args below meth c A ls hE hP hD hS hl
  have hE : cEnv p s m args meth c E RX9 cX9_keep 2 (some .int) A := hE
  have hx := hE.1
  have hb := hE.2.1
  have hl : lv_has ls 2 [(0, .ref (a 0)), (1, .int (zp0))] := hl
  have hP : va_P E.1 vwCl (WC E a I tr) s.heap := hP
  generalize hH : s.heap = H at hP hS ⊢
  have hS : va_S A s.heap H [] := by rw [hH]; exact hS
  clear hH
  refine lv_iload_n hx hb dX9_keep_0 rfl (lv_at hl 1 rfl) ?_
  refine lv_iconst (v := nI (0)) hx hb dX9_keep_1 (by decide) ?_
  refine lv_iconst (v := nI (1)) hx hb dX9_keep_2 (by decide) ?_
  refine call_S (As := [.int (zp0), .int (nI (0)), .int (nI (1))]) (rest := []) hE (ct_X9_isWithin l E (WC E a I tr) ((zp0)) (nI (0)) (nI (1))) cm_X9_isWithin (uw mt_L_X9_73 rfl) hP hD hS hl.1 rfl rfl (Nat.le_of_ble_eq_true rfl) ⟨by decide, by decide⟩ dX9_keep_3 (fun H locs hP hD hS => ?_)
  refine W.eq (g2 := F0 m 6 ls [.int (bB (wi ((zp0)) (nI (0)) (nI (1))))]) rfl ?_
  refine bB_ne (tgt := 11) hx hb dX9_keep_6 (by decide) (fun c6 => ?_) (fun c6 => ?_)
  · obtain ⟨j, qj1, qj2, rfl⟩ := wi_of (by decide) (by decide) c6
    have kj : tn (nI j) = j := tn_nI (by omega)
    rcases (show j = 0 ∨ j = 1 by omega) with rfl | rfl
    · refine lv_aload_n hx hb dX9_keep_11 rfl (lv_at hl 0 rfl) ?_
      refine gf_X9_64 hE hP (0) (gC_0 E a I tr) (v := .ref (a 8)) rfl dX9_keep_12 ?_
      refine lv_iload_n hx hb dX9_keep_15 rfl (lv_at hl 1 rfl) ?_
      refine ald_q 4 hE hP 52 (gC_52 E a I tr) rfl (by omega) (by decide) (r := a (30)) rfl dX9_keep_16 ?_
      refine lv_aload_n hx hb dX9_keep_17 rfl (lv_at hl 0 rfl) ?_
      refine gf_X9_36 hE hP (0) (gC_0 E a I tr) (v := .ref (a 4)) rfl dX9_keep_18 ?_
      refine call_V (As := [.ref (a 4)]) (rest := []) hE (ct_X4_copy_0p l E a I tr) cm_X4_copyFrom (uw mt_L_X9_260 rfl) (gC_53 E a I tr) rfl rfl hP hD hS hl.1 rfl rfl (Nat.le_of_ble_eq_true rfl) ⟨by decide, by decide⟩ dX9_keep_21 (fun H locs hP hD hS => ?_)
      refine W.eq (g2 := F0 m 24 ls []) rfl ?_
      refine lv_aload_n hx hb dX9_keep_24 rfl (lv_at hl 0 rfl) ?_
      refine gf_X9_68 hE hP (0) (gC_0 E a (up2 (up2 (upA (upA (upA I (60) (cpN (I 7) (I 60) 0 0 6)) (61) (cpN (I 8) (I 61) 0 0 10)) (62) (cpN (I 9) (I 62) 0 0 10)) (63) (0) (I 10 0)) (64) (0) (I 11 0)) tr) (v := .ref (a 9)) rfl dX9_keep_25 ?_
      refine lv_iload_n hx hb dX9_keep_28 rfl (lv_at hl 1 rfl) ?_
      refine lv_iconst (v := nI (1)) hx hb dX9_keep_29 (by decide) ?_
      refine ast_z hE hP hD hS (61) (gC_61 E a (up2 (up2 (upA (upA (upA I (60) (cpN (I 7) (I 60) 0 0 6)) (61) (cpN (I 8) (I 61) 0 0 10)) (62) (cpN (I 9) (I 62) 0 0 10)) (63) (0) (I 10 0)) (64) (0) (I 11 0)) tr) (by omega) (by decide) (sC_61 E a (up2 (up2 (upA (upA (upA I (60) (cpN (I 7) (I 60) 0 0 6)) (61) (cpN (I 8) (I 61) 0 0 10)) (62) (cpN (I 9) (I 62) 0 0 10)) (63) (0) (I 10 0)) (64) (0) (I 11 0)) tr (0) (1) (by omega)) dX9_keep_30 (fun H locs hP hD hS => ?_)
      refine lv_aload_n hx hb dX9_keep_31 rfl (lv_at hl 0 rfl) ?_
      refine gf_X9_36 hE hP (0) (gC_0 E a (up2 (up2 (up2 (upA (upA (upA I (60) (cpN (I 7) (I 60) 0 0 6)) (61) (cpN (I 8) (I 61) 0 0 10)) (62) (cpN (I 9) (I 62) 0 0 10)) (63) (0) (I 10 0)) (64) (0) (I 11 0)) (70) (0) (1)) tr) (v := .ref (a 4)) rfl dX9_keep_32 ?_
      refine gf_X9_165 hE hP (5) (gC_5 E a (up2 (up2 (up2 (upA (upA (upA I (60) (cpN (I 7) (I 60) 0 0 6)) (61) (cpN (I 8) (I 61) 0 0 10)) (62) (cpN (I 9) (I 62) 0 0 10)) (63) (0) (I 10 0)) (64) (0) (I 11 0)) (70) (0) (1)) tr) (v := .int (nI (I (11) (0)))) rfl dX9_keep_35 ?_
      have hw : (up2 (up2 (up2 (upA (upA (upA I (60) (cpN (I 7) (I 60) 0 0 6)) (61) (cpN (I 8) (I 61) 0 0 10)) (62) (cpN (I 9) (I 62) 0 0 10)) (63) (0) (I 10 0)) (64) (0) (I 11 0)) (70) (0) (1)) = (keepI I (nI 0)) := by first | (simp only [keepI, c6, kj, cond_true]; rw [if_pos trivial]; rfl; done) | (simp only [keepI, c6, kj, cond_true]; rw [if_neg (by decide)]; rfl; done)
      have hP := Eq.mp (congrArg (fun q => va_P E.1 vwCl (WC E a q tr) H) hw) hP
      have hD := Eq.mp (congrArg (fun q => va_D A (WC E a q tr)) hw) hD
      exact ret_i hE (r := nI (I (11) (0))) (by simp only [r_keep, c6, cond_true]) hP hD hS dX9_keep_38
    · refine lv_aload_n hx hb dX9_keep_11 rfl (lv_at hl 0 rfl) ?_
      refine gf_X9_64 hE hP (0) (gC_0 E a I tr) (v := .ref (a 8)) rfl dX9_keep_12 ?_
      refine lv_iload_n hx hb dX9_keep_15 rfl (lv_at hl 1 rfl) ?_
      refine ald_q 4 hE hP 52 (gC_52 E a I tr) rfl (by omega) (by decide) (r := a (31)) rfl dX9_keep_16 ?_
      refine lv_aload_n hx hb dX9_keep_17 rfl (lv_at hl 0 rfl) ?_
      refine gf_X9_36 hE hP (0) (gC_0 E a I tr) (v := .ref (a 4)) rfl dX9_keep_18 ?_
      refine call_V (As := [.ref (a 4)]) (rest := []) hE (ct_X4_copy_1p l E a I tr) cm_X4_copyFrom (uw mt_L_X9_260 rfl) (gC_57 E a I tr) rfl rfl hP hD hS hl.1 rfl rfl (Nat.le_of_ble_eq_true rfl) ⟨by decide, by decide⟩ dX9_keep_21 (fun H locs hP hD hS => ?_)
      refine W.eq (g2 := F0 m 24 ls []) rfl ?_
      refine lv_aload_n hx hb dX9_keep_24 rfl (lv_at hl 0 rfl) ?_
      refine gf_X9_68 hE hP (0) (gC_0 E a (up2 (up2 (upA (upA (upA I (65) (cpN (I 7) (I 65) 0 0 6)) (66) (cpN (I 8) (I 66) 0 0 10)) (67) (cpN (I 9) (I 67) 0 0 10)) (68) (0) (I 10 0)) (69) (0) (I 11 0)) tr) (v := .ref (a 9)) rfl dX9_keep_25 ?_
      refine lv_iload_n hx hb dX9_keep_28 rfl (lv_at hl 1 rfl) ?_
      refine lv_iconst (v := nI (1)) hx hb dX9_keep_29 (by decide) ?_
      refine ast_z hE hP hD hS (61) (gC_61 E a (up2 (up2 (upA (upA (upA I (65) (cpN (I 7) (I 65) 0 0 6)) (66) (cpN (I 8) (I 66) 0 0 10)) (67) (cpN (I 9) (I 67) 0 0 10)) (68) (0) (I 10 0)) (69) (0) (I 11 0)) tr) (by omega) (by decide) (sC_61 E a (up2 (up2 (upA (upA (upA I (65) (cpN (I 7) (I 65) 0 0 6)) (66) (cpN (I 8) (I 66) 0 0 10)) (67) (cpN (I 9) (I 67) 0 0 10)) (68) (0) (I 10 0)) (69) (0) (I 11 0)) tr (1) (1) (by omega)) dX9_keep_30 (fun H locs hP hD hS => ?_)
      refine lv_aload_n hx hb dX9_keep_31 rfl (lv_at hl 0 rfl) ?_
      refine gf_X9_36 hE hP (0) (gC_0 E a (up2 (up2 (up2 (upA (upA (upA I (65) (cpN (I 7) (I 65) 0 0 6)) (66) (cpN (I 8) (I 66) 0 0 10)) (67) (cpN (I 9) (I 67) 0 0 10)) (68) (0) (I 10 0)) (69) (0) (I 11 0)) (70) (1) (1)) tr) (v := .ref (a 4)) rfl dX9_keep_32 ?_
      refine gf_X9_165 hE hP (5) (gC_5 E a (up2 (up2 (up2 (upA (upA (upA I (65) (cpN (I 7) (I 65) 0 0 6)) (66) (cpN (I 8) (I 66) 0 0 10)) (67) (cpN (I 9) (I 67) 0 0 10)) (68) (0) (I 10 0)) (69) (0) (I 11 0)) (70) (1) (1)) tr) (v := .int (nI (I (11) (0)))) rfl dX9_keep_35 ?_
      have hw : (up2 (up2 (up2 (upA (upA (upA I (65) (cpN (I 7) (I 65) 0 0 6)) (66) (cpN (I 8) (I 66) 0 0 10)) (67) (cpN (I 9) (I 67) 0 0 10)) (68) (0) (I 10 0)) (69) (0) (I 11 0)) (70) (1) (1)) = (keepI I (nI 1)) := by first | (simp only [keepI, c6, kj, cond_true]; rw [if_pos trivial]; rfl; done) | (simp only [keepI, c6, kj, cond_true]; rw [if_neg (by decide)]; rfl; done)
      have hP := Eq.mp (congrArg (fun q => va_P E.1 vwCl (WC E a q tr) H) hw) hP
      have hD := Eq.mp (congrArg (fun q => va_D A (WC E a q tr)) hw) hD
      exact ret_i hE (r := nI (I (11) (0))) (by simp only [r_keep, c6, cond_true]) hP hD hS dX9_keep_38
  · refine lv_iconst (v := (-1)) hx hb dX9_keep_9 (by decide) ?_
    have hw : I = (keepI I zp0) := by simp only [keepI, c6, cond_false]
    have hP := Eq.mp (congrArg (fun q => va_P E.1 vwCl (WC E a q tr) H) hw) hP
    have hD := Eq.mp (congrArg (fun q => va_D A (WC E a q tr)) hw) hD
    exact ret_i hE (r := (-1)) (by simp only [r_keep, c6, cond_false]) hP hD hS dX9_keep_10

set_option maxHeartbeats 4000000 in
set_option maxRecDepth 100000 in
theorem ct_X9_back (l : Launch) (E : cE) (a : Nat → Nat) (I : Nat → Nat → Nat) (tr : Int64) (zp0 : Int32) (h70 : ∀ j, j < 2 → I 70 j < 2) : Ct l E 2 yX9_back cX9_back 2 (some .int) [.ref (a 0), .int (zp0)] (WC E a I tr) (some (.int (r_back (I 70) (fun j => if j = 0 then I 64 0 else I 69 0) zp0))) (WC E a (backI I zp0) tr) := by
  refine Ct_of (plainFor_of_name (by decide)) (Nat.le_of_ble_eq_true rfl) ?_
  intro p e s m args below meth c A ls hE hP hD hS hl
  have hE : cEnv p s m args meth c E RX9 cX9_back 2 (some .int) A := hE
  have hx := hE.1
  have hb := hE.2.1
  have hl : lv_has ls 2 [(0, .ref (a 0)), (1, .int (zp0))] := hl
  have hP : va_P E.1 vwCl (WC E a I tr) s.heap := hP
  generalize hH : s.heap = H at hP hS ⊢
  have hS : va_S A s.heap H [] := by rw [hH]; exact hS
  clear hH
  have h700 := h70 0 (by decide)
  have h701 := h70 1 (by decide)
  refine lv_iload_n hx hb dX9_back_0 rfl (lv_at hl 1 rfl) ?_
  refine lv_iconst (v := nI (0)) hx hb dX9_back_1 (by decide) ?_
  refine lv_iconst (v := nI (1)) hx hb dX9_back_2 (by decide) ?_
  refine call_S (As := [.int (zp0), .int (nI (0)), .int (nI (1))]) (rest := []) hE (ct_X9_isWithin l E (WC E a I tr) ((zp0)) (nI (0)) (nI (1))) cm_X9_isWithin (uw mt_L_X9_73 rfl) hP hD hS hl.1 rfl rfl (Nat.le_of_ble_eq_true rfl) ⟨by decide, by decide⟩ dX9_back_3 (fun H locs hP hD hS => ?_)
  refine W.eq (g2 := F0 m 6 ls [.int (bB (wi ((zp0)) (nI (0)) (nI (1))))]) rfl ?_
  refine bB_ne (tgt := 11) hx hb dX9_back_6 (by decide) (fun c6 => ?_) (fun c6 => ?_)
  · obtain ⟨j, qj1, qj2, rfl⟩ := wi_of (by decide) (by decide) c6
    have kj : tn (nI j) = j := tn_nI (by omega)
    rcases (show j = 0 ∨ j = 1 by omega) with rfl | rfl
    · refine lv_aload_n hx hb dX9_back_11 rfl (lv_at hl 0 rfl) ?_
      refine gf_X9_68 hE hP (0) (gC_0 E a I tr) (v := .ref (a 9)) rfl dX9_back_12 ?_
      refine lv_iload_n hx hb dX9_back_15 rfl (lv_at hl 1 rfl) ?_
      refine ald_z hE hP (61) (gC_61 E a I tr) (by omega) (by decide) (r := nI (I (70) (0))) rfl dX9_back_16 ?_
      refine bZ_ne (tgt := 23) hx hb (by omega) dX9_back_17 (by decide) (fun c17 => ?_) (fun c17 => ?_)
      · refine lv_aload_n hx hb dX9_back_23 rfl (lv_at hl 0 rfl) ?_
        refine gf_X9_36 hE hP (0) (gC_0 E a I tr) (v := .ref (a 4)) rfl dX9_back_24 ?_
        refine lv_aload_n hx hb dX9_back_27 rfl (lv_at hl 0 rfl) ?_
        refine gf_X9_64 hE hP (0) (gC_0 E a I tr) (v := .ref (a 8)) rfl dX9_back_28 ?_
        refine lv_iload_n hx hb dX9_back_31 rfl (lv_at hl 1 rfl) ?_
        refine ald_q 4 hE hP 52 (gC_52 E a I tr) rfl (by omega) (by decide) (r := a (30)) rfl dX9_back_32 ?_
        refine call_V (As := [.ref (a (30))]) (rest := []) hE (ct_X4_copy_p0 l E a I tr) cm_X4_copyFrom (uw mt_L_X9_260 rfl) (gC_5 E a I tr) rfl rfl hP hD hS hl.1 rfl rfl (Nat.le_of_ble_eq_true rfl) ⟨by decide, by decide⟩ dX9_back_33 (fun H locs hP hD hS => ?_)
        refine W.eq (g2 := F0 m 36 ls []) rfl ?_
        refine lv_aload_n hx hb dX9_back_36 rfl (lv_at hl 0 rfl) ?_
        refine gf_X9_36 hE hP (0) (gC_0 E a (up2 (up2 (upA (upA (upA I (7) (cpN (I 60) (I 7) 0 0 6)) (8) (cpN (I 61) (I 8) 0 0 10)) (9) (cpN (I 62) (I 9) 0 0 10)) (10) (0) (I 63 0)) (11) (0) (I 64 0)) tr) (v := .ref (a 4)) rfl dX9_back_37 ?_
        refine gf_X9_165 hE hP (5) (gC_5 E a (up2 (up2 (upA (upA (upA I (7) (cpN (I 60) (I 7) 0 0 6)) (8) (cpN (I 61) (I 8) 0 0 10)) (9) (cpN (I 62) (I 9) 0 0 10)) (10) (0) (I 63 0)) (11) (0) (I 64 0)) tr) (v := .int (nI (I 64 0))) rfl dX9_back_40 ?_
        have hw : (up2 (up2 (upA (upA (upA I (7) (cpN (I 60) (I 7) 0 0 6)) (8) (cpN (I 61) (I 8) 0 0 10)) (9) (cpN (I 62) (I 9) 0 0 10)) (10) (0) (I 63 0)) (11) (0) (I 64 0)) = (backI I (nI 0)) := by first | (simp only [backI, c6, kj, cond_true]; rw [if_neg (by omega), if_pos trivial]; rfl; done) | (simp only [backI, c6, kj, cond_true]; rw [if_neg (by omega), if_neg (by decide)]; rfl; done)
        have hP := Eq.mp (congrArg (fun q => va_P E.1 vwCl (WC E a q tr) H) hw) hP
        have hD := Eq.mp (congrArg (fun q => va_D A (WC E a q tr)) hw) hD
        exact ret_i hE (r := nI (I 64 0)) (by first | (simp only [r_back, c6, kj, cond_true]; rw [if_neg (by omega), if_pos trivial]; done) | (simp only [r_back, c6, kj, cond_true]; rw [if_neg (by omega), if_neg (by decide)]; done)) hP hD hS dX9_back_43
      · refine lv_bipush (v := (-2)) hx hb dX9_back_20 (by decide) ?_
        have hw : I = (backI I (nI 0)) := by simp only [backI, c6, kj, cond_true]; rw [if_pos c17]
        have hP := Eq.mp (congrArg (fun q => va_P E.1 vwCl (WC E a q tr) H) hw) hP
        have hD := Eq.mp (congrArg (fun q => va_D A (WC E a q tr)) hw) hD
        exact ret_i hE (r := (-2)) (by simp only [r_back, c6, kj, cond_true]; rw [if_pos c17]) hP hD hS dX9_back_22
    · refine lv_aload_n hx hb dX9_back_11 rfl (lv_at hl 0 rfl) ?_
      refine gf_X9_68 hE hP (0) (gC_0 E a I tr) (v := .ref (a 9)) rfl dX9_back_12 ?_
      refine lv_iload_n hx hb dX9_back_15 rfl (lv_at hl 1 rfl) ?_
      refine ald_z hE hP (61) (gC_61 E a I tr) (by omega) (by decide) (r := nI (I (70) (1))) rfl dX9_back_16 ?_
      refine bZ_ne (tgt := 23) hx hb (by omega) dX9_back_17 (by decide) (fun c17 => ?_) (fun c17 => ?_)
      · refine lv_aload_n hx hb dX9_back_23 rfl (lv_at hl 0 rfl) ?_
        refine gf_X9_36 hE hP (0) (gC_0 E a I tr) (v := .ref (a 4)) rfl dX9_back_24 ?_
        refine lv_aload_n hx hb dX9_back_27 rfl (lv_at hl 0 rfl) ?_
        refine gf_X9_64 hE hP (0) (gC_0 E a I tr) (v := .ref (a 8)) rfl dX9_back_28 ?_
        refine lv_iload_n hx hb dX9_back_31 rfl (lv_at hl 1 rfl) ?_
        refine ald_q 4 hE hP 52 (gC_52 E a I tr) rfl (by omega) (by decide) (r := a (31)) rfl dX9_back_32 ?_
        refine call_V (As := [.ref (a (31))]) (rest := []) hE (ct_X4_copy_p1 l E a I tr) cm_X4_copyFrom (uw mt_L_X9_260 rfl) (gC_5 E a I tr) rfl rfl hP hD hS hl.1 rfl rfl (Nat.le_of_ble_eq_true rfl) ⟨by decide, by decide⟩ dX9_back_33 (fun H locs hP hD hS => ?_)
        refine W.eq (g2 := F0 m 36 ls []) rfl ?_
        refine lv_aload_n hx hb dX9_back_36 rfl (lv_at hl 0 rfl) ?_
        refine gf_X9_36 hE hP (0) (gC_0 E a (up2 (up2 (upA (upA (upA I (7) (cpN (I 65) (I 7) 0 0 6)) (8) (cpN (I 66) (I 8) 0 0 10)) (9) (cpN (I 67) (I 9) 0 0 10)) (10) (0) (I 68 0)) (11) (0) (I 69 0)) tr) (v := .ref (a 4)) rfl dX9_back_37 ?_
        refine gf_X9_165 hE hP (5) (gC_5 E a (up2 (up2 (upA (upA (upA I (7) (cpN (I 65) (I 7) 0 0 6)) (8) (cpN (I 66) (I 8) 0 0 10)) (9) (cpN (I 67) (I 9) 0 0 10)) (10) (0) (I 68 0)) (11) (0) (I 69 0)) tr) (v := .int (nI (I 69 0))) rfl dX9_back_40 ?_
        have hw : (up2 (up2 (upA (upA (upA I (7) (cpN (I 65) (I 7) 0 0 6)) (8) (cpN (I 66) (I 8) 0 0 10)) (9) (cpN (I 67) (I 9) 0 0 10)) (10) (0) (I 68 0)) (11) (0) (I 69 0)) = (backI I (nI 1)) := by first | (simp only [backI, c6, kj, cond_true]; rw [if_neg (by omega), if_pos trivial]; rfl; done) | (simp only [backI, c6, kj, cond_true]; rw [if_neg (by omega), if_neg (by decide)]; rfl; done)
        have hP := Eq.mp (congrArg (fun q => va_P E.1 vwCl (WC E a q tr) H) hw) hP
        have hD := Eq.mp (congrArg (fun q => va_D A (WC E a q tr)) hw) hD
        exact ret_i hE (r := nI (I 69 0)) (by first | (simp only [r_back, c6, kj, cond_true]; rw [if_neg (by omega), if_pos trivial]; done) | (simp only [r_back, c6, kj, cond_true]; rw [if_neg (by omega), if_neg (by decide)]; done)) hP hD hS dX9_back_43
      · refine lv_bipush (v := (-2)) hx hb dX9_back_20 (by decide) ?_
        have hw : I = (backI I (nI 1)) := by simp only [backI, c6, kj, cond_true]; rw [if_pos c17]
        have hP := Eq.mp (congrArg (fun q => va_P E.1 vwCl (WC E a q tr) H) hw) hP
        have hD := Eq.mp (congrArg (fun q => va_D A (WC E a q tr)) hw) hD
        exact ret_i hE (r := (-2)) (by simp only [r_back, c6, kj, cond_true]; rw [if_pos c17]) hP hD hS dX9_back_22
  · refine lv_iconst (v := (-1)) hx hb dX9_back_9 (by decide) ?_
    have hw : I = (backI I zp0) := by simp only [backI, c6, cond_false]
    have hP := Eq.mp (congrArg (fun q => va_P E.1 vwCl (WC E a q tr) H) hw) hP
    have hD := Eq.mp (congrArg (fun q => va_D A (WC E a q tr)) hw) hD
    exact ret_i hE (r := (-1)) (by simp only [r_back, c6, cond_false]) hP hD hS dX9_back_10

set_option maxHeartbeats 4000000 in
set_option maxRecDepth 100000 in
theorem ct_X9_count (l : Launch) (E : cE) (a : Nat → Nat) (I : Nat → Nat → Nat) (tr : Int64) (zp0 : Int32) : Ct l E 0 yX9_count cX9_count 2 (some .int) [.ref (a 0), .int (zp0)] (WC E a I tr) (some (.int (r_count (fun i => [I 13 0, I 14 0, I 11 0, I 44 0, I 47 0, I 55 0, I 10 0, I 1 0].getD i 0) zp0))) (WC E a I tr) := by
  refine Ct_of (plainFor_of_name (by decide)) (Nat.le_of_ble_eq_true rfl) ?_
  intro p e s m args below meth c A ls hE hP hD hS hl
  have hE : cEnv p s m args meth c E RX9 cX9_count 2 (some .int) A := hE
  have hx := hE.1
  have hb := hE.2.1
  have hl : lv_has ls 2 [(0, .ref (a 0)), (1, .int (zp0))] := hl
  have hP : va_P E.1 vwCl (WC E a I tr) s.heap := hP
  generalize hH : s.heap = H at hP hS ⊢
  have hS : va_S A s.heap H [] := by rw [hH]; exact hS
  clear hH
  refine lv_iload_n hx hb dX9_count_0 rfl (lv_at hl 1 rfl) ?_
  by_cases w1_0 : zp0 = nI 0
  · subst w1_0
    refine lv_tableIn (off := 47) (tgt := 48) hx hb dX9_count_1 (by decide) (by decide) (by decide) (by decide) ?_
    refine lv_aload_n hx hb dX9_count_48 rfl (lv_at hl 0 rfl) ?_
    refine gf_X9_28 hE hP (0) (gC_0 E a I tr) (v := .ref (a 3)) rfl dX9_count_49 ?_
    refine gf_X9_89 hE hP (4) (gC_4 E a I tr) (v := .ref (a 11)) rfl dX9_count_52 ?_
    refine gf_X9_264 hE hP (10) (gC_10 E a I tr) (v := .int (nI (I (13) (0)))) rfl dX9_count_55 ?_
    exact ret_i hE (r := nI (I (13) (0))) (by rw [r_count, if_pos rfl]; rfl) hP hD hS dX9_count_58
  by_cases w1_1 : zp0 = nI 1
  · subst w1_1
    refine lv_tableIn (off := 58) (tgt := 59) hx hb dX9_count_1 (by decide) (by decide) (by decide) (by decide) ?_
    refine lv_aload_n hx hb dX9_count_59 rfl (lv_at hl 0 rfl) ?_
    refine gf_X9_28 hE hP (0) (gC_0 E a I tr) (v := .ref (a 3)) rfl dX9_count_60 ?_
    refine gf_X9_89 hE hP (4) (gC_4 E a I tr) (v := .ref (a 11)) rfl dX9_count_63 ?_
    refine gf_X9_265 hE hP (10) (gC_10 E a I tr) (v := .int (nI (I (14) (0)))) rfl dX9_count_66 ?_
    exact ret_i hE (r := nI (I (14) (0))) (by rw [r_count, if_neg (show ¬ nI 1 = nI 0 by decide), if_pos rfl]; rfl) hP hD hS dX9_count_69
  by_cases w1_2 : zp0 = nI 2
  · subst w1_2
    refine lv_tableIn (off := 69) (tgt := 70) hx hb dX9_count_1 (by decide) (by decide) (by decide) (by decide) ?_
    refine lv_aload_n hx hb dX9_count_70 rfl (lv_at hl 0 rfl) ?_
    refine gf_X9_36 hE hP (0) (gC_0 E a I tr) (v := .ref (a 4)) rfl dX9_count_71 ?_
    refine gf_X9_165 hE hP (5) (gC_5 E a I tr) (v := .int (nI (I (11) (0)))) rfl dX9_count_74 ?_
    exact ret_i hE (r := nI (I (11) (0))) (by rw [r_count, if_neg (show ¬ nI 2 = nI 0 by decide), if_neg (show ¬ nI 2 = nI 1 by decide), if_pos rfl]; rfl) hP hD hS dX9_count_77
  by_cases w1_3 : zp0 = nI 3
  · subst w1_3
    refine lv_tableIn (off := 77) (tgt := 78) hx hb dX9_count_1 (by decide) (by decide) (by decide) (by decide) ?_
    refine lv_aload_n hx hb dX9_count_78 rfl (lv_at hl 0 rfl) ?_
    refine gf_X9_44 hE hP (0) (gC_0 E a I tr) (v := .ref (a 5)) rfl dX9_count_79 ?_
    refine gf_X9_182 hE hP (38) (gC_38 E a I tr) (v := .int (nI (I (44) (0)))) rfl dX9_count_82 ?_
    exact ret_i hE (r := nI (I (44) (0))) (by rw [r_count, if_neg (show ¬ nI 3 = nI 0 by decide), if_neg (show ¬ nI 3 = nI 1 by decide), if_neg (show ¬ nI 3 = nI 2 by decide), if_pos rfl]; rfl) hP hD hS dX9_count_85
  by_cases w1_4 : zp0 = nI 4
  · subst w1_4
    refine lv_tableIn (off := 85) (tgt := 86) hx hb dX9_count_1 (by decide) (by decide) (by decide) (by decide) ?_
    refine lv_aload_n hx hb dX9_count_86 rfl (lv_at hl 0 rfl) ?_
    refine gf_X9_51 hE hP (0) (gC_0 E a I tr) (v := .ref (a 6)) rfl dX9_count_87 ?_
    refine gf_X9_212 hE hP (43) (gC_43 E a I tr) (v := .int (nI (I (47) (0)))) rfl dX9_count_90 ?_
    exact ret_i hE (r := nI (I (47) (0))) (by rw [r_count, if_neg (show ¬ nI 4 = nI 0 by decide), if_neg (show ¬ nI 4 = nI 1 by decide), if_neg (show ¬ nI 4 = nI 2 by decide), if_neg (show ¬ nI 4 = nI 3 by decide), if_pos rfl]; rfl) hP hD hS dX9_count_93
  by_cases w1_5 : zp0 = nI 5
  · subst w1_5
    refine lv_tableIn (off := 93) (tgt := 94) hx hb dX9_count_1 (by decide) (by decide) (by decide) (by decide) ?_
    refine lv_aload_n hx hb dX9_count_94 rfl (lv_at hl 0 rfl) ?_
    refine gf_X9_58 hE hP (0) (gC_0 E a I tr) (v := .ref (a 7)) rfl dX9_count_95 ?_
    refine gf_X9_230 hE hP (46) (gC_46 E a I tr) (v := .int (nI (I (55) (0)))) rfl dX9_count_98 ?_
    exact ret_i hE (r := nI (I (55) (0))) (by rw [r_count, if_neg (show ¬ nI 5 = nI 0 by decide), if_neg (show ¬ nI 5 = nI 1 by decide), if_neg (show ¬ nI 5 = nI 2 by decide), if_neg (show ¬ nI 5 = nI 3 by decide), if_neg (show ¬ nI 5 = nI 4 by decide), if_pos rfl]; rfl) hP hD hS dX9_count_101
  by_cases w1_6 : zp0 = nI 6
  · subst w1_6
    refine lv_tableIn (off := 101) (tgt := 102) hx hb dX9_count_1 (by decide) (by decide) (by decide) (by decide) ?_
    refine lv_aload_n hx hb dX9_count_102 rfl (lv_at hl 0 rfl) ?_
    refine gf_X9_36 hE hP (0) (gC_0 E a I tr) (v := .ref (a 4)) rfl dX9_count_103 ?_
    refine gf_X9_176 hE hP (5) (gC_5 E a I tr) (v := .int (nI (I (10) (0)))) rfl dX9_count_106 ?_
    exact ret_i hE (r := nI (I (10) (0))) (by rw [r_count, if_neg (show ¬ nI 6 = nI 0 by decide), if_neg (show ¬ nI 6 = nI 1 by decide), if_neg (show ¬ nI 6 = nI 2 by decide), if_neg (show ¬ nI 6 = nI 3 by decide), if_neg (show ¬ nI 6 = nI 4 by decide), if_neg (show ¬ nI 6 = nI 5 by decide), if_pos rfl]; rfl) hP hD hS dX9_count_109
  by_cases w1_7 : zp0 = nI 7
  · subst w1_7
    refine lv_tableIn (off := 109) (tgt := 110) hx hb dX9_count_1 (by decide) (by decide) (by decide) (by decide) ?_
    refine lv_aload_n hx hb dX9_count_110 rfl (lv_at hl 0 rfl) ?_
    refine gf_X9_10 hE hP (0) (gC_0 E a I tr) (v := .ref (a 1)) rfl dX9_count_111 ?_
    refine gf_X9_77 hE hP (1) (gC_1 E a I tr) (v := .int (nI (I (1) (0)))) rfl dX9_count_114 ?_
    exact ret_i hE (r := nI (I (1) (0))) (by rw [r_count, if_neg (show ¬ nI 7 = nI 0 by decide), if_neg (show ¬ nI 7 = nI 1 by decide), if_neg (show ¬ nI 7 = nI 2 by decide), if_neg (show ¬ nI 7 = nI 3 by decide), if_neg (show ¬ nI 7 = nI 4 by decide), if_neg (show ¬ nI 7 = nI 5 by decide), if_neg (show ¬ nI 7 = nI 6 by decide), if_pos rfl]; rfl) hP hD hS dX9_count_117
  have wout : ∀ j, j ≤ 7 → ¬ zp0 = nI j := fun j hj => by rcases (show j = 0 ∨ j = 1 ∨ j = 2 ∨ j = 3 ∨ j = 4 ∨ j = 5 ∨ j = 6 ∨ j = 7 by omega) with rfl | rfl | rfl | rfl | rfl | rfl | rfl | rfl <;> assumption
  refine lv_tableOut (tgt := 118) hx hb dX9_count_1 (sw_out 7 (by decide) wout) (by decide) ?_
  refine lv_iconst (v := (-1)) hx hb dX9_count_118 (by decide) ?_
  exact ret_i hE (r := (-1)) (by rw [r_count, if_neg w1_0, if_neg w1_1, if_neg w1_2, if_neg w1_3, if_neg w1_4, if_neg w1_5, if_neg w1_6, if_neg w1_7]) hP hD hS dX9_count_119

set_option maxHeartbeats 4000000 in
set_option maxRecDepth 100000 in
theorem ct_X9_trace (l : Launch) (E : cE) (a : Nat → Nat) (I : Nat → Nat → Nat) (tr : Int64)  : Ct l E 0 yX9_trace cX9_trace 1 (some .long) [.ref (a 0)] (WC E a I tr) (some (.long tr)) (WC E a I tr) := by
  refine Ct_of (plainFor_of_name (by decide)) (Nat.le_of_ble_eq_true rfl) ?_
  intro p e s m args below meth c A ls hE hP hD hS hl
  have hE : cEnv p s m args meth c E RX9 cX9_trace 1 (some .long) A := hE
  have hx := hE.1
  have hb := hE.2.1
  have hl : lv_has ls 1 [(0, .ref (a 0))] := hl
  have hP : va_P E.1 vwCl (WC E a I tr) s.heap := hP
  generalize hH : s.heap = H at hP hS ⊢
  have hS : va_S A s.heap H [] := by rw [hH]; exact hS
  clear hH
  refine lv_aload_n hx hb dX9_trace_0 rfl (lv_at hl 0 rfl) ?_
  refine gf_X9_268 hE hP (0) (gC_0 E a I tr) (v := .long (tr)) rfl dX9_trace_1 ?_
  exact ret_l hE (r := tr) (rfl) hP hD hS dX9_trace_4
