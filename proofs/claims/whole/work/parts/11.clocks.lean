set_option maxHeartbeats 4000000 in
set_option maxRecDepth 100000 in
theorem ct_X9_isWithin (l : Launch) (E : cE) (ws : va_W) (zp0 zp1 zp2 : Int32) : Ct l E 0 yX9_isWithin cX9_isWithin 3 (some .boolean) [.int (zp0), .int (zp1), .int (zp2)] ws (some (.int (bB (wi zp0 zp1 zp2)))) ws := by
  refine Ct_of (plainFor_of_name (by decide)) (Nat.le_of_ble_eq_true rfl) ?_
  intro p e s m args below meth c A ls hE hP hD hS hl
  have hE : cEnv p s m args meth c E RX9 cX9_isWithin 3 (some .boolean) A := hE
  have hx := hE.1
  have hb := hE.2.1
  have hl : lv_has ls 3 [(0, .int (zp0)), (1, .int (zp1)), (2, .int (zp2))] := hl
  generalize hH : s.heap = H at hP hS ⊢
  have hS : va_S A s.heap H [] := by rw [hH]; exact hS
  clear hH
  refine lv_iload_n hx hb dX9_isWithin_0 rfl (lv_at hl 0 rfl) ?_
  refine lv_iload_n hx hb dX9_isWithin_1 rfl (lv_at hl 1 rfl) ?_
  refine lv_icmp_lt (tgt := 14) hx hb dX9_isWithin_2 (by decide) (fun c2 => ?_) (fun c2 => ?_)
  · refine lv_iconst (v := nI (0)) hx hb dX9_isWithin_14 (by decide) ?_
    exact ret_z hE (r := nI (0)) (by decide) (by first | (rw [wi_f1 c2]; rfl) | (rw [wi_f2 c7]; rfl)) hP hD hS dX9_isWithin_15
  · refine lv_iload_n hx hb dX9_isWithin_5 rfl (lv_at hl 0 rfl) ?_
    refine lv_iload_n hx hb dX9_isWithin_6 rfl (lv_at hl 2 rfl) ?_
    refine lv_icmp_gt (tgt := 14) hx hb dX9_isWithin_7 (by decide) (fun c7 => ?_) (fun c7 => ?_)
    · refine lv_iconst (v := nI (0)) hx hb dX9_isWithin_14 (by decide) ?_
      exact ret_z hE (r := nI (0)) (by decide) (by first | (rw [wi_f1 c2]; rfl) | (rw [wi_f2 c7]; rfl)) hP hD hS dX9_isWithin_15
    · refine lv_iconst (v := nI (1)) hx hb dX9_isWithin_10 (by decide) ?_
      refine lv_goto (tgt := 15) hx hb dX9_isWithin_11 (by decide) ?_
      exact ret_z hE (r := nI (1)) (by decide) (by rw [wi_t c2 c7]; rfl) hP hD hS dX9_isWithin_15

set_option maxHeartbeats 4000000 in
set_option maxRecDepth 100000 in
theorem ct_X9_isQuarter (l : Launch) (E : cE) (ws : va_W) (zp0 : Int32) : Ct l E 1 yX9_isQuarter cX9_isQuarter 1 (some .boolean) [.int (zp0)] ws (some (.int (bB (inB zp0 96)))) ws := by
  refine Ct_of (plainFor_of_name (by decide)) (Nat.le_of_ble_eq_true rfl) ?_
  intro p e s m args below meth c A ls hE hP hD hS hl
  have hE : cEnv p s m args meth c E RX9 cX9_isQuarter 1 (some .boolean) A := hE
  have hx := hE.1
  have hb := hE.2.1
  have hl : lv_has ls 1 [(0, .int (zp0))] := hl
  generalize hH : s.heap = H at hP hS ⊢
  have hS : va_S A s.heap H [] := by rw [hH]; exact hS
  clear hH
  refine lv_iload_n hx hb dX9_isQuarter_0 rfl (lv_at hl 0 rfl) ?_
  refine lv_iconst (v := nI (0)) hx hb dX9_isQuarter_1 (by decide) ?_
  refine lv_bipush (v := nI (95)) hx hb dX9_isQuarter_2 (by decide) ?_
  refine call_S (As := [.int (zp0), .int (nI (0)), .int (nI (95))]) (rest := []) hE (ct_X9_isWithin l E ws ((zp0)) (nI (0)) (nI (95))) cm_X9_isWithin (uw mt_L_X9_73 rfl) hP hD hS hl.1 rfl rfl (Nat.le_of_ble_eq_true rfl) ⟨by decide, by decide⟩ dX9_isQuarter_4 (fun H locs hP hD hS => ?_)
  refine W.eq (g2 := F0 m 7 ls [.int (bB (wi ((zp0)) (nI (0)) (nI (95))))]) rfl ?_
  exact ret_z hE (r := bB (wi ((zp0)) (nI (0)) (nI (95)))) (bB_nar _) (by rw [wi_in zp0 (by decide)]) hP hD hS dX9_isQuarter_7

set_option maxHeartbeats 4000000 in
set_option maxRecDepth 100000 in
theorem ct_X9_isNumber (l : Launch) (E : cE) (ws : va_W) (zp0 : Int32) : Ct l E 1 yX9_isNumber cX9_isNumber 1 (some .boolean) [.int (zp0)] ws (some (.int (bB (inB zp0 48)))) ws := by
  refine Ct_of (plainFor_of_name (by decide)) (Nat.le_of_ble_eq_true rfl) ?_
  intro p e s m args below meth c A ls hE hP hD hS hl
  have hE : cEnv p s m args meth c E RX9 cX9_isNumber 1 (some .boolean) A := hE
  have hx := hE.1
  have hb := hE.2.1
  have hl : lv_has ls 1 [(0, .int (zp0))] := hl
  generalize hH : s.heap = H at hP hS ⊢
  have hS : va_S A s.heap H [] := by rw [hH]; exact hS
  clear hH
  refine lv_iload_n hx hb dX9_isNumber_0 rfl (lv_at hl 0 rfl) ?_
  refine lv_iconst (v := nI (0)) hx hb dX9_isNumber_1 (by decide) ?_
  refine lv_bipush (v := nI (47)) hx hb dX9_isNumber_2 (by decide) ?_
  refine call_S (As := [.int (zp0), .int (nI (0)), .int (nI (47))]) (rest := []) hE (ct_X9_isWithin l E ws ((zp0)) (nI (0)) (nI (47))) cm_X9_isWithin (uw mt_L_X9_73 rfl) hP hD hS hl.1 rfl rfl (Nat.le_of_ble_eq_true rfl) ⟨by decide, by decide⟩ dX9_isNumber_4 (fun H locs hP hD hS => ?_)
  refine W.eq (g2 := F0 m 7 ls [.int (bB (wi ((zp0)) (nI (0)) (nI (47))))]) rfl ?_
  exact ret_z hE (r := bB (wi ((zp0)) (nI (0)) (nI (47)))) (bB_nar _) (by rw [wi_in zp0 (by decide)]) hP hD hS dX9_isNumber_7

set_option maxHeartbeats 4000000 in
set_option maxRecDepth 100000 in
theorem ct_X0_has (l : Launch) (E : cE) (a : Nat → Nat) (I : Nat → Nat → Nat) (tr : Int64) (zp0 : Int32) (hc : I 13 0 ≤ 6) : Ct l E 1 yX0_has cX0_has 2 (some .boolean) [.ref (a 3), .int (zp0)] (WC E a I tr) (some (.int (bB (inB zp0 (I 13 0))))) (WC E a I tr) := by
  refine Ct_of (plainFor_of_name (by decide)) (Nat.le_of_ble_eq_true rfl) ?_
  intro p e s m args below meth c A ls hE hP hD hS hl
  have hE : cEnv p s m args meth c E RX0 cX0_has 2 (some .boolean) A := hE
  have hx := hE.1
  have hb := hE.2.1
  have hl : lv_has ls 2 [(0, .ref (a 3)), (1, .int (zp0))] := hl
  have hP : va_P E.1 vwCl (WC E a I tr) s.heap := hP
  generalize hH : s.heap = H at hP hS ⊢
  have hS : va_S A s.heap H [] := by rw [hH]; exact hS
  clear hH
  refine lv_iload_n hx hb dX0_has_0 rfl (lv_at hl 1 rfl) ?_
  refine lv_iconst (v := nI (0)) hx hb dX0_has_1 (by decide) ?_
  refine lv_aload_n hx hb dX0_has_2 rfl (lv_at hl 0 rfl) ?_
  refine gf_X0_25 hE hP (4) (gC_4 E a I tr) (v := .ref (a 11)) rfl dX0_has_3 ?_
  refine gf_X0_29 hE hP (10) (gC_10 E a I tr) (v := .int (nI (I (13) (0)))) rfl dX0_has_6 ?_
  refine lv_iconst (v := nI (1)) hx hb dX0_has_9 (by decide) ?_
  refine lv_isub hx hb dX0_has_10 ?_
  refine call_SN (As := [.int (zp0), .int (nI (0)), .int (nI (I (13) (0)) - nI (1))]) (rest := []) hE (ct_X9_isWithin l E (WC E a I tr) ((zp0)) (nI (0)) ((nI (I (13) (0)) - nI (1)))) cm_X9_isWithin (hE.2.2.2.2.2.2.2.2.2.1.1) hP hD hS hl.1 rfl rfl (Nat.le_of_ble_eq_true rfl) ⟨by decide, by decide⟩ dX0_has_11 (fun H locs hP hD hS => ?_)
  refine W.eq (g2 := F0 m 14 ls [.int (bB (wi ((zp0)) (nI (0)) ((nI (I (13) (0)) - nI (1)))))]) rfl ?_
  exact ret_z hE (r := bB (wi ((zp0)) (nI (0)) ((nI (I (13) (0)) - nI (1))))) (bB_nar _) (by rw [wi_in1 zp0 (by omega)]) hP hD hS dX0_has_14

set_option maxHeartbeats 4000000 in
set_option maxRecDepth 100000 in
theorem ct_X0_hasBoth (l : Launch) (E : cE) (a : Nat → Nat) (I : Nat → Nat → Nat) (tr : Int64) (zp0 zp1 : Int32) (hI : CK I) : Ct l E 2 yX0_hasBoth cX0_hasBoth 3 (some .boolean) [.ref (a 3), .int (zp0), .int (zp1)] (WC E a I tr) (some (.int (bB (inB zp0 (I 13 0) && (inB zp1 (I 13 0) && !(decide (zp0 = zp1))))))) (WC E a I tr) := by
  refine Ct_of (plainFor_of_name (by decide)) (Nat.le_of_ble_eq_true rfl) ?_
  intro p e s m args below meth c A ls hE hP hD hS hl
  have hE : cEnv p s m args meth c E RX0 cX0_hasBoth 3 (some .boolean) A := hE
  have hx := hE.1
  have hb := hE.2.1
  have hl : lv_has ls 3 [(0, .ref (a 3)), (1, .int (zp0)), (2, .int (zp1))] := hl
  have hP : va_P E.1 vwCl (WC E a I tr) s.heap := hP
  generalize hH : s.heap = H at hP hS ⊢
  have hS : va_S A s.heap H [] := by rw [hH]; exact hS
  clear hH
  refine lv_aload_n hx hb dX0_hasBoth_0 rfl (lv_at hl 0 rfl) ?_
  refine lv_iload_n hx hb dX0_hasBoth_1 rfl (lv_at hl 1 rfl) ?_
  refine call_V (As := [.int (zp0)]) (rest := []) hE (ct_X0_has l E a I tr ((zp0)) (hI).1) cm_X0_has (uw mt_L_X0_37 rfl) (gC_4 E a I tr) rfl rfl hP hD hS hl.1 rfl rfl (Nat.le_of_ble_eq_true rfl) ⟨by decide, by decide⟩ dX0_hasBoth_2 (fun H locs hP hD hS => ?_)
  refine W.eq (g2 := F0 m 5 ls [.int (bB (inB ((zp0)) (I (13) (0))))]) rfl ?_
  refine bB_eq (tgt := 25) hx hb dX0_hasBoth_5 (by decide) (fun c5 => ?_) (fun c5 => ?_)
  · refine lv_iconst (v := nI (0)) hx hb dX0_hasBoth_25 (by decide) ?_
    exact ret_z hE (r := nI (0)) (by decide) (by first | (rw [c5]; rfl) | (rw [c5, c13]; rfl) | (rw [c5, c13, dt c18]; rfl)) hP hD hS dX0_hasBoth_26
  · refine lv_aload_n hx hb dX0_hasBoth_8 rfl (lv_at hl 0 rfl) ?_
    refine lv_iload_n hx hb dX0_hasBoth_9 rfl (lv_at hl 2 rfl) ?_
    refine call_V (As := [.int (zp1)]) (rest := []) hE (ct_X0_has l E a I tr ((zp1)) (hI).1) cm_X0_has (uw mt_L_X0_37 rfl) (gC_4 E a I tr) rfl rfl hP hD hS hl.1 rfl rfl (Nat.le_of_ble_eq_true rfl) ⟨by decide, by decide⟩ dX0_hasBoth_10 (fun H locs hP hD hS => ?_)
    refine W.eq (g2 := F0 m 13 ls [.int (bB (inB ((zp1)) (I (13) (0))))]) rfl ?_
    refine bB_eq (tgt := 25) hx hb dX0_hasBoth_13 (by decide) (fun c13 => ?_) (fun c13 => ?_)
    · refine lv_iconst (v := nI (0)) hx hb dX0_hasBoth_25 (by decide) ?_
      exact ret_z hE (r := nI (0)) (by decide) (by first | (rw [c5]; rfl) | (rw [c5, c13]; rfl) | (rw [c5, c13, dt c18]; rfl)) hP hD hS dX0_hasBoth_26
    · refine lv_iload_n hx hb dX0_hasBoth_16 rfl (lv_at hl 1 rfl) ?_
      refine lv_iload_n hx hb dX0_hasBoth_17 rfl (lv_at hl 2 rfl) ?_
      refine lv_icmp_eq (tgt := 25) hx hb dX0_hasBoth_18 (by decide) (fun c18 => ?_) (fun c18 => ?_)
      · refine lv_iconst (v := nI (0)) hx hb dX0_hasBoth_25 (by decide) ?_
        exact ret_z hE (r := nI (0)) (by decide) (by first | (rw [c5]; rfl) | (rw [c5, c13]; rfl) | (rw [c5, c13, dt c18]; rfl)) hP hD hS dX0_hasBoth_26
      · refine lv_iconst (v := nI (1)) hx hb dX0_hasBoth_21 (by decide) ?_
        refine lv_goto (tgt := 26) hx hb dX0_hasBoth_22 (by decide) ?_
        exact ret_z hE (r := nI (1)) (by decide) (by rw [c5, c13, df c18]; rfl) hP hD hS dX0_hasBoth_26

set_option maxHeartbeats 4000000 in
set_option maxRecDepth 100000 in
theorem ct_X0_showsAt (l : Launch) (E : cE) (a : Nat → Nat) (I : Nat → Nat → Nat) (tr : Int64) (h t : Nat) (hI : CK I) (hh : h < 6) (ht : t < 96) : Ct l E 0 yX0_showsAt cX0_showsAt 3 (some .int) [.ref (a 3), .int (nI (h)), .int (nI (t))] (WC E a I tr) (some (.int (nI (shC I h t)))) (WC E a I tr) := by
  refine Ct_of (plainFor_of_name (by decide)) (Nat.le_of_ble_eq_true rfl) ?_
  intro p e s m args below meth c A ls hE hP hD hS hl
  have hE : cEnv p s m args meth c E RX0 cX0_showsAt 3 (some .int) A := hE
  have hx := hE.1
  have hb := hE.2.1
  have hl : lv_has ls 3 [(0, .ref (a 3)), (1, .int (nI (h))), (2, .int (nI (t)))] := hl
  have hP : va_P E.1 vwCl (WC E a I tr) s.heap := hP
  generalize hH : s.heap = H at hP hS ⊢
  have hS : va_S A s.heap H [] := by rw [hH]; exact hS
  clear hH
  have h1 := hI.2.2.2.1 h hh t ht
  have h2 := hI.2.2.2.2 h hh
  refine lv_aload_n hx hb dX0_showsAt_0 rfl (lv_at hl 0 rfl) ?_
  refine gf_X0_25 hE hP (4) (gC_4 E a I tr) (v := .ref (a 11)) rfl dX0_showsAt_1 ?_
  refine gf_X0_41 hE hP (10) (gC_10 E a I tr) (v := .ref (a 17)) rfl dX0_showsAt_4 ?_
  refine lv_iload_n hx hb dX0_showsAt_7 rfl (lv_at hl 1 rfl) ?_
  refine ald_q 3 hE hP 11 (gC_11 E a I tr) rfl (by omega) (by decide) (r := a (40 + h)) rfl dX0_showsAt_8 ?_
  refine gf_X0_45 hE hP (12 + h) (gC_hc E a I tr (h) (by omega)) (v := .ref (a (50 + h))) rfl dX0_showsAt_9 ?_
  refine lv_iload_n hx hb dX0_showsAt_12 rfl (lv_at hl 2 rfl) ?_
  refine ald_i hE hP (18 + h) (gC_dc E a I tr (h) (by omega)) (by omega) (by decide) (r := nI (I (20 + h) (t))) rfl dX0_showsAt_13 ?_
  refine lv_aload_n hx hb dX0_showsAt_14 rfl (lv_at hl 0 rfl) ?_
  refine gf_X0_12 hE hP (4) (gC_4 E a I tr) (v := .ref (a 4)) rfl dX0_showsAt_15 ?_
  refine gf_X0_50 hE hP (5) (gC_5 E a I tr) (v := .ref (a 14)) rfl dX0_showsAt_18 ?_
  refine lv_iload_n hx hb dX0_showsAt_21 rfl (lv_at hl 1 rfl) ?_
  refine ald_i hE hP (6) (gC_6 E a I tr) (by omega) (by decide) (r := nI (I (7) (h))) rfl dX0_showsAt_22 ?_
  refine lv_iadd hx hb dX0_showsAt_23 ?_
  refine tp (nI_add _ _) ?_
  refine lv_bipush (v := nI (48)) hx hb dX0_showsAt_24 (by decide) ?_
  refine lv_irem hx hb dX0_showsAt_26 (nI_ne0 (by omega) (by omega)) ?_
  refine tp (pk_rem (by omega) (by omega) (by omega)) ?_
  exact ret_i hE (r := nI ((I (20 + h) (t) + (I (7) (h))) % (48))) (rfl) hP hD hS dX0_showsAt_27

set_option maxHeartbeats 4000000 in
set_option maxRecDepth 100000 in
theorem ct_X0_showsNow (l : Launch) (E : cE) (a : Nat → Nat) (I : Nat → Nat → Nat) (tr : Int64) (h : Nat) (hI : CK I) (hh : h < 6) : Ct l E 1 yX0_showsNow cX0_showsNow 2 (some .int) [.ref (a 3), .int (nI (h))] (WC E a I tr) (some (.int (nI (shC I h (I 11 0))))) (WC E a I tr) := by
  refine Ct_of (plainFor_of_name (by decide)) (Nat.le_of_ble_eq_true rfl) ?_
  intro p e s m args below meth c A ls hE hP hD hS hl
  have hE : cEnv p s m args meth c E RX0 cX0_showsNow 2 (some .int) A := hE
  have hx := hE.1
  have hb := hE.2.1
  have hl : lv_has ls 2 [(0, .ref (a 3)), (1, .int (nI (h)))] := hl
  have hP : va_P E.1 vwCl (WC E a I tr) s.heap := hP
  generalize hH : s.heap = H at hP hS ⊢
  have hS : va_S A s.heap H [] := by rw [hH]; exact hS
  clear hH
  have h1 := hI.2.2.1
  refine lv_aload_n hx hb dX0_showsNow_0 rfl (lv_at hl 0 rfl) ?_
  refine lv_iload_n hx hb dX0_showsNow_1 rfl (lv_at hl 1 rfl) ?_
  refine lv_aload_n hx hb dX0_showsNow_2 rfl (lv_at hl 0 rfl) ?_
  refine gf_X0_12 hE hP (4) (gC_4 E a I tr) (v := .ref (a 4)) rfl dX0_showsNow_3 ?_
  refine gf_X0_53 hE hP (5) (gC_5 E a I tr) (v := .int (nI (I (11) (0)))) rfl dX0_showsNow_6 ?_
  refine call_V (As := [.int (nI (h)), .int (nI (I (11) (0)))]) (rest := []) hE (ct_X0_showsAt l E a I tr (h) (I (11) (0)) (hI) (by omega) (by omega)) cm_X0_showsAt (uw mt_L_X0_56 rfl) (gC_4 E a I tr) rfl rfl hP hD hS hl.1 rfl rfl (Nat.le_of_ble_eq_true rfl) ⟨by decide, by decide⟩ dX0_showsNow_9 (fun H locs hP hD hS => ?_)
  refine W.eq (g2 := F0 m 12 ls [.int (nI (shC I (h) (I (11) (0))))]) rfl ?_
  have hs1 := shC_lt I (h) (I (11) (0))
  exact ret_i hE (r := nI (shC I (h) (I (11) (0)))) (rfl) hP hD hS dX0_showsNow_12

set_option maxHeartbeats 4000000 in
set_option maxRecDepth 100000 in
theorem ct_X0_firstFrom (l : Launch) (E : cE) (a : Nat → Nat) (I : Nat → Nat → Nat) (tr : Int64) (h n f0 : Nat) (hI : CK I) (hh : h < 6) (hn : n < 48) (hf : f0 ≤ 96) : Ct l E 1 yX0_firstFrom cX0_firstFrom 5 (some .int) [.ref (a 3), .int (nI (h)), .int (nI (n)), .int (nI (f0))] (WC E a I tr) (some (.int (rN (fst (shC I h) n f0)))) (WC E a I tr) := by
  refine Ct_of (plainFor_of_name (by decide)) (Nat.le_of_ble_eq_true rfl) ?_
  intro p e s m args below meth c A ls hE hP hD hS hl
  have hE : cEnv p s m args meth c E RX0 cX0_firstFrom 5 (some .int) A := hE
  have hx := hE.1
  have hb := hE.2.1
  have hl : lv_has ls 5 [(0, .ref (a 3)), (1, .int (nI (h))), (2, .int (nI (n))), (3, .int (nI (f0)))] := hl
  have hP : va_P E.1 vwCl (WC E a I tr) s.heap := hP
  generalize hH : s.heap = H at hP hS ⊢
  have hS : va_S A s.heap H [] := by rw [hH]; exact hS
  clear hH
  refine lv_iload_n hx hb dX0_firstFrom_0 rfl (lv_at hl 3 rfl) ?_
  refine lv_istore (lv' := [(4, .int (nI (f0))), (0, .ref (a 3)), (1, .int (nI (h))), (2, .int (nI (n))), (3, .int (nI (f0)))]) hx hb dX0_firstFrom_1 hl (by decide) rfl (fun ls hl => ?_)
  have loop3 : ∀ (fu3 : Nat) (t : Nat), 96 - t < fu3 → (t ≤ 96) → (fst (shC I h) n f0 = fst (shC I h) n t) → ∀ (ls : Array Slot) (H : Heap) (locs : List Loc), lv_has ls 5 [(0, .ref (a 3)), (1, .int (nI (h))), (2, .int (nI (n))), (4, .int (nI (t)))] → va_P E.1 vwCl (WC E a I tr) H → va_D A (WC E a I tr) → va_S A s.heap H locs → W p l e (rmL 1) s m args below meth c H locs 0 0 (RQ E below args s A (some (.int (rN (fst (shC I h) n f0)))) (WC E a I tr)) (F0 m 3 ls []) := by
    intro fu3
    induction fu3 with
    | zero => intro t h; exact absurd h (Nat.not_lt_zero _)
    | succ fu3 ih3 =>
      intro t hfu3 ht hq ls H locs hl hP hD hS
      refine lv_iload hx hb dX0_firstFrom_3 (lv_at hl 3 rfl) ?_
      refine lv_bipush (v := nI (96)) hx hb dX0_firstFrom_5 (by decide) ?_
      refine bN_ge (tgt := 30) hx hb (by omega) (by omega) dX0_firstFrom_7 (by decide) (fun c7 => ?_) (fun c7 => ?_)
      · refine lv_bipush (v := (-9)) hx hb dX0_firstFrom_30 (by decide) ?_
        exact ret_i hE (r := (-9)) (by rw [hq, show fst (shC I h) n t = 0 from sr_end c7, rN_0]) hP hD hS dX0_firstFrom_32
      · refine lv_aload_n hx hb dX0_firstFrom_10 rfl (lv_at hl 0 rfl) ?_
        refine lv_iload_n hx hb dX0_firstFrom_11 rfl (lv_at hl 1 rfl) ?_
        refine lv_iload hx hb dX0_firstFrom_12 (lv_at hl 3 rfl) ?_
        refine call_V (As := [.int (nI (h)), .int (nI (t))]) (rest := []) hE (ct_X0_showsAt l E a I tr (h) (t) (hI) (by omega) (by omega)) cm_X0_showsAt (uw mt_L_X0_56 rfl) (gC_4 E a I tr) rfl rfl hP hD hS hl.1 rfl rfl (Nat.le_of_ble_eq_true rfl) ⟨by decide, by decide⟩ dX0_firstFrom_14 (fun H locs hP hD hS => ?_)
        refine W.eq (g2 := F0 m 17 ls [.int (nI (shC I (h) (t)))]) rfl ?_
        have hs1 := shC_lt I (h) (t)
        refine lv_iload_n hx hb dX0_firstFrom_17 rfl (lv_at hl 2 rfl) ?_
        refine bN_ne (tgt := 24) hx hb (by omega) (by omega) dX0_firstFrom_18 (by decide) (fun c18 => ?_) (fun c18 => ?_)
        · refine lv_iinc (v := nI (t + 1)) (lv' := [(4, .int (nI (t + 1))), (0, .ref (a 3)), (1, .int (nI (h))), (2, .int (nI (n)))]) hx hb dX0_firstFrom_24 hl (k := 3) rfl (ii1_N _) (by decide) rfl (fun ls hl => ?_)
          refine lv_goto (tgt := 3) hx hb dX0_firstFrom_27 (by decide) ?_
          exact ih3 (t + 1) (by omega) (by omega) (hq.trans (sr_miss c7 (df c18))) ls _ _ (lv_sub hl [1, 2, 3, 0] rfl) hP hD hS
        · refine lv_iload hx hb dX0_firstFrom_21 (lv_at hl 3 rfl) ?_
          exact ret_i hE (r := nI (t)) (by rw [hq, show fst (shC I h) n t = t + 9 from sr_hit c7 (dt c18), rN_9]) hP hD hS dX0_firstFrom_23
  exact loop3 (_ + 1) (f0) (Nat.lt_succ_self _) (by omega) rfl ls _ _ (lv_sub hl [1, 2, 3, 0] rfl) hP hD hS

set_option maxHeartbeats 4000000 in
set_option maxRecDepth 100000 in
theorem ct_X0_timesOfDay (l : Launch) (E : cE) (a : Nat → Nat) (I : Nat → Nat → Nat) (tr : Int64) (h n : Nat) (hI : CK I) (hh : h < 6) (hn : n < 48) : Ct l E 1 yX0_timesOfDay cX0_timesOfDay 5 (some .int) [.ref (a 3), .int (nI (h)), .int (nI (n))] (WC E a I tr) (some (.int (nI (cnt (fun u => decide (shC I h u = n)) 96)))) (WC E a I tr) := by
  refine Ct_of (plainFor_of_name (by decide)) (Nat.le_of_ble_eq_true rfl) ?_
  intro p e s m args below meth c A ls hE hP hD hS hl
  have hE : cEnv p s m args meth c E RX0 cX0_timesOfDay 5 (some .int) A := hE
  have hx := hE.1
  have hb := hE.2.1
  have hl : lv_has ls 5 [(0, .ref (a 3)), (1, .int (nI (h))), (2, .int (nI (n)))] := hl
  have hP : va_P E.1 vwCl (WC E a I tr) s.heap := hP
  generalize hH : s.heap = H at hP hS ⊢
  have hS : va_S A s.heap H [] := by rw [hH]; exact hS
  clear hH
  refine lv_iconst (v := nI (0)) hx hb dX0_timesOfDay_0 (by decide) ?_
  refine lv_istore_n (lv' := [(3, .int (nI (0))), (0, .ref (a 3)), (1, .int (nI (h))), (2, .int (nI (n)))]) hx hb dX0_timesOfDay_1 rfl hl (by decide) rfl (fun ls hl => ?_)
  refine lv_iconst (v := nI (0)) hx hb dX0_timesOfDay_2 (by decide) ?_
  refine lv_istore (lv' := [(4, .int (nI (0))), (3, .int (nI (0))), (0, .ref (a 3)), (1, .int (nI (h))), (2, .int (nI (n)))]) hx hb dX0_timesOfDay_3 hl (by decide) rfl (fun ls hl => ?_)
  have loop5 : ∀ (fu5 : Nat) (k : Nat) (t : Nat), 96 - t < fu5 → (t ≤ 96) → (k = cnt (fun u => decide (shC I h u = n)) t) → ∀ (ls : Array Slot) (H : Heap) (locs : List Loc), lv_has ls 5 [(0, .ref (a 3)), (1, .int (nI (h))), (2, .int (nI (n))), (3, .int (nI (k))), (4, .int (nI (t)))] → va_P E.1 vwCl (WC E a I tr) H → va_D A (WC E a I tr) → va_S A s.heap H locs → W p l e (rmL 1) s m args below meth c H locs 0 0 (RQ E below args s A (some (.int (nI (cnt (fun u => decide (shC I h u = n)) 96)))) (WC E a I tr)) (F0 m 5 ls []) := by
    intro fu5
    induction fu5 with
    | zero => intro k t h; exact absurd h (Nat.not_lt_zero _)
    | succ fu5 ih5 =>
      intro k t hfu5 ht hk ls H locs hl hP hD hS
      have hm := cnt_le (fun u => decide (shC I h u = n)) t
      refine lv_iload hx hb dX0_timesOfDay_5 (lv_at hl 4 rfl) ?_
      refine lv_bipush (v := nI (96)) hx hb dX0_timesOfDay_7 (by decide) ?_
      refine bN_ge (tgt := 32) hx hb (by omega) (by omega) dX0_timesOfDay_9 (by decide) (fun c9 => ?_) (fun c9 => ?_)
      · refine lv_iload_n hx hb dX0_timesOfDay_32 rfl (lv_at hl 3 rfl) ?_
        exact ret_i hE (r := nI (k)) (by rw [hk, show (96 : Nat) = t by omega]) hP hD hS dX0_timesOfDay_33
      · refine lv_aload_n hx hb dX0_timesOfDay_12 rfl (lv_at hl 0 rfl) ?_
        refine lv_iload_n hx hb dX0_timesOfDay_13 rfl (lv_at hl 1 rfl) ?_
        refine lv_iload hx hb dX0_timesOfDay_14 (lv_at hl 4 rfl) ?_
        refine call_V (As := [.int (nI (h)), .int (nI (t))]) (rest := []) hE (ct_X0_showsAt l E a I tr (h) (t) (hI) (by omega) (by omega)) cm_X0_showsAt (uw mt_L_X0_56 rfl) (gC_4 E a I tr) rfl rfl hP hD hS hl.1 rfl rfl (Nat.le_of_ble_eq_true rfl) ⟨by decide, by decide⟩ dX0_timesOfDay_16 (fun H locs hP hD hS => ?_)
        refine W.eq (g2 := F0 m 19 ls [.int (nI (shC I (h) (t)))]) rfl ?_
        have hs1 := shC_lt I (h) (t)
        refine lv_iload_n hx hb dX0_timesOfDay_19 rfl (lv_at hl 2 rfl) ?_
        refine bN_ne (tgt := 26) hx hb (by omega) (by omega) dX0_timesOfDay_20 (by decide) (fun c20 => ?_) (fun c20 => ?_)
        · refine lv_iinc (v := nI (t + 1)) (lv' := [(4, .int (nI (t + 1))), (0, .ref (a 3)), (1, .int (nI (h))), (2, .int (nI (n))), (3, .int (nI (k)))]) hx hb dX0_timesOfDay_26 hl (k := 4) rfl (ii1_N _) (by decide) rfl (fun ls hl => ?_)
          refine lv_goto (tgt := 5) hx hb dX0_timesOfDay_29 (by decide) ?_
          exact ih5 (k) (t + 1) (by omega) (by omega) (by first | rw [cnt_f (df c20), hk] | rw [cnt_t (dt c20), hk]) ls _ _ (lv_sub hl [1, 2, 3, 4, 0] rfl) hP hD hS
        · refine lv_iinc (v := nI (k + 1)) (lv' := [(3, .int (nI (k + 1))), (0, .ref (a 3)), (1, .int (nI (h))), (2, .int (nI (n))), (4, .int (nI (t)))]) hx hb dX0_timesOfDay_23 hl (k := 3) rfl (ii1_N _) (by decide) rfl (fun ls hl => ?_)
          refine lv_iinc (v := nI (t + 1)) (lv' := [(4, .int (nI (t + 1))), (3, .int (nI (k + 1))), (0, .ref (a 3)), (1, .int (nI (h))), (2, .int (nI (n)))]) hx hb dX0_timesOfDay_26 hl (k := 4) rfl (ii1_N _) (by decide) rfl (fun ls hl => ?_)
          refine lv_goto (tgt := 5) hx hb dX0_timesOfDay_29 (by decide) ?_
          exact ih5 (k + 1) (t + 1) (by omega) (by omega) (by first | rw [cnt_f (df c20), hk] | rw [cnt_t (dt c20), hk]) ls _ _ (lv_sub hl [2, 3, 4, 1, 0] rfl) hP hD hS
  exact loop5 (_ + 1) (0) (0) (Nat.lt_succ_self _) (by omega) rfl ls _ _ (lv_sub hl [2, 3, 4, 1, 0] rfl) hP hD hS

set_option maxHeartbeats 4000000 in
set_option maxRecDepth 100000 in
theorem ct_X0_numbersOfDay (l : Launch) (E : cE) (a : Nat → Nat) (I : Nat → Nat → Nat) (tr : Int64) (h : Nat) (hI : CK I) (hh : h < 6) : Ct l E 1 yX0_numbersOfDay cX0_numbersOfDay 5 (some .long) [.ref (a 3), .int (nI (h))] (WC E a I tr) (some (.long (lN (mk (shC I h) 96)))) (WC E a I tr) := by
  refine Ct_of (plainFor_of_name (by decide)) (Nat.le_of_ble_eq_true rfl) ?_
  intro p e s m args below meth c A ls hE hP hD hS hl
  have hE : cEnv p s m args meth c E RX0 cX0_numbersOfDay 5 (some .long) A := hE
  have hx := hE.1
  have hb := hE.2.1
  have hl : lv_has ls 5 [(0, .ref (a 3)), (1, .int (nI (h)))] := hl
  have hP : va_P E.1 vwCl (WC E a I tr) s.heap := hP
  generalize hH : s.heap = H at hP hS ⊢
  have hS : va_S A s.heap H [] := by rw [hH]; exact hS
  clear hH
  refine lv_lconst (v := 0) hx hb dX0_numbersOfDay_0 (by decide) ?_
  refine lv_lstore_n (lv' := [(2, .long (0)), (0, .ref (a 3)), (1, .int (nI (h)))]) hx hb dX0_numbersOfDay_1 rfl hl (by decide) rfl (fun ls hl => ?_)
  refine lv_iconst (v := nI (0)) hx hb dX0_numbersOfDay_2 (by decide) ?_
  refine lv_istore (lv' := [(4, .int (nI (0))), (2, .long (0)), (0, .ref (a 3)), (1, .int (nI (h)))]) hx hb dX0_numbersOfDay_3 hl (by decide) rfl (fun ls hl => ?_)
  have loop5 : ∀ (fu5 : Nat) (k : Nat) (t : Nat), 96 - t < fu5 → (t ≤ 96) → (k = mk (shC I h) t) → ∀ (ls : Array Slot) (H : Heap) (locs : List Loc), lv_has ls 5 [(0, .ref (a 3)), (1, .int (nI (h))), (2, .long (lN k)), (4, .int (nI (t)))] → va_P E.1 vwCl (WC E a I tr) H → va_D A (WC E a I tr) → va_S A s.heap H locs → W p l e (rmL 1) s m args below meth c H locs 0 0 (RQ E below args s A (some (.long (lN (mk (shC I h) 96)))) (WC E a I tr)) (F0 m 5 ls []) := by
    intro fu5
    induction fu5 with
    | zero => intro k t h; exact absurd h (Nat.not_lt_zero _)
    | succ fu5 ih5 =>
      intro k t hfu5 ht hk ls H locs hl hP hD hS
      have hm := mk_lt (f := shC I h) t (fun u _ => shC_lt I h u)
      rw [← hk] at hm
      refine lv_iload hx hb dX0_numbersOfDay_5 (lv_at hl 3 rfl) ?_
      refine lv_bipush (v := nI (96)) hx hb dX0_numbersOfDay_7 (by decide) ?_
      refine bN_ge (tgt := 30) hx hb (by omega) (by omega) dX0_numbersOfDay_9 (by decide) (fun c9 => ?_) (fun c9 => ?_)
      · refine lv_lload_n hx hb dX0_numbersOfDay_30 rfl (lv_at hl 2 rfl) ?_
        exact ret_l hE (r := lN k) (by rw [hk, show (96 : Nat) = t by omega]) hP hD hS dX0_numbersOfDay_31
      · refine lv_lload_n hx hb dX0_numbersOfDay_12 rfl (lv_at hl 2 rfl) ?_
        refine lv_lconst (v := 1) hx hb dX0_numbersOfDay_13 (by decide) ?_
        refine lv_aload_n hx hb dX0_numbersOfDay_14 rfl (lv_at hl 0 rfl) ?_
        refine lv_iload_n hx hb dX0_numbersOfDay_15 rfl (lv_at hl 1 rfl) ?_
        refine lv_iload hx hb dX0_numbersOfDay_16 (lv_at hl 3 rfl) ?_
        refine call_V (As := [.int (nI (h)), .int (nI (t))]) (rest := [.long (1), .long (lN k)]) hE (ct_X0_showsAt l E a I tr (h) (t) (hI) (by omega) (by omega)) cm_X0_showsAt (uw mt_L_X0_56 rfl) (gC_4 E a I tr) rfl rfl hP hD hS hl.1 rfl rfl (Nat.le_of_ble_eq_true rfl) ⟨by decide, by decide⟩ dX0_numbersOfDay_18 (fun H locs hP hD hS => ?_)
        refine W.eq (g2 := F0 m 21 ls [.int (nI (shC I (h) (t))), .long (1), .long (lN k)]) rfl ?_
        have hs1 := shC_lt I (h) (t)
        refine lv_lshl (v := (1) <<< ((nI (shC I (h) (t))).toInt64 &&& 63)) hx hb dX0_numbersOfDay_21 rfl ?_
        refine lv_lor hx hb dX0_numbersOfDay_22 ?_
        refine tpl (mk_or hm (shC_lt I h t)) ?_
        refine lv_lstore_n (lv' := [(2, .long (lN (k ||| 2 ^ shC I h t))), (0, .ref (a 3)), (1, .int (nI (h))), (4, .int (nI (t)))]) hx hb dX0_numbersOfDay_23 rfl hl (by decide) rfl (fun ls hl => ?_)
        refine lv_iinc (v := nI (t + 1)) (lv' := [(4, .int (nI (t + 1))), (2, .long (lN (k ||| 2 ^ shC I h t))), (0, .ref (a 3)), (1, .int (nI (h)))]) hx hb dX0_numbersOfDay_24 hl (k := 3) rfl (ii1_N _) (by decide) rfl (fun ls hl => ?_)
        refine lv_goto (tgt := 5) hx hb dX0_numbersOfDay_27 (by decide) ?_
        exact ih5 (k ||| 2 ^ shC I h t) (t + 1) (by omega) (by omega) (by rw [hk]; rfl) ls _ _ (lv_sub hl [2, 3, 1, 0] rfl) hP hD hS
  exact loop5 (_ + 1) (0) (0) (Nat.lt_succ_self _) (by omega) rfl ls _ _ (lv_sub hl [2, 3, 1, 0] rfl) hP hD hS

set_option maxHeartbeats 4000000 in
set_option maxRecDepth 100000 in
theorem ct_X0_isEarly (l : Launch) (E : cE) (a : Nat → Nat) (I : Nat → Nat → Nat) (tr : Int64) (h x t : Nat) (hI : CK I) (hh : h < 6) (hx6 : x < 6) (ht : t + I 14 0 < 96) : Ct l E 1 yX0_isEarly cX0_isEarly 4 (some .boolean) [.ref (a 3), .int (nI (h)), .int (nI (x)), .int (nI (t))] (WC E a I tr) (some (.int (bB (decide (shC I x (t + I 14 0) < shC I h t))))) (WC E a I tr) := by
  refine Ct_of (plainFor_of_name (by decide)) (Nat.le_of_ble_eq_true rfl) ?_
  intro p e s m args below meth c A ls hE hP hD hS hl
  have hE : cEnv p s m args meth c E RX0 cX0_isEarly 4 (some .boolean) A := hE
  have hx := hE.1
  have hb := hE.2.1
  have hl : lv_has ls 4 [(0, .ref (a 3)), (1, .int (nI (h))), (2, .int (nI (x))), (3, .int (nI (t)))] := hl
  have hP : va_P E.1 vwCl (WC E a I tr) s.heap := hP
  generalize hH : s.heap = H at hP hS ⊢
  have hS : va_S A s.heap H [] := by rw [hH]; exact hS
  clear hH
  refine lv_aload_n hx hb dX0_isEarly_0 rfl (lv_at hl 0 rfl) ?_
  refine lv_iload_n hx hb dX0_isEarly_1 rfl (lv_at hl 2 rfl) ?_
  refine lv_iload_n hx hb dX0_isEarly_2 rfl (lv_at hl 3 rfl) ?_
  refine lv_aload_n hx hb dX0_isEarly_3 rfl (lv_at hl 0 rfl) ?_
  refine gf_X0_25 hE hP (4) (gC_4 E a I tr) (v := .ref (a 11)) rfl dX0_isEarly_4 ?_
  refine gf_X0_60 hE hP (10) (gC_10 E a I tr) (v := .int (nI (I (14) (0)))) rfl dX0_isEarly_7 ?_
  refine lv_iadd hx hb dX0_isEarly_10 ?_
  refine tp (nI_add _ _) ?_
  refine call_V (As := [.int (nI (x)), .int (nI (t + (I (14) (0))))]) (rest := []) hE (ct_X0_showsAt l E a I tr (x) (t + (I (14) (0))) (hI) (by omega) (by omega)) cm_X0_showsAt (uw mt_L_X0_56 rfl) (gC_4 E a I tr) rfl rfl hP hD hS hl.1 rfl rfl (Nat.le_of_ble_eq_true rfl) ⟨by decide, by decide⟩ dX0_isEarly_11 (fun H locs hP hD hS => ?_)
  refine W.eq (g2 := F0 m 14 ls [.int (nI (shC I (x) (t + (I (14) (0)))))]) rfl ?_
  have hs1 := shC_lt I (x) (t + (I (14) (0)))
  refine lv_aload_n hx hb dX0_isEarly_14 rfl (lv_at hl 0 rfl) ?_
  refine lv_iload_n hx hb dX0_isEarly_15 rfl (lv_at hl 1 rfl) ?_
  refine lv_iload_n hx hb dX0_isEarly_16 rfl (lv_at hl 3 rfl) ?_
  refine call_V (As := [.int (nI (h)), .int (nI (t))]) (rest := [.int (nI (shC I (x) (t + (I (14) (0)))))]) hE (ct_X0_showsAt l E a I tr (h) (t) (hI) (by omega) (by omega)) cm_X0_showsAt (uw mt_L_X0_56 rfl) (gC_4 E a I tr) rfl rfl hP hD hS hl.1 rfl rfl (Nat.le_of_ble_eq_true rfl) ⟨by decide, by decide⟩ dX0_isEarly_17 (fun H locs hP hD hS => ?_)
  refine W.eq (g2 := F0 m 20 ls [.int (nI (shC I (h) (t))), .int (nI (shC I (x) (t + (I (14) (0)))))]) rfl ?_
  have hs2 := shC_lt I (h) (t)
  refine bN_ge (tgt := 27) hx hb (by omega) (by omega) dX0_isEarly_20 (by decide) (fun c20 => ?_) (fun c20 => ?_)
  · refine lv_iconst (v := nI (0)) hx hb dX0_isEarly_27 (by decide) ?_
    exact ret_z hE (r := nI (0)) (by decide) (by rw [df (by omega)]; rfl) hP hD hS dX0_isEarly_28
  · refine lv_iconst (v := nI (1)) hx hb dX0_isEarly_23 (by decide) ?_
    refine lv_goto (tgt := 28) hx hb dX0_isEarly_24 (by decide) ?_
    exact ret_z hE (r := nI (1)) (by decide) (by rw [dt c20]; rfl) hP hD hS dX0_isEarly_28

set_option maxHeartbeats 4000000 in
set_option maxRecDepth 100000 in
theorem ct_X0_earlyVisits (l : Launch) (E : cE) (a : Nat → Nat) (I : Nat → Nat → Nat) (tr : Int64) (h x : Nat) (hI : CK I) (hh : h < 6) (hx6 : x < 6) : Ct l E 2 yX0_earlyVisits cX0_earlyVisits 5 (some .int) [.ref (a 3), .int (nI (h)), .int (nI (x))] (WC E a I tr) (some (.int (nI (cnt (fun t => decide (shC I x (t + I 14 0) < shC I h t)) (96 - I 14 0))))) (WC E a I tr) := by
  refine Ct_of (plainFor_of_name (by decide)) (Nat.le_of_ble_eq_true rfl) ?_
  intro p e s m args below meth c A ls hE hP hD hS hl
  have hE : cEnv p s m args meth c E RX0 cX0_earlyVisits 5 (some .int) A := hE
  have hx := hE.1
  have hb := hE.2.1
  have hl : lv_has ls 5 [(0, .ref (a 3)), (1, .int (nI (h))), (2, .int (nI (x)))] := hl
  have hP : va_P E.1 vwCl (WC E a I tr) s.heap := hP
  generalize hH : s.heap = H at hP hS ⊢
  have hS : va_S A s.heap H [] := by rw [hH]; exact hS
  clear hH
  have hw := hI.2.1
  refine lv_iconst (v := nI (0)) hx hb dX0_earlyVisits_0 (by decide) ?_
  refine lv_istore_n (lv' := [(3, .int (nI (0))), (0, .ref (a 3)), (1, .int (nI (h))), (2, .int (nI (x)))]) hx hb dX0_earlyVisits_1 rfl hl (by decide) rfl (fun ls hl => ?_)
  refine lv_iconst (v := nI (0)) hx hb dX0_earlyVisits_2 (by decide) ?_
  refine lv_istore (lv' := [(4, .int (nI (0))), (3, .int (nI (0))), (0, .ref (a 3)), (1, .int (nI (h))), (2, .int (nI (x)))]) hx hb dX0_earlyVisits_3 hl (by decide) rfl (fun ls hl => ?_)
  have loop5 : ∀ (fu5 : Nat) (k : Nat) (t : Nat), 96 - t < fu5 → (t + I 14 0 ≤ 96) → (k = cnt (fun t => decide (shC I x (t + I 14 0) < shC I h t)) t) → ∀ (ls : Array Slot) (H : Heap) (locs : List Loc), lv_has ls 5 [(0, .ref (a 3)), (1, .int (nI (h))), (2, .int (nI (x))), (3, .int (nI (k))), (4, .int (nI (t)))] → va_P E.1 vwCl (WC E a I tr) H → va_D A (WC E a I tr) → va_S A s.heap H locs → W p l e (rmL 2) s m args below meth c H locs 0 0 (RQ E below args s A (some (.int (nI (cnt (fun t => decide (shC I x (t + I 14 0) < shC I h t)) (96 - I 14 0))))) (WC E a I tr)) (F0 m 5 ls []) := by
    intro fu5
    induction fu5 with
    | zero => intro k t h; exact absurd h (Nat.not_lt_zero _)
    | succ fu5 ih5 =>
      intro k t hfu5 ht hk ls H locs hl hP hD hS
      have hm := cnt_le (fun t => decide (shC I x (t + I 14 0) < shC I h t)) t
      refine lv_iload hx hb dX0_earlyVisits_5 (lv_at hl 4 rfl) ?_
      refine lv_aload_n hx hb dX0_earlyVisits_7 rfl (lv_at hl 0 rfl) ?_
      refine gf_X0_25 hE hP (4) (gC_4 E a I tr) (v := .ref (a 11)) rfl dX0_earlyVisits_8 ?_
      refine gf_X0_60 hE hP (10) (gC_10 E a I tr) (v := .int (nI (I (14) (0)))) rfl dX0_earlyVisits_11 ?_
      refine lv_iadd hx hb dX0_earlyVisits_14 ?_
      refine tp (nI_add _ _) ?_
      refine lv_bipush (v := nI (96)) hx hb dX0_earlyVisits_15 (by decide) ?_
      refine bN_ge (tgt := 40) hx hb (by omega) (by omega) dX0_earlyVisits_17 (by decide) (fun c17 => ?_) (fun c17 => ?_)
      · refine lv_iload_n hx hb dX0_earlyVisits_40 rfl (lv_at hl 3 rfl) ?_
        exact ret_i hE (r := nI (k)) (by rw [hk, show 96 - I 14 0 = t by omega]) hP hD hS dX0_earlyVisits_41
      · refine lv_aload_n hx hb dX0_earlyVisits_20 rfl (lv_at hl 0 rfl) ?_
        refine lv_iload_n hx hb dX0_earlyVisits_21 rfl (lv_at hl 1 rfl) ?_
        refine lv_iload_n hx hb dX0_earlyVisits_22 rfl (lv_at hl 2 rfl) ?_
        refine lv_iload hx hb dX0_earlyVisits_23 (lv_at hl 4 rfl) ?_
        refine call_V (As := [.int (nI (h)), .int (nI (x)), .int (nI (t))]) (rest := []) hE (ct_X0_isEarly l E a I tr (h) (x) (t) hI hh hx6 (by omega)) cm_X0_isEarly (uw mt_L_X0_63 rfl) (gC_4 E a I tr) rfl rfl hP hD hS hl.1 rfl rfl (Nat.le_of_ble_eq_true rfl) ⟨by decide, by decide⟩ dX0_earlyVisits_25 (fun H locs hP hD hS => ?_)
        refine W.eq (g2 := F0 m 28 ls [.int (bB (decide (shC I (x) (t + I 14 0) < shC I (h) (t))))]) rfl ?_
        refine bB_eq (tgt := 34) hx hb dX0_earlyVisits_28 (by decide) (fun c28 => ?_) (fun c28 => ?_)
        · refine lv_iinc (v := nI (t + 1)) (lv' := [(4, .int (nI (t + 1))), (0, .ref (a 3)), (1, .int (nI (h))), (2, .int (nI (x))), (3, .int (nI (k)))]) hx hb dX0_earlyVisits_34 hl (k := 4) rfl (ii1_N _) (by decide) rfl (fun ls hl => ?_)
          refine lv_goto (tgt := 5) hx hb dX0_earlyVisits_37 (by decide) ?_
          exact ih5 (k) (t + 1) (by omega) (by omega) (by first | rw [cnt_f (P := (fun t => decide (shC I x (t + I 14 0) < shC I h t))) c28, hk] | rw [cnt_t (P := (fun t => decide (shC I x (t + I 14 0) < shC I h t))) c28, hk]) ls _ _ (lv_sub hl [1, 2, 3, 4, 0] rfl) hP hD hS
        · refine lv_iinc (v := nI (k + 1)) (lv' := [(3, .int (nI (k + 1))), (0, .ref (a 3)), (1, .int (nI (h))), (2, .int (nI (x))), (4, .int (nI (t)))]) hx hb dX0_earlyVisits_31 hl (k := 3) rfl (ii1_N _) (by decide) rfl (fun ls hl => ?_)
          refine lv_iinc (v := nI (t + 1)) (lv' := [(4, .int (nI (t + 1))), (3, .int (nI (k + 1))), (0, .ref (a 3)), (1, .int (nI (h))), (2, .int (nI (x)))]) hx hb dX0_earlyVisits_34 hl (k := 4) rfl (ii1_N _) (by decide) rfl (fun ls hl => ?_)
          refine lv_goto (tgt := 5) hx hb dX0_earlyVisits_37 (by decide) ?_
          exact ih5 (k + 1) (t + 1) (by omega) (by omega) (by first | rw [cnt_f (P := (fun t => decide (shC I x (t + I 14 0) < shC I h t))) c28, hk] | rw [cnt_t (P := (fun t => decide (shC I x (t + I 14 0) < shC I h t))) c28, hk]) ls _ _ (lv_sub hl [2, 3, 4, 1, 0] rfl) hP hD hS
  exact loop5 (_ + 1) (0) (0) (Nat.lt_succ_self _) (by omega) rfl ls _ _ (lv_sub hl [2, 3, 4, 1, 0] rfl) hP hD hS

set_option maxHeartbeats 4000000 in
set_option maxRecDepth 100000 in
theorem ct_X0_firstEarlyVisit (l : Launch) (E : cE) (a : Nat → Nat) (I : Nat → Nat → Nat) (tr : Int64) (h x : Nat) (hI : CK I) (hh : h < 6) (hx6 : x < 6) : Ct l E 2 yX0_firstEarlyVisit cX0_firstEarlyVisit 4 (some .int) [.ref (a 3), .int (nI (h)), .int (nI (x))] (WC E a I tr) (some (.int (rN (sr (fun t => decide (shC I x (t + I 14 0) < shC I h t)) (96 - I 14 0) 0)))) (WC E a I tr) := by
  refine Ct_of (plainFor_of_name (by decide)) (Nat.le_of_ble_eq_true rfl) ?_
  intro p e s m args below meth c A ls hE hP hD hS hl
  have hE : cEnv p s m args meth c E RX0 cX0_firstEarlyVisit 4 (some .int) A := hE
  have hx := hE.1
  have hb := hE.2.1
  have hl : lv_has ls 4 [(0, .ref (a 3)), (1, .int (nI (h))), (2, .int (nI (x)))] := hl
  have hP : va_P E.1 vwCl (WC E a I tr) s.heap := hP
  generalize hH : s.heap = H at hP hS ⊢
  have hS : va_S A s.heap H [] := by rw [hH]; exact hS
  clear hH
  have hw := hI.2.1
  refine lv_iconst (v := nI (0)) hx hb dX0_firstEarlyVisit_0 (by decide) ?_
  refine lv_istore_n (lv' := [(3, .int (nI (0))), (0, .ref (a 3)), (1, .int (nI (h))), (2, .int (nI (x)))]) hx hb dX0_firstEarlyVisit_1 rfl hl (by decide) rfl (fun ls hl => ?_)
  have loop2 : ∀ (fu2 : Nat) (t : Nat), 96 - t < fu2 → (t + I 14 0 ≤ 96) → (sr (fun t => decide (shC I x (t + I 14 0) < shC I h t)) (96 - I 14 0) 0 = sr (fun t => decide (shC I x (t + I 14 0) < shC I h t)) (96 - I 14 0) t) → ∀ (ls : Array Slot) (H : Heap) (locs : List Loc), lv_has ls 4 [(0, .ref (a 3)), (1, .int (nI (h))), (2, .int (nI (x))), (3, .int (nI (t)))] → va_P E.1 vwCl (WC E a I tr) H → va_D A (WC E a I tr) → va_S A s.heap H locs → W p l e (rmL 2) s m args below meth c H locs 0 0 (RQ E below args s A (some (.int (rN (sr (fun t => decide (shC I x (t + I 14 0) < shC I h t)) (96 - I 14 0) 0)))) (WC E a I tr)) (F0 m 2 ls []) := by
    intro fu2
    induction fu2 with
    | zero => intro t h; exact absurd h (Nat.not_lt_zero _)
    | succ fu2 ih2 =>
      intro t hfu2 ht hq ls H locs hl hP hD hS
      refine lv_iload_n hx hb dX0_firstEarlyVisit_2 rfl (lv_at hl 3 rfl) ?_
      refine lv_aload_n hx hb dX0_firstEarlyVisit_3 rfl (lv_at hl 0 rfl) ?_
      refine gf_X0_25 hE hP (4) (gC_4 E a I tr) (v := .ref (a 11)) rfl dX0_firstEarlyVisit_4 ?_
      refine gf_X0_60 hE hP (10) (gC_10 E a I tr) (v := .int (nI (I (14) (0)))) rfl dX0_firstEarlyVisit_7 ?_
      refine lv_iadd hx hb dX0_firstEarlyVisit_10 ?_
      refine tp (nI_add _ _) ?_
      refine lv_bipush (v := nI (96)) hx hb dX0_firstEarlyVisit_11 (by decide) ?_
      refine bN_ge (tgt := 34) hx hb (by omega) (by omega) dX0_firstEarlyVisit_13 (by decide) (fun c13 => ?_) (fun c13 => ?_)
      · refine lv_bipush (v := (-9)) hx hb dX0_firstEarlyVisit_34 (by decide) ?_
        exact ret_i hE (r := (-9)) (by rw [hq, sr_end (by omega), rN_0]) hP hD hS dX0_firstEarlyVisit_36
      · refine lv_aload_n hx hb dX0_firstEarlyVisit_16 rfl (lv_at hl 0 rfl) ?_
        refine lv_iload_n hx hb dX0_firstEarlyVisit_17 rfl (lv_at hl 1 rfl) ?_
        refine lv_iload_n hx hb dX0_firstEarlyVisit_18 rfl (lv_at hl 2 rfl) ?_
        refine lv_iload_n hx hb dX0_firstEarlyVisit_19 rfl (lv_at hl 3 rfl) ?_
        refine call_V (As := [.int (nI (h)), .int (nI (x)), .int (nI (t))]) (rest := []) hE (ct_X0_isEarly l E a I tr (h) (x) (t) hI hh hx6 (by omega)) cm_X0_isEarly (uw mt_L_X0_63 rfl) (gC_4 E a I tr) rfl rfl hP hD hS hl.1 rfl rfl (Nat.le_of_ble_eq_true rfl) ⟨by decide, by decide⟩ dX0_firstEarlyVisit_20 (fun H locs hP hD hS => ?_)
        refine W.eq (g2 := F0 m 23 ls [.int (bB (decide (shC I (x) (t + I 14 0) < shC I (h) (t))))]) rfl ?_
        refine bB_eq (tgt := 28) hx hb dX0_firstEarlyVisit_23 (by decide) (fun c23 => ?_) (fun c23 => ?_)
        · refine lv_iinc (v := nI (t + 1)) (lv' := [(3, .int (nI (t + 1))), (0, .ref (a 3)), (1, .int (nI (h))), (2, .int (nI (x)))]) hx hb dX0_firstEarlyVisit_28 hl (k := 3) rfl (ii1_N _) (by decide) rfl (fun ls hl => ?_)
          refine lv_goto (tgt := 2) hx hb dX0_firstEarlyVisit_31 (by decide) ?_
          exact ih2 (t + 1) (by omega) (by omega) (hq.trans (sr_miss (by omega) c23)) ls _ _ (lv_sub hl [1, 2, 3, 0] rfl) hP hD hS
        · refine lv_iload_n hx hb dX0_firstEarlyVisit_26 rfl (lv_at hl 3 rfl) ?_
          exact ret_i hE (r := nI (t)) (by rw [hq, sr_hit (P := (fun t => decide (shC I x (t + I 14 0) < shC I h t))) (by omega) c23, rN_9]) hP hD hS dX0_firstEarlyVisit_27
  exact loop2 (_ + 1) (0) (Nat.lt_succ_self _) (by omega) rfl ls _ _ (lv_sub hl [1, 2, 3, 0] rfl) hP hD hS

set_option maxHeartbeats 4000000 in
set_option maxRecDepth 100000 in
theorem ct_X0_spread (l : Launch) (E : cE) (a : Nat → Nat) (I : Nat → Nat → Nat) (tr : Int64) (num : Nat) (hI : CK I) (hn : num < 48) : Ct l E 2 yX0_spread cX0_spread 6 (some .int) [.ref (a 3), .int (nI (num))] (WC E a I tr) (some (.int (rN (sprE (fun u => fst (shC I u) num 0) (I 13 0))))) (WC E a I tr) := by
  refine Ct_of (plainFor_of_name (by decide)) (Nat.le_of_ble_eq_true rfl) ?_
  intro p e s m args below meth c A ls hE hP hD hS hl
  have hE : cEnv p s m args meth c E RX0 cX0_spread 6 (some .int) A := hE
  have hx := hE.1
  have hb := hE.2.1
  have hl : lv_has ls 6 [(0, .ref (a 3)), (1, .int (nI (num)))] := hl
  have hP : va_P E.1 vwCl (WC E a I tr) s.heap := hP
  generalize hH : s.heap = H at hP hS ⊢
  have hS : va_S A s.heap H [] := by rw [hH]; exact hS
  clear hH
  have hc := hI.1
  have hg : ∀ u, (fun u => fst (shC I u) num 0) u ≤ 104 := fun u => fst_le (shC I u) num 0
  refine lv_aload_n hx hb dX0_spread_0 rfl (lv_at hl 0 rfl) ?_
  refine gf_X0_25 hE hP (4) (gC_4 E a I tr) (v := .ref (a 11)) rfl dX0_spread_1 ?_
  refine gf_X0_29 hE hP (10) (gC_10 E a I tr) (v := .int (nI (I (13) (0)))) rfl dX0_spread_4 ?_
  refine bZ_ne (tgt := 13) hx hb (by omega) dX0_spread_7 (by decide) (fun c7 => ?_) (fun c7 => ?_)
  · refine lv_bipush (v := nI (95)) hx hb dX0_spread_13 (by decide) ?_
    refine lv_istore_n (lv' := [(2, .int (nI (95))), (0, .ref (a 3)), (1, .int (nI (num)))]) hx hb dX0_spread_15 rfl hl (by decide) rfl (fun ls hl => ?_)
    refine lv_iconst (v := nI (0)) hx hb dX0_spread_16 (by decide) ?_
    refine lv_istore_n (lv' := [(3, .int (nI (0))), (2, .int (nI (95))), (0, .ref (a 3)), (1, .int (nI (num)))]) hx hb dX0_spread_17 rfl hl (by decide) rfl (fun ls hl => ?_)
    refine lv_iconst (v := nI (0)) hx hb dX0_spread_18 (by decide) ?_
    refine lv_istore (lv' := [(4, .int (nI (0))), (3, .int (nI (0))), (2, .int (nI (95))), (0, .ref (a 3)), (1, .int (nI (num)))]) hx hb dX0_spread_19 hl (by decide) rfl (fun ls hl => ?_)
    have loop21 : ∀ (fu21 : Nat) (ea : Nat) (la : Nat) (h : Nat), I 13 0 - h < fu21 → (h ≤ I 13 0) → (ea = eaU (fun u => fst (shC I u) num 0) h) → (la = laU (fun u => fst (shC I u) num 0) h) → (az (fun u => fst (shC I u) num 0) h = true) → ∀ (ls : Array Slot) (H : Heap) (locs : List Loc), lv_has ls 6 [(0, .ref (a 3)), (1, .int (nI (num))), (2, .int (nI (ea))), (3, .int (nI (la))), (4, .int (nI (h)))] → va_P E.1 vwCl (WC E a I tr) H → va_D A (WC E a I tr) → va_S A s.heap H locs → W p l e (rmL 2) s m args below meth c H locs 0 0 (RQ E below args s A (some (.int (rN (sprE (fun u => fst (shC I u) num 0) (I 13 0))))) (WC E a I tr)) (F0 m 21 ls []) := by
      intro fu21
      induction fu21 with
      | zero => intro ea la h h; exact absurd h (Nat.not_lt_zero _)
      | succ fu21 ih21 =>
        intro ea la h hfu21 hh hea hla hz ls H locs hl hP hD hS
        have hb1 := ea_95 (fun u => fst (shC I u) num 0) h
        have hb2 := la_95 (fun u => fst (shC I u) num 0) h (fun u _ => hg u)
        refine lv_iload hx hb dX0_spread_21 (lv_at hl 4 rfl) ?_
        refine lv_aload_n hx hb dX0_spread_23 rfl (lv_at hl 0 rfl) ?_
        refine gf_X0_25 hE hP (4) (gC_4 E a I tr) (v := .ref (a 11)) rfl dX0_spread_24 ?_
        refine gf_X0_29 hE hP (10) (gC_10 E a I tr) (v := .int (nI (I (13) (0)))) rfl dX0_spread_27 ?_
        refine bN_ge (tgt := 73) hx hb (by omega) (by omega) dX0_spread_30 (by decide) (fun c30 => ?_) (fun c30 => ?_)
        · refine lv_iload_n hx hb dX0_spread_73 rfl (lv_at hl 3 rfl) ?_
          have hle := ea_le (g := (fun u => fst (shC I u) num 0)) h (by omega) (fun u _ => hg u)
          refine lv_iload_n hx hb dX0_spread_74 rfl (lv_at hl 2 rfl) ?_
          refine lv_isub hx hb dX0_spread_75 ?_
          refine tp (pk_sub (by omega)) ?_
          exact ret_i hE (r := nI (la - (ea))) (by rw [show I 13 0 = h by omega, sprE_t (g := (fun u => fst (shC I u) num 0)) (by omega) hz, rN_9, hea, hla]) hP hD hS dX0_spread_76
        · refine lv_aload_n hx hb dX0_spread_33 rfl (lv_at hl 0 rfl) ?_
          refine lv_iload hx hb dX0_spread_34 (lv_at hl 4 rfl) ?_
          refine lv_iload_n hx hb dX0_spread_36 rfl (lv_at hl 1 rfl) ?_
          refine lv_iconst (v := nI (0)) hx hb dX0_spread_37 (by decide) ?_
          refine call_V (As := [.int (nI (h)), .int (nI (num)), .int (nI (0))]) (rest := []) hE (ct_X0_firstFrom l E a I tr (h) (num) (0) (hI) (by omega) (by omega) (by omega)) cm_X0_firstFrom (uw mt_L_X0_66 rfl) (gC_4 E a I tr) rfl rfl hP hD hS hl.1 rfl rfl (Nat.le_of_ble_eq_true rfl) ⟨by decide, by decide⟩ dX0_spread_38 (fun H locs hP hD hS => ?_)
          refine W.eq (g2 := F0 m 41 ls [.int (rN (fst (shC I (h)) (num) (0)))]) rfl ?_
          have hf1 := fst_le (shC I (h)) (num) (0)
          refine lv_istore (lv' := [(5, .int (rN (fst (shC I (h)) (num) (0)))), (0, .ref (a 3)), (1, .int (nI (num))), (2, .int (nI (ea))), (3, .int (nI (la))), (4, .int (nI (h)))]) hx hb dX0_spread_41 hl (by decide) rfl (fun ls hl => ?_)
          refine lv_iload hx hb dX0_spread_43 (lv_at hl 0 rfl) ?_
          refine lv_bipush (v := (-9)) hx hb dX0_spread_45 (by decide) ?_
          refine bQ9_ne (tgt := 53) hx hb (by omega) dX0_spread_47 (by decide) (fun c47 => ?_) (fun c47 => ?_)
          · rw [rN_pos (fst_pos c47)] at hl
            refine lv_iload_n hx hb dX0_spread_53 rfl (lv_at hl 3 rfl) ?_
            refine lv_iload hx hb dX0_spread_54 (lv_at hl 0 rfl) ?_
            refine va_mmin hx hb (hE.2.2.2.2.2.1.trans hl.1.symm) hE.2.2.2.2.1 (hE.2.2.2.1 _ (uw mt_L_X0_70 rfl)) (hE.2.2.2.1 _ (uw mt_T_J9_min_7cf53 rfl)) (hE.2.2.2.1 _ (uw mt_N_J9 rfl)) (hE.2.2.2.1 _ (uw mt_C_J9_min_7cf53 rfl)) (by decide) (by decide) (Nat.zero_le _) (Nat.zero_le _) dX0_spread_56 ?_
            refine tp (nI_min (by omega) (by omega)) ?_
            refine lv_istore_n (lv' := [(2, .int (nI (min (ea) (fst (shC I (h)) (num) (0) - 9)))), (5, .int (nI (fst (shC I (h)) (num) (0) - 9))), (0, .ref (a 3)), (1, .int (nI (num))), (3, .int (nI (la))), (4, .int (nI (h)))]) hx hb dX0_spread_59 rfl hl (by decide) rfl (fun ls hl => ?_)
            refine lv_iload_n hx hb dX0_spread_60 rfl (lv_at hl 4 rfl) ?_
            refine lv_iload hx hb dX0_spread_61 (lv_at hl 1 rfl) ?_
            refine va_mmax hx hb (hE.2.2.2.2.2.1.trans hl.1.symm) hE.2.2.2.2.1 (hE.2.2.2.1 _ (uw mt_L_X0_75 rfl)) (hE.2.2.2.1 _ (uw mt_T_J9_max_7cf53 rfl)) (hE.2.2.2.1 _ (uw mt_N_J9 rfl)) (hE.2.2.2.1 _ (uw mt_C_J9_max_7cf53 rfl)) (by decide) (by decide) (Nat.zero_le _) (Nat.zero_le _) dX0_spread_63 ?_
            refine tp (nI_max (by omega) (by omega)) ?_
            refine lv_istore_n (lv' := [(3, .int (nI (max (la) (fst (shC I (h)) (num) (0) - 9)))), (2, .int (nI (min (ea) (fst (shC I (h)) (num) (0) - 9)))), (5, .int (nI (fst (shC I (h)) (num) (0) - 9))), (0, .ref (a 3)), (1, .int (nI (num))), (4, .int (nI (h)))]) hx hb dX0_spread_66 rfl hl (by decide) rfl (fun ls hl => ?_)
            refine lv_iinc (v := nI (h + 1)) (lv' := [(4, .int (nI (h + 1))), (3, .int (nI (max (la) (fst (shC I (h)) (num) (0) - 9)))), (2, .int (nI (min (ea) (fst (shC I (h)) (num) (0) - 9)))), (5, .int (nI (fst (shC I (h)) (num) (0) - 9))), (0, .ref (a 3)), (1, .int (nI (num)))]) hx hb dX0_spread_67 hl (k := 5) rfl (ii1_N _) (by decide) rfl (fun ls hl => ?_)
            refine lv_goto (tgt := 21) hx hb dX0_spread_70 (by decide) ?_
            exact ih21 (min (ea) (fst (shC I (h)) (num) (0) - 9)) (max (la) (fst (shC I (h)) (num) (0) - 9)) (h + 1) (by omega) (by omega) (by rw [hea]; rfl) (by rw [hla]; rfl) (az_t hz c47) ls _ _ (lv_sub hl [4, 5, 2, 1, 0] rfl) hP hD hS
          · refine lv_bipush (v := (-9)) hx hb dX0_spread_50 (by decide) ?_
            exact ret_i hE (r := (-9)) (by rw [sprE_f (g := (fun u => fst (shC I u) num 0)) c30 c47, rN_0]) hP hD hS dX0_spread_52
    exact loop21 (_ + 1) (95) (0) (0) (Nat.lt_succ_self _) (by omega) rfl rfl rfl ls _ _ (lv_sub hl [3, 4, 2, 1, 0] rfl) hP hD hS
  · refine lv_bipush (v := (-9)) hx hb dX0_spread_10 (by decide) ?_
    exact ret_i hE (r := (-9)) (by rw [sprE_0 c7, rN_0]) hP hD hS dX0_spread_12

set_option maxHeartbeats 4000000 in
set_option maxRecDepth 100000 in
theorem ct_X0_numberOfLeastSpread (l : Launch) (E : cE) (a : Nat → Nat) (I : Nat → Nat → Nat) (tr : Int64) (hI : CK I) : Ct l E 3 yX0_numberOfLeastSpread cX0_numberOfLeastSpread 5 (some .int) [.ref (a 3)] (WC E a I tr) (some (.int (rN (pb (fun v => sprE (fun u => fst (shC I u) v 0) (I 13 0)) 48).1))) (WC E a I tr) := by
  refine Ct_of (plainFor_of_name (by decide)) (Nat.le_of_ble_eq_true rfl) ?_
  intro p e s m args below meth c A ls hE hP hD hS hl
  have hE : cEnv p s m args meth c E RX0 cX0_numberOfLeastSpread 5 (some .int) A := hE
  have hx := hE.1
  have hb := hE.2.1
  have hl : lv_has ls 5 [(0, .ref (a 3))] := hl
  have hP : va_P E.1 vwCl (WC E a I tr) s.heap := hP
  generalize hH : s.heap = H at hP hS ⊢
  have hS : va_S A s.heap H [] := by rw [hH]; exact hS
  clear hH
  refine lv_bipush (v := (-9)) hx hb dX0_numberOfLeastSpread_0 (by decide) ?_
  refine tp (show (-9 : Int32) = rN 0 by decide) ?_
  refine lv_istore_n (lv' := [(1, .int (rN (0))), (0, .ref (a 3))]) hx hb dX0_numberOfLeastSpread_2 rfl hl (by decide) rfl (fun ls hl => ?_)
  refine lv_bipush (v := nI (96)) hx hb dX0_numberOfLeastSpread_3 (by decide) ?_
  refine lv_istore_n (lv' := [(2, .int (nI (96))), (1, .int (rN (0))), (0, .ref (a 3))]) hx hb dX0_numberOfLeastSpread_5 rfl hl (by decide) rfl (fun ls hl => ?_)
  refine lv_iconst (v := nI (0)) hx hb dX0_numberOfLeastSpread_6 (by decide) ?_
  refine lv_istore_n (lv' := [(3, .int (nI (0))), (2, .int (nI (96))), (1, .int (rN (0))), (0, .ref (a 3))]) hx hb dX0_numberOfLeastSpread_7 rfl hl (by decide) rfl (fun ls hl => ?_)
  have loop8 : ∀ (fu8 : Nat) (be : Nat) (le : Nat) (v : Nat), 48 - v < fu8 → (v ≤ 48) → (pbC (fun v => sprE (fun u => fst (shC I u) v 0) (I 13 0)) v be le) → ∀ (ls : Array Slot) (H : Heap) (locs : List Loc), lv_has ls 5 [(0, .ref (a 3)), (1, .int (rN (be))), (2, .int (nI (le))), (3, .int (nI (v)))] → va_P E.1 vwCl (WC E a I tr) H → va_D A (WC E a I tr) → va_S A s.heap H locs → W p l e (rmL 3) s m args below meth c H locs 0 0 (RQ E below args s A (some (.int (rN (pb (fun v => sprE (fun u => fst (shC I u) v 0) (I 13 0)) 48).1))) (WC E a I tr)) (F0 m 8 ls []) := by
    intro fu8
    induction fu8 with
    | zero => intro be le v h; exact absurd h (Nat.not_lt_zero _)
    | succ fu8 ih8 =>
      intro be le v hfu8 hv hp ls H locs hl hP hD hS
      have hle : le ≤ 96 := by have h := hp.2.1; split at h <;> have := hp.2.2.1 <;> omega
      have hbe : be ≤ v + 9 := by rw [hp.1]; exact hp.2.2.2
      refine lv_iload_n hx hb dX0_numberOfLeastSpread_8 rfl (lv_at hl 3 rfl) ?_
      refine lv_bipush (v := nI (48)) hx hb dX0_numberOfLeastSpread_9 (by decide) ?_
      refine bN_ge (tgt := 45) hx hb (by omega) (by omega) dX0_numberOfLeastSpread_11 (by decide) (fun c11 => ?_) (fun c11 => ?_)
      · refine lv_iload_n hx hb dX0_numberOfLeastSpread_45 rfl (lv_at hl 1 rfl) ?_
        exact ret_i hE (r := rN (be)) (by rw [hp.1, show (48 : Nat) = v by omega]) hP hD hS dX0_numberOfLeastSpread_46
      · refine lv_aload_n hx hb dX0_numberOfLeastSpread_14 rfl (lv_at hl 0 rfl) ?_
        refine lv_iload_n hx hb dX0_numberOfLeastSpread_15 rfl (lv_at hl 3 rfl) ?_
        refine call_V (As := [.int (nI (v))]) (rest := []) hE (ct_X0_spread l E a I tr (v) hI (by omega)) cm_X0_spread (uw mt_L_X0_78 rfl) (gC_4 E a I tr) rfl rfl hP hD hS hl.1 rfl rfl (Nat.le_of_ble_eq_true rfl) ⟨by decide, by decide⟩ dX0_numberOfLeastSpread_16 (fun H locs hP hD hS => ?_)
        refine W.eq (g2 := F0 m 19 ls [.int (rN (sprE (fun u => fst (shC I u) (v) 0) (I 13 0)))]) rfl ?_
        have hp1 := sprE_le (g := fun u => fst (shC I u) (v) 0) (n := I 13 0) (fun u _ => fst_le (shC I u) (v) 0)
        refine lv_istore (lv' := [(4, .int (rN (sprE (fun u => fst (shC I u) (v) 0) (I 13 0)))), (0, .ref (a 3)), (1, .int (rN (be))), (2, .int (nI (le))), (3, .int (nI (v)))]) hx hb dX0_numberOfLeastSpread_19 hl (by decide) rfl (fun ls hl => ?_)
        refine lv_iload hx hb dX0_numberOfLeastSpread_21 (lv_at hl 0 rfl) ?_
        refine lv_bipush (v := (-9)) hx hb dX0_numberOfLeastSpread_23 (by decide) ?_
        refine bQ9_eq (tgt := 39) hx hb (by omega) dX0_numberOfLeastSpread_25 (by decide) (fun c25 => ?_) (fun c25 => ?_)
        · refine lv_iinc (v := nI (v + 1)) (lv' := [(3, .int (nI (v + 1))), (4, .int (rN (sprE (fun u => fst (shC I u) (v) 0) (I 13 0)))), (0, .ref (a 3)), (1, .int (rN (be))), (2, .int (nI (le)))]) hx hb dX0_numberOfLeastSpread_39 hl (k := 4) rfl (ii1_N _) (by decide) rfl (fun ls hl => ?_)
          refine lv_goto (tgt := 8) hx hb dX0_numberOfLeastSpread_42 (by decide) ?_
          exact ih8 (be) (le) (v + 1) (by omega) (by omega) (by first | exact pbC_0 (S := (fun v => sprE (fun u => fst (shC I u) v 0) (I 13 0))) hp c25 | exact pbC_s (S := (fun v => sprE (fun u => fst (shC I u) v 0) (I 13 0))) hp c31 (by omega) | exact pbC_t (S := (fun v => sprE (fun u => fst (shC I u) v 0) (I 13 0))) hp (sprE_ge c25) c31 (by omega)) ls _ _ (lv_sub hl [2, 3, 4, 0] rfl) hP hD hS
        · refine lv_iload hx hb dX0_numberOfLeastSpread_28 (lv_at hl 0 rfl) ?_
          refine lv_iload_n hx hb dX0_numberOfLeastSpread_30 rfl (lv_at hl 3 rfl) ?_
          refine tp (rN_9 (le)).symm ?_
          refine bQ_ge (tgt := 39) hx hb (by omega) (by omega) dX0_numberOfLeastSpread_31 (by decide) (fun c31 => ?_) (fun c31 => ?_)
          · refine lv_iinc (v := nI (v + 1)) (lv' := [(3, .int (nI (v + 1))), (4, .int (rN (sprE (fun u => fst (shC I u) (v) 0) (I 13 0)))), (0, .ref (a 3)), (1, .int (rN (be))), (2, .int (nI (le)))]) hx hb dX0_numberOfLeastSpread_39 hl (k := 4) rfl (ii1_N _) (by decide) rfl (fun ls hl => ?_)
            refine lv_goto (tgt := 8) hx hb dX0_numberOfLeastSpread_42 (by decide) ?_
            exact ih8 (be) (le) (v + 1) (by omega) (by omega) (by first | exact pbC_0 (S := (fun v => sprE (fun u => fst (shC I u) v 0) (I 13 0))) hp c25 | exact pbC_s (S := (fun v => sprE (fun u => fst (shC I u) v 0) (I 13 0))) hp c31 (by omega) | exact pbC_t (S := (fun v => sprE (fun u => fst (shC I u) v 0) (I 13 0))) hp (sprE_ge c25) c31 (by omega)) ls _ _ (lv_sub hl [2, 3, 4, 0] rfl) hP hD hS
          · refine lv_iload hx hb dX0_numberOfLeastSpread_34 (lv_at hl 0 rfl) ?_
            refine tp (rN_pos (sprE_ge c25)) ?_
            refine lv_istore_n (lv' := [(2, .int (nI (sprE (fun u => fst (shC I u) (v) 0) (I 13 0) - 9))), (4, .int (rN (sprE (fun u => fst (shC I u) (v) 0) (I 13 0)))), (0, .ref (a 3)), (1, .int (rN (be))), (3, .int (nI (v)))]) hx hb dX0_numberOfLeastSpread_36 rfl hl (by decide) rfl (fun ls hl => ?_)
            refine lv_iload_n hx hb dX0_numberOfLeastSpread_37 rfl (lv_at hl 4 rfl) ?_
            refine tp (rN_9 (v)).symm ?_
            refine lv_istore_n (lv' := [(1, .int (rN (v + 9))), (2, .int (nI (sprE (fun u => fst (shC I u) (v) 0) (I 13 0) - 9))), (4, .int (rN (sprE (fun u => fst (shC I u) (v) 0) (I 13 0)))), (0, .ref (a 3)), (3, .int (nI (v)))]) hx hb dX0_numberOfLeastSpread_38 rfl hl (by decide) rfl (fun ls hl => ?_)
            refine lv_iinc (v := nI (v + 1)) (lv' := [(3, .int (nI (v + 1))), (1, .int (rN (v + 9))), (2, .int (nI (sprE (fun u => fst (shC I u) (v) 0) (I 13 0) - 9))), (4, .int (rN (sprE (fun u => fst (shC I u) (v) 0) (I 13 0)))), (0, .ref (a 3))]) hx hb dX0_numberOfLeastSpread_39 hl (k := 4) rfl (ii1_N _) (by decide) rfl (fun ls hl => ?_)
            refine lv_goto (tgt := 8) hx hb dX0_numberOfLeastSpread_42 (by decide) ?_
            exact ih8 (v + 9) (sprE (fun u => fst (shC I u) (v) 0) (I 13 0) - 9) (v + 1) (by omega) (by omega) (by first | exact pbC_0 (S := (fun v => sprE (fun u => fst (shC I u) v 0) (I 13 0))) hp c25 | exact pbC_s (S := (fun v => sprE (fun u => fst (shC I u) v 0) (I 13 0))) hp c31 (by omega) | exact pbC_t (S := (fun v => sprE (fun u => fst (shC I u) v 0) (I 13 0))) hp (sprE_ge c25) c31 (by omega)) ls _ _ (lv_sub hl [4, 1, 2, 0] rfl) hP hD hS
  exact loop8 (_ + 1) (0) (96) (0) (Nat.lt_succ_self _) (by omega) (pbC_z _) ls _ _ (lv_sub hl [3, 2, 1, 0] rfl) hP hD hS
