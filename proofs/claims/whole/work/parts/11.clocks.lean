set_option maxHeartbeats 4000000 in
set_option maxRecDepth 100000 in
theorem ct_X9_isWithin (l : Launch) (E : cE) (ws : va_W) (p0 p1 p2 : Int32) : Ct l E 0 yX9_isWithin cX9_isWithin 3 (some .boolean) [.int (p0), .int (p1), .int (p2)] ws (some (.int (bB (wi p0 p1 p2)))) ws := by
  refine Ct_of (by decide) (Nat.le_of_ble_eq_true rfl) ?_
  intro p e s m args below meth c A ls hE hP hD hS hl
  have hE : cEnv p s m args meth c E RX9 cX9_isWithin 3 (some .boolean) A := hE
  have hx := hE.1
  have hb := hE.2.1
  have hl : lv_has ls 3 [(0, .int (p0)), (1, .int (p1)), (2, .int (p2))] := hl
  generalize hH : s.heap = H at hP hS ⊢
  have hS : va_S A s.heap H [] := by rw [hH]; exact hS
  clear hH
  refine lv_iload_n hx hb dX9_isWithin_0 rfl (lv_at hl 0 rfl) ?_
  refine lv_iload_n hx hb dX9_isWithin_1 rfl (lv_at hl 1 rfl) ?_
  refine lv_icmp_lt (tgt := 14) hx hb dX9_isWithin_2 (by decide) (fun c2 => ?_) (fun c2 => ?_)
  · refine lv_iconst (v := nI (0)) hx hb dX9_isWithin_14 (by decide) ?_
    exact ret_z hE (r := nI (0)) (by decide) (by first | (rw [wi_f1 c2]; rfl) | (rw [wi_f2 c7]; rfl)) hP hD hS dX9_isWithin_15
  · refine lv_iload_n hx hb dX9_isWithin_5 rfl (lv_at hl 0 rfl) ?_
    refine lv_iload_n hx hb dX9_isWithin_6 rfl (lv_at hl 2 rfl) ?_
    refine lv_icmp_gt (tgt := 14) hx hb dX9_isWithin_7 (by decide) (fun c7 => ?_) (fun c7 => ?_)
    · refine lv_iconst (v := nI (0)) hx hb dX9_isWithin_14 (by decide) ?_
      exact ret_z hE (r := nI (0)) (by decide) (by first | (rw [wi_f1 c2]; rfl) | (rw [wi_f2 c7]; rfl)) hP hD hS dX9_isWithin_15
    · refine lv_iconst (v := nI (1)) hx hb dX9_isWithin_10 (by decide) ?_
      refine lv_goto (tgt := 15) hx hb dX9_isWithin_11 (by decide) ?_
      exact ret_z hE (r := nI (1)) (by decide) (by rw [wi_t c2 c7]; rfl) hP hD hS dX9_isWithin_15

set_option maxHeartbeats 4000000 in
set_option maxRecDepth 100000 in
theorem ct_X9_isQuarter (l : Launch) (E : cE) (ws : va_W) (p0 : Int32) : Ct l E 1 yX9_isQuarter cX9_isQuarter 1 (some .boolean) [.int (p0)] ws (some (.int (bB (inB p0 96)))) ws := by
  refine Ct_of (by decide) (Nat.le_of_ble_eq_true rfl) ?_
  intro p e s m args below meth c A ls hE hP hD hS hl
  have hE : cEnv p s m args meth c E RX9 cX9_isQuarter 1 (some .boolean) A := hE
  have hx := hE.1
  have hb := hE.2.1
  have hl : lv_has ls 1 [(0, .int (p0))] := hl
  generalize hH : s.heap = H at hP hS ⊢
  have hS : va_S A s.heap H [] := by rw [hH]; exact hS
  clear hH
  refine lv_iload_n hx hb dX9_isQuarter_0 rfl (lv_at hl 0 rfl) ?_
  refine lv_iconst (v := nI (0)) hx hb dX9_isQuarter_1 (by decide) ?_
  refine lv_bipush (v := nI (95)) hx hb dX9_isQuarter_2 (by decide) ?_
  refine call_S (As := [.int (p0), .int (nI (0)), .int (nI (95))]) (rest := []) hE (ct_X9_isWithin l E ws ((p0)) (nI (0)) (nI (95))) cm_X9_isWithin (uw mt_L_X9_73 rfl) hP hD hS hl.1 rfl rfl (by decide) ⟨by decide, by decide⟩ dX9_isQuarter_4 (fun H locs hP hD hS => ?_)
  refine W.eq (g2 := F0 m 7 ls [.int (bB (wi ((p0)) (nI (0)) (nI (95))))]) rfl ?_
  exact ret_z hE (r := bB (wi ((p0)) (nI (0)) (nI (95)))) (bB_nar _) (by rw [wi_in p0 (by decide)]) hP hD hS dX9_isQuarter_7

set_option maxHeartbeats 4000000 in
set_option maxRecDepth 100000 in
theorem ct_X9_isNumber (l : Launch) (E : cE) (ws : va_W) (p0 : Int32) : Ct l E 1 yX9_isNumber cX9_isNumber 1 (some .boolean) [.int (p0)] ws (some (.int (bB (inB p0 48)))) ws := by
  refine Ct_of (by decide) (Nat.le_of_ble_eq_true rfl) ?_
  intro p e s m args below meth c A ls hE hP hD hS hl
  have hE : cEnv p s m args meth c E RX9 cX9_isNumber 1 (some .boolean) A := hE
  have hx := hE.1
  have hb := hE.2.1
  have hl : lv_has ls 1 [(0, .int (p0))] := hl
  generalize hH : s.heap = H at hP hS ⊢
  have hS : va_S A s.heap H [] := by rw [hH]; exact hS
  clear hH
  refine lv_iload_n hx hb dX9_isNumber_0 rfl (lv_at hl 0 rfl) ?_
  refine lv_iconst (v := nI (0)) hx hb dX9_isNumber_1 (by decide) ?_
  refine lv_bipush (v := nI (47)) hx hb dX9_isNumber_2 (by decide) ?_
  refine call_S (As := [.int (p0), .int (nI (0)), .int (nI (47))]) (rest := []) hE (ct_X9_isWithin l E ws ((p0)) (nI (0)) (nI (47))) cm_X9_isWithin (uw mt_L_X9_73 rfl) hP hD hS hl.1 rfl rfl (by decide) ⟨by decide, by decide⟩ dX9_isNumber_4 (fun H locs hP hD hS => ?_)
  refine W.eq (g2 := F0 m 7 ls [.int (bB (wi ((p0)) (nI (0)) (nI (47))))]) rfl ?_
  exact ret_z hE (r := bB (wi ((p0)) (nI (0)) (nI (47)))) (bB_nar _) (by rw [wi_in p0 (by decide)]) hP hD hS dX9_isNumber_7

set_option maxHeartbeats 4000000 in
set_option maxRecDepth 100000 in
theorem ct_X0_has (l : Launch) (E : cE) (a : Nat → Nat) (I : Nat → Nat → Nat) (tr : Int64) (p0 : Int32) (hc : I 13 0 ≤ 6) : Ct l E 1 yX0_has cX0_has 2 (some .boolean) [.ref (a 3), .int (p0)] (WC E a I tr) (some (.int (bB (inB p0 (I 13 0))))) (WC E a I tr) := by
  refine Ct_of (by decide) (Nat.le_of_ble_eq_true rfl) ?_
  intro p e s m args below meth c A ls hE hP hD hS hl
  have hE : cEnv p s m args meth c E RX0 cX0_has 2 (some .boolean) A := hE
  have hx := hE.1
  have hb := hE.2.1
  have hl : lv_has ls 2 [(0, .ref (a 3)), (1, .int (p0))] := hl
  have hP : va_P E.1 vwCl (WC E a I tr) s.heap := hP
  generalize hH : s.heap = H at hP hS ⊢
  have hS : va_S A s.heap H [] := by rw [hH]; exact hS
  clear hH
  refine lv_iload_n hx hb dX0_has_0 rfl (lv_at hl 1 rfl) ?_
  refine lv_iconst (v := nI (0)) hx hb dX0_has_1 (by decide) ?_
  refine lv_aload_n hx hb dX0_has_2 rfl (lv_at hl 0 rfl) ?_
  refine gf_X0_25 hE hP (4) (gC_4 E a I tr) (v := .ref (a 11)) rfl dX0_has_3 ?_
  refine gf_X0_29 hE hP (10) (gC_10 E a I tr) (v := .int (nI (I (13) (0)))) rfl dX0_has_6 ?_
  refine lv_iconst (v := nI (1)) hx hb dX0_has_9 (by decide) ?_
  refine lv_isub hx hb dX0_has_10 ?_
  refine call_SN (As := [.int (p0), .int (nI (0)), .int (nI (I (13) (0)) - nI (1))]) (rest := []) hE (ct_X9_isWithin l E (WC E a I tr) ((p0)) (nI (0)) ((nI (I (13) (0)) - nI (1)))) cm_X9_isWithin (hE.2.2.2.2.2.2.2.2.2.1.1) hP hD hS hl.1 rfl rfl (by decide) ⟨by decide, by decide⟩ dX0_has_11 (fun H locs hP hD hS => ?_)
  refine W.eq (g2 := F0 m 14 ls [.int (bB (wi ((p0)) (nI (0)) ((nI (I (13) (0)) - nI (1)))))]) rfl ?_
  exact ret_z hE (r := bB (wi ((p0)) (nI (0)) ((nI (I (13) (0)) - nI (1))))) (bB_nar _) (by rw [wi_in1 p0 (by omega)]) hP hD hS dX0_has_14

set_option maxHeartbeats 4000000 in
set_option maxRecDepth 100000 in
theorem ct_X0_hasBoth (l : Launch) (E : cE) (a : Nat → Nat) (I : Nat → Nat → Nat) (tr : Int64) (p0 p1 : Int32) (hI : CK I) : Ct l E 2 yX0_hasBoth cX0_hasBoth 3 (some .boolean) [.ref (a 3), .int (p0), .int (p1)] (WC E a I tr) (some (.int (bB (inB p0 (I 13 0) && (inB p1 (I 13 0) && !(decide (p0 = p1))))))) (WC E a I tr) := by
  refine Ct_of (by decide) (Nat.le_of_ble_eq_true rfl) ?_
  intro p e s m args below meth c A ls hE hP hD hS hl
  have hE : cEnv p s m args meth c E RX0 cX0_hasBoth 3 (some .boolean) A := hE
  have hx := hE.1
  have hb := hE.2.1
  have hl : lv_has ls 3 [(0, .ref (a 3)), (1, .int (p0)), (2, .int (p1))] := hl
  have hP : va_P E.1 vwCl (WC E a I tr) s.heap := hP
  generalize hH : s.heap = H at hP hS ⊢
  have hS : va_S A s.heap H [] := by rw [hH]; exact hS
  clear hH
  refine lv_aload_n hx hb dX0_hasBoth_0 rfl (lv_at hl 0 rfl) ?_
  refine lv_iload_n hx hb dX0_hasBoth_1 rfl (lv_at hl 1 rfl) ?_
  refine call_V (As := [.int (p0)]) (rest := []) hE (ct_X0_has l E a I tr ((p0)) (hI.1)) cm_X0_has (uw mt_L_X0_37 rfl) (gC_4 E a I tr) rfl rfl hP hD hS hl.1 rfl rfl (by decide) ⟨by decide, by decide⟩ dX0_hasBoth_2 (fun H locs hP hD hS => ?_)
  refine W.eq (g2 := F0 m 5 ls [.int (bB (inB ((p0)) (I (13) (0))))]) rfl ?_
  refine bB_eq (tgt := 25) hx hb dX0_hasBoth_5 (by decide) (fun c5 => ?_) (fun c5 => ?_)
  · refine lv_iconst (v := nI (0)) hx hb dX0_hasBoth_25 (by decide) ?_
    exact ret_z hE (r := nI (0)) (by decide) (by first | (rw [c5]; rfl) | (rw [c5, c13]; rfl) | (rw [c5, c13, dt c18]; rfl)) hP hD hS dX0_hasBoth_26
  · refine lv_aload_n hx hb dX0_hasBoth_8 rfl (lv_at hl 0 rfl) ?_
    refine lv_iload_n hx hb dX0_hasBoth_9 rfl (lv_at hl 2 rfl) ?_
    refine call_V (As := [.int (p1)]) (rest := []) hE (ct_X0_has l E a I tr ((p1)) (hI.1)) cm_X0_has (uw mt_L_X0_37 rfl) (gC_4 E a I tr) rfl rfl hP hD hS hl.1 rfl rfl (by decide) ⟨by decide, by decide⟩ dX0_hasBoth_10 (fun H locs hP hD hS => ?_)
    refine W.eq (g2 := F0 m 13 ls [.int (bB (inB ((p1)) (I (13) (0))))]) rfl ?_
    refine bB_eq (tgt := 25) hx hb dX0_hasBoth_13 (by decide) (fun c13 => ?_) (fun c13 => ?_)
    · refine lv_iconst (v := nI (0)) hx hb dX0_hasBoth_25 (by decide) ?_
      exact ret_z hE (r := nI (0)) (by decide) (by first | (rw [c5]; rfl) | (rw [c5, c13]; rfl) | (rw [c5, c13, dt c18]; rfl)) hP hD hS dX0_hasBoth_26
    · refine lv_iload_n hx hb dX0_hasBoth_16 rfl (lv_at hl 1 rfl) ?_
      refine lv_iload_n hx hb dX0_hasBoth_17 rfl (lv_at hl 2 rfl) ?_
      refine lv_icmp_eq (tgt := 25) hx hb dX0_hasBoth_18 (by decide) (fun c18 => ?_) (fun c18 => ?_)
      · refine lv_iconst (v := nI (0)) hx hb dX0_hasBoth_25 (by decide) ?_
        exact ret_z hE (r := nI (0)) (by decide) (by first | (rw [c5]; rfl) | (rw [c5, c13]; rfl) | (rw [c5, c13, dt c18]; rfl)) hP hD hS dX0_hasBoth_26
      · refine lv_iconst (v := nI (1)) hx hb dX0_hasBoth_21 (by decide) ?_
        refine lv_goto (tgt := 26) hx hb dX0_hasBoth_22 (by decide) ?_
        exact ret_z hE (r := nI (1)) (by decide) (by rw [c5, c13, df c18]; rfl) hP hD hS dX0_hasBoth_26

set_option maxHeartbeats 4000000 in
set_option maxRecDepth 100000 in
theorem ct_X0_showsAt (l : Launch) (E : cE) (a : Nat → Nat) (I : Nat → Nat → Nat) (tr : Int64) (h t : Nat) (hI : CK I) (hh : h < 6) (ht : t < 96) : Ct l E 0 yX0_showsAt cX0_showsAt 3 (some .int) [.ref (a 3), .int (nI (h)), .int (nI (t))] (WC E a I tr) (some (.int (nI (shC I h t)))) (WC E a I tr) := by
  refine Ct_of (by decide) (Nat.le_of_ble_eq_true rfl) ?_
  intro p e s m args below meth c A ls hE hP hD hS hl
  have hE : cEnv p s m args meth c E RX0 cX0_showsAt 3 (some .int) A := hE
  have hx := hE.1
  have hb := hE.2.1
  have hl : lv_has ls 3 [(0, .ref (a 3)), (1, .int (nI (h))), (2, .int (nI (t)))] := hl
  have hP : va_P E.1 vwCl (WC E a I tr) s.heap := hP
  generalize hH : s.heap = H at hP hS ⊢
  have hS : va_S A s.heap H [] := by rw [hH]; exact hS
  clear hH
  have h1 := hI.2.2.2.1 h hh t ht
  have h2 := hI.2.2.2.2 h hh
  refine lv_aload_n hx hb dX0_showsAt_0 rfl (lv_at hl 0 rfl) ?_
  refine gf_X0_25 hE hP (4) (gC_4 E a I tr) (v := .ref (a 11)) rfl dX0_showsAt_1 ?_
  refine gf_X0_41 hE hP (10) (gC_10 E a I tr) (v := .ref (a 17)) rfl dX0_showsAt_4 ?_
  refine lv_iload_n hx hb dX0_showsAt_7 rfl (lv_at hl 1 rfl) ?_
  refine ald_q 3 hE hP 11 (gC_11 E a I tr) rfl (by omega) (by decide) (r := a (40 + h)) rfl dX0_showsAt_8 ?_
  refine gf_X0_45 hE hP (12 + h) (gC_hc E a I tr (h) (by omega)) (v := .ref (a (50 + h))) rfl dX0_showsAt_9 ?_
  refine lv_iload_n hx hb dX0_showsAt_12 rfl (lv_at hl 2 rfl) ?_
  refine ald_i hE hP (18 + h) (gC_dc E a I tr (h) (by omega)) (by omega) (by decide) (r := nI (I (20 + h) (t))) rfl dX0_showsAt_13 ?_
  refine lv_aload_n hx hb dX0_showsAt_14 rfl (lv_at hl 0 rfl) ?_
  refine gf_X0_12 hE hP (4) (gC_4 E a I tr) (v := .ref (a 4)) rfl dX0_showsAt_15 ?_
  refine gf_X0_50 hE hP (5) (gC_5 E a I tr) (v := .ref (a 14)) rfl dX0_showsAt_18 ?_
  refine lv_iload_n hx hb dX0_showsAt_21 rfl (lv_at hl 1 rfl) ?_
  refine ald_i hE hP (6) (gC_6 E a I tr) (by omega) (by decide) (r := nI (I (7) (h))) rfl dX0_showsAt_22 ?_
  refine lv_iadd hx hb dX0_showsAt_23 ?_
  refine tp (nI_add _ _) ?_
  refine lv_bipush (v := nI (48)) hx hb dX0_showsAt_24 (by decide) ?_
  refine lv_irem hx hb dX0_showsAt_26 (nI_ne0 (by omega) (by omega)) ?_
  refine tp (pk_rem (by omega) (by omega) (by omega)) ?_
  exact ret_i hE (r := nI ((I (20 + h) (t) + (I (7) (h))) % (48))) (rfl) hP hD hS dX0_showsAt_27

set_option maxHeartbeats 4000000 in
set_option maxRecDepth 100000 in
theorem ct_X0_showsNow (l : Launch) (E : cE) (a : Nat → Nat) (I : Nat → Nat → Nat) (tr : Int64) (h : Nat) (hI : CK I) (hh : h < 6) : Ct l E 1 yX0_showsNow cX0_showsNow 2 (some .int) [.ref (a 3), .int (nI (h))] (WC E a I tr) (some (.int (nI (shC I h (I 11 0))))) (WC E a I tr) := by
  refine Ct_of (by decide) (Nat.le_of_ble_eq_true rfl) ?_
  intro p e s m args below meth c A ls hE hP hD hS hl
  have hE : cEnv p s m args meth c E RX0 cX0_showsNow 2 (some .int) A := hE
  have hx := hE.1
  have hb := hE.2.1
  have hl : lv_has ls 2 [(0, .ref (a 3)), (1, .int (nI (h)))] := hl
  have hP : va_P E.1 vwCl (WC E a I tr) s.heap := hP
  generalize hH : s.heap = H at hP hS ⊢
  have hS : va_S A s.heap H [] := by rw [hH]; exact hS
  clear hH
  have h1 := hI.2.2.1
  refine lv_aload_n hx hb dX0_showsNow_0 rfl (lv_at hl 0 rfl) ?_
  refine lv_iload_n hx hb dX0_showsNow_1 rfl (lv_at hl 1 rfl) ?_
  refine lv_aload_n hx hb dX0_showsNow_2 rfl (lv_at hl 0 rfl) ?_
  refine gf_X0_12 hE hP (4) (gC_4 E a I tr) (v := .ref (a 4)) rfl dX0_showsNow_3 ?_
  refine gf_X0_53 hE hP (5) (gC_5 E a I tr) (v := .int (nI (I (11) (0)))) rfl dX0_showsNow_6 ?_
  refine call_V (As := [.int (nI (h)), .int (nI (I (11) (0)))]) (rest := []) hE (ct_X0_showsAt l E a I tr (h) (I (11) (0)) (hI) (by omega) (by omega)) cm_X0_showsAt (uw mt_L_X0_56 rfl) (gC_4 E a I tr) rfl rfl hP hD hS hl.1 rfl rfl (by decide) ⟨by decide, by decide⟩ dX0_showsNow_9 (fun H locs hP hD hS => ?_)
  refine W.eq (g2 := F0 m 12 ls [.int (nI (shC I (h) (I (11) (0))))]) rfl ?_
  have hs1 := shC_lt I (h) (I (11) (0))
  exact ret_i hE (r := nI (shC I (h) (I (11) (0)))) (rfl) hP hD hS dX0_showsNow_12

set_option maxHeartbeats 4000000 in
set_option maxRecDepth 100000 in
theorem ct_X0_firstFrom (l : Launch) (E : cE) (a : Nat → Nat) (I : Nat → Nat → Nat) (tr : Int64) (h n f0 : Nat) (hI : CK I) (hh : h < 6) (hn : n < 48) (hf : f0 ≤ 96) : Ct l E 1 yX0_firstFrom cX0_firstFrom 5 (some .int) [.ref (a 3), .int (nI (h)), .int (nI (n)), .int (nI (f0))] (WC E a I tr) (some (.int (rN (fst (shC I h) n f0)))) (WC E a I tr) := by
  refine Ct_of (by decide) (Nat.le_of_ble_eq_true rfl) ?_
  intro p e s m args below meth c A ls hE hP hD hS hl
  have hE : cEnv p s m args meth c E RX0 cX0_firstFrom 5 (some .int) A := hE
  have hx := hE.1
  have hb := hE.2.1
  have hl : lv_has ls 5 [(0, .ref (a 3)), (1, .int (nI (h))), (2, .int (nI (n))), (3, .int (nI (f0)))] := hl
  have hP : va_P E.1 vwCl (WC E a I tr) s.heap := hP
  generalize hH : s.heap = H at hP hS ⊢
  have hS : va_S A s.heap H [] := by rw [hH]; exact hS
  clear hH
  refine lv_iload_n hx hb dX0_firstFrom_0 rfl (lv_at hl 3 rfl) ?_
  refine lv_istore (lv' := [(4, .int (nI (f0))), (0, .ref (a 3)), (1, .int (nI (h))), (2, .int (nI (n))), (3, .int (nI (f0)))]) hx hb dX0_firstFrom_1 hl (by decide) rfl (fun ls hl => ?_)
  have loop3 : ∀ (fu3 : Nat) (t : Nat), 96 - t < fu3 → (t ≤ 96) → (fst (shC I h) n f0 = fst (shC I h) n t) → ∀ (ls : Array Slot) (H : Heap) (locs : List Loc), lv_has ls 5 [(0, .ref (a 3)), (1, .int (nI (h))), (2, .int (nI (n))), (4, .int (nI (t)))] → va_P E.1 vwCl (WC E a I tr) H → va_D A (WC E a I tr) → va_S A s.heap H locs → W p l e (rmL 1) s m args below meth c H locs 0 0 (RQ E below args s A (some (.int (rN (fst (shC I h) n f0)))) (WC E a I tr)) (F0 m 3 ls []) := by
    intro fu3
    induction fu3 with
    | zero => intro t h; exact absurd h (Nat.not_lt_zero _)
    | succ fu3 ih3 =>
      intro t hfu3 ht hq ls H locs hl hP hD hS
      refine lv_iload hx hb dX0_firstFrom_3 (lv_at hl 3 rfl) ?_
      refine lv_bipush (v := nI (96)) hx hb dX0_firstFrom_5 (by decide) ?_
      refine bN_ge (tgt := 30) hx hb (by omega) (by omega) dX0_firstFrom_7 (by decide) (fun c7 => ?_) (fun c7 => ?_)
      · refine lv_bipush (v := (-9)) hx hb dX0_firstFrom_30 (by decide) ?_
        exact ret_i hE (r := (-9)) (by rw [hq, show fst (shC I h) n t = 0 from sr_end c7, rN_0]) hP hD hS dX0_firstFrom_32
      · refine lv_aload_n hx hb dX0_firstFrom_10 rfl (lv_at hl 0 rfl) ?_
        refine lv_iload_n hx hb dX0_firstFrom_11 rfl (lv_at hl 1 rfl) ?_
        refine lv_iload hx hb dX0_firstFrom_12 (lv_at hl 3 rfl) ?_
        refine call_V (As := [.int (nI (h)), .int (nI (t))]) (rest := []) hE (ct_X0_showsAt l E a I tr (h) (t) (hI) (by omega) (by omega)) cm_X0_showsAt (uw mt_L_X0_56 rfl) (gC_4 E a I tr) rfl rfl hP hD hS hl.1 rfl rfl (by decide) ⟨by decide, by decide⟩ dX0_firstFrom_14 (fun H locs hP hD hS => ?_)
        refine W.eq (g2 := F0 m 17 ls [.int (nI (shC I (h) (t)))]) rfl ?_
        have hs1 := shC_lt I (h) (t)
        refine lv_iload_n hx hb dX0_firstFrom_17 rfl (lv_at hl 2 rfl) ?_
        refine bN_ne (tgt := 24) hx hb (by omega) (by omega) dX0_firstFrom_18 (by decide) (fun c18 => ?_) (fun c18 => ?_)
        · refine lv_iinc (v := nI (t + 1)) (lv' := [(4, .int (nI (t + 1))), (0, .ref (a 3)), (1, .int (nI (h))), (2, .int (nI (n)))]) hx hb dX0_firstFrom_24 hl (k := 3) rfl (ii1_N _) (by decide) rfl (fun ls hl => ?_)
          refine lv_goto (tgt := 3) hx hb dX0_firstFrom_27 (by decide) ?_
          exact ih3 (t + 1) (by omega) (by omega) (hq.trans (sr_miss c7 (df c18))) ls _ _ (lv_sub hl [1, 2, 3, 0] rfl) hP hD hS
        · refine lv_iload hx hb dX0_firstFrom_21 (lv_at hl 3 rfl) ?_
          exact ret_i hE (r := nI (t)) (by rw [hq, show fst (shC I h) n t = t + 9 from sr_hit c7 (dt c18), rN_9]) hP hD hS dX0_firstFrom_23
  exact loop3 (_ + 1) (f0) (Nat.lt_succ_self _) (by omega) rfl ls _ _ (lv_sub hl [1, 2, 3, 0] rfl) hP hD hS

set_option maxHeartbeats 4000000 in
set_option maxRecDepth 100000 in
theorem ct_X0_timesOfDay (l : Launch) (E : cE) (a : Nat → Nat) (I : Nat → Nat → Nat) (tr : Int64) (h n : Nat) (hI : CK I) (hh : h < 6) (hn : n < 48) : Ct l E 1 yX0_timesOfDay cX0_timesOfDay 5 (some .int) [.ref (a 3), .int (nI (h)), .int (nI (n))] (WC E a I tr) (some (.int (nI (cnt (fun u => decide (shC I h u = n)) 96)))) (WC E a I tr) := by
  refine Ct_of (by decide) (Nat.le_of_ble_eq_true rfl) ?_
  intro p e s m args below meth c A ls hE hP hD hS hl
  have hE : cEnv p s m args meth c E RX0 cX0_timesOfDay 5 (some .int) A := hE
  have hx := hE.1
  have hb := hE.2.1
  have hl : lv_has ls 5 [(0, .ref (a 3)), (1, .int (nI (h))), (2, .int (nI (n)))] := hl
  have hP : va_P E.1 vwCl (WC E a I tr) s.heap := hP
  generalize hH : s.heap = H at hP hS ⊢
  have hS : va_S A s.heap H [] := by rw [hH]; exact hS
  clear hH
  refine lv_iconst (v := nI (0)) hx hb dX0_timesOfDay_0 (by decide) ?_
  refine lv_istore_n (lv' := [(3, .int (nI (0))), (0, .ref (a 3)), (1, .int (nI (h))), (2, .int (nI (n)))]) hx hb dX0_timesOfDay_1 rfl hl (by decide) rfl (fun ls hl => ?_)
  refine lv_iconst (v := nI (0)) hx hb dX0_timesOfDay_2 (by decide) ?_
  refine lv_istore (lv' := [(4, .int (nI (0))), (3, .int (nI (0))), (0, .ref (a 3)), (1, .int (nI (h))), (2, .int (nI (n)))]) hx hb dX0_timesOfDay_3 hl (by decide) rfl (fun ls hl => ?_)
  have loop5 : ∀ (fu5 : Nat) (t : Nat), 96 - t < fu5 → (t ≤ 96) → ∀ (ls : Array Slot) (H : Heap) (locs : List Loc), lv_has ls 5 [(0, .ref (a 3)), (1, .int (nI (h))), (2, .int (nI (n))), (3, .int (nI (cnt (fun u => decide (shC I h u = n)) t))), (4, .int (nI (t)))] → va_P E.1 vwCl (WC E a I tr) H → va_D A (WC E a I tr) → va_S A s.heap H locs → W p l e (rmL 1) s m args below meth c H locs 0 0 (RQ E below args s A (some (.int (nI (cnt (fun u => decide (shC I h u = n)) 96)))) (WC E a I tr)) (F0 m 5 ls []) := by
    intro fu5
    induction fu5 with
    | zero => intro t h; exact absurd h (Nat.not_lt_zero _)
    | succ fu5 ih5 =>
      intro t hfu5 ht ls H locs hl hP hD hS
      have hm := cnt_le (fun u => decide (shC I h u = n)) t
      refine lv_iload hx hb dX0_timesOfDay_5 (lv_at hl 4 rfl) ?_
      refine lv_bipush (v := nI (96)) hx hb dX0_timesOfDay_7 (by decide) ?_
      refine bN_ge (tgt := 32) hx hb (by omega) (by omega) dX0_timesOfDay_9 (by decide) (fun c9 => ?_) (fun c9 => ?_)
      · refine lv_iload_n hx hb dX0_timesOfDay_32 rfl (lv_at hl 3 rfl) ?_
        exact ret_i hE (r := nI (cnt (fun u => decide (shC I h u = n)) t)) (by rw [show (96 : Nat) = t by omega]) hP hD hS dX0_timesOfDay_33
      · refine lv_aload_n hx hb dX0_timesOfDay_12 rfl (lv_at hl 0 rfl) ?_
        refine lv_iload_n hx hb dX0_timesOfDay_13 rfl (lv_at hl 1 rfl) ?_
        refine lv_iload hx hb dX0_timesOfDay_14 (lv_at hl 4 rfl) ?_
        refine call_V (As := [.int (nI (h)), .int (nI (t))]) (rest := []) hE (ct_X0_showsAt l E a I tr (h) (t) (hI) (by omega) (by omega)) cm_X0_showsAt (uw mt_L_X0_56 rfl) (gC_4 E a I tr) rfl rfl hP hD hS hl.1 rfl rfl (by decide) ⟨by decide, by decide⟩ dX0_timesOfDay_16 (fun H locs hP hD hS => ?_)
        refine W.eq (g2 := F0 m 19 ls [.int (nI (shC I (h) (t)))]) rfl ?_
        have hs1 := shC_lt I (h) (t)
        refine lv_iload_n hx hb dX0_timesOfDay_19 rfl (lv_at hl 2 rfl) ?_
        refine bN_ne (tgt := 26) hx hb (by omega) (by omega) dX0_timesOfDay_20 (by decide) (fun c20 => ?_) (fun c20 => ?_)
        · refine lv_iinc (v := nI (t + 1)) (lv' := [(4, .int (nI (t + 1))), (0, .ref (a 3)), (1, .int (nI (h))), (2, .int (nI (n))), (3, .int (nI (cnt (fun u => decide (shC I h u = n)) t)))]) hx hb dX0_timesOfDay_26 hl (k := 4) rfl (ii1_N _) (by decide) rfl (fun ls hl => ?_)
          refine lv_goto (tgt := 5) hx hb dX0_timesOfDay_29 (by decide) ?_
          exact ih5 (t + 1) (by omega) (by omega) ls _ _ (lv_sub hl [1, 2, 3, 4, 0] rfl) hP hD hS
        · refine lv_iinc (v := nI (cnt (fun u => decide (shC I h u = n)) t + 1)) (lv' := [(3, .int (nI (cnt (fun u => decide (shC I h u = n)) t + 1))), (0, .ref (a 3)), (1, .int (nI (h))), (2, .int (nI (n))), (4, .int (nI (t)))]) hx hb dX0_timesOfDay_23 hl (k := 3) rfl (ii1_N _) (by decide) rfl (fun ls hl => ?_)
          refine lv_iinc (v := nI (t + 1)) (lv' := [(4, .int (nI (t + 1))), (3, .int (nI (cnt (fun u => decide (shC I h u = n)) t + 1))), (0, .ref (a 3)), (1, .int (nI (h))), (2, .int (nI (n)))]) hx hb dX0_timesOfDay_26 hl (k := 4) rfl (ii1_N _) (by decide) rfl (fun ls hl => ?_)
          refine lv_goto (tgt := 5) hx hb dX0_timesOfDay_29 (by decide) ?_
          exact ih5 (t + 1) (by omega) (by omega) ls _ _ (lv_sub hl [2, 3, 4, 1, 0] rfl) hP hD hS
  exact loop5 (_ + 1) (0) (Nat.lt_succ_self _) (by omega) ls _ _ (lv_sub hl [2, 3, 4, 1, 0] rfl) hP hD hS
