set_option maxHeartbeats 4000000 in
set_option maxRecDepth 100000 in
theorem ct_X10_in (l : Launch) (E : cE) (ws : va_W) (zp0 zp1 zp2 : Int32) : Ct l E 0 yX10_in cX10_in 3 (some .boolean) [.int (zp0), .int (zp1), .int (zp2)] ws (some (.int (bB (wi zp0 zp1 zp2)))) ws := by
  refine Ct_of (plainFor_of_name (by decide)) (Nat.le_of_ble_eq_true rfl) ?_
  intro p e s m args below meth c A ls hE hP hD hS hl
  have hE : cEnv p s m args meth c E RX10 cX10_in 3 (some .boolean) A := hE
  have hx := hE.1
  have hb := hE.2.1
  have hl : lv_has ls 3 [(0, .int (zp0)), (1, .int (zp1)), (2, .int (zp2))] := hl
  generalize hH : s.heap = H at hP hS ⊢
  have hS : va_S A s.heap H [] := by rw [hH]; exact hS
  clear hH
  refine lv_iload_n hx hb dX10_in_0 rfl (lv_at hl 0 rfl) ?_
  refine lv_iload_n hx hb dX10_in_1 rfl (lv_at hl 1 rfl) ?_
  refine lv_icmp_lt (tgt := 14) hx hb dX10_in_2 (by decide) (fun c2 => ?_) (fun c2 => ?_)
  · refine lv_iconst (v := nI (0)) hx hb dX10_in_14 (by decide) ?_
    exact ret_z hE (r := nI (0)) (by decide) (by first | (rw [wi_f1 c2]; rfl) | (rw [wi_f2 c7]; rfl)) hP hD hS dX10_in_15
  · refine lv_iload_n hx hb dX10_in_5 rfl (lv_at hl 0 rfl) ?_
    refine lv_iload_n hx hb dX10_in_6 rfl (lv_at hl 2 rfl) ?_
    refine lv_icmp_gt (tgt := 14) hx hb dX10_in_7 (by decide) (fun c7 => ?_) (fun c7 => ?_)
    · refine lv_iconst (v := nI (0)) hx hb dX10_in_14 (by decide) ?_
      exact ret_z hE (r := nI (0)) (by decide) (by first | (rw [wi_f1 c2]; rfl) | (rw [wi_f2 c7]; rfl)) hP hD hS dX10_in_15
    · refine lv_iconst (v := nI (1)) hx hb dX10_in_10 (by decide) ?_
      refine lv_goto (tgt := 15) hx hb dX10_in_11 (by decide) ?_
      exact ret_z hE (r := nI (1)) (by decide) (by rw [wi_t c2 c7]; rfl) hP hD hS dX10_in_15

set_option maxHeartbeats 4000000 in
set_option maxRecDepth 100000 in
theorem ct_X10_isQuarter (l : Launch) (E : cE) (ws : va_W) (zp0 : Int32) : Ct l E 1 yX10_isQuarter cX10_isQuarter 1 (some .boolean) [.int (zp0)] ws (some (.int (bB (inB zp0 96)))) ws := by
  refine Ct_of (plainFor_of_name (by decide)) (Nat.le_of_ble_eq_true rfl) ?_
  intro p e s m args below meth c A ls hE hP hD hS hl
  have hE : cEnv p s m args meth c E RX10 cX10_isQuarter 1 (some .boolean) A := hE
  have hx := hE.1
  have hb := hE.2.1
  have hl : lv_has ls 1 [(0, .int (zp0))] := hl
  generalize hH : s.heap = H at hP hS ⊢
  have hS : va_S A s.heap H [] := by rw [hH]; exact hS
  clear hH
  refine lv_iload_n hx hb dX10_isQuarter_0 rfl (lv_at hl 0 rfl) ?_
  refine lv_iconst (v := nI (0)) hx hb dX10_isQuarter_1 (by decide) ?_
  refine lv_bipush (v := nI (95)) hx hb dX10_isQuarter_2 (by decide) ?_
  refine call_S (As := [.int (zp0), .int (nI (0)), .int (nI (95))]) (rest := []) hE (ct_X10_in l E ws ((zp0)) (nI (0)) (nI (95))) cm_X10_in (uw mt_L_X10_63 rfl) hP hD hS hl.1 rfl rfl (Nat.le_of_ble_eq_true rfl) ⟨by decide, by decide⟩ dX10_isQuarter_4 (fun H locs hP hD hS => ?_)
  refine W.eq (g2 := F0 m 7 ls [.int (bB (wi ((zp0)) (nI (0)) (nI (95))))]) rfl ?_
  exact ret_z hE (r := bB (wi ((zp0)) (nI (0)) (nI (95)))) (bB_nar _) (by rw [wi_in zp0 (by decide)]) hP hD hS dX10_isQuarter_7

set_option maxHeartbeats 4000000 in
set_option maxRecDepth 100000 in
theorem ct_X10_isNumber (l : Launch) (E : cE) (ws : va_W) (zp0 : Int32) : Ct l E 1 yX10_isNumber cX10_isNumber 1 (some .boolean) [.int (zp0)] ws (some (.int (bB (inB zp0 48)))) ws := by
  refine Ct_of (plainFor_of_name (by decide)) (Nat.le_of_ble_eq_true rfl) ?_
  intro p e s m args below meth c A ls hE hP hD hS hl
  have hE : cEnv p s m args meth c E RX10 cX10_isNumber 1 (some .boolean) A := hE
  have hx := hE.1
  have hb := hE.2.1
  have hl : lv_has ls 1 [(0, .int (zp0))] := hl
  generalize hH : s.heap = H at hP hS ⊢
  have hS : va_S A s.heap H [] := by rw [hH]; exact hS
  clear hH
  refine lv_iload_n hx hb dX10_isNumber_0 rfl (lv_at hl 0 rfl) ?_
  refine lv_iconst (v := nI (0)) hx hb dX10_isNumber_1 (by decide) ?_
  refine lv_bipush (v := nI (47)) hx hb dX10_isNumber_2 (by decide) ?_
  refine call_S (As := [.int (zp0), .int (nI (0)), .int (nI (47))]) (rest := []) hE (ct_X10_in l E ws ((zp0)) (nI (0)) (nI (47))) cm_X10_in (uw mt_L_X10_63 rfl) hP hD hS hl.1 rfl rfl (Nat.le_of_ble_eq_true rfl) ⟨by decide, by decide⟩ dX10_isNumber_4 (fun H locs hP hD hS => ?_)
  refine W.eq (g2 := F0 m 7 ls [.int (bB (wi ((zp0)) (nI (0)) (nI (47))))]) rfl ?_
  exact ret_z hE (r := bB (wi ((zp0)) (nI (0)) (nI (47)))) (bB_nar _) (by rw [wi_in zp0 (by decide)]) hP hD hS dX10_isNumber_7

set_option maxHeartbeats 4000000 in
set_option maxRecDepth 100000 in
theorem ct_X10_isHouse (l : Launch) (E : cE) (a : Nat → Nat) (I : Nat → Nat → Nat) (tr : Int64) (zp0 : Int32) (hc : I 2 0 ≤ 6) : Ct l E 1 yX10_isHouse cX10_isHouse 2 (some .boolean) [.ref (a 0), .int (zp0)] (WM E a I tr) (some (.int (bB (inB zp0 (I 2 0))))) (WM E a I tr) := by
  refine Ct_of (plainFor_of_name (by decide)) (Nat.le_of_ble_eq_true rfl) ?_
  intro p e s m args below meth c A ls hE hP hD hS hl
  have hE : cEnv p s m args meth c E RX10 cX10_isHouse 2 (some .boolean) A := hE
  have hx := hE.1
  have hb := hE.2.1
  have hl : lv_has ls 2 [(0, .ref (a 0)), (1, .int (zp0))] := hl
  have hP : va_P E.1 vwCl (WM E a I tr) s.heap := hP
  generalize hH : s.heap = H at hP hS ⊢
  have hS : va_S A s.heap H [] := by rw [hH]; exact hS
  clear hH
  refine lv_iload_n hx hb dX10_isHouse_0 rfl (lv_at hl 1 rfl) ?_
  refine lv_iconst (v := nI (0)) hx hb dX10_isHouse_1 (by decide) ?_
  refine lv_aload_n hx hb dX10_isHouse_2 rfl (lv_at hl 0 rfl) ?_
  refine gf_X10_13 hE hP (0) (gM_0 E a I tr) (v := .ref (a 2)) rfl dX10_isHouse_3 ?_
  refine lv_iconst (v := nI (0)) hx hb dX10_isHouse_6 (by decide) ?_
  refine ald_i hE hP (2) (gM_2 E a I tr) (by omega) (by decide) (r := nI (I (2) (0))) rfl dX10_isHouse_7 ?_
  refine lv_iconst (v := nI (1)) hx hb dX10_isHouse_8 (by decide) ?_
  refine lv_isub hx hb dX10_isHouse_9 ?_
  refine call_S (As := [.int (zp0), .int (nI (0)), .int (nI (I (2) (0)) - nI (1))]) (rest := []) hE (ct_X10_in l E (WM E a I tr) ((zp0)) (nI (0)) ((nI (I (2) (0)) - nI (1)))) cm_X10_in (uw mt_L_X10_63 rfl) hP hD hS hl.1 rfl rfl (Nat.le_of_ble_eq_true rfl) ⟨by decide, by decide⟩ dX10_isHouse_10 (fun H locs hP hD hS => ?_)
  refine W.eq (g2 := F0 m 13 ls [.int (bB (wi ((zp0)) (nI (0)) ((nI (I (2) (0)) - nI (1)))))]) rfl ?_
  exact ret_z hE (r := bB (wi ((zp0)) (nI (0)) ((nI (I (2) (0)) - nI (1))))) (bB_nar _) (by rw [wi_in1 zp0 (by omega)]) hP hD hS dX10_isHouse_13

set_option maxHeartbeats 4000000 in
set_option maxRecDepth 100000 in
theorem ct_X10_lived (l : Launch) (E : cE) (a : Nat → Nat) (I : Nat → Nat → Nat) (tr : Int64) (h t : Nat) (hI : KM I) (hh : h < I 2 0) (ht : t ≤ 95) : Ct l E 0 yX10_lived cX10_lived 3 (some .int) [.ref (a 0), .int (nI (h)), .int (nI (t))] (WM E a I tr) (some (.int (nI (t * I 5 h / I 6 h)))) (WM E a I tr) := by
  refine Ct_of (plainFor_of_name (by decide)) (Nat.le_of_ble_eq_true rfl) ?_
  intro p e s m args below meth c A ls hE hP hD hS hl
  have hE : cEnv p s m args meth c E RX10 cX10_lived 3 (some .int) A := hE
  have hx := hE.1
  have hb := hE.2.1
  have hl : lv_has ls 3 [(0, .ref (a 0)), (1, .int (nI (h))), (2, .int (nI (t)))] := hl
  have hP : va_P E.1 vwCl (WM E a I tr) s.heap := hP
  generalize hH : s.heap = H at hP hS ⊢
  have hS : va_S A s.heap H [] := by rw [hH]; exact hS
  clear hH
  have hc := hI.1
  have hq := hI.2.2.2.1 h hh
  have h5 := hq.2.1
  have h6 := hq.2.2.1
  have h66 := hq.2.2.2.1
  have hm : t * I 5 h ≤ 95 * 9 := Nat.mul_le_mul ht h5
  refine lv_iload_n hx hb dX10_lived_0 rfl (lv_at hl 2 rfl) ?_
  refine lv_aload_n hx hb dX10_lived_1 rfl (lv_at hl 0 rfl) ?_
  refine gf_X10_23 hE hP (0) (gM_0 E a I tr) (v := .ref (a 5)) rfl dX10_lived_2 ?_
  refine lv_iload_n hx hb dX10_lived_5 rfl (lv_at hl 1 rfl) ?_
  refine ald_i hE hP (5) (gM_5 E a I tr) (by omega) (by decide) (r := nI (I (5) (h))) rfl dX10_lived_6 ?_
  refine lv_imul hx hb dX10_lived_7 ?_
  refine tp (pk_mul _ _) ?_
  refine lv_aload_n hx hb dX10_lived_8 rfl (lv_at hl 0 rfl) ?_
  refine gf_X10_26 hE hP (0) (gM_0 E a I tr) (v := .ref (a 6)) rfl dX10_lived_9 ?_
  refine lv_iload_n hx hb dX10_lived_12 rfl (lv_at hl 1 rfl) ?_
  refine ald_i hE hP (6) (gM_6 E a I tr) (by omega) (by decide) (r := nI (I (6) (h))) rfl dX10_lived_13 ?_
  refine lv_idiv hx hb dX10_lived_14 (nI_ne0 (by omega) (by omega)) ?_
  refine tp (pk_div (by omega) (by omega) (by omega)) ?_
  exact ret_i hE (r := nI (((t) * (I (5) (h))) / (I (6) (h)))) (rfl) hP hD hS dX10_lived_15

set_option maxHeartbeats 4000000 in
set_option maxRecDepth 100000 in
theorem ct_X10_shown (l : Launch) (E : cE) (a : Nat → Nat) (I : Nat → Nat → Nat) (tr : Int64) (h t : Nat) (hI : KM I) (hh : h < I 2 0) (ht : t < 96) : Ct l E 1 yX10_shown cX10_shown 5 (some .int) [.ref (a 0), .int (nI (h)), .int (nI (t))] (WM E a I tr) (some (.int (nI (shM I h t)))) (WM E a I tr) := by
  refine Ct_of (plainFor_of_name (by decide)) (Nat.le_of_ble_eq_true rfl) ?_
  intro p e s m args below meth c A ls hE hP hD hS hl
  have hE : cEnv p s m args meth c E RX10 cX10_shown 5 (some .int) A := hE
  have hx := hE.1
  have hb := hE.2.1
  have hl : lv_has ls 5 [(0, .ref (a 0)), (1, .int (nI (h))), (2, .int (nI (t)))] := hl
  have hP : va_P E.1 vwCl (WM E a I tr) s.heap := hP
  generalize hH : s.heap = H at hP hS ⊢
  have hS : va_S A s.heap H [] := by rw [hH]; exact hS
  clear hH
  have hc := hI.1
  have hq := hI.2.2.2.1 h hh
  have h4 := hq.1
  have h7 := hq.2.2.2.2.1
  have h16 := hI.2.2.2.2 h (by omega)
  refine lv_aload_n hx hb dX10_shown_0 rfl (lv_at hl 0 rfl) ?_
  refine gf_X10_20 hE hP (0) (gM_0 E a I tr) (v := .ref (a 4)) rfl dX10_shown_1 ?_
  refine lv_iload_n hx hb dX10_shown_4 rfl (lv_at hl 1 rfl) ?_
  refine ald_i hE hP (4) (gM_4 E a I tr) (by omega) (by decide) (r := nI (I (4) (h))) rfl dX10_shown_5 ?_
  refine lv_aload_n hx hb dX10_shown_6 rfl (lv_at hl 0 rfl) ?_
  refine lv_iload_n hx hb dX10_shown_7 rfl (lv_at hl 1 rfl) ?_
  refine lv_iload_n hx hb dX10_shown_8 rfl (lv_at hl 2 rfl) ?_
  refine call_V (As := [.int (nI (h)), .int (nI (t))]) (rest := [.int (nI (I (4) (h)))]) hE (ct_X10_lived l E a I tr (h) (t) hI (by omega) (by omega)) cm_X10_lived (uw mt_L_X10_129 rfl) (gM_0 E a I tr) rfl rfl hP hD hS hl.1 rfl rfl (Nat.le_of_ble_eq_true rfl) ⟨by decide, by decide⟩ dX10_shown_9 (fun H locs hP hD hS => ?_)
  refine W.eq (g2 := F0 m 12 ls [.int (nI ((t) * I 5 (h) / I 6 (h))), .int (nI (I (4) (h)))]) rfl ?_
  have hl1q : (t) * I 5 (h) ≤ 95 * 9 := Nat.mul_le_mul (show (t) ≤ 95 by omega) (hI.2.2.2.1 (h) (by omega)).2.1
  have hl1 : (t) * I 5 (h) / I 6 (h) ≤ 855 := Nat.le_trans (Nat.div_le_self _ _) hl1q
  refine lv_iadd hx hb dX10_shown_12 ?_
  refine tp (nI_add _ _) ?_
  refine lv_aload_n hx hb dX10_shown_13 rfl (lv_at hl 0 rfl) ?_
  refine gf_X10_38 hE hP (0) (gM_0 E a I tr) (v := .ref (a 10)) rfl dX10_shown_14 ?_
  refine lv_iconst (v := nI (1)) hx hb dX10_shown_17 (by decide) ?_
  refine lv_iload_n hx hb dX10_shown_18 rfl (lv_at hl 1 rfl) ?_
  refine lv_iadd hx hb dX10_shown_19 ?_
  refine tp (nI_add _ _) ?_
  refine ald_i hE hP (10) (gM_10 E a I tr) (by omega) (by decide) (r := nI (I (16) (1 + h))) rfl dX10_shown_20 ?_
  refine lv_iadd hx hb dX10_shown_21 ?_
  refine tp (nI_add _ _) ?_
  refine lv_istore_n (lv' := [(3, .int (nI (I (4) (h) + (t) * I 5 (h) / I 6 (h) + (I (16) (1 + h))))), (0, .ref (a 0)), (1, .int (nI (h))), (2, .int (nI (t)))]) hx hb dX10_shown_22 rfl hl (by decide) rfl (fun ls hl => ?_)
  refine lv_iconst (v := nI (2)) hx hb dX10_shown_23 (by decide) ?_
  refine lv_iload_n hx hb dX10_shown_24 rfl (lv_at hl 2 rfl) ?_
  refine lv_imul hx hb dX10_shown_25 ?_
  refine tp (pk_mul _ _) ?_
  refine lv_istore (lv' := [(4, .int (nI ((2) * (h)))), (3, .int (nI (I (4) (h) + (t) * I 5 (h) / I 6 (h) + (I (16) (1 + h))))), (0, .ref (a 0)), (1, .int (nI (h))), (2, .int (nI (t)))]) hx hb dX10_shown_26 hl (by decide) rfl (fun ls hl => ?_)
  have loop28 : ∀ (fu28 : Nat) (v : Nat) (i : Nat), I 7 h - i < fu28 → (i ≤ I 7 h) → (v = I 4 h + t * I 5 h / I 6 h + I 16 (1 + h) + lsM I h t i) → ∀ (ls : Array Slot) (H : Heap) (locs : List Loc), lv_has ls 5 [(0, .ref (a 0)), (1, .int (nI (h))), (2, .int (nI (t))), (3, .int (nI (v))), (4, .int (nI (2 * h + i)))] → va_P E.1 vwCl (WM E a I tr) H → va_D A (WM E a I tr) → va_S A s.heap H locs → W p l e (rmL 1) s m args below meth c H locs 0 0 (RQ E below args s A (some (.int (nI (shM I h t)))) (WM E a I tr)) (F0 m 28 ls []) := by
    intro fu28
    induction fu28 with
    | zero => intro v i h; exact absurd h (Nat.not_lt_zero _)
    | succ fu28 ih28 =>
      intro v i hfu28 hi hv ls H locs hl hP hD hS
      have hls := lsM_le (t := t) hq.2.2.2.2.2 i (by omega)
      have hlq : t * I 5 h ≤ 95 * 9 := Nat.mul_le_mul (show t ≤ 95 by omega) hq.2.1
      have hlv : t * I 5 h / I 6 h ≤ 855 := Nat.le_trans (Nat.div_le_self _ _) hlq
      refine lv_iload hx hb dX10_shown_28 (lv_at hl 4 rfl) ?_
      refine lv_iconst (v := nI (2)) hx hb dX10_shown_30 (by decide) ?_
      refine lv_iload_n hx hb dX10_shown_31 rfl (lv_at hl 1 rfl) ?_
      refine lv_imul hx hb dX10_shown_32 ?_
      refine tp (pk_mul _ _) ?_
      refine lv_aload_n hx hb dX10_shown_33 rfl (lv_at hl 0 rfl) ?_
      refine gf_X10_29 hE hP (0) (gM_0 E a I tr) (v := .ref (a 7)) rfl dX10_shown_34 ?_
      refine lv_iload_n hx hb dX10_shown_37 rfl (lv_at hl 1 rfl) ?_
      refine ald_i hE hP (7) (gM_7 E a I tr) (by omega) (by decide) (r := nI (I (7) (h))) rfl dX10_shown_38 ?_
      refine lv_iadd hx hb dX10_shown_39 ?_
      refine tp (nI_add _ _) ?_
      refine bN_ge (tgt := 74) hx hb (by omega) (by omega) dX10_shown_40 (by decide) (fun c40 => ?_) (fun c40 => ?_)
      · refine lv_iload_n hx hb dX10_shown_74 rfl (lv_at hl 3 rfl) ?_
        refine lv_bipush (v := nI (48)) hx hb dX10_shown_75 (by decide) ?_
        refine lv_irem hx hb dX10_shown_77 (nI_ne0 (by omega) (by omega)) ?_
        refine tp (pk_rem (by omega) (by omega) (by omega)) ?_
        exact ret_i hE (r := nI ((v) % (48))) (by rw [hv, shM, show I 7 h = i by omega]) hP hD hS dX10_shown_78
      · have hb2 := hq.2.2.2.2.2 i (by omega)
        refine lv_iload_n hx hb dX10_shown_43 rfl (lv_at hl 3 rfl) ?_
        refine lv_aload_n hx hb dX10_shown_44 rfl (lv_at hl 0 rfl) ?_
        refine gf_X10_32 hE hP (0) (gM_0 E a I tr) (v := .ref (a 8)) rfl dX10_shown_45 ?_
        refine lv_iload hx hb dX10_shown_48 (lv_at hl 4 rfl) ?_
        refine ald_i hE hP (8) (gM_8 E a I tr) (by omega) (by decide) (r := nI (I (8) (2 * h + i))) rfl dX10_shown_50 ?_
        refine lv_iload_n hx hb dX10_shown_51 rfl (lv_at hl 2 rfl) ?_
        refine bN_gt (tgt := 65) hx hb (by omega) (by omega) dX10_shown_52 (by decide) (fun c52 => ?_) (fun c52 => ?_)
        · refine lv_iconst (v := nI (0)) hx hb dX10_shown_65 (by decide) ?_
          refine lv_iadd hx hb dX10_shown_66 ?_
          refine tp (y := nI (v)) (nI_add _ _) ?_
          refine lv_istore_n (lv' := [(3, .int (nI (v))), (0, .ref (a 0)), (1, .int (nI (h))), (2, .int (nI (t))), (4, .int (nI (2 * h + i)))]) hx hb dX10_shown_67 rfl hl (by decide) rfl (fun ls hl => ?_)
          refine lv_iinc (v := nI (2 * h + i + 1)) (lv' := [(4, .int (nI (2 * h + i + 1))), (3, .int (nI (v))), (0, .ref (a 0)), (1, .int (nI (h))), (2, .int (nI (t)))]) hx hb dX10_shown_68 hl (k := 4) rfl (ii1_N _) (by decide) rfl (fun ls hl => ?_)
          refine lv_goto (tgt := 28) hx hb dX10_shown_71 (by decide) ?_
          exact ih28 (v) (i + 1) (by omega) (by omega) (by rw [lsM]; first | (rw [if_pos c52]; omega) | (rw [if_neg (by omega)]; omega)) ls _ _ (lv_sub hl [2, 3, 4, 1, 0] rfl) hP hD hS
        · refine lv_aload_n hx hb dX10_shown_55 rfl (lv_at hl 0 rfl) ?_
          refine gf_X10_35 hE hP (0) (gM_0 E a I tr) (v := .ref (a 9)) rfl dX10_shown_56 ?_
          refine lv_iload hx hb dX10_shown_59 (lv_at hl 4 rfl) ?_
          refine ald_i hE hP (9) (gM_9 E a I tr) (by omega) (by decide) (r := nI (I (9) (2 * h + i))) rfl dX10_shown_61 ?_
          refine lv_goto (tgt := 66) hx hb dX10_shown_62 (by decide) ?_
          refine lv_iadd hx hb dX10_shown_66 ?_
          refine tp (nI_add _ _) ?_
          refine lv_istore_n (lv' := [(3, .int (nI (v + (I (9) (2 * h + i))))), (0, .ref (a 0)), (1, .int (nI (h))), (2, .int (nI (t))), (4, .int (nI (2 * h + i)))]) hx hb dX10_shown_67 rfl hl (by decide) rfl (fun ls hl => ?_)
          refine lv_iinc (v := nI (2 * h + i + 1)) (lv' := [(4, .int (nI (2 * h + i + 1))), (3, .int (nI (v + (I (9) (2 * h + i))))), (0, .ref (a 0)), (1, .int (nI (h))), (2, .int (nI (t)))]) hx hb dX10_shown_68 hl (k := 4) rfl (ii1_N _) (by decide) rfl (fun ls hl => ?_)
          refine lv_goto (tgt := 28) hx hb dX10_shown_71 (by decide) ?_
          exact ih28 (v + (I (9) (2 * h + i))) (i + 1) (by omega) (by omega) (by rw [lsM]; first | (rw [if_pos c52]; omega) | (rw [if_neg (by omega)]; omega)) ls _ _ (lv_sub hl [2, 3, 4, 1, 0] rfl) hP hD hS
  exact loop28 (_ + 1) (I (4) (h) + (t) * I 5 (h) / I 6 (h) + (I (16) (1 + h))) (0) (Nat.lt_succ_self _) (by omega) rfl ls _ _ (lv_sub hl [2, 3, 4, 1, 0] rfl) hP hD hS

set_option maxHeartbeats 4000000 in
set_option maxRecDepth 100000 in
theorem ct_X10_firstOf (l : Launch) (E : cE) (a : Nat → Nat) (I : Nat → Nat → Nat) (tr : Int64) (h n f0 : Nat) (hI : KM I) (hh : h < I 2 0) (hn : n < 48) (hf : f0 ≤ 96) : Ct l E 2 yX10_firstOf cX10_firstOf 5 (some .int) [.ref (a 0), .int (nI (h)), .int (nI (n)), .int (nI (f0))] (WM E a I tr) (some (.int (rN (fst (shM I h) n f0)))) (WM E a I tr) := by
  refine Ct_of (plainFor_of_name (by decide)) (Nat.le_of_ble_eq_true rfl) ?_
  intro p e s m args below meth c A ls hE hP hD hS hl
  have hE : cEnv p s m args meth c E RX10 cX10_firstOf 5 (some .int) A := hE
  have hx := hE.1
  have hb := hE.2.1
  have hl : lv_has ls 5 [(0, .ref (a 0)), (1, .int (nI (h))), (2, .int (nI (n))), (3, .int (nI (f0)))] := hl
  have hP : va_P E.1 vwCl (WM E a I tr) s.heap := hP
  generalize hH : s.heap = H at hP hS ⊢
  have hS : va_S A s.heap H [] := by rw [hH]; exact hS
  clear hH
  refine lv_iload_n hx hb dX10_firstOf_0 rfl (lv_at hl 3 rfl) ?_
  refine lv_istore (lv' := [(4, .int (nI (f0))), (0, .ref (a 0)), (1, .int (nI (h))), (2, .int (nI (n))), (3, .int (nI (f0)))]) hx hb dX10_firstOf_1 hl (by decide) rfl (fun ls hl => ?_)
  have loop3 : ∀ (fu3 : Nat) (t : Nat), 96 - t < fu3 → (t ≤ 96) → (fst (shM I h) n f0 = fst (shM I h) n t) → ∀ (ls : Array Slot) (H : Heap) (locs : List Loc), lv_has ls 5 [(0, .ref (a 0)), (1, .int (nI (h))), (2, .int (nI (n))), (4, .int (nI (t)))] → va_P E.1 vwCl (WM E a I tr) H → va_D A (WM E a I tr) → va_S A s.heap H locs → W p l e (rmL 2) s m args below meth c H locs 0 0 (RQ E below args s A (some (.int (rN (fst (shM I h) n f0)))) (WM E a I tr)) (F0 m 3 ls []) := by
    intro fu3
    induction fu3 with
    | zero => intro t h; exact absurd h (Nat.not_lt_zero _)
    | succ fu3 ih3 =>
      intro t hfu3 ht hq ls H locs hl hP hD hS
      refine lv_iload hx hb dX10_firstOf_3 (lv_at hl 3 rfl) ?_
      refine lv_bipush (v := nI (95)) hx hb dX10_firstOf_5 (by decide) ?_
      refine bN_gt (tgt := 30) hx hb (by omega) (by omega) dX10_firstOf_7 (by decide) (fun c7 => ?_) (fun c7 => ?_)
      · refine lv_bipush (v := (-9)) hx hb dX10_firstOf_30 (by decide) ?_
        exact ret_i hE (r := (-9)) (by rw [hq, show fst (shM I h) n t = 0 from sr_end (by omega), rN_0]) hP hD hS dX10_firstOf_32
      · refine lv_aload_n hx hb dX10_firstOf_10 rfl (lv_at hl 0 rfl) ?_
        refine lv_iload_n hx hb dX10_firstOf_11 rfl (lv_at hl 1 rfl) ?_
        refine lv_iload hx hb dX10_firstOf_12 (lv_at hl 3 rfl) ?_
        refine call_V (As := [.int (nI (h)), .int (nI (t))]) (rest := []) hE (ct_X10_shown l E a I tr (h) (t) hI (by omega) (by omega)) cm_X10_shown (uw mt_L_X10_135 rfl) (gM_0 E a I tr) rfl rfl hP hD hS hl.1 rfl rfl (Nat.le_of_ble_eq_true rfl) ⟨by decide, by decide⟩ dX10_firstOf_14 (fun H locs hP hD hS => ?_)
        refine W.eq (g2 := F0 m 17 ls [.int (nI (shM I (h) (t)))]) rfl ?_
        have hs1 := shM_lt I (h) (t)
        refine lv_iload_n hx hb dX10_firstOf_17 rfl (lv_at hl 2 rfl) ?_
        refine bN_ne (tgt := 24) hx hb (by omega) (by omega) dX10_firstOf_18 (by decide) (fun c18 => ?_) (fun c18 => ?_)
        · refine lv_iinc (v := nI (t + 1)) (lv' := [(4, .int (nI (t + 1))), (0, .ref (a 0)), (1, .int (nI (h))), (2, .int (nI (n)))]) hx hb dX10_firstOf_24 hl (k := 3) rfl (ii1_N _) (by decide) rfl (fun ls hl => ?_)
          refine lv_goto (tgt := 3) hx hb dX10_firstOf_27 (by decide) ?_
          exact ih3 (t + 1) (by omega) (by omega) (hq.trans (sr_miss (by omega) (df c18))) ls _ _ (lv_sub hl [1, 2, 3, 0] rfl) hP hD hS
        · refine lv_iload hx hb dX10_firstOf_21 (lv_at hl 3 rfl) ?_
          exact ret_i hE (r := nI (t)) (by rw [hq, show fst (shM I h) n t = t + 9 from sr_hit (by omega) (dt c18), rN_9]) hP hD hS dX10_firstOf_23
  exact loop3 (_ + 1) (f0) (Nat.lt_succ_self _) (by omega) rfl ls _ _ (lv_sub hl [1, 2, 3, 0] rfl) hP hD hS

set_option maxHeartbeats 4000000 in
set_option maxRecDepth 100000 in
theorem ct_X10_manyOf (l : Launch) (E : cE) (a : Nat → Nat) (I : Nat → Nat → Nat) (tr : Int64) (h n : Nat) (hI : KM I) (hh : h < I 2 0) (hn : n < 48) : Ct l E 2 yX10_manyOf cX10_manyOf 5 (some .int) [.ref (a 0), .int (nI (h)), .int (nI (n))] (WM E a I tr) (some (.int (nI (cnt (fun u => decide (shM I h u = n)) 96)))) (WM E a I tr) := by
  refine Ct_of (plainFor_of_name (by decide)) (Nat.le_of_ble_eq_true rfl) ?_
  intro p e s m args below meth c A ls hE hP hD hS hl
  have hE : cEnv p s m args meth c E RX10 cX10_manyOf 5 (some .int) A := hE
  have hx := hE.1
  have hb := hE.2.1
  have hl : lv_has ls 5 [(0, .ref (a 0)), (1, .int (nI (h))), (2, .int (nI (n)))] := hl
  have hP : va_P E.1 vwCl (WM E a I tr) s.heap := hP
  generalize hH : s.heap = H at hP hS ⊢
  have hS : va_S A s.heap H [] := by rw [hH]; exact hS
  clear hH
  refine lv_iconst (v := nI (0)) hx hb dX10_manyOf_0 (by decide) ?_
  refine lv_istore_n (lv' := [(3, .int (nI (0))), (0, .ref (a 0)), (1, .int (nI (h))), (2, .int (nI (n)))]) hx hb dX10_manyOf_1 rfl hl (by decide) rfl (fun ls hl => ?_)
  refine lv_iconst (v := nI (0)) hx hb dX10_manyOf_2 (by decide) ?_
  refine lv_istore (lv' := [(4, .int (nI (0))), (3, .int (nI (0))), (0, .ref (a 0)), (1, .int (nI (h))), (2, .int (nI (n)))]) hx hb dX10_manyOf_3 hl (by decide) rfl (fun ls hl => ?_)
  have loop5 : ∀ (fu5 : Nat) (k : Nat) (t : Nat), 96 - t < fu5 → (t ≤ 96) → (k = cnt (fun u => decide (shM I h u = n)) t) → ∀ (ls : Array Slot) (H : Heap) (locs : List Loc), lv_has ls 5 [(0, .ref (a 0)), (1, .int (nI (h))), (2, .int (nI (n))), (3, .int (nI (k))), (4, .int (nI (t)))] → va_P E.1 vwCl (WM E a I tr) H → va_D A (WM E a I tr) → va_S A s.heap H locs → W p l e (rmL 2) s m args below meth c H locs 0 0 (RQ E below args s A (some (.int (nI (cnt (fun u => decide (shM I h u = n)) 96)))) (WM E a I tr)) (F0 m 5 ls []) := by
    intro fu5
    induction fu5 with
    | zero => intro k t h; exact absurd h (Nat.not_lt_zero _)
    | succ fu5 ih5 =>
      intro k t hfu5 ht hk ls H locs hl hP hD hS
      have hm := cnt_le (fun u => decide (shM I h u = n)) t
      refine lv_iload hx hb dX10_manyOf_5 (lv_at hl 4 rfl) ?_
      refine lv_bipush (v := nI (95)) hx hb dX10_manyOf_7 (by decide) ?_
      refine bN_gt (tgt := 37) hx hb (by omega) (by omega) dX10_manyOf_9 (by decide) (fun c9 => ?_) (fun c9 => ?_)
      · refine lv_iload_n hx hb dX10_manyOf_37 rfl (lv_at hl 3 rfl) ?_
        exact ret_i hE (r := nI (k)) (by rw [hk, show (96 : Nat) = t by omega]) hP hD hS dX10_manyOf_38
      · refine lv_iload_n hx hb dX10_manyOf_12 rfl (lv_at hl 3 rfl) ?_
        refine lv_aload_n hx hb dX10_manyOf_13 rfl (lv_at hl 0 rfl) ?_
        refine lv_iload_n hx hb dX10_manyOf_14 rfl (lv_at hl 1 rfl) ?_
        refine lv_iload hx hb dX10_manyOf_15 (lv_at hl 4 rfl) ?_
        refine call_V (As := [.int (nI (h)), .int (nI (t))]) (rest := [.int (nI (k))]) hE (ct_X10_shown l E a I tr (h) (t) hI (by omega) (by omega)) cm_X10_shown (uw mt_L_X10_135 rfl) (gM_0 E a I tr) rfl rfl hP hD hS hl.1 rfl rfl (Nat.le_of_ble_eq_true rfl) ⟨by decide, by decide⟩ dX10_manyOf_17 (fun H locs hP hD hS => ?_)
        refine W.eq (g2 := F0 m 20 ls [.int (nI (shM I (h) (t))), .int (nI (k))]) rfl ?_
        have hs1 := shM_lt I (h) (t)
        refine lv_iload_n hx hb dX10_manyOf_20 rfl (lv_at hl 2 rfl) ?_
        refine bN_ne (tgt := 28) hx hb (by omega) (by omega) dX10_manyOf_21 (by decide) (fun c21 => ?_) (fun c21 => ?_)
        · refine lv_iconst (v := nI (0)) hx hb dX10_manyOf_28 (by decide) ?_
          refine lv_iadd hx hb dX10_manyOf_29 ?_
          refine tp (y := nI (k)) (nI_add _ _) ?_
          refine lv_istore_n (lv' := [(3, .int (nI (k))), (0, .ref (a 0)), (1, .int (nI (h))), (2, .int (nI (n))), (4, .int (nI (t)))]) hx hb dX10_manyOf_30 rfl hl (by decide) rfl (fun ls hl => ?_)
          refine lv_iinc (v := nI (t + 1)) (lv' := [(4, .int (nI (t + 1))), (3, .int (nI (k))), (0, .ref (a 0)), (1, .int (nI (h))), (2, .int (nI (n)))]) hx hb dX10_manyOf_31 hl (k := 4) rfl (ii1_N _) (by decide) rfl (fun ls hl => ?_)
          refine lv_goto (tgt := 5) hx hb dX10_manyOf_34 (by decide) ?_
          exact ih5 (k) (t + 1) (by omega) (by omega) (by first | rw [cnt_f (df c21), hk] | rw [cnt_t (dt c21), hk]) ls _ _ (lv_sub hl [2, 3, 4, 1, 0] rfl) hP hD hS
        · refine lv_iconst (v := nI (1)) hx hb dX10_manyOf_24 (by decide) ?_
          refine lv_goto (tgt := 29) hx hb dX10_manyOf_25 (by decide) ?_
          refine lv_iadd hx hb dX10_manyOf_29 ?_
          refine tp (nI_add _ _) ?_
          refine lv_istore_n (lv' := [(3, .int (nI (k + 1))), (0, .ref (a 0)), (1, .int (nI (h))), (2, .int (nI (n))), (4, .int (nI (t)))]) hx hb dX10_manyOf_30 rfl hl (by decide) rfl (fun ls hl => ?_)
          refine lv_iinc (v := nI (t + 1)) (lv' := [(4, .int (nI (t + 1))), (3, .int (nI (k + 1))), (0, .ref (a 0)), (1, .int (nI (h))), (2, .int (nI (n)))]) hx hb dX10_manyOf_31 hl (k := 4) rfl (ii1_N _) (by decide) rfl (fun ls hl => ?_)
          refine lv_goto (tgt := 5) hx hb dX10_manyOf_34 (by decide) ?_
          exact ih5 (k + 1) (t + 1) (by omega) (by omega) (by first | rw [cnt_f (df c21), hk] | rw [cnt_t (dt c21), hk]) ls _ _ (lv_sub hl [2, 3, 4, 1, 0] rfl) hP hD hS
  exact loop5 (_ + 1) (0) (0) (Nat.lt_succ_self _) (by omega) rfl ls _ _ (lv_sub hl [2, 3, 4, 1, 0] rfl) hP hD hS

set_option maxHeartbeats 4000000 in
set_option maxRecDepth 100000 in
theorem ct_X10_shows (l : Launch) (E : cE) (a : Nat → Nat) (I : Nat → Nat → Nat) (tr : Int64) (zp0 zp1 : Int32) (hI : KM I) : Ct l E 2 yX10_shows cX10_shows 3 (some .int) [.ref (a 0), .int (zp0), .int (zp1)] (WM E a I tr) (some (.int (r_shows (I 2 0) (shM I) zp0 zp1))) (WM E a I tr) := by
  refine Ct_of (plainFor_of_name (by decide)) (Nat.le_of_ble_eq_true rfl) ?_
  intro p e s m args below meth c A ls hE hP hD hS hl
  have hE : cEnv p s m args meth c E RX10 cX10_shows 3 (some .int) A := hE
  have hx := hE.1
  have hb := hE.2.1
  have hl : lv_has ls 3 [(0, .ref (a 0)), (1, .int (zp0)), (2, .int (zp1))] := hl
  have hP : va_P E.1 vwCl (WM E a I tr) s.heap := hP
  generalize hH : s.heap = H at hP hS ⊢
  have hS : va_S A s.heap H [] := by rw [hH]; exact hS
  clear hH
  have hc6 := hI.1
  refine lv_aload_n hx hb dX10_shows_0 rfl (lv_at hl 0 rfl) ?_
  refine lv_iload_n hx hb dX10_shows_1 rfl (lv_at hl 1 rfl) ?_
  refine call_V (As := [.int (zp0)]) (rest := []) hE (ct_X10_isHouse l E a I tr ((zp0)) hI.1) cm_X10_isHouse (uw mt_L_X10_125 rfl) (gM_0 E a I tr) rfl rfl hP hD hS hl.1 rfl rfl (Nat.le_of_ble_eq_true rfl) ⟨by decide, by decide⟩ dX10_shows_2 (fun H locs hP hD hS => ?_)
  refine W.eq (g2 := F0 m 5 ls [.int (bB (inB ((zp0)) (I 2 0)))]) rfl ?_
  refine bB_eq (tgt := 24) hx hb dX10_shows_5 (by decide) (fun c5 => ?_) (fun c5 => ?_)
  · refine lv_iconst (v := (-1)) hx hb dX10_shows_24 (by decide) ?_
    exact ret_i hE (r := (-1)) (by first | (simp only [r_shows, c5, c12, kh, kt, cond_true]; done) | (simp only [r_shows, c5, c12, cond_true, cond_false]; done) | (simp only [r_shows, c5, cond_false]; done)) hP hD hS dX10_shows_25
  · obtain ⟨h, qh, rfl⟩ := inB_t (by omega) c5
    have kh : tn (nI h) = h := tn_nI (by omega)
    refine lv_iload_n hx hb dX10_shows_8 rfl (lv_at hl 2 rfl) ?_
    refine call_S (As := [.int (zp1)]) (rest := []) hE (ct_X10_isQuarter l E (WM E a I tr) ((zp1))) cm_X10_isQuarter (uw mt_L_X10_132 rfl) hP hD hS hl.1 rfl rfl (Nat.le_of_ble_eq_true rfl) ⟨by decide, by decide⟩ dX10_shows_9 (fun H locs hP hD hS => ?_)
    refine W.eq (g2 := F0 m 12 ls [.int (bB (inB ((zp1)) 96))]) rfl ?_
    refine bB_eq (tgt := 24) hx hb dX10_shows_12 (by decide) (fun c12 => ?_) (fun c12 => ?_)
    · refine lv_iconst (v := (-1)) hx hb dX10_shows_24 (by decide) ?_
      exact ret_i hE (r := (-1)) (by first | (simp only [r_shows, c5, c12, kh, kt, cond_true]; done) | (simp only [r_shows, c5, c12, cond_true, cond_false]; done) | (simp only [r_shows, c5, cond_false]; done)) hP hD hS dX10_shows_25
    · obtain ⟨t, qt, rfl⟩ := inB_t (by omega) c12
      have kt : tn (nI t) = t := tn_nI (by omega)
      refine lv_aload_n hx hb dX10_shows_15 rfl (lv_at hl 0 rfl) ?_
      refine lv_iload_n hx hb dX10_shows_16 rfl (lv_at hl 1 rfl) ?_
      refine lv_iload_n hx hb dX10_shows_17 rfl (lv_at hl 2 rfl) ?_
      refine call_V (As := [.int (nI (h)), .int (nI (t))]) (rest := []) hE (ct_X10_shown l E a I tr (h) (t) hI (by omega) (by omega)) cm_X10_shown (uw mt_L_X10_135 rfl) (gM_0 E a I tr) rfl rfl hP hD hS hl.1 rfl rfl (Nat.le_of_ble_eq_true rfl) ⟨by decide, by decide⟩ dX10_shows_18 (fun H locs hP hD hS => ?_)
      refine W.eq (g2 := F0 m 21 ls [.int (nI (shM I (h) (t)))]) rfl ?_
      have hs1 := shM_lt I (h) (t)
      refine lv_goto (tgt := 25) hx hb dX10_shows_21 (by decide) ?_
      exact ret_i hE (r := nI (shM I (h) (t))) (by first | (simp only [r_shows, c5, c12, kh, kt, cond_true]; done) | (simp only [r_shows, c5, c12, cond_true, cond_false]; done) | (simp only [r_shows, c5, cond_false]; done)) hP hD hS dX10_shows_25

set_option maxHeartbeats 4000000 in
set_option maxRecDepth 100000 in
theorem ct_X10_first (l : Launch) (E : cE) (a : Nat → Nat) (I : Nat → Nat → Nat) (tr : Int64) (zp0 zp1 zp2 : Int32) (hI : KM I) : Ct l E 3 yX10_first cX10_first 4 (some .int) [.ref (a 0), .int (zp0), .int (zp1), .int (zp2)] (WM E a I tr) (some (.int (r_first (I 2 0) (shM I) zp0 zp1 zp2))) (WM E a I tr) := by
  refine Ct_of (plainFor_of_name (by decide)) (Nat.le_of_ble_eq_true rfl) ?_
  intro p e s m args below meth c A ls hE hP hD hS hl
  have hE : cEnv p s m args meth c E RX10 cX10_first 4 (some .int) A := hE
  have hx := hE.1
  have hb := hE.2.1
  have hl : lv_has ls 4 [(0, .ref (a 0)), (1, .int (zp0)), (2, .int (zp1)), (3, .int (zp2))] := hl
  have hP : va_P E.1 vwCl (WM E a I tr) s.heap := hP
  generalize hH : s.heap = H at hP hS ⊢
  have hS : va_S A s.heap H [] := by rw [hH]; exact hS
  clear hH
  have hc6 := hI.1
  refine lv_aload_n hx hb dX10_first_0 rfl (lv_at hl 0 rfl) ?_
  refine lv_iload_n hx hb dX10_first_1 rfl (lv_at hl 1 rfl) ?_
  refine call_V (As := [.int (zp0)]) (rest := []) hE (ct_X10_isHouse l E a I tr ((zp0)) hI.1) cm_X10_isHouse (uw mt_L_X10_125 rfl) (gM_0 E a I tr) rfl rfl hP hD hS hl.1 rfl rfl (Nat.le_of_ble_eq_true rfl) ⟨by decide, by decide⟩ dX10_first_2 (fun H locs hP hD hS => ?_)
  refine W.eq (g2 := F0 m 5 ls [.int (bB (inB ((zp0)) (I 2 0)))]) rfl ?_
  refine bB_eq (tgt := 32) hx hb dX10_first_5 (by decide) (fun c5 => ?_) (fun c5 => ?_)
  · refine lv_iconst (v := (-1)) hx hb dX10_first_32 (by decide) ?_
    exact ret_i hE (r := (-1)) (by first | (simp only [r_first, c5, c12, c19, kh, kn, kt, cond_true]; done) | (simp only [r_first, c5, c12, c19, cond_true, cond_false]; done) | (simp only [r_first, c5, c12, cond_true, cond_false]; done) | (simp only [r_first, c5, cond_false]; done)) hP hD hS dX10_first_33
  · obtain ⟨h, qh, rfl⟩ := inB_t (by omega) c5
    have kh : tn (nI h) = h := tn_nI (by omega)
    refine lv_iload_n hx hb dX10_first_8 rfl (lv_at hl 2 rfl) ?_
    refine call_S (As := [.int (zp1)]) (rest := []) hE (ct_X10_isNumber l E (WM E a I tr) ((zp1))) cm_X10_isNumber (uw mt_L_X10_138 rfl) hP hD hS hl.1 rfl rfl (Nat.le_of_ble_eq_true rfl) ⟨by decide, by decide⟩ dX10_first_9 (fun H locs hP hD hS => ?_)
    refine W.eq (g2 := F0 m 12 ls [.int (bB (inB ((zp1)) 48))]) rfl ?_
    refine bB_eq (tgt := 32) hx hb dX10_first_12 (by decide) (fun c12 => ?_) (fun c12 => ?_)
    · refine lv_iconst (v := (-1)) hx hb dX10_first_32 (by decide) ?_
      exact ret_i hE (r := (-1)) (by first | (simp only [r_first, c5, c12, c19, kh, kn, kt, cond_true]; done) | (simp only [r_first, c5, c12, c19, cond_true, cond_false]; done) | (simp only [r_first, c5, c12, cond_true, cond_false]; done) | (simp only [r_first, c5, cond_false]; done)) hP hD hS dX10_first_33
    · obtain ⟨n, qn, rfl⟩ := inB_t (by omega) c12
      have kn : tn (nI n) = n := tn_nI (by omega)
      refine lv_iload_n hx hb dX10_first_15 rfl (lv_at hl 3 rfl) ?_
      refine call_S (As := [.int (zp2)]) (rest := []) hE (ct_X10_isQuarter l E (WM E a I tr) ((zp2))) cm_X10_isQuarter (uw mt_L_X10_132 rfl) hP hD hS hl.1 rfl rfl (Nat.le_of_ble_eq_true rfl) ⟨by decide, by decide⟩ dX10_first_16 (fun H locs hP hD hS => ?_)
      refine W.eq (g2 := F0 m 19 ls [.int (bB (inB ((zp2)) 96))]) rfl ?_
      refine bB_eq (tgt := 32) hx hb dX10_first_19 (by decide) (fun c19 => ?_) (fun c19 => ?_)
      · refine lv_iconst (v := (-1)) hx hb dX10_first_32 (by decide) ?_
        exact ret_i hE (r := (-1)) (by first | (simp only [r_first, c5, c12, c19, kh, kn, kt, cond_true]; done) | (simp only [r_first, c5, c12, c19, cond_true, cond_false]; done) | (simp only [r_first, c5, c12, cond_true, cond_false]; done) | (simp only [r_first, c5, cond_false]; done)) hP hD hS dX10_first_33
      · obtain ⟨t, qt, rfl⟩ := inB_t (by omega) c19
        have kt : tn (nI t) = t := tn_nI (by omega)
        refine lv_aload_n hx hb dX10_first_22 rfl (lv_at hl 0 rfl) ?_
        refine lv_iload_n hx hb dX10_first_23 rfl (lv_at hl 1 rfl) ?_
        refine lv_iload_n hx hb dX10_first_24 rfl (lv_at hl 2 rfl) ?_
        refine lv_iload_n hx hb dX10_first_25 rfl (lv_at hl 3 rfl) ?_
        refine call_V (As := [.int (nI (h)), .int (nI (n)), .int (nI (t))]) (rest := []) hE (ct_X10_firstOf l E a I tr (h) (n) (t) hI (by omega) (by omega) (by omega)) cm_X10_firstOf (uw mt_L_X10_141 rfl) (gM_0 E a I tr) rfl rfl hP hD hS hl.1 rfl rfl (Nat.le_of_ble_eq_true rfl) ⟨by decide, by decide⟩ dX10_first_26 (fun H locs hP hD hS => ?_)
        refine W.eq (g2 := F0 m 29 ls [.int (rN (fst (shM I (h)) (n) (t)))]) rfl ?_
        have hf1 := fst_le (shM I (h)) (n) (t)
        refine lv_goto (tgt := 33) hx hb dX10_first_29 (by decide) ?_
        exact ret_i hE (r := rN (fst (shM I (h)) (n) (t))) (by first | (simp only [r_first, c5, c12, c19, kh, kn, kt, cond_true]; done) | (simp only [r_first, c5, c12, c19, cond_true, cond_false]; done) | (simp only [r_first, c5, c12, cond_true, cond_false]; done) | (simp only [r_first, c5, cond_false]; done)) hP hD hS dX10_first_33

set_option maxHeartbeats 4000000 in
set_option maxRecDepth 100000 in
theorem ct_X10_many (l : Launch) (E : cE) (a : Nat → Nat) (I : Nat → Nat → Nat) (tr : Int64) (zp0 zp1 : Int32) (hI : KM I) : Ct l E 3 yX10_many cX10_many 5 (some .int) [.ref (a 0), .int (zp0), .int (zp1)] (WM E a I tr) (some (.int (r_many (I 2 0) (shM I) zp0 zp1))) (WM E a I tr) := by
  refine Ct_of (plainFor_of_name (by decide)) (Nat.le_of_ble_eq_true rfl) ?_
  intro p e s m args below meth c A ls hE hP hD hS hl
  have hE : cEnv p s m args meth c E RX10 cX10_many 5 (some .int) A := hE
  have hx := hE.1
  have hb := hE.2.1
  have hl : lv_has ls 5 [(0, .ref (a 0)), (1, .int (zp0)), (2, .int (zp1))] := hl
  have hP : va_P E.1 vwCl (WM E a I tr) s.heap := hP
  generalize hH : s.heap = H at hP hS ⊢
  have hS : va_S A s.heap H [] := by rw [hH]; exact hS
  clear hH
  have hc6 := hI.1
  refine lv_aload_n hx hb dX10_many_0 rfl (lv_at hl 0 rfl) ?_
  refine lv_iload_n hx hb dX10_many_1 rfl (lv_at hl 1 rfl) ?_
  refine call_V (As := [.int (zp0)]) (rest := []) hE (ct_X10_isHouse l E a I tr ((zp0)) hI.1) cm_X10_isHouse (uw mt_L_X10_125 rfl) (gM_0 E a I tr) rfl rfl hP hD hS hl.1 rfl rfl (Nat.le_of_ble_eq_true rfl) ⟨by decide, by decide⟩ dX10_many_2 (fun H locs hP hD hS => ?_)
  refine W.eq (g2 := F0 m 5 ls [.int (bB (inB ((zp0)) (I 2 0)))]) rfl ?_
  refine bB_eq (tgt := 18) hx hb dX10_many_5 (by decide) (fun c5 => ?_) (fun c5 => ?_)
  · refine lv_iconst (v := (-1)) hx hb dX10_many_18 (by decide) ?_
    exact ret_i hE (r := (-1)) (by first | (simp only [r_many, c5, cond_false]; done) | (simp only [r_many, c5, cond_true]; rw [if_neg (wm_f c15).1]; simp only [(wm_f c15).2, cond_false]; done)) hP hD hS dX10_many_19
  · obtain ⟨h, qh, rfl⟩ := inB_t (by omega) c5
    have kh : tn (nI h) = h := tn_nI (by omega)
    refine lv_iload_n hx hb dX10_many_8 rfl (lv_at hl 2 rfl) ?_
    refine lv_iconst (v := (-1)) hx hb dX10_many_9 (by decide) ?_
    refine lv_bipush (v := nI (47)) hx hb dX10_many_10 (by decide) ?_
    refine call_S (As := [.int (zp1), .int (-1), .int (nI (47))]) (rest := []) hE (ct_X10_in l E (WM E a I tr) ((zp1)) ((-1)) (nI (47))) cm_X10_in (uw mt_L_X10_63 rfl) hP hD hS hl.1 rfl rfl (Nat.le_of_ble_eq_true rfl) ⟨by decide, by decide⟩ dX10_many_12 (fun H locs hP hD hS => ?_)
    refine W.eq (g2 := F0 m 15 ls [.int (bB (wi ((zp1)) ((-1)) (nI (47))))]) rfl ?_
    refine bB_ne (tgt := 20) hx hb dX10_many_15 (by decide) (fun c15 => ?_) (fun c15 => ?_)
    · refine lv_iload_n hx hb dX10_many_20 rfl (lv_at hl 2 rfl) ?_
      refine lv_if_lt (tgt := 31) hx hb dX10_many_21 (by decide) (fun c21 => ?_) (fun c21 => ?_)
      · have hm1 : zp1 = -1 := wm_n c15 c21
        subst hm1
        refine lv_iconst (v := nI (0)) hx hb dX10_many_31 (by decide) ?_
        refine lv_istore_n (lv' := [(3, .int (nI (0))), (0, .ref (a 0)), (1, .int (nI (h))), (2, .int (-1))]) hx hb dX10_many_32 rfl hl (by decide) rfl (fun ls hl => ?_)
        refine lv_iconst (v := nI (0)) hx hb dX10_many_33 (by decide) ?_
        refine lv_istore (lv' := [(4, .int (nI (0))), (3, .int (nI (0))), (0, .ref (a 0)), (1, .int (nI (h))), (2, .int (-1))]) hx hb dX10_many_34 hl (by decide) rfl (fun ls hl => ?_)
        have loop36 : ∀ (fu36 : Nat) (k : Nat) (v : Nat), 48 - v < fu36 → (v ≤ 48) → (k = cnt (fun v => decide (cnt (fun u => decide (shM I h u = v)) 96 = 0)) v) → ∀ (ls : Array Slot) (H : Heap) (locs : List Loc), lv_has ls 5 [(0, .ref (a 0)), (1, .int (nI (h))), (3, .int (nI (k))), (4, .int (nI (v)))] → va_P E.1 vwCl (WM E a I tr) H → va_D A (WM E a I tr) → va_S A s.heap H locs → W p l e (rmL 3) s m args below meth c H locs 0 0 (RQ E below args s A (some (.int (r_many (I 2 0) (shM I) (nI h) (-1)))) (WM E a I tr)) (F0 m 36 ls []) := by
          intro fu36
          induction fu36 with
          | zero => intro k v h; exact absurd h (Nat.not_lt_zero _)
          | succ fu36 ih36 =>
            intro k v hfu36 hv hk ls H locs hl hP hD hS
            have hmm := cnt_le (fun v => decide (cnt (fun u => decide (shM I h u = v)) 96 = 0)) v
            refine lv_iload hx hb dX10_many_36 (lv_at hl 3 rfl) ?_
            refine lv_bipush (v := nI (48)) hx hb dX10_many_38 (by decide) ?_
            refine bN_ge (tgt := 67) hx hb (by omega) (by omega) dX10_many_40 (by decide) (fun c40 => ?_) (fun c40 => ?_)
            · refine lv_iload_n hx hb dX10_many_67 rfl (lv_at hl 2 rfl) ?_
              exact ret_i hE (r := nI (k)) (by simp only [r_many, c5, kh, cond_true]; rw [if_pos trivial, hk, show v = 48 by omega]; rfl) hP hD hS dX10_many_68
            · refine lv_iload_n hx hb dX10_many_43 rfl (lv_at hl 2 rfl) ?_
              refine lv_aload_n hx hb dX10_many_44 rfl (lv_at hl 0 rfl) ?_
              refine lv_iload_n hx hb dX10_many_45 rfl (lv_at hl 1 rfl) ?_
              refine lv_iload hx hb dX10_many_46 (lv_at hl 3 rfl) ?_
              refine call_V (As := [.int (nI (h)), .int (nI (v))]) (rest := [.int (nI (k))]) hE (ct_X10_manyOf l E a I tr (h) (v) hI (by omega) (by omega)) cm_X10_manyOf (uw mt_L_X10_145 rfl) (gM_0 E a I tr) rfl rfl hP hD hS hl.1 rfl rfl (Nat.le_of_ble_eq_true rfl) ⟨by decide, by decide⟩ dX10_many_48 (fun H locs hP hD hS => ?_)
              refine W.eq (g2 := F0 m 51 ls [.int (nI (cnt (fun u => decide (shM I (h) u = (v))) 96)), .int (nI (k))]) rfl ?_
              have hm1 := cnt_le (fun u => decide (shM I (h) u = (v))) 96
              refine bZ_ne (tgt := 58) hx hb (by omega) dX10_many_51 (by decide) (fun c51 => ?_) (fun c51 => ?_)
              · refine lv_iconst (v := nI (0)) hx hb dX10_many_58 (by decide) ?_
                refine lv_iadd hx hb dX10_many_59 ?_
                refine tp (y := nI (k)) (nI_add _ _) ?_
                refine lv_istore_n (lv' := [(3, .int (nI (k))), (0, .ref (a 0)), (1, .int (nI (h))), (4, .int (nI (v)))]) hx hb dX10_many_60 rfl hl (by decide) rfl (fun ls hl => ?_)
                refine lv_iinc (v := nI (v + 1)) (lv' := [(4, .int (nI (v + 1))), (3, .int (nI (k))), (0, .ref (a 0)), (1, .int (nI (h)))]) hx hb dX10_many_61 hl (k := 3) rfl (ii1_N _) (by decide) rfl (fun ls hl => ?_)
                refine lv_goto (tgt := 36) hx hb dX10_many_64 (by decide) ?_
                exact ih36 (k) (v + 1) (by omega) (by omega) (by first | rw [cnt_t (P := (fun v => decide (cnt (fun u => decide (shM I h u = v)) 96 = 0))) (dt c51), hk] | rw [cnt_f (P := (fun v => decide (cnt (fun u => decide (shM I h u = v)) 96 = 0))) (df (by omega)), hk]) ls _ _ (lv_sub hl [2, 3, 1, 0] rfl) hP hD hS
              · refine lv_iconst (v := nI (1)) hx hb dX10_many_54 (by decide) ?_
                refine lv_goto (tgt := 59) hx hb dX10_many_55 (by decide) ?_
                refine lv_iadd hx hb dX10_many_59 ?_
                refine tp (nI_add _ _) ?_
                refine lv_istore_n (lv' := [(3, .int (nI (k + 1))), (0, .ref (a 0)), (1, .int (nI (h))), (4, .int (nI (v)))]) hx hb dX10_many_60 rfl hl (by decide) rfl (fun ls hl => ?_)
                refine lv_iinc (v := nI (v + 1)) (lv' := [(4, .int (nI (v + 1))), (3, .int (nI (k + 1))), (0, .ref (a 0)), (1, .int (nI (h)))]) hx hb dX10_many_61 hl (k := 3) rfl (ii1_N _) (by decide) rfl (fun ls hl => ?_)
                refine lv_goto (tgt := 36) hx hb dX10_many_64 (by decide) ?_
                exact ih36 (k + 1) (v + 1) (by omega) (by omega) (by first | rw [cnt_t (P := (fun v => decide (cnt (fun u => decide (shM I h u = v)) 96 = 0))) (dt c51), hk] | rw [cnt_f (P := (fun v => decide (cnt (fun u => decide (shM I h u = v)) 96 = 0))) (df (by omega)), hk]) ls _ _ (lv_sub hl [2, 3, 1, 0] rfl) hP hD hS
        exact loop36 (_ + 1) (0) (0) (Nat.lt_succ_self _) (by omega) rfl ls _ _ (lv_sub hl [2, 3, 1, 0] rfl) hP hD hS
      · obtain ⟨n, qn, rfl⟩ := wm_t c15 c21
        have kn : tn (nI n) = n := tn_nI (by omega)
        refine lv_aload_n hx hb dX10_many_24 rfl (lv_at hl 0 rfl) ?_
        refine lv_iload_n hx hb dX10_many_25 rfl (lv_at hl 1 rfl) ?_
        refine lv_iload_n hx hb dX10_many_26 rfl (lv_at hl 2 rfl) ?_
        refine call_V (As := [.int (nI (h)), .int (nI (n))]) (rest := []) hE (ct_X10_manyOf l E a I tr (h) (n) hI (by omega) (by omega)) cm_X10_manyOf (uw mt_L_X10_145 rfl) (gM_0 E a I tr) rfl rfl hP hD hS hl.1 rfl rfl (Nat.le_of_ble_eq_true rfl) ⟨by decide, by decide⟩ dX10_many_27 (fun H locs hP hD hS => ?_)
        refine W.eq (g2 := F0 m 30 ls [.int (nI (cnt (fun u => decide (shM I (h) u = (n))) 96))]) rfl ?_
        have hm2 := cnt_le (fun u => decide (shM I (h) u = (n))) 96
        exact ret_i hE (r := nI (cnt (fun u => decide (shM I (h) u = (n))) 96)) (by simp only [r_many, c5, kh, kn, cond_true]; rw [if_neg (fun z => by rw [z] at c21; exact c21 (by decide))]; simp only [inB_nI qn (by decide), cond_true]) hP hD hS dX10_many_30
    · refine lv_iconst (v := (-1)) hx hb dX10_many_18 (by decide) ?_
      exact ret_i hE (r := (-1)) (by first | (simp only [r_many, c5, cond_false]; done) | (simp only [r_many, c5, cond_true]; rw [if_neg (wm_f c15).1]; simp only [(wm_f c15).2, cond_false]; done)) hP hD hS dX10_many_19

set_option maxHeartbeats 4000000 in
set_option maxRecDepth 100000 in
theorem ct_X10_there (l : Launch) (E : cE) (a : Nat → Nat) (I : Nat → Nat → Nat) (tr : Int64) (zp0 zp1 zp2 : Int32) (hI : KM I) : Ct l E 3 yX10_there cX10_there 5 (some .int) [.ref (a 0), .int (zp0), .int (zp1), .int (zp2)] (WM E a I tr) (some (.int (r_there (I 2 0) (shM I) zp0 zp1 zp2))) (WM E a I tr) := by
  refine Ct_of (plainFor_of_name (by decide)) (Nat.le_of_ble_eq_true rfl) ?_
  intro p e s m args below meth c A ls hE hP hD hS hl
  have hE : cEnv p s m args meth c E RX10 cX10_there 5 (some .int) A := hE
  have hx := hE.1
  have hb := hE.2.1
  have hl : lv_has ls 5 [(0, .ref (a 0)), (1, .int (zp0)), (2, .int (zp1)), (3, .int (zp2))] := hl
  have hP : va_P E.1 vwCl (WM E a I tr) s.heap := hP
  generalize hH : s.heap = H at hP hS ⊢
  have hS : va_S A s.heap H [] := by rw [hH]; exact hS
  clear hH
  have hc6 := hI.1
  refine lv_aload_n hx hb dX10_there_0 rfl (lv_at hl 0 rfl) ?_
  refine lv_iload_n hx hb dX10_there_1 rfl (lv_at hl 1 rfl) ?_
  refine call_V (As := [.int (zp0)]) (rest := []) hE (ct_X10_isHouse l E a I tr ((zp0)) hI.1) cm_X10_isHouse (uw mt_L_X10_125 rfl) (gM_0 E a I tr) rfl rfl hP hD hS hl.1 rfl rfl (Nat.le_of_ble_eq_true rfl) ⟨by decide, by decide⟩ dX10_there_2 (fun H locs hP hD hS => ?_)
  refine W.eq (g2 := F0 m 5 ls [.int (bB (inB ((zp0)) (I 2 0)))]) rfl ?_
  refine bB_eq (tgt := 23) hx hb dX10_there_5 (by decide) (fun c5 => ?_) (fun c5 => ?_)
  · refine lv_iconst (v := (-1)) hx hb dX10_there_23 (by decide) ?_
    exact ret_i hE (r := (-1)) (by first | (simp only [r_there, c5, c13, c20, cond_true, cond_false]; done) | (simp only [r_there, c5, c13, cond_true, cond_false]; done) | (simp only [r_there, c5, cond_false]; done)) hP hD hS dX10_there_24
  · obtain ⟨h, qh, rfl⟩ := inB_t (by omega) c5
    have kh : tn (nI h) = h := tn_nI (by omega)
    refine lv_aload_n hx hb dX10_there_8 rfl (lv_at hl 0 rfl) ?_
    refine lv_iload_n hx hb dX10_there_9 rfl (lv_at hl 3 rfl) ?_
    refine call_V (As := [.int (zp2)]) (rest := []) hE (ct_X10_isHouse l E a I tr ((zp2)) hI.1) cm_X10_isHouse (uw mt_L_X10_125 rfl) (gM_0 E a I tr) rfl rfl hP hD hS hl.1 rfl rfl (Nat.le_of_ble_eq_true rfl) ⟨by decide, by decide⟩ dX10_there_10 (fun H locs hP hD hS => ?_)
    refine W.eq (g2 := F0 m 13 ls [.int (bB (inB ((zp2)) (I 2 0)))]) rfl ?_
    refine bB_eq (tgt := 23) hx hb dX10_there_13 (by decide) (fun c13 => ?_) (fun c13 => ?_)
    · refine lv_iconst (v := (-1)) hx hb dX10_there_23 (by decide) ?_
      exact ret_i hE (r := (-1)) (by first | (simp only [r_there, c5, c13, c20, cond_true, cond_false]; done) | (simp only [r_there, c5, c13, cond_true, cond_false]; done) | (simp only [r_there, c5, cond_false]; done)) hP hD hS dX10_there_24
    · obtain ⟨x, qx, rfl⟩ := inB_t (by omega) c13
      have kx : tn (nI x) = x := tn_nI (by omega)
      refine lv_iload_n hx hb dX10_there_16 rfl (lv_at hl 2 rfl) ?_
      refine call_S (As := [.int (zp1)]) (rest := []) hE (ct_X10_isNumber l E (WM E a I tr) ((zp1))) cm_X10_isNumber (uw mt_L_X10_138 rfl) hP hD hS hl.1 rfl rfl (Nat.le_of_ble_eq_true rfl) ⟨by decide, by decide⟩ dX10_there_17 (fun H locs hP hD hS => ?_)
      refine W.eq (g2 := F0 m 20 ls [.int (bB (inB ((zp1)) 48))]) rfl ?_
      refine bB_ne (tgt := 25) hx hb dX10_there_20 (by decide) (fun c20 => ?_) (fun c20 => ?_)
      · obtain ⟨n, qn, rfl⟩ := inB_t (by omega) c20
        have kn : tn (nI n) = n := tn_nI (by omega)
        refine lv_aload_n hx hb dX10_there_25 rfl (lv_at hl 0 rfl) ?_
        refine lv_iload_n hx hb dX10_there_26 rfl (lv_at hl 1 rfl) ?_
        refine lv_iload_n hx hb dX10_there_27 rfl (lv_at hl 2 rfl) ?_
        refine lv_iconst (v := nI (0)) hx hb dX10_there_28 (by decide) ?_
        refine call_V (As := [.int (nI (h)), .int (nI (n)), .int (nI (0))]) (rest := []) hE (ct_X10_firstOf l E a I tr (h) (n) (0) hI (by omega) (by omega) (by omega)) cm_X10_firstOf (uw mt_L_X10_141 rfl) (gM_0 E a I tr) rfl rfl hP hD hS hl.1 rfl rfl (Nat.le_of_ble_eq_true rfl) ⟨by decide, by decide⟩ dX10_there_29 (fun H locs hP hD hS => ?_)
        refine W.eq (g2 := F0 m 32 ls [.int (rN (fst (shM I (h)) (n) (0)))]) rfl ?_
        have hf1 := fst_le (shM I (h)) (n) (0)
        refine lv_istore (lv' := [(4, .int (rN (fst (shM I (h)) (n) (0)))), (0, .ref (a 0)), (1, .int (nI (h))), (2, .int (nI (n))), (3, .int (nI (x)))]) hx hb dX10_there_32 hl (by decide) rfl (fun ls hl => ?_)
        refine lv_iload hx hb dX10_there_34 (lv_at hl 0 rfl) ?_
        refine lv_bipush (v := (-9)) hx hb dX10_there_36 (by decide) ?_
        refine bQ9_ne (tgt := 46) hx hb (by omega) dX10_there_38 (by decide) (fun c38 => ?_) (fun c38 => ?_)
        · rw [rN_pos (fst_pos c38)] at hl
          refine lv_aload_n hx hb dX10_there_46 rfl (lv_at hl 1 rfl) ?_
          refine lv_iload_n hx hb dX10_there_47 rfl (lv_at hl 4 rfl) ?_
          refine lv_iload hx hb dX10_there_48 (lv_at hl 0 rfl) ?_
          refine call_V (As := [.int (nI (x)), .int (nI (fst (shM I (h)) (n) (0) - 9))]) (rest := []) hE (ct_X10_shown l E a I tr (x) (fst (shM I (h)) (n) (0) - 9) hI (by omega) (by omega)) cm_X10_shown (uw mt_L_X10_135 rfl) (gM_0 E a I tr) rfl rfl hP hD hS hl.1 rfl rfl (Nat.le_of_ble_eq_true rfl) ⟨by decide, by decide⟩ dX10_there_50 (fun H locs hP hD hS => ?_)
          refine W.eq (g2 := F0 m 53 ls [.int (nI (shM I (x) (fst (shM I (h)) (n) (0) - 9)))]) rfl ?_
          have hs2 := shM_lt I (x) (fst (shM I (h)) (n) (0) - 9)
          exact ret_i hE (r := nI (shM I (x) (fst (shM I (h)) (n) (0) - 9))) (by first | (simp only [r_there, c5, c13, c20, kh, kx, kn, cond_true, if_neg (show ¬ fst (shM I h) n 0 = 0 by omega)]; done) | (simp only [r_there, c5, c13, c20, kh, kx, kn, cond_true, if_pos c38]; done)) hP hD hS dX10_there_53
        · refine lv_bipush (v := (-9)) hx hb dX10_there_41 (by decide) ?_
          refine lv_goto (tgt := 53) hx hb dX10_there_43 (by decide) ?_
          exact ret_i hE (r := (-9)) (by first | (simp only [r_there, c5, c13, c20, kh, kx, kn, cond_true, if_neg (show ¬ fst (shM I h) n 0 = 0 by omega)]; done) | (simp only [r_there, c5, c13, c20, kh, kx, kn, cond_true, if_pos c38]; done)) hP hD hS dX10_there_53
      · refine lv_iconst (v := (-1)) hx hb dX10_there_23 (by decide) ?_
        exact ret_i hE (r := (-1)) (by first | (simp only [r_there, c5, c13, c20, cond_true, cond_false]; done) | (simp only [r_there, c5, c13, cond_true, cond_false]; done) | (simp only [r_there, c5, cond_false]; done)) hP hD hS dX10_there_24

set_option maxHeartbeats 4000000 in
set_option maxRecDepth 100000 in
theorem ct_X10_early (l : Launch) (E : cE) (a : Nat → Nat) (I : Nat → Nat → Nat) (tr : Int64) (zp0 zp1 zp2 : Int32) (hI : KM I) : Ct l E 3 yX10_early cX10_early 8 (some .int) [.ref (a 0), .int (zp0), .int (zp1), .int (zp2)] (WM E a I tr) (some (.int (r_early (I 2 0) (I 3 0) (shM I) zp0 zp1 zp2))) (WM E a I tr) := by
  refine Ct_of (plainFor_of_name (by decide)) (Nat.le_of_ble_eq_true rfl) ?_
  intro p e s m args below meth c A ls hE hP hD hS hl
  have hE : cEnv p s m args meth c E RX10 cX10_early 8 (some .int) A := hE
  have hx := hE.1
  have hb := hE.2.1
  have hl : lv_has ls 8 [(0, .ref (a 0)), (1, .int (zp0)), (2, .int (zp1)), (3, .int (zp2))] := hl
  have hP : va_P E.1 vwCl (WM E a I tr) s.heap := hP
  generalize hH : s.heap = H at hP hS ⊢
  have hS : va_S A s.heap H [] := by rw [hH]; exact hS
  clear hH
  have hc6 := hI.1
  have hw9 := hI.2.1
  refine lv_aload_n hx hb dX10_early_0 rfl (lv_at hl 0 rfl) ?_
  refine lv_iload_n hx hb dX10_early_1 rfl (lv_at hl 1 rfl) ?_
  refine call_V (As := [.int (zp0)]) (rest := []) hE (ct_X10_isHouse l E a I tr ((zp0)) hI.1) cm_X10_isHouse (uw mt_L_X10_125 rfl) (gM_0 E a I tr) rfl rfl hP hD hS hl.1 rfl rfl (Nat.le_of_ble_eq_true rfl) ⟨by decide, by decide⟩ dX10_early_2 (fun H locs hP hD hS => ?_)
  refine W.eq (g2 := F0 m 5 ls [.int (bB (inB ((zp0)) (I 2 0)))]) rfl ?_
  refine bB_eq (tgt := 30) hx hb dX10_early_5 (by decide) (fun c5 => ?_) (fun c5 => ?_)
  · refine lv_iconst (v := (-1)) hx hb dX10_early_30 (by decide) ?_
    exact ret_i hE (r := (-1)) (by first | (rw [r_early, hb2, c5]; rfl; done) | (rw [r_early, hb2, c5, c13]; rfl; done) | (rw [r_early, hb2, c5, c13, dt hxe]; rfl; done) | (simp only [r_early, hb2, c5, c13, df hxn, Bool.true_and, Bool.not_false, cond_true]; rw [if_neg (fun z => by rw [z] at c27; exact absurd c27 (by decide)), if_neg (fun z => by rw [z] at c27; exact absurd c27 (by decide))]; done)) hP hD hS dX10_early_31
  · obtain ⟨x, qx, rfl⟩ := inB_t (by omega) c5
    have kx : tn (nI x) = x := tn_nI (by omega)
    refine lv_aload_n hx hb dX10_early_8 rfl (lv_at hl 0 rfl) ?_
    refine lv_iload_n hx hb dX10_early_9 rfl (lv_at hl 2 rfl) ?_
    refine call_V (As := [.int (zp1)]) (rest := []) hE (ct_X10_isHouse l E a I tr ((zp1)) hI.1) cm_X10_isHouse (uw mt_L_X10_125 rfl) (gM_0 E a I tr) rfl rfl hP hD hS hl.1 rfl rfl (Nat.le_of_ble_eq_true rfl) ⟨by decide, by decide⟩ dX10_early_10 (fun H locs hP hD hS => ?_)
    refine W.eq (g2 := F0 m 13 ls [.int (bB (inB ((zp1)) (I 2 0)))]) rfl ?_
    refine bB_eq (tgt := 30) hx hb dX10_early_13 (by decide) (fun c13 => ?_) (fun c13 => ?_)
    · refine lv_iconst (v := (-1)) hx hb dX10_early_30 (by decide) ?_
      exact ret_i hE (r := (-1)) (by first | (rw [r_early, hb2, c5]; rfl; done) | (rw [r_early, hb2, c5, c13]; rfl; done) | (rw [r_early, hb2, c5, c13, dt hxe]; rfl; done) | (simp only [r_early, hb2, c5, c13, df hxn, Bool.true_and, Bool.not_false, cond_true]; rw [if_neg (fun z => by rw [z] at c27; exact absurd c27 (by decide)), if_neg (fun z => by rw [z] at c27; exact absurd c27 (by decide))]; done)) hP hD hS dX10_early_31
    · obtain ⟨y, qy, rfl⟩ := inB_t (by omega) c13
      have ky : tn (nI y) = y := tn_nI (by omega)
      refine lv_iload_n hx hb dX10_early_16 rfl (lv_at hl 1 rfl) ?_
      refine lv_iload_n hx hb dX10_early_17 rfl (lv_at hl 2 rfl) ?_
      refine bN_eq (tgt := 30) hx hb (by omega) (by omega) dX10_early_18 (by decide) (fun c18 => ?_) (fun c18 => ?_)
      · have hxe : nI x = nI y := by rw [c18]
        refine lv_iconst (v := (-1)) hx hb dX10_early_30 (by decide) ?_
        exact ret_i hE (r := (-1)) (by first | (rw [r_early, hb2, c5]; rfl; done) | (rw [r_early, hb2, c5, c13]; rfl; done) | (rw [r_early, hb2, c5, c13, dt hxe]; rfl; done) | (simp only [r_early, hb2, c5, c13, df hxn, Bool.true_and, Bool.not_false, cond_true]; rw [if_neg (fun z => by rw [z] at c27; exact absurd c27 (by decide)), if_neg (fun z => by rw [z] at c27; exact absurd c27 (by decide))]; done)) hP hD hS dX10_early_31
      · have hxn : ¬ nI x = nI y := fun z => c18 ((nI_eq (by omega) (by omega)).mp z)
        refine lv_iload_n hx hb dX10_early_21 rfl (lv_at hl 3 rfl) ?_
        refine lv_iconst (v := nI (0)) hx hb dX10_early_22 (by decide) ?_
        refine lv_iconst (v := nI (1)) hx hb dX10_early_23 (by decide) ?_
        refine call_S (As := [.int (zp2), .int (nI (0)), .int (nI (1))]) (rest := []) hE (ct_X10_in l E (WM E a I tr) ((zp2)) (nI (0)) (nI (1))) cm_X10_in (uw mt_L_X10_63 rfl) hP hD hS hl.1 rfl rfl (Nat.le_of_ble_eq_true rfl) ⟨by decide, by decide⟩ dX10_early_24 (fun H locs hP hD hS => ?_)
        refine W.eq (g2 := F0 m 27 ls [.int (bB (wi ((zp2)) (nI (0)) (nI (1))))]) rfl ?_
        refine bB_ne (tgt := 32) hx hb dX10_early_27 (by decide) (fun c27 => ?_) (fun c27 => ?_)
        · obtain ⟨j, qj1, qj2, rfl⟩ := wi_of (l := 0) (m := 1) (by decide) (by decide) c27
          have hh2 : hb2 (I 2 0) (nI x) (nI y) = true := by rw [hb2, c5, c13, df hxn]; rfl
          refine lv_iconst (v := nI (0)) hx hb dX10_early_32 (by decide) ?_
          refine lv_istore (lv' := [(4, .int (nI (0))), (0, .ref (a 0)), (1, .int (nI (x))), (2, .int (nI (y))), (3, .int (nI (j)))]) hx hb dX10_early_33 hl (by decide) rfl (fun ls hl => ?_)
          refine lv_bipush (v := (-9)) hx hb dX10_early_35 (by decide) ?_
          refine tp (show (-9 : Int32) = rN 0 by decide) ?_
          refine lv_istore (lv' := [(5, .int (rN (0))), (4, .int (nI (0))), (0, .ref (a 0)), (1, .int (nI (x))), (2, .int (nI (y))), (3, .int (nI (j)))]) hx hb dX10_early_37 hl (by decide) rfl (fun ls hl => ?_)
          refine lv_bipush (v := nI (95)) hx hb dX10_early_39 (by decide) ?_
          refine lv_aload_n hx hb dX10_early_41 rfl (lv_at hl 2 rfl) ?_
          refine gf_X10_17 hE hP (0) (gM_0 E a I tr) (v := .ref (a 3)) rfl dX10_early_42 ?_
          refine lv_iconst (v := nI (0)) hx hb dX10_early_45 (by decide) ?_
          refine ald_i hE hP (3) (gM_3 E a I tr) (by omega) (by decide) (r := nI (I (3) (0))) rfl dX10_early_46 ?_
          refine lv_isub hx hb dX10_early_47 ?_
          refine tp (pk_sub (by omega)) ?_
          refine tp (show nI (95 - I 3 0) = rN (96 - I 3 0 + 8) by rw [show 96 - I 3 0 + 8 = (95 - I 3 0) + 9 by omega, rN_9]) ?_
          refine lv_istore (lv' := [(6, .int (rN (96 - I 3 0 + 8))), (5, .int (rN (0))), (4, .int (nI (0))), (0, .ref (a 0)), (1, .int (nI (x))), (2, .int (nI (y))), (3, .int (nI (j)))]) hx hb dX10_early_48 hl (by decide) rfl (fun ls hl => ?_)
          have loop50 : ∀ (fu50 : Nat) (n : Nat) (fe : Nat) (u : Nat), u < fu50 → (u + I 3 0 ≤ 96) → (n + cnt (evF (shM I) (I 3 0) x y) u = cnt (evF (shM I) (I 3 0) x y) (96 - I 3 0)) → (fe = sr (evF (shM I) (I 3 0) x y) (96 - I 3 0) u) → ∀ (ls : Array Slot) (H : Heap) (locs : List Loc), lv_has ls 8 [(0, .ref (a 0)), (1, .int (nI (x))), (2, .int (nI (y))), (3, .int (nI (j))), (4, .int (nI (n))), (5, .int (rN (fe))), (6, .int (rN (u + 8)))] → va_P E.1 vwCl (WM E a I tr) H → va_D A (WM E a I tr) → va_S A s.heap H locs → W p l e (rmL 3) s m args below meth c H locs 0 0 (RQ E below args s A (some (.int (r_early (I 2 0) (I 3 0) (shM I) (nI x) (nI y) (nI j)))) (WM E a I tr)) (F0 m 50 ls []) := by
            intro fu50
            induction fu50 with
            | zero => intro n fe u h; exact absurd h (Nat.not_lt_zero _)
            | succ fu50 ih50 =>
              intro n fe u hfu50 hu hn hf ls H locs hl hP hD hS
              have hlo := cnt_le (evF (shM I) (I 3 0) x y) (96 - I 3 0)
              refine lv_iload hx hb dX10_early_50 (lv_at hl 6 rfl) ?_
              refine bQz_lt (tgt := 121) hx hb (by omega) dX10_early_52 (by decide) (fun c52 => ?_) (fun c52 => ?_)
              · refine lv_iload_n hx hb dX10_early_121 rfl (lv_at hl 3 rfl) ?_
                refine bZ_ne (tgt := 130) hx hb (by omega) dX10_early_122 (by decide) (fun c122 => ?_) (fun c122 => ?_)
                · refine lv_iload hx hb dX10_early_130 (lv_at hl 5 rfl) ?_
                  exact ret_i hE (r := rN (fe)) (by first | (simp only [r_early, hh2, kx, ky, cond_true]; subst c122; rw [if_pos rfl, ← hn, show u = 0 by omega]; rfl; done) | (simp only [r_early, hh2, kx, ky, cond_true]; rw [if_neg (fun z => absurd ((nI_eq (by omega) (by decide)).mp z) (by omega)), show j = 1 by omega, if_pos rfl, hf, show u = 0 by omega]; done)) hP hD hS dX10_early_132
                · refine lv_iload hx hb dX10_early_125 (lv_at hl 4 rfl) ?_
                  refine lv_goto (tgt := 132) hx hb dX10_early_127 (by decide) ?_
                  exact ret_i hE (r := nI (n)) (by first | (simp only [r_early, hh2, kx, ky, cond_true]; subst c122; rw [if_pos rfl, ← hn, show u = 0 by omega]; rfl; done) | (simp only [r_early, hh2, kx, ky, cond_true]; rw [if_neg (fun z => absurd ((nI_eq (by omega) (by decide)).mp z) (by omega)), show j = 1 by omega, if_pos rfl, hf, show u = 0 by omega]; done)) hP hD hS dX10_early_132
              · obtain ⟨t, rfl⟩ : ∃ t, u = t + 1 := ⟨u - 1, by omega⟩
                rw [show rN (t + 1 + 8) = nI t from rN_9 t] at hl
                have hsp : cnt (evF (shM I) (I 3 0) x y) (t + 1) = cnt (evF (shM I) (I 3 0) x y) t + (if (evF (shM I) (I 3 0) x y) t = true then 1 else 0) := rfl
                have hlo := cnt_le (evF (shM I) (I 3 0) x y) (96 - I 3 0)
                refine lv_aload_n hx hb dX10_early_55 rfl (lv_at hl 0 rfl) ?_
                refine lv_iload_n hx hb dX10_early_56 rfl (lv_at hl 2 rfl) ?_
                refine lv_iload hx hb dX10_early_57 (lv_at hl 6 rfl) ?_
                refine lv_aload_n hx hb dX10_early_59 rfl (lv_at hl 0 rfl) ?_
                refine gf_X10_17 hE hP (0) (gM_0 E a I tr) (v := .ref (a 3)) rfl dX10_early_60 ?_
                refine lv_iconst (v := nI (0)) hx hb dX10_early_63 (by decide) ?_
                refine ald_i hE hP (3) (gM_3 E a I tr) (by omega) (by decide) (r := nI (I (3) (0))) rfl dX10_early_64 ?_
                refine lv_iadd hx hb dX10_early_65 ?_
                refine tp (nI_add _ _) ?_
                refine call_V (As := [.int (nI (y)), .int (nI (t + (I (3) (0))))]) (rest := []) hE (ct_X10_shown l E a I tr (y) (t + (I (3) (0))) hI (by omega) (by omega)) cm_X10_shown (uw mt_L_X10_135 rfl) (gM_0 E a I tr) rfl rfl hP hD hS hl.1 rfl rfl (Nat.le_of_ble_eq_true rfl) ⟨by decide, by decide⟩ dX10_early_66 (fun H locs hP hD hS => ?_)
                refine W.eq (g2 := F0 m 69 ls [.int (nI (shM I (y) (t + (I (3) (0)))))]) rfl ?_
                have hs1 := shM_lt I (y) (t + (I (3) (0)))
                refine lv_aload_n hx hb dX10_early_69 rfl (lv_at hl 0 rfl) ?_
                refine lv_iload_n hx hb dX10_early_70 rfl (lv_at hl 1 rfl) ?_
                refine lv_iload hx hb dX10_early_71 (lv_at hl 6 rfl) ?_
                refine call_V (As := [.int (nI (x)), .int (nI (t))]) (rest := [.int (nI (shM I (y) (t + (I (3) (0)))))]) hE (ct_X10_shown l E a I tr (x) (t) hI (by omega) (by omega)) cm_X10_shown (uw mt_L_X10_135 rfl) (gM_0 E a I tr) rfl rfl hP hD hS hl.1 rfl rfl (Nat.le_of_ble_eq_true rfl) ⟨by decide, by decide⟩ dX10_early_73 (fun H locs hP hD hS => ?_)
                refine W.eq (g2 := F0 m 76 ls [.int (nI (shM I (x) (t))), .int (nI (shM I (y) (t + (I (3) (0)))))]) rfl ?_
                have hs2 := shM_lt I (x) (t)
                refine bN_ge (tgt := 83) hx hb (by omega) (by omega) dX10_early_76 (by decide) (fun c76 => ?_) (fun c76 => ?_)
                · refine lv_iconst (v := nI (0)) hx hb dX10_early_83 (by decide) ?_
                  refine lv_istore (lv' := [(7, .int (nI (0))), (0, .ref (a 0)), (1, .int (nI (x))), (2, .int (nI (y))), (3, .int (nI (j))), (4, .int (nI (n))), (5, .int (rN (fe))), (6, .int (nI (t)))]) hx hb dX10_early_84 hl (by decide) rfl (fun ls hl => ?_)
                  refine lv_iload hx hb dX10_early_86 (lv_at hl 5 rfl) ?_
                  refine lv_iload hx hb dX10_early_88 (lv_at hl 0 rfl) ?_
                  refine bZ_eq (tgt := 97) hx hb (by omega) dX10_early_90 (by decide) (fun c90 => ?_) (fun c90 => absurd c90 (by omega))
                  refine lv_iconst (v := nI (0)) hx hb dX10_early_97 (by decide) ?_
                  refine lv_iadd hx hb dX10_early_98 ?_
                  refine tp (y := nI (n)) (nI_add _ _) ?_
                  refine lv_istore (lv' := [(4, .int (nI (n))), (7, .int (nI (0))), (0, .ref (a 0)), (1, .int (nI (x))), (2, .int (nI (y))), (3, .int (nI (j))), (5, .int (rN (fe))), (6, .int (nI (t)))]) hx hb dX10_early_99 hl (by decide) rfl (fun ls hl => ?_)
                  refine lv_iload hx hb dX10_early_101 (lv_at hl 1 rfl) ?_
                  refine bZ_eq (tgt := 111) hx hb (by omega) dX10_early_103 (by decide) (fun c103 => ?_) (fun c103 => absurd c103 (by omega))
                  refine lv_iload hx hb dX10_early_111 (lv_at hl 6 rfl) ?_
                  refine lv_istore (lv' := [(5, .int (rN (fe))), (4, .int (nI (n))), (7, .int (nI (0))), (0, .ref (a 0)), (1, .int (nI (x))), (2, .int (nI (y))), (3, .int (nI (j))), (6, .int (nI (t)))]) hx hb dX10_early_113 hl (by decide) rfl (fun ls hl => ?_)
                  refine lv_iinc (v := rN (t + 8)) (lv' := [(6, .int (rN (t + 8))), (5, .int (rN (fe))), (4, .int (nI (n))), (7, .int (nI (0))), (0, .ref (a 0)), (1, .int (nI (x))), (2, .int (nI (y))), (3, .int (nI (j)))]) hx hb dX10_early_115 hl (k := 7) rfl (iim1_NQ t) (by decide) rfl (fun ls hl => ?_)
                  refine lv_goto (tgt := 50) hx hb dX10_early_118 (by decide) ?_
                  exact ih50 (n) (fe) (t) (by omega) (by omega) (by first | (have z : (evF (shM I) (I 3 0) x y) t = true := dt (by omega); rw [if_pos z] at hsp; omega) | (have z : (evF (shM I) (I 3 0) x y) t = false := df (by omega); rw [z] at hsp; simp only [Bool.false_eq_true, if_false] at hsp; omega)) (by first | exact (sr_hit (P := (evF (shM I) (I 3 0) x y)) (by omega) (dt (by omega))).symm | (rw [hf]; exact (sr_miss (P := (evF (shM I) (I 3 0) x y)) (by omega) (df (by omega))).symm)) ls _ _ (lv_sub hl [4, 5, 6, 7, 2, 1, 0] rfl) hP hD hS
                · refine lv_iconst (v := nI (1)) hx hb dX10_early_79 (by decide) ?_
                  refine lv_goto (tgt := 84) hx hb dX10_early_80 (by decide) ?_
                  refine lv_istore (lv' := [(7, .int (nI (1))), (0, .ref (a 0)), (1, .int (nI (x))), (2, .int (nI (y))), (3, .int (nI (j))), (4, .int (nI (n))), (5, .int (rN (fe))), (6, .int (nI (t)))]) hx hb dX10_early_84 hl (by decide) rfl (fun ls hl => ?_)
                  refine lv_iload hx hb dX10_early_86 (lv_at hl 5 rfl) ?_
                  refine lv_iload hx hb dX10_early_88 (lv_at hl 0 rfl) ?_
                  refine bZ_eq (tgt := 97) hx hb (by omega) dX10_early_90 (by decide) (fun c90 => absurd c90 (by omega)) (fun c90 => ?_)
                  refine lv_iconst (v := nI (1)) hx hb dX10_early_93 (by decide) ?_
                  refine lv_goto (tgt := 98) hx hb dX10_early_94 (by decide) ?_
                  refine lv_iadd hx hb dX10_early_98 ?_
                  refine tp (nI_add _ _) ?_
                  refine lv_istore (lv' := [(4, .int (nI (n + 1))), (7, .int (nI (1))), (0, .ref (a 0)), (1, .int (nI (x))), (2, .int (nI (y))), (3, .int (nI (j))), (5, .int (rN (fe))), (6, .int (nI (t)))]) hx hb dX10_early_99 hl (by decide) rfl (fun ls hl => ?_)
                  refine lv_iload hx hb dX10_early_101 (lv_at hl 1 rfl) ?_
                  refine bZ_eq (tgt := 111) hx hb (by omega) dX10_early_103 (by decide) (fun c103 => absurd c103 (by omega)) (fun c103 => ?_)
                  refine lv_iload hx hb dX10_early_106 (lv_at hl 7 rfl) ?_
                  refine tp (rN_9 (t)).symm ?_
                  refine lv_goto (tgt := 113) hx hb dX10_early_108 (by decide) ?_
                  refine lv_istore (lv' := [(5, .int (rN (t + 9))), (4, .int (nI (n + 1))), (7, .int (nI (1))), (0, .ref (a 0)), (1, .int (nI (x))), (2, .int (nI (y))), (3, .int (nI (j))), (6, .int (nI (t)))]) hx hb dX10_early_113 hl (by decide) rfl (fun ls hl => ?_)
                  refine lv_iinc (v := rN (t + 8)) (lv' := [(6, .int (rN (t + 8))), (5, .int (rN (t + 9))), (4, .int (nI (n + 1))), (7, .int (nI (1))), (0, .ref (a 0)), (1, .int (nI (x))), (2, .int (nI (y))), (3, .int (nI (j)))]) hx hb dX10_early_115 hl (k := 7) rfl (iim1_NQ t) (by decide) rfl (fun ls hl => ?_)
                  refine lv_goto (tgt := 50) hx hb dX10_early_118 (by decide) ?_
                  exact ih50 (n + 1) (t + 9) (t) (by omega) (by omega) (by first | (have z : (evF (shM I) (I 3 0) x y) t = true := dt (by omega); rw [if_pos z] at hsp; omega) | (have z : (evF (shM I) (I 3 0) x y) t = false := df (by omega); rw [z] at hsp; simp only [Bool.false_eq_true, if_false] at hsp; omega)) (by first | exact (sr_hit (P := (evF (shM I) (I 3 0) x y)) (by omega) (dt (by omega))).symm | (rw [hf]; exact (sr_miss (P := (evF (shM I) (I 3 0) x y)) (by omega) (df (by omega))).symm)) ls _ _ (lv_sub hl [4, 5, 6, 7, 2, 1, 0] rfl) hP hD hS
          exact loop50 (_ + 1) (0) (0) (96 - I 3 0) (Nat.lt_succ_self _) (by omega) (Nat.zero_add _) (sr_end (Nat.le_refl _)).symm ls _ _ (lv_sub hl [3, 4, 5, 6, 2, 1, 0] rfl) hP hD hS
        · refine lv_iconst (v := (-1)) hx hb dX10_early_30 (by decide) ?_
          exact ret_i hE (r := (-1)) (by first | (rw [r_early, hb2, c5]; rfl; done) | (rw [r_early, hb2, c5, c13]; rfl; done) | (rw [r_early, hb2, c5, c13, dt hxe]; rfl; done) | (simp only [r_early, hb2, c5, c13, df hxn, Bool.true_and, Bool.not_false, cond_true]; rw [if_neg (fun z => by rw [z] at c27; exact absurd c27 (by decide)), if_neg (fun z => by rw [z] at c27; exact absurd c27 (by decide))]; done)) hP hD hS dX10_early_31
