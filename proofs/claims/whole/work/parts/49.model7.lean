set_option maxHeartbeats 4000000 in
set_option maxRecDepth 100000 in
theorem ct_X10_want (l : Launch) (E : cE) (a : Nat → Nat) (I : Nat → Nat → Nat) (tr : Int64) (z : Nat) (hz : z ≤ 1) (hR : RJ I) : Ct l E 3 yX10_want cX10_want 3 (some .int) [.ref (a 0), .int (nI (z))] (WM E a I tr) (some (.int (nI (I 13 0)))) (WM E a (waJ I z) tr) := by
  refine Ct_of (plainFor_of_name (by decide)) (Nat.le_of_ble_eq_true rfl) ?_
  intro p e s m args below meth c A ls hE hP hD hS hl
  have hE : cEnv p s m args meth c E RX10 cX10_want 3 (some .int) A := hE
  have hx := hE.1
  have hb := hE.2.1
  have hl : lv_has ls 3 [(0, .ref (a 0)), (1, .int (nI (z)))] := hl
  have hP : va_P E.1 vwCl (WM E a I tr) s.heap := hP
  generalize hH : s.heap = H at hP hS ⊢
  have hS : va_S A s.heap H [] := by rw [hH]; exact hS
  clear hH
  have hT := hR.1
  have hT3 := hT.1
  have h10 := hR.2.1
  have h11 := hR.2.2.1
  have h12 := hR.2.2.2.1
  have h13 := hR.2.2.2.2.1
  have h14 := hR.2.2.2.2.2
  refine lv_aload_n hx hb dX10_want_0 rfl (lv_at hl 0 rfl) ?_
  refine gf_X10_83 hE hP (0) (gM_0 E a I tr) (v := .int (nI (I (13) (0)))) rfl dX10_want_1 ?_
  refine lv_istore_n (lv' := [(2, .int (nI (I (13) (0)))), (0, .ref (a 0)), (1, .int (nI (z)))]) hx hb dX10_want_4 rfl hl (by decide) rfl (fun ls hl => ?_)
  refine lv_aload_n hx hb dX10_want_5 rfl (lv_at hl 1 rfl) ?_
  refine gf_X10_92 hE hP (0) (gM_0 E a I tr) (v := .int (rN (I (14) (0)))) rfl dX10_want_6 ?_
  refine lv_bipush (v := (-9)) hx hb dX10_want_9 (by decide) ?_
  refine bQ9_ne (tgt := 33) hx hb (by omega) dX10_want_11 (by decide) (fun c11 => ?_) (fun c11 => ?_)
  · refine lv_iload_n hx hb dX10_want_33 rfl (lv_at hl 0 rfl) ?_
    have hw : I = (waJ I z) := by first | (unfold waJ; rw [if_pos c11, if_neg (by omega)]; done) | (unfold waJ; rw [if_neg (by omega)]; done)
    have hP := Eq.mp (congrArg (fun q => va_P E.1 vwCl (WM E a q tr) H) hw) hP
    have hD := Eq.mp (congrArg (fun q => va_D A (WM E a q tr)) hw) hD
    exact ret_i hE (r := nI (I (13) (0))) (rfl) hP hD hS dX10_want_34
  · refine lv_iload_n hx hb dX10_want_14 rfl (lv_at hl 2 rfl) ?_
    refine bZ_eq (tgt := 25) hx hb (by omega) dX10_want_15 (by decide) (fun c15 => ?_) (fun c15 => ?_)
    · refine lv_aload_n hx hb dX10_want_25 rfl (lv_at hl 1 rfl) ?_
      refine lv_aload_n hx hb dX10_want_26 rfl (lv_at hl 1 rfl) ?_
      refine gf_X10_80 hE hP (0) (gM_0 E a I tr) (v := .int (nI (I (11) (0)))) rfl dX10_want_27 ?_
      refine tp (rN_9 (I (11) (0))).symm ?_
      refine pf_X10_92 hE hP hD hS (0) (gM_0 E a I tr) rfl rfl (Nat.le_of_ble_eq_true rfl) (sM_0_15 E a I tr (I (11) (0) + 9)) dX10_want_30 (fun H locs hP hD hS => ?_)
      refine lv_iload_n hx hb dX10_want_33 rfl (lv_at hl 0 rfl) ?_
      have hw : (up2 I (14) (0) (I (11) (0) + 9)) = (waJ I z) := by first | (unfold waJ; rw [if_pos c11, if_pos c15]; done) | (unfold waJ; rw [if_pos c11, if_neg (by omega)]; done) | (unfold waJ; rw [if_neg (by omega)]; done)
      have hP := Eq.mp (congrArg (fun q => va_P E.1 vwCl (WM E a q tr) H) hw) hP
      have hD := Eq.mp (congrArg (fun q => va_D A (WM E a q tr)) hw) hD
      exact ret_i hE (r := nI (I (13) (0))) (rfl) hP hD hS dX10_want_34
    · refine lv_aload_n hx hb dX10_want_18 rfl (lv_at hl 1 rfl) ?_
      refine call_V (As := []) (rest := []) hE (ct_X10_next l E a I tr hT h10) cm_X10_next (uw mt_L_X10_95 rfl) (gM_0 E a I tr) rfl rfl hP hD hS hl.1 rfl rfl (Nat.le_of_ble_eq_true rfl) ⟨by decide, by decide⟩ dX10_want_19 (fun H locs hP hD hS => ?_)
      refine W.eq (g2 := F0 m 22 ls []) rfl ?_
      refine lv_goto (tgt := 33) hx hb dX10_want_22 (by decide) ?_
      refine lv_iload_n hx hb dX10_want_33 rfl (lv_at hl 0 rfl) ?_
      have hw : (nxJ I) = (waJ I z) := by first | (unfold waJ; rw [if_pos c11, if_pos c15]; done) | (unfold waJ; rw [if_pos c11, if_neg (by omega)]; done) | (unfold waJ; rw [if_neg (by omega)]; done)
      have hP := Eq.mp (congrArg (fun q => va_P E.1 vwCl (WM E a q tr) H) hw) hP
      have hD := Eq.mp (congrArg (fun q => va_D A (WM E a q tr)) hw) hD
      exact ret_i hE (r := nI (I (13) (0))) (rfl) hP hD hS dX10_want_34

set_option maxHeartbeats 4000000 in
set_option maxRecDepth 100000 in
theorem ct_X10_number (l : Launch) (E : cE) (a : Nat → Nat) (I : Nat → Nat → Nat) (tr : Int64) (zp0 zp1 : Int32) (hR : RJ I) : Ct l E 4 yX10_number cX10_number 3 (some .int) [.ref (a 0), .int (zp0), .int (zp1)] (WM E a I tr) (some (.int (nI (I 13 0)))) (WM E a (waJ I (nuZ I zp0 zp1)) tr) := by
  refine Ct_of (plainFor_of_name (by decide)) (Nat.le_of_ble_eq_true rfl) ?_
  intro p e s m args below meth c A ls hE hP hD hS hl
  have hE : cEnv p s m args meth c E RX10 cX10_number 3 (some .int) A := hE
  have hx := hE.1
  have hb := hE.2.1
  have hl : lv_has ls 3 [(0, .ref (a 0)), (1, .int (zp0)), (2, .int (zp1))] := hl
  have hP : va_P E.1 vwCl (WM E a I tr) s.heap := hP
  generalize hH : s.heap = H at hP hS ⊢
  have hS : va_S A s.heap H [] := by rw [hH]; exact hS
  clear hH
  have hT := hR.1
  have hT3 := hT.1
  have h10 := hR.2.1
  have h11 := hR.2.2.1
  have h12 := hR.2.2.2.1
  have h13 := hR.2.2.2.2.1
  have h14 := hR.2.2.2.2.2
  refine lv_aload_n hx hb dX10_number_0 rfl (lv_at hl 0 rfl) ?_
  refine lv_aload_n hx hb dX10_number_1 rfl (lv_at hl 0 rfl) ?_
  refine gf_X10_86 hE hP (0) (gM_0 E a I tr) (v := .int (nI (I (12) (0)))) rfl dX10_number_2 ?_
  refine lv_iconst (v := nI (4)) hx hb dX10_number_5 (by decide) ?_
  refine bN_ne (tgt := 25) hx hb (by omega) (by omega) dX10_number_6 (by decide) (fun c6 => ?_) (fun c6 => ?_)
  · refine lv_iconst (v := nI (0)) hx hb dX10_number_25 (by decide) ?_
    refine call_V (As := [.int (nI (0))]) (rest := []) hE (ct_X10_want l E a I tr (0) (by omega) hR) cm_X10_want (uw mt_L_X10_98 rfl) (gM_0 E a I tr) rfl rfl hP hD hS hl.1 rfl rfl (Nat.le_of_ble_eq_true rfl) ⟨by decide, by decide⟩ dX10_number_26 (fun H locs hP hD hS => ?_)
    refine W.eq (g2 := F0 m 29 ls [.int (nI (I 13 0))]) rfl ?_
    have hR1 : RJ (waJ I (0)) := RJ_wa hR
    have hw : (waJ I (0)) = (waJ I (nuZ I zp0 zp1)) := by first | (unfold nuZ; rw [if_neg c6]; done)
    have hP := Eq.mp (congrArg (fun q => va_P E.1 vwCl (WM E a q tr) H) hw) hP
    have hD := Eq.mp (congrArg (fun q => va_D A (WM E a q tr)) hw) hD
    exact ret_i hE (r := nI (I 13 0)) (rfl) hP hD hS dX10_number_29
  · refine lv_aload_n hx hb dX10_number_9 rfl (lv_at hl 0 rfl) ?_
    refine gf_X10_83 hE hP (0) (gM_0 E a I tr) (v := .int (nI (I (13) (0)))) rfl dX10_number_10 ?_
    refine lv_iload_n hx hb dX10_number_13 rfl (lv_at hl 1 rfl) ?_
    refine lv_iload_n hx hb dX10_number_14 rfl (lv_at hl 2 rfl) ?_
    refine call_S (As := [.int (nI (I (13) (0))), .int (zp0), .int (zp1)]) (rest := [.ref (a 0)]) hE (ct_X10_in l E (WM E a I tr) (nI (I (13) (0))) ((zp0)) ((zp1))) cm_X10_in (uw mt_L_X10_63 rfl) hP hD hS hl.1 rfl rfl (Nat.le_of_ble_eq_true rfl) ⟨by decide, by decide⟩ dX10_number_15 (fun H locs hP hD hS => ?_)
    refine W.eq (g2 := F0 m 18 ls [.int (bB (wi (nI (I (13) (0))) ((zp0)) ((zp1)))), .ref (a 0)]) rfl ?_
    refine bB_eq (tgt := 25) hx hb dX10_number_18 (by decide) (fun c18 => ?_) (fun c18 => ?_)
    · refine lv_iconst (v := nI (0)) hx hb dX10_number_25 (by decide) ?_
      refine call_V (As := [.int (nI (0))]) (rest := []) hE (ct_X10_want l E a I tr (0) (by omega) hR) cm_X10_want (uw mt_L_X10_98 rfl) (gM_0 E a I tr) rfl rfl hP hD hS hl.1 rfl rfl (Nat.le_of_ble_eq_true rfl) ⟨by decide, by decide⟩ dX10_number_26 (fun H locs hP hD hS => ?_)
      refine W.eq (g2 := F0 m 29 ls [.int (nI (I 13 0))]) rfl ?_
      have hR2 : RJ (waJ I (0)) := RJ_wa hR
      have hw : (waJ I (0)) = (waJ I (nuZ I zp0 zp1)) := by first | (unfold nuZ; rw [if_pos c6, c18]; rfl; done) | (unfold nuZ; rw [if_neg c6]; done)
      have hP := Eq.mp (congrArg (fun q => va_P E.1 vwCl (WM E a q tr) H) hw) hP
      have hD := Eq.mp (congrArg (fun q => va_D A (WM E a q tr)) hw) hD
      exact ret_i hE (r := nI (I 13 0)) (rfl) hP hD hS dX10_number_29
    · refine lv_iconst (v := nI (1)) hx hb dX10_number_21 (by decide) ?_
      refine lv_goto (tgt := 26) hx hb dX10_number_22 (by decide) ?_
      refine call_V (As := [.int (nI (1))]) (rest := []) hE (ct_X10_want l E a I tr (1) (by omega) hR) cm_X10_want (uw mt_L_X10_98 rfl) (gM_0 E a I tr) rfl rfl hP hD hS hl.1 rfl rfl (Nat.le_of_ble_eq_true rfl) ⟨by decide, by decide⟩ dX10_number_26 (fun H locs hP hD hS => ?_)
      refine W.eq (g2 := F0 m 29 ls [.int (nI (I 13 0))]) rfl ?_
      have hR3 : RJ (waJ I (1)) := RJ_wa hR
      have hw : (waJ I (1)) = (waJ I (nuZ I zp0 zp1)) := by first | (unfold nuZ; rw [if_pos c6, c18]; rfl; done) | (unfold nuZ; rw [if_neg c6]; done)
      have hP := Eq.mp (congrArg (fun q => va_P E.1 vwCl (WM E a q tr) H) hw) hP
      have hD := Eq.mp (congrArg (fun q => va_D A (WM E a q tr)) hw) hD
      exact ret_i hE (r := nI (I 13 0)) (rfl) hP hD hS dX10_number_29
