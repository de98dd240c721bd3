set_option maxHeartbeats 4000000 in
set_option maxRecDepth 100000 in
theorem ct_X10_go (l : Launch) (E : cE) (a : Nat → Nat) (I : Nat → Nat → Nat) (tr : Int64) (zp0 : Int32) (hn95 : I 16 0 ≤ 95) : Ct l E 1 yX10_go cX10_go 2 (some .int) [.ref (a 0), .int (zp0)] (WM E a I tr) (some (.int (r_go (I 16 0) zp0))) (WM E a (up2 I 16 0 (goN (I 16 0) zp0)) tr) := by
  refine Ct_of (plainFor_of_name (by decide)) (Nat.le_of_ble_eq_true rfl) ?_
  intro p e s m args below meth c A ls hE hP hD hS hl
  have hE : cEnv p s m args meth c E RX10 cX10_go 2 (some .int) A := hE
  have hx := hE.1
  have hb := hE.2.1
  have hl : lv_has ls 2 [(0, .ref (a 0)), (1, .int (zp0))] := hl
  have hP : va_P E.1 vwCl (WM E a I tr) s.heap := hP
  generalize hH : s.heap = H at hP hS ⊢
  have hS : va_S A s.heap H [] := by rw [hH]; exact hS
  clear hH
  refine lv_iload_n hx hb dX10_go_0 rfl (lv_at hl 1 rfl) ?_
  refine lv_iconst (v := nI (1)) hx hb dX10_go_1 (by decide) ?_
  refine lv_bipush (v := nI (95)) hx hb dX10_go_2 (by decide) ?_
  refine call_S (As := [.int (zp0), .int (nI (1)), .int (nI (95))]) (rest := []) hE (ct_X10_in l E (WM E a I tr) ((zp0)) (nI (1)) (nI (95))) cm_X10_in (uw mt_L_X10_63 rfl) hP hD hS hl.1 rfl rfl (Nat.le_of_ble_eq_true rfl) ⟨by decide, by decide⟩ dX10_go_4 (fun H locs hP hD hS => ?_)
  refine W.eq (g2 := F0 m 7 ls [.int (bB (wi ((zp0)) (nI (1)) (nI (95))))]) rfl ?_
  refine bB_ne (tgt := 12) hx hb dX10_go_7 (by decide) (fun c7 => ?_) (fun c7 => ?_)
  · obtain ⟨j, qj1, qj2, rfl⟩ := wi_of (by decide) (by decide) c7
    have kj : tn (nI j) = j := tn_nI (by omega)
    refine lv_aload_n hx hb dX10_go_12 rfl (lv_at hl 0 rfl) ?_
    refine gf_X10_38 hE hP (0) (gM_0 E a I tr) (v := .ref (a 10)) rfl dX10_go_13 ?_
    refine lv_iconst (v := nI (0)) hx hb dX10_go_16 (by decide) ?_
    refine ald_i hE hP (10) (gM_10 E a I tr) (by omega) (by decide) (r := nI (I (16) (0))) rfl dX10_go_17 ?_
    refine lv_iload_n hx hb dX10_go_18 rfl (lv_at hl 1 rfl) ?_
    refine lv_iadd hx hb dX10_go_19 ?_
    refine tp (nI_add _ _) ?_
    refine lv_bipush (v := nI (95)) hx hb dX10_go_20 (by decide) ?_
    refine bN_le (tgt := 28) hx hb (by omega) (by omega) dX10_go_22 (by decide) (fun c22 => ?_) (fun c22 => ?_)
    · refine lv_aload_n hx hb dX10_go_28 rfl (lv_at hl 0 rfl) ?_
      refine gf_X10_38 hE hP (0) (gM_0 E a I tr) (v := .ref (a 10)) rfl dX10_go_29 ?_
      refine lv_iconst (v := nI (0)) hx hb dX10_go_32 (by decide) ?_
      refine lv_dup2_11 hx hb dX10_go_33 rfl rfl ?_
      refine ald_i hE hP (10) (gM_10 E a I tr) (by omega) (by decide) (r := nI (I (16) (0))) rfl dX10_go_34 ?_
      refine lv_iload_n hx hb dX10_go_35 rfl (lv_at hl 1 rfl) ?_
      refine lv_iadd hx hb dX10_go_36 ?_
      refine tp (nI_add _ _) ?_
      refine ast_i hE hP hD hS (10) (gM_10 E a I tr) (by omega) (by decide) (sM_10 E a I tr (0) (I (16) (0) + j)) dX10_go_37 (fun H locs hP hD hS => ?_)
      refine lv_aload_n hx hb dX10_go_38 rfl (lv_at hl 0 rfl) ?_
      refine gf_X10_38 hE hP (0) (gM_0 E a (up2 I (16) (0) (I (16) (0) + j)) tr) (v := .ref (a 10)) rfl dX10_go_39 ?_
      refine lv_iconst (v := nI (0)) hx hb dX10_go_42 (by decide) ?_
      refine ald_i hE hP (10) (gM_10 E a (up2 I (16) (0) (I (16) (0) + j)) tr) (by omega) (by decide) (r := nI (I (16) (0) + j)) rfl dX10_go_43 ?_
      have hw : (up2 I (16) (0) (I (16) (0) + j)) = (up2 I 16 0 (goN (I 16 0) (nI j))) := by simp only [goN, c7, kj, cond_true]; rw [if_pos c22]
      have hP := Eq.mp (congrArg (fun q => va_P E.1 vwCl (WM E a q tr) H) hw) hP
      have hD := Eq.mp (congrArg (fun q => va_D A (WM E a q tr)) hw) hD
      exact ret_i hE (r := nI (I (16) (0) + j)) (by simp only [r_go, c7, kj, cond_true]; rw [if_pos c22]) hP hD hS dX10_go_44
    · refine lv_bipush (v := (-2)) hx hb dX10_go_25 (by decide) ?_
      have hw : I = (up2 I 16 0 (goN (I 16 0) (nI j))) := by simp only [goN, c7, kj, cond_true]; rw [if_neg (by omega)]; exact (up2_self _ _ _).symm
      have hP := Eq.mp (congrArg (fun q => va_P E.1 vwCl (WM E a q tr) H) hw) hP
      have hD := Eq.mp (congrArg (fun q => va_D A (WM E a q tr)) hw) hD
      exact ret_i hE (r := (-2)) (by simp only [r_go, c7, kj, cond_true]; rw [if_neg (by omega)]) hP hD hS dX10_go_27
  · refine lv_iconst (v := (-1)) hx hb dX10_go_10 (by decide) ?_
    have hw : I = (up2 I 16 0 (goN (I 16 0) zp0)) := by simp only [goN, c7, cond_false]; exact (up2_self _ _ _).symm
    have hP := Eq.mp (congrArg (fun q => va_P E.1 vwCl (WM E a q tr) H) hw) hP
    have hD := Eq.mp (congrArg (fun q => va_D A (WM E a q tr)) hw) hD
    exact ret_i hE (r := (-1)) (by simp only [r_go, c7, cond_false]) hP hD hS dX10_go_11

set_option maxHeartbeats 4000000 in
set_option maxRecDepth 100000 in
theorem ct_X10_turn (l : Launch) (E : cE) (a : Nat → Nat) (I : Nat → Nat → Nat) (tr : Int64) (zp0 zp1 : Int32) (hI : KM I) (h10 : I 16 7 ≤ 10) : Ct l E 2 yX10_turn cX10_turn 4 (some .int) [.ref (a 0), .int (zp0), .int (zp1)] (WM E a I tr) (some (.int (r_turn (I 2 0) (I 16 0) (shM I) zp0 zp1))) (WM E a (turJ I zp0 zp1) tr) := by
  refine Ct_of (plainFor_of_name (by decide)) (Nat.le_of_ble_eq_true rfl) ?_
  intro p e s m args below meth c A ls hE hP hD hS hl
  have hE : cEnv p s m args meth c E RX10 cX10_turn 4 (some .int) A := hE
  have hx := hE.1
  have hb := hE.2.1
  have hl : lv_has ls 4 [(0, .ref (a 0)), (1, .int (zp0)), (2, .int (zp1))] := hl
  have hP : va_P E.1 vwCl (WM E a I tr) s.heap := hP
  generalize hH : s.heap = H at hP hS ⊢
  have hS : va_S A s.heap H [] := by rw [hH]; exact hS
  clear hH
  have hc6 := hI.1
  refine lv_aload_n hx hb dX10_turn_0 rfl (lv_at hl 0 rfl) ?_
  refine lv_iload_n hx hb dX10_turn_1 rfl (lv_at hl 1 rfl) ?_
  refine call_V (As := [.int (zp0)]) (rest := []) hE (ct_X10_isHouse l E a I tr ((zp0)) hI.1) cm_X10_isHouse (uw mt_L_X10_125 rfl) (gM_0 E a I tr) rfl rfl hP hD hS hl.1 rfl rfl (Nat.le_of_ble_eq_true rfl) ⟨by decide, by decide⟩ dX10_turn_2 (fun H locs hP hD hS => ?_)
  refine W.eq (g2 := F0 m 5 ls [.int (bB (inB ((zp0)) (I 2 0)))]) rfl ?_
  refine bB_eq (tgt := 18) hx hb dX10_turn_5 (by decide) (fun c5 => ?_) (fun c5 => ?_)
  · refine lv_iconst (v := (-1)) hx hb dX10_turn_18 (by decide) ?_
    have hw : I = (turJ I zp0 zp1) := by first | (simp only [turJ, c5, cond_false]; done) | (simp only [turJ, c5, c15, cond_true, cond_false]; done)
    have hP := Eq.mp (congrArg (fun q => va_P E.1 vwCl (WM E a q tr) H) hw) hP
    have hD := Eq.mp (congrArg (fun q => va_D A (WM E a q tr)) hw) hD
    exact ret_i hE (r := (-1)) (by first | (simp only [r_turn, c5, cond_false]; done) | (simp only [r_turn, c5, c15, cond_true, cond_false]; done)) hP hD hS dX10_turn_19
  · obtain ⟨h, qh, rfl⟩ := inB_t (by omega) c5
    have kh : tn (nI h) = h := tn_nI (by omega)
    refine lv_iload_n hx hb dX10_turn_8 rfl (lv_at hl 2 rfl) ?_
    refine lv_iconst (v := nI (1)) hx hb dX10_turn_9 (by decide) ?_
    refine lv_bipush (v := nI (47)) hx hb dX10_turn_10 (by decide) ?_
    refine call_S (As := [.int (zp1), .int (nI (1)), .int (nI (47))]) (rest := []) hE (ct_X10_in l E (WM E a I tr) ((zp1)) (nI (1)) (nI (47))) cm_X10_in (uw mt_L_X10_63 rfl) hP hD hS hl.1 rfl rfl (Nat.le_of_ble_eq_true rfl) ⟨by decide, by decide⟩ dX10_turn_12 (fun H locs hP hD hS => ?_)
    refine W.eq (g2 := F0 m 15 ls [.int (bB (wi ((zp1)) (nI (1)) (nI (47))))]) rfl ?_
    refine bB_ne (tgt := 20) hx hb dX10_turn_15 (by decide) (fun c15 => ?_) (fun c15 => ?_)
    · obtain ⟨j, qj1, qj2, rfl⟩ := wi_of (by decide) (by decide) c15
      have kj : tn (nI j) = j := tn_nI (by omega)
      have hh1 := hI.2.2.2.2 h (by omega)
      have hsf : shfJ (I 16) 9 (1 + h) = I 16 (1 + h) := shfJ_lo _ _ (by omega)
      refine lv_aload_n hx hb dX10_turn_20 rfl (lv_at hl 0 rfl) ?_
      refine gf_X10_38 hE hP (0) (gM_0 E a I tr) (v := .ref (a 10)) rfl dX10_turn_21 ?_
      refine lv_bipush (v := nI (7)) hx hb dX10_turn_24 (by decide) ?_
      refine ald_i hE hP (10) (gM_10 E a I tr) (by omega) (by decide) (r := nI (I (16) (7))) rfl dX10_turn_26 ?_
      refine lv_bipush (v := nI (10)) hx hb dX10_turn_27 (by decide) ?_
      refine bN_ne (tgt := 97) hx hb (by omega) (by omega) dX10_turn_29 (by decide) (fun c29 => ?_) (fun c29 => ?_)
      · refine lv_aload_n hx hb dX10_turn_97 rfl (lv_at hl 0 rfl) ?_
        refine gf_X10_38 hE hP (0) (gM_0 E a I tr) (v := .ref (a 10)) rfl dX10_turn_98 ?_
        refine lv_bipush (v := nI (8)) hx hb dX10_turn_101 (by decide) ?_
        refine lv_aload_n hx hb dX10_turn_103 rfl (lv_at hl 0 rfl) ?_
        refine gf_X10_38 hE hP (0) (gM_0 E a I tr) (v := .ref (a 10)) rfl dX10_turn_104 ?_
        refine lv_bipush (v := nI (7)) hx hb dX10_turn_107 (by decide) ?_
        refine ald_i hE hP (10) (gM_10 E a I tr) (by omega) (by decide) (r := nI (I (16) (7))) rfl dX10_turn_109 ?_
        refine lv_iadd hx hb dX10_turn_110 ?_
        refine tp (nI_add _ _) ?_
        refine lv_iload_n hx hb dX10_turn_111 rfl (lv_at hl 1 rfl) ?_
        refine ast_i hE hP hD hS (10) (gM_10 E a I tr) (by omega) (by decide) (sM_10 E a I tr (8 + (I (16) (7))) (h)) dX10_turn_112 (fun H locs hP hD hS => ?_)
        refine lv_aload_n hx hb dX10_turn_113 rfl (lv_at hl 0 rfl) ?_
        refine gf_X10_38 hE hP (0) (gM_0 E a (up2 I (16) (8 + (I (16) (7))) (h)) tr) (v := .ref (a 10)) rfl dX10_turn_114 ?_
        refine lv_bipush (v := nI (18)) hx hb dX10_turn_117 (by decide) ?_
        refine lv_aload_n hx hb dX10_turn_119 rfl (lv_at hl 0 rfl) ?_
        refine gf_X10_38 hE hP (0) (gM_0 E a (up2 I (16) (8 + (I (16) (7))) (h)) tr) (v := .ref (a 10)) rfl dX10_turn_120 ?_
        refine lv_bipush (v := nI (7)) hx hb dX10_turn_123 (by decide) ?_
        refine ald_i hE hP (10) (gM_10 E a (up2 I (16) (8 + (I (16) (7))) (h)) tr) (by omega) (by decide) (r := nI (I (16) (7))) (congrArg nI ((up2_ne _ _ (by omega)).trans rfl)) dX10_turn_125 ?_
        refine lv_iadd hx hb dX10_turn_126 ?_
        refine tp (nI_add _ _) ?_
        refine lv_iload_n hx hb dX10_turn_127 rfl (lv_at hl 2 rfl) ?_
        refine ast_i hE hP hD hS (10) (gM_10 E a (up2 I (16) (8 + (I (16) (7))) (h)) tr) (by omega) (by decide) (sM_10 E a (up2 I (16) (8 + (I (16) (7))) (h)) tr (18 + (I (16) (7))) (j)) dX10_turn_128 (fun H locs hP hD hS => ?_)
        refine lv_aload_n hx hb dX10_turn_129 rfl (lv_at hl 0 rfl) ?_
        refine gf_X10_38 hE hP (0) (gM_0 E a (up2 (up2 I (16) (8 + (I (16) (7))) (h)) (16) (18 + (I (16) (7))) (j)) tr) (v := .ref (a 10)) rfl dX10_turn_130 ?_
        refine lv_bipush (v := nI (7)) hx hb dX10_turn_133 (by decide) ?_
        refine lv_dup2_11 hx hb dX10_turn_135 rfl rfl ?_
        refine ald_i hE hP (10) (gM_10 E a (up2 (up2 I (16) (8 + (I (16) (7))) (h)) (16) (18 + (I (16) (7))) (j)) tr) (by omega) (by decide) (r := nI (I (16) (7))) (congrArg nI ((up2_ne _ _ (by omega)).trans ((up2_ne _ _ (by omega)).trans rfl))) dX10_turn_136 ?_
        refine lv_iconst (v := nI (1)) hx hb dX10_turn_137 (by decide) ?_
        refine lv_iadd hx hb dX10_turn_138 ?_
        refine tp (nI_add _ _) ?_
        refine ast_i hE hP hD hS (10) (gM_10 E a (up2 (up2 I (16) (8 + (I (16) (7))) (h)) (16) (18 + (I (16) (7))) (j)) tr) (by omega) (by decide) (sM_10 E a (up2 (up2 I (16) (8 + (I (16) (7))) (h)) (16) (18 + (I (16) (7))) (j)) tr (7) (I (16) (7) + 1)) dX10_turn_139 (fun H locs hP hD hS => ?_)
        refine lv_aload_n hx hb dX10_turn_140 rfl (lv_at hl 0 rfl) ?_
        refine gf_X10_38 hE hP (0) (gM_0 E a (up2 (up2 (up2 I (16) (8 + (I (16) (7))) (h)) (16) (18 + (I (16) (7))) (j)) (16) (7) (I (16) (7) + 1)) tr) (v := .ref (a 10)) rfl dX10_turn_141 ?_
        refine lv_iconst (v := nI (1)) hx hb dX10_turn_144 (by decide) ?_
        refine lv_iload_n hx hb dX10_turn_145 rfl (lv_at hl 1 rfl) ?_
        refine lv_iadd hx hb dX10_turn_146 ?_
        refine tp (nI_add _ _) ?_
        refine lv_aload_n hx hb dX10_turn_147 rfl (lv_at hl 0 rfl) ?_
        refine gf_X10_38 hE hP (0) (gM_0 E a (up2 (up2 (up2 I (16) (8 + (I (16) (7))) (h)) (16) (18 + (I (16) (7))) (j)) (16) (7) (I (16) (7) + 1)) tr) (v := .ref (a 10)) rfl dX10_turn_148 ?_
        refine lv_iconst (v := nI (1)) hx hb dX10_turn_151 (by decide) ?_
        refine lv_iload_n hx hb dX10_turn_152 rfl (lv_at hl 1 rfl) ?_
        refine lv_iadd hx hb dX10_turn_153 ?_
        refine tp (nI_add _ _) ?_
        refine ald_i hE hP (10) (gM_10 E a (up2 (up2 (up2 I (16) (8 + (I (16) (7))) (h)) (16) (18 + (I (16) (7))) (j)) (16) (7) (I (16) (7) + 1)) tr) (by omega) (by decide) (r := nI (I (16) (1 + h))) (congrArg nI ((up2_ne _ _ (by omega)).trans ((up2_ne _ _ (by omega)).trans ((up2_ne _ _ (by omega)).trans rfl)))) dX10_turn_154 ?_
        refine lv_iload_n hx hb dX10_turn_155 rfl (lv_at hl 2 rfl) ?_
        refine lv_iadd hx hb dX10_turn_156 ?_
        refine tp (nI_add _ _) ?_
        refine lv_bipush (v := nI (48)) hx hb dX10_turn_157 (by decide) ?_
        refine lv_irem hx hb dX10_turn_159 (nI_ne0 (by omega) (by omega)) ?_
        refine tp (pk_rem (by omega) (by omega) (by omega)) ?_
        refine ast_i hE hP hD hS (10) (gM_10 E a (up2 (up2 (up2 I (16) (8 + (I (16) (7))) (h)) (16) (18 + (I (16) (7))) (j)) (16) (7) (I (16) (7) + 1)) tr) (by omega) (by decide) (sM_10 E a (up2 (up2 (up2 I (16) (8 + (I (16) (7))) (h)) (16) (18 + (I (16) (7))) (j)) (16) (7) (I (16) (7) + 1)) tr (1 + h) ((I (16) (1 + h) + j) % (48))) dX10_turn_160 (fun H locs hP hD hS => ?_)
        have hwf : (up2 (up2 (up2 (up2 I (16) (8 + (I (16) (7))) (h)) (16) (18 + (I (16) (7))) (j)) (16) (7) (I (16) (7) + 1)) (16) (1 + h) ((I (16) (1 + h) + j) % (48))) = (adJ I (h) (j)) := by first | (unfold adJ; rw [if_pos c29, hsf]; rfl; done) | (unfold adJ; rw [if_neg c29]; rfl; done)
        have hP := Eq.mp (congrArg (fun q => va_P E.1 vwCl (WM E a q tr) H) hwf) hP
        have hD := Eq.mp (congrArg (fun q => va_D A (WM E a q tr)) hwf) hD
        refine lv_aload_n hx hb dX10_turn_161 rfl (lv_at hl 0 rfl) ?_
        have hM2 := KM_adJ (h := h) (b := j) hI
        have h00 : adJ I h j 16 0 = I 16 0 := by rw [adJ_lo _ _ _ (by decide), if_neg (by omega)]
        have h02 : adJ I h j 2 0 = I 2 0 := congrFun (adJ_off I h j (by decide)) 0
        have hn95 := hI.2.2.1
        refine lv_iload_n hx hb dX10_turn_162 rfl (lv_at hl 1 rfl) ?_
        refine lv_aload_n hx hb dX10_turn_163 rfl (lv_at hl 0 rfl) ?_
        refine gf_X10_38 hE hP (0) (gM_0 E a (adJ I (h) (j)) tr) (v := .ref (a 10)) rfl dX10_turn_164 ?_
        refine lv_iconst (v := nI (0)) hx hb dX10_turn_167 (by decide) ?_
        refine ald_i hE hP (10) (gM_10 E a (adJ I (h) (j)) tr) (by omega) (by decide) (r := nI ((adJ I (h) (j)) (16) (0))) rfl dX10_turn_168 ?_
        refine call_V (As := [.int (nI (h)), .int (nI ((adJ I (h) (j)) (16) (0)))]) (rest := []) hE (ct_X10_shown l E a (adJ I (h) (j)) tr (h) ((adJ I (h) (j)) (16) (0)) hM2 (by omega) (by omega)) cm_X10_shown (uw mt_L_X10_135 rfl) (gM_0 E a (adJ I (h) (j)) tr) rfl rfl hP hD hS hl.1 rfl rfl (Nat.le_of_ble_eq_true rfl) ⟨by decide, by decide⟩ dX10_turn_169 (fun H locs hP hD hS => ?_)
        refine W.eq (g2 := F0 m 172 ls [.int (nI (shM (adJ I (h) (j)) (h) ((adJ I (h) (j)) (16) (0))))]) rfl ?_
        have hs1 := shM_lt (adJ I (h) (j)) (h) ((adJ I (h) (j)) (16) (0))
        have hw : (adJ I (h) (j)) = (turJ I (nI h) (nI j)) := by simp only [turJ, c5, c15, kh, kj, cond_true]
        have hP := Eq.mp (congrArg (fun q => va_P E.1 vwCl (WM E a q tr) H) hw) hP
        have hD := Eq.mp (congrArg (fun q => va_D A (WM E a q tr)) hw) hD
        exact ret_i hE (r := nI (shM (adJ I (h) (j)) (h) ((adJ I (h) (j)) (16) (0)))) (by simp only [r_turn, c5, c15, kh, kj, cond_true]; rw [shM_adJ (by omega), h00]) hP hD hS dX10_turn_172
      · refine lv_iconst (v := nI (0)) hx hb dX10_turn_32 (by decide) ?_
        refine lv_istore_n (lv' := [(3, .int (nI (0))), (0, .ref (a 0)), (1, .int (nI (h))), (2, .int (nI (j)))]) hx hb dX10_turn_33 rfl hl (by decide) rfl (fun ls hl => ?_)
        have loop34 : ∀ (fu34 : Nat) (k : Nat), 9 - k < fu34 → (k ≤ 9) → ∀ (ls : Array Slot) (H : Heap) (locs : List Loc), lv_has ls 4 [(0, .ref (a 0)), (1, .int (nI (h))), (2, .int (nI (j))), (3, .int (nI (k)))] → va_P E.1 vwCl (WM E a (upA I (16) (shfJ (I 16) k)) tr) H → va_D A (WM E a (upA I (16) (shfJ (I 16) k)) tr) → va_S A s.heap H locs → W p l e (rmL 2) s m args below meth c H locs 0 0 (RQ E below args s A (some (.int (r_turn (I 2 0) (I 16 0) (shM I) (nI h) (nI j)))) (WM E a (turJ I (nI h) (nI j)) tr)) (F0 m 34 ls []) := by
          intro fu34
          induction fu34 with
          | zero => intro k h; exact absurd h (Nat.not_lt_zero _)
          | succ fu34 ih34 =>
            intro k hfu34 hk ls H locs hl hP hD hS
            refine lv_iload_n hx hb dX10_turn_34 rfl (lv_at hl 3 rfl) ?_
            refine lv_bipush (v := nI (9)) hx hb dX10_turn_35 (by decide) ?_
            refine bN_ge (tgt := 86) hx hb (by omega) (by omega) dX10_turn_37 (by decide) (fun c37 => ?_) (fun c37 => ?_)
            · have hk9 : k = 9 := by omega
              subst hk9
              have hs7 : shfJ (I 16) 9 7 = 10 := by rw [shfJ_lo _ _ (by decide)]; exact c29
              refine lv_aload_n hx hb dX10_turn_86 rfl (lv_at hl 0 rfl) ?_
              refine gf_X10_38 hE hP (0) (gM_0 E a (upA I (16) (shfJ (I 16) 9)) tr) (v := .ref (a 10)) rfl dX10_turn_87 ?_
              refine lv_bipush (v := nI (7)) hx hb dX10_turn_90 (by decide) ?_
              refine lv_dup2_11 hx hb dX10_turn_92 rfl rfl ?_
              refine ald_i hE hP (10) (gM_10 E a (upA I (16) (shfJ (I 16) 9)) tr) (by omega) (by decide) (r := nI ((shfJ (I 16) 9) (7))) rfl dX10_turn_93 ?_
              refine lv_iconst (v := nI (1)) hx hb dX10_turn_94 (by decide) ?_
              refine lv_isub hx hb dX10_turn_95 ?_
              refine tp (pk_sub (by omega)) ?_
              refine ast_i hE hP hD hS (10) (gM_10 E a (upA I (16) (shfJ (I 16) 9)) tr) (by omega) (by decide) (sM_10 E a (upA I (16) (shfJ (I 16) 9)) tr (7) ((shfJ (I 16) 9) (7) - (1))) dX10_turn_96 (fun H locs hP hD hS => ?_)
              have hwf : (up2 (upA I (16) (shfJ (I 16) 9)) (16) (7) ((shfJ (I 16) 9) (7) - (1))) = (up2 (upA I 16 (shfJ (I 16) 9)) 16 7 9) := by rw [hs7]
              have hP := Eq.mp (congrArg (fun q => va_P E.1 vwCl (WM E a q tr) H) hwf) hP
              have hD := Eq.mp (congrArg (fun q => va_D A (WM E a q tr)) hwf) hD
              refine lv_aload_n hx hb dX10_turn_97 rfl (lv_at hl 0 rfl) ?_
              refine gf_X10_38 hE hP (0) (gM_0 E a (up2 (upA I (16) (shfJ (I 16) 9)) (16) (7) (9)) tr) (v := .ref (a 10)) rfl dX10_turn_98 ?_
              refine lv_bipush (v := nI (8)) hx hb dX10_turn_101 (by decide) ?_
              refine lv_aload_n hx hb dX10_turn_103 rfl (lv_at hl 0 rfl) ?_
              refine gf_X10_38 hE hP (0) (gM_0 E a (up2 (upA I (16) (shfJ (I 16) 9)) (16) (7) (9)) tr) (v := .ref (a 10)) rfl dX10_turn_104 ?_
              refine lv_bipush (v := nI (7)) hx hb dX10_turn_107 (by decide) ?_
              refine ald_i hE hP (10) (gM_10 E a (up2 (upA I (16) (shfJ (I 16) 9)) (16) (7) (9)) tr) (by omega) (by decide) (r := nI (9)) rfl dX10_turn_109 ?_
              refine lv_iadd hx hb dX10_turn_110 ?_
              refine tp (nI_add _ _) ?_
              refine lv_iload_n hx hb dX10_turn_111 rfl (lv_at hl 1 rfl) ?_
              refine ast_i hE hP hD hS (10) (gM_10 E a (up2 (upA I (16) (shfJ (I 16) 9)) (16) (7) (9)) tr) (by omega) (by decide) (sM_10 E a (up2 (upA I (16) (shfJ (I 16) 9)) (16) (7) (9)) tr (8 + 9) (h)) dX10_turn_112 (fun H locs hP hD hS => ?_)
              refine lv_aload_n hx hb dX10_turn_113 rfl (lv_at hl 0 rfl) ?_
              refine gf_X10_38 hE hP (0) (gM_0 E a (up2 (up2 (upA I (16) (shfJ (I 16) 9)) (16) (7) (9)) (16) (8 + 9) (h)) tr) (v := .ref (a 10)) rfl dX10_turn_114 ?_
              refine lv_bipush (v := nI (18)) hx hb dX10_turn_117 (by decide) ?_
              refine lv_aload_n hx hb dX10_turn_119 rfl (lv_at hl 0 rfl) ?_
              refine gf_X10_38 hE hP (0) (gM_0 E a (up2 (up2 (upA I (16) (shfJ (I 16) 9)) (16) (7) (9)) (16) (8 + 9) (h)) tr) (v := .ref (a 10)) rfl dX10_turn_120 ?_
              refine lv_bipush (v := nI (7)) hx hb dX10_turn_123 (by decide) ?_
              refine ald_i hE hP (10) (gM_10 E a (up2 (up2 (upA I (16) (shfJ (I 16) 9)) (16) (7) (9)) (16) (8 + 9) (h)) tr) (by omega) (by decide) (r := nI (9)) (congrArg nI ((up2_ne _ _ (by omega)).trans (up2_at _ _ _ _))) dX10_turn_125 ?_
              refine lv_iadd hx hb dX10_turn_126 ?_
              refine tp (nI_add _ _) ?_
              refine lv_iload_n hx hb dX10_turn_127 rfl (lv_at hl 2 rfl) ?_
              refine ast_i hE hP hD hS (10) (gM_10 E a (up2 (up2 (upA I (16) (shfJ (I 16) 9)) (16) (7) (9)) (16) (8 + 9) (h)) tr) (by omega) (by decide) (sM_10 E a (up2 (up2 (upA I (16) (shfJ (I 16) 9)) (16) (7) (9)) (16) (8 + 9) (h)) tr (18 + 9) (j)) dX10_turn_128 (fun H locs hP hD hS => ?_)
              refine lv_aload_n hx hb dX10_turn_129 rfl (lv_at hl 0 rfl) ?_
              refine gf_X10_38 hE hP (0) (gM_0 E a (up2 (up2 (up2 (upA I (16) (shfJ (I 16) 9)) (16) (7) (9)) (16) (8 + 9) (h)) (16) (18 + 9) (j)) tr) (v := .ref (a 10)) rfl dX10_turn_130 ?_
              refine lv_bipush (v := nI (7)) hx hb dX10_turn_133 (by decide) ?_
              refine lv_dup2_11 hx hb dX10_turn_135 rfl rfl ?_
              refine ald_i hE hP (10) (gM_10 E a (up2 (up2 (up2 (upA I (16) (shfJ (I 16) 9)) (16) (7) (9)) (16) (8 + 9) (h)) (16) (18 + 9) (j)) tr) (by omega) (by decide) (r := nI (9)) (congrArg nI ((up2_ne _ _ (by omega)).trans ((up2_ne _ _ (by omega)).trans (up2_at _ _ _ _)))) dX10_turn_136 ?_
              refine lv_iconst (v := nI (1)) hx hb dX10_turn_137 (by decide) ?_
              refine lv_iadd hx hb dX10_turn_138 ?_
              refine tp (nI_add _ _) ?_
              refine ast_i hE hP hD hS (10) (gM_10 E a (up2 (up2 (up2 (upA I (16) (shfJ (I 16) 9)) (16) (7) (9)) (16) (8 + 9) (h)) (16) (18 + 9) (j)) tr) (by omega) (by decide) (sM_10 E a (up2 (up2 (up2 (upA I (16) (shfJ (I 16) 9)) (16) (7) (9)) (16) (8 + 9) (h)) (16) (18 + 9) (j)) tr (7) (9 + 1)) dX10_turn_139 (fun H locs hP hD hS => ?_)
              refine lv_aload_n hx hb dX10_turn_140 rfl (lv_at hl 0 rfl) ?_
              refine gf_X10_38 hE hP (0) (gM_0 E a (up2 (up2 (up2 (up2 (upA I (16) (shfJ (I 16) 9)) (16) (7) (9)) (16) (8 + 9) (h)) (16) (18 + 9) (j)) (16) (7) (9 + 1)) tr) (v := .ref (a 10)) rfl dX10_turn_141 ?_
              refine lv_iconst (v := nI (1)) hx hb dX10_turn_144 (by decide) ?_
              refine lv_iload_n hx hb dX10_turn_145 rfl (lv_at hl 1 rfl) ?_
              refine lv_iadd hx hb dX10_turn_146 ?_
              refine tp (nI_add _ _) ?_
              refine lv_aload_n hx hb dX10_turn_147 rfl (lv_at hl 0 rfl) ?_
              refine gf_X10_38 hE hP (0) (gM_0 E a (up2 (up2 (up2 (up2 (upA I (16) (shfJ (I 16) 9)) (16) (7) (9)) (16) (8 + 9) (h)) (16) (18 + 9) (j)) (16) (7) (9 + 1)) tr) (v := .ref (a 10)) rfl dX10_turn_148 ?_
              refine lv_iconst (v := nI (1)) hx hb dX10_turn_151 (by decide) ?_
              refine lv_iload_n hx hb dX10_turn_152 rfl (lv_at hl 1 rfl) ?_
              refine lv_iadd hx hb dX10_turn_153 ?_
              refine tp (nI_add _ _) ?_
              refine ald_i hE hP (10) (gM_10 E a (up2 (up2 (up2 (up2 (upA I (16) (shfJ (I 16) 9)) (16) (7) (9)) (16) (8 + 9) (h)) (16) (18 + 9) (j)) (16) (7) (9 + 1)) tr) (by omega) (by decide) (r := nI ((shfJ (I 16) 9) (1 + h))) (congrArg nI ((up2_ne _ _ (by omega)).trans ((up2_ne _ _ (by omega)).trans ((up2_ne _ _ (by omega)).trans ((up2_ne _ _ (by omega)).trans rfl))))) dX10_turn_154 ?_
              refine lv_iload_n hx hb dX10_turn_155 rfl (lv_at hl 2 rfl) ?_
              refine lv_iadd hx hb dX10_turn_156 ?_
              refine tp (nI_add _ _) ?_
              refine lv_bipush (v := nI (48)) hx hb dX10_turn_157 (by decide) ?_
              refine lv_irem hx hb dX10_turn_159 (nI_ne0 (by omega) (by omega)) ?_
              refine tp (pk_rem (by omega) (by omega) (by omega)) ?_
              refine ast_i hE hP hD hS (10) (gM_10 E a (up2 (up2 (up2 (up2 (upA I (16) (shfJ (I 16) 9)) (16) (7) (9)) (16) (8 + 9) (h)) (16) (18 + 9) (j)) (16) (7) (9 + 1)) tr) (by omega) (by decide) (sM_10 E a (up2 (up2 (up2 (up2 (upA I (16) (shfJ (I 16) 9)) (16) (7) (9)) (16) (8 + 9) (h)) (16) (18 + 9) (j)) (16) (7) (9 + 1)) tr (1 + h) (((shfJ (I 16) 9) (1 + h) + j) % (48))) dX10_turn_160 (fun H locs hP hD hS => ?_)
              have hwf : (up2 (up2 (up2 (up2 (up2 (upA I (16) (shfJ (I 16) 9)) (16) (7) (9)) (16) (8 + 9) (h)) (16) (18 + 9) (j)) (16) (7) (9 + 1)) (16) (1 + h) (((shfJ (I 16) 9) (1 + h) + j) % (48))) = (adJ I (h) (j)) := by first | (unfold adJ; rw [if_pos c29, hsf]; rfl; done) | (unfold adJ; rw [if_neg c29]; rfl; done)
              have hP := Eq.mp (congrArg (fun q => va_P E.1 vwCl (WM E a q tr) H) hwf) hP
              have hD := Eq.mp (congrArg (fun q => va_D A (WM E a q tr)) hwf) hD
              refine lv_aload_n hx hb dX10_turn_161 rfl (lv_at hl 0 rfl) ?_
              have hM2 := KM_adJ (h := h) (b := j) hI
              have h00 : adJ I h j 16 0 = I 16 0 := by rw [adJ_lo _ _ _ (by decide), if_neg (by omega)]
              have h02 : adJ I h j 2 0 = I 2 0 := congrFun (adJ_off I h j (by decide)) 0
              have hn95 := hI.2.2.1
              refine lv_iload_n hx hb dX10_turn_162 rfl (lv_at hl 1 rfl) ?_
              refine lv_aload_n hx hb dX10_turn_163 rfl (lv_at hl 0 rfl) ?_
              refine gf_X10_38 hE hP (0) (gM_0 E a (adJ I (h) (j)) tr) (v := .ref (a 10)) rfl dX10_turn_164 ?_
              refine lv_iconst (v := nI (0)) hx hb dX10_turn_167 (by decide) ?_
              refine ald_i hE hP (10) (gM_10 E a (adJ I (h) (j)) tr) (by omega) (by decide) (r := nI ((adJ I (h) (j)) (16) (0))) rfl dX10_turn_168 ?_
              refine call_V (As := [.int (nI (h)), .int (nI ((adJ I (h) (j)) (16) (0)))]) (rest := []) hE (ct_X10_shown l E a (adJ I (h) (j)) tr (h) ((adJ I (h) (j)) (16) (0)) hM2 (by omega) (by omega)) cm_X10_shown (uw mt_L_X10_135 rfl) (gM_0 E a (adJ I (h) (j)) tr) rfl rfl hP hD hS hl.1 rfl rfl (Nat.le_of_ble_eq_true rfl) ⟨by decide, by decide⟩ dX10_turn_169 (fun H locs hP hD hS => ?_)
              refine W.eq (g2 := F0 m 172 ls [.int (nI (shM (adJ I (h) (j)) (h) ((adJ I (h) (j)) (16) (0))))]) rfl ?_
              have hs2 := shM_lt (adJ I (h) (j)) (h) ((adJ I (h) (j)) (16) (0))
              have hw : (adJ I (h) (j)) = (turJ I (nI h) (nI j)) := by simp only [turJ, c5, c15, kh, kj, cond_true]
              have hP := Eq.mp (congrArg (fun q => va_P E.1 vwCl (WM E a q tr) H) hw) hP
              have hD := Eq.mp (congrArg (fun q => va_D A (WM E a q tr)) hw) hD
              exact ret_i hE (r := nI (shM (adJ I (h) (j)) (h) ((adJ I (h) (j)) (16) (0)))) (by simp only [r_turn, c5, c15, kh, kj, cond_true]; rw [shM_adJ (by omega), h00]) hP hD hS dX10_turn_172
            · refine lv_aload_n hx hb dX10_turn_40 rfl (lv_at hl 0 rfl) ?_
              refine gf_X10_38 hE hP (0) (gM_0 E a (upA I (16) (shfJ (I 16) k)) tr) (v := .ref (a 10)) rfl dX10_turn_41 ?_
              refine lv_bipush (v := nI (8)) hx hb dX10_turn_44 (by decide) ?_
              refine lv_iload_n hx hb dX10_turn_46 rfl (lv_at hl 3 rfl) ?_
              refine lv_iadd hx hb dX10_turn_47 ?_
              refine tp (nI_add _ _) ?_
              refine lv_aload_n hx hb dX10_turn_48 rfl (lv_at hl 0 rfl) ?_
              refine gf_X10_38 hE hP (0) (gM_0 E a (upA I (16) (shfJ (I 16) k)) tr) (v := .ref (a 10)) rfl dX10_turn_49 ?_
              refine lv_bipush (v := nI (8)) hx hb dX10_turn_52 (by decide) ?_
              refine lv_iload_n hx hb dX10_turn_54 rfl (lv_at hl 3 rfl) ?_
              refine lv_iadd hx hb dX10_turn_55 ?_
              refine tp (nI_add _ _) ?_
              refine lv_iconst (v := nI (1)) hx hb dX10_turn_56 (by decide) ?_
              refine lv_iadd hx hb dX10_turn_57 ?_
              refine tp (nI_add _ _) ?_
              refine ald_i hE hP (10) (gM_10 E a (upA I (16) (shfJ (I 16) k)) tr) (by omega) (by decide) (r := nI ((shfJ (I 16) k) (8 + k + 1))) rfl dX10_turn_58 ?_
              refine ast_i hE hP hD hS (10) (gM_10 E a (upA I (16) (shfJ (I 16) k)) tr) (by omega) (by decide) (sM_10 E a (upA I (16) (shfJ (I 16) k)) tr (8 + k) ((shfJ (I 16) k) (8 + k + 1))) dX10_turn_59 (fun H locs hP hD hS => ?_)
              refine lv_aload_n hx hb dX10_turn_60 rfl (lv_at hl 0 rfl) ?_
              refine gf_X10_38 hE hP (0) (gM_0 E a (up2 (upA I (16) (shfJ (I 16) k)) (16) (8 + k) ((shfJ (I 16) k) (8 + k + 1))) tr) (v := .ref (a 10)) rfl dX10_turn_61 ?_
              refine lv_bipush (v := nI (18)) hx hb dX10_turn_64 (by decide) ?_
              refine lv_iload_n hx hb dX10_turn_66 rfl (lv_at hl 3 rfl) ?_
              refine lv_iadd hx hb dX10_turn_67 ?_
              refine tp (nI_add _ _) ?_
              refine lv_aload_n hx hb dX10_turn_68 rfl (lv_at hl 0 rfl) ?_
              refine gf_X10_38 hE hP (0) (gM_0 E a (up2 (upA I (16) (shfJ (I 16) k)) (16) (8 + k) ((shfJ (I 16) k) (8 + k + 1))) tr) (v := .ref (a 10)) rfl dX10_turn_69 ?_
              refine lv_bipush (v := nI (18)) hx hb dX10_turn_72 (by decide) ?_
              refine lv_iload_n hx hb dX10_turn_74 rfl (lv_at hl 3 rfl) ?_
              refine lv_iadd hx hb dX10_turn_75 ?_
              refine tp (nI_add _ _) ?_
              refine lv_iconst (v := nI (1)) hx hb dX10_turn_76 (by decide) ?_
              refine lv_iadd hx hb dX10_turn_77 ?_
              refine tp (nI_add _ _) ?_
              refine ald_i hE hP (10) (gM_10 E a (up2 (upA I (16) (shfJ (I 16) k)) (16) (8 + k) ((shfJ (I 16) k) (8 + k + 1))) tr) (by omega) (by decide) (r := nI ((shfJ (I 16) k) (18 + k + 1))) (congrArg nI ((up2_ne _ _ (by omega)).trans rfl)) dX10_turn_78 ?_
              refine ast_i hE hP hD hS (10) (gM_10 E a (up2 (upA I (16) (shfJ (I 16) k)) (16) (8 + k) ((shfJ (I 16) k) (8 + k + 1))) tr) (by omega) (by decide) (sM_10 E a (up2 (upA I (16) (shfJ (I 16) k)) (16) (8 + k) ((shfJ (I 16) k) (8 + k + 1))) tr (18 + k) ((shfJ (I 16) k) (18 + k + 1))) dX10_turn_79 (fun H locs hP hD hS => ?_)
              refine lv_iinc (v := nI (k + 1)) (lv' := [(3, .int (nI (k + 1))), (0, .ref (a 0)), (1, .int (nI (h))), (2, .int (nI (j)))]) hx hb dX10_turn_80 hl (k := 3) rfl (ii1_N _) (by decide) rfl (fun ls hl => ?_)
              refine lv_goto (tgt := 34) hx hb dX10_turn_83 (by decide) ?_
              exact ih34 (k + 1) (by omega) (by omega) ls _ _ (lv_sub hl [1, 2, 3, 0] rfl) (by have hw : (up2 (up2 (upA I (16) (shfJ (I 16) k)) (16) (8 + k) ((shfJ (I 16) k) (8 + k + 1))) (16) (18 + k) ((shfJ (I 16) k) (18 + k + 1))) = (upA I (16) (shfJ (I 16) (k + 1))) := (by rw [up2_upA, up2_upA]; exact congrArg (upA I 16) (shfJ_s (I 16) c37)); rw [hw] at hP; exact hP) (by have hw : (up2 (up2 (upA I (16) (shfJ (I 16) k)) (16) (8 + k) ((shfJ (I 16) k) (8 + k + 1))) (16) (18 + k) ((shfJ (I 16) k) (18 + k + 1))) = (upA I (16) (shfJ (I 16) (k + 1))) := (by rw [up2_upA, up2_upA]; exact congrArg (upA I 16) (shfJ_s (I 16) c37)); rw [hw] at hD; exact hD) hS
        exact loop34 (_ + 1) (0) (Nat.lt_succ_self _) (by omega) ls _ _ (lv_sub hl [1, 2, 3, 0] rfl) (by have hw : I = (upA I (16) (shfJ (I 16) (0))) := (by rw [shfJ_0, upA_self]); rw [hw] at hP; exact hP) (by have hw : I = (upA I (16) (shfJ (I 16) (0))) := (by rw [shfJ_0, upA_self]); rw [hw] at hD; exact hD) hS
    · refine lv_iconst (v := (-1)) hx hb dX10_turn_18 (by decide) ?_
      have hw : I = (turJ I (nI h) zp1) := by first | (simp only [turJ, c5, cond_false]; done) | (simp only [turJ, c5, c15, cond_true, cond_false]; done)
      have hP := Eq.mp (congrArg (fun q => va_P E.1 vwCl (WM E a q tr) H) hw) hP
      have hD := Eq.mp (congrArg (fun q => va_D A (WM E a q tr)) hw) hD
      exact ret_i hE (r := (-1)) (by first | (simp only [r_turn, c5, cond_false]; done) | (simp only [r_turn, c5, c15, cond_true, cond_false]; done)) hP hD hS dX10_turn_19

set_option maxHeartbeats 4000000 in
set_option maxRecDepth 100000 in
theorem ct_X10_undo (l : Launch) (E : cE) (a : Nat → Nat) (I : Nat → Nat → Nat) (tr : Int64) (h10 : MKJ I) (h7 : ∀ h, h < 6 → I 16 (1 + h) < 48) : Ct l E 0 yX10_undo cX10_undo 2 (some .int) [.ref (a 0)] (WM E a I tr) (some (.int (r_undo (I 16 7) (I 16 (8 + (I 16 7 - 1)))))) (WM E a (undJ I) tr) := by
  refine Ct_of (plainFor_of_name (by decide)) (Nat.le_of_ble_eq_true rfl) ?_
  intro p e s m args below meth c A ls hE hP hD hS hl
  have hE : cEnv p s m args meth c E RX10 cX10_undo 2 (some .int) A := hE
  have hx := hE.1
  have hb := hE.2.1
  have hl : lv_has ls 2 [(0, .ref (a 0))] := hl
  have hP : va_P E.1 vwCl (WM E a I tr) s.heap := hP
  generalize hH : s.heap = H at hP hS ⊢
  have hS : va_S A s.heap H [] := by rw [hH]; exact hS
  clear hH
  have h1010 := h10.1
  refine lv_aload_n hx hb dX10_undo_0 rfl (lv_at hl 0 rfl) ?_
  refine gf_X10_38 hE hP (0) (gM_0 E a I tr) (v := .ref (a 10)) rfl dX10_undo_1 ?_
  refine lv_bipush (v := nI (7)) hx hb dX10_undo_4 (by decide) ?_
  refine ald_i hE hP (10) (gM_10 E a I tr) (by omega) (by decide) (r := nI (I (16) (7))) rfl dX10_undo_6 ?_
  refine bZ_ne (tgt := 13) hx hb (by omega) dX10_undo_7 (by decide) (fun c7 => ?_) (fun c7 => ?_)
  · have hm := h10.2 (I 16 7 - 1) (by omega)
    have hm7 := h7 _ hm.1
    refine lv_aload_n hx hb dX10_undo_13 rfl (lv_at hl 0 rfl) ?_
    refine gf_X10_38 hE hP (0) (gM_0 E a I tr) (v := .ref (a 10)) rfl dX10_undo_14 ?_
    refine lv_bipush (v := nI (7)) hx hb dX10_undo_17 (by decide) ?_
    refine lv_dup2_11 hx hb dX10_undo_19 rfl rfl ?_
    refine ald_i hE hP (10) (gM_10 E a I tr) (by omega) (by decide) (r := nI (I (16) (7))) rfl dX10_undo_20 ?_
    refine lv_iconst (v := nI (1)) hx hb dX10_undo_21 (by decide) ?_
    refine lv_isub hx hb dX10_undo_22 ?_
    refine tp (pk_sub (by omega)) ?_
    refine ast_i hE hP hD hS (10) (gM_10 E a I tr) (by omega) (by decide) (sM_10 E a I tr (7) (I (16) (7) - (1))) dX10_undo_23 (fun H locs hP hD hS => ?_)
    refine lv_aload_n hx hb dX10_undo_24 rfl (lv_at hl 0 rfl) ?_
    refine gf_X10_38 hE hP (0) (gM_0 E a (up2 I (16) (7) (I (16) (7) - (1))) tr) (v := .ref (a 10)) rfl dX10_undo_25 ?_
    refine lv_bipush (v := nI (8)) hx hb dX10_undo_28 (by decide) ?_
    refine lv_aload_n hx hb dX10_undo_30 rfl (lv_at hl 0 rfl) ?_
    refine gf_X10_38 hE hP (0) (gM_0 E a (up2 I (16) (7) (I (16) (7) - (1))) tr) (v := .ref (a 10)) rfl dX10_undo_31 ?_
    refine lv_bipush (v := nI (7)) hx hb dX10_undo_34 (by decide) ?_
    refine ald_i hE hP (10) (gM_10 E a (up2 I (16) (7) (I (16) (7) - (1))) tr) (by omega) (by decide) (r := nI (I (16) (7) - (1))) rfl dX10_undo_36 ?_
    refine lv_iadd hx hb dX10_undo_37 ?_
    refine tp (nI_add _ _) ?_
    refine ald_i hE hP (10) (gM_10 E a (up2 I (16) (7) (I (16) (7) - (1))) tr) (by omega) (by decide) (r := nI (I (16) (8 + (I (16) (7) - (1))))) (congrArg nI ((up2_ne _ _ (by omega)).trans rfl)) dX10_undo_38 ?_
    refine lv_istore_n (lv' := [(1, .int (nI (I (16) (8 + (I (16) (7) - (1)))))), (0, .ref (a 0))]) hx hb dX10_undo_39 rfl hl (by decide) rfl (fun ls hl => ?_)
    refine lv_aload_n hx hb dX10_undo_40 rfl (lv_at hl 1 rfl) ?_
    refine gf_X10_38 hE hP (0) (gM_0 E a (up2 I (16) (7) (I (16) (7) - (1))) tr) (v := .ref (a 10)) rfl dX10_undo_41 ?_
    refine lv_iconst (v := nI (1)) hx hb dX10_undo_44 (by decide) ?_
    refine lv_iload_n hx hb dX10_undo_45 rfl (lv_at hl 0 rfl) ?_
    refine lv_iadd hx hb dX10_undo_46 ?_
    refine tp (nI_add _ _) ?_
    refine lv_aload_n hx hb dX10_undo_47 rfl (lv_at hl 1 rfl) ?_
    refine gf_X10_38 hE hP (0) (gM_0 E a (up2 I (16) (7) (I (16) (7) - (1))) tr) (v := .ref (a 10)) rfl dX10_undo_48 ?_
    refine lv_iconst (v := nI (1)) hx hb dX10_undo_51 (by decide) ?_
    refine lv_iload_n hx hb dX10_undo_52 rfl (lv_at hl 0 rfl) ?_
    refine lv_iadd hx hb dX10_undo_53 ?_
    refine tp (nI_add _ _) ?_
    refine ald_i hE hP (10) (gM_10 E a (up2 I (16) (7) (I (16) (7) - (1))) tr) (by omega) (by decide) (r := nI (I (16) (1 + (I (16) (8 + (I (16) (7) - (1))))))) (congrArg nI ((up2_ne _ _ (by omega)).trans rfl)) dX10_undo_54 ?_
    refine lv_bipush (v := nI (48)) hx hb dX10_undo_55 (by decide) ?_
    refine lv_iadd hx hb dX10_undo_57 ?_
    refine tp (nI_add _ _) ?_
    refine lv_aload_n hx hb dX10_undo_58 rfl (lv_at hl 1 rfl) ?_
    refine gf_X10_38 hE hP (0) (gM_0 E a (up2 I (16) (7) (I (16) (7) - (1))) tr) (v := .ref (a 10)) rfl dX10_undo_59 ?_
    refine lv_bipush (v := nI (18)) hx hb dX10_undo_62 (by decide) ?_
    refine lv_aload_n hx hb dX10_undo_64 rfl (lv_at hl 1 rfl) ?_
    refine gf_X10_38 hE hP (0) (gM_0 E a (up2 I (16) (7) (I (16) (7) - (1))) tr) (v := .ref (a 10)) rfl dX10_undo_65 ?_
    refine lv_bipush (v := nI (7)) hx hb dX10_undo_68 (by decide) ?_
    refine ald_i hE hP (10) (gM_10 E a (up2 I (16) (7) (I (16) (7) - (1))) tr) (by omega) (by decide) (r := nI (I (16) (7) - (1))) rfl dX10_undo_70 ?_
    refine lv_iadd hx hb dX10_undo_71 ?_
    refine tp (nI_add _ _) ?_
    refine ald_i hE hP (10) (gM_10 E a (up2 I (16) (7) (I (16) (7) - (1))) tr) (by omega) (by decide) (r := nI (I (16) (18 + (I (16) (7) - (1))))) (congrArg nI ((up2_ne _ _ (by omega)).trans rfl)) dX10_undo_72 ?_
    refine lv_isub hx hb dX10_undo_73 ?_
    refine tp (pk_sub (by omega)) ?_
    refine lv_bipush (v := nI (48)) hx hb dX10_undo_74 (by decide) ?_
    refine lv_irem hx hb dX10_undo_76 (nI_ne0 (by omega) (by omega)) ?_
    refine tp (pk_rem (by omega) (by omega) (by omega)) ?_
    refine ast_i hE hP hD hS (10) (gM_10 E a (up2 I (16) (7) (I (16) (7) - (1))) tr) (by omega) (by decide) (sM_10 E a (up2 I (16) (7) (I (16) (7) - (1))) tr (1 + (I (16) (8 + (I (16) (7) - (1))))) ((I (16) (1 + (I (16) (8 + (I (16) (7) - (1))))) + 48 - (I (16) (18 + (I (16) (7) - (1))))) % (48))) dX10_undo_77 (fun H locs hP hD hS => ?_)
    refine lv_iload_n hx hb dX10_undo_78 rfl (lv_at hl 0 rfl) ?_
    have hw : (up2 (up2 I (16) (7) (I (16) (7) - (1))) (16) (1 + (I (16) (8 + (I (16) (7) - (1))))) ((I (16) (1 + (I (16) (8 + (I (16) (7) - (1))))) + 48 - (I (16) (18 + (I (16) (7) - (1))))) % (48))) = (undJ I) := by unfold undJ; rw [if_neg (by omega)]; rfl
    have hP := Eq.mp (congrArg (fun q => va_P E.1 vwCl (WM E a q tr) H) hw) hP
    have hD := Eq.mp (congrArg (fun q => va_D A (WM E a q tr)) hw) hD
    exact ret_i hE (r := nI (I (16) (8 + (I (16) (7) - (1))))) (by unfold r_undo; rw [if_neg (show ¬ I 16 7 = 0 by omega)]) hP hD hS dX10_undo_79
  · refine lv_bipush (v := (-2)) hx hb dX10_undo_10 (by decide) ?_
    have hw : I = (undJ I) := by unfold undJ; exact (if_pos c7).symm
    have hP := Eq.mp (congrArg (fun q => va_P E.1 vwCl (WM E a q tr) H) hw) hP
    have hD := Eq.mp (congrArg (fun q => va_D A (WM E a q tr)) hw) hD
    exact ret_i hE (r := (-2)) (by unfold r_undo; rw [if_pos c7]) hP hD hS dX10_undo_12

set_option maxHeartbeats 4000000 in
set_option maxRecDepth 100000 in
theorem ct_X10_errand (l : Launch) (E : cE) (a : Nat → Nat) (I : Nat → Nat → Nat) (tr : Int64) (zp0 zp1 zp2 zp3 : Int32) (hI : KM I) (h44 : I 19 0 ≤ 4) : Ct l E 2 yX10_errand cX10_errand 5 (some .int) [.ref (a 0), .int (zp0), .int (zp1), .int (zp2), .int (zp3)] (WM E a I tr) (some (.int (r_errand (I 2 0) (I 19 0) zp0 zp1 zp2 zp3))) (WM E a (errJ I zp0 zp1 zp2 zp3) tr) := by
  refine Ct_of (plainFor_of_name (by decide)) (Nat.le_of_ble_eq_true rfl) ?_
  intro p e s m args below meth c A ls hE hP hD hS hl
  have hE : cEnv p s m args meth c E RX10 cX10_errand 5 (some .int) A := hE
  have hx := hE.1
  have hb := hE.2.1
  have hl : lv_has ls 5 [(0, .ref (a 0)), (1, .int (zp0)), (2, .int (zp1)), (3, .int (zp2)), (4, .int (zp3))] := hl
  have hP : va_P E.1 vwCl (WM E a I tr) s.heap := hP
  generalize hH : s.heap = H at hP hS ⊢
  have hS : va_S A s.heap H [] := by rw [hH]; exact hS
  clear hH
  have hc6 := hI.1
  refine lv_aload_n hx hb dX10_errand_0 rfl (lv_at hl 0 rfl) ?_
  refine lv_iload_n hx hb dX10_errand_1 rfl (lv_at hl 1 rfl) ?_
  refine call_V (As := [.int (zp0)]) (rest := []) hE (ct_X10_isHouse l E a I tr ((zp0)) hI.1) cm_X10_isHouse (uw mt_L_X10_125 rfl) (gM_0 E a I tr) rfl rfl hP hD hS hl.1 rfl rfl (Nat.le_of_ble_eq_true rfl) ⟨by decide, by decide⟩ dX10_errand_2 (fun H locs hP hD hS => ?_)
  refine W.eq (g2 := F0 m 5 ls [.int (bB (inB ((zp0)) (I 2 0)))]) rfl ?_
  refine bB_eq (tgt := 33) hx hb dX10_errand_5 (by decide) (fun c5 => ?_) (fun c5 => ?_)
  · refine lv_iconst (v := (-1)) hx hb dX10_errand_33 (by decide) ?_
    have hw : I = (errJ I zp0 zp1 zp2 zp3) := by first | (simp only [errJ, okE, c5, Bool.true_and, Bool.false_and, Bool.and_false, cond_false]; done) | (simp only [errJ, okE, c5, c12, Bool.true_and, Bool.false_and, Bool.and_false, cond_false]; done) | (simp only [errJ, okE, c5, c12, c19, Bool.true_and, Bool.false_and, Bool.and_false, cond_false]; done) | (simp only [errJ, okE, c5, c12, c19, c30, Bool.true_and, Bool.false_and, Bool.and_false, cond_false]; done)
    have hP := Eq.mp (congrArg (fun q => va_P E.1 vwCl (WM E a q tr) H) hw) hP
    have hD := Eq.mp (congrArg (fun q => va_D A (WM E a q tr)) hw) hD
    exact ret_i hE (r := (-1)) (by first | (simp only [r_errand, okE, c5, Bool.true_and, Bool.false_and, Bool.and_false, cond_false]; done) | (simp only [r_errand, okE, c5, c12, Bool.true_and, Bool.false_and, Bool.and_false, cond_false]; done) | (simp only [r_errand, okE, c5, c12, c19, Bool.true_and, Bool.false_and, Bool.and_false, cond_false]; done) | (simp only [r_errand, okE, c5, c12, c19, c30, Bool.true_and, Bool.false_and, Bool.and_false, cond_false]; done)) hP hD hS dX10_errand_34
  · obtain ⟨h, qh, rfl⟩ := inB_t (by omega) c5
    have kh : tn (nI h) = h := tn_nI (by omega)
    refine lv_iload_n hx hb dX10_errand_8 rfl (lv_at hl 2 rfl) ?_
    refine call_S (As := [.int (zp1)]) (rest := []) hE (ct_X10_isNumber l E (WM E a I tr) ((zp1))) cm_X10_isNumber (uw mt_L_X10_138 rfl) hP hD hS hl.1 rfl rfl (Nat.le_of_ble_eq_true rfl) ⟨by decide, by decide⟩ dX10_errand_9 (fun H locs hP hD hS => ?_)
    refine W.eq (g2 := F0 m 12 ls [.int (bB (inB ((zp1)) 48))]) rfl ?_
    refine bB_eq (tgt := 33) hx hb dX10_errand_12 (by decide) (fun c12 => ?_) (fun c12 => ?_)
    · refine lv_iconst (v := (-1)) hx hb dX10_errand_33 (by decide) ?_
      have hw : I = (errJ I (nI h) zp1 zp2 zp3) := by first | (simp only [errJ, okE, c5, Bool.true_and, Bool.false_and, Bool.and_false, cond_false]; done) | (simp only [errJ, okE, c5, c12, Bool.true_and, Bool.false_and, Bool.and_false, cond_false]; done) | (simp only [errJ, okE, c5, c12, c19, Bool.true_and, Bool.false_and, Bool.and_false, cond_false]; done) | (simp only [errJ, okE, c5, c12, c19, c30, Bool.true_and, Bool.false_and, Bool.and_false, cond_false]; done)
      have hP := Eq.mp (congrArg (fun q => va_P E.1 vwCl (WM E a q tr) H) hw) hP
      have hD := Eq.mp (congrArg (fun q => va_D A (WM E a q tr)) hw) hD
      exact ret_i hE (r := (-1)) (by first | (simp only [r_errand, okE, c5, Bool.true_and, Bool.false_and, Bool.and_false, cond_false]; done) | (simp only [r_errand, okE, c5, c12, Bool.true_and, Bool.false_and, Bool.and_false, cond_false]; done) | (simp only [r_errand, okE, c5, c12, c19, Bool.true_and, Bool.false_and, Bool.and_false, cond_false]; done) | (simp only [r_errand, okE, c5, c12, c19, c30, Bool.true_and, Bool.false_and, Bool.and_false, cond_false]; done)) hP hD hS dX10_errand_34
    · obtain ⟨f, qf, rfl⟩ := inB_t (by omega) c12
      have kf : tn (nI f) = f := tn_nI (by omega)
      refine lv_iload_n hx hb dX10_errand_15 rfl (lv_at hl 3 rfl) ?_
      refine call_S (As := [.int (zp2)]) (rest := []) hE (ct_X10_isNumber l E (WM E a I tr) ((zp2))) cm_X10_isNumber (uw mt_L_X10_138 rfl) hP hD hS hl.1 rfl rfl (Nat.le_of_ble_eq_true rfl) ⟨by decide, by decide⟩ dX10_errand_16 (fun H locs hP hD hS => ?_)
      refine W.eq (g2 := F0 m 19 ls [.int (bB (inB ((zp2)) 48))]) rfl ?_
      refine bB_eq (tgt := 33) hx hb dX10_errand_19 (by decide) (fun c19 => ?_) (fun c19 => ?_)
      · refine lv_iconst (v := (-1)) hx hb dX10_errand_33 (by decide) ?_
        have hw : I = (errJ I (nI h) (nI f) zp2 zp3) := by first | (simp only [errJ, okE, c5, Bool.true_and, Bool.false_and, Bool.and_false, cond_false]; done) | (simp only [errJ, okE, c5, c12, Bool.true_and, Bool.false_and, Bool.and_false, cond_false]; done) | (simp only [errJ, okE, c5, c12, c19, Bool.true_and, Bool.false_and, Bool.and_false, cond_false]; done) | (simp only [errJ, okE, c5, c12, c19, c30, Bool.true_and, Bool.false_and, Bool.and_false, cond_false]; done)
        have hP := Eq.mp (congrArg (fun q => va_P E.1 vwCl (WM E a q tr) H) hw) hP
        have hD := Eq.mp (congrArg (fun q => va_D A (WM E a q tr)) hw) hD
        exact ret_i hE (r := (-1)) (by first | (simp only [r_errand, okE, c5, Bool.true_and, Bool.false_and, Bool.and_false, cond_false]; done) | (simp only [r_errand, okE, c5, c12, Bool.true_and, Bool.false_and, Bool.and_false, cond_false]; done) | (simp only [r_errand, okE, c5, c12, c19, Bool.true_and, Bool.false_and, Bool.and_false, cond_false]; done) | (simp only [r_errand, okE, c5, c12, c19, c30, Bool.true_and, Bool.false_and, Bool.and_false, cond_false]; done)) hP hD hS dX10_errand_34
      · obtain ⟨t, qt, rfl⟩ := inB_t (by omega) c19
        have kt : tn (nI t) = t := tn_nI (by omega)
        refine lv_iload hx hb dX10_errand_22 (lv_at hl 4 rfl) ?_
        refine lv_iconst (v := nI (0)) hx hb dX10_errand_24 (by decide) ?_
        refine lv_bipush (v := nI (9)) hx hb dX10_errand_25 (by decide) ?_
        refine call_S (As := [.int (zp3), .int (nI (0)), .int (nI (9))]) (rest := []) hE (ct_X10_in l E (WM E a I tr) ((zp3)) (nI (0)) (nI (9))) cm_X10_in (uw mt_L_X10_63 rfl) hP hD hS hl.1 rfl rfl (Nat.le_of_ble_eq_true rfl) ⟨by decide, by decide⟩ dX10_errand_27 (fun H locs hP hD hS => ?_)
        refine W.eq (g2 := F0 m 30 ls [.int (bB (wi ((zp3)) (nI (0)) (nI (9))))]) rfl ?_
        refine bB_ne (tgt := 35) hx hb dX10_errand_30 (by decide) (fun c30 => ?_) (fun c30 => ?_)
        · obtain ⟨q, qq1, qq2, rfl⟩ := wi_of (by decide) (by decide) c30
          have kq : tn (nI q) = q := tn_nI (by omega)
          refine lv_aload_n hx hb dX10_errand_35 rfl (lv_at hl 0 rfl) ?_
          refine gf_X10_116 hE hP (0) (gM_0 E a I tr) (v := .int (nI (I (19) (0)))) rfl dX10_errand_36 ?_
          refine lv_iconst (v := nI (4)) hx hb dX10_errand_39 (by decide) ?_
          refine bN_ne (tgt := 46) hx hb (by omega) (by omega) dX10_errand_40 (by decide) (fun c40 => ?_) (fun c40 => ?_)
          · refine lv_aload_n hx hb dX10_errand_46 rfl (lv_at hl 0 rfl) ?_
            refine gf_X10_45 hE hP (0) (gM_0 E a I tr) (v := .ref (a 12)) rfl dX10_errand_47 ?_
            refine lv_iconst (v := nI (4)) hx hb dX10_errand_50 (by decide) ?_
            refine lv_aload_n hx hb dX10_errand_51 rfl (lv_at hl 0 rfl) ?_
            refine gf_X10_116 hE hP (0) (gM_0 E a I tr) (v := .int (nI (I (19) (0)))) rfl dX10_errand_52 ?_
            refine lv_imul hx hb dX10_errand_55 ?_
            refine tp (pk_mul _ _) ?_
            refine lv_iload_n hx hb dX10_errand_56 rfl (lv_at hl 1 rfl) ?_
            refine ast_i hE hP hD hS (12) (gM_12 E a I tr) (by omega) (by decide) (sM_12 E a I tr ((4) * (I (19) (0))) (h)) dX10_errand_57 (fun H locs hP hD hS => ?_)
            refine lv_aload_n hx hb dX10_errand_58 rfl (lv_at hl 0 rfl) ?_
            refine gf_X10_45 hE hP (0) (gM_0 E a (up2 I (18) ((4) * (I (19) (0))) (h)) tr) (v := .ref (a 12)) rfl dX10_errand_59 ?_
            refine lv_iconst (v := nI (4)) hx hb dX10_errand_62 (by decide) ?_
            refine lv_aload_n hx hb dX10_errand_63 rfl (lv_at hl 0 rfl) ?_
            refine gf_X10_116 hE hP (0) (gM_0 E a (up2 I (18) ((4) * (I (19) (0))) (h)) tr) (v := .int (nI (I (19) (0)))) rfl dX10_errand_64 ?_
            refine lv_imul hx hb dX10_errand_67 ?_
            refine tp (pk_mul _ _) ?_
            refine lv_iconst (v := nI (1)) hx hb dX10_errand_68 (by decide) ?_
            refine lv_iadd hx hb dX10_errand_69 ?_
            refine tp (nI_add _ _) ?_
            refine lv_iload_n hx hb dX10_errand_70 rfl (lv_at hl 2 rfl) ?_
            refine ast_i hE hP hD hS (12) (gM_12 E a (up2 I (18) ((4) * (I (19) (0))) (h)) tr) (by omega) (by decide) (sM_12 E a (up2 I (18) ((4) * (I (19) (0))) (h)) tr ((4) * (I (19) (0)) + 1) (f)) dX10_errand_71 (fun H locs hP hD hS => ?_)
            refine lv_aload_n hx hb dX10_errand_72 rfl (lv_at hl 0 rfl) ?_
            refine gf_X10_45 hE hP (0) (gM_0 E a (up2 (up2 I (18) ((4) * (I (19) (0))) (h)) (18) ((4) * (I (19) (0)) + 1) (f)) tr) (v := .ref (a 12)) rfl dX10_errand_73 ?_
            refine lv_iconst (v := nI (4)) hx hb dX10_errand_76 (by decide) ?_
            refine lv_aload_n hx hb dX10_errand_77 rfl (lv_at hl 0 rfl) ?_
            refine gf_X10_116 hE hP (0) (gM_0 E a (up2 (up2 I (18) ((4) * (I (19) (0))) (h)) (18) ((4) * (I (19) (0)) + 1) (f)) tr) (v := .int (nI (I (19) (0)))) rfl dX10_errand_78 ?_
            refine lv_imul hx hb dX10_errand_81 ?_
            refine tp (pk_mul _ _) ?_
            refine lv_iconst (v := nI (2)) hx hb dX10_errand_82 (by decide) ?_
            refine lv_iadd hx hb dX10_errand_83 ?_
            refine tp (nI_add _ _) ?_
            refine lv_iload_n hx hb dX10_errand_84 rfl (lv_at hl 3 rfl) ?_
            refine ast_i hE hP hD hS (12) (gM_12 E a (up2 (up2 I (18) ((4) * (I (19) (0))) (h)) (18) ((4) * (I (19) (0)) + 1) (f)) tr) (by omega) (by decide) (sM_12 E a (up2 (up2 I (18) ((4) * (I (19) (0))) (h)) (18) ((4) * (I (19) (0)) + 1) (f)) tr ((4) * (I (19) (0)) + 2) (t)) dX10_errand_85 (fun H locs hP hD hS => ?_)
            refine lv_aload_n hx hb dX10_errand_86 rfl (lv_at hl 0 rfl) ?_
            refine gf_X10_45 hE hP (0) (gM_0 E a (up2 (up2 (up2 I (18) ((4) * (I (19) (0))) (h)) (18) ((4) * (I (19) (0)) + 1) (f)) (18) ((4) * (I (19) (0)) + 2) (t)) tr) (v := .ref (a 12)) rfl dX10_errand_87 ?_
            refine lv_iconst (v := nI (4)) hx hb dX10_errand_90 (by decide) ?_
            refine lv_aload_n hx hb dX10_errand_91 rfl (lv_at hl 0 rfl) ?_
            refine gf_X10_116 hE hP (0) (gM_0 E a (up2 (up2 (up2 I (18) ((4) * (I (19) (0))) (h)) (18) ((4) * (I (19) (0)) + 1) (f)) (18) ((4) * (I (19) (0)) + 2) (t)) tr) (v := .int (nI (I (19) (0)))) rfl dX10_errand_92 ?_
            refine lv_imul hx hb dX10_errand_95 ?_
            refine tp (pk_mul _ _) ?_
            refine lv_iconst (v := nI (3)) hx hb dX10_errand_96 (by decide) ?_
            refine lv_iadd hx hb dX10_errand_97 ?_
            refine tp (nI_add _ _) ?_
            refine lv_iload hx hb dX10_errand_98 (lv_at hl 4 rfl) ?_
            refine ast_i hE hP hD hS (12) (gM_12 E a (up2 (up2 (up2 I (18) ((4) * (I (19) (0))) (h)) (18) ((4) * (I (19) (0)) + 1) (f)) (18) ((4) * (I (19) (0)) + 2) (t)) tr) (by omega) (by decide) (sM_12 E a (up2 (up2 (up2 I (18) ((4) * (I (19) (0))) (h)) (18) ((4) * (I (19) (0)) + 1) (f)) (18) ((4) * (I (19) (0)) + 2) (t)) tr ((4) * (I (19) (0)) + 3) (q)) dX10_errand_100 (fun H locs hP hD hS => ?_)
            refine lv_aload_n hx hb dX10_errand_101 rfl (lv_at hl 0 rfl) ?_
            refine lv_dup hx hb dX10_errand_102 rfl ?_
            refine gf_X10_116 hE hP (0) (gM_0 E a (up2 (up2 (up2 (up2 I (18) ((4) * (I (19) (0))) (h)) (18) ((4) * (I (19) (0)) + 1) (f)) (18) ((4) * (I (19) (0)) + 2) (t)) (18) ((4) * (I (19) (0)) + 3) (q)) tr) (v := .int (nI (I (19) (0)))) rfl dX10_errand_103 ?_
            refine lv_iconst (v := nI (1)) hx hb dX10_errand_106 (by decide) ?_
            refine lv_iadd hx hb dX10_errand_107 ?_
            refine tp (nI_add _ _) ?_
            refine pf_X10_116 hE hP hD hS (0) (gM_0 E a (up2 (up2 (up2 (up2 I (18) ((4) * (I (19) (0))) (h)) (18) ((4) * (I (19) (0)) + 1) (f)) (18) ((4) * (I (19) (0)) + 2) (t)) (18) ((4) * (I (19) (0)) + 3) (q)) tr) rfl rfl (Nat.le_of_ble_eq_true rfl) (sM_0_20 E a (up2 (up2 (up2 (up2 I (18) ((4) * (I (19) (0))) (h)) (18) ((4) * (I (19) (0)) + 1) (f)) (18) ((4) * (I (19) (0)) + 2) (t)) (18) ((4) * (I (19) (0)) + 3) (q)) tr (I (19) (0) + 1)) dX10_errand_108 (fun H locs hP hD hS => ?_)
            refine lv_aload_n hx hb dX10_errand_111 rfl (lv_at hl 0 rfl) ?_
            refine gf_X10_116 hE hP (0) (gM_0 E a (up2 (up2 (up2 (up2 (up2 I (18) ((4) * (I (19) (0))) (h)) (18) ((4) * (I (19) (0)) + 1) (f)) (18) ((4) * (I (19) (0)) + 2) (t)) (18) ((4) * (I (19) (0)) + 3) (q)) (19) (0) (I (19) (0) + 1)) tr) (v := .int (nI (I (19) (0) + 1))) rfl dX10_errand_112 ?_
            have hw : (up2 (up2 (up2 (up2 (up2 I (18) ((4) * (I (19) (0))) (h)) (18) ((4) * (I (19) (0)) + 1) (f)) (18) ((4) * (I (19) (0)) + 2) (t)) (18) ((4) * (I (19) (0)) + 3) (q)) (19) (0) (I (19) (0) + 1)) = (errJ I (nI h) (nI f) (nI t) (nI q)) := by simp only [errJ, okE, c5, c12, c19, c30, kh, kf, kt, kq, Bool.true_and, cond_true]; rw [if_pos (by omega)]; rfl
            have hP := Eq.mp (congrArg (fun q => va_P E.1 vwCl (WM E a q tr) H) hw) hP
            have hD := Eq.mp (congrArg (fun q => va_D A (WM E a q tr)) hw) hD
            exact ret_i hE (r := nI (I (19) (0) + 1)) (by simp only [r_errand, okE, c5, c12, c19, c30, Bool.true_and, cond_true]; rw [if_pos (by omega)]) hP hD hS dX10_errand_115
          · refine lv_bipush (v := (-3)) hx hb dX10_errand_43 (by decide) ?_
            have hw : I = (errJ I (nI h) (nI f) (nI t) (nI q)) := by simp only [errJ, okE, c5, c12, c19, c30, Bool.true_and, cond_true]; rw [if_neg (by omega)]
            have hP := Eq.mp (congrArg (fun q => va_P E.1 vwCl (WM E a q tr) H) hw) hP
            have hD := Eq.mp (congrArg (fun q => va_D A (WM E a q tr)) hw) hD
            exact ret_i hE (r := (-3)) (by simp only [r_errand, okE, c5, c12, c19, c30, Bool.true_and, cond_true]; rw [if_neg (by omega)]) hP hD hS dX10_errand_45
        · refine lv_iconst (v := (-1)) hx hb dX10_errand_33 (by decide) ?_
          have hw : I = (errJ I (nI h) (nI f) (nI t) zp3) := by first | (simp only [errJ, okE, c5, Bool.true_and, Bool.false_and, Bool.and_false, cond_false]; done) | (simp only [errJ, okE, c5, c12, Bool.true_and, Bool.false_and, Bool.and_false, cond_false]; done) | (simp only [errJ, okE, c5, c12, c19, Bool.true_and, Bool.false_and, Bool.and_false, cond_false]; done) | (simp only [errJ, okE, c5, c12, c19, c30, Bool.true_and, Bool.false_and, Bool.and_false, cond_false]; done)
          have hP := Eq.mp (congrArg (fun q => va_P E.1 vwCl (WM E a q tr) H) hw) hP
          have hD := Eq.mp (congrArg (fun q => va_D A (WM E a q tr)) hw) hD
          exact ret_i hE (r := (-1)) (by first | (simp only [r_errand, okE, c5, Bool.true_and, Bool.false_and, Bool.and_false, cond_false]; done) | (simp only [r_errand, okE, c5, c12, Bool.true_and, Bool.false_and, Bool.and_false, cond_false]; done) | (simp only [r_errand, okE, c5, c12, c19, Bool.true_and, Bool.false_and, Bool.and_false, cond_false]; done) | (simp only [r_errand, okE, c5, c12, c19, c30, Bool.true_and, Bool.false_and, Bool.and_false, cond_false]; done)) hP hD hS dX10_errand_34

set_option maxHeartbeats 4000000 in
set_option maxRecDepth 100000 in
theorem ct_X10_rests (l : Launch) (E : cE) (a : Nat → Nat) (I : Nat → Nat → Nat) (tr : Int64) (h44 : I 19 0 ≤ 4) : Ct l E 0 yX10_rests cX10_rests 2 (some .int) [.ref (a 0)] (WM E a I tr) (some (.int (nI (I 19 0)))) (WM E a (up2 I 19 0 0) tr) := by
  refine Ct_of (plainFor_of_name (by decide)) (Nat.le_of_ble_eq_true rfl) ?_
  intro p e s m args below meth c A ls hE hP hD hS hl
  have hE : cEnv p s m args meth c E RX10 cX10_rests 2 (some .int) A := hE
  have hx := hE.1
  have hb := hE.2.1
  have hl : lv_has ls 2 [(0, .ref (a 0))] := hl
  have hP : va_P E.1 vwCl (WM E a I tr) s.heap := hP
  generalize hH : s.heap = H at hP hS ⊢
  have hS : va_S A s.heap H [] := by rw [hH]; exact hS
  clear hH
  refine lv_aload_n hx hb dX10_rests_0 rfl (lv_at hl 0 rfl) ?_
  refine gf_X10_116 hE hP (0) (gM_0 E a I tr) (v := .int (nI (I (19) (0)))) rfl dX10_rests_1 ?_
  refine lv_istore_n (lv' := [(1, .int (nI (I (19) (0)))), (0, .ref (a 0))]) hx hb dX10_rests_4 rfl hl (by decide) rfl (fun ls hl => ?_)
  refine lv_aload_n hx hb dX10_rests_5 rfl (lv_at hl 1 rfl) ?_
  refine lv_iconst (v := nI (0)) hx hb dX10_rests_6 (by decide) ?_
  refine pf_X10_116 hE hP hD hS (0) (gM_0 E a I tr) rfl rfl (Nat.le_of_ble_eq_true rfl) (sM_0_20 E a I tr (0)) dX10_rests_7 (fun H locs hP hD hS => ?_)
  refine lv_iload_n hx hb dX10_rests_10 rfl (lv_at hl 0 rfl) ?_
  exact ret_i hE (r := nI (I (19) (0))) (rfl) hP hD hS dX10_rests_11

set_option maxHeartbeats 4000000 in
set_option maxRecDepth 100000 in
theorem ct_X10_forget (l : Launch) (E : cE) (a : Nat → Nat) (I : Nat → Nat → Nat) (tr : Int64) (h44 : I 24 0 ≤ 8) : Ct l E 0 yX10_forget cX10_forget 2 (some .int) [.ref (a 0)] (WM E a I tr) (some (.int (nI (I 24 0)))) (WM E a (up2 I 24 0 0) tr) := by
  refine Ct_of (plainFor_of_name (by decide)) (Nat.le_of_ble_eq_true rfl) ?_
  intro p e s m args below meth c A ls hE hP hD hS hl
  have hE : cEnv p s m args meth c E RX10 cX10_forget 2 (some .int) A := hE
  have hx := hE.1
  have hb := hE.2.1
  have hl : lv_has ls 2 [(0, .ref (a 0))] := hl
  have hP : va_P E.1 vwCl (WM E a I tr) s.heap := hP
  generalize hH : s.heap = H at hP hS ⊢
  have hS : va_S A s.heap H [] := by rw [hH]; exact hS
  clear hH
  refine lv_aload_n hx hb dX10_forget_0 rfl (lv_at hl 0 rfl) ?_
  refine gf_X10_119 hE hP (0) (gM_0 E a I tr) (v := .int (nI (I (24) (0)))) rfl dX10_forget_1 ?_
  refine lv_istore_n (lv' := [(1, .int (nI (I (24) (0)))), (0, .ref (a 0))]) hx hb dX10_forget_4 rfl hl (by decide) rfl (fun ls hl => ?_)
  refine lv_aload_n hx hb dX10_forget_5 rfl (lv_at hl 1 rfl) ?_
  refine lv_iconst (v := nI (0)) hx hb dX10_forget_6 (by decide) ?_
  refine pf_X10_119 hE hP hD hS (0) (gM_0 E a I tr) rfl rfl (Nat.le_of_ble_eq_true rfl) (sM_0_25 E a I tr (0)) dX10_forget_7 (fun H locs hP hD hS => ?_)
  refine lv_iload_n hx hb dX10_forget_10 rfl (lv_at hl 0 rfl) ?_
  exact ret_i hE (r := nI (I (24) (0))) (rfl) hP hD hS dX10_forget_11

set_option maxHeartbeats 4000000 in
set_option maxRecDepth 100000 in
theorem ct_X10_clear (l : Launch) (E : cE) (a : Nat → Nat) (I : Nat → Nat → Nat) (tr : Int64) (h44 : I 1 0 ≤ 300) : Ct l E 0 yX10_clear cX10_clear 2 (some .int) [.ref (a 0)] (WM E a I tr) (some (.int (nI (I 1 0)))) (WM E a (up2 I 1 0 0) tr) := by
  refine Ct_of (plainFor_of_name (by decide)) (Nat.le_of_ble_eq_true rfl) ?_
  intro p e s m args below meth c A ls hE hP hD hS hl
  have hE : cEnv p s m args meth c E RX10 cX10_clear 2 (some .int) A := hE
  have hx := hE.1
  have hb := hE.2.1
  have hl : lv_has ls 2 [(0, .ref (a 0))] := hl
  have hP : va_P E.1 vwCl (WM E a I tr) s.heap := hP
  generalize hH : s.heap = H at hP hS ⊢
  have hS : va_S A s.heap H [] := by rw [hH]; exact hS
  clear hH
  refine lv_aload_n hx hb dX10_clear_0 rfl (lv_at hl 0 rfl) ?_
  refine gf_X10_67 hE hP (0) (gM_0 E a I tr) (v := .int (nI (I (1) (0)))) rfl dX10_clear_1 ?_
  refine lv_istore_n (lv' := [(1, .int (nI (I (1) (0)))), (0, .ref (a 0))]) hx hb dX10_clear_4 rfl hl (by decide) rfl (fun ls hl => ?_)
  refine lv_aload_n hx hb dX10_clear_5 rfl (lv_at hl 1 rfl) ?_
  refine lv_iconst (v := nI (0)) hx hb dX10_clear_6 (by decide) ?_
  refine pf_X10_67 hE hP hD hS (0) (gM_0 E a I tr) rfl rfl (Nat.le_of_ble_eq_true rfl) (sM_0_2 E a I tr (0)) dX10_clear_7 (fun H locs hP hD hS => ?_)
  refine lv_iload_n hx hb dX10_clear_10 rfl (lv_at hl 0 rfl) ?_
  exact ret_i hE (r := nI (I (1) (0))) (rfl) hP hD hS dX10_clear_11

set_option maxHeartbeats 4000000 in
set_option maxRecDepth 100000 in
theorem ct_X10_saw (l : Launch) (E : cE) (a : Nat → Nat) (I : Nat → Nat → Nat) (tr : Int64) (zp0 zp1 : Int32) (h47 : I 24 0 ≤ 8) : Ct l E 2 yX10_saw cX10_saw 3 (some .int) [.ref (a 0), .int (zp0), .int (zp1)] (WM E a I tr) (some (.int (r_saw (I 24 0) zp0 zp1))) (WM E a (sawJ I zp0 zp1) tr) := by
  refine Ct_of (plainFor_of_name (by decide)) (Nat.le_of_ble_eq_true rfl) ?_
  intro p e s m args below meth c A ls hE hP hD hS hl
  have hE : cEnv p s m args meth c E RX10 cX10_saw 3 (some .int) A := hE
  have hx := hE.1
  have hb := hE.2.1
  have hl : lv_has ls 3 [(0, .ref (a 0)), (1, .int (zp0)), (2, .int (zp1))] := hl
  have hP : va_P E.1 vwCl (WM E a I tr) s.heap := hP
  generalize hH : s.heap = H at hP hS ⊢
  have hS : va_S A s.heap H [] := by rw [hH]; exact hS
  clear hH
  refine lv_iload_n hx hb dX10_saw_0 rfl (lv_at hl 1 rfl) ?_
  refine call_S (As := [.int (zp0)]) (rest := []) hE (ct_X10_isQuarter l E (WM E a I tr) ((zp0))) cm_X10_isQuarter (uw mt_L_X10_132 rfl) hP hD hS hl.1 rfl rfl (Nat.le_of_ble_eq_true rfl) ⟨by decide, by decide⟩ dX10_saw_1 (fun H locs hP hD hS => ?_)
  refine W.eq (g2 := F0 m 4 ls [.int (bB (inB ((zp0)) 96))]) rfl ?_
  refine bB_eq (tgt := 14) hx hb dX10_saw_4 (by decide) (fun c4 => ?_) (fun c4 => ?_)
  · refine lv_iconst (v := (-1)) hx hb dX10_saw_14 (by decide) ?_
    have hw : I = (sawJ I zp0 zp1) := by first | (simp only [sawJ, c4, cond_false]; done) | (simp only [sawJ, c4, c11, cond_true, cond_false]; done)
    have hP := Eq.mp (congrArg (fun q => va_P E.1 vwCl (WM E a q tr) H) hw) hP
    have hD := Eq.mp (congrArg (fun q => va_D A (WM E a q tr)) hw) hD
    exact ret_i hE (r := (-1)) (by first | (simp only [r_saw, c4, cond_false]; done) | (simp only [r_saw, c4, c11, cond_true, cond_false]; done)) hP hD hS dX10_saw_15
  · obtain ⟨t, qt, rfl⟩ := inB_t (by omega) c4
    have kt : tn (nI t) = t := tn_nI (by omega)
    refine lv_iload_n hx hb dX10_saw_7 rfl (lv_at hl 2 rfl) ?_
    refine call_S (As := [.int (zp1)]) (rest := []) hE (ct_X10_isNumber l E (WM E a I tr) ((zp1))) cm_X10_isNumber (uw mt_L_X10_138 rfl) hP hD hS hl.1 rfl rfl (Nat.le_of_ble_eq_true rfl) ⟨by decide, by decide⟩ dX10_saw_8 (fun H locs hP hD hS => ?_)
    refine W.eq (g2 := F0 m 11 ls [.int (bB (inB ((zp1)) 48))]) rfl ?_
    refine bB_ne (tgt := 16) hx hb dX10_saw_11 (by decide) (fun c11 => ?_) (fun c11 => ?_)
    · obtain ⟨n, qn, rfl⟩ := inB_t (by omega) c11
      have kn : tn (nI n) = n := tn_nI (by omega)
      refine lv_aload_n hx hb dX10_saw_16 rfl (lv_at hl 0 rfl) ?_
      refine gf_X10_119 hE hP (0) (gM_0 E a I tr) (v := .int (nI (I (24) (0)))) rfl dX10_saw_17 ?_
      refine lv_bipush (v := nI (8)) hx hb dX10_saw_20 (by decide) ?_
      refine bN_ne (tgt := 28) hx hb (by omega) (by omega) dX10_saw_22 (by decide) (fun c22 => ?_) (fun c22 => ?_)
      · refine lv_aload_n hx hb dX10_saw_28 rfl (lv_at hl 0 rfl) ?_
        refine gf_X10_54 hE hP (0) (gM_0 E a I tr) (v := .ref (a 15)) rfl dX10_saw_29 ?_
        refine lv_aload_n hx hb dX10_saw_32 rfl (lv_at hl 0 rfl) ?_
        refine gf_X10_119 hE hP (0) (gM_0 E a I tr) (v := .int (nI (I (24) (0)))) rfl dX10_saw_33 ?_
        refine lv_iload_n hx hb dX10_saw_36 rfl (lv_at hl 1 rfl) ?_
        refine ast_i hE hP hD hS (15) (gM_15 E a I tr) (by omega) (by decide) (sM_15 E a I tr (I (24) (0)) (t)) dX10_saw_37 (fun H locs hP hD hS => ?_)
        refine lv_aload_n hx hb dX10_saw_38 rfl (lv_at hl 0 rfl) ?_
        refine gf_X10_57 hE hP (0) (gM_0 E a (up2 I (22) (I (24) (0)) (t)) tr) (v := .ref (a 16)) rfl dX10_saw_39 ?_
        refine lv_aload_n hx hb dX10_saw_42 rfl (lv_at hl 0 rfl) ?_
        refine gf_X10_119 hE hP (0) (gM_0 E a (up2 I (22) (I (24) (0)) (t)) tr) (v := .int (nI (I (24) (0)))) rfl dX10_saw_43 ?_
        refine lv_iload_n hx hb dX10_saw_46 rfl (lv_at hl 2 rfl) ?_
        refine ast_i hE hP hD hS (16) (gM_16 E a (up2 I (22) (I (24) (0)) (t)) tr) (by omega) (by decide) (sM_16 E a (up2 I (22) (I (24) (0)) (t)) tr (I (24) (0)) (n)) dX10_saw_47 (fun H locs hP hD hS => ?_)
        refine lv_aload_n hx hb dX10_saw_48 rfl (lv_at hl 0 rfl) ?_
        refine lv_dup hx hb dX10_saw_49 rfl ?_
        refine gf_X10_119 hE hP (0) (gM_0 E a (up2 (up2 I (22) (I (24) (0)) (t)) (23) (I (24) (0)) (n)) tr) (v := .int (nI (I (24) (0)))) rfl dX10_saw_50 ?_
        refine lv_iconst (v := nI (1)) hx hb dX10_saw_53 (by decide) ?_
        refine lv_iadd hx hb dX10_saw_54 ?_
        refine tp (nI_add _ _) ?_
        refine pf_X10_119 hE hP hD hS (0) (gM_0 E a (up2 (up2 I (22) (I (24) (0)) (t)) (23) (I (24) (0)) (n)) tr) rfl rfl (Nat.le_of_ble_eq_true rfl) (sM_0_25 E a (up2 (up2 I (22) (I (24) (0)) (t)) (23) (I (24) (0)) (n)) tr (I (24) (0) + 1)) dX10_saw_55 (fun H locs hP hD hS => ?_)
        refine lv_aload_n hx hb dX10_saw_58 rfl (lv_at hl 0 rfl) ?_
        refine gf_X10_119 hE hP (0) (gM_0 E a (up2 (up2 (up2 I (22) (I (24) (0)) (t)) (23) (I (24) (0)) (n)) (24) (0) (I (24) (0) + 1)) tr) (v := .int (nI (I (24) (0) + 1))) rfl dX10_saw_59 ?_
        have hw : (up2 (up2 (up2 I (22) (I (24) (0)) (t)) (23) (I (24) (0)) (n)) (24) (0) (I (24) (0) + 1)) = (sawJ I (nI t) (nI n)) := by simp only [sawJ, c4, c11, kt, kn, cond_true]; rw [if_pos (by omega)]; rfl
        have hP := Eq.mp (congrArg (fun q => va_P E.1 vwCl (WM E a q tr) H) hw) hP
        have hD := Eq.mp (congrArg (fun q => va_D A (WM E a q tr)) hw) hD
        exact ret_i hE (r := nI (I (24) (0) + 1)) (by simp only [r_saw, c4, c11, cond_true]; rw [if_pos (by omega)]) hP hD hS dX10_saw_62
      · refine lv_bipush (v := (-3)) hx hb dX10_saw_25 (by decide) ?_
        have hw : I = (sawJ I (nI t) (nI n)) := by simp only [sawJ, c4, c11, cond_true]; rw [if_neg (by omega)]
        have hP := Eq.mp (congrArg (fun q => va_P E.1 vwCl (WM E a q tr) H) hw) hP
        have hD := Eq.mp (congrArg (fun q => va_D A (WM E a q tr)) hw) hD
        exact ret_i hE (r := (-3)) (by simp only [r_saw, c4, c11, cond_true]; rw [if_neg (by omega)]) hP hD hS dX10_saw_27
    · refine lv_iconst (v := (-1)) hx hb dX10_saw_14 (by decide) ?_
      have hw : I = (sawJ I (nI t) zp1) := by first | (simp only [sawJ, c4, cond_false]; done) | (simp only [sawJ, c4, c11, cond_true, cond_false]; done)
      have hP := Eq.mp (congrArg (fun q => va_P E.1 vwCl (WM E a q tr) H) hw) hP
      have hD := Eq.mp (congrArg (fun q => va_D A (WM E a q tr)) hw) hD
      exact ret_i hE (r := (-1)) (by first | (simp only [r_saw, c4, cond_false]; done) | (simp only [r_saw, c4, c11, cond_true, cond_false]; done)) hP hD hS dX10_saw_15

set_option maxHeartbeats 4000000 in
set_option maxRecDepth 100000 in
theorem ct_X10_owes (l : Launch) (E : cE) (a : Nat → Nat) (I : Nat → Nat → Nat) (tr : Int64) (zp0 zp1 zp2 : Int32) (hI : KM I) (h55 : I 26 0 ≤ 8) : Ct l E 2 yX10_owes cX10_owes 4 (some .int) [.ref (a 0), .int (zp0), .int (zp1), .int (zp2)] (WM E a I tr) (some (.int (r_owes (I 2 0) (I 26 0) zp0 zp1 zp2))) (WM E a (oweJ I zp0 zp1 zp2) tr) := by
  refine Ct_of (plainFor_of_name (by decide)) (Nat.le_of_ble_eq_true rfl) ?_
  intro p e s m args below meth c A ls hE hP hD hS hl
  have hE : cEnv p s m args meth c E RX10 cX10_owes 4 (some .int) A := hE
  have hx := hE.1
  have hb := hE.2.1
  have hl : lv_has ls 4 [(0, .ref (a 0)), (1, .int (zp0)), (2, .int (zp1)), (3, .int (zp2))] := hl
  have hP : va_P E.1 vwCl (WM E a I tr) s.heap := hP
  generalize hH : s.heap = H at hP hS ⊢
  have hS : va_S A s.heap H [] := by rw [hH]; exact hS
  clear hH
  have hc6 := hI.1
  refine lv_aload_n hx hb dX10_owes_0 rfl (lv_at hl 0 rfl) ?_
  refine lv_iload_n hx hb dX10_owes_1 rfl (lv_at hl 1 rfl) ?_
  refine call_V (As := [.int (zp0)]) (rest := []) hE (ct_X10_isHouse l E a I tr ((zp0)) hI.1) cm_X10_isHouse (uw mt_L_X10_125 rfl) (gM_0 E a I tr) rfl rfl hP hD hS hl.1 rfl rfl (Nat.le_of_ble_eq_true rfl) ⟨by decide, by decide⟩ dX10_owes_2 (fun H locs hP hD hS => ?_)
  refine W.eq (g2 := F0 m 5 ls [.int (bB (inB ((zp0)) (I 2 0)))]) rfl ?_
  refine bB_eq (tgt := 28) hx hb dX10_owes_5 (by decide) (fun c5 => ?_) (fun c5 => ?_)
  · have hh2 : hb2 (I 2 0) zp0 zp1 = false := by rw [hb2, c5]; rfl
    refine lv_iconst (v := (-1)) hx hb dX10_owes_28 (by decide) ?_
    have hw : I = (oweJ I zp0 zp1 zp2) := by first | (simp only [oweJ, hh2, cond_false]; done) | (simp only [oweJ, hh2, c25, cond_true, cond_false]; done)
    have hP := Eq.mp (congrArg (fun q => va_P E.1 vwCl (WM E a q tr) H) hw) hP
    have hD := Eq.mp (congrArg (fun q => va_D A (WM E a q tr)) hw) hD
    exact ret_i hE (r := (-1)) (by first | (simp only [r_owes, hh2, cond_false]; done) | (simp only [r_owes, hh2, c25, cond_true, cond_false]; done)) hP hD hS dX10_owes_29
  · obtain ⟨x, qx, rfl⟩ := inB_t (by omega) c5
    have kx : tn (nI x) = x := tn_nI (by omega)
    refine lv_aload_n hx hb dX10_owes_8 rfl (lv_at hl 0 rfl) ?_
    refine lv_iload_n hx hb dX10_owes_9 rfl (lv_at hl 2 rfl) ?_
    refine call_V (As := [.int (zp1)]) (rest := []) hE (ct_X10_isHouse l E a I tr ((zp1)) hI.1) cm_X10_isHouse (uw mt_L_X10_125 rfl) (gM_0 E a I tr) rfl rfl hP hD hS hl.1 rfl rfl (Nat.le_of_ble_eq_true rfl) ⟨by decide, by decide⟩ dX10_owes_10 (fun H locs hP hD hS => ?_)
    refine W.eq (g2 := F0 m 13 ls [.int (bB (inB ((zp1)) (I 2 0)))]) rfl ?_
    refine bB_eq (tgt := 28) hx hb dX10_owes_13 (by decide) (fun c13 => ?_) (fun c13 => ?_)
    · have hh2 : hb2 (I 2 0) (nI x) zp1 = false := by rw [hb2, c5, c13]; rfl
      refine lv_iconst (v := (-1)) hx hb dX10_owes_28 (by decide) ?_
      have hw : I = (oweJ I (nI x) zp1 zp2) := by first | (simp only [oweJ, hh2, cond_false]; done) | (simp only [oweJ, hh2, c25, cond_true, cond_false]; done)
      have hP := Eq.mp (congrArg (fun q => va_P E.1 vwCl (WM E a q tr) H) hw) hP
      have hD := Eq.mp (congrArg (fun q => va_D A (WM E a q tr)) hw) hD
      exact ret_i hE (r := (-1)) (by first | (simp only [r_owes, hh2, cond_false]; done) | (simp only [r_owes, hh2, c25, cond_true, cond_false]; done)) hP hD hS dX10_owes_29
    · obtain ⟨y, qy, rfl⟩ := inB_t (by omega) c13
      have ky : tn (nI y) = y := tn_nI (by omega)
      refine lv_iload_n hx hb dX10_owes_16 rfl (lv_at hl 1 rfl) ?_
      refine lv_iload_n hx hb dX10_owes_17 rfl (lv_at hl 2 rfl) ?_
      refine bN_eq (tgt := 28) hx hb (by omega) (by omega) dX10_owes_18 (by decide) (fun c18 => ?_) (fun c18 => ?_)
      · have hxe : nI x = nI y := by rw [c18]
        have hh2 : hb2 (I 2 0) (nI x) (nI y) = false := by rw [hb2, c5, c13, dt hxe]; rfl
        refine lv_iconst (v := (-1)) hx hb dX10_owes_28 (by decide) ?_
        have hw : I = (oweJ I (nI x) (nI y) zp2) := by first | (simp only [oweJ, hh2, cond_false]; done) | (simp only [oweJ, hh2, c25, cond_true, cond_false]; done)
        have hP := Eq.mp (congrArg (fun q => va_P E.1 vwCl (WM E a q tr) H) hw) hP
        have hD := Eq.mp (congrArg (fun q => va_D A (WM E a q tr)) hw) hD
        exact ret_i hE (r := (-1)) (by first | (simp only [r_owes, hh2, cond_false]; done) | (simp only [r_owes, hh2, c25, cond_true, cond_false]; done)) hP hD hS dX10_owes_29
      · have hxn : ¬ nI x = nI y := fun z => c18 ((nI_eq (by omega) (by omega)).mp z)
        have hh2 : hb2 (I 2 0) (nI x) (nI y) = true := by rw [hb2, c5, c13, df hxn]; rfl
        refine lv_iload_n hx hb dX10_owes_21 rfl (lv_at hl 3 rfl) ?_
        refine call_S (As := [.int (zp2)]) (rest := []) hE (ct_X10_isNumber l E (WM E a I tr) ((zp2))) cm_X10_isNumber (uw mt_L_X10_138 rfl) hP hD hS hl.1 rfl rfl (Nat.le_of_ble_eq_true rfl) ⟨by decide, by decide⟩ dX10_owes_22 (fun H locs hP hD hS => ?_)
        refine W.eq (g2 := F0 m 25 ls [.int (bB (inB ((zp2)) 48))]) rfl ?_
        refine bB_ne (tgt := 30) hx hb dX10_owes_25 (by decide) (fun c25 => ?_) (fun c25 => ?_)
        · obtain ⟨n, qn, rfl⟩ := inB_t (by omega) c25
          have kn : tn (nI n) = n := tn_nI (by omega)
          refine lv_aload_n hx hb dX10_owes_30 rfl (lv_at hl 0 rfl) ?_
          refine gf_X10_122 hE hP (0) (gM_0 E a I tr) (v := .int (nI (I (26) (0)))) rfl dX10_owes_31 ?_
          refine lv_bipush (v := nI (8)) hx hb dX10_owes_34 (by decide) ?_
          refine bN_ne (tgt := 42) hx hb (by omega) (by omega) dX10_owes_36 (by decide) (fun c36 => ?_) (fun c36 => ?_)
          · refine lv_aload_n hx hb dX10_owes_42 rfl (lv_at hl 0 rfl) ?_
            refine gf_X10_60 hE hP (0) (gM_0 E a I tr) (v := .ref (a 17)) rfl dX10_owes_43 ?_
            refine lv_iconst (v := nI (3)) hx hb dX10_owes_46 (by decide) ?_
            refine lv_aload_n hx hb dX10_owes_47 rfl (lv_at hl 0 rfl) ?_
            refine gf_X10_122 hE hP (0) (gM_0 E a I tr) (v := .int (nI (I (26) (0)))) rfl dX10_owes_48 ?_
            refine lv_imul hx hb dX10_owes_51 ?_
            refine tp (pk_mul _ _) ?_
            refine lv_iload_n hx hb dX10_owes_52 rfl (lv_at hl 1 rfl) ?_
            refine ast_i hE hP hD hS (17) (gM_17 E a I tr) (by omega) (by decide) (sM_17 E a I tr ((3) * (I (26) (0))) (x)) dX10_owes_53 (fun H locs hP hD hS => ?_)
            refine lv_aload_n hx hb dX10_owes_54 rfl (lv_at hl 0 rfl) ?_
            refine gf_X10_60 hE hP (0) (gM_0 E a (up2 I (25) ((3) * (I (26) (0))) (x)) tr) (v := .ref (a 17)) rfl dX10_owes_55 ?_
            refine lv_iconst (v := nI (3)) hx hb dX10_owes_58 (by decide) ?_
            refine lv_aload_n hx hb dX10_owes_59 rfl (lv_at hl 0 rfl) ?_
            refine gf_X10_122 hE hP (0) (gM_0 E a (up2 I (25) ((3) * (I (26) (0))) (x)) tr) (v := .int (nI (I (26) (0)))) rfl dX10_owes_60 ?_
            refine lv_imul hx hb dX10_owes_63 ?_
            refine tp (pk_mul _ _) ?_
            refine lv_iconst (v := nI (1)) hx hb dX10_owes_64 (by decide) ?_
            refine lv_iadd hx hb dX10_owes_65 ?_
            refine tp (nI_add _ _) ?_
            refine lv_iload_n hx hb dX10_owes_66 rfl (lv_at hl 2 rfl) ?_
            refine ast_i hE hP hD hS (17) (gM_17 E a (up2 I (25) ((3) * (I (26) (0))) (x)) tr) (by omega) (by decide) (sM_17 E a (up2 I (25) ((3) * (I (26) (0))) (x)) tr ((3) * (I (26) (0)) + 1) (y)) dX10_owes_67 (fun H locs hP hD hS => ?_)
            refine lv_aload_n hx hb dX10_owes_68 rfl (lv_at hl 0 rfl) ?_
            refine gf_X10_60 hE hP (0) (gM_0 E a (up2 (up2 I (25) ((3) * (I (26) (0))) (x)) (25) ((3) * (I (26) (0)) + 1) (y)) tr) (v := .ref (a 17)) rfl dX10_owes_69 ?_
            refine lv_iconst (v := nI (3)) hx hb dX10_owes_72 (by decide) ?_
            refine lv_aload_n hx hb dX10_owes_73 rfl (lv_at hl 0 rfl) ?_
            refine gf_X10_122 hE hP (0) (gM_0 E a (up2 (up2 I (25) ((3) * (I (26) (0))) (x)) (25) ((3) * (I (26) (0)) + 1) (y)) tr) (v := .int (nI (I (26) (0)))) rfl dX10_owes_74 ?_
            refine lv_imul hx hb dX10_owes_77 ?_
            refine tp (pk_mul _ _) ?_
            refine lv_iconst (v := nI (2)) hx hb dX10_owes_78 (by decide) ?_
            refine lv_iadd hx hb dX10_owes_79 ?_
            refine tp (nI_add _ _) ?_
            refine lv_iload_n hx hb dX10_owes_80 rfl (lv_at hl 3 rfl) ?_
            refine ast_i hE hP hD hS (17) (gM_17 E a (up2 (up2 I (25) ((3) * (I (26) (0))) (x)) (25) ((3) * (I (26) (0)) + 1) (y)) tr) (by omega) (by decide) (sM_17 E a (up2 (up2 I (25) ((3) * (I (26) (0))) (x)) (25) ((3) * (I (26) (0)) + 1) (y)) tr ((3) * (I (26) (0)) + 2) (n)) dX10_owes_81 (fun H locs hP hD hS => ?_)
            refine lv_aload_n hx hb dX10_owes_82 rfl (lv_at hl 0 rfl) ?_
            refine lv_dup hx hb dX10_owes_83 rfl ?_
            refine gf_X10_122 hE hP (0) (gM_0 E a (up2 (up2 (up2 I (25) ((3) * (I (26) (0))) (x)) (25) ((3) * (I (26) (0)) + 1) (y)) (25) ((3) * (I (26) (0)) + 2) (n)) tr) (v := .int (nI (I (26) (0)))) rfl dX10_owes_84 ?_
            refine lv_iconst (v := nI (1)) hx hb dX10_owes_87 (by decide) ?_
            refine lv_iadd hx hb dX10_owes_88 ?_
            refine tp (nI_add _ _) ?_
            refine pf_X10_122 hE hP hD hS (0) (gM_0 E a (up2 (up2 (up2 I (25) ((3) * (I (26) (0))) (x)) (25) ((3) * (I (26) (0)) + 1) (y)) (25) ((3) * (I (26) (0)) + 2) (n)) tr) rfl rfl (Nat.le_of_ble_eq_true rfl) (sM_0_27 E a (up2 (up2 (up2 I (25) ((3) * (I (26) (0))) (x)) (25) ((3) * (I (26) (0)) + 1) (y)) (25) ((3) * (I (26) (0)) + 2) (n)) tr (I (26) (0) + 1)) dX10_owes_89 (fun H locs hP hD hS => ?_)
            refine lv_aload_n hx hb dX10_owes_92 rfl (lv_at hl 0 rfl) ?_
            refine gf_X10_122 hE hP (0) (gM_0 E a (up2 (up2 (up2 (up2 I (25) ((3) * (I (26) (0))) (x)) (25) ((3) * (I (26) (0)) + 1) (y)) (25) ((3) * (I (26) (0)) + 2) (n)) (26) (0) (I (26) (0) + 1)) tr) (v := .int (nI (I (26) (0) + 1))) rfl dX10_owes_93 ?_
            refine lv_iconst (v := nI (1)) hx hb dX10_owes_96 (by decide) ?_
            refine lv_isub hx hb dX10_owes_97 ?_
            refine tp (pk_sub (by omega)) ?_
            have hw : (up2 (up2 (up2 (up2 I (25) ((3) * (I (26) (0))) (x)) (25) ((3) * (I (26) (0)) + 1) (y)) (25) ((3) * (I (26) (0)) + 2) (n)) (26) (0) (I (26) (0) + 1)) = (oweJ I (nI x) (nI y) (nI n)) := by simp only [oweJ, hh2, c25, kx, ky, kn, cond_true]; rw [if_pos (by omega)]; rfl
            have hP := Eq.mp (congrArg (fun q => va_P E.1 vwCl (WM E a q tr) H) hw) hP
            have hD := Eq.mp (congrArg (fun q => va_D A (WM E a q tr)) hw) hD
            exact ret_i hE (r := nI (I (26) (0) + 1 - (1))) (by simp only [r_owes, hh2, c25, cond_true]; rw [if_pos (by omega)]; rfl) hP hD hS dX10_owes_98
          · refine lv_bipush (v := (-3)) hx hb dX10_owes_39 (by decide) ?_
            have hw : I = (oweJ I (nI x) (nI y) (nI n)) := by simp only [oweJ, hh2, c25, cond_true]; rw [if_neg (by omega)]
            have hP := Eq.mp (congrArg (fun q => va_P E.1 vwCl (WM E a q tr) H) hw) hP
            have hD := Eq.mp (congrArg (fun q => va_D A (WM E a q tr)) hw) hD
            exact ret_i hE (r := (-3)) (by simp only [r_owes, hh2, c25, cond_true]; rw [if_neg (by omega)]) hP hD hS dX10_owes_41
        · refine lv_iconst (v := (-1)) hx hb dX10_owes_28 (by decide) ?_
          have hw : I = (oweJ I (nI x) (nI y) zp2) := by first | (simp only [oweJ, hh2, cond_false]; done) | (simp only [oweJ, hh2, c25, cond_true, cond_false]; done)
          have hP := Eq.mp (congrArg (fun q => va_P E.1 vwCl (WM E a q tr) H) hw) hP
          have hD := Eq.mp (congrArg (fun q => va_D A (WM E a q tr)) hw) hD
          exact ret_i hE (r := (-1)) (by first | (simp only [r_owes, hh2, cond_false]; done) | (simp only [r_owes, hh2, c25, cond_true, cond_false]; done)) hP hD hS dX10_owes_29

set_option maxHeartbeats 4000000 in
set_option maxRecDepth 100000 in
theorem ct_X10_house (l : Launch) (E : cE) (a : Nat → Nat) (I : Nat → Nat → Nat) (tr : Int64) (zp0 zp1 : Int32) (hI : KM I) : Ct l E 2 yX10_house cX10_house 3 (some .int) [.ref (a 0), .int (zp0), .int (zp1)] (WM E a I tr) (some (.int (r_house (I 2 0) (I 4) (I 5) (I 6) (I 7) (fun h => I 16 (1 + h)) zp0 zp1))) (WM E a I tr) := by
  refine Ct_of (plainFor_of_name (by decide)) (Nat.le_of_ble_eq_true rfl) ?_
  intro p e s m args below meth c A ls hE hP hD hS hl
  have hE : cEnv p s m args meth c E RX10 cX10_house 3 (some .int) A := hE
  have hx := hE.1
  have hb := hE.2.1
  have hl : lv_has ls 3 [(0, .ref (a 0)), (1, .int (zp0)), (2, .int (zp1))] := hl
  have hP : va_P E.1 vwCl (WM E a I tr) s.heap := hP
  generalize hH : s.heap = H at hP hS ⊢
  have hS : va_S A s.heap H [] := by rw [hH]; exact hS
  clear hH
  have hc6 := hI.1
  refine lv_aload_n hx hb dX10_house_0 rfl (lv_at hl 0 rfl) ?_
  refine lv_iload_n hx hb dX10_house_1 rfl (lv_at hl 1 rfl) ?_
  refine call_V (As := [.int (zp0)]) (rest := []) hE (ct_X10_isHouse l E a I tr ((zp0)) hI.1) cm_X10_isHouse (uw mt_L_X10_125 rfl) (gM_0 E a I tr) rfl rfl hP hD hS hl.1 rfl rfl (Nat.le_of_ble_eq_true rfl) ⟨by decide, by decide⟩ dX10_house_2 (fun H locs hP hD hS => ?_)
  refine W.eq (g2 := F0 m 5 ls [.int (bB (inB ((zp0)) (I 2 0)))]) rfl ?_
  refine bB_ne (tgt := 10) hx hb dX10_house_5 (by decide) (fun c5 => ?_) (fun c5 => ?_)
  · obtain ⟨h, qh, rfl⟩ := inB_t (by omega) c5
    have kh : tn (nI h) = h := tn_nI (by omega)
    refine lv_iload_n hx hb dX10_house_10 rfl (lv_at hl 2 rfl) ?_
    by_cases w11_0 : zp1 = nI 0
    · subst w11_0
      refine lv_tableIn (off := 33) (tgt := 44) hx hb dX10_house_11 (by decide) (by decide) (by decide) (by decide) ?_
      refine lv_aload_n hx hb dX10_house_44 rfl (lv_at hl 0 rfl) ?_
      refine gf_X10_20 hE hP (0) (gM_0 E a I tr) (v := .ref (a 4)) rfl dX10_house_45 ?_
      refine lv_iload_n hx hb dX10_house_48 rfl (lv_at hl 1 rfl) ?_
      refine ald_i hE hP (4) (gM_4 E a I tr) (by omega) (by decide) (r := nI (I (4) (h))) rfl dX10_house_49 ?_
      exact ret_i hE (r := nI (I (4) (h))) (by simp only [r_house, c5, kh, cond_true]; rw [if_pos trivial]) hP hD hS dX10_house_50
    by_cases w11_1 : zp1 = nI 1
    · subst w11_1
      refine lv_tableIn (off := 40) (tgt := 51) hx hb dX10_house_11 (by decide) (by decide) (by decide) (by decide) ?_
      refine lv_aload_n hx hb dX10_house_51 rfl (lv_at hl 0 rfl) ?_
      refine gf_X10_23 hE hP (0) (gM_0 E a I tr) (v := .ref (a 5)) rfl dX10_house_52 ?_
      refine lv_iload_n hx hb dX10_house_55 rfl (lv_at hl 1 rfl) ?_
      refine ald_i hE hP (5) (gM_5 E a I tr) (by omega) (by decide) (r := nI (I (5) (h))) rfl dX10_house_56 ?_
      exact ret_i hE (r := nI (I (5) (h))) (by simp only [r_house, c5, kh, cond_true]; rw [if_neg (show ¬ nI 1 = nI 0 by decide), if_pos trivial]) hP hD hS dX10_house_57
    by_cases w11_2 : zp1 = nI 2
    · subst w11_2
      refine lv_tableIn (off := 47) (tgt := 58) hx hb dX10_house_11 (by decide) (by decide) (by decide) (by decide) ?_
      refine lv_aload_n hx hb dX10_house_58 rfl (lv_at hl 0 rfl) ?_
      refine gf_X10_26 hE hP (0) (gM_0 E a I tr) (v := .ref (a 6)) rfl dX10_house_59 ?_
      refine lv_iload_n hx hb dX10_house_62 rfl (lv_at hl 1 rfl) ?_
      refine ald_i hE hP (6) (gM_6 E a I tr) (by omega) (by decide) (r := nI (I (6) (h))) rfl dX10_house_63 ?_
      exact ret_i hE (r := nI (I (6) (h))) (by simp only [r_house, c5, kh, cond_true]; rw [if_neg (show ¬ nI 2 = nI 0 by decide), if_neg (show ¬ nI 2 = nI 1 by decide), if_pos trivial]) hP hD hS dX10_house_64
    by_cases w11_3 : zp1 = nI 3
    · subst w11_3
      refine lv_tableIn (off := 54) (tgt := 65) hx hb dX10_house_11 (by decide) (by decide) (by decide) (by decide) ?_
      refine lv_aload_n hx hb dX10_house_65 rfl (lv_at hl 0 rfl) ?_
      refine gf_X10_29 hE hP (0) (gM_0 E a I tr) (v := .ref (a 7)) rfl dX10_house_66 ?_
      refine lv_iload_n hx hb dX10_house_69 rfl (lv_at hl 1 rfl) ?_
      refine ald_i hE hP (7) (gM_7 E a I tr) (by omega) (by decide) (r := nI (I (7) (h))) rfl dX10_house_70 ?_
      exact ret_i hE (r := nI (I (7) (h))) (by simp only [r_house, c5, kh, cond_true]; rw [if_neg (show ¬ nI 3 = nI 0 by decide), if_neg (show ¬ nI 3 = nI 1 by decide), if_neg (show ¬ nI 3 = nI 2 by decide), if_pos trivial]) hP hD hS dX10_house_71
    by_cases w11_4 : zp1 = nI 4
    · subst w11_4
      refine lv_tableIn (off := 61) (tgt := 72) hx hb dX10_house_11 (by decide) (by decide) (by decide) (by decide) ?_
      refine lv_aload_n hx hb dX10_house_72 rfl (lv_at hl 0 rfl) ?_
      refine gf_X10_38 hE hP (0) (gM_0 E a I tr) (v := .ref (a 10)) rfl dX10_house_73 ?_
      refine lv_iconst (v := nI (1)) hx hb dX10_house_76 (by decide) ?_
      refine lv_iload_n hx hb dX10_house_77 rfl (lv_at hl 1 rfl) ?_
      refine lv_iadd hx hb dX10_house_78 ?_
      refine tp (nI_add _ _) ?_
      refine ald_i hE hP (10) (gM_10 E a I tr) (by omega) (by decide) (r := nI (I (16) (1 + h))) rfl dX10_house_79 ?_
      exact ret_i hE (r := nI (I (16) (1 + h))) (by simp only [r_house, c5, kh, cond_true]; rw [if_neg (show ¬ nI 4 = nI 0 by decide), if_neg (show ¬ nI 4 = nI 1 by decide), if_neg (show ¬ nI 4 = nI 2 by decide), if_neg (show ¬ nI 4 = nI 3 by decide), if_pos trivial]) hP hD hS dX10_house_80
    have wout : ∀ j, j ≤ 4 → ¬ zp1 = nI j := fun j hj => by rcases (show j = 0 ∨ j = 1 ∨ j = 2 ∨ j = 3 ∨ j = 4 by omega) with rfl | rfl | rfl | rfl | rfl <;> assumption
    refine lv_tableOut (tgt := 81) hx hb dX10_house_11 (sw_out 4 (by decide) wout) (by decide) ?_
    refine lv_iconst (v := (-1)) hx hb dX10_house_81 (by decide) ?_
    exact ret_i hE (r := (-1)) (by simp only [r_house, c5, kh, cond_true]; rw [if_neg w11_0, if_neg w11_1, if_neg w11_2, if_neg w11_3, if_neg w11_4]) hP hD hS dX10_house_82
  · refine lv_iconst (v := (-1)) hx hb dX10_house_8 (by decide) ?_
    exact ret_i hE (r := (-1)) (by simp only [r_house, c5, cond_false]) hP hD hS dX10_house_9

set_option maxHeartbeats 4000000 in
set_option maxRecDepth 100000 in
theorem ct_X10_mark (l : Launch) (E : cE) (a : Nat → Nat) (I : Nat → Nat → Nat) (tr : Int64) (zp0 zp1 : Int32) (hI : KM I) : Ct l E 2 yX10_mark cX10_mark 4 (some .int) [.ref (a 0), .int (zp0), .int (zp1)] (WM E a I tr) (some (.int (r_mark (I 2 0) (I 16 0) (shM I) (I 5) (I 6) (I 7) zp0 zp1))) (WM E a I (trM (I 2 0) tr zp0 zp1)) := by
  refine Ct_of (plainFor_of_name (by decide)) (Nat.le_of_ble_eq_true rfl) ?_
  intro p e s m args below meth c A ls hE hP hD hS hl
  have hE : cEnv p s m args meth c E RX10 cX10_mark 4 (some .int) A := hE
  have hx := hE.1
  have hb := hE.2.1
  have hl : lv_has ls 4 [(0, .ref (a 0)), (1, .int (zp0)), (2, .int (zp1))] := hl
  have hP : va_P E.1 vwCl (WM E a I tr) s.heap := hP
  generalize hH : s.heap = H at hP hS ⊢
  have hS : va_S A s.heap H [] := by rw [hH]; exact hS
  clear hH
  have hc6 := hI.1
  have hn95 := hI.2.2.1
  refine lv_iload_n hx hb dX10_mark_0 rfl (lv_at hl 1 rfl) ?_
  refine lv_iconst (v := nI (0)) hx hb dX10_mark_1 (by decide) ?_
  refine lv_iconst (v := nI (5)) hx hb dX10_mark_2 (by decide) ?_
  refine call_S (As := [.int (zp0), .int (nI (0)), .int (nI (5))]) (rest := []) hE (ct_X10_in l E (WM E a I tr) ((zp0)) (nI (0)) (nI (5))) cm_X10_in (uw mt_L_X10_63 rfl) hP hD hS hl.1 rfl rfl (Nat.le_of_ble_eq_true rfl) ⟨by decide, by decide⟩ dX10_mark_3 (fun H locs hP hD hS => ?_)
  refine W.eq (g2 := F0 m 6 ls [.int (bB (wi ((zp0)) (nI (0)) (nI (5))))]) rfl ?_
  refine bB_eq (tgt := 17) hx hb dX10_mark_6 (by decide) (fun c6 => ?_) (fun c6 => ?_)
  · refine lv_ldc (v := (-1000000)) hx hb hE.2.2.2.2.1 (hE.2.2.2.1 _ (uw mt_K_X10_170 rfl)) dX10_mark_17 ?_
    have hw : tr = (trM (I 2 0) tr zp0 zp1) := by first | (rw [trM_bad c6]; done) | (simp only [trM, c14, cond_false]; done)
    have hP := Eq.mp (congrArg (fun q => va_P E.1 vwCl (WM E a I q) H) hw) hP
    have hD := Eq.mp (congrArg (fun q => va_D A (WM E a I q)) hw) hD
    exact ret_i hE (r := (-1000000)) (by first | (rw [r_mark_bad c6]; done) | (simp only [r_mark, c14, cond_false]; done)) hP hD hS dX10_mark_19
  · refine lv_aload_n hx hb dX10_mark_9 rfl (lv_at hl 0 rfl) ?_
    refine lv_iload_n hx hb dX10_mark_10 rfl (lv_at hl 2 rfl) ?_
    refine call_V (As := [.int (zp1)]) (rest := []) hE (ct_X10_isHouse l E a I tr ((zp1)) hI.1) cm_X10_isHouse (uw mt_L_X10_125 rfl) (gM_0 E a I tr) rfl rfl hP hD hS hl.1 rfl rfl (Nat.le_of_ble_eq_true rfl) ⟨by decide, by decide⟩ dX10_mark_11 (fun H locs hP hD hS => ?_)
    refine W.eq (g2 := F0 m 14 ls [.int (bB (inB ((zp1)) (I 2 0)))]) rfl ?_
    refine bB_ne (tgt := 20) hx hb dX10_mark_14 (by decide) (fun c14 => ?_) (fun c14 => ?_)
    · obtain ⟨h, qh, rfl⟩ := inB_t (by omega) c14
      have kh : tn (nI h) = h := tn_nI (by omega)
      have hhq := hI.2.2.2.1 h qh
      refine lv_aload_n hx hb dX10_mark_20 rfl (lv_at hl 0 rfl) ?_
      refine lv_iload_n hx hb dX10_mark_21 rfl (lv_at hl 2 rfl) ?_
      refine lv_aload_n hx hb dX10_mark_22 rfl (lv_at hl 0 rfl) ?_
      refine gf_X10_38 hE hP (0) (gM_0 E a I tr) (v := .ref (a 10)) rfl dX10_mark_23 ?_
      refine lv_iconst (v := nI (0)) hx hb dX10_mark_26 (by decide) ?_
      refine ald_i hE hP (10) (gM_10 E a I tr) (by omega) (by decide) (r := nI (I (16) (0))) rfl dX10_mark_27 ?_
      refine call_V (As := [.int (nI (h)), .int (nI (I (16) (0)))]) (rest := []) hE (ct_X10_shown l E a I tr (h) (I (16) (0)) hI (by omega) (by omega)) cm_X10_shown (uw mt_L_X10_135 rfl) (gM_0 E a I tr) rfl rfl hP hD hS hl.1 rfl rfl (Nat.le_of_ble_eq_true rfl) ⟨by decide, by decide⟩ dX10_mark_28 (fun H locs hP hD hS => ?_)
      refine W.eq (g2 := F0 m 31 ls [.int (nI (shM I (h) (I (16) (0))))]) rfl ?_
      have hs1 := shM_lt I (h) (I (16) (0))
      refine lv_istore_n (lv' := [(3, .int (nI (shM I (h) (I (16) (0))))), (0, .ref (a 0)), (1, .int (zp0)), (2, .int (nI (h)))]) hx hb dX10_mark_31 rfl hl (by decide) rfl (fun ls hl => ?_)
      refine lv_iload_n hx hb dX10_mark_32 rfl (lv_at hl 2 rfl) ?_
      by_cases w33_0 : zp0 = nI 0
      · subst w33_0
        refine lv_tableIn (off := 35) (tgt := 68) hx hb dX10_mark_33 (by decide) (by decide) (by decide) (by decide) ?_
        refine lv_aload_n hx hb dX10_mark_68 rfl (lv_at hl 1 rfl) ?_
        refine lv_dup hx hb dX10_mark_69 rfl ?_
        refine gf_X10_171 hE hP (0) (gM_0 E a I tr) (v := .long (tr)) rfl dX10_mark_70 ?_
        refine lv_lconst (v := 1) hx hb dX10_mark_73 (by decide) ?_
        refine lv_ladd hx hb dX10_mark_74 ?_
        refine pf_X10_171 hE hP hD hS (0) (gM_0 E a I tr) rfl rfl (Nat.le_of_ble_eq_true rfl) (sM_0_0 E a I tr ((tr) + (1))) dX10_mark_75 (fun H locs hP hD hS => ?_)
        refine lv_iload_n hx hb dX10_mark_78 rfl (lv_at hl 0 rfl) ?_
        have hw : ((tr) + (1)) = (trM (I 2 0) tr (nI 0) (nI h)) := (by simp only [trM, c14, cond_true]; rw [if_pos trivial])
        have hP := Eq.mp (congrArg (fun q => va_P E.1 vwCl (WM E a I q) H) hw) hP
        have hD := Eq.mp (congrArg (fun q => va_D A (WM E a I q)) hw) hD
        exact ret_i hE (r := nI (shM I (h) (I (16) (0)))) (by simp only [r_mark, c14, kh, cond_true]; rw [if_pos trivial]) hP hD hS dX10_mark_79
      by_cases w33_1 : zp0 = nI 1
      · subst w33_1
        refine lv_tableIn (off := 47) (tgt := 80) hx hb dX10_mark_33 (by decide) (by decide) (by decide) (by decide) ?_
        refine lv_aload_n hx hb dX10_mark_80 rfl (lv_at hl 1 rfl) ?_
        refine lv_dup hx hb dX10_mark_81 rfl ?_
        refine gf_X10_171 hE hP (0) (gM_0 E a I tr) (v := .long (tr)) rfl dX10_mark_82 ?_
        refine lv_ldc2 (v := 11) hx hb hE.2.2.2.2.1 (hE.2.2.2.1 _ (uw mt_K_X10_175 rfl)) dX10_mark_85 ?_
        refine lv_ladd hx hb dX10_mark_88 ?_
        refine pf_X10_171 hE hP hD hS (0) (gM_0 E a I tr) rfl rfl (Nat.le_of_ble_eq_true rfl) (sM_0_0 E a I tr ((tr) + (11))) dX10_mark_89 (fun H locs hP hD hS => ?_)
        refine lv_iload_n hx hb dX10_mark_92 rfl (lv_at hl 0 rfl) ?_
        refine lv_aload_n hx hb dX10_mark_93 rfl (lv_at hl 1 rfl) ?_
        refine gf_X10_29 hE hP (0) (gM_0 E a I ((tr) + (11))) (v := .ref (a 7)) rfl dX10_mark_94 ?_
        refine lv_iload_n hx hb dX10_mark_97 rfl (lv_at hl 3 rfl) ?_
        refine ald_i hE hP (7) (gM_7 E a I ((tr) + (11))) (by omega) (by decide) (r := nI (I (7) (h))) rfl dX10_mark_98 ?_
        refine lv_iadd hx hb dX10_mark_99 ?_
        refine tp (nI_add _ _) ?_
        have hw : ((tr) + (11)) = (trM (I 2 0) tr (nI 1) (nI h)) := (by simp only [trM, c14, cond_true]; rw [if_neg (show ¬ nI 1 = nI 0 by decide), if_pos trivial]; exact tr11 tr)
        have hP := Eq.mp (congrArg (fun q => va_P E.1 vwCl (WM E a I q) H) hw) hP
        have hD := Eq.mp (congrArg (fun q => va_D A (WM E a I q)) hw) hD
        exact ret_i hE (r := nI (shM I (h) (I (16) (0)) + (I (7) (h)))) (by simp only [r_mark, c14, kh, cond_true]; rw [if_neg (show ¬ nI 1 = nI 0 by decide), if_pos trivial]) hP hD hS dX10_mark_100
      by_cases w33_2 : zp0 = nI 2
      · subst w33_2
        refine lv_tableIn (off := 68) (tgt := 101) hx hb dX10_mark_33 (by decide) (by decide) (by decide) (by decide) ?_
        refine lv_aload_n hx hb dX10_mark_101 rfl (lv_at hl 1 rfl) ?_
        refine lv_dup hx hb dX10_mark_102 rfl ?_
        refine gf_X10_171 hE hP (0) (gM_0 E a I tr) (v := .long (tr)) rfl dX10_mark_103 ?_
        refine lv_ldc2 (v := 101) hx hb hE.2.2.2.2.1 (hE.2.2.2.1 _ (uw mt_K_X10_177 rfl)) dX10_mark_106 ?_
        refine lv_ladd hx hb dX10_mark_109 ?_
        refine pf_X10_171 hE hP hD hS (0) (gM_0 E a I tr) rfl rfl (Nat.le_of_ble_eq_true rfl) (sM_0_0 E a I tr ((tr) + (101))) dX10_mark_110 (fun H locs hP hD hS => ?_)
        refine lv_iload_n hx hb dX10_mark_113 rfl (lv_at hl 0 rfl) ?_
        refine lv_aload_n hx hb dX10_mark_114 rfl (lv_at hl 1 rfl) ?_
        refine gf_X10_23 hE hP (0) (gM_0 E a I ((tr) + (101))) (v := .ref (a 5)) rfl dX10_mark_115 ?_
        refine lv_iload_n hx hb dX10_mark_118 rfl (lv_at hl 3 rfl) ?_
        refine ald_i hE hP (5) (gM_5 E a I ((tr) + (101))) (by omega) (by decide) (r := nI (I (5) (h))) rfl dX10_mark_119 ?_
        refine lv_isub hx hb dX10_mark_120 ?_
        have hw : ((tr) + (101)) = (trM (I 2 0) tr (nI 2) (nI h)) := (by simp only [trM, c14, cond_true]; rw [if_neg (show ¬ nI 2 = nI 0 by decide), if_neg (show ¬ nI 2 = nI 1 by decide), if_pos trivial]; exact tr101 tr)
        have hP := Eq.mp (congrArg (fun q => va_P E.1 vwCl (WM E a I q) H) hw) hP
        have hD := Eq.mp (congrArg (fun q => va_D A (WM E a I q)) hw) hD
        exact ret_i hE (r := (nI (shM I (h) (I (16) (0))) - nI (I (5) (h)))) (by simp only [r_mark, c14, kh, cond_true]; rw [if_neg (show ¬ nI 2 = nI 0 by decide), if_neg (show ¬ nI 2 = nI 1 by decide), if_pos trivial]) hP hD hS dX10_mark_121
      by_cases w33_3 : zp0 = nI 3
      · subst w33_3
        refine lv_tableIn (off := 89) (tgt := 122) hx hb dX10_mark_33 (by decide) (by decide) (by decide) (by decide) ?_
        refine lv_aload_n hx hb dX10_mark_122 rfl (lv_at hl 1 rfl) ?_
        refine lv_dup hx hb dX10_mark_123 rfl ?_
        refine gf_X10_171 hE hP (0) (gM_0 E a I tr) (v := .long (tr)) rfl dX10_mark_124 ?_
        refine lv_ldc2 (v := 1011) hx hb hE.2.2.2.2.1 (hE.2.2.2.1 _ (uw mt_K_X10_179 rfl)) dX10_mark_127 ?_
        refine lv_ladd hx hb dX10_mark_130 ?_
        refine pf_X10_171 hE hP hD hS (0) (gM_0 E a I tr) rfl rfl (Nat.le_of_ble_eq_true rfl) (sM_0_0 E a I tr ((tr) + (1011))) dX10_mark_131 (fun H locs hP hD hS => ?_)
        refine lv_iconst (v := nI (2)) hx hb dX10_mark_134 (by decide) ?_
        refine lv_iload_n hx hb dX10_mark_135 rfl (lv_at hl 0 rfl) ?_
        refine lv_aload_n hx hb dX10_mark_136 rfl (lv_at hl 1 rfl) ?_
        refine gf_X10_29 hE hP (0) (gM_0 E a I ((tr) + (1011))) (v := .ref (a 7)) rfl dX10_mark_137 ?_
        refine lv_iload_n hx hb dX10_mark_140 rfl (lv_at hl 3 rfl) ?_
        refine ald_i hE hP (7) (gM_7 E a I ((tr) + (1011))) (by omega) (by decide) (r := nI (I (7) (h))) rfl dX10_mark_141 ?_
        refine lv_iadd hx hb dX10_mark_142 ?_
        refine tp (nI_add _ _) ?_
        refine lv_imul hx hb dX10_mark_143 ?_
        refine tp (pk_mul _ _) ?_
        have hw : ((tr) + (1011)) = (trM (I 2 0) tr (nI 3) (nI h)) := (by simp only [trM, c14, cond_true]; rw [if_neg (show ¬ nI 3 = nI 0 by decide), if_neg (show ¬ nI 3 = nI 1 by decide), if_neg (show ¬ nI 3 = nI 2 by decide), if_pos trivial]; exact tr1011 tr)
        have hP := Eq.mp (congrArg (fun q => va_P E.1 vwCl (WM E a I q) H) hw) hP
        have hD := Eq.mp (congrArg (fun q => va_D A (WM E a I q)) hw) hD
        exact ret_i hE (r := nI ((2) * (shM I (h) (I (16) (0)) + (I (7) (h))))) (by simp only [r_mark, c14, kh, cond_true]; rw [if_neg (show ¬ nI 3 = nI 0 by decide), if_neg (show ¬ nI 3 = nI 1 by decide), if_neg (show ¬ nI 3 = nI 2 by decide), if_pos trivial]; rw [Nat.mul_comm]) hP hD hS dX10_mark_144
      by_cases w33_4 : zp0 = nI 4
      · subst w33_4
        refine lv_tableIn (off := 112) (tgt := 145) hx hb dX10_mark_33 (by decide) (by decide) (by decide) (by decide) ?_
        refine lv_aload_n hx hb dX10_mark_145 rfl (lv_at hl 1 rfl) ?_
        refine lv_dup hx hb dX10_mark_146 rfl ?_
        refine gf_X10_171 hE hP (0) (gM_0 E a I tr) (v := .long (tr)) rfl dX10_mark_147 ?_
        refine lv_ldc2 (v := 10101) hx hb hE.2.2.2.2.1 (hE.2.2.2.1 _ (uw mt_K_X10_181 rfl)) dX10_mark_150 ?_
        refine lv_ladd hx hb dX10_mark_153 ?_
        refine pf_X10_171 hE hP hD hS (0) (gM_0 E a I tr) rfl rfl (Nat.le_of_ble_eq_true rfl) (sM_0_0 E a I tr ((tr) + (10101))) dX10_mark_154 (fun H locs hP hD hS => ?_)
        refine lv_iload_n hx hb dX10_mark_157 rfl (lv_at hl 0 rfl) ?_
        refine lv_aload_n hx hb dX10_mark_158 rfl (lv_at hl 1 rfl) ?_
        refine gf_X10_23 hE hP (0) (gM_0 E a I ((tr) + (10101))) (v := .ref (a 5)) rfl dX10_mark_159 ?_
        refine lv_iload_n hx hb dX10_mark_162 rfl (lv_at hl 3 rfl) ?_
        refine ald_i hE hP (5) (gM_5 E a I ((tr) + (10101))) (by omega) (by decide) (r := nI (I (5) (h))) rfl dX10_mark_163 ?_
        refine lv_isub hx hb dX10_mark_164 ?_
        refine lv_aload_n hx hb dX10_mark_165 rfl (lv_at hl 1 rfl) ?_
        refine gf_X10_26 hE hP (0) (gM_0 E a I ((tr) + (10101))) (v := .ref (a 6)) rfl dX10_mark_166 ?_
        refine lv_iload_n hx hb dX10_mark_169 rfl (lv_at hl 3 rfl) ?_
        refine ald_i hE hP (6) (gM_6 E a I ((tr) + (10101))) (by omega) (by decide) (r := nI (I (6) (h))) rfl dX10_mark_170 ?_
        refine lv_iadd hx hb dX10_mark_171 ?_
        have hw : ((tr) + (10101)) = (trM (I 2 0) tr (nI 4) (nI h)) := (by simp only [trM, c14, cond_true]; rw [if_neg (show ¬ nI 4 = nI 0 by decide), if_neg (show ¬ nI 4 = nI 1 by decide), if_neg (show ¬ nI 4 = nI 2 by decide), if_neg (show ¬ nI 4 = nI 3 by decide), if_pos trivial]; exact tr10101 tr)
        have hP := Eq.mp (congrArg (fun q => va_P E.1 vwCl (WM E a I q) H) hw) hP
        have hD := Eq.mp (congrArg (fun q => va_D A (WM E a I q)) hw) hD
        exact ret_i hE (r := (((nI (shM I (h) (I (16) (0))) - nI (I (5) (h)))) + (nI (I (6) (h))))) (by simp only [r_mark, c14, kh, cond_true]; rw [if_neg (show ¬ nI 4 = nI 0 by decide), if_neg (show ¬ nI 4 = nI 1 by decide), if_neg (show ¬ nI 4 = nI 2 by decide), if_neg (show ¬ nI 4 = nI 3 by decide), if_pos trivial]) hP hD hS dX10_mark_172
      have wout : ∀ j, j ≤ 4 → ¬ zp0 = nI j := fun j hj => by rcases (show j = 0 ∨ j = 1 ∨ j = 2 ∨ j = 3 ∨ j = 4 by omega) with rfl | rfl | rfl | rfl | rfl <;> assumption
      refine lv_tableOut (tgt := 173) hx hb dX10_mark_33 (sw_out 4 (by decide) wout) (by decide) ?_
      have w5 := wi5 c6 w33_0 w33_1 w33_2 w33_3 w33_4
      refine lv_aload_n hx hb dX10_mark_173 rfl (lv_at hl 1 rfl) ?_
      refine lv_dup hx hb dX10_mark_174 rfl ?_
      refine gf_X10_171 hE hP (0) (gM_0 E a I tr) (v := .long (tr)) rfl dX10_mark_175 ?_
      refine lv_ldc2 (v := 100001) hx hb hE.2.2.2.2.1 (hE.2.2.2.1 _ (uw mt_K_X10_183 rfl)) dX10_mark_178 ?_
      refine lv_ladd hx hb dX10_mark_181 ?_
      refine pf_X10_171 hE hP hD hS (0) (gM_0 E a I tr) rfl rfl (Nat.le_of_ble_eq_true rfl) (sM_0_0 E a I tr ((tr) + (100001))) dX10_mark_182 (fun H locs hP hD hS => ?_)
      refine lv_iload_n hx hb dX10_mark_185 rfl (lv_at hl 0 rfl) ?_
      refine lv_aload_n hx hb dX10_mark_186 rfl (lv_at hl 1 rfl) ?_
      refine gf_X10_38 hE hP (0) (gM_0 E a I ((tr) + (100001))) (v := .ref (a 10)) rfl dX10_mark_187 ?_
      refine lv_iconst (v := nI (0)) hx hb dX10_mark_190 (by decide) ?_
      refine ald_i hE hP (10) (gM_10 E a I ((tr) + (100001))) (by omega) (by decide) (r := nI (I (16) (0))) rfl dX10_mark_191 ?_
      refine lv_iadd hx hb dX10_mark_192 ?_
      refine tp (nI_add _ _) ?_
      have hw : ((tr) + (100001)) = (trM (I 2 0) tr zp0 (nI h)) := (by simp only [trM, c14, cond_true]; rw [if_neg w33_0, if_neg w33_1, if_neg w33_2, if_neg w33_3, if_neg w33_4, if_pos w5]; exact tr100001 tr)
      have hP := Eq.mp (congrArg (fun q => va_P E.1 vwCl (WM E a I q) H) hw) hP
      have hD := Eq.mp (congrArg (fun q => va_D A (WM E a I q)) hw) hD
      exact ret_i hE (r := nI (shM I (h) (I (16) (0)) + (I (16) (0)))) (by simp only [r_mark, c14, kh, cond_true]; rw [if_neg w33_0, if_neg w33_1, if_neg w33_2, if_neg w33_3, if_neg w33_4, if_pos w5]) hP hD hS dX10_mark_193
    · refine lv_ldc (v := (-1000000)) hx hb hE.2.2.2.2.1 (hE.2.2.2.1 _ (uw mt_K_X10_170 rfl)) dX10_mark_17 ?_
      have hw : tr = (trM (I 2 0) tr zp0 zp1) := by first | (rw [trM_bad c6]; done) | (simp only [trM, c14, cond_false]; done)
      have hP := Eq.mp (congrArg (fun q => va_P E.1 vwCl (WM E a I q) H) hw) hP
      have hD := Eq.mp (congrArg (fun q => va_D A (WM E a I q)) hw) hD
      exact ret_i hE (r := (-1000000)) (by first | (rw [r_mark_bad c6]; done) | (simp only [r_mark, c14, cond_false]; done)) hP hD hS dX10_mark_19

set_option maxHeartbeats 4000000 in
set_option maxRecDepth 100000 in
theorem ct_X10_copy (l : Launch) (E : cE) (a : Nat → Nat) (I : Nat → Nat → Nat) (tr : Int64) (f t : Nat) (hf : f + 28 ≤ 84) (ht : t + 28 ≤ 84) (hft : f + 28 ≤ t ∨ t + 28 ≤ f) : Ct l E 0 yX10_copy cX10_copy 4 none [.ref (a 0), .int (nI (f)), .int (nI (t))] (WM E a I tr) none (WM E a (upA I 16 (cpN (I 16) (I 16) f t 28)) tr) := by
  refine Ct_of (plainFor_of_name (by decide)) (Nat.le_of_ble_eq_true rfl) ?_
  intro p e s m args below meth c A ls hE hP hD hS hl
  have hE : cEnv p s m args meth c E RX10 cX10_copy 4 none A := hE
  have hx := hE.1
  have hb := hE.2.1
  have hl : lv_has ls 4 [(0, .ref (a 0)), (1, .int (nI (f))), (2, .int (nI (t)))] := hl
  have hP : va_P E.1 vwCl (WM E a I tr) s.heap := hP
  generalize hH : s.heap = H at hP hS ⊢
  have hS : va_S A s.heap H [] := by rw [hH]; exact hS
  clear hH
  refine lv_iconst (v := nI (0)) hx hb dX10_copy_0 (by decide) ?_
  refine lv_istore_n (lv' := [(3, .int (nI (0))), (0, .ref (a 0)), (1, .int (nI (f))), (2, .int (nI (t)))]) hx hb dX10_copy_1 rfl hl (by decide) rfl (fun ls hl => ?_)
  have loop2 : ∀ (fu2 : Nat) (k : Nat), 28 - k < fu2 → (k ≤ 28) → ∀ (ls : Array Slot) (H : Heap) (locs : List Loc), lv_has ls 4 [(0, .ref (a 0)), (1, .int (nI (f))), (2, .int (nI (t))), (3, .int (nI (k)))] → va_P E.1 vwCl (WM E a (upA I (16) (cpN (I 16) (I 16) f t k)) tr) H → va_D A (WM E a (upA I (16) (cpN (I 16) (I 16) f t k)) tr) → va_S A s.heap H locs → W p l e (rmL 0) s m args below meth c H locs 0 0 (RQ E below args s A none (WM E a (upA I 16 (cpN (I 16) (I 16) f t 28)) tr)) (F0 m 2 ls []) := by
    intro fu2
    induction fu2 with
    | zero => intro k h; exact absurd h (Nat.not_lt_zero _)
    | succ fu2 ih2 =>
      intro k hfu2 hk ls H locs hl hP hD hS
      refine lv_iload_n hx hb dX10_copy_2 rfl (lv_at hl 3 rfl) ?_
      refine lv_bipush (v := nI (28)) hx hb dX10_copy_3 (by decide) ?_
      refine bN_ge (tgt := 30) hx hb (by omega) (by omega) dX10_copy_5 (by decide) (fun c5 => ?_) (fun c5 => ?_)
      · rw [show k = 28 by omega] at hP hD
        exact ret_v hE rfl hP hD hS dX10_copy_30
      · refine lv_aload_n hx hb dX10_copy_8 rfl (lv_at hl 0 rfl) ?_
        refine gf_X10_38 hE hP (0) (gM_0 E a (upA I (16) (cpN (I 16) (I 16) f t k)) tr) (v := .ref (a 10)) rfl dX10_copy_9 ?_
        refine lv_iload_n hx hb dX10_copy_12 rfl (lv_at hl 2 rfl) ?_
        refine lv_iload_n hx hb dX10_copy_13 rfl (lv_at hl 3 rfl) ?_
        refine lv_iadd hx hb dX10_copy_14 ?_
        refine tp (nI_add _ _) ?_
        refine lv_aload_n hx hb dX10_copy_15 rfl (lv_at hl 0 rfl) ?_
        refine gf_X10_38 hE hP (0) (gM_0 E a (upA I (16) (cpN (I 16) (I 16) f t k)) tr) (v := .ref (a 10)) rfl dX10_copy_16 ?_
        refine lv_iload_n hx hb dX10_copy_19 rfl (lv_at hl 1 rfl) ?_
        refine lv_iload_n hx hb dX10_copy_20 rfl (lv_at hl 3 rfl) ?_
        refine lv_iadd hx hb dX10_copy_21 ?_
        refine tp (nI_add _ _) ?_
        refine ald_i hE hP (10) (gM_10 E a (upA I (16) (cpN (I 16) (I 16) f t k)) tr) (by omega) (by decide) (r := nI ((cpN (I 16) (I 16) f t k) (f + k))) rfl dX10_copy_22 ?_
        refine ast_i hE hP hD hS (10) (gM_10 E a (upA I (16) (cpN (I 16) (I 16) f t k)) tr) (by omega) (by decide) (sM_10 E a (upA I (16) (cpN (I 16) (I 16) f t k)) tr (t + k) ((cpN (I 16) (I 16) f t k) (f + k))) dX10_copy_23 (fun H locs hP hD hS => ?_)
        refine lv_iinc (v := nI (k + 1)) (lv' := [(3, .int (nI (k + 1))), (0, .ref (a 0)), (1, .int (nI (f))), (2, .int (nI (t)))]) hx hb dX10_copy_24 hl (k := 3) rfl (ii1_N _) (by decide) rfl (fun ls hl => ?_)
        refine lv_goto (tgt := 2) hx hb dX10_copy_27 (by decide) ?_
        exact ih2 (k + 1) (by omega) (by omega) ls _ _ (lv_sub hl [1, 2, 3, 0] rfl) (by have hw : (up2 (upA I (16) (cpN (I 16) (I 16) f t k)) (16) (t + k) ((cpN (I 16) (I 16) f t k) (f + k))) = (upA I (16) (cpN (I 16) (I 16) f t (k + 1))) := (by rw [up2_upA]; exact congrArg (upA I 16) (cpN_s (I 16) hft c5)); rw [hw] at hP; exact hP) (by have hw : (up2 (upA I (16) (cpN (I 16) (I 16) f t k)) (16) (t + k) ((cpN (I 16) (I 16) f t k) (f + k))) = (upA I (16) (cpN (I 16) (I 16) f t (k + 1))) := (by rw [up2_upA]; exact congrArg (upA I 16) (cpN_s (I 16) hft c5)); rw [hw] at hD; exact hD) hS
  exact loop2 (_ + 1) (0) (Nat.lt_succ_self _) (by omega) ls _ _ (lv_sub hl [1, 2, 3, 0] rfl) (by have hw : I = (upA I (16) (cpN (I 16) (I 16) f t (0))) := (by rw [cpN_0, upA_self]); rw [hw] at hP; exact hP) (by have hw : I = (upA I (16) (cpN (I 16) (I 16) f t (0))) := (by rw [cpN_0, upA_self]); rw [hw] at hD; exact hD) hS

set_option maxHeartbeats 4000000 in
set_option maxRecDepth 100000 in
theorem ct_X10_keep (l : Launch) (E : cE) (a : Nat → Nat) (I : Nat → Nat → Nat) (tr : Int64) (zp0 : Int32) : Ct l E 1 yX10_keep cX10_keep 2 (some .int) [.ref (a 0), .int (zp0)] (WM E a I tr) (some (.int (r_keep (I 16 0) zp0))) (WM E a (keepJ I zp0) tr) := by
  refine Ct_of (plainFor_of_name (by decide)) (Nat.le_of_ble_eq_true rfl) ?_
  intro p e s m args below meth c A ls hE hP hD hS hl
  have hE : cEnv p s m args meth c E RX10 cX10_keep 2 (some .int) A := hE
  have hx := hE.1
  have hb := hE.2.1
  have hl : lv_has ls 2 [(0, .ref (a 0)), (1, .int (zp0))] := hl
  have hP : va_P E.1 vwCl (WM E a I tr) s.heap := hP
  generalize hH : s.heap = H at hP hS ⊢
  have hS : va_S A s.heap H [] := by rw [hH]; exact hS
  clear hH
  refine lv_iload_n hx hb dX10_keep_0 rfl (lv_at hl 1 rfl) ?_
  refine lv_iconst (v := nI (0)) hx hb dX10_keep_1 (by decide) ?_
  refine lv_iconst (v := nI (1)) hx hb dX10_keep_2 (by decide) ?_
  refine call_S (As := [.int (zp0), .int (nI (0)), .int (nI (1))]) (rest := []) hE (ct_X10_in l E (WM E a I tr) ((zp0)) (nI (0)) (nI (1))) cm_X10_in (uw mt_L_X10_63 rfl) hP hD hS hl.1 rfl rfl (Nat.le_of_ble_eq_true rfl) ⟨by decide, by decide⟩ dX10_keep_3 (fun H locs hP hD hS => ?_)
  refine W.eq (g2 := F0 m 6 ls [.int (bB (wi ((zp0)) (nI (0)) (nI (1))))]) rfl ?_
  refine bB_ne (tgt := 11) hx hb dX10_keep_6 (by decide) (fun c6 => ?_) (fun c6 => ?_)
  · obtain ⟨j, qj1, qj2, rfl⟩ := wi_of (by decide) (by decide) c6
    have kj : tn (nI j) = j := tn_nI (by omega)
    refine lv_aload_n hx hb dX10_keep_11 rfl (lv_at hl 0 rfl) ?_
    refine lv_iconst (v := nI (0)) hx hb dX10_keep_12 (by decide) ?_
    refine lv_bipush (v := nI (28)) hx hb dX10_keep_13 (by decide) ?_
    refine lv_iconst (v := nI (1)) hx hb dX10_keep_15 (by decide) ?_
    refine lv_iload_n hx hb dX10_keep_16 rfl (lv_at hl 1 rfl) ?_
    refine lv_iadd hx hb dX10_keep_17 ?_
    refine tp (nI_add _ _) ?_
    refine lv_imul hx hb dX10_keep_18 ?_
    refine tp (pk_mul _ _) ?_
    refine call_V (As := [.int (nI (0)), .int (nI ((28) * (1 + j)))]) (rest := []) hE (ct_X10_copy l E a I tr (0) ((28) * (1 + j)) (by omega) (by omega) (by omega)) cm_X10_copy (uw mt_L_X10_185 rfl) (gM_0 E a I tr) rfl rfl hP hD hS hl.1 rfl rfl (Nat.le_of_ble_eq_true rfl) ⟨by decide, by decide⟩ dX10_keep_19 (fun H locs hP hD hS => ?_)
    refine W.eq (g2 := F0 m 22 ls []) rfl ?_
    refine lv_aload_n hx hb dX10_keep_22 rfl (lv_at hl 0 rfl) ?_
    refine gf_X10_41 hE hP (0) (gM_0 E a (upA I (16) (cpN (I 16) (I 16) (0) ((28) * (1 + j)) 28)) tr) (v := .ref (a 11)) rfl dX10_keep_23 ?_
    refine lv_iload_n hx hb dX10_keep_26 rfl (lv_at hl 1 rfl) ?_
    refine lv_iconst (v := nI (1)) hx hb dX10_keep_27 (by decide) ?_
    refine ast_z hE hP hD hS (11) (gM_11 E a (upA I (16) (cpN (I 16) (I 16) (0) ((28) * (1 + j)) 28)) tr) (by omega) (by decide) (sM_11 E a (upA I (16) (cpN (I 16) (I 16) (0) ((28) * (1 + j)) 28)) tr (j) (1) (by omega)) dX10_keep_28 (fun H locs hP hD hS => ?_)
    refine lv_aload_n hx hb dX10_keep_29 rfl (lv_at hl 0 rfl) ?_
    refine gf_X10_38 hE hP (0) (gM_0 E a (up2 (upA I (16) (cpN (I 16) (I 16) (0) ((28) * (1 + j)) 28)) (17) (j) (1)) tr) (v := .ref (a 10)) rfl dX10_keep_30 ?_
    refine lv_iconst (v := nI (0)) hx hb dX10_keep_33 (by decide) ?_
    refine ald_i hE hP (10) (gM_10 E a (up2 (upA I (16) (cpN (I 16) (I 16) (0) ((28) * (1 + j)) 28)) (17) (j) (1)) tr) (by omega) (by decide) (r := nI ((cpN (I 16) (I 16) (0) ((28) * (1 + j)) 28) (0))) rfl dX10_keep_34 ?_
    have hw : (up2 (upA I (16) (cpN (I 16) (I 16) (0) ((28) * (1 + j)) 28)) (17) (j) (1)) = (keepJ I (nI j)) := by simp only [keepJ, c6, kj, cond_true]
    have hP := Eq.mp (congrArg (fun q => va_P E.1 vwCl (WM E a q tr) H) hw) hP
    have hD := Eq.mp (congrArg (fun q => va_D A (WM E a q tr)) hw) hD
    exact ret_i hE (r := nI ((cpN (I 16) (I 16) (0) ((28) * (1 + j)) 28) (0))) (by simp only [r_keep, c6, cond_true]; rw [cpN, if_neg (by omega)]) hP hD hS dX10_keep_35
  · refine lv_iconst (v := (-1)) hx hb dX10_keep_9 (by decide) ?_
    have hw : I = (keepJ I zp0) := by simp only [keepJ, c6, cond_false]
    have hP := Eq.mp (congrArg (fun q => va_P E.1 vwCl (WM E a q tr) H) hw) hP
    have hD := Eq.mp (congrArg (fun q => va_D A (WM E a q tr)) hw) hD
    exact ret_i hE (r := (-1)) (by simp only [r_keep, c6, cond_false]) hP hD hS dX10_keep_10

set_option maxHeartbeats 4000000 in
set_option maxRecDepth 100000 in
theorem ct_X10_back (l : Launch) (E : cE) (a : Nat → Nat) (I : Nat → Nat → Nat) (tr : Int64) (zp0 : Int32) (h70 : ∀ j, j < 2 → I 17 j < 2) : Ct l E 1 yX10_back cX10_back 2 (some .int) [.ref (a 0), .int (zp0)] (WM E a I tr) (some (.int (r_back (I 17) (fun j => I 16 (28 * (1 + j))) zp0))) (WM E a (backJ I zp0) tr) := by
  refine Ct_of (plainFor_of_name (by decide)) (Nat.le_of_ble_eq_true rfl) ?_
  intro p e s m args below meth c A ls hE hP hD hS hl
  have hE : cEnv p s m args meth c E RX10 cX10_back 2 (some .int) A := hE
  have hx := hE.1
  have hb := hE.2.1
  have hl : lv_has ls 2 [(0, .ref (a 0)), (1, .int (zp0))] := hl
  have hP : va_P E.1 vwCl (WM E a I tr) s.heap := hP
  generalize hH : s.heap = H at hP hS ⊢
  have hS : va_S A s.heap H [] := by rw [hH]; exact hS
  clear hH
  refine lv_iload_n hx hb dX10_back_0 rfl (lv_at hl 1 rfl) ?_
  refine lv_iconst (v := nI (0)) hx hb dX10_back_1 (by decide) ?_
  refine lv_iconst (v := nI (1)) hx hb dX10_back_2 (by decide) ?_
  refine call_S (As := [.int (zp0), .int (nI (0)), .int (nI (1))]) (rest := []) hE (ct_X10_in l E (WM E a I tr) ((zp0)) (nI (0)) (nI (1))) cm_X10_in (uw mt_L_X10_63 rfl) hP hD hS hl.1 rfl rfl (Nat.le_of_ble_eq_true rfl) ⟨by decide, by decide⟩ dX10_back_3 (fun H locs hP hD hS => ?_)
  refine W.eq (g2 := F0 m 6 ls [.int (bB (wi ((zp0)) (nI (0)) (nI (1))))]) rfl ?_
  refine bB_ne (tgt := 11) hx hb dX10_back_6 (by decide) (fun c6 => ?_) (fun c6 => ?_)
  · obtain ⟨j, qj1, qj2, rfl⟩ := wi_of (by decide) (by decide) c6
    have kj : tn (nI j) = j := tn_nI (by omega)
    have h7j := h70 j (by omega)
    refine lv_aload_n hx hb dX10_back_11 rfl (lv_at hl 0 rfl) ?_
    refine gf_X10_41 hE hP (0) (gM_0 E a I tr) (v := .ref (a 11)) rfl dX10_back_12 ?_
    refine lv_iload_n hx hb dX10_back_15 rfl (lv_at hl 1 rfl) ?_
    refine ald_z hE hP (11) (gM_11 E a I tr) (by omega) (by decide) (r := nI (I (17) (j))) rfl dX10_back_16 ?_
    refine bZ_ne (tgt := 23) hx hb (by omega) dX10_back_17 (by decide) (fun c17 => ?_) (fun c17 => ?_)
    · refine lv_aload_n hx hb dX10_back_23 rfl (lv_at hl 0 rfl) ?_
      refine lv_bipush (v := nI (28)) hx hb dX10_back_24 (by decide) ?_
      refine lv_iconst (v := nI (1)) hx hb dX10_back_26 (by decide) ?_
      refine lv_iload_n hx hb dX10_back_27 rfl (lv_at hl 1 rfl) ?_
      refine lv_iadd hx hb dX10_back_28 ?_
      refine tp (nI_add _ _) ?_
      refine lv_imul hx hb dX10_back_29 ?_
      refine tp (pk_mul _ _) ?_
      refine lv_iconst (v := nI (0)) hx hb dX10_back_30 (by decide) ?_
      refine call_V (As := [.int (nI ((28) * (1 + j))), .int (nI (0))]) (rest := []) hE (ct_X10_copy l E a I tr ((28) * (1 + j)) (0) (by omega) (by omega) (by omega)) cm_X10_copy (uw mt_L_X10_185 rfl) (gM_0 E a I tr) rfl rfl hP hD hS hl.1 rfl rfl (Nat.le_of_ble_eq_true rfl) ⟨by decide, by decide⟩ dX10_back_31 (fun H locs hP hD hS => ?_)
      refine W.eq (g2 := F0 m 34 ls []) rfl ?_
      refine lv_aload_n hx hb dX10_back_34 rfl (lv_at hl 0 rfl) ?_
      refine gf_X10_38 hE hP (0) (gM_0 E a (upA I (16) (cpN (I 16) (I 16) ((28) * (1 + j)) (0) 28)) tr) (v := .ref (a 10)) rfl dX10_back_35 ?_
      refine lv_iconst (v := nI (0)) hx hb dX10_back_38 (by decide) ?_
      refine ald_i hE hP (10) (gM_10 E a (upA I (16) (cpN (I 16) (I 16) ((28) * (1 + j)) (0) 28)) tr) (by omega) (by decide) (r := nI ((cpN (I 16) (I 16) ((28) * (1 + j)) (0) 28) (0))) rfl dX10_back_39 ?_
      have hw : (upA I (16) (cpN (I 16) (I 16) ((28) * (1 + j)) (0) 28)) = (backJ I (nI j)) := by simp only [backJ, c6, kj, cond_true]; rw [if_neg (by omega)]
      have hP := Eq.mp (congrArg (fun q => va_P E.1 vwCl (WM E a q tr) H) hw) hP
      have hD := Eq.mp (congrArg (fun q => va_D A (WM E a q tr)) hw) hD
      exact ret_i hE (r := nI ((cpN (I 16) (I 16) ((28) * (1 + j)) (0) 28) (0))) (by simp only [r_back, c6, kj, cond_true]; rw [if_neg (by omega), cpN, if_pos (by omega)]; rfl) hP hD hS dX10_back_40
    · refine lv_bipush (v := (-2)) hx hb dX10_back_20 (by decide) ?_
      have hw : I = (backJ I (nI j)) := by simp only [backJ, c6, kj, cond_true]; rw [if_pos c17]
      have hP := Eq.mp (congrArg (fun q => va_P E.1 vwCl (WM E a q tr) H) hw) hP
      have hD := Eq.mp (congrArg (fun q => va_D A (WM E a q tr)) hw) hD
      exact ret_i hE (r := (-2)) (by simp only [r_back, c6, kj, cond_true]; rw [if_pos c17]) hP hD hS dX10_back_22
  · refine lv_iconst (v := (-1)) hx hb dX10_back_9 (by decide) ?_
    have hw : I = (backJ I zp0) := by simp only [backJ, c6, cond_false]
    have hP := Eq.mp (congrArg (fun q => va_P E.1 vwCl (WM E a q tr) H) hw) hP
    have hD := Eq.mp (congrArg (fun q => va_D A (WM E a q tr)) hw) hD
    exact ret_i hE (r := (-1)) (by simp only [r_back, c6, cond_false]) hP hD hS dX10_back_10

set_option maxHeartbeats 4000000 in
set_option maxRecDepth 100000 in
theorem ct_X10_count (l : Launch) (E : cE) (a : Nat → Nat) (I : Nat → Nat → Nat) (tr : Int64) (zp0 : Int32) : Ct l E 0 yX10_count cX10_count 2 (some .int) [.ref (a 0), .int (zp0)] (WM E a I tr) (some (.int (r_count (fun i => [I 2 0, I 3 0, I 16 0, I 19 0, I 24 0, I 26 0, I 16 7, I 1 0].getD i 0) zp0))) (WM E a I tr) := by
  refine Ct_of (plainFor_of_name (by decide)) (Nat.le_of_ble_eq_true rfl) ?_
  intro p e s m args below meth c A ls hE hP hD hS hl
  have hE : cEnv p s m args meth c E RX10 cX10_count 2 (some .int) A := hE
  have hx := hE.1
  have hb := hE.2.1
  have hl : lv_has ls 2 [(0, .ref (a 0)), (1, .int (zp0))] := hl
  have hP : va_P E.1 vwCl (WM E a I tr) s.heap := hP
  generalize hH : s.heap = H at hP hS ⊢
  have hS : va_S A s.heap H [] := by rw [hH]; exact hS
  clear hH
  refine lv_iload_n hx hb dX10_count_0 rfl (lv_at hl 1 rfl) ?_
  by_cases w1_0 : zp0 = nI 0
  · subst w1_0
    refine lv_tableIn (off := 47) (tgt := 48) hx hb dX10_count_1 (by decide) (by decide) (by decide) (by decide) ?_
    refine lv_aload_n hx hb dX10_count_48 rfl (lv_at hl 0 rfl) ?_
    refine gf_X10_13 hE hP (0) (gM_0 E a I tr) (v := .ref (a 2)) rfl dX10_count_49 ?_
    refine lv_iconst (v := nI (0)) hx hb dX10_count_52 (by decide) ?_
    refine ald_i hE hP (2) (gM_2 E a I tr) (by omega) (by decide) (r := nI (I (2) (0))) rfl dX10_count_53 ?_
    exact ret_i hE (r := nI (I (2) (0))) (by rw [r_count, if_pos rfl]; rfl) hP hD hS dX10_count_54
  by_cases w1_1 : zp0 = nI 1
  · subst w1_1
    refine lv_tableIn (off := 54) (tgt := 55) hx hb dX10_count_1 (by decide) (by decide) (by decide) (by decide) ?_
    refine lv_aload_n hx hb dX10_count_55 rfl (lv_at hl 0 rfl) ?_
    refine gf_X10_17 hE hP (0) (gM_0 E a I tr) (v := .ref (a 3)) rfl dX10_count_56 ?_
    refine lv_iconst (v := nI (0)) hx hb dX10_count_59 (by decide) ?_
    refine ald_i hE hP (3) (gM_3 E a I tr) (by omega) (by decide) (r := nI (I (3) (0))) rfl dX10_count_60 ?_
    exact ret_i hE (r := nI (I (3) (0))) (by rw [r_count, if_neg (show ¬ nI 1 = nI 0 by decide), if_pos rfl]; rfl) hP hD hS dX10_count_61
  by_cases w1_2 : zp0 = nI 2
  · subst w1_2
    refine lv_tableIn (off := 61) (tgt := 62) hx hb dX10_count_1 (by decide) (by decide) (by decide) (by decide) ?_
    refine lv_aload_n hx hb dX10_count_62 rfl (lv_at hl 0 rfl) ?_
    refine gf_X10_38 hE hP (0) (gM_0 E a I tr) (v := .ref (a 10)) rfl dX10_count_63 ?_
    refine lv_iconst (v := nI (0)) hx hb dX10_count_66 (by decide) ?_
    refine ald_i hE hP (10) (gM_10 E a I tr) (by omega) (by decide) (r := nI (I (16) (0))) rfl dX10_count_67 ?_
    exact ret_i hE (r := nI (I (16) (0))) (by rw [r_count, if_neg (show ¬ nI 2 = nI 0 by decide), if_neg (show ¬ nI 2 = nI 1 by decide), if_pos rfl]; rfl) hP hD hS dX10_count_68
  by_cases w1_3 : zp0 = nI 3
  · subst w1_3
    refine lv_tableIn (off := 68) (tgt := 69) hx hb dX10_count_1 (by decide) (by decide) (by decide) (by decide) ?_
    refine lv_aload_n hx hb dX10_count_69 rfl (lv_at hl 0 rfl) ?_
    refine gf_X10_116 hE hP (0) (gM_0 E a I tr) (v := .int (nI (I (19) (0)))) rfl dX10_count_70 ?_
    exact ret_i hE (r := nI (I (19) (0))) (by rw [r_count, if_neg (show ¬ nI 3 = nI 0 by decide), if_neg (show ¬ nI 3 = nI 1 by decide), if_neg (show ¬ nI 3 = nI 2 by decide), if_pos rfl]; rfl) hP hD hS dX10_count_73
  by_cases w1_4 : zp0 = nI 4
  · subst w1_4
    refine lv_tableIn (off := 73) (tgt := 74) hx hb dX10_count_1 (by decide) (by decide) (by decide) (by decide) ?_
    refine lv_aload_n hx hb dX10_count_74 rfl (lv_at hl 0 rfl) ?_
    refine gf_X10_119 hE hP (0) (gM_0 E a I tr) (v := .int (nI (I (24) (0)))) rfl dX10_count_75 ?_
    exact ret_i hE (r := nI (I (24) (0))) (by rw [r_count, if_neg (show ¬ nI 4 = nI 0 by decide), if_neg (show ¬ nI 4 = nI 1 by decide), if_neg (show ¬ nI 4 = nI 2 by decide), if_neg (show ¬ nI 4 = nI 3 by decide), if_pos rfl]; rfl) hP hD hS dX10_count_78
  by_cases w1_5 : zp0 = nI 5
  · subst w1_5
    refine lv_tableIn (off := 78) (tgt := 79) hx hb dX10_count_1 (by decide) (by decide) (by decide) (by decide) ?_
    refine lv_aload_n hx hb dX10_count_79 rfl (lv_at hl 0 rfl) ?_
    refine gf_X10_122 hE hP (0) (gM_0 E a I tr) (v := .int (nI (I (26) (0)))) rfl dX10_count_80 ?_
    exact ret_i hE (r := nI (I (26) (0))) (by rw [r_count, if_neg (show ¬ nI 5 = nI 0 by decide), if_neg (show ¬ nI 5 = nI 1 by decide), if_neg (show ¬ nI 5 = nI 2 by decide), if_neg (show ¬ nI 5 = nI 3 by decide), if_neg (show ¬ nI 5 = nI 4 by decide), if_pos rfl]; rfl) hP hD hS dX10_count_83
  by_cases w1_6 : zp0 = nI 6
  · subst w1_6
    refine lv_tableIn (off := 83) (tgt := 84) hx hb dX10_count_1 (by decide) (by decide) (by decide) (by decide) ?_
    refine lv_aload_n hx hb dX10_count_84 rfl (lv_at hl 0 rfl) ?_
    refine gf_X10_38 hE hP (0) (gM_0 E a I tr) (v := .ref (a 10)) rfl dX10_count_85 ?_
    refine lv_bipush (v := nI (7)) hx hb dX10_count_88 (by decide) ?_
    refine ald_i hE hP (10) (gM_10 E a I tr) (by omega) (by decide) (r := nI (I (16) (7))) rfl dX10_count_90 ?_
    exact ret_i hE (r := nI (I (16) (7))) (by rw [r_count, if_neg (show ¬ nI 6 = nI 0 by decide), if_neg (show ¬ nI 6 = nI 1 by decide), if_neg (show ¬ nI 6 = nI 2 by decide), if_neg (show ¬ nI 6 = nI 3 by decide), if_neg (show ¬ nI 6 = nI 4 by decide), if_neg (show ¬ nI 6 = nI 5 by decide), if_pos rfl]; rfl) hP hD hS dX10_count_91
  by_cases w1_7 : zp0 = nI 7
  · subst w1_7
    refine lv_tableIn (off := 91) (tgt := 92) hx hb dX10_count_1 (by decide) (by decide) (by decide) (by decide) ?_
    refine lv_aload_n hx hb dX10_count_92 rfl (lv_at hl 0 rfl) ?_
    refine gf_X10_67 hE hP (0) (gM_0 E a I tr) (v := .int (nI (I (1) (0)))) rfl dX10_count_93 ?_
    exact ret_i hE (r := nI (I (1) (0))) (by rw [r_count, if_neg (show ¬ nI 7 = nI 0 by decide), if_neg (show ¬ nI 7 = nI 1 by decide), if_neg (show ¬ nI 7 = nI 2 by decide), if_neg (show ¬ nI 7 = nI 3 by decide), if_neg (show ¬ nI 7 = nI 4 by decide), if_neg (show ¬ nI 7 = nI 5 by decide), if_neg (show ¬ nI 7 = nI 6 by decide), if_pos rfl]; rfl) hP hD hS dX10_count_96
  have wout : ∀ j, j ≤ 7 → ¬ zp0 = nI j := fun j hj => by rcases (show j = 0 ∨ j = 1 ∨ j = 2 ∨ j = 3 ∨ j = 4 ∨ j = 5 ∨ j = 6 ∨ j = 7 by omega) with rfl | rfl | rfl | rfl | rfl | rfl | rfl | rfl <;> assumption
  refine lv_tableOut (tgt := 97) hx hb dX10_count_1 (sw_out 7 (by decide) wout) (by decide) ?_
  refine lv_iconst (v := (-1)) hx hb dX10_count_97 (by decide) ?_
  exact ret_i hE (r := (-1)) (by rw [r_count, if_neg w1_0, if_neg w1_1, if_neg w1_2, if_neg w1_3, if_neg w1_4, if_neg w1_5, if_neg w1_6, if_neg w1_7]) hP hD hS dX10_count_98

set_option maxHeartbeats 4000000 in
set_option maxRecDepth 100000 in
theorem ct_X10_trace (l : Launch) (E : cE) (a : Nat → Nat) (I : Nat → Nat → Nat) (tr : Int64)  : Ct l E 0 yX10_trace cX10_trace 1 (some .long) [.ref (a 0)] (WM E a I tr) (some (.long tr)) (WM E a I tr) := by
  refine Ct_of (plainFor_of_name (by decide)) (Nat.le_of_ble_eq_true rfl) ?_
  intro p e s m args below meth c A ls hE hP hD hS hl
  have hE : cEnv p s m args meth c E RX10 cX10_trace 1 (some .long) A := hE
  have hx := hE.1
  have hb := hE.2.1
  have hl : lv_has ls 1 [(0, .ref (a 0))] := hl
  have hP : va_P E.1 vwCl (WM E a I tr) s.heap := hP
  generalize hH : s.heap = H at hP hS ⊢
  have hS : va_S A s.heap H [] := by rw [hH]; exact hS
  clear hH
  refine lv_aload_n hx hb dX10_trace_0 rfl (lv_at hl 0 rfl) ?_
  refine gf_X10_171 hE hP (0) (gM_0 E a I tr) (v := .long (tr)) rfl dX10_trace_1 ?_
  exact ret_l hE (r := tr) (rfl) hP hD hS dX10_trace_4
