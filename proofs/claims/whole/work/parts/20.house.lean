set_option maxHeartbeats 4000000 in
set_option maxRecDepth 100000 in
theorem ct_X9_shows (l : Launch) (E : cE) (a : Nat → Nat) (I : Nat → Nat → Nat) (tr : Int64) (zp0 zp1 : Int32) (hI : CK I) : Ct l E 3 yX9_shows cX9_shows 3 (some .int) [.ref (a 0), .int (zp0), .int (zp1)] (WC E a I tr) (some (.int (r_shows (I 13 0) (shC I) zp0 zp1))) (WC E a I tr) := by
  refine Ct_of (plainFor_of_name (by decide)) (Nat.le_of_ble_eq_true rfl) ?_
  intro p e s m args below meth c A ls hE hP hD hS hl
  have hE : cEnv p s m args meth c E RX9 cX9_shows 3 (some .int) A := hE
  have hx := hE.1
  have hb := hE.2.1
  have hl : lv_has ls 3 [(0, .ref (a 0)), (1, .int (zp0)), (2, .int (zp1))] := hl
  have hP : va_P E.1 vwCl (WC E a I tr) s.heap := hP
  generalize hH : s.heap = H at hP hS ⊢
  have hS : va_S A s.heap H [] := by rw [hH]; exact hS
  clear hH
  have hc6 := hI.1
  refine lv_aload_n hx hb dX9_shows_0 rfl (lv_at hl 0 rfl) ?_
  refine gf_X9_28 hE hP (0) (gC_0 E a I tr) (v := .ref (a 3)) rfl dX9_shows_1 ?_
  refine lv_iload_n hx hb dX9_shows_4 rfl (lv_at hl 1 rfl) ?_
  refine call_V (As := [.int (zp0)]) (rest := []) hE (ct_X0_has l E a I tr ((zp0)) (hI).1) cm_X0_has (uw mt_L_X9_100 rfl) (gC_4 E a I tr) rfl rfl hP hD hS hl.1 rfl rfl (Nat.le_of_ble_eq_true rfl) ⟨by decide, by decide⟩ dX9_shows_5 (fun H locs hP hD hS => ?_)
  refine W.eq (g2 := F0 m 8 ls [.int (bB (inB ((zp0)) (I (13) (0))))]) rfl ?_
  refine bB_eq (tgt := 30) hx hb dX9_shows_8 (by decide) (fun c8 => ?_) (fun c8 => ?_)
  · refine lv_iconst (v := (-1)) hx hb dX9_shows_30 (by decide) ?_
    exact ret_i hE (r := (-1)) (by first | (simp only [r_shows, c8, c15, kh, kt, cond_true]; done) | (simp only [r_shows, c8, c15, cond_true, cond_false]; done) | (simp only [r_shows, c8, cond_false]; done)) hP hD hS dX9_shows_31
  · obtain ⟨h, qh, rfl⟩ := inB_t (by omega) c8
    have kh : tn (nI h) = h := tn_nI (by omega)
    refine lv_iload_n hx hb dX9_shows_11 rfl (lv_at hl 2 rfl) ?_
    refine call_S (As := [.int (zp1)]) (rest := []) hE (ct_X9_isQuarter l E (WC E a I tr) ((zp1))) cm_X9_isQuarter (uw mt_L_X9_128 rfl) hP hD hS hl.1 rfl rfl (Nat.le_of_ble_eq_true rfl) ⟨by decide, by decide⟩ dX9_shows_12 (fun H locs hP hD hS => ?_)
    refine W.eq (g2 := F0 m 15 ls [.int (bB (inB ((zp1)) 96))]) rfl ?_
    refine bB_eq (tgt := 30) hx hb dX9_shows_15 (by decide) (fun c15 => ?_) (fun c15 => ?_)
    · refine lv_iconst (v := (-1)) hx hb dX9_shows_30 (by decide) ?_
      exact ret_i hE (r := (-1)) (by first | (simp only [r_shows, c8, c15, kh, kt, cond_true]; done) | (simp only [r_shows, c8, c15, cond_true, cond_false]; done) | (simp only [r_shows, c8, cond_false]; done)) hP hD hS dX9_shows_31
    · obtain ⟨t, qt, rfl⟩ := inB_t (by omega) c15
      have kt : tn (nI t) = t := tn_nI (by omega)
      refine lv_aload_n hx hb dX9_shows_18 rfl (lv_at hl 0 rfl) ?_
      refine gf_X9_28 hE hP (0) (gC_0 E a I tr) (v := .ref (a 3)) rfl dX9_shows_19 ?_
      refine lv_iload_n hx hb dX9_shows_22 rfl (lv_at hl 1 rfl) ?_
      refine lv_iload_n hx hb dX9_shows_23 rfl (lv_at hl 2 rfl) ?_
      refine call_V (As := [.int (nI (h)), .int (nI (t))]) (rest := []) hE (ct_X0_showsAt l E a I tr (h) (t) (hI) (by omega) (by omega)) cm_X0_showsAt (uw mt_L_X9_131 rfl) (gC_4 E a I tr) rfl rfl hP hD hS hl.1 rfl rfl (Nat.le_of_ble_eq_true rfl) ⟨by decide, by decide⟩ dX9_shows_24 (fun H locs hP hD hS => ?_)
      refine W.eq (g2 := F0 m 27 ls [.int (nI (shC I (h) (t)))]) rfl ?_
      have hs1 := shC_lt I (h) (t)
      refine lv_goto (tgt := 31) hx hb dX9_shows_27 (by decide) ?_
      exact ret_i hE (r := nI (shC I (h) (t))) (by first | (simp only [r_shows, c8, c15, kh, kt, cond_true]; done) | (simp only [r_shows, c8, c15, cond_true, cond_false]; done) | (simp only [r_shows, c8, cond_false]; done)) hP hD hS dX9_shows_31

set_option maxHeartbeats 4000000 in
set_option maxRecDepth 100000 in
theorem ct_X9_first (l : Launch) (E : cE) (a : Nat → Nat) (I : Nat → Nat → Nat) (tr : Int64) (zp0 zp1 zp2 : Int32) (hI : CK I) : Ct l E 3 yX9_first cX9_first 4 (some .int) [.ref (a 0), .int (zp0), .int (zp1), .int (zp2)] (WC E a I tr) (some (.int (r_first (I 13 0) (shC I) zp0 zp1 zp2))) (WC E a I tr) := by
  refine Ct_of (plainFor_of_name (by decide)) (Nat.le_of_ble_eq_true rfl) ?_
  intro p e s m args below meth c A ls hE hP hD hS hl
  have hE : cEnv p s m args meth c E RX9 cX9_first 4 (some .int) A := hE
  have hx := hE.1
  have hb := hE.2.1
  have hl : lv_has ls 4 [(0, .ref (a 0)), (1, .int (zp0)), (2, .int (zp1)), (3, .int (zp2))] := hl
  have hP : va_P E.1 vwCl (WC E a I tr) s.heap := hP
  generalize hH : s.heap = H at hP hS ⊢
  have hS : va_S A s.heap H [] := by rw [hH]; exact hS
  clear hH
  have hc6 := hI.1
  refine lv_aload_n hx hb dX9_first_0 rfl (lv_at hl 0 rfl) ?_
  refine gf_X9_28 hE hP (0) (gC_0 E a I tr) (v := .ref (a 3)) rfl dX9_first_1 ?_
  refine lv_iload_n hx hb dX9_first_4 rfl (lv_at hl 1 rfl) ?_
  refine call_V (As := [.int (zp0)]) (rest := []) hE (ct_X0_has l E a I tr ((zp0)) (hI).1) cm_X0_has (uw mt_L_X9_100 rfl) (gC_4 E a I tr) rfl rfl hP hD hS hl.1 rfl rfl (Nat.le_of_ble_eq_true rfl) ⟨by decide, by decide⟩ dX9_first_5 (fun H locs hP hD hS => ?_)
  refine W.eq (g2 := F0 m 8 ls [.int (bB (inB ((zp0)) (I (13) (0))))]) rfl ?_
  refine bB_eq (tgt := 38) hx hb dX9_first_8 (by decide) (fun c8 => ?_) (fun c8 => ?_)
  · refine lv_iconst (v := (-1)) hx hb dX9_first_38 (by decide) ?_
    exact ret_i hE (r := (-1)) (by first | (simp only [r_first, c8, c15, c22, kh, kn, kt, cond_true]; done) | (simp only [r_first, c8, c15, c22, cond_true, cond_false]; done) | (simp only [r_first, c8, c15, cond_true, cond_false]; done) | (simp only [r_first, c8, cond_false]; done)) hP hD hS dX9_first_39
  · obtain ⟨h, qh, rfl⟩ := inB_t (by omega) c8
    have kh : tn (nI h) = h := tn_nI (by omega)
    refine lv_iload_n hx hb dX9_first_11 rfl (lv_at hl 2 rfl) ?_
    refine call_S (As := [.int (zp1)]) (rest := []) hE (ct_X9_isNumber l E (WC E a I tr) ((zp1))) cm_X9_isNumber (uw mt_L_X9_135 rfl) hP hD hS hl.1 rfl rfl (Nat.le_of_ble_eq_true rfl) ⟨by decide, by decide⟩ dX9_first_12 (fun H locs hP hD hS => ?_)
    refine W.eq (g2 := F0 m 15 ls [.int (bB (inB ((zp1)) 48))]) rfl ?_
    refine bB_eq (tgt := 38) hx hb dX9_first_15 (by decide) (fun c15 => ?_) (fun c15 => ?_)
    · refine lv_iconst (v := (-1)) hx hb dX9_first_38 (by decide) ?_
      exact ret_i hE (r := (-1)) (by first | (simp only [r_first, c8, c15, c22, kh, kn, kt, cond_true]; done) | (simp only [r_first, c8, c15, c22, cond_true, cond_false]; done) | (simp only [r_first, c8, c15, cond_true, cond_false]; done) | (simp only [r_first, c8, cond_false]; done)) hP hD hS dX9_first_39
    · obtain ⟨n, qn, rfl⟩ := inB_t (by omega) c15
      have kn : tn (nI n) = n := tn_nI (by omega)
      refine lv_iload_n hx hb dX9_first_18 rfl (lv_at hl 3 rfl) ?_
      refine call_S (As := [.int (zp2)]) (rest := []) hE (ct_X9_isQuarter l E (WC E a I tr) ((zp2))) cm_X9_isQuarter (uw mt_L_X9_128 rfl) hP hD hS hl.1 rfl rfl (Nat.le_of_ble_eq_true rfl) ⟨by decide, by decide⟩ dX9_first_19 (fun H locs hP hD hS => ?_)
      refine W.eq (g2 := F0 m 22 ls [.int (bB (inB ((zp2)) 96))]) rfl ?_
      refine bB_eq (tgt := 38) hx hb dX9_first_22 (by decide) (fun c22 => ?_) (fun c22 => ?_)
      · refine lv_iconst (v := (-1)) hx hb dX9_first_38 (by decide) ?_
        exact ret_i hE (r := (-1)) (by first | (simp only [r_first, c8, c15, c22, kh, kn, kt, cond_true]; done) | (simp only [r_first, c8, c15, c22, cond_true, cond_false]; done) | (simp only [r_first, c8, c15, cond_true, cond_false]; done) | (simp only [r_first, c8, cond_false]; done)) hP hD hS dX9_first_39
      · obtain ⟨t, qt, rfl⟩ := inB_t (by omega) c22
        have kt : tn (nI t) = t := tn_nI (by omega)
        refine lv_aload_n hx hb dX9_first_25 rfl (lv_at hl 0 rfl) ?_
        refine gf_X9_28 hE hP (0) (gC_0 E a I tr) (v := .ref (a 3)) rfl dX9_first_26 ?_
        refine lv_iload_n hx hb dX9_first_29 rfl (lv_at hl 1 rfl) ?_
        refine lv_iload_n hx hb dX9_first_30 rfl (lv_at hl 2 rfl) ?_
        refine lv_iload_n hx hb dX9_first_31 rfl (lv_at hl 3 rfl) ?_
        refine call_V (As := [.int (nI (h)), .int (nI (n)), .int (nI (t))]) (rest := []) hE (ct_X0_firstFrom l E a I tr (h) (n) (t) (hI) (by omega) (by omega) (by omega)) cm_X0_firstFrom (uw mt_L_X9_138 rfl) (gC_4 E a I tr) rfl rfl hP hD hS hl.1 rfl rfl (Nat.le_of_ble_eq_true rfl) ⟨by decide, by decide⟩ dX9_first_32 (fun H locs hP hD hS => ?_)
        refine W.eq (g2 := F0 m 35 ls [.int (rN (fst (shC I (h)) (n) (t)))]) rfl ?_
        have hf1 := fst_le (shC I (h)) (n) (t)
        refine lv_goto (tgt := 39) hx hb dX9_first_35 (by decide) ?_
        exact ret_i hE (r := rN (fst (shC I (h)) (n) (t))) (by first | (simp only [r_first, c8, c15, c22, kh, kn, kt, cond_true]; done) | (simp only [r_first, c8, c15, c22, cond_true, cond_false]; done) | (simp only [r_first, c8, c15, cond_true, cond_false]; done) | (simp only [r_first, c8, cond_false]; done)) hP hD hS dX9_first_39

set_option maxHeartbeats 4000000 in
set_option maxRecDepth 100000 in
theorem ct_X9_many (l : Launch) (E : cE) (a : Nat → Nat) (I : Nat → Nat → Nat) (tr : Int64) (zp0 zp1 : Int32) (hI : CK I) : Ct l E 3 yX9_many cX9_many 3 (some .int) [.ref (a 0), .int (zp0), .int (zp1)] (WC E a I tr) (some (.int (r_many (I 13 0) (shC I) zp0 zp1))) (WC E a I tr) := by
  refine Ct_of (plainFor_of_name (by decide)) (Nat.le_of_ble_eq_true rfl) ?_
  intro p e s m args below meth c A ls hE hP hD hS hl
  have hE : cEnv p s m args meth c E RX9 cX9_many 3 (some .int) A := hE
  have hx := hE.1
  have hb := hE.2.1
  have hl : lv_has ls 3 [(0, .ref (a 0)), (1, .int (zp0)), (2, .int (zp1))] := hl
  have hP : va_P E.1 vwCl (WC E a I tr) s.heap := hP
  generalize hH : s.heap = H at hP hS ⊢
  have hS : va_S A s.heap H [] := by rw [hH]; exact hS
  clear hH
  have hc6 := hI.1
  refine lv_aload_n hx hb dX9_many_0 rfl (lv_at hl 0 rfl) ?_
  refine gf_X9_28 hE hP (0) (gC_0 E a I tr) (v := .ref (a 3)) rfl dX9_many_1 ?_
  refine lv_iload_n hx hb dX9_many_4 rfl (lv_at hl 1 rfl) ?_
  refine call_V (As := [.int (zp0)]) (rest := []) hE (ct_X0_has l E a I tr ((zp0)) (hI).1) cm_X0_has (uw mt_L_X9_100 rfl) (gC_4 E a I tr) rfl rfl hP hD hS hl.1 rfl rfl (Nat.le_of_ble_eq_true rfl) ⟨by decide, by decide⟩ dX9_many_5 (fun H locs hP hD hS => ?_)
  refine W.eq (g2 := F0 m 8 ls [.int (bB (inB ((zp0)) (I (13) (0))))]) rfl ?_
  refine bB_ne (tgt := 13) hx hb dX9_many_8 (by decide) (fun c8 => ?_) (fun c8 => ?_)
  · obtain ⟨h, qh, rfl⟩ := inB_t (by omega) c8
    have kh : tn (nI h) = h := tn_nI (by omega)
    refine lv_iload_n hx hb dX9_many_13 rfl (lv_at hl 2 rfl) ?_
    refine lv_iconst (v := (-1)) hx hb dX9_many_14 (by decide) ?_
    refine lv_icmp_ne (tgt := 33) hx hb dX9_many_15 (by decide) (fun c15 => ?_) (fun c15 => ?_)
    · refine lv_iload_n hx hb dX9_many_33 rfl (lv_at hl 2 rfl) ?_
      refine call_S (As := [.int (zp1)]) (rest := []) hE (ct_X9_isNumber l E (WC E a I tr) ((zp1))) cm_X9_isNumber (uw mt_L_X9_135 rfl) hP hD hS hl.1 rfl rfl (Nat.le_of_ble_eq_true rfl) ⟨by decide, by decide⟩ dX9_many_34 (fun H locs hP hD hS => ?_)
      refine W.eq (g2 := F0 m 37 ls [.int (bB (inB ((zp1)) 48))]) rfl ?_
      refine bB_eq (tgt := 52) hx hb dX9_many_37 (by decide) (fun c37 => ?_) (fun c37 => ?_)
      · refine lv_iconst (v := (-1)) hx hb dX9_many_52 (by decide) ?_
        exact ret_i hE (r := (-1)) (by first | (simp only [r_many, c8, kh, kn, cond_true, c37, if_neg c15]; done) | (simp only [r_many, c8, cond_true, c37, cond_false, if_neg c15]; done)) hP hD hS dX9_many_53
      · obtain ⟨n, qn, rfl⟩ := inB_t (by omega) c37
        have kn : tn (nI n) = n := tn_nI (by omega)
        refine lv_aload_n hx hb dX9_many_40 rfl (lv_at hl 0 rfl) ?_
        refine gf_X9_28 hE hP (0) (gC_0 E a I tr) (v := .ref (a 3)) rfl dX9_many_41 ?_
        refine lv_iload_n hx hb dX9_many_44 rfl (lv_at hl 1 rfl) ?_
        refine lv_iload_n hx hb dX9_many_45 rfl (lv_at hl 2 rfl) ?_
        refine call_V (As := [.int (nI (h)), .int (nI (n))]) (rest := []) hE (ct_X0_timesOfDay l E a I tr h n hI (by omega) (by omega)) cm_X0_timesOfDay (uw mt_L_X9_152 rfl) (gC_4 E a I tr) rfl rfl hP hD hS hl.1 rfl rfl (Nat.le_of_ble_eq_true rfl) ⟨by decide, by decide⟩ dX9_many_46 (fun H locs hP hD hS => ?_)
        refine W.eq (g2 := F0 m 49 ls [.int (nI (cnt (fun u => decide (shC I h u = n)) 96))]) rfl ?_
        refine lv_goto (tgt := 53) hx hb dX9_many_49 (by decide) ?_
        exact ret_i hE (r := nI (cnt (fun u => decide (shC I h u = n)) 96)) (by first | (simp only [r_many, c8, kh, kn, cond_true, c37, if_neg c15]; done) | (simp only [r_many, c8, cond_true, c37, cond_false, if_neg c15]; done)) hP hD hS dX9_many_53
    · refine lv_bipush (v := nI (48)) hx hb dX9_many_18 (by decide) ?_
      refine lv_aload_n hx hb dX9_many_20 rfl (lv_at hl 0 rfl) ?_
      refine gf_X9_28 hE hP (0) (gC_0 E a I tr) (v := .ref (a 3)) rfl dX9_many_21 ?_
      refine lv_iload_n hx hb dX9_many_24 rfl (lv_at hl 1 rfl) ?_
      refine call_V (As := [.int (nI (h))]) (rest := [.int (nI (48))]) hE (ct_X0_numbersOfDay l E a I tr h hI (by omega)) cm_X0_numbersOfDay (uw mt_L_X9_142 rfl) (gC_4 E a I tr) rfl rfl hP hD hS hl.1 rfl rfl (Nat.le_of_ble_eq_true rfl) ⟨by decide, by decide⟩ dX9_many_25 (fun H locs hP hD hS => ?_)
      refine W.eq (g2 := F0 m 28 ls [.long (lN (mk (shC I h) 96)), .int (nI (48))]) rfl ?_
      have hmk := mk_lt (f := shC I h) 96 (fun u _ => shC_lt I h u)
      refine call_S (As := [.long (lN (mk (shC I h) 96))]) (rest := [.int (nI (48))]) hE (ct_J13_bitCount_95d88 l E (WC E a I tr) (mk (shC I h) 96) hmk) cm_J13_bitCount_95d88 (uw mt_L_X9_146 rfl) hP hD hS hl.1 rfl rfl (Nat.le_of_ble_eq_true rfl) ⟨by decide, by decide⟩ dX9_many_28 (fun H locs hP hD hS => ?_)
      refine W.eq (g2 := F0 m 31 ls [.int (nI (pc (mk (shC I h) 96))), .int (nI (48))]) rfl ?_
      have hpc48 : pc (mk (shC I h) 96) ≤ 48 := by have h1 := nev_eq (f := shC I h) (fun u _ => shC_lt I h u); have h2 : pc (mk (shC I h) 96) = cnt (fun v => (mk (shC I h) 96).testBit v) 48 := pc_48 hmk; rw [h2]; exact cnt_le _ _
      refine lv_isub hx hb dX9_many_31 ?_
      refine tp (pk_sub (by omega)) ?_
      exact ret_i hE (r := nI (48 - (pc (mk (shC I h) 96)))) (by simp only [r_many, c8, kh, cond_true, c15, if_true]; rw [nev_eq (fun u _ => shC_lt I h u)]) hP hD hS dX9_many_32
  · refine lv_iconst (v := (-1)) hx hb dX9_many_11 (by decide) ?_
    exact ret_i hE (r := (-1)) (by simp only [r_many, c8, cond_false]) hP hD hS dX9_many_12

set_option maxHeartbeats 4000000 in
set_option maxRecDepth 100000 in
theorem ct_X9_there (l : Launch) (E : cE) (a : Nat → Nat) (I : Nat → Nat → Nat) (tr : Int64) (zp0 zp1 zp2 : Int32) (hI : CK I) : Ct l E 3 yX9_there cX9_there 5 (some .int) [.ref (a 0), .int (zp0), .int (zp1), .int (zp2)] (WC E a I tr) (some (.int (r_there (I 13 0) (shC I) zp0 zp1 zp2))) (WC E a I tr) := by
  refine Ct_of (plainFor_of_name (by decide)) (Nat.le_of_ble_eq_true rfl) ?_
  intro p e s m args below meth c A ls hE hP hD hS hl
  have hE : cEnv p s m args meth c E RX9 cX9_there 5 (some .int) A := hE
  have hx := hE.1
  have hb := hE.2.1
  have hl : lv_has ls 5 [(0, .ref (a 0)), (1, .int (zp0)), (2, .int (zp1)), (3, .int (zp2))] := hl
  have hP : va_P E.1 vwCl (WC E a I tr) s.heap := hP
  generalize hH : s.heap = H at hP hS ⊢
  have hS : va_S A s.heap H [] := by rw [hH]; exact hS
  clear hH
  have hc6 := hI.1
  refine lv_aload_n hx hb dX9_there_0 rfl (lv_at hl 0 rfl) ?_
  refine gf_X9_28 hE hP (0) (gC_0 E a I tr) (v := .ref (a 3)) rfl dX9_there_1 ?_
  refine lv_iload_n hx hb dX9_there_4 rfl (lv_at hl 1 rfl) ?_
  refine call_V (As := [.int (zp0)]) (rest := []) hE (ct_X0_has l E a I tr ((zp0)) (hI).1) cm_X0_has (uw mt_L_X9_100 rfl) (gC_4 E a I tr) rfl rfl hP hD hS hl.1 rfl rfl (Nat.le_of_ble_eq_true rfl) ⟨by decide, by decide⟩ dX9_there_5 (fun H locs hP hD hS => ?_)
  refine W.eq (g2 := F0 m 8 ls [.int (bB (inB ((zp0)) (I (13) (0))))]) rfl ?_
  refine bB_eq (tgt := 29) hx hb dX9_there_8 (by decide) (fun c8 => ?_) (fun c8 => ?_)
  · refine lv_iconst (v := (-1)) hx hb dX9_there_29 (by decide) ?_
    exact ret_i hE (r := (-1)) (by first | (simp only [r_there, c8, c19, c26, cond_true, cond_false]; done) | (simp only [r_there, c8, c19, cond_true, cond_false]; done) | (simp only [r_there, c8, cond_false]; done)) hP hD hS dX9_there_30
  · obtain ⟨h, qh, rfl⟩ := inB_t (by omega) c8
    have kh : tn (nI h) = h := tn_nI (by omega)
    refine lv_aload_n hx hb dX9_there_11 rfl (lv_at hl 0 rfl) ?_
    refine gf_X9_28 hE hP (0) (gC_0 E a I tr) (v := .ref (a 3)) rfl dX9_there_12 ?_
    refine lv_iload_n hx hb dX9_there_15 rfl (lv_at hl 3 rfl) ?_
    refine call_V (As := [.int (zp2)]) (rest := []) hE (ct_X0_has l E a I tr ((zp2)) (hI).1) cm_X0_has (uw mt_L_X9_100 rfl) (gC_4 E a I tr) rfl rfl hP hD hS hl.1 rfl rfl (Nat.le_of_ble_eq_true rfl) ⟨by decide, by decide⟩ dX9_there_16 (fun H locs hP hD hS => ?_)
    refine W.eq (g2 := F0 m 19 ls [.int (bB (inB ((zp2)) (I (13) (0))))]) rfl ?_
    refine bB_eq (tgt := 29) hx hb dX9_there_19 (by decide) (fun c19 => ?_) (fun c19 => ?_)
    · refine lv_iconst (v := (-1)) hx hb dX9_there_29 (by decide) ?_
      exact ret_i hE (r := (-1)) (by first | (simp only [r_there, c8, c19, c26, cond_true, cond_false]; done) | (simp only [r_there, c8, c19, cond_true, cond_false]; done) | (simp only [r_there, c8, cond_false]; done)) hP hD hS dX9_there_30
    · obtain ⟨x, qx, rfl⟩ := inB_t (by omega) c19
      have kx : tn (nI x) = x := tn_nI (by omega)
      refine lv_iload_n hx hb dX9_there_22 rfl (lv_at hl 2 rfl) ?_
      refine call_S (As := [.int (zp1)]) (rest := []) hE (ct_X9_isNumber l E (WC E a I tr) ((zp1))) cm_X9_isNumber (uw mt_L_X9_135 rfl) hP hD hS hl.1 rfl rfl (Nat.le_of_ble_eq_true rfl) ⟨by decide, by decide⟩ dX9_there_23 (fun H locs hP hD hS => ?_)
      refine W.eq (g2 := F0 m 26 ls [.int (bB (inB ((zp1)) 48))]) rfl ?_
      refine bB_ne (tgt := 31) hx hb dX9_there_26 (by decide) (fun c26 => ?_) (fun c26 => ?_)
      · obtain ⟨n, qn, rfl⟩ := inB_t (by omega) c26
        have kn : tn (nI n) = n := tn_nI (by omega)
        refine lv_aload_n hx hb dX9_there_31 rfl (lv_at hl 0 rfl) ?_
        refine gf_X9_28 hE hP (0) (gC_0 E a I tr) (v := .ref (a 3)) rfl dX9_there_32 ?_
        refine lv_iload_n hx hb dX9_there_35 rfl (lv_at hl 1 rfl) ?_
        refine lv_iload_n hx hb dX9_there_36 rfl (lv_at hl 2 rfl) ?_
        refine lv_iconst (v := nI (0)) hx hb dX9_there_37 (by decide) ?_
        refine call_V (As := [.int (nI (h)), .int (nI (n)), .int (nI (0))]) (rest := []) hE (ct_X0_firstFrom l E a I tr (h) (n) (0) (hI) (by omega) (by omega) (by omega)) cm_X0_firstFrom (uw mt_L_X9_138 rfl) (gC_4 E a I tr) rfl rfl hP hD hS hl.1 rfl rfl (Nat.le_of_ble_eq_true rfl) ⟨by decide, by decide⟩ dX9_there_38 (fun H locs hP hD hS => ?_)
        refine W.eq (g2 := F0 m 41 ls [.int (rN (fst (shC I (h)) (n) (0)))]) rfl ?_
        have hf1 := fst_le (shC I (h)) (n) (0)
        refine lv_istore (lv' := [(4, .int (rN (fst (shC I (h)) (n) (0)))), (0, .ref (a 0)), (1, .int (nI (h))), (2, .int (nI (n))), (3, .int (nI (x)))]) hx hb dX9_there_41 hl (by decide) rfl (fun ls hl => ?_)
        refine lv_iload hx hb dX9_there_43 (lv_at hl 0 rfl) ?_
        refine lv_bipush (v := (-9)) hx hb dX9_there_45 (by decide) ?_
        refine bQ9_ne (tgt := 55) hx hb (by omega) dX9_there_47 (by decide) (fun c47 => ?_) (fun c47 => ?_)
        · rw [rN_pos (fst_pos c47)] at hl
          refine lv_aload_n hx hb dX9_there_55 rfl (lv_at hl 1 rfl) ?_
          refine gf_X9_28 hE hP (0) (gC_0 E a I tr) (v := .ref (a 3)) rfl dX9_there_56 ?_
          refine lv_iload_n hx hb dX9_there_59 rfl (lv_at hl 4 rfl) ?_
          refine lv_iload hx hb dX9_there_60 (lv_at hl 0 rfl) ?_
          refine call_V (As := [.int (nI (x)), .int (nI (fst (shC I (h)) (n) (0) - 9))]) (rest := []) hE (ct_X0_showsAt l E a I tr (x) (fst (shC I (h)) (n) (0) - 9) (hI) (by omega) (by omega)) cm_X0_showsAt (uw mt_L_X9_131 rfl) (gC_4 E a I tr) rfl rfl hP hD hS hl.1 rfl rfl (Nat.le_of_ble_eq_true rfl) ⟨by decide, by decide⟩ dX9_there_62 (fun H locs hP hD hS => ?_)
          refine W.eq (g2 := F0 m 65 ls [.int (nI (shC I (x) (fst (shC I (h)) (n) (0) - 9)))]) rfl ?_
          have hs2 := shC_lt I (x) (fst (shC I (h)) (n) (0) - 9)
          exact ret_i hE (r := nI (shC I (x) (fst (shC I (h)) (n) (0) - 9))) (by first | (simp only [r_there, c8, c19, c26, kh, kx, kn, cond_true, if_neg (show ¬ fst (shC I h) n 0 = 0 by omega)]; done) | (simp only [r_there, c8, c19, c26, kh, kx, kn, cond_true, if_pos c47]; done)) hP hD hS dX9_there_65
        · refine lv_bipush (v := (-9)) hx hb dX9_there_50 (by decide) ?_
          refine lv_goto (tgt := 65) hx hb dX9_there_52 (by decide) ?_
          exact ret_i hE (r := (-9)) (by first | (simp only [r_there, c8, c19, c26, kh, kx, kn, cond_true, if_neg (show ¬ fst (shC I h) n 0 = 0 by omega)]; done) | (simp only [r_there, c8, c19, c26, kh, kx, kn, cond_true, if_pos c47]; done)) hP hD hS dX9_there_65
      · refine lv_iconst (v := (-1)) hx hb dX9_there_29 (by decide) ?_
        exact ret_i hE (r := (-1)) (by first | (simp only [r_there, c8, c19, c26, cond_true, cond_false]; done) | (simp only [r_there, c8, c19, cond_true, cond_false]; done) | (simp only [r_there, c8, cond_false]; done)) hP hD hS dX9_there_30

set_option maxHeartbeats 4000000 in
set_option maxRecDepth 100000 in
theorem ct_X9_house (l : Launch) (E : cE) (a : Nat → Nat) (I : Nat → Nat → Nat) (tr : Int64) (zp0 zp1 : Int32) (hI : CK I) : Ct l E 3 yX9_house cX9_house 4 (some .int) [.ref (a 0), .int (zp0), .int (zp1)] (WC E a I tr) (some (.int (r_house (I 13 0) (I 15) (I 16) (I 17) (I 18) (I 7) zp0 zp1))) (WC E a I tr) := by
  refine Ct_of (plainFor_of_name (by decide)) (Nat.le_of_ble_eq_true rfl) ?_
  intro p e s m args below meth c A ls hE hP hD hS hl
  have hE : cEnv p s m args meth c E RX9 cX9_house 4 (some .int) A := hE
  have hx := hE.1
  have hb := hE.2.1
  have hl : lv_has ls 4 [(0, .ref (a 0)), (1, .int (zp0)), (2, .int (zp1))] := hl
  have hP : va_P E.1 vwCl (WC E a I tr) s.heap := hP
  generalize hH : s.heap = H at hP hS ⊢
  have hS : va_S A s.heap H [] := by rw [hH]; exact hS
  clear hH
  have hc6 := hI.1
  refine lv_aload_n hx hb dX9_house_0 rfl (lv_at hl 0 rfl) ?_
  refine gf_X9_28 hE hP (0) (gC_0 E a I tr) (v := .ref (a 3)) rfl dX9_house_1 ?_
  refine lv_iload_n hx hb dX9_house_4 rfl (lv_at hl 1 rfl) ?_
  refine call_V (As := [.int (zp0)]) (rest := []) hE (ct_X0_has l E a I tr ((zp0)) (hI).1) cm_X0_has (uw mt_L_X9_100 rfl) (gC_4 E a I tr) rfl rfl hP hD hS hl.1 rfl rfl (Nat.le_of_ble_eq_true rfl) ⟨by decide, by decide⟩ dX9_house_5 (fun H locs hP hD hS => ?_)
  refine W.eq (g2 := F0 m 8 ls [.int (bB (inB ((zp0)) (I (13) (0))))]) rfl ?_
  refine bB_ne (tgt := 13) hx hb dX9_house_8 (by decide) (fun c8 => ?_) (fun c8 => ?_)
  · obtain ⟨h, qh, rfl⟩ := inB_t (by omega) c8
    have kh : tn (nI h) = h := tn_nI (by omega)
    refine lv_aload_n hx hb dX9_house_13 rfl (lv_at hl 0 rfl) ?_
    refine gf_X9_28 hE hP (0) (gC_0 E a I tr) (v := .ref (a 3)) rfl dX9_house_14 ?_
    refine gf_X9_89 hE hP (4) (gC_4 E a I tr) (v := .ref (a 11)) rfl dX9_house_17 ?_
    refine gf_X9_104 hE hP (10) (gC_10 E a I tr) (v := .ref (a 17)) rfl dX9_house_20 ?_
    refine lv_iload_n hx hb dX9_house_23 rfl (lv_at hl 1 rfl) ?_
    refine ald_q 3 hE hP 11 (gC_11 E a I tr) rfl (by omega) (by decide) (r := a (40 + h)) rfl dX9_house_24 ?_
    refine lv_astore_n (lv' := [(3, .ref (a (40 + h))), (0, .ref (a 0)), (1, .int (nI (h))), (2, .int (zp1))]) hx hb dX9_house_25 rfl hl (by decide) rfl (fun ls hl => ?_)
    refine lv_iload_n hx hb dX9_house_26 rfl (lv_at hl 3 rfl) ?_
    by_cases w27_0 : zp1 = nI 0
    · subst w27_0
      refine lv_tableIn (off := 33) (tgt := 60) hx hb dX9_house_27 (by decide) (by decide) (by decide) (by decide) ?_
      refine lv_aload_n hx hb dX9_house_60 rfl (lv_at hl 0 rfl) ?_
      refine gf_X9_110 hE hP (12 + h) (gC_hc E a I tr (h) (by omega)) (v := .int (nI (I (15) (h)))) rfl dX9_house_61 ?_
      exact ret_i hE (r := nI (I (15) (h))) (by simp only [r_house, c8, kh, cond_true]; rw [if_pos trivial]) hP hD hS dX9_house_64
    by_cases w27_1 : zp1 = nI 1
    · subst w27_1
      refine lv_tableIn (off := 38) (tgt := 65) hx hb dX9_house_27 (by decide) (by decide) (by decide) (by decide) ?_
      refine lv_aload_n hx hb dX9_house_65 rfl (lv_at hl 0 rfl) ?_
      refine gf_X9_115 hE hP (12 + h) (gC_hc E a I tr (h) (by omega)) (v := .int (nI (I (16) (h)))) rfl dX9_house_66 ?_
      exact ret_i hE (r := nI (I (16) (h))) (by simp only [r_house, c8, kh, cond_true]; rw [if_neg (show ¬ nI 1 = nI 0 by decide), if_pos trivial]) hP hD hS dX9_house_69
    by_cases w27_2 : zp1 = nI 2
    · subst w27_2
      refine lv_tableIn (off := 43) (tgt := 70) hx hb dX9_house_27 (by decide) (by decide) (by decide) (by decide) ?_
      refine lv_aload_n hx hb dX9_house_70 rfl (lv_at hl 0 rfl) ?_
      refine gf_X9_118 hE hP (12 + h) (gC_hc E a I tr (h) (by omega)) (v := .int (nI (I (17) (h)))) rfl dX9_house_71 ?_
      exact ret_i hE (r := nI (I (17) (h))) (by simp only [r_house, c8, kh, cond_true]; rw [if_neg (show ¬ nI 2 = nI 0 by decide), if_neg (show ¬ nI 2 = nI 1 by decide), if_pos trivial]) hP hD hS dX9_house_74
    by_cases w27_3 : zp1 = nI 3
    · subst w27_3
      refine lv_tableIn (off := 48) (tgt := 75) hx hb dX9_house_27 (by decide) (by decide) (by decide) (by decide) ?_
      refine lv_aload_n hx hb dX9_house_75 rfl (lv_at hl 0 rfl) ?_
      refine gf_X9_121 hE hP (12 + h) (gC_hc E a I tr (h) (by omega)) (v := .int (nI (I (18) (h)))) rfl dX9_house_76 ?_
      exact ret_i hE (r := nI (I (18) (h))) (by simp only [r_house, c8, kh, cond_true]; rw [if_neg (show ¬ nI 3 = nI 0 by decide), if_neg (show ¬ nI 3 = nI 1 by decide), if_neg (show ¬ nI 3 = nI 2 by decide), if_pos trivial]) hP hD hS dX9_house_79
    by_cases w27_4 : zp1 = nI 4
    · subst w27_4
      refine lv_tableIn (off := 53) (tgt := 80) hx hb dX9_house_27 (by decide) (by decide) (by decide) (by decide) ?_
      refine lv_aload_n hx hb dX9_house_80 rfl (lv_at hl 1 rfl) ?_
      refine gf_X9_36 hE hP (0) (gC_0 E a I tr) (v := .ref (a 4)) rfl dX9_house_81 ?_
      refine gf_X9_124 hE hP (5) (gC_5 E a I tr) (v := .ref (a 14)) rfl dX9_house_84 ?_
      refine lv_iload_n hx hb dX9_house_87 rfl (lv_at hl 2 rfl) ?_
      refine ald_i hE hP (6) (gC_6 E a I tr) (by omega) (by decide) (r := nI (I (7) (h))) rfl dX9_house_88 ?_
      exact ret_i hE (r := nI (I (7) (h))) (by simp only [r_house, c8, kh, cond_true]; rw [if_neg (show ¬ nI 4 = nI 0 by decide), if_neg (show ¬ nI 4 = nI 1 by decide), if_neg (show ¬ nI 4 = nI 2 by decide), if_neg (show ¬ nI 4 = nI 3 by decide), if_pos trivial]) hP hD hS dX9_house_89
    have wout : ∀ j, j ≤ 4 → ¬ zp1 = nI j := fun j hj => by rcases (show j = 0 ∨ j = 1 ∨ j = 2 ∨ j = 3 ∨ j = 4 by omega) with rfl | rfl | rfl | rfl | rfl <;> assumption
    refine lv_tableOut (tgt := 90) hx hb dX9_house_27 (sw_out 4 (by decide) wout) (by decide) ?_
    refine lv_iconst (v := (-1)) hx hb dX9_house_90 (by decide) ?_
    exact ret_i hE (r := (-1)) (by simp only [r_house, c8, kh, cond_true]; rw [if_neg w27_0, if_neg w27_1, if_neg w27_2, if_neg w27_3, if_neg w27_4]) hP hD hS dX9_house_91
  · refine lv_iconst (v := (-1)) hx hb dX9_house_11 (by decide) ?_
    exact ret_i hE (r := (-1)) (by simp only [r_house, c8, cond_false]) hP hD hS dX9_house_12

set_option maxHeartbeats 4000000 in
set_option maxRecDepth 100000 in
theorem ct_X9_early (l : Launch) (E : cE) (a : Nat → Nat) (I : Nat → Nat → Nat) (tr : Int64) (zp0 zp1 zp2 : Int32) (hI : CK I) : Ct l E 4 yX9_early cX9_early 4 (some .int) [.ref (a 0), .int (zp0), .int (zp1), .int (zp2)] (WC E a I tr) (some (.int (r_early (I 13 0) (I 14 0) (shC I) zp0 zp1 zp2))) (WC E a I tr) := by
  refine Ct_of (plainFor_of_name (by decide)) (Nat.le_of_ble_eq_true rfl) ?_
  intro p e s m args below meth c A ls hE hP hD hS hl
  have hE : cEnv p s m args meth c E RX9 cX9_early 4 (some .int) A := hE
  have hx := hE.1
  have hb := hE.2.1
  have hl : lv_has ls 4 [(0, .ref (a 0)), (1, .int (zp0)), (2, .int (zp1)), (3, .int (zp2))] := hl
  have hP : va_P E.1 vwCl (WC E a I tr) s.heap := hP
  generalize hH : s.heap = H at hP hS ⊢
  have hS : va_S A s.heap H [] := by rw [hH]; exact hS
  clear hH
  have hc6 := hI.1
  refine lv_aload_n hx hb dX9_early_0 rfl (lv_at hl 0 rfl) ?_
  refine gf_X9_28 hE hP (0) (gC_0 E a I tr) (v := .ref (a 3)) rfl dX9_early_1 ?_
  refine lv_iload_n hx hb dX9_early_4 rfl (lv_at hl 1 rfl) ?_
  refine lv_iload_n hx hb dX9_early_5 rfl (lv_at hl 2 rfl) ?_
  refine call_V (As := [.int (zp0), .int (zp1)]) (rest := []) hE (ct_X0_hasBoth l E a I tr ((zp0)) ((zp1)) hI) cm_X0_hasBoth (uw mt_L_X9_155 rfl) (gC_4 E a I tr) rfl rfl hP hD hS hl.1 rfl rfl (Nat.le_of_ble_eq_true rfl) ⟨by decide, by decide⟩ dX9_early_6 (fun H locs hP hD hS => ?_)
  refine W.eq (g2 := F0 m 9 ls [.int (bB (hb2 (I (13) (0)) ((zp0)) ((zp1))))]) rfl ?_
  refine bB_ne (tgt := 14) hx hb dX9_early_9 (by decide) (fun c9 => ?_) (fun c9 => ?_)
  · obtain ⟨x, y, hx6, hy6, hxy, rfl, rfl⟩ := hb2_t (by omega) c9
    have kx : tn (nI x) = x := tn_nI (by omega)
    have ky : tn (nI y) = y := tn_nI (by omega)
    refine lv_iload_n hx hb dX9_early_14 rfl (lv_at hl 3 rfl) ?_
    by_cases w15_0 : zp2 = nI 0
    · subst w15_0
      refine lv_lookup (off := 25) (tgt := 40) hx hb dX9_early_15 (by decide) (by decide) (by decide) ?_
      refine lv_aload_n hx hb dX9_early_40 rfl (lv_at hl 0 rfl) ?_
      refine gf_X9_28 hE hP (0) (gC_0 E a I tr) (v := .ref (a 3)) rfl dX9_early_41 ?_
      refine lv_iload_n hx hb dX9_early_44 rfl (lv_at hl 1 rfl) ?_
      refine lv_iload_n hx hb dX9_early_45 rfl (lv_at hl 2 rfl) ?_
      refine call_V (As := [.int (nI (x)), .int (nI (y))]) (rest := []) hE (ct_X0_earlyVisits l E a I tr x y hI (by omega) (by omega)) cm_X0_earlyVisits (uw mt_L_X9_159 rfl) (gC_4 E a I tr) rfl rfl hP hD hS hl.1 rfl rfl (Nat.le_of_ble_eq_true rfl) ⟨by decide, by decide⟩ dX9_early_46 (fun H locs hP hD hS => ?_)
      refine W.eq (g2 := F0 m 49 ls [.int (nI (cnt (evF (shC I) (I 14 0) x y) (96 - I 14 0)))]) rfl ?_
      have hev := cnt_le (evF (shC I) (I 14 0) x y) (96 - I 14 0)
      exact ret_i hE (r := nI (cnt (evF (shC I) (I 14 0) x y) (96 - I 14 0))) (by simp only [r_early, c9, kx, ky, cond_true]; rw [if_pos trivial]) hP hD hS dX9_early_49
    by_cases w15_1 : zp2 = nI 1
    · subst w15_1
      refine lv_lookup (off := 35) (tgt := 50) hx hb dX9_early_15 (by decide) (by decide) (by decide) ?_
      refine lv_aload_n hx hb dX9_early_50 rfl (lv_at hl 0 rfl) ?_
      refine gf_X9_28 hE hP (0) (gC_0 E a I tr) (v := .ref (a 3)) rfl dX9_early_51 ?_
      refine lv_iload_n hx hb dX9_early_54 rfl (lv_at hl 1 rfl) ?_
      refine lv_iload_n hx hb dX9_early_55 rfl (lv_at hl 2 rfl) ?_
      refine call_V (As := [.int (nI (x)), .int (nI (y))]) (rest := []) hE (ct_X0_firstEarlyVisit l E a I tr x y hI (by omega) (by omega)) cm_X0_firstEarlyVisit (uw mt_L_X9_162 rfl) (gC_4 E a I tr) rfl rfl hP hD hS hl.1 rfl rfl (Nat.le_of_ble_eq_true rfl) ⟨by decide, by decide⟩ dX9_early_56 (fun H locs hP hD hS => ?_)
      refine W.eq (g2 := F0 m 59 ls [.int (rN (sr (evF (shC I) (I 14 0) x y) (96 - I 14 0) 0))]) rfl ?_
      exact ret_i hE (r := rN (sr (evF (shC I) (I 14 0) x y) (96 - I 14 0) 0)) (by simp only [r_early, c9, kx, ky, cond_true]; rw [if_neg (show ¬ nI 1 = nI 0 by decide), if_pos trivial]) hP hD hS dX9_early_59
    have wout : ∀ j, j ≤ 1 → ¬ zp2 = nI j := fun j hj => by rcases (show j = 0 ∨ j = 1 by omega) with rfl | rfl <;> assumption
    refine lv_lookup (off := 45) (tgt := 60) hx hb dX9_early_15 (by decide) ?_ (by decide) ?_
    · rw [lv_osw w15_0 (by decide), lv_osw w15_1 (by decide)]; rfl
    refine lv_iconst (v := (-1)) hx hb dX9_early_60 (by decide) ?_
    exact ret_i hE (r := (-1)) (by simp only [r_early, c9, kx, ky, cond_true]; rw [if_neg w15_0, if_neg w15_1]) hP hD hS dX9_early_61
  · refine lv_iconst (v := (-1)) hx hb dX9_early_12 (by decide) ?_
    exact ret_i hE (r := (-1)) (by simp only [r_early, c9, cond_false]) hP hD hS dX9_early_13
