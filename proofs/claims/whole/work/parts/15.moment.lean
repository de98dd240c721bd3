set_option maxHeartbeats 4000000 in
set_option maxRecDepth 100000 in
theorem ct_X4_reset (l : Launch) (E : cE) (a : Nat → Nat) (I : Nat → Nat → Nat) (tr : Int64)  : Ct l E 1 yX4_reset cX4_reset 1 none [.ref (a 4)] (WC E a I tr) none (WC E a (up2 (up2 (upA I 7 (flN (I 7) 6 0)) 10 0 0) 11 0 0) tr) := by
  refine Ct_of (plainFor_of_name (by decide)) (Nat.le_of_ble_eq_true rfl) ?_
  intro p e s m args below meth c A ls hE hP hD hS hl
  have hE : cEnv p s m args meth c E RX4 cX4_reset 1 none A := hE
  have hx := hE.1
  have hb := hE.2.1
  have hl : lv_has ls 1 [(0, .ref (a 4))] := hl
  have hP : va_P E.1 vwCl (WC E a I tr) s.heap := hP
  generalize hH : s.heap = H at hP hS ⊢
  have hS : va_S A s.heap H [] := by rw [hH]; exact hS
  clear hH
  refine lv_aload_n hx hb dX4_reset_0 rfl (lv_at hl 0 rfl) ?_
  refine gf_X4_9 hE hP (5) (gC_5 E a I tr) (v := .ref (a 14)) rfl dX4_reset_1 ?_
  refine lv_iconst (v := nI (0)) hx hb dX4_reset_4 (by decide) ?_
  refine call_S (As := [.ref (a 14), .int (nI (0))]) (rest := []) hE (ct_J7_fill l E (WC E a I tr) 6 (a 14) 6 0 (I 7) (gC_6 E a I tr) (by decide)) cm_J7_fill_53178 (uw mt_L_X4_21 rfl) hP hD hS hl.1 rfl rfl (Nat.le_of_ble_eq_true rfl) ⟨by decide, by decide⟩ dX4_reset_5 (fun H locs hP hD hS => ?_)
  refine W.eq (g2 := F0 m 8 ls []) rfl ?_
  rw [tC_6] at hP hD
  refine lv_aload_n hx hb dX4_reset_8 rfl (lv_at hl 0 rfl) ?_
  refine lv_iconst (v := nI (0)) hx hb dX4_reset_9 (by decide) ?_
  refine pf_X4_27 hE hP hD hS (5) (gC_5 E a (upA I (7) (flN (I 7) 6 0)) tr) rfl rfl (Nat.le_of_ble_eq_true rfl) (sC_5_3 E a (upA I (7) (flN (I 7) 6 0)) tr (0)) dX4_reset_10 (fun H locs hP hD hS => ?_)
  refine lv_aload_n hx hb dX4_reset_13 rfl (lv_at hl 0 rfl) ?_
  refine lv_iconst (v := nI (0)) hx hb dX4_reset_14 (by decide) ?_
  refine pf_X4_31 hE hP hD hS (5) (gC_5 E a (up2 (upA I (7) (flN (I 7) 6 0)) (10) (0) (0)) tr) rfl rfl (Nat.le_of_ble_eq_true rfl) (sC_5_4 E a (up2 (upA I (7) (flN (I 7) 6 0)) (10) (0) (0)) tr (0)) dX4_reset_15 (fun H locs hP hD hS => ?_)
  exact ret_v hE rfl hP hD hS dX4_reset_18

set_option maxHeartbeats 4000000 in
set_option maxRecDepth 100000 in
theorem ct_X4_copy_p0 (l : Launch) (E : cE) (a : Nat → Nat) (I : Nat → Nat → Nat) (tr : Int64)  : Ct l E 1 yX4_copyFrom cX4_copyFrom 2 none [.ref (a 4), .ref (a 30)] (WC E a I tr) none (WC E a (up2 (up2 (upA (upA (upA I 7 (cpN (I 60) (I 7) 0 0 6)) 8 (cpN (I 61) (I 8) 0 0 10)) 9 (cpN (I 62) (I 9) 0 0 10)) 10 0 (I 63 0)) 11 0 (I 64 0)) tr) := by
  refine Ct_of (plainFor_of_name (by decide)) (Nat.le_of_ble_eq_true rfl) ?_
  intro p e s m args below meth c A ls hE hP hD hS hl
  have hE : cEnv p s m args meth c E RX4 cX4_copyFrom 2 none A := hE
  have hx := hE.1
  have hb := hE.2.1
  have hl : lv_has ls 2 [(0, .ref (a 4)), (1, .ref (a 30))] := hl
  have hP : va_P E.1 vwCl (WC E a I tr) s.heap := hP
  generalize hH : s.heap = H at hP hS ⊢
  have hS : va_S A s.heap H [] := by rw [hH]; exact hS
  clear hH
  refine lv_aload_n hx hb dX4_copyFrom_0 rfl (lv_at hl 1 rfl) ?_
  refine gf_X4_9 hE hP (53) (gC_53 E a I tr) (v := .ref (a 32)) rfl dX4_copyFrom_1 ?_
  refine lv_iconst (v := nI (0)) hx hb dX4_copyFrom_4 (by decide) ?_
  refine lv_aload_n hx hb dX4_copyFrom_5 rfl (lv_at hl 0 rfl) ?_
  refine gf_X4_9 hE hP (5) (gC_5 E a I tr) (v := .ref (a 14)) rfl dX4_copyFrom_6 ?_
  refine lv_iconst (v := nI (0)) hx hb dX4_copyFrom_9 (by decide) ?_
  refine lv_bipush (v := nI (6)) hx hb dX4_copyFrom_10 (by decide) ?_
  refine acpy hE (uw mt_L_X4_34 rfl) (uw mt_V_java_lang_System_arraycopy__Ljava_lang_Object_ILjava_lang_Object_II_V rfl) (uw mt_T_java_lang_System_arraycopy__Ljava_lang_Object_ILjava_lang_Object_II_V rfl) (uw mt_N_J10 rfl) hl.1 (by decide) hP hD hS 54 6 (gC_54 E a I tr) (gC_6 E a I tr) (sp := 0) (dp := 0) (n := 6) (by decide) (by decide) (by decide) (by rw [cpN_I] <;> exact tC_6 E a I tr (cpN (I 60) (I 7) (0) (0) (6))) rfl dX4_copyFrom_12 (fun H locs hP hD hS => ?_)
  refine lv_aload_n hx hb dX4_copyFrom_15 rfl (lv_at hl 1 rfl) ?_
  refine gf_X4_15 hE hP (53) (gC_53 E a (upA I (7) (cpN (I 60) (I 7) (0) (0) (6))) tr) (v := .ref (a 33)) rfl dX4_copyFrom_16 ?_
  refine lv_iconst (v := nI (0)) hx hb dX4_copyFrom_19 (by decide) ?_
  refine lv_aload_n hx hb dX4_copyFrom_20 rfl (lv_at hl 0 rfl) ?_
  refine gf_X4_15 hE hP (5) (gC_5 E a (upA I (7) (cpN (I 60) (I 7) (0) (0) (6))) tr) (v := .ref (a 15)) rfl dX4_copyFrom_21 ?_
  refine lv_iconst (v := nI (0)) hx hb dX4_copyFrom_24 (by decide) ?_
  refine lv_bipush (v := nI (10)) hx hb dX4_copyFrom_25 (by decide) ?_
  refine acpy hE (uw mt_L_X4_34 rfl) (uw mt_V_java_lang_System_arraycopy__Ljava_lang_Object_ILjava_lang_Object_II_V rfl) (uw mt_T_java_lang_System_arraycopy__Ljava_lang_Object_ILjava_lang_Object_II_V rfl) (uw mt_N_J10 rfl) hl.1 (by decide) hP hD hS 55 7 (gC_55 E a (upA I (7) (cpN (I 60) (I 7) (0) (0) (6))) tr) (gC_7 E a (upA I (7) (cpN (I 60) (I 7) (0) (0) (6))) tr) (sp := 0) (dp := 0) (n := 10) (by decide) (by decide) (by decide) (by rw [cpN_I] <;> exact tC_7 E a (upA I (7) (cpN (I 60) (I 7) (0) (0) (6))) tr (cpN (I 61) (I 8) (0) (0) (10))) rfl dX4_copyFrom_27 (fun H locs hP hD hS => ?_)
  refine lv_aload_n hx hb dX4_copyFrom_30 rfl (lv_at hl 1 rfl) ?_
  refine gf_X4_18 hE hP (53) (gC_53 E a (upA (upA I (7) (cpN (I 60) (I 7) (0) (0) (6))) (8) (cpN (I 61) (I 8) (0) (0) (10))) tr) (v := .ref (a 34)) rfl dX4_copyFrom_31 ?_
  refine lv_iconst (v := nI (0)) hx hb dX4_copyFrom_34 (by decide) ?_
  refine lv_aload_n hx hb dX4_copyFrom_35 rfl (lv_at hl 0 rfl) ?_
  refine gf_X4_18 hE hP (5) (gC_5 E a (upA (upA I (7) (cpN (I 60) (I 7) (0) (0) (6))) (8) (cpN (I 61) (I 8) (0) (0) (10))) tr) (v := .ref (a 16)) rfl dX4_copyFrom_36 ?_
  refine lv_iconst (v := nI (0)) hx hb dX4_copyFrom_39 (by decide) ?_
  refine lv_bipush (v := nI (10)) hx hb dX4_copyFrom_40 (by decide) ?_
  refine acpy hE (uw mt_L_X4_34 rfl) (uw mt_V_java_lang_System_arraycopy__Ljava_lang_Object_ILjava_lang_Object_II_V rfl) (uw mt_T_java_lang_System_arraycopy__Ljava_lang_Object_ILjava_lang_Object_II_V rfl) (uw mt_N_J10 rfl) hl.1 (by decide) hP hD hS 56 8 (gC_56 E a (upA (upA I (7) (cpN (I 60) (I 7) (0) (0) (6))) (8) (cpN (I 61) (I 8) (0) (0) (10))) tr) (gC_8 E a (upA (upA I (7) (cpN (I 60) (I 7) (0) (0) (6))) (8) (cpN (I 61) (I 8) (0) (0) (10))) tr) (sp := 0) (dp := 0) (n := 10) (by decide) (by decide) (by decide) (by rw [cpN_I] <;> exact tC_8 E a (upA (upA I (7) (cpN (I 60) (I 7) (0) (0) (6))) (8) (cpN (I 61) (I 8) (0) (0) (10))) tr (cpN (I 62) (I 9) (0) (0) (10))) rfl dX4_copyFrom_42 (fun H locs hP hD hS => ?_)
  refine lv_aload_n hx hb dX4_copyFrom_45 rfl (lv_at hl 0 rfl) ?_
  refine lv_aload_n hx hb dX4_copyFrom_46 rfl (lv_at hl 1 rfl) ?_
  refine gf_X4_27 hE hP (53) (gC_53 E a (upA (upA (upA I (7) (cpN (I 60) (I 7) (0) (0) (6))) (8) (cpN (I 61) (I 8) (0) (0) (10))) (9) (cpN (I 62) (I 9) (0) (0) (10))) tr) (v := .int (nI (I (63) (0)))) rfl dX4_copyFrom_47 ?_
  refine pf_X4_27 hE hP hD hS (5) (gC_5 E a (upA (upA (upA I (7) (cpN (I 60) (I 7) (0) (0) (6))) (8) (cpN (I 61) (I 8) (0) (0) (10))) (9) (cpN (I 62) (I 9) (0) (0) (10))) tr) rfl rfl (Nat.le_of_ble_eq_true rfl) (sC_5_3 E a (upA (upA (upA I (7) (cpN (I 60) (I 7) (0) (0) (6))) (8) (cpN (I 61) (I 8) (0) (0) (10))) (9) (cpN (I 62) (I 9) (0) (0) (10))) tr (I (63) (0))) dX4_copyFrom_50 (fun H locs hP hD hS => ?_)
  refine lv_aload_n hx hb dX4_copyFrom_53 rfl (lv_at hl 0 rfl) ?_
  refine lv_aload_n hx hb dX4_copyFrom_54 rfl (lv_at hl 1 rfl) ?_
  refine gf_X4_31 hE hP (53) (gC_53 E a (up2 (upA (upA (upA I (7) (cpN (I 60) (I 7) (0) (0) (6))) (8) (cpN (I 61) (I 8) (0) (0) (10))) (9) (cpN (I 62) (I 9) (0) (0) (10))) (10) (0) (I (63) (0))) tr) (v := .int (nI (I (64) (0)))) rfl dX4_copyFrom_55 ?_
  refine pf_X4_31 hE hP hD hS (5) (gC_5 E a (up2 (upA (upA (upA I (7) (cpN (I 60) (I 7) (0) (0) (6))) (8) (cpN (I 61) (I 8) (0) (0) (10))) (9) (cpN (I 62) (I 9) (0) (0) (10))) (10) (0) (I (63) (0))) tr) rfl rfl (Nat.le_of_ble_eq_true rfl) (sC_5_4 E a (up2 (upA (upA (upA I (7) (cpN (I 60) (I 7) (0) (0) (6))) (8) (cpN (I 61) (I 8) (0) (0) (10))) (9) (cpN (I 62) (I 9) (0) (0) (10))) (10) (0) (I (63) (0))) tr (I (64) (0))) dX4_copyFrom_58 (fun H locs hP hD hS => ?_)
  exact ret_v hE rfl hP hD hS dX4_copyFrom_61

set_option maxHeartbeats 4000000 in
set_option maxRecDepth 100000 in
theorem ct_X4_copy_p1 (l : Launch) (E : cE) (a : Nat → Nat) (I : Nat → Nat → Nat) (tr : Int64)  : Ct l E 1 yX4_copyFrom cX4_copyFrom 2 none [.ref (a 4), .ref (a 31)] (WC E a I tr) none (WC E a (up2 (up2 (upA (upA (upA I 7 (cpN (I 65) (I 7) 0 0 6)) 8 (cpN (I 66) (I 8) 0 0 10)) 9 (cpN (I 67) (I 9) 0 0 10)) 10 0 (I 68 0)) 11 0 (I 69 0)) tr) := by
  refine Ct_of (plainFor_of_name (by decide)) (Nat.le_of_ble_eq_true rfl) ?_
  intro p e s m args below meth c A ls hE hP hD hS hl
  have hE : cEnv p s m args meth c E RX4 cX4_copyFrom 2 none A := hE
  have hx := hE.1
  have hb := hE.2.1
  have hl : lv_has ls 2 [(0, .ref (a 4)), (1, .ref (a 31))] := hl
  have hP : va_P E.1 vwCl (WC E a I tr) s.heap := hP
  generalize hH : s.heap = H at hP hS ⊢
  have hS : va_S A s.heap H [] := by rw [hH]; exact hS
  clear hH
  refine lv_aload_n hx hb dX4_copyFrom_0 rfl (lv_at hl 1 rfl) ?_
  refine gf_X4_9 hE hP (57) (gC_57 E a I tr) (v := .ref (a 35)) rfl dX4_copyFrom_1 ?_
  refine lv_iconst (v := nI (0)) hx hb dX4_copyFrom_4 (by decide) ?_
  refine lv_aload_n hx hb dX4_copyFrom_5 rfl (lv_at hl 0 rfl) ?_
  refine gf_X4_9 hE hP (5) (gC_5 E a I tr) (v := .ref (a 14)) rfl dX4_copyFrom_6 ?_
  refine lv_iconst (v := nI (0)) hx hb dX4_copyFrom_9 (by decide) ?_
  refine lv_bipush (v := nI (6)) hx hb dX4_copyFrom_10 (by decide) ?_
  refine acpy hE (uw mt_L_X4_34 rfl) (uw mt_V_java_lang_System_arraycopy__Ljava_lang_Object_ILjava_lang_Object_II_V rfl) (uw mt_T_java_lang_System_arraycopy__Ljava_lang_Object_ILjava_lang_Object_II_V rfl) (uw mt_N_J10 rfl) hl.1 (by decide) hP hD hS 58 6 (gC_58 E a I tr) (gC_6 E a I tr) (sp := 0) (dp := 0) (n := 6) (by decide) (by decide) (by decide) (by rw [cpN_I] <;> exact tC_6 E a I tr (cpN (I 65) (I 7) (0) (0) (6))) rfl dX4_copyFrom_12 (fun H locs hP hD hS => ?_)
  refine lv_aload_n hx hb dX4_copyFrom_15 rfl (lv_at hl 1 rfl) ?_
  refine gf_X4_15 hE hP (57) (gC_57 E a (upA I (7) (cpN (I 65) (I 7) (0) (0) (6))) tr) (v := .ref (a 36)) rfl dX4_copyFrom_16 ?_
  refine lv_iconst (v := nI (0)) hx hb dX4_copyFrom_19 (by decide) ?_
  refine lv_aload_n hx hb dX4_copyFrom_20 rfl (lv_at hl 0 rfl) ?_
  refine gf_X4_15 hE hP (5) (gC_5 E a (upA I (7) (cpN (I 65) (I 7) (0) (0) (6))) tr) (v := .ref (a 15)) rfl dX4_copyFrom_21 ?_
  refine lv_iconst (v := nI (0)) hx hb dX4_copyFrom_24 (by decide) ?_
  refine lv_bipush (v := nI (10)) hx hb dX4_copyFrom_25 (by decide) ?_
  refine acpy hE (uw mt_L_X4_34 rfl) (uw mt_V_java_lang_System_arraycopy__Ljava_lang_Object_ILjava_lang_Object_II_V rfl) (uw mt_T_java_lang_System_arraycopy__Ljava_lang_Object_ILjava_lang_Object_II_V rfl) (uw mt_N_J10 rfl) hl.1 (by decide) hP hD hS 59 7 (gC_59 E a (upA I (7) (cpN (I 65) (I 7) (0) (0) (6))) tr) (gC_7 E a (upA I (7) (cpN (I 65) (I 7) (0) (0) (6))) tr) (sp := 0) (dp := 0) (n := 10) (by decide) (by decide) (by decide) (by rw [cpN_I] <;> exact tC_7 E a (upA I (7) (cpN (I 65) (I 7) (0) (0) (6))) tr (cpN (I 66) (I 8) (0) (0) (10))) rfl dX4_copyFrom_27 (fun H locs hP hD hS => ?_)
  refine lv_aload_n hx hb dX4_copyFrom_30 rfl (lv_at hl 1 rfl) ?_
  refine gf_X4_18 hE hP (57) (gC_57 E a (upA (upA I (7) (cpN (I 65) (I 7) (0) (0) (6))) (8) (cpN (I 66) (I 8) (0) (0) (10))) tr) (v := .ref (a 37)) rfl dX4_copyFrom_31 ?_
  refine lv_iconst (v := nI (0)) hx hb dX4_copyFrom_34 (by decide) ?_
  refine lv_aload_n hx hb dX4_copyFrom_35 rfl (lv_at hl 0 rfl) ?_
  refine gf_X4_18 hE hP (5) (gC_5 E a (upA (upA I (7) (cpN (I 65) (I 7) (0) (0) (6))) (8) (cpN (I 66) (I 8) (0) (0) (10))) tr) (v := .ref (a 16)) rfl dX4_copyFrom_36 ?_
  refine lv_iconst (v := nI (0)) hx hb dX4_copyFrom_39 (by decide) ?_
  refine lv_bipush (v := nI (10)) hx hb dX4_copyFrom_40 (by decide) ?_
  refine acpy hE (uw mt_L_X4_34 rfl) (uw mt_V_java_lang_System_arraycopy__Ljava_lang_Object_ILjava_lang_Object_II_V rfl) (uw mt_T_java_lang_System_arraycopy__Ljava_lang_Object_ILjava_lang_Object_II_V rfl) (uw mt_N_J10 rfl) hl.1 (by decide) hP hD hS 60 8 (gC_60 E a (upA (upA I (7) (cpN (I 65) (I 7) (0) (0) (6))) (8) (cpN (I 66) (I 8) (0) (0) (10))) tr) (gC_8 E a (upA (upA I (7) (cpN (I 65) (I 7) (0) (0) (6))) (8) (cpN (I 66) (I 8) (0) (0) (10))) tr) (sp := 0) (dp := 0) (n := 10) (by decide) (by decide) (by decide) (by rw [cpN_I] <;> exact tC_8 E a (upA (upA I (7) (cpN (I 65) (I 7) (0) (0) (6))) (8) (cpN (I 66) (I 8) (0) (0) (10))) tr (cpN (I 67) (I 9) (0) (0) (10))) rfl dX4_copyFrom_42 (fun H locs hP hD hS => ?_)
  refine lv_aload_n hx hb dX4_copyFrom_45 rfl (lv_at hl 0 rfl) ?_
  refine lv_aload_n hx hb dX4_copyFrom_46 rfl (lv_at hl 1 rfl) ?_
  refine gf_X4_27 hE hP (57) (gC_57 E a (upA (upA (upA I (7) (cpN (I 65) (I 7) (0) (0) (6))) (8) (cpN (I 66) (I 8) (0) (0) (10))) (9) (cpN (I 67) (I 9) (0) (0) (10))) tr) (v := .int (nI (I (68) (0)))) rfl dX4_copyFrom_47 ?_
  refine pf_X4_27 hE hP hD hS (5) (gC_5 E a (upA (upA (upA I (7) (cpN (I 65) (I 7) (0) (0) (6))) (8) (cpN (I 66) (I 8) (0) (0) (10))) (9) (cpN (I 67) (I 9) (0) (0) (10))) tr) rfl rfl (Nat.le_of_ble_eq_true rfl) (sC_5_3 E a (upA (upA (upA I (7) (cpN (I 65) (I 7) (0) (0) (6))) (8) (cpN (I 66) (I 8) (0) (0) (10))) (9) (cpN (I 67) (I 9) (0) (0) (10))) tr (I (68) (0))) dX4_copyFrom_50 (fun H locs hP hD hS => ?_)
  refine lv_aload_n hx hb dX4_copyFrom_53 rfl (lv_at hl 0 rfl) ?_
  refine lv_aload_n hx hb dX4_copyFrom_54 rfl (lv_at hl 1 rfl) ?_
  refine gf_X4_31 hE hP (57) (gC_57 E a (up2 (upA (upA (upA I (7) (cpN (I 65) (I 7) (0) (0) (6))) (8) (cpN (I 66) (I 8) (0) (0) (10))) (9) (cpN (I 67) (I 9) (0) (0) (10))) (10) (0) (I (68) (0))) tr) (v := .int (nI (I (69) (0)))) rfl dX4_copyFrom_55 ?_
  refine pf_X4_31 hE hP hD hS (5) (gC_5 E a (up2 (upA (upA (upA I (7) (cpN (I 65) (I 7) (0) (0) (6))) (8) (cpN (I 66) (I 8) (0) (0) (10))) (9) (cpN (I 67) (I 9) (0) (0) (10))) (10) (0) (I (68) (0))) tr) rfl rfl (Nat.le_of_ble_eq_true rfl) (sC_5_4 E a (up2 (upA (upA (upA I (7) (cpN (I 65) (I 7) (0) (0) (6))) (8) (cpN (I 66) (I 8) (0) (0) (10))) (9) (cpN (I 67) (I 9) (0) (0) (10))) (10) (0) (I (68) (0))) tr (I (69) (0))) dX4_copyFrom_58 (fun H locs hP hD hS => ?_)
  exact ret_v hE rfl hP hD hS dX4_copyFrom_61

set_option maxHeartbeats 4000000 in
set_option maxRecDepth 100000 in
theorem ct_X4_copy_0p (l : Launch) (E : cE) (a : Nat → Nat) (I : Nat → Nat → Nat) (tr : Int64)  : Ct l E 1 yX4_copyFrom cX4_copyFrom 2 none [.ref (a 30), .ref (a 4)] (WC E a I tr) none (WC E a (up2 (up2 (upA (upA (upA I 60 (cpN (I 7) (I 60) 0 0 6)) 61 (cpN (I 8) (I 61) 0 0 10)) 62 (cpN (I 9) (I 62) 0 0 10)) 63 0 (I 10 0)) 64 0 (I 11 0)) tr) := by
  refine Ct_of (plainFor_of_name (by decide)) (Nat.le_of_ble_eq_true rfl) ?_
  intro p e s m args below meth c A ls hE hP hD hS hl
  have hE : cEnv p s m args meth c E RX4 cX4_copyFrom 2 none A := hE
  have hx := hE.1
  have hb := hE.2.1
  have hl : lv_has ls 2 [(0, .ref (a 30)), (1, .ref (a 4))] := hl
  have hP : va_P E.1 vwCl (WC E a I tr) s.heap := hP
  generalize hH : s.heap = H at hP hS ⊢
  have hS : va_S A s.heap H [] := by rw [hH]; exact hS
  clear hH
  refine lv_aload_n hx hb dX4_copyFrom_0 rfl (lv_at hl 1 rfl) ?_
  refine gf_X4_9 hE hP (5) (gC_5 E a I tr) (v := .ref (a 14)) rfl dX4_copyFrom_1 ?_
  refine lv_iconst (v := nI (0)) hx hb dX4_copyFrom_4 (by decide) ?_
  refine lv_aload_n hx hb dX4_copyFrom_5 rfl (lv_at hl 0 rfl) ?_
  refine gf_X4_9 hE hP (53) (gC_53 E a I tr) (v := .ref (a 32)) rfl dX4_copyFrom_6 ?_
  refine lv_iconst (v := nI (0)) hx hb dX4_copyFrom_9 (by decide) ?_
  refine lv_bipush (v := nI (6)) hx hb dX4_copyFrom_10 (by decide) ?_
  refine acpy hE (uw mt_L_X4_34 rfl) (uw mt_V_java_lang_System_arraycopy__Ljava_lang_Object_ILjava_lang_Object_II_V rfl) (uw mt_T_java_lang_System_arraycopy__Ljava_lang_Object_ILjava_lang_Object_II_V rfl) (uw mt_N_J10 rfl) hl.1 (by decide) hP hD hS 6 54 (gC_6 E a I tr) (gC_54 E a I tr) (sp := 0) (dp := 0) (n := 6) (by decide) (by decide) (by decide) (by rw [cpN_I] <;> exact tC_54 E a I tr (cpN (I 7) (I 60) (0) (0) (6))) rfl dX4_copyFrom_12 (fun H locs hP hD hS => ?_)
  refine lv_aload_n hx hb dX4_copyFrom_15 rfl (lv_at hl 1 rfl) ?_
  refine gf_X4_15 hE hP (5) (gC_5 E a (upA I (60) (cpN (I 7) (I 60) (0) (0) (6))) tr) (v := .ref (a 15)) rfl dX4_copyFrom_16 ?_
  refine lv_iconst (v := nI (0)) hx hb dX4_copyFrom_19 (by decide) ?_
  refine lv_aload_n hx hb dX4_copyFrom_20 rfl (lv_at hl 0 rfl) ?_
  refine gf_X4_15 hE hP (53) (gC_53 E a (upA I (60) (cpN (I 7) (I 60) (0) (0) (6))) tr) (v := .ref (a 33)) rfl dX4_copyFrom_21 ?_
  refine lv_iconst (v := nI (0)) hx hb dX4_copyFrom_24 (by decide) ?_
  refine lv_bipush (v := nI (10)) hx hb dX4_copyFrom_25 (by decide) ?_
  refine acpy hE (uw mt_L_X4_34 rfl) (uw mt_V_java_lang_System_arraycopy__Ljava_lang_Object_ILjava_lang_Object_II_V rfl) (uw mt_T_java_lang_System_arraycopy__Ljava_lang_Object_ILjava_lang_Object_II_V rfl) (uw mt_N_J10 rfl) hl.1 (by decide) hP hD hS 7 55 (gC_7 E a (upA I (60) (cpN (I 7) (I 60) (0) (0) (6))) tr) (gC_55 E a (upA I (60) (cpN (I 7) (I 60) (0) (0) (6))) tr) (sp := 0) (dp := 0) (n := 10) (by decide) (by decide) (by decide) (by rw [cpN_I] <;> exact tC_55 E a (upA I (60) (cpN (I 7) (I 60) (0) (0) (6))) tr (cpN (I 8) (I 61) (0) (0) (10))) rfl dX4_copyFrom_27 (fun H locs hP hD hS => ?_)
  refine lv_aload_n hx hb dX4_copyFrom_30 rfl (lv_at hl 1 rfl) ?_
  refine gf_X4_18 hE hP (5) (gC_5 E a (upA (upA I (60) (cpN (I 7) (I 60) (0) (0) (6))) (61) (cpN (I 8) (I 61) (0) (0) (10))) tr) (v := .ref (a 16)) rfl dX4_copyFrom_31 ?_
  refine lv_iconst (v := nI (0)) hx hb dX4_copyFrom_34 (by decide) ?_
  refine lv_aload_n hx hb dX4_copyFrom_35 rfl (lv_at hl 0 rfl) ?_
  refine gf_X4_18 hE hP (53) (gC_53 E a (upA (upA I (60) (cpN (I 7) (I 60) (0) (0) (6))) (61) (cpN (I 8) (I 61) (0) (0) (10))) tr) (v := .ref (a 34)) rfl dX4_copyFrom_36 ?_
  refine lv_iconst (v := nI (0)) hx hb dX4_copyFrom_39 (by decide) ?_
  refine lv_bipush (v := nI (10)) hx hb dX4_copyFrom_40 (by decide) ?_
  refine acpy hE (uw mt_L_X4_34 rfl) (uw mt_V_java_lang_System_arraycopy__Ljava_lang_Object_ILjava_lang_Object_II_V rfl) (uw mt_T_java_lang_System_arraycopy__Ljava_lang_Object_ILjava_lang_Object_II_V rfl) (uw mt_N_J10 rfl) hl.1 (by decide) hP hD hS 8 56 (gC_8 E a (upA (upA I (60) (cpN (I 7) (I 60) (0) (0) (6))) (61) (cpN (I 8) (I 61) (0) (0) (10))) tr) (gC_56 E a (upA (upA I (60) (cpN (I 7) (I 60) (0) (0) (6))) (61) (cpN (I 8) (I 61) (0) (0) (10))) tr) (sp := 0) (dp := 0) (n := 10) (by decide) (by decide) (by decide) (by rw [cpN_I] <;> exact tC_56 E a (upA (upA I (60) (cpN (I 7) (I 60) (0) (0) (6))) (61) (cpN (I 8) (I 61) (0) (0) (10))) tr (cpN (I 9) (I 62) (0) (0) (10))) rfl dX4_copyFrom_42 (fun H locs hP hD hS => ?_)
  refine lv_aload_n hx hb dX4_copyFrom_45 rfl (lv_at hl 0 rfl) ?_
  refine lv_aload_n hx hb dX4_copyFrom_46 rfl (lv_at hl 1 rfl) ?_
  refine gf_X4_27 hE hP (5) (gC_5 E a (upA (upA (upA I (60) (cpN (I 7) (I 60) (0) (0) (6))) (61) (cpN (I 8) (I 61) (0) (0) (10))) (62) (cpN (I 9) (I 62) (0) (0) (10))) tr) (v := .int (nI (I (10) (0)))) rfl dX4_copyFrom_47 ?_
  refine pf_X4_27 hE hP hD hS (53) (gC_53 E a (upA (upA (upA I (60) (cpN (I 7) (I 60) (0) (0) (6))) (61) (cpN (I 8) (I 61) (0) (0) (10))) (62) (cpN (I 9) (I 62) (0) (0) (10))) tr) rfl rfl (Nat.le_of_ble_eq_true rfl) (sC_53_3 E a (upA (upA (upA I (60) (cpN (I 7) (I 60) (0) (0) (6))) (61) (cpN (I 8) (I 61) (0) (0) (10))) (62) (cpN (I 9) (I 62) (0) (0) (10))) tr (I (10) (0))) dX4_copyFrom_50 (fun H locs hP hD hS => ?_)
  refine lv_aload_n hx hb dX4_copyFrom_53 rfl (lv_at hl 0 rfl) ?_
  refine lv_aload_n hx hb dX4_copyFrom_54 rfl (lv_at hl 1 rfl) ?_
  refine gf_X4_31 hE hP (5) (gC_5 E a (up2 (upA (upA (upA I (60) (cpN (I 7) (I 60) (0) (0) (6))) (61) (cpN (I 8) (I 61) (0) (0) (10))) (62) (cpN (I 9) (I 62) (0) (0) (10))) (63) (0) (I (10) (0))) tr) (v := .int (nI (I (11) (0)))) rfl dX4_copyFrom_55 ?_
  refine pf_X4_31 hE hP hD hS (53) (gC_53 E a (up2 (upA (upA (upA I (60) (cpN (I 7) (I 60) (0) (0) (6))) (61) (cpN (I 8) (I 61) (0) (0) (10))) (62) (cpN (I 9) (I 62) (0) (0) (10))) (63) (0) (I (10) (0))) tr) rfl rfl (Nat.le_of_ble_eq_true rfl) (sC_53_4 E a (up2 (upA (upA (upA I (60) (cpN (I 7) (I 60) (0) (0) (6))) (61) (cpN (I 8) (I 61) (0) (0) (10))) (62) (cpN (I 9) (I 62) (0) (0) (10))) (63) (0) (I (10) (0))) tr (I (11) (0))) dX4_copyFrom_58 (fun H locs hP hD hS => ?_)
  exact ret_v hE rfl hP hD hS dX4_copyFrom_61

set_option maxHeartbeats 4000000 in
set_option maxRecDepth 100000 in
theorem ct_X4_copy_1p (l : Launch) (E : cE) (a : Nat → Nat) (I : Nat → Nat → Nat) (tr : Int64)  : Ct l E 1 yX4_copyFrom cX4_copyFrom 2 none [.ref (a 31), .ref (a 4)] (WC E a I tr) none (WC E a (up2 (up2 (upA (upA (upA I 65 (cpN (I 7) (I 65) 0 0 6)) 66 (cpN (I 8) (I 66) 0 0 10)) 67 (cpN (I 9) (I 67) 0 0 10)) 68 0 (I 10 0)) 69 0 (I 11 0)) tr) := by
  refine Ct_of (plainFor_of_name (by decide)) (Nat.le_of_ble_eq_true rfl) ?_
  intro p e s m args below meth c A ls hE hP hD hS hl
  have hE : cEnv p s m args meth c E RX4 cX4_copyFrom 2 none A := hE
  have hx := hE.1
  have hb := hE.2.1
  have hl : lv_has ls 2 [(0, .ref (a 31)), (1, .ref (a 4))] := hl
  have hP : va_P E.1 vwCl (WC E a I tr) s.heap := hP
  generalize hH : s.heap = H at hP hS ⊢
  have hS : va_S A s.heap H [] := by rw [hH]; exact hS
  clear hH
  refine lv_aload_n hx hb dX4_copyFrom_0 rfl (lv_at hl 1 rfl) ?_
  refine gf_X4_9 hE hP (5) (gC_5 E a I tr) (v := .ref (a 14)) rfl dX4_copyFrom_1 ?_
  refine lv_iconst (v := nI (0)) hx hb dX4_copyFrom_4 (by decide) ?_
  refine lv_aload_n hx hb dX4_copyFrom_5 rfl (lv_at hl 0 rfl) ?_
  refine gf_X4_9 hE hP (57) (gC_57 E a I tr) (v := .ref (a 35)) rfl dX4_copyFrom_6 ?_
  refine lv_iconst (v := nI (0)) hx hb dX4_copyFrom_9 (by decide) ?_
  refine lv_bipush (v := nI (6)) hx hb dX4_copyFrom_10 (by decide) ?_
  refine acpy hE (uw mt_L_X4_34 rfl) (uw mt_V_java_lang_System_arraycopy__Ljava_lang_Object_ILjava_lang_Object_II_V rfl) (uw mt_T_java_lang_System_arraycopy__Ljava_lang_Object_ILjava_lang_Object_II_V rfl) (uw mt_N_J10 rfl) hl.1 (by decide) hP hD hS 6 58 (gC_6 E a I tr) (gC_58 E a I tr) (sp := 0) (dp := 0) (n := 6) (by decide) (by decide) (by decide) (by rw [cpN_I] <;> exact tC_58 E a I tr (cpN (I 7) (I 65) (0) (0) (6))) rfl dX4_copyFrom_12 (fun H locs hP hD hS => ?_)
  refine lv_aload_n hx hb dX4_copyFrom_15 rfl (lv_at hl 1 rfl) ?_
  refine gf_X4_15 hE hP (5) (gC_5 E a (upA I (65) (cpN (I 7) (I 65) (0) (0) (6))) tr) (v := .ref (a 15)) rfl dX4_copyFrom_16 ?_
  refine lv_iconst (v := nI (0)) hx hb dX4_copyFrom_19 (by decide) ?_
  refine lv_aload_n hx hb dX4_copyFrom_20 rfl (lv_at hl 0 rfl) ?_
  refine gf_X4_15 hE hP (57) (gC_57 E a (upA I (65) (cpN (I 7) (I 65) (0) (0) (6))) tr) (v := .ref (a 36)) rfl dX4_copyFrom_21 ?_
  refine lv_iconst (v := nI (0)) hx hb dX4_copyFrom_24 (by decide) ?_
  refine lv_bipush (v := nI (10)) hx hb dX4_copyFrom_25 (by decide) ?_
  refine acpy hE (uw mt_L_X4_34 rfl) (uw mt_V_java_lang_System_arraycopy__Ljava_lang_Object_ILjava_lang_Object_II_V rfl) (uw mt_T_java_lang_System_arraycopy__Ljava_lang_Object_ILjava_lang_Object_II_V rfl) (uw mt_N_J10 rfl) hl.1 (by decide) hP hD hS 7 59 (gC_7 E a (upA I (65) (cpN (I 7) (I 65) (0) (0) (6))) tr) (gC_59 E a (upA I (65) (cpN (I 7) (I 65) (0) (0) (6))) tr) (sp := 0) (dp := 0) (n := 10) (by decide) (by decide) (by decide) (by rw [cpN_I] <;> exact tC_59 E a (upA I (65) (cpN (I 7) (I 65) (0) (0) (6))) tr (cpN (I 8) (I 66) (0) (0) (10))) rfl dX4_copyFrom_27 (fun H locs hP hD hS => ?_)
  refine lv_aload_n hx hb dX4_copyFrom_30 rfl (lv_at hl 1 rfl) ?_
  refine gf_X4_18 hE hP (5) (gC_5 E a (upA (upA I (65) (cpN (I 7) (I 65) (0) (0) (6))) (66) (cpN (I 8) (I 66) (0) (0) (10))) tr) (v := .ref (a 16)) rfl dX4_copyFrom_31 ?_
  refine lv_iconst (v := nI (0)) hx hb dX4_copyFrom_34 (by decide) ?_
  refine lv_aload_n hx hb dX4_copyFrom_35 rfl (lv_at hl 0 rfl) ?_
  refine gf_X4_18 hE hP (57) (gC_57 E a (upA (upA I (65) (cpN (I 7) (I 65) (0) (0) (6))) (66) (cpN (I 8) (I 66) (0) (0) (10))) tr) (v := .ref (a 37)) rfl dX4_copyFrom_36 ?_
  refine lv_iconst (v := nI (0)) hx hb dX4_copyFrom_39 (by decide) ?_
  refine lv_bipush (v := nI (10)) hx hb dX4_copyFrom_40 (by decide) ?_
  refine acpy hE (uw mt_L_X4_34 rfl) (uw mt_V_java_lang_System_arraycopy__Ljava_lang_Object_ILjava_lang_Object_II_V rfl) (uw mt_T_java_lang_System_arraycopy__Ljava_lang_Object_ILjava_lang_Object_II_V rfl) (uw mt_N_J10 rfl) hl.1 (by decide) hP hD hS 8 60 (gC_8 E a (upA (upA I (65) (cpN (I 7) (I 65) (0) (0) (6))) (66) (cpN (I 8) (I 66) (0) (0) (10))) tr) (gC_60 E a (upA (upA I (65) (cpN (I 7) (I 65) (0) (0) (6))) (66) (cpN (I 8) (I 66) (0) (0) (10))) tr) (sp := 0) (dp := 0) (n := 10) (by decide) (by decide) (by decide) (by rw [cpN_I] <;> exact tC_60 E a (upA (upA I (65) (cpN (I 7) (I 65) (0) (0) (6))) (66) (cpN (I 8) (I 66) (0) (0) (10))) tr (cpN (I 9) (I 67) (0) (0) (10))) rfl dX4_copyFrom_42 (fun H locs hP hD hS => ?_)
  refine lv_aload_n hx hb dX4_copyFrom_45 rfl (lv_at hl 0 rfl) ?_
  refine lv_aload_n hx hb dX4_copyFrom_46 rfl (lv_at hl 1 rfl) ?_
  refine gf_X4_27 hE hP (5) (gC_5 E a (upA (upA (upA I (65) (cpN (I 7) (I 65) (0) (0) (6))) (66) (cpN (I 8) (I 66) (0) (0) (10))) (67) (cpN (I 9) (I 67) (0) (0) (10))) tr) (v := .int (nI (I (10) (0)))) rfl dX4_copyFrom_47 ?_
  refine pf_X4_27 hE hP hD hS (57) (gC_57 E a (upA (upA (upA I (65) (cpN (I 7) (I 65) (0) (0) (6))) (66) (cpN (I 8) (I 66) (0) (0) (10))) (67) (cpN (I 9) (I 67) (0) (0) (10))) tr) rfl rfl (Nat.le_of_ble_eq_true rfl) (sC_57_3 E a (upA (upA (upA I (65) (cpN (I 7) (I 65) (0) (0) (6))) (66) (cpN (I 8) (I 66) (0) (0) (10))) (67) (cpN (I 9) (I 67) (0) (0) (10))) tr (I (10) (0))) dX4_copyFrom_50 (fun H locs hP hD hS => ?_)
  refine lv_aload_n hx hb dX4_copyFrom_53 rfl (lv_at hl 0 rfl) ?_
  refine lv_aload_n hx hb dX4_copyFrom_54 rfl (lv_at hl 1 rfl) ?_
  refine gf_X4_31 hE hP (5) (gC_5 E a (up2 (upA (upA (upA I (65) (cpN (I 7) (I 65) (0) (0) (6))) (66) (cpN (I 8) (I 66) (0) (0) (10))) (67) (cpN (I 9) (I 67) (0) (0) (10))) (68) (0) (I (10) (0))) tr) (v := .int (nI (I (11) (0)))) rfl dX4_copyFrom_55 ?_
  refine pf_X4_31 hE hP hD hS (57) (gC_57 E a (up2 (upA (upA (upA I (65) (cpN (I 7) (I 65) (0) (0) (6))) (66) (cpN (I 8) (I 66) (0) (0) (10))) (67) (cpN (I 9) (I 67) (0) (0) (10))) (68) (0) (I (10) (0))) tr) rfl rfl (Nat.le_of_ble_eq_true rfl) (sC_57_4 E a (up2 (upA (upA (upA I (65) (cpN (I 7) (I 65) (0) (0) (6))) (66) (cpN (I 8) (I 66) (0) (0) (10))) (67) (cpN (I 9) (I 67) (0) (0) (10))) (68) (0) (I (10) (0))) tr (I (11) (0))) dX4_copyFrom_58 (fun H locs hP hD hS => ?_)
  exact ret_v hE rfl hP hD hS dX4_copyFrom_61

set_option maxHeartbeats 4000000 in
set_option maxRecDepth 100000 in
theorem ct_X4_loseOldestTurn (l : Launch) (E : cE) (a : Nat → Nat) (I : Nat → Nat → Nat) (tr : Int64)  : Ct l E 1 yX4_loseOldestTurn cX4_loseOldestTurn 1 none [.ref (a 4)] (WC E a I tr) none (WC E a (lsT I) tr) := by
  refine Ct_of (plainFor_of_name (by decide)) (Nat.le_of_ble_eq_true rfl) ?_
  intro p e s m args below meth c A ls hE hP hD hS hl
  have hE : cEnv p s m args meth c E RX4 cX4_loseOldestTurn 1 none A := hE
  have hx := hE.1
  have hb := hE.2.1
  have hl : lv_has ls 1 [(0, .ref (a 4))] := hl
  have hP : va_P E.1 vwCl (WC E a I tr) s.heap := hP
  generalize hH : s.heap = H at hP hS ⊢
  have hS : va_S A s.heap H [] := by rw [hH]; exact hS
  clear hH
  refine lv_aload_n hx hb dX4_loseOldestTurn_0 rfl (lv_at hl 0 rfl) ?_
  refine gf_X4_15 hE hP (5) (gC_5 E a I tr) (v := .ref (a 15)) rfl dX4_loseOldestTurn_1 ?_
  refine lv_iconst (v := nI (1)) hx hb dX4_loseOldestTurn_4 (by decide) ?_
  refine lv_aload_n hx hb dX4_loseOldestTurn_5 rfl (lv_at hl 0 rfl) ?_
  refine gf_X4_15 hE hP (5) (gC_5 E a I tr) (v := .ref (a 15)) rfl dX4_loseOldestTurn_6 ?_
  refine lv_iconst (v := nI (0)) hx hb dX4_loseOldestTurn_9 (by decide) ?_
  refine lv_bipush (v := nI (9)) hx hb dX4_loseOldestTurn_10 (by decide) ?_
  refine acpy hE (uw mt_L_X4_34 rfl) (uw mt_V_java_lang_System_arraycopy__Ljava_lang_Object_ILjava_lang_Object_II_V rfl) (uw mt_T_java_lang_System_arraycopy__Ljava_lang_Object_ILjava_lang_Object_II_V rfl) (uw mt_N_J10 rfl) hl.1 (by decide) hP hD hS 7 7 (gC_7 E a I tr) (gC_7 E a I tr) (sp := 1) (dp := 0) (n := 9) (by decide) (by decide) (by decide) (by rw [cpN_I] <;> exact tC_7 E a I tr (cpN (I 8) (I 8) (1) (0) (9))) rfl dX4_loseOldestTurn_12 (fun H locs hP hD hS => ?_)
  refine lv_aload_n hx hb dX4_loseOldestTurn_15 rfl (lv_at hl 0 rfl) ?_
  refine gf_X4_18 hE hP (5) (gC_5 E a (upA I (8) (cpN (I 8) (I 8) (1) (0) (9))) tr) (v := .ref (a 16)) rfl dX4_loseOldestTurn_16 ?_
  refine lv_iconst (v := nI (1)) hx hb dX4_loseOldestTurn_19 (by decide) ?_
  refine lv_aload_n hx hb dX4_loseOldestTurn_20 rfl (lv_at hl 0 rfl) ?_
  refine gf_X4_18 hE hP (5) (gC_5 E a (upA I (8) (cpN (I 8) (I 8) (1) (0) (9))) tr) (v := .ref (a 16)) rfl dX4_loseOldestTurn_21 ?_
  refine lv_iconst (v := nI (0)) hx hb dX4_loseOldestTurn_24 (by decide) ?_
  refine lv_bipush (v := nI (9)) hx hb dX4_loseOldestTurn_25 (by decide) ?_
  refine acpy hE (uw mt_L_X4_34 rfl) (uw mt_V_java_lang_System_arraycopy__Ljava_lang_Object_ILjava_lang_Object_II_V rfl) (uw mt_T_java_lang_System_arraycopy__Ljava_lang_Object_ILjava_lang_Object_II_V rfl) (uw mt_N_J10 rfl) hl.1 (by decide) hP hD hS 8 8 (gC_8 E a (upA I (8) (cpN (I 8) (I 8) (1) (0) (9))) tr) (gC_8 E a (upA I (8) (cpN (I 8) (I 8) (1) (0) (9))) tr) (sp := 1) (dp := 0) (n := 9) (by decide) (by decide) (by decide) (by rw [cpN_I] <;> exact tC_8 E a (upA I (8) (cpN (I 8) (I 8) (1) (0) (9))) tr (cpN (I 9) (I 9) (1) (0) (9))) rfl dX4_loseOldestTurn_27 (fun H locs hP hD hS => ?_)
  refine lv_aload_n hx hb dX4_loseOldestTurn_30 rfl (lv_at hl 0 rfl) ?_
  refine lv_bipush (v := nI (9)) hx hb dX4_loseOldestTurn_31 (by decide) ?_
  refine pf_X4_27 hE hP hD hS (5) (gC_5 E a (upA (upA I (8) (cpN (I 8) (I 8) (1) (0) (9))) (9) (cpN (I 9) (I 9) (1) (0) (9))) tr) rfl rfl (Nat.le_of_ble_eq_true rfl) (sC_5_3 E a (upA (upA I (8) (cpN (I 8) (I 8) (1) (0) (9))) (9) (cpN (I 9) (I 9) (1) (0) (9))) tr (9)) dX4_loseOldestTurn_33 (fun H locs hP hD hS => ?_)
  rw [show (up2 (upA (upA I (8) (cpN (I 8) (I 8) (1) (0) (9))) (9) (cpN (I 9) (I 9) (1) (0) (9))) (10) (0) (9)) = lsT I from rfl] at hP hD
  exact ret_v hE rfl hP hD hS dX4_loseOldestTurn_36

set_option maxHeartbeats 4000000 in
set_option maxRecDepth 100000 in
theorem ct_X4_addTurn (l : Launch) (E : cE) (a : Nat → Nat) (I : Nat → Nat → Nat) (tr : Int64) (h b : Nat) (hh : h < 6) (hb48 : b < 48) (h7 : I 7 h < 48) (h10 : I 10 0 ≤ 10) : Ct l E 2 yX4_addTurn cX4_addTurn 3 none [.ref (a 4), .int (nI (h)), .int (nI (b))] (WC E a I tr) none (WC E a (adT I h b) tr) := by
  refine Ct_of (plainFor_of_name (by decide)) (Nat.le_of_ble_eq_true rfl) ?_
  intro p e s m args below meth c A ls hE hP hD hS hl
  have hE : cEnv p s m args meth c E RX4 cX4_addTurn 3 none A := hE
  have hx := hE.1
  have hb := hE.2.1
  have hl : lv_has ls 3 [(0, .ref (a 4)), (1, .int (nI (h))), (2, .int (nI (b)))] := hl
  have hP : va_P E.1 vwCl (WC E a I tr) s.heap := hP
  generalize hH : s.heap = H at hP hS ⊢
  have hS : va_S A s.heap H [] := by rw [hH]; exact hS
  clear hH
  refine lv_aload_n hx hb dX4_addTurn_0 rfl (lv_at hl 0 rfl) ?_
  refine gf_X4_9 hE hP (5) (gC_5 E a I tr) (v := .ref (a 14)) rfl dX4_addTurn_1 ?_
  refine lv_iload_n hx hb dX4_addTurn_4 rfl (lv_at hl 1 rfl) ?_
  refine lv_aload_n hx hb dX4_addTurn_5 rfl (lv_at hl 0 rfl) ?_
  refine gf_X4_9 hE hP (5) (gC_5 E a I tr) (v := .ref (a 14)) rfl dX4_addTurn_6 ?_
  refine lv_iload_n hx hb dX4_addTurn_9 rfl (lv_at hl 1 rfl) ?_
  refine ald_i hE hP (6) (gC_6 E a I tr) (by omega) (by decide) (r := nI (I (7) (h))) rfl dX4_addTurn_10 ?_
  refine lv_iload_n hx hb dX4_addTurn_11 rfl (lv_at hl 2 rfl) ?_
  refine lv_iadd hx hb dX4_addTurn_12 ?_
  refine tp (nI_add _ _) ?_
  refine lv_bipush (v := nI (48)) hx hb dX4_addTurn_13 (by decide) ?_
  refine lv_irem hx hb dX4_addTurn_15 (nI_ne0 (by omega) (by omega)) ?_
  refine tp (pk_rem (by omega) (by omega) (by omega)) ?_
  refine ast_i hE hP hD hS (6) (gC_6 E a I tr) (by omega) (by decide) (sC_6 E a I tr (h) ((I (7) (h) + b) % (48))) dX4_addTurn_16 (fun H locs hP hD hS => ?_)
  refine lv_aload_n hx hb dX4_addTurn_17 rfl (lv_at hl 0 rfl) ?_
  refine gf_X4_27 hE hP (5) (gC_5 E a (up2 I (7) (h) ((I (7) (h) + b) % (48))) tr) (v := .int (nI (I (10) (0)))) rfl dX4_addTurn_18 ?_
  refine lv_bipush (v := nI (10)) hx hb dX4_addTurn_21 (by decide) ?_
  refine bN_lt (tgt := 30) hx hb (by omega) (by omega) dX4_addTurn_23 (by decide) (fun c23 => ?_) (fun c23 => ?_)
  · refine lv_aload_n hx hb dX4_addTurn_30 rfl (lv_at hl 0 rfl) ?_
    refine gf_X4_15 hE hP (5) (gC_5 E a (up2 I (7) (h) ((I (7) (h) + b) % (48))) tr) (v := .ref (a 15)) rfl dX4_addTurn_31 ?_
    refine lv_aload_n hx hb dX4_addTurn_34 rfl (lv_at hl 0 rfl) ?_
    refine gf_X4_27 hE hP (5) (gC_5 E a (up2 I (7) (h) ((I (7) (h) + b) % (48))) tr) (v := .int (nI (I (10) (0)))) rfl dX4_addTurn_35 ?_
    refine lv_iload_n hx hb dX4_addTurn_38 rfl (lv_at hl 1 rfl) ?_
    refine ast_i hE hP hD hS (7) (gC_7 E a (up2 I (7) (h) ((I (7) (h) + b) % (48))) tr) (by omega) (by decide) (sC_7 E a (up2 I (7) (h) ((I (7) (h) + b) % (48))) tr (I (10) (0)) (h)) dX4_addTurn_39 (fun H locs hP hD hS => ?_)
    refine lv_aload_n hx hb dX4_addTurn_40 rfl (lv_at hl 0 rfl) ?_
    refine gf_X4_18 hE hP (5) (gC_5 E a (up2 (up2 I (7) (h) ((I (7) (h) + b) % (48))) (8) (I (10) (0)) (h)) tr) (v := .ref (a 16)) rfl dX4_addTurn_41 ?_
    refine lv_aload_n hx hb dX4_addTurn_44 rfl (lv_at hl 0 rfl) ?_
    refine gf_X4_27 hE hP (5) (gC_5 E a (up2 (up2 I (7) (h) ((I (7) (h) + b) % (48))) (8) (I (10) (0)) (h)) tr) (v := .int (nI (I (10) (0)))) rfl dX4_addTurn_45 ?_
    refine lv_iload_n hx hb dX4_addTurn_48 rfl (lv_at hl 2 rfl) ?_
    refine ast_i hE hP hD hS (8) (gC_8 E a (up2 (up2 I (7) (h) ((I (7) (h) + b) % (48))) (8) (I (10) (0)) (h)) tr) (by omega) (by decide) (sC_8 E a (up2 (up2 I (7) (h) ((I (7) (h) + b) % (48))) (8) (I (10) (0)) (h)) tr (I (10) (0)) (b)) dX4_addTurn_49 (fun H locs hP hD hS => ?_)
    refine lv_aload_n hx hb dX4_addTurn_50 rfl (lv_at hl 0 rfl) ?_
    refine lv_dup hx hb dX4_addTurn_51 rfl ?_
    refine gf_X4_27 hE hP (5) (gC_5 E a (up2 (up2 (up2 I (7) (h) ((I (7) (h) + b) % (48))) (8) (I (10) (0)) (h)) (9) (I (10) (0)) (b)) tr) (v := .int (nI (I (10) (0)))) rfl dX4_addTurn_52 ?_
    refine lv_iconst (v := nI (1)) hx hb dX4_addTurn_55 (by decide) ?_
    refine lv_iadd hx hb dX4_addTurn_56 ?_
    refine tp (nI_add _ _) ?_
    refine pf_X4_27 hE hP hD hS (5) (gC_5 E a (up2 (up2 (up2 I (7) (h) ((I (7) (h) + b) % (48))) (8) (I (10) (0)) (h)) (9) (I (10) (0)) (b)) tr) rfl rfl (Nat.le_of_ble_eq_true rfl) (sC_5_3 E a (up2 (up2 (up2 I (7) (h) ((I (7) (h) + b) % (48))) (8) (I (10) (0)) (h)) (9) (I (10) (0)) (b)) tr (I (10) (0) + 1)) dX4_addTurn_57 (fun H locs hP hD hS => ?_)
    have hw : (up2 (up2 (up2 (up2 I (7) (h) ((I (7) (h) + b) % (48))) (8) (I (10) (0)) (h)) (9) (I (10) (0)) (b)) (10) (0) (I (10) (0) + 1)) = adT I h b := by rw [adT]; first | (rw [if_pos c23]; rfl) | (rw [if_neg (by omega)]; rfl)
    rw [hw] at hP hD
    exact ret_v hE rfl hP hD hS dX4_addTurn_60
  · refine lv_aload_n hx hb dX4_addTurn_26 rfl (lv_at hl 0 rfl) ?_
    refine call_V (As := []) (rest := []) hE (ct_X4_loseOldestTurn l E a (up2 I (7) (h) ((I (7) (h) + b) % (48))) tr) cm_X4_loseOldestTurn (uw mt_L_X4_40 rfl) (gC_5 E a (up2 I (7) (h) ((I (7) (h) + b) % (48))) tr) rfl rfl hP hD hS hl.1 rfl rfl (Nat.le_of_ble_eq_true rfl) ⟨by decide, by decide⟩ dX4_addTurn_27 (fun H locs hP hD hS => ?_)
    refine W.eq (g2 := F0 m 30 ls []) rfl ?_
    refine lv_aload_n hx hb dX4_addTurn_30 rfl (lv_at hl 0 rfl) ?_
    refine gf_X4_15 hE hP (5) (gC_5 E a (up2 (upA (upA (up2 I (7) (h) ((I (7) (h) + b) % (48))) (8) (cpN ((up2 I (7) (h) ((I (7) (h) + b) % (48))) 8) ((up2 I (7) (h) ((I (7) (h) + b) % (48))) 8) 1 0 9)) (9) (cpN ((up2 I (7) (h) ((I (7) (h) + b) % (48))) 9) ((up2 I (7) (h) ((I (7) (h) + b) % (48))) 9) 1 0 9)) (10) (0) (9)) tr) (v := .ref (a 15)) rfl dX4_addTurn_31 ?_
    refine lv_aload_n hx hb dX4_addTurn_34 rfl (lv_at hl 0 rfl) ?_
    refine gf_X4_27 hE hP (5) (gC_5 E a (up2 (upA (upA (up2 I (7) (h) ((I (7) (h) + b) % (48))) (8) (cpN ((up2 I (7) (h) ((I (7) (h) + b) % (48))) 8) ((up2 I (7) (h) ((I (7) (h) + b) % (48))) 8) 1 0 9)) (9) (cpN ((up2 I (7) (h) ((I (7) (h) + b) % (48))) 9) ((up2 I (7) (h) ((I (7) (h) + b) % (48))) 9) 1 0 9)) (10) (0) (9)) tr) (v := .int (nI (9))) rfl dX4_addTurn_35 ?_
    refine lv_iload_n hx hb dX4_addTurn_38 rfl (lv_at hl 1 rfl) ?_
    refine ast_i hE hP hD hS (7) (gC_7 E a (up2 (upA (upA (up2 I (7) (h) ((I (7) (h) + b) % (48))) (8) (cpN ((up2 I (7) (h) ((I (7) (h) + b) % (48))) 8) ((up2 I (7) (h) ((I (7) (h) + b) % (48))) 8) 1 0 9)) (9) (cpN ((up2 I (7) (h) ((I (7) (h) + b) % (48))) 9) ((up2 I (7) (h) ((I (7) (h) + b) % (48))) 9) 1 0 9)) (10) (0) (9)) tr) (by omega) (by decide) (sC_7 E a (up2 (upA (upA (up2 I (7) (h) ((I (7) (h) + b) % (48))) (8) (cpN ((up2 I (7) (h) ((I (7) (h) + b) % (48))) 8) ((up2 I (7) (h) ((I (7) (h) + b) % (48))) 8) 1 0 9)) (9) (cpN ((up2 I (7) (h) ((I (7) (h) + b) % (48))) 9) ((up2 I (7) (h) ((I (7) (h) + b) % (48))) 9) 1 0 9)) (10) (0) (9)) tr (9) (h)) dX4_addTurn_39 (fun H locs hP hD hS => ?_)
    refine lv_aload_n hx hb dX4_addTurn_40 rfl (lv_at hl 0 rfl) ?_
    refine gf_X4_18 hE hP (5) (gC_5 E a (up2 (up2 (upA (upA (up2 I (7) (h) ((I (7) (h) + b) % (48))) (8) (cpN ((up2 I (7) (h) ((I (7) (h) + b) % (48))) 8) ((up2 I (7) (h) ((I (7) (h) + b) % (48))) 8) 1 0 9)) (9) (cpN ((up2 I (7) (h) ((I (7) (h) + b) % (48))) 9) ((up2 I (7) (h) ((I (7) (h) + b) % (48))) 9) 1 0 9)) (10) (0) (9)) (8) (9) (h)) tr) (v := .ref (a 16)) rfl dX4_addTurn_41 ?_
    refine lv_aload_n hx hb dX4_addTurn_44 rfl (lv_at hl 0 rfl) ?_
    refine gf_X4_27 hE hP (5) (gC_5 E a (up2 (up2 (upA (upA (up2 I (7) (h) ((I (7) (h) + b) % (48))) (8) (cpN ((up2 I (7) (h) ((I (7) (h) + b) % (48))) 8) ((up2 I (7) (h) ((I (7) (h) + b) % (48))) 8) 1 0 9)) (9) (cpN ((up2 I (7) (h) ((I (7) (h) + b) % (48))) 9) ((up2 I (7) (h) ((I (7) (h) + b) % (48))) 9) 1 0 9)) (10) (0) (9)) (8) (9) (h)) tr) (v := .int (nI (9))) rfl dX4_addTurn_45 ?_
    refine lv_iload_n hx hb dX4_addTurn_48 rfl (lv_at hl 2 rfl) ?_
    refine ast_i hE hP hD hS (8) (gC_8 E a (up2 (up2 (upA (upA (up2 I (7) (h) ((I (7) (h) + b) % (48))) (8) (cpN ((up2 I (7) (h) ((I (7) (h) + b) % (48))) 8) ((up2 I (7) (h) ((I (7) (h) + b) % (48))) 8) 1 0 9)) (9) (cpN ((up2 I (7) (h) ((I (7) (h) + b) % (48))) 9) ((up2 I (7) (h) ((I (7) (h) + b) % (48))) 9) 1 0 9)) (10) (0) (9)) (8) (9) (h)) tr) (by omega) (by decide) (sC_8 E a (up2 (up2 (upA (upA (up2 I (7) (h) ((I (7) (h) + b) % (48))) (8) (cpN ((up2 I (7) (h) ((I (7) (h) + b) % (48))) 8) ((up2 I (7) (h) ((I (7) (h) + b) % (48))) 8) 1 0 9)) (9) (cpN ((up2 I (7) (h) ((I (7) (h) + b) % (48))) 9) ((up2 I (7) (h) ((I (7) (h) + b) % (48))) 9) 1 0 9)) (10) (0) (9)) (8) (9) (h)) tr (9) (b)) dX4_addTurn_49 (fun H locs hP hD hS => ?_)
    refine lv_aload_n hx hb dX4_addTurn_50 rfl (lv_at hl 0 rfl) ?_
    refine lv_dup hx hb dX4_addTurn_51 rfl ?_
    refine gf_X4_27 hE hP (5) (gC_5 E a (up2 (up2 (up2 (upA (upA (up2 I (7) (h) ((I (7) (h) + b) % (48))) (8) (cpN ((up2 I (7) (h) ((I (7) (h) + b) % (48))) 8) ((up2 I (7) (h) ((I (7) (h) + b) % (48))) 8) 1 0 9)) (9) (cpN ((up2 I (7) (h) ((I (7) (h) + b) % (48))) 9) ((up2 I (7) (h) ((I (7) (h) + b) % (48))) 9) 1 0 9)) (10) (0) (9)) (8) (9) (h)) (9) (9) (b)) tr) (v := .int (nI (9))) rfl dX4_addTurn_52 ?_
    refine lv_iconst (v := nI (1)) hx hb dX4_addTurn_55 (by decide) ?_
    refine lv_iadd hx hb dX4_addTurn_56 ?_
    refine tp (nI_add _ _) ?_
    refine pf_X4_27 hE hP hD hS (5) (gC_5 E a (up2 (up2 (up2 (upA (upA (up2 I (7) (h) ((I (7) (h) + b) % (48))) (8) (cpN ((up2 I (7) (h) ((I (7) (h) + b) % (48))) 8) ((up2 I (7) (h) ((I (7) (h) + b) % (48))) 8) 1 0 9)) (9) (cpN ((up2 I (7) (h) ((I (7) (h) + b) % (48))) 9) ((up2 I (7) (h) ((I (7) (h) + b) % (48))) 9) 1 0 9)) (10) (0) (9)) (8) (9) (h)) (9) (9) (b)) tr) rfl rfl (Nat.le_of_ble_eq_true rfl) (sC_5_3 E a (up2 (up2 (up2 (upA (upA (up2 I (7) (h) ((I (7) (h) + b) % (48))) (8) (cpN ((up2 I (7) (h) ((I (7) (h) + b) % (48))) 8) ((up2 I (7) (h) ((I (7) (h) + b) % (48))) 8) 1 0 9)) (9) (cpN ((up2 I (7) (h) ((I (7) (h) + b) % (48))) 9) ((up2 I (7) (h) ((I (7) (h) + b) % (48))) 9) 1 0 9)) (10) (0) (9)) (8) (9) (h)) (9) (9) (b)) tr (9 + 1)) dX4_addTurn_57 (fun H locs hP hD hS => ?_)
    have hw : (up2 (up2 (up2 (up2 (upA (upA (up2 I (7) (h) ((I (7) (h) + b) % (48))) (8) (cpN ((up2 I (7) (h) ((I (7) (h) + b) % (48))) 8) ((up2 I (7) (h) ((I (7) (h) + b) % (48))) 8) 1 0 9)) (9) (cpN ((up2 I (7) (h) ((I (7) (h) + b) % (48))) 9) ((up2 I (7) (h) ((I (7) (h) + b) % (48))) 9) 1 0 9)) (10) (0) (9)) (8) (9) (h)) (9) (9) (b)) (10) (0) (9 + 1)) = adT I h b := by rw [adT]; first | (rw [if_pos c23]; rfl) | (rw [if_neg (by omega)]; rfl)
    rw [hw] at hP hD
    exact ret_v hE rfl hP hD hS dX4_addTurn_60

set_option maxHeartbeats 4000000 in
set_option maxRecDepth 100000 in
theorem ct_X4_takeTurnBack (l : Launch) (E : cE) (a : Nat → Nat) (I : Nat → Nat → Nat) (tr : Int64) (h10 : 0 < I 10 0) (h10b : I 10 0 ≤ 10) (h8 : I 8 (I 10 0 - 1) < 6) (h9 : I 9 (I 10 0 - 1) < 48) (h7 : ∀ h, h < 6 → I 7 h < 48) : Ct l E 1 yX4_takeTurnBack cX4_takeTurnBack 2 (some .int) [.ref (a 4)] (WC E a I tr) (some (.int (nI (I 8 (I 10 0 - 1))))) (WC E a (tkT I) tr) := by
  refine Ct_of (plainFor_of_name (by decide)) (Nat.le_of_ble_eq_true rfl) ?_
  intro p e s m args below meth c A ls hE hP hD hS hl
  have hE : cEnv p s m args meth c E RX4 cX4_takeTurnBack 2 (some .int) A := hE
  have hx := hE.1
  have hb := hE.2.1
  have hl : lv_has ls 2 [(0, .ref (a 4))] := hl
  have hP : va_P E.1 vwCl (WC E a I tr) s.heap := hP
  generalize hH : s.heap = H at hP hS ⊢
  have hS : va_S A s.heap H [] := by rw [hH]; exact hS
  clear hH
  have h77 := h7 _ h8
  refine lv_aload_n hx hb dX4_takeTurnBack_0 rfl (lv_at hl 0 rfl) ?_
  refine gf_X4_27 hE hP (5) (gC_5 E a I tr) (v := .int (nI (I (10) (0)))) rfl dX4_takeTurnBack_1 ?_
  refine bZ_ne (tgt := 10) hx hb (by omega) dX4_takeTurnBack_4 (by decide) (fun c4 => ?_) (fun c4 => absurd c4 (by omega))
  refine lv_aload_n hx hb dX4_takeTurnBack_10 rfl (lv_at hl 0 rfl) ?_
  refine lv_dup hx hb dX4_takeTurnBack_11 rfl ?_
  refine gf_X4_27 hE hP (5) (gC_5 E a I tr) (v := .int (nI (I (10) (0)))) rfl dX4_takeTurnBack_12 ?_
  refine lv_iconst (v := nI (1)) hx hb dX4_takeTurnBack_15 (by decide) ?_
  refine lv_isub hx hb dX4_takeTurnBack_16 ?_
  refine tp (pk_sub (by omega)) ?_
  refine pf_X4_27 hE hP hD hS (5) (gC_5 E a I tr) rfl rfl (Nat.le_of_ble_eq_true rfl) (sC_5_3 E a I tr (I (10) (0) - (1))) dX4_takeTurnBack_17 (fun H locs hP hD hS => ?_)
  refine lv_aload_n hx hb dX4_takeTurnBack_20 rfl (lv_at hl 0 rfl) ?_
  refine gf_X4_15 hE hP (5) (gC_5 E a (up2 I (10) (0) (I (10) (0) - (1))) tr) (v := .ref (a 15)) rfl dX4_takeTurnBack_21 ?_
  refine lv_aload_n hx hb dX4_takeTurnBack_24 rfl (lv_at hl 0 rfl) ?_
  refine gf_X4_27 hE hP (5) (gC_5 E a (up2 I (10) (0) (I (10) (0) - (1))) tr) (v := .int (nI (I (10) (0) - (1)))) rfl dX4_takeTurnBack_25 ?_
  refine ald_i hE hP (7) (gC_7 E a (up2 I (10) (0) (I (10) (0) - (1))) tr) (by omega) (by decide) (r := nI (I (8) (I (10) (0) - (1)))) rfl dX4_takeTurnBack_28 ?_
  refine lv_istore_n (lv' := [(1, .int (nI (I (8) (I (10) (0) - (1))))), (0, .ref (a 4))]) hx hb dX4_takeTurnBack_29 rfl hl (by decide) rfl (fun ls hl => ?_)
  refine lv_aload_n hx hb dX4_takeTurnBack_30 rfl (lv_at hl 1 rfl) ?_
  refine gf_X4_9 hE hP (5) (gC_5 E a (up2 I (10) (0) (I (10) (0) - (1))) tr) (v := .ref (a 14)) rfl dX4_takeTurnBack_31 ?_
  refine lv_iload_n hx hb dX4_takeTurnBack_34 rfl (lv_at hl 0 rfl) ?_
  refine lv_aload_n hx hb dX4_takeTurnBack_35 rfl (lv_at hl 1 rfl) ?_
  refine gf_X4_9 hE hP (5) (gC_5 E a (up2 I (10) (0) (I (10) (0) - (1))) tr) (v := .ref (a 14)) rfl dX4_takeTurnBack_36 ?_
  refine lv_iload_n hx hb dX4_takeTurnBack_39 rfl (lv_at hl 0 rfl) ?_
  refine ald_i hE hP (6) (gC_6 E a (up2 I (10) (0) (I (10) (0) - (1))) tr) (by omega) (by decide) (r := nI (I (7) (I (8) (I (10) (0) - (1))))) rfl dX4_takeTurnBack_40 ?_
  refine lv_aload_n hx hb dX4_takeTurnBack_41 rfl (lv_at hl 1 rfl) ?_
  refine gf_X4_18 hE hP (5) (gC_5 E a (up2 I (10) (0) (I (10) (0) - (1))) tr) (v := .ref (a 16)) rfl dX4_takeTurnBack_42 ?_
  refine lv_aload_n hx hb dX4_takeTurnBack_45 rfl (lv_at hl 1 rfl) ?_
  refine gf_X4_27 hE hP (5) (gC_5 E a (up2 I (10) (0) (I (10) (0) - (1))) tr) (v := .int (nI (I (10) (0) - (1)))) rfl dX4_takeTurnBack_46 ?_
  refine ald_i hE hP (8) (gC_8 E a (up2 I (10) (0) (I (10) (0) - (1))) tr) (by omega) (by decide) (r := nI (I (9) (I (10) (0) - (1)))) rfl dX4_takeTurnBack_49 ?_
  refine lv_isub hx hb dX4_takeTurnBack_50 ?_
  refine lv_bipush (v := nI (48)) hx hb dX4_takeTurnBack_51 (by decide) ?_
  refine call_S (As := [.int (nI (I (7) (I (8) (I (10) (0) - (1)))) - nI (I (9) (I (10) (0) - (1)))), .int (nI (48))]) (rest := [.int (nI (I (8) (I (10) (0) - (1)))), .ref (a 14)]) hE (ct_J9_floorMod_7cf53 l E (WC E a (up2 I (10) (0) (I (10) (0) - (1))) tr) (I (7) (I (8) (I (10) (0) - (1)))) (I (9) (I (10) (0) - (1))) (by omega) (by omega)) cm_J9_floorMod_7cf53 (uw mt_L_X4_43 rfl) hP hD hS hl.1 rfl rfl (Nat.le_of_ble_eq_true rfl) ⟨by decide, by decide⟩ dX4_takeTurnBack_53 (fun H locs hP hD hS => ?_)
  refine W.eq (g2 := F0 m 56 ls [.int (nI (fm (I (7) (I (8) (I (10) (0) - (1)))) (I (9) (I (10) (0) - (1))))), .int (nI (I (8) (I (10) (0) - (1)))), .ref (a 14)]) rfl ?_
  have hm1 := fm_lt (I (7) (I (8) (I (10) (0) - (1)))) (I (9) (I (10) (0) - (1)))
  refine ast_i hE hP hD hS (6) (gC_6 E a (up2 I (10) (0) (I (10) (0) - (1))) tr) (by omega) (by decide) (sC_6 E a (up2 I (10) (0) (I (10) (0) - (1))) tr (I (8) (I (10) (0) - (1))) (fm (I (7) (I (8) (I (10) (0) - (1)))) (I (9) (I (10) (0) - (1))))) dX4_takeTurnBack_56 (fun H locs hP hD hS => ?_)
  refine lv_iload_n hx hb dX4_takeTurnBack_57 rfl (lv_at hl 0 rfl) ?_
  rw [show (up2 (up2 I (10) (0) (I (10) (0) - (1))) (7) (I (8) (I (10) (0) - (1))) (fm (I (7) (I (8) (I (10) (0) - (1)))) (I (9) (I (10) (0) - (1))))) = tkT I from rfl] at hP hD
  exact ret_i hE (r := nI (I (8) (I (10) (0) - (1)))) (rfl) hP hD hS dX4_takeTurnBack_58

set_option maxHeartbeats 4000000 in
set_option maxRecDepth 100000 in
theorem ct_X8_add (l : Launch) (E : cE) (a : Nat → Nat) (I : Nat → Nat → Nat) (tr : Int64) (t n : Nat) (hc : I 47 0 < 8) : Ct l E 0 yX8_add cX8_add 3 none [.ref (a 6), .int (nI (t)), .int (nI (n))] (WC E a I tr) none (WC E a (up2 (up2 (up2 I 45 (I 47 0) t) 46 (I 47 0) n) 47 0 (I 47 0 + 1)) tr) := by
  refine Ct_of (plainFor_of_name (by decide)) (Nat.le_of_ble_eq_true rfl) ?_
  intro p e s m args below meth c A ls hE hP hD hS hl
  have hE : cEnv p s m args meth c E RX8 cX8_add 3 none A := hE
  have hx := hE.1
  have hb := hE.2.1
  have hl : lv_has ls 3 [(0, .ref (a 6)), (1, .int (nI (t))), (2, .int (nI (n)))] := hl
  have hP : va_P E.1 vwCl (WC E a I tr) s.heap := hP
  generalize hH : s.heap = H at hP hS ⊢
  have hS : va_S A s.heap H [] := by rw [hH]; exact hS
  clear hH
  refine lv_aload_n hx hb dX8_add_0 rfl (lv_at hl 0 rfl) ?_
  refine gf_X8_22 hE hP (43) (gC_43 E a I tr) (v := .int (nI (I (47) (0)))) rfl dX8_add_1 ?_
  refine lv_bipush (v := nI (8)) hx hb dX8_add_4 (by decide) ?_
  refine bN_ge (tgt := 39) hx hb (by omega) (by omega) dX8_add_6 (by decide) (fun c6 => absurd c6 (by omega)) (fun c6 => ?_)
  refine lv_aload_n hx hb dX8_add_9 rfl (lv_at hl 0 rfl) ?_
  refine gf_X8_9 hE hP (43) (gC_43 E a I tr) (v := .ref (a 23)) rfl dX8_add_10 ?_
  refine lv_aload_n hx hb dX8_add_13 rfl (lv_at hl 0 rfl) ?_
  refine gf_X8_22 hE hP (43) (gC_43 E a I tr) (v := .int (nI (I (47) (0)))) rfl dX8_add_14 ?_
  refine lv_iload_n hx hb dX8_add_17 rfl (lv_at hl 1 rfl) ?_
  refine ast_i hE hP hD hS (44) (gC_44 E a I tr) (by omega) (by decide) (sC_44 E a I tr (I (47) (0)) (t)) dX8_add_18 (fun H locs hP hD hS => ?_)
  refine lv_aload_n hx hb dX8_add_19 rfl (lv_at hl 0 rfl) ?_
  refine gf_X8_15 hE hP (43) (gC_43 E a (up2 I (45) (I (47) (0)) (t)) tr) (v := .ref (a 24)) rfl dX8_add_20 ?_
  refine lv_aload_n hx hb dX8_add_23 rfl (lv_at hl 0 rfl) ?_
  refine gf_X8_22 hE hP (43) (gC_43 E a (up2 I (45) (I (47) (0)) (t)) tr) (v := .int (nI (I (47) (0)))) rfl dX8_add_24 ?_
  refine lv_iload_n hx hb dX8_add_27 rfl (lv_at hl 2 rfl) ?_
  refine ast_i hE hP hD hS (45) (gC_45 E a (up2 I (45) (I (47) (0)) (t)) tr) (by omega) (by decide) (sC_45 E a (up2 I (45) (I (47) (0)) (t)) tr (I (47) (0)) (n)) dX8_add_28 (fun H locs hP hD hS => ?_)
  refine lv_aload_n hx hb dX8_add_29 rfl (lv_at hl 0 rfl) ?_
  refine lv_dup hx hb dX8_add_30 rfl ?_
  refine gf_X8_22 hE hP (43) (gC_43 E a (up2 (up2 I (45) (I (47) (0)) (t)) (46) (I (47) (0)) (n)) tr) (v := .int (nI (I (47) (0)))) rfl dX8_add_31 ?_
  refine lv_iconst (v := nI (1)) hx hb dX8_add_34 (by decide) ?_
  refine lv_iadd hx hb dX8_add_35 ?_
  refine tp (nI_add _ _) ?_
  refine pf_X8_22 hE hP hD hS (43) (gC_43 E a (up2 (up2 I (45) (I (47) (0)) (t)) (46) (I (47) (0)) (n)) tr) rfl rfl (Nat.le_of_ble_eq_true rfl) (sC_43_3 E a (up2 (up2 I (45) (I (47) (0)) (t)) (46) (I (47) (0)) (n)) tr (I (47) (0) + 1)) dX8_add_36 (fun H locs hP hD hS => ?_)
  exact ret_v hE rfl hP hD hS dX8_add_39

set_option maxHeartbeats 4000000 in
set_option maxRecDepth 100000 in
theorem ct_X8_could (l : Launch) (E : cE) (a : Nat → Nat) (I : Nat → Nat → Nat) (tr : Int64) (h : Nat) (hI : CK I) (hW : WK I) (hh : h < 6) : Ct l E 1 yX8_could cX8_could 3 (some .boolean) [.ref (a 6), .int (nI (h))] (WC E a I tr) (some (.int (bB (cdB (shC I h) (I 45) (I 46) (I 47 0))))) (WC E a I tr) := by
  refine Ct_of (plainFor_of_name (by decide)) (Nat.le_of_ble_eq_true rfl) ?_
  intro p e s m args below meth c A ls hE hP hD hS hl
  have hE : cEnv p s m args meth c E RX8 cX8_could 3 (some .boolean) A := hE
  have hx := hE.1
  have hb := hE.2.1
  have hl : lv_has ls 3 [(0, .ref (a 6)), (1, .int (nI (h)))] := hl
  have hP : va_P E.1 vwCl (WC E a I tr) s.heap := hP
  generalize hH : s.heap = H at hP hS ⊢
  have hS : va_S A s.heap H [] := by rw [hH]; exact hS
  clear hH
  have hc := hW.1
  refine lv_iconst (v := nI (0)) hx hb dX8_could_0 (by decide) ?_
  refine lv_istore_n (lv' := [(2, .int (nI (0))), (0, .ref (a 6)), (1, .int (nI (h)))]) hx hb dX8_could_1 rfl hl (by decide) rfl (fun ls hl => ?_)
  have loop2 : ∀ (fu2 : Nat) (k : Nat), I 47 0 - k < fu2 → (k ≤ I 47 0) → (al (fun k => decide (shC I h (I 45 k) = I 46 k)) k = true) → ∀ (ls : Array Slot) (H : Heap) (locs : List Loc), lv_has ls 3 [(0, .ref (a 6)), (1, .int (nI (h))), (2, .int (nI (k)))] → va_P E.1 vwCl (WC E a I tr) H → va_D A (WC E a I tr) → va_S A s.heap H locs → W p l e (rmL 1) s m args below meth c H locs 0 0 (RQ E below args s A (some (.int (bB (cdB (shC I h) (I 45) (I 46) (I 47 0))))) (WC E a I tr)) (F0 m 2 ls []) := by
    intro fu2
    induction fu2 with
    | zero => intro k h; exact absurd h (Nat.not_lt_zero _)
    | succ fu2 ih2 =>
      intro k hfu2 hk hq ls H locs hl hP hD hS
      refine lv_iload_n hx hb dX8_could_2 rfl (lv_at hl 2 rfl) ?_
      refine lv_aload_n hx hb dX8_could_3 rfl (lv_at hl 0 rfl) ?_
      refine gf_X8_22 hE hP (43) (gC_43 E a I tr) (v := .int (nI (I (47) (0)))) rfl dX8_could_4 ?_
      refine bN_ge (tgt := 41) hx hb (by omega) (by omega) dX8_could_7 (by decide) (fun c7 => ?_) (fun c7 => ?_)
      · refine lv_iconst (v := nI (1)) hx hb dX8_could_41 (by decide) ?_
        exact ret_z hE (r := nI (1)) (by decide) (by rw [show cdB (shC I h) (I 45) (I 46) (I 47 0) = true from (by rw [show I 47 0 = k by omega]; exact hq)]; rfl) hP hD hS dX8_could_42
      · have hw1 := hW.2 k c7
        refine lv_aload_n hx hb dX8_could_10 rfl (lv_at hl 0 rfl) ?_
        refine gf_X8_18 hE hP (43) (gC_43 E a I tr) (v := .ref (a 3)) rfl dX8_could_11 ?_
        refine lv_iload_n hx hb dX8_could_14 rfl (lv_at hl 1 rfl) ?_
        refine lv_aload_n hx hb dX8_could_15 rfl (lv_at hl 0 rfl) ?_
        refine gf_X8_9 hE hP (43) (gC_43 E a I tr) (v := .ref (a 23)) rfl dX8_could_16 ?_
        refine lv_iload_n hx hb dX8_could_19 rfl (lv_at hl 2 rfl) ?_
        refine ald_i hE hP (44) (gC_44 E a I tr) (by omega) (by decide) (r := nI (I (45) (k))) rfl dX8_could_20 ?_
        refine call_V (As := [.int (nI (h)), .int (nI (I (45) (k)))]) (rest := []) hE (ct_X0_showsAt l E a I tr (h) (I (45) (k)) (hI) (by omega) (by omega)) cm_X0_showsAt (uw mt_L_X8_39 rfl) (gC_4 E a I tr) rfl rfl hP hD hS hl.1 rfl rfl (Nat.le_of_ble_eq_true rfl) ⟨by decide, by decide⟩ dX8_could_21 (fun H locs hP hD hS => ?_)
        refine W.eq (g2 := F0 m 24 ls [.int (nI (shC I (h) (I (45) (k))))]) rfl ?_
        have hs1 := shC_lt I (h) (I (45) (k))
        refine lv_aload_n hx hb dX8_could_24 rfl (lv_at hl 0 rfl) ?_
        refine gf_X8_15 hE hP (43) (gC_43 E a I tr) (v := .ref (a 24)) rfl dX8_could_25 ?_
        refine lv_iload_n hx hb dX8_could_28 rfl (lv_at hl 2 rfl) ?_
        refine ald_i hE hP (45) (gC_45 E a I tr) (by omega) (by decide) (r := nI (I (46) (k))) rfl dX8_could_29 ?_
        refine bN_eq (tgt := 35) hx hb (by omega) (by omega) dX8_could_30 (by decide) (fun c30 => ?_) (fun c30 => ?_)
        · refine lv_iinc (v := nI (k + 1)) (lv' := [(2, .int (nI (k + 1))), (0, .ref (a 6)), (1, .int (nI (h)))]) hx hb dX8_could_35 hl (k := 2) rfl (ii1_N _) (by decide) rfl (fun ls hl => ?_)
          refine lv_goto (tgt := 2) hx hb dX8_could_38 (by decide) ?_
          exact ih2 (k + 1) (by omega) (by omega) (al_t (P := (fun k => decide (shC I h (I 45 k) = I 46 k))) hq (dt c30)) ls _ _ (lv_sub hl [1, 2, 0] rfl) hP hD hS
        · refine lv_iconst (v := nI (0)) hx hb dX8_could_33 (by decide) ?_
          exact ret_z hE (r := nI (0)) (by decide) (by rw [show cdB (shC I h) (I 45) (I 46) (I 47 0) = false from al_f (P := (fun k => decide (shC I h (I 45 k) = I 46 k))) (df c30) _ c7]; rfl) hP hD hS dX8_could_34
  exact loop2 (_ + 1) (0) (Nat.lt_succ_self _) (by omega) rfl ls _ _ (lv_sub hl [1, 2, 0] rfl) hP hD hS

set_option maxHeartbeats 4000000 in
set_option maxRecDepth 100000 in
theorem ct_X8_housesThatCould (l : Launch) (E : cE) (a : Nat → Nat) (I : Nat → Nat → Nat) (tr : Int64) (hI : CK I) (hW : WK I) : Ct l E 2 yX8_housesThatCould cX8_housesThatCould 3 (some .int) [.ref (a 6)] (WC E a I tr) (some (.int (nI (btU (fun h => cdB (shC I h) (I 45) (I 46) (I 47 0)) (I 13 0))))) (WC E a I tr) := by
  refine Ct_of (plainFor_of_name (by decide)) (Nat.le_of_ble_eq_true rfl) ?_
  intro p e s m args below meth c A ls hE hP hD hS hl
  have hE : cEnv p s m args meth c E RX8 cX8_housesThatCould 3 (some .int) A := hE
  have hx := hE.1
  have hb := hE.2.1
  have hl : lv_has ls 3 [(0, .ref (a 6))] := hl
  have hP : va_P E.1 vwCl (WC E a I tr) s.heap := hP
  generalize hH : s.heap = H at hP hS ⊢
  have hS : va_S A s.heap H [] := by rw [hH]; exact hS
  clear hH
  have hc := hI.1
  refine lv_iconst (v := nI (0)) hx hb dX8_housesThatCould_0 (by decide) ?_
  refine lv_istore_n (lv' := [(1, .int (nI (0))), (0, .ref (a 6))]) hx hb dX8_housesThatCould_1 rfl hl (by decide) rfl (fun ls hl => ?_)
  refine lv_iconst (v := nI (0)) hx hb dX8_housesThatCould_2 (by decide) ?_
  refine lv_istore_n (lv' := [(2, .int (nI (0))), (1, .int (nI (0))), (0, .ref (a 6))]) hx hb dX8_housesThatCould_3 rfl hl (by decide) rfl (fun ls hl => ?_)
  have loop4 : ∀ (fu4 : Nat) (k : Nat) (h : Nat), I 13 0 - h < fu4 → (h ≤ I 13 0) → (k = btU (fun h => cdB (shC I h) (I 45) (I 46) (I 47 0)) h) → ∀ (ls : Array Slot) (H : Heap) (locs : List Loc), lv_has ls 3 [(0, .ref (a 6)), (1, .int (nI (k))), (2, .int (nI (h)))] → va_P E.1 vwCl (WC E a I tr) H → va_D A (WC E a I tr) → va_S A s.heap H locs → W p l e (rmL 2) s m args below meth c H locs 0 0 (RQ E below args s A (some (.int (nI (btU (fun h => cdB (shC I h) (I 45) (I 46) (I 47 0)) (I 13 0))))) (WC E a I tr)) (F0 m 4 ls []) := by
    intro fu4
    induction fu4 with
    | zero => intro k h h; exact absurd h (Nat.not_lt_zero _)
    | succ fu4 ih4 =>
      intro k h hfu4 hh hk ls H locs hl hP hD hS
      have hb6 := btU_64 (fun h => cdB (shC I h) (I 45) (I 46) (I 47 0)) (h := h) (by omega)
      rw [← hk] at hb6
      refine lv_iload_n hx hb dX8_housesThatCould_4 rfl (lv_at hl 2 rfl) ?_
      refine lv_aload_n hx hb dX8_housesThatCould_5 rfl (lv_at hl 0 rfl) ?_
      refine gf_X8_18 hE hP (43) (gC_43 E a I tr) (v := .ref (a 3)) rfl dX8_housesThatCould_6 ?_
      refine gf_X8_26 hE hP (4) (gC_4 E a I tr) (v := .ref (a 11)) rfl dX8_housesThatCould_9 ?_
      refine gf_X8_32 hE hP (10) (gC_10 E a I tr) (v := .int (nI (I (13) (0)))) rfl dX8_housesThatCould_12 ?_
      refine bN_ge (tgt := 38) hx hb (by omega) (by omega) dX8_housesThatCould_15 (by decide) (fun c15 => ?_) (fun c15 => ?_)
      · refine lv_iload_n hx hb dX8_housesThatCould_38 rfl (lv_at hl 1 rfl) ?_
        exact ret_i hE (r := nI (k)) (by rw [hk, show I 13 0 = h by omega]) hP hD hS dX8_housesThatCould_39
      · refine lv_aload_n hx hb dX8_housesThatCould_18 rfl (lv_at hl 0 rfl) ?_
        refine lv_iload_n hx hb dX8_housesThatCould_19 rfl (lv_at hl 2 rfl) ?_
        refine call_V (As := [.int (nI (h))]) (rest := []) hE (ct_X8_could l E a I tr (h) hI hW (by omega)) cm_X8_could (uw mt_L_X8_35 rfl) (gC_43 E a I tr) rfl rfl hP hD hS hl.1 rfl rfl (Nat.le_of_ble_eq_true rfl) ⟨by decide, by decide⟩ dX8_housesThatCould_20 (fun H locs hP hD hS => ?_)
        refine W.eq (g2 := F0 m 23 ls [.int (bB (cdB (shC I (h)) (I 45) (I 46) (I 47 0)))]) rfl ?_
        refine bB_eq (tgt := 32) hx hb dX8_housesThatCould_23 (by decide) (fun c23 => ?_) (fun c23 => ?_)
        · refine lv_iinc (v := nI (h + 1)) (lv' := [(2, .int (nI (h + 1))), (0, .ref (a 6)), (1, .int (nI (k)))]) hx hb dX8_housesThatCould_32 hl (k := 2) rfl (ii1_N _) (by decide) rfl (fun ls hl => ?_)
          refine lv_goto (tgt := 4) hx hb dX8_housesThatCould_35 (by decide) ?_
          exact ih4 (k) (h + 1) (by omega) (by omega) (by subst hk; first | exact (btU_t (P := (fun h => cdB (shC I h) (I 45) (I 46) (I 47 0))) c23).symm | exact (btU_f (P := (fun h => cdB (shC I h) (I 45) (I 46) (I 47 0))) c23).symm) ls _ _ (lv_sub hl [1, 2, 0] rfl) hP hD hS
        · refine lv_iload_n hx hb dX8_housesThatCould_26 rfl (lv_at hl 1 rfl) ?_
          refine lv_iconst (v := nI (1)) hx hb dX8_housesThatCould_27 (by decide) ?_
          refine lv_iload_n hx hb dX8_housesThatCould_28 rfl (lv_at hl 2 rfl) ?_
          refine lv_ishl hx hb dX8_housesThatCould_29 ?_
          refine tp (nI_pow (k := h) (by omega)) ?_
          refine lv_ior hx hb dX8_housesThatCould_30 ?_
          refine tp nI_or ?_
          refine lv_istore_n (lv' := [(1, .int (nI ((k) ||| (2 ^ (h))))), (0, .ref (a 6)), (2, .int (nI (h)))]) hx hb dX8_housesThatCould_31 rfl hl (by decide) rfl (fun ls hl => ?_)
          refine lv_iinc (v := nI (h + 1)) (lv' := [(2, .int (nI (h + 1))), (1, .int (nI ((k) ||| (2 ^ (h))))), (0, .ref (a 6))]) hx hb dX8_housesThatCould_32 hl (k := 2) rfl (ii1_N _) (by decide) rfl (fun ls hl => ?_)
          refine lv_goto (tgt := 4) hx hb dX8_housesThatCould_35 (by decide) ?_
          exact ih4 ((k) ||| (2 ^ (h))) (h + 1) (by omega) (by omega) (by subst hk; first | exact (btU_t (P := (fun h => cdB (shC I h) (I 45) (I 46) (I 47 0))) c23).symm | exact (btU_f (P := (fun h => cdB (shC I h) (I 45) (I 46) (I 47 0))) c23).symm) ls _ _ (lv_sub hl [2, 1, 0] rfl) hP hD hS
  exact loop4 (_ + 1) (0) (0) (Nat.lt_succ_self _) (by omega) rfl ls _ _ (lv_sub hl [2, 1, 0] rfl) hP hD hS
