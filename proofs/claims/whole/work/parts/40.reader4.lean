set_option maxHeartbeats 4000000 in
set_option maxRecDepth 100000 in
theorem ct_X5_readsLeap (l : Launch) (E : cE) (a : Nat → Nat) (I : Nat → Nat → Nat) (tr : Int64) (hR : RK I) (hDs : DKs I) : Ct l E 8 yX5_readsLeap cX5_readsLeap 3 (some .boolean) [.ref (a 2)] (WC E a I tr) (some (.int (bB (rlI I).1))) (WC E a (rlI I).2 tr) := by
  refine Ct_of (plainFor_of_name (by decide)) (Nat.le_of_ble_eq_true rfl) ?_
  intro p e s m args below meth c A ls hE hP hD hS hl
  have hE : cEnv p s m args meth c E RX5 cX5_readsLeap 3 (some .boolean) A := hE
  have hx := hE.1
  have hb := hE.2.1
  have hl : lv_has ls 3 [(0, .ref (a 2))] := hl
  have hP : va_P E.1 vwCl (WC E a I tr) s.heap := hP
  generalize hH : s.heap = H at hP hS ⊢
  have hS : va_S A s.heap H [] := by rw [hH]; exact hS
  clear hH
  have hT := hR.1
  have hT3 := hT.1
  have h20 := hR.2.1
  have h30 := hR.2.2.1
  have h40 := hR.2.2.2.1
  have h50 := hR.2.2.2.2
  have hc6 := hDs.1
  refine lv_aload_n hx hb dX5_readsLeap_0 rfl (lv_at hl 0 rfl) ?_
  refine lv_iconst (v := nI (0)) hx hb dX5_readsLeap_1 (by decide) ?_
  refine lv_aload_n hx hb dX5_readsLeap_2 rfl (lv_at hl 0 rfl) ?_
  refine gf_X5_12 hE hP (3) (gC_3 E a I tr) (v := .ref (a 12)) rfl dX5_readsLeap_3 ?_
  refine gf_X5_52 hE hP (24) (gC_24 E a I tr) (v := .int (nI (I (26) (0)))) rfl dX5_readsLeap_6 ?_
  refine lv_iconst (v := nI (1)) hx hb dX5_readsLeap_9 (by decide) ?_
  refine lv_isub hx hb dX5_readsLeap_10 ?_
  refine call_V (As := [.int (nI (0)), .int (nI (I (26) (0)) - nI (1))]) (rest := []) hE (ct_X5_readsNumber l E a I tr (nI (0)) ((nI (I (26) (0)) - nI (1))) hR) cm_X5_readsNumber (uw mt_L_X5_55 rfl) (gC_3 E a I tr) rfl rfl hP hD hS hl.1 rfl rfl (Nat.le_of_ble_eq_true rfl) ⟨by decide, by decide⟩ dX5_readsLeap_11 (fun H locs hP hD hS => ?_)
  refine W.eq (g2 := F0 m 14 ls [.int (bB (numB (stI I) (nI (0)) ((nI (I (26) (0)) - nI (1)))))]) rfl ?_
  have hR1 : RK (stI I) := RK_st hR
  have hR14 := hR1.2.2.2.1
  have hR15 := hR1.2.2.2.2
  refine bB_ne (tgt := 19) hx hb dX5_readsLeap_14 (by decide) (fun c14 => ?_) (fun c14 => ?_)
  · have hv0 := numB_h (by omega) hc6 c14
    have hv6 : stI I 5 0 < 6 := by omega
    have hl31 : stI I 31 (stI I 5 0) ≤ 2 := by rw [stI_off _ (by decide)]; exact (hDs.2 _ hv6).1
    refine lv_aload_n hx hb dX5_readsLeap_19 rfl (lv_at hl 0 rfl) ?_
    refine gf_X5_12 hE hP (3) (gC_3 E a (stI I) tr) (v := .ref (a 12)) rfl dX5_readsLeap_20 ?_
    refine gf_X5_69 hE hP (24) (gC_24 E a (stI I) tr) (v := .ref (a 18)) rfl dX5_readsLeap_23 ?_
    refine lv_aload_n hx hb dX5_readsLeap_26 rfl (lv_at hl 0 rfl) ?_
    refine gf_X5_59 hE hP (3) (gC_3 E a (stI I) tr) (v := .int (nI ((stI I) (5) (0)))) rfl dX5_readsLeap_27 ?_
    refine ald_q 3 hE hP 25 (gC_25 E a (stI I) tr) rfl (by omega) (by decide) (r := a (60 + (stI I) (5) (0))) rfl dX5_readsLeap_30 ?_
    refine lv_astore_n (lv' := [(1, .ref (a (60 + (stI I) (5) (0)))), (0, .ref (a 2))]) hx hb dX5_readsLeap_31 rfl hl (by decide) rfl (fun ls hl => ?_)
    refine lv_aload_n hx hb dX5_readsLeap_32 rfl (lv_at hl 0 rfl) ?_
    refine gf_X5_73 hE hP (26 + (stI I) (5) (0)) (gC_hs E a (stI I) tr ((stI I) (5) (0)) (by omega)) (v := .int (nI ((stI I) (31) ((stI I) (5) (0))))) rfl dX5_readsLeap_33 ?_
    refine lv_iconst (v := nI (2)) hx hb dX5_readsLeap_36 (by decide) ?_
    refine bN_ge (tgt := 50) hx hb (by omega) (by omega) dX5_readsLeap_37 (by decide) (fun c37 => ?_) (fun c37 => ?_)
    · refine lv_iconst (v := nI (0)) hx hb dX5_readsLeap_50 (by decide) ?_
      have hw : (stI I) = (rlI I).2 := by first | (unfold rlI; rw [if_pos c14]; done) | (unfold rlI; rw [if_neg (by rw [c14]; decide), if_pos c37]; done)
      have hP := Eq.mp (congrArg (fun q => va_P E.1 vwCl (WC E a q tr) H) hw) hP
      have hD := Eq.mp (congrArg (fun q => va_D A (WC E a q tr)) hw) hD
      exact ret_z hE (r := nI (0)) (by decide) (by first | (unfold rlI; rw [if_pos c14]; rfl; done) | (unfold rlI; rw [if_pos c14]; done) | (unfold rlI; rw [if_neg (by rw [c14]; decide), if_pos c37]; rfl; done) | (unfold rlI; rw [if_neg (by rw [c14]; decide), if_pos c37]; done)) hP hD hS dX5_readsLeap_51
    · refine lv_aload_n hx hb dX5_readsLeap_40 rfl (lv_at hl 1 rfl) ?_
      refine lv_iconst (v := nI (0)) hx hb dX5_readsLeap_41 (by decide) ?_
      refine lv_bipush (v := nI (95)) hx hb dX5_readsLeap_42 (by decide) ?_
      refine call_V (As := [.int (nI (0)), .int (nI (95))]) (rest := []) hE (ct_X5_readsNumber l E a (stI I) tr (nI (0)) (nI (95)) hR1) cm_X5_readsNumber (uw mt_L_X5_55 rfl) (gC_3 E a (stI I) tr) rfl rfl hP hD hS hl.1 rfl rfl (Nat.le_of_ble_eq_true rfl) ⟨by decide, by decide⟩ dX5_readsLeap_44 (fun H locs hP hD hS => ?_)
      refine W.eq (g2 := F0 m 47 ls [.int (bB (numB (stI (stI I)) (nI (0)) (nI (95))))]) rfl ?_
      have hR2 : RK (stI (stI I)) := RK_st hR1
      have hR24 := hR2.2.2.2.1
      have hR25 := hR2.2.2.2.2
      refine bB_ne (tgt := 52) hx hb dX5_readsLeap_47 (by decide) (fun c47 => ?_) (fun c47 => ?_)
      · have hn2 := numB_v (lo := 0) (hi := 95) (by omega) (by decide) (by decide) c47
        refine lv_aload_n hx hb dX5_readsLeap_52 rfl (lv_at hl 1 rfl) ?_
        refine gf_X5_59 hE hP (3) (gC_3 E a (stI (stI I)) tr) (v := .int (nI ((stI (stI I)) (5) (0)))) rfl dX5_readsLeap_53 ?_
        refine lv_istore_n (lv' := [(2, .int (nI ((stI (stI I)) (5) (0)))), (1, .ref (a (60 + (stI I) (5) (0)))), (0, .ref (a 2))]) hx hb dX5_readsLeap_56 rfl hl (by decide) rfl (fun ls hl => ?_)
        refine lv_aload_n hx hb dX5_readsLeap_57 rfl (lv_at hl 2 rfl) ?_
        refine lv_iconst (v := nI (1)) hx hb dX5_readsLeap_58 (by decide) ?_
        refine lv_bipush (v := nI (47)) hx hb dX5_readsLeap_59 (by decide) ?_
        refine call_V (As := [.int (nI (1)), .int (nI (47))]) (rest := []) hE (ct_X5_readsNumber l E a (stI (stI I)) tr (nI (1)) (nI (47)) hR2) cm_X5_readsNumber (uw mt_L_X5_55 rfl) (gC_3 E a (stI (stI I)) tr) rfl rfl hP hD hS hl.1 rfl rfl (Nat.le_of_ble_eq_true rfl) ⟨by decide, by decide⟩ dX5_readsLeap_61 (fun H locs hP hD hS => ?_)
        refine W.eq (g2 := F0 m 64 ls [.int (bB (numB (stI (stI (stI I))) (nI (1)) (nI (47))))]) rfl ?_
        have hR3 : RK (stI (stI (stI I))) := RK_st hR2
        have hR34 := hR3.2.2.2.1
        have hR35 := hR3.2.2.2.2
        refine bB_ne (tgt := 69) hx hb dX5_readsLeap_64 (by decide) (fun c64 => ?_) (fun c64 => ?_)
        · have hn3 := numB_v (lo := 1) (hi := 47) (by omega) (by decide) (by decide) c64
          have hl31b : (stI (stI (stI I))) 31 (stI I 5 0) ≤ 2 := by rw [stI_off _ (by decide), stI_off _ (by decide), stI_off _ (by decide)]; exact (hDs.2 _ hv6).1
          have hd48 : ∀ t, t < 96 → (stI (stI (stI I))) (32 + stI I 5 0) t < 48 := by rw [stI_off _ (by omega), stI_off _ (by omega), stI_off _ (by omega)]; exact (hDs.2 _ hv6).2
          refine lv_aload_n hx hb dX5_readsLeap_69 rfl (lv_at hl 1 rfl) ?_
          refine lv_iload_n hx hb dX5_readsLeap_70 rfl (lv_at hl 0 rfl) ?_
          refine lv_aload_n hx hb dX5_readsLeap_71 rfl (lv_at hl 2 rfl) ?_
          refine gf_X5_59 hE hP (3) (gC_3 E a (stI (stI (stI I))) tr) (v := .int (nI ((stI (stI (stI I))) (5) (0)))) rfl dX5_readsLeap_72 ?_
          refine call_V (As := [.int (nI ((stI (stI I)) (5) (0))), .int (nI ((stI (stI (stI I))) (5) (0)))]) (rest := []) hE (ct_X3_addLeap l E a (stI (stI (stI I))) tr (stI I 5 0) ((stI (stI I)) (5) (0)) ((stI (stI (stI I))) (5) (0)) hv6 (by omega) (by omega) hl31b hd48) cm_X3_addLeap (uw mt_L_X5_78 rfl) (gC_hs E a (stI (stI (stI I))) tr ((stI I) (5) (0)) (by omega)) rfl rfl hP hD hS hl.1 rfl rfl (Nat.le_of_ble_eq_true rfl) ⟨by decide, by decide⟩ dX5_readsLeap_75 (fun H locs hP hD hS => ?_)
          refine W.eq (g2 := F0 m 78 ls []) rfl ?_
          have hR4 : RK (lpI (stI (stI (stI I))) (stI I 5 0) ((stI (stI I)) (5) (0)) ((stI (stI (stI I))) (5) (0))) := RK_of hR3 (fun k hk => lpI_off _ _ _ _ (by omega) hv6)
          refine lv_aload_n hx hb dX5_readsLeap_78 rfl (lv_at hl 2 rfl) ?_
          refine call_V (As := []) (rest := []) hE (ct_X5_readsSemicolon l E a (lpI (stI (stI (stI I))) (stI I 5 0) ((stI (stI I)) (5) (0)) ((stI (stI (stI I))) (5) (0))) tr hR4) cm_X5_readsSemicolon (uw mt_L_X5_66 rfl) (gC_3 E a (lpI (stI (stI (stI I))) (stI I 5 0) ((stI (stI I)) (5) (0)) ((stI (stI (stI I))) (5) (0))) tr) rfl rfl hP hD hS hl.1 rfl rfl (Nat.le_of_ble_eq_true rfl) ⟨by decide, by decide⟩ dX5_readsLeap_79 (fun H locs hP hD hS => ?_)
          refine W.eq (g2 := F0 m 82 ls [.int (bB (decide (stI (lpI (stI (stI (stI I))) (stI I 5 0) ((stI (stI I)) (5) (0)) ((stI (stI (stI I))) (5) (0))) 4 0 = 3)))]) rfl ?_
          have hw : (stI (lpI (stI (stI (stI I))) (stI I 5 0) ((stI (stI I)) (5) (0)) ((stI (stI (stI I))) (5) (0)))) = (rlI I).2 := by first | (unfold rlI; rw [if_pos c14]; done) | (unfold rlI; rw [if_neg (by rw [c14]; decide), if_pos c37]; done) | (unfold rlI; rw [if_neg (by rw [c14]; decide), if_neg (by omega), if_pos c47]; done) | (unfold rlI; rw [if_neg (by rw [c14]; decide), if_neg (by omega), if_neg (by rw [c47]; decide), if_pos c64]; done) | (unfold rlI; rw [if_neg (by rw [c14]; decide), if_neg (by omega), if_neg (by rw [c47]; decide), if_neg (by rw [c64]; decide)]; done)
          have hP := Eq.mp (congrArg (fun q => va_P E.1 vwCl (WC E a q tr) H) hw) hP
          have hD := Eq.mp (congrArg (fun q => va_D A (WC E a q tr)) hw) hD
          exact ret_z hE (r := bB (decide (stI (lpI (stI (stI (stI I))) (stI I 5 0) ((stI (stI I)) (5) (0)) ((stI (stI (stI I))) (5) (0))) 4 0 = 3))) (bB_nar _) (by first | (unfold rlI; rw [if_pos c14]; rfl; done) | (unfold rlI; rw [if_pos c14]; done) | (unfold rlI; rw [if_neg (by rw [c14]; decide), if_pos c37]; rfl; done) | (unfold rlI; rw [if_neg (by rw [c14]; decide), if_pos c37]; done) | (unfold rlI; rw [if_neg (by rw [c14]; decide), if_neg (by omega), if_pos c47]; rfl; done) | (unfold rlI; rw [if_neg (by rw [c14]; decide), if_neg (by omega), if_pos c47]; done) | (unfold rlI; rw [if_neg (by rw [c14]; decide), if_neg (by omega), if_neg (by rw [c47]; decide), if_pos c64]; rfl; done) | (unfold rlI; rw [if_neg (by rw [c14]; decide), if_neg (by omega), if_neg (by rw [c47]; decide), if_pos c64]; done) | (unfold rlI; rw [if_neg (by rw [c14]; decide), if_neg (by omega), if_neg (by rw [c47]; decide), if_neg (by rw [c64]; decide)]; rfl; done) | (unfold rlI; rw [if_neg (by rw [c14]; decide), if_neg (by omega), if_neg (by rw [c47]; decide), if_neg (by rw [c64]; decide)]; done)) hP hD hS dX5_readsLeap_82
        · refine lv_iconst (v := nI (0)) hx hb dX5_readsLeap_67 (by decide) ?_
          have hw : (stI (stI (stI I))) = (rlI I).2 := by first | (unfold rlI; rw [if_pos c14]; done) | (unfold rlI; rw [if_neg (by rw [c14]; decide), if_pos c37]; done) | (unfold rlI; rw [if_neg (by rw [c14]; decide), if_neg (by omega), if_pos c47]; done) | (unfold rlI; rw [if_neg (by rw [c14]; decide), if_neg (by omega), if_neg (by rw [c47]; decide), if_pos c64]; done) | (unfold rlI; rw [if_neg (by rw [c14]; decide), if_neg (by omega), if_neg (by rw [c47]; decide), if_neg (by rw [c64]; decide)]; done)
          have hP := Eq.mp (congrArg (fun q => va_P E.1 vwCl (WC E a q tr) H) hw) hP
          have hD := Eq.mp (congrArg (fun q => va_D A (WC E a q tr)) hw) hD
          exact ret_z hE (r := nI (0)) (by decide) (by first | (unfold rlI; rw [if_pos c14]; rfl; done) | (unfold rlI; rw [if_pos c14]; done) | (unfold rlI; rw [if_neg (by rw [c14]; decide), if_pos c37]; rfl; done) | (unfold rlI; rw [if_neg (by rw [c14]; decide), if_pos c37]; done) | (unfold rlI; rw [if_neg (by rw [c14]; decide), if_neg (by omega), if_pos c47]; rfl; done) | (unfold rlI; rw [if_neg (by rw [c14]; decide), if_neg (by omega), if_pos c47]; done) | (unfold rlI; rw [if_neg (by rw [c14]; decide), if_neg (by omega), if_neg (by rw [c47]; decide), if_pos c64]; rfl; done) | (unfold rlI; rw [if_neg (by rw [c14]; decide), if_neg (by omega), if_neg (by rw [c47]; decide), if_pos c64]; done) | (unfold rlI; rw [if_neg (by rw [c14]; decide), if_neg (by omega), if_neg (by rw [c47]; decide), if_neg (by rw [c64]; decide)]; rfl; done) | (unfold rlI; rw [if_neg (by rw [c14]; decide), if_neg (by omega), if_neg (by rw [c47]; decide), if_neg (by rw [c64]; decide)]; done)) hP hD hS dX5_readsLeap_68
      · refine lv_iconst (v := nI (0)) hx hb dX5_readsLeap_50 (by decide) ?_
        have hw : (stI (stI I)) = (rlI I).2 := by first | (unfold rlI; rw [if_pos c14]; done) | (unfold rlI; rw [if_neg (by rw [c14]; decide), if_pos c37]; done) | (unfold rlI; rw [if_neg (by rw [c14]; decide), if_neg (by omega), if_pos c47]; done)
        have hP := Eq.mp (congrArg (fun q => va_P E.1 vwCl (WC E a q tr) H) hw) hP
        have hD := Eq.mp (congrArg (fun q => va_D A (WC E a q tr)) hw) hD
        exact ret_z hE (r := nI (0)) (by decide) (by first | (unfold rlI; rw [if_pos c14]; rfl; done) | (unfold rlI; rw [if_pos c14]; done) | (unfold rlI; rw [if_neg (by rw [c14]; decide), if_pos c37]; rfl; done) | (unfold rlI; rw [if_neg (by rw [c14]; decide), if_pos c37]; done) | (unfold rlI; rw [if_neg (by rw [c14]; decide), if_neg (by omega), if_pos c47]; rfl; done) | (unfold rlI; rw [if_neg (by rw [c14]; decide), if_neg (by omega), if_pos c47]; done)) hP hD hS dX5_readsLeap_51
  · refine lv_iconst (v := nI (0)) hx hb dX5_readsLeap_17 (by decide) ?_
    have hw : (stI I) = (rlI I).2 := by first | (unfold rlI; rw [if_pos c14]; done)
    have hP := Eq.mp (congrArg (fun q => va_P E.1 vwCl (WC E a q tr) H) hw) hP
    have hD := Eq.mp (congrArg (fun q => va_D A (WC E a q tr)) hw) hD
    exact ret_z hE (r := nI (0)) (by decide) (by first | (unfold rlI; rw [if_pos c14]; rfl; done) | (unfold rlI; rw [if_pos c14]; done)) hP hD hS dX5_readsLeap_18

set_option maxHeartbeats 4000000 in
set_option maxRecDepth 100000 in
theorem ct_X5_readsWalk (l : Launch) (E : cE) (a : Nat → Nat) (I : Nat → Nat → Nat) (tr : Int64) (hR : RK I) (h62 : I 6 0 < 2) : Ct l E 8 yX5_readsWalk cX5_readsWalk 1 (some .boolean) [.ref (a 2)] (WC E a I tr) (some (.int (bB (rwI I).1))) (WC E a (rwI I).2 tr) := by
  refine Ct_of (plainFor_of_name (by decide)) (Nat.le_of_ble_eq_true rfl) ?_
  intro p e s m args below meth c A ls hE hP hD hS hl
  have hE : cEnv p s m args meth c E RX5 cX5_readsWalk 1 (some .boolean) A := hE
  have hx := hE.1
  have hb := hE.2.1
  have hl : lv_has ls 1 [(0, .ref (a 2))] := hl
  have hP : va_P E.1 vwCl (WC E a I tr) s.heap := hP
  generalize hH : s.heap = H at hP hS ⊢
  have hS : va_S A s.heap H [] := by rw [hH]; exact hS
  clear hH
  have hT := hR.1
  have hT3 := hT.1
  have h20 := hR.2.1
  have h30 := hR.2.2.1
  have h40 := hR.2.2.2.1
  have h50 := hR.2.2.2.2
  refine lv_aload_n hx hb dX5_readsWalk_0 rfl (lv_at hl 0 rfl) ?_
  refine gf_X5_29 hE hP (3) (gC_3 E a I tr) (v := .int (nI (I (6) (0)))) rfl dX5_readsWalk_1 ?_
  refine bZ_ne (tgt := 17) hx hb (by omega) dX5_readsWalk_4 (by decide) (fun c4 => ?_) (fun c4 => ?_)
  · refine lv_iconst (v := nI (0)) hx hb dX5_readsWalk_17 (by decide) ?_
    have hw : I = (rwI I).2 := by first | (unfold rwI; rw [if_pos c4]; done) | (unfold rwI; rw [if_pos c4]; rfl; done)
    have hP := Eq.mp (congrArg (fun q => va_P E.1 vwCl (WC E a q tr) H) hw) hP
    have hD := Eq.mp (congrArg (fun q => va_D A (WC E a q tr)) hw) hD
    exact ret_z hE (r := nI (0)) (by decide) (by first | (unfold rwI; rw [if_pos c4]; rfl; done) | (unfold rwI; rw [if_pos c4]; done)) hP hD hS dX5_readsWalk_18
  · refine lv_aload_n hx hb dX5_readsWalk_7 rfl (lv_at hl 0 rfl) ?_
    refine lv_iconst (v := nI (0)) hx hb dX5_readsWalk_8 (by decide) ?_
    refine lv_bipush (v := nI (9)) hx hb dX5_readsWalk_9 (by decide) ?_
    refine call_V (As := [.int (nI (0)), .int (nI (9))]) (rest := []) hE (ct_X5_readsNumber l E a I tr (nI (0)) (nI (9)) hR) cm_X5_readsNumber (uw mt_L_X5_55 rfl) (gC_3 E a I tr) rfl rfl hP hD hS hl.1 rfl rfl (Nat.le_of_ble_eq_true rfl) ⟨by decide, by decide⟩ dX5_readsWalk_11 (fun H locs hP hD hS => ?_)
    refine W.eq (g2 := F0 m 14 ls [.int (bB (numB (stI I) (nI (0)) (nI (9))))]) rfl ?_
    have hR1 : RK (stI I) := RK_st hR
    have hR14 := hR1.2.2.2.1
    have hR15 := hR1.2.2.2.2
    refine bB_ne (tgt := 19) hx hb dX5_readsWalk_14 (by decide) (fun c14 => ?_) (fun c14 => ?_)
    · refine lv_aload_n hx hb dX5_readsWalk_19 rfl (lv_at hl 0 rfl) ?_
      refine lv_iconst (v := nI (1)) hx hb dX5_readsWalk_20 (by decide) ?_
      refine pf_X5_29 hE hP hD hS (3) (gC_3 E a (stI I) tr) (by decide) (by decide) (Nat.le_of_ble_eq_true rfl) (sC_3_6 E a (stI I) tr (1)) dX5_readsWalk_21 (fun H locs hP hD hS => ?_)
      refine lv_aload_n hx hb dX5_readsWalk_24 rfl (lv_at hl 0 rfl) ?_
      refine gf_X5_12 hE hP (3) (gC_3 E a (up2 (stI I) (6) (0) (1)) tr) (v := .ref (a 12)) rfl dX5_readsWalk_25 ?_
      refine lv_aload_n hx hb dX5_readsWalk_28 rfl (lv_at hl 0 rfl) ?_
      refine gf_X5_59 hE hP (3) (gC_3 E a (up2 (stI I) (6) (0) (1)) tr) (v := .int (nI ((stI I) (5) (0)))) rfl dX5_readsWalk_29 ?_
      refine pf_X5_82 hE hP hD hS (24) (gC_24 E a (up2 (stI I) (6) (0) (1)) tr) rfl rfl (Nat.le_of_ble_eq_true rfl) (sC_24_2 E a (up2 (stI I) (6) (0) (1)) tr ((stI I) (5) (0))) dX5_readsWalk_32 (fun H locs hP hD hS => ?_)
      have hR2 : RK (wkI (stI I) ((stI I) (5) (0))) := RK_wk hR1
      refine lv_aload_n hx hb dX5_readsWalk_35 rfl (lv_at hl 0 rfl) ?_
      refine call_V (As := []) (rest := []) hE (ct_X5_readsSemicolon l E a (up2 (up2 (stI I) (6) (0) (1)) (27) (0) ((stI I) (5) (0))) tr hR2) cm_X5_readsSemicolon (uw mt_L_X5_66 rfl) (gC_3 E a (up2 (up2 (stI I) (6) (0) (1)) (27) (0) ((stI I) (5) (0))) tr) rfl rfl hP hD hS hl.1 rfl rfl (Nat.le_of_ble_eq_true rfl) ⟨by decide, by decide⟩ dX5_readsWalk_36 (fun H locs hP hD hS => ?_)
      refine W.eq (g2 := F0 m 39 ls [.int (bB (decide (stI (up2 (up2 (stI I) (6) (0) (1)) (27) (0) ((stI I) (5) (0))) 4 0 = 3)))]) rfl ?_
      have hw : (stI (up2 (up2 (stI I) (6) (0) (1)) (27) (0) ((stI I) (5) (0)))) = (rwI I).2 := by first | (unfold rwI; rw [if_pos c4]; done) | (unfold rwI; rw [if_pos c4]; rfl; done) | (unfold rwI; rw [if_neg (by omega), if_pos c14]; done) | (unfold rwI; rw [if_neg (by omega), if_pos c14]; rfl; done) | (unfold rwI; rw [if_neg (by omega), if_neg (by rw [c14]; decide)]; done) | (unfold rwI; rw [if_neg (by omega), if_neg (by rw [c14]; decide)]; rfl; done)
      have hP := Eq.mp (congrArg (fun q => va_P E.1 vwCl (WC E a q tr) H) hw) hP
      have hD := Eq.mp (congrArg (fun q => va_D A (WC E a q tr)) hw) hD
      exact ret_z hE (r := bB (decide (stI (up2 (up2 (stI I) (6) (0) (1)) (27) (0) ((stI I) (5) (0))) 4 0 = 3))) (bB_nar _) (by first | (unfold rwI; rw [if_pos c4]; rfl; done) | (unfold rwI; rw [if_pos c4]; done) | (unfold rwI; rw [if_neg (by omega), if_pos c14]; rfl; done) | (unfold rwI; rw [if_neg (by omega), if_pos c14]; done) | (unfold rwI; rw [if_neg (by omega), if_neg (by rw [c14]; decide)]; rfl; done) | (unfold rwI; rw [if_neg (by omega), if_neg (by rw [c14]; decide)]; done)) hP hD hS dX5_readsWalk_39
    · refine lv_iconst (v := nI (0)) hx hb dX5_readsWalk_17 (by decide) ?_
      have hw : (stI I) = (rwI I).2 := by first | (unfold rwI; rw [if_pos c4]; done) | (unfold rwI; rw [if_pos c4]; rfl; done) | (unfold rwI; rw [if_neg (by omega), if_pos c14]; done) | (unfold rwI; rw [if_neg (by omega), if_pos c14]; rfl; done) | (unfold rwI; rw [if_neg (by omega), if_neg (by rw [c14]; decide)]; done) | (unfold rwI; rw [if_neg (by omega), if_neg (by rw [c14]; decide)]; rfl; done)
      have hP := Eq.mp (congrArg (fun q => va_P E.1 vwCl (WC E a q tr) H) hw) hP
      have hD := Eq.mp (congrArg (fun q => va_D A (WC E a q tr)) hw) hD
      exact ret_z hE (r := nI (0)) (by decide) (by first | (unfold rwI; rw [if_pos c4]; rfl; done) | (unfold rwI; rw [if_pos c4]; done) | (unfold rwI; rw [if_neg (by omega), if_pos c14]; rfl; done) | (unfold rwI; rw [if_neg (by omega), if_pos c14]; done) | (unfold rwI; rw [if_neg (by omega), if_neg (by rw [c14]; decide)]; rfl; done) | (unfold rwI; rw [if_neg (by omega), if_neg (by rw [c14]; decide)]; done)) hP hD hS dX5_readsWalk_18
