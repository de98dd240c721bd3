set_option maxHeartbeats 4000000 in
set_option maxRecDepth 100000 in
theorem ct_X5_step (l : Launch) (E : cE) (a : Nat → Nat) (I : Nat → Nat → Nat) (tr : Int64) (hR : RK I) : Ct l E 6 yX5_step cX5_step 1 none [.ref (a 2)] (WC E a I tr) none (WC E a (stI I) tr) := by
  refine Ct_of (plainFor_of_name (by decide)) (Nat.le_of_ble_eq_true rfl) ?_
  intro p e s m args below meth c A ls hE hP hD hS hl
  have hE : cEnv p s m args meth c E RX5 cX5_step 1 none A := hE
  have hx := hE.1
  have hb := hE.2.1
  have hl : lv_has ls 1 [(0, .ref (a 2))] := hl
  have hP : va_P E.1 vwCl (WC E a I tr) s.heap := hP
  generalize hH : s.heap = H at hP hS ⊢
  have hS : va_S A s.heap H [] := by rw [hH]; exact hS
  clear hH
  have hT := hR.1
  have hT3 := hT.1
  have h20 := hR.2.1
  have h30 := hR.2.2.1
  have h40 := hR.2.2.2.1
  have h50 := hR.2.2.2.2
  have loop0 : ∀ (fu0 : Nat) (q : Nat), I 1 0 - q < fu0 → (q ≤ I 1 0) → (stS I = skp (rgB 32 32 (I 0) (I 1 0)) (I 1 0) q) → ∀ (ls : Array Slot) (H : Heap) (locs : List Loc), lv_has ls 1 [(0, .ref (a 2))] → va_P E.1 vwCl (WC E a (up2 I (2) (0) (q)) tr) H → va_D A (WC E a (up2 I (2) (0) (q)) tr) → va_S A s.heap H locs → W p l e (rmL 6) s m args below meth c H locs 0 0 (RQ E below args s A none (WC E a (stI I) tr)) (F0 m 0 ls []) := by
    intro fu0
    induction fu0 with
    | zero => intro q h; exact absurd h (Nat.not_lt_zero _)
    | succ fu0 ih0 =>
      intro q hfu0 hq hs ls H locs hl hP hD hS
      refine lv_aload_n hx hb dX5_step_0 rfl (lv_at hl 0 rfl) ?_
      refine gf_X5_18 hE hP (3) (gC_3 E a (up2 I (2) (0) (q)) tr) (v := .ref (a 1)) rfl dX5_step_1 ?_
      refine lv_aload_n hx hb dX5_step_4 rfl (lv_at hl 0 rfl) ?_
      refine gf_X5_25 hE hP (3) (gC_3 E a (up2 I (2) (0) (q)) tr) (v := .int (nI (q))) rfl dX5_step_5 ?_
      refine call_V (As := [.int (nI (q))]) (rest := []) hE (ct_X6_isBlank l E a (up2 I (2) (0) (q)) tr (q) hT (by omega)) cm_X6_isBlank (uw mt_L_X5_89 rfl) (gC_1 E a (up2 I (2) (0) (q)) tr) rfl rfl hP hD hS hl.1 rfl rfl (Nat.le_of_ble_eq_true rfl) ⟨by decide, by decide⟩ dX5_step_8 (fun H locs hP hD hS => ?_)
      refine W.eq (g2 := F0 m 11 ls [.int (bB (rgB 32 32 (I 0) (I 1 0) (q)))]) rfl ?_
      refine bB_eq (tgt := 37) hx hb dX5_step_11 (by decide) (fun c11 => ?_) (fun c11 => ?_)
      · have he : stS I = q := hs.trans (skp_f (Or.inr c11))
        refine lv_aload_n hx hb dX5_step_37 rfl (lv_at hl 0 rfl) ?_
        refine lv_aload_n hx hb dX5_step_38 rfl (lv_at hl 0 rfl) ?_
        refine gf_X5_25 hE hP (3) (gC_3 E a (up2 I (2) (0) (q)) tr) (v := .int (nI (q))) rfl dX5_step_39 ?_
        refine pf_X5_49 hE hP hD hS (3) (gC_3 E a (up2 I (2) (0) (q)) tr) rfl rfl (Nat.le_of_ble_eq_true rfl) (sC_3_3 E a (up2 I (2) (0) (q)) tr (q)) dX5_step_42 (fun H locs hP hD hS => ?_)
        refine lv_aload_n hx hb dX5_step_45 rfl (lv_at hl 0 rfl) ?_
        refine gf_X5_25 hE hP (3) (gC_3 E a (up2 (up2 I (2) (0) (q)) (3) (0) (q)) tr) (v := .int (nI (q))) rfl dX5_step_46 ?_
        refine lv_aload_n hx hb dX5_step_49 rfl (lv_at hl 0 rfl) ?_
        refine gf_X5_18 hE hP (3) (gC_3 E a (up2 (up2 I (2) (0) (q)) (3) (0) (q)) tr) (v := .ref (a 1)) rfl dX5_step_50 ?_
        refine gf_X5_95 hE hP (1) (gC_1 E a (up2 (up2 I (2) (0) (q)) (3) (0) (q)) tr) (v := .int (nI (I (1) (0)))) rfl dX5_step_53 ?_
        refine bN_lt (tgt := 67) hx hb (by omega) (by omega) dX5_step_56 (by decide) (fun c56 => ?_) (fun c56 => ?_)
        · have hbq := hT.2 q c56
          refine lv_aload_n hx hb dX5_step_67 rfl (lv_at hl 0 rfl) ?_
          refine gf_X5_18 hE hP (3) (gC_3 E a (up2 (up2 I (2) (0) (q)) (3) (0) (q)) tr) (v := .ref (a 1)) rfl dX5_step_68 ?_
          refine lv_aload_n hx hb dX5_step_71 rfl (lv_at hl 0 rfl) ?_
          refine gf_X5_25 hE hP (3) (gC_3 E a (up2 (up2 I (2) (0) (q)) (3) (0) (q)) tr) (v := .int (nI (q))) rfl dX5_step_72 ?_
          refine call_V (As := [.int (nI (q))]) (rest := []) hE (ct_X6_isLetter l E a (up2 (up2 I (2) (0) (q)) (3) (0) (q)) tr (q) hT (by omega)) cm_X6_isLetter (uw mt_L_X5_98 rfl) (gC_1 E a (up2 (up2 I (2) (0) (q)) (3) (0) (q)) tr) rfl rfl hP hD hS hl.1 rfl rfl (Nat.le_of_ble_eq_true rfl) ⟨by decide, by decide⟩ dX5_step_75 (fun H locs hP hD hS => ?_)
          refine W.eq (g2 := F0 m 78 ls [.int (bB (rgB 97 122 (I 0) (I 1 0) (q)))]) rfl ?_
          refine bB_eq (tgt := 88) hx hb dX5_step_78 (by decide) (fun c78 => ?_) (fun c78 => ?_)
          · refine lv_aload_n hx hb dX5_step_88 rfl (lv_at hl 0 rfl) ?_
            refine gf_X5_18 hE hP (3) (gC_3 E a (up2 (up2 I (2) (0) (q)) (3) (0) (q)) tr) (v := .ref (a 1)) rfl dX5_step_89 ?_
            refine lv_aload_n hx hb dX5_step_92 rfl (lv_at hl 0 rfl) ?_
            refine gf_X5_25 hE hP (3) (gC_3 E a (up2 (up2 I (2) (0) (q)) (3) (0) (q)) tr) (v := .int (nI (q))) rfl dX5_step_93 ?_
            refine call_V (As := [.int (nI (q))]) (rest := []) hE (ct_X6_isDigit l E a (up2 (up2 I (2) (0) (q)) (3) (0) (q)) tr (q) hT (by omega)) cm_X6_isDigit (uw mt_L_X5_104 rfl) (gC_1 E a (up2 (up2 I (2) (0) (q)) (3) (0) (q)) tr) rfl rfl hP hD hS hl.1 rfl rfl (Nat.le_of_ble_eq_true rfl) ⟨by decide, by decide⟩ dX5_step_96 (fun H locs hP hD hS => ?_)
            refine W.eq (g2 := F0 m 99 ls [.int (bB (rgB 48 57 (I 0) (I 1 0) (q)))]) rfl ?_
            refine bB_eq (tgt := 109) hx hb dX5_step_99 (by decide) (fun c99 => ?_) (fun c99 => ?_)
            · refine lv_aload_n hx hb dX5_step_109 rfl (lv_at hl 0 rfl) ?_
              refine lv_aload_n hx hb dX5_step_110 rfl (lv_at hl 0 rfl) ?_
              refine gf_X5_18 hE hP (3) (gC_3 E a (up2 (up2 I (2) (0) (q)) (3) (0) (q)) tr) (v := .ref (a 1)) rfl dX5_step_111 ?_
              refine gf_X5_110 hE hP (1) (gC_1 E a (up2 (up2 I (2) (0) (q)) (3) (0) (q)) tr) (v := .ref (a 10)) rfl dX5_step_114 ?_
              refine lv_aload_n hx hb dX5_step_117 rfl (lv_at hl 0 rfl) ?_
              refine gf_X5_25 hE hP (3) (gC_3 E a (up2 (up2 I (2) (0) (q)) (3) (0) (q)) tr) (v := .int (nI (q))) rfl dX5_step_118 ?_
              refine ald_i hE hP (2) (gC_2 E a (up2 (up2 I (2) (0) (q)) (3) (0) (q)) tr) (by omega) (by decide) (r := nI (I (0) (q))) rfl dX5_step_121 ?_
              refine lv_bipush (v := nI (59)) hx hb dX5_step_122 (by decide) ?_
              refine bN_ne (tgt := 131) hx hb (by omega) (by omega) dX5_step_124 (by decide) (fun c124 => ?_) (fun c124 => ?_)
              · refine lv_iconst (v := nI (1)) hx hb dX5_step_131 (by decide) ?_
                refine pf_X5_36 hE hP hD hS (3) (gC_3 E a (up2 (up2 I (2) (0) (q)) (3) (0) (q)) tr) rfl rfl (Nat.le_of_ble_eq_true rfl) (sC_3_4 E a (up2 (up2 I (2) (0) (q)) (3) (0) (q)) tr (1)) dX5_step_132 (fun H locs hP hD hS => ?_)
                refine lv_aload_n hx hb dX5_step_135 rfl (lv_at hl 0 rfl) ?_
                refine lv_dup hx hb dX5_step_136 rfl ?_
                refine gf_X5_25 hE hP (3) (gC_3 E a (up2 (up2 (up2 I (2) (0) (q)) (3) (0) (q)) (4) (0) (1)) tr) (v := .int (nI (q))) rfl dX5_step_137 ?_
                refine lv_iconst (v := nI (1)) hx hb dX5_step_140 (by decide) ?_
                refine lv_iadd hx hb dX5_step_141 ?_
                refine tp (nI_add _ _) ?_
                refine pf_X5_25 hE hP hD hS (3) (gC_3 E a (up2 (up2 (up2 I (2) (0) (q)) (3) (0) (q)) (4) (0) (1)) tr) rfl rfl (Nat.le_of_ble_eq_true rfl) (sC_3_2 E a (up2 (up2 (up2 I (2) (0) (q)) (3) (0) (q)) (4) (0) (1)) tr (q + 1)) dX5_step_142 (fun H locs hP hD hS => ?_)
                have hw : (up2 (up2 (up2 (up2 I (2) (0) (q)) (3) (0) (q)) (4) (0) (1)) (2) (0) (q + 1)) = (stI I) := by first | (unfold stI st0; rw [he, if_neg (by omega), if_neg (by rw [c78]; decide), if_neg (by rw [c99]; decide), if_pos c124]; done) | (unfold stI st0; rw [he, if_neg (by omega), if_neg (by rw [c78]; decide), if_neg (by rw [c99]; decide), if_neg c124]; done)
                have hP := Eq.mp (congrArg (fun q => va_P E.1 vwCl (WC E a q tr) H) hw) hP
                have hD := Eq.mp (congrArg (fun q => va_D A (WC E a q tr)) hw) hD
                exact ret_v hE rfl hP hD hS dX5_step_145
              · refine lv_iconst (v := nI (3)) hx hb dX5_step_127 (by decide) ?_
                refine lv_goto (tgt := 132) hx hb dX5_step_128 (by decide) ?_
                refine pf_X5_36 hE hP hD hS (3) (gC_3 E a (up2 (up2 I (2) (0) (q)) (3) (0) (q)) tr) rfl rfl (Nat.le_of_ble_eq_true rfl) (sC_3_4 E a (up2 (up2 I (2) (0) (q)) (3) (0) (q)) tr (3)) dX5_step_132 (fun H locs hP hD hS => ?_)
                refine lv_aload_n hx hb dX5_step_135 rfl (lv_at hl 0 rfl) ?_
                refine lv_dup hx hb dX5_step_136 rfl ?_
                refine gf_X5_25 hE hP (3) (gC_3 E a (up2 (up2 (up2 I (2) (0) (q)) (3) (0) (q)) (4) (0) (3)) tr) (v := .int (nI (q))) rfl dX5_step_137 ?_
                refine lv_iconst (v := nI (1)) hx hb dX5_step_140 (by decide) ?_
                refine lv_iadd hx hb dX5_step_141 ?_
                refine tp (nI_add _ _) ?_
                refine pf_X5_25 hE hP hD hS (3) (gC_3 E a (up2 (up2 (up2 I (2) (0) (q)) (3) (0) (q)) (4) (0) (3)) tr) rfl rfl (Nat.le_of_ble_eq_true rfl) (sC_3_2 E a (up2 (up2 (up2 I (2) (0) (q)) (3) (0) (q)) (4) (0) (3)) tr (q + 1)) dX5_step_142 (fun H locs hP hD hS => ?_)
                have hw : (up2 (up2 (up2 (up2 I (2) (0) (q)) (3) (0) (q)) (4) (0) (3)) (2) (0) (q + 1)) = (stI I) := by first | (unfold stI st0; rw [he, if_neg (by omega), if_neg (by rw [c78]; decide), if_neg (by rw [c99]; decide), if_pos c124]; done) | (unfold stI st0; rw [he, if_neg (by omega), if_neg (by rw [c78]; decide), if_neg (by rw [c99]; decide), if_neg c124]; done)
                have hP := Eq.mp (congrArg (fun q => va_P E.1 vwCl (WC E a q tr) H) hw) hP
                have hD := Eq.mp (congrArg (fun q => va_D A (WC E a q tr)) hw) hD
                exact ret_v hE rfl hP hD hS dX5_step_145
            · refine lv_aload_n hx hb dX5_step_102 rfl (lv_at hl 0 rfl) ?_
              refine call_V (As := []) (rest := []) hE (ct_X5_stepNumber l E a (up2 (up2 I (2) (0) (q)) (3) (0) (q)) tr hT (Nat.le_refl q) c56 hq) cm_X5_stepNumber (uw mt_L_X5_107 rfl) (gC_3 E a (up2 (up2 I (2) (0) (q)) (3) (0) (q)) tr) rfl rfl hP hD hS hl.1 rfl rfl (Nat.le_of_ble_eq_true rfl) ⟨by decide, by decide⟩ dX5_step_103 (fun H locs hP hD hS => ?_)
              refine W.eq (g2 := F0 m 106 ls []) rfl ?_
              refine lv_goto (tgt := 145) hx hb dX5_step_106 (by decide) ?_
              have hw : (snI (up2 (up2 I (2) (0) (q)) (3) (0) (q))) = (stI I) := by unfold stI st0; rw [he, if_neg (by omega), if_neg (by rw [c78]; decide), if_pos c99]
              have hP := Eq.mp (congrArg (fun q => va_P E.1 vwCl (WC E a q tr) H) hw) hP
              have hD := Eq.mp (congrArg (fun q => va_D A (WC E a q tr)) hw) hD
              exact ret_v hE rfl hP hD hS dX5_step_145
          · refine lv_aload_n hx hb dX5_step_81 rfl (lv_at hl 0 rfl) ?_
            refine call_V (As := []) (rest := []) hE (ct_X5_stepWord l E a (up2 (up2 I (2) (0) (q)) (3) (0) (q)) tr hT (Nat.le_refl q) hq) cm_X5_stepWord (uw mt_L_X5_101 rfl) (gC_3 E a (up2 (up2 I (2) (0) (q)) (3) (0) (q)) tr) rfl rfl hP hD hS hl.1 rfl rfl (Nat.le_of_ble_eq_true rfl) ⟨by decide, by decide⟩ dX5_step_82 (fun H locs hP hD hS => ?_)
            refine W.eq (g2 := F0 m 85 ls []) rfl ?_
            refine lv_goto (tgt := 145) hx hb dX5_step_85 (by decide) ?_
            have hw : (swdI (up2 (up2 I (2) (0) (q)) (3) (0) (q))) = (stI I) := by unfold stI st0; rw [he, if_neg (by omega), if_pos c78]
            have hP := Eq.mp (congrArg (fun q => va_P E.1 vwCl (WC E a q tr) H) hw) hP
            have hD := Eq.mp (congrArg (fun q => va_D A (WC E a q tr)) hw) hD
            exact ret_v hE rfl hP hD hS dX5_step_145
        · refine lv_aload_n hx hb dX5_step_59 rfl (lv_at hl 0 rfl) ?_
          refine lv_iconst (v := nI (0)) hx hb dX5_step_60 (by decide) ?_
          refine pf_X5_36 hE hP hD hS (3) (gC_3 E a (up2 (up2 I (2) (0) (q)) (3) (0) (q)) tr) rfl rfl (Nat.le_of_ble_eq_true rfl) (sC_3_4 E a (up2 (up2 I (2) (0) (q)) (3) (0) (q)) tr (0)) dX5_step_61 (fun H locs hP hD hS => ?_)
          refine lv_goto (tgt := 145) hx hb dX5_step_64 (by decide) ?_
          have hw : (up2 (up2 (up2 I (2) (0) (q)) (3) (0) (q)) (4) (0) (0)) = (stI I) := by unfold stI st0; rw [he, if_pos c56]
          have hP := Eq.mp (congrArg (fun q => va_P E.1 vwCl (WC E a q tr) H) hw) hP
          have hD := Eq.mp (congrArg (fun q => va_D A (WC E a q tr)) hw) hD
          exact ret_v hE rfl hP hD hS dX5_step_145
      · have hin := rgB_in c11
        refine lv_aload_n hx hb dX5_step_14 rfl (lv_at hl 0 rfl) ?_
        refine gf_X5_25 hE hP (3) (gC_3 E a (up2 I (2) (0) (q)) tr) (v := .int (nI (q))) rfl dX5_step_15 ?_
        refine lv_sipush (v := nI (300)) hx hb dX5_step_18 (by decide) ?_
        refine bN_ge (tgt := 37) hx hb (by omega) (by omega) dX5_step_21 (by decide) (fun c21 => absurd c21 (by omega)) (fun c21 => ?_)
        refine lv_aload_n hx hb dX5_step_24 rfl (lv_at hl 0 rfl) ?_
        refine lv_dup hx hb dX5_step_25 rfl ?_
        refine gf_X5_25 hE hP (3) (gC_3 E a (up2 I (2) (0) (q)) tr) (v := .int (nI (q))) rfl dX5_step_26 ?_
        refine lv_iconst (v := nI (1)) hx hb dX5_step_29 (by decide) ?_
        refine lv_iadd hx hb dX5_step_30 ?_
        refine tp (nI_add _ _) ?_
        refine pf_X5_25 hE hP hD hS (3) (gC_3 E a (up2 I (2) (0) (q)) tr) rfl rfl (Nat.le_of_ble_eq_true rfl) (sC_3_2 E a (up2 I (2) (0) (q)) tr (q + 1)) dX5_step_31 (fun H locs hP hD hS => ?_)
        refine lv_goto (tgt := 0) hx hb dX5_step_34 (by decide) ?_
        exact ih0 (q + 1) (by omega) (by omega) (hs.trans (skp_t (by omega) c11)) ls _ _ (lv_sub hl [0] rfl) (by have hw : (up2 (up2 I (2) (0) (q)) (2) (0) (q + 1)) = (up2 I (2) (0) ((q + 1))) := (up22 _ _ _ _ _); rw [hw] at hP; exact hP) (by have hw : (up2 (up2 I (2) (0) (q)) (2) (0) (q + 1)) = (up2 I (2) (0) ((q + 1))) := (up22 _ _ _ _ _); rw [hw] at hD; exact hD) hS
  exact loop0 (_ + 1) (I 2 0) (Nat.lt_succ_self _) (by omega) rfl ls _ _ (lv_sub hl [0] rfl) (by have hw : I = (up2 I (2) (0) ((I 2 0))) := (up2_self _ _ _).symm; rw [hw] at hP; exact hP) (by have hw : I = (up2 I (2) (0) ((I 2 0))) := (up2_self _ _ _).symm; rw [hw] at hD; exact hD) hS

set_option maxHeartbeats 4000000 in
set_option maxRecDepth 100000 in
theorem ct_X5_readsNumber (l : Launch) (E : cE) (a : Nat → Nat) (I : Nat → Nat → Nat) (tr : Int64) (zp0 zp1 : Int32) (hR : RK I) : Ct l E 7 yX5_readsNumber cX5_readsNumber 3 (some .boolean) [.ref (a 2), .int (zp0), .int (zp1)] (WC E a I tr) (some (.int (bB (numB (stI I) zp0 zp1)))) (WC E a (stI I) tr) := by
  refine Ct_of (plainFor_of_name (by decide)) (Nat.le_of_ble_eq_true rfl) ?_
  intro p e s m args below meth c A ls hE hP hD hS hl
  have hE : cEnv p s m args meth c E RX5 cX5_readsNumber 3 (some .boolean) A := hE
  have hx := hE.1
  have hb := hE.2.1
  have hl : lv_has ls 3 [(0, .ref (a 2)), (1, .int (zp0)), (2, .int (zp1))] := hl
  have hP : va_P E.1 vwCl (WC E a I tr) s.heap := hP
  generalize hH : s.heap = H at hP hS ⊢
  have hS : va_S A s.heap H [] := by rw [hH]; exact hS
  clear hH
  have hT := hR.1
  have hT3 := hT.1
  have h20 := hR.2.1
  have h30 := hR.2.2.1
  have h40 := hR.2.2.2.1
  have h50 := hR.2.2.2.2
  refine lv_aload_n hx hb dX5_readsNumber_0 rfl (lv_at hl 0 rfl) ?_
  refine call_V (As := []) (rest := []) hE (ct_X5_step l E a I tr hR) cm_X5_step (uw mt_L_X5_33 rfl) (gC_3 E a I tr) rfl rfl hP hD hS hl.1 rfl rfl (Nat.le_of_ble_eq_true rfl) ⟨by decide, by decide⟩ dX5_readsNumber_1 (fun H locs hP hD hS => ?_)
  refine W.eq (g2 := F0 m 4 ls []) rfl ?_
  have hR1 : RK (stI I) := RK_st hR
  have hR14 := hR1.2.2.2.1
  have hR15 := hR1.2.2.2.2
  refine lv_aload_n hx hb dX5_readsNumber_4 rfl (lv_at hl 0 rfl) ?_
  refine gf_X5_36 hE hP (3) (gC_3 E a (stI I) tr) (v := .int (nI ((stI I) (4) (0)))) rfl dX5_readsNumber_5 ?_
  refine lv_iconst (v := nI (2)) hx hb dX5_readsNumber_8 (by decide) ?_
  refine bN_ne (tgt := 28) hx hb (by omega) (by omega) dX5_readsNumber_9 (by decide) (fun c9 => ?_) (fun c9 => ?_)
  · refine lv_iconst (v := nI (0)) hx hb dX5_readsNumber_28 (by decide) ?_
    exact ret_z hE (r := nI (0)) (by decide) (by rw [show numB (stI I) zp0 zp1 = false by unfold numB; rw [df c9]; rfl]; rfl) hP hD hS dX5_readsNumber_29
  · refine lv_aload_n hx hb dX5_readsNumber_12 rfl (lv_at hl 0 rfl) ?_
    refine gf_X5_59 hE hP (3) (gC_3 E a (stI I) tr) (v := .int (nI ((stI I) (5) (0)))) rfl dX5_readsNumber_13 ?_
    refine lv_iload_n hx hb dX5_readsNumber_16 rfl (lv_at hl 1 rfl) ?_
    refine lv_iload_n hx hb dX5_readsNumber_17 rfl (lv_at hl 2 rfl) ?_
    refine call_SN (As := [.int (nI ((stI I) (5) (0))), .int (zp0), .int (zp1)]) (rest := []) hE (ct_X9_isWithin l E (WC E a (stI I) tr) (nI ((stI I) (5) (0))) ((zp0)) ((zp1))) cm_X9_isWithin (hE.2.2.2.2.2.2.2.2.2.1.2.1) hP hD hS hl.1 rfl rfl (Nat.le_of_ble_eq_true rfl) ⟨by decide, by decide⟩ dX5_readsNumber_18 (fun H locs hP hD hS => ?_)
    refine W.eq (g2 := F0 m 21 ls [.int (bB (wi (nI ((stI I) (5) (0))) ((zp0)) ((zp1))))]) rfl ?_
    refine bB_eq (tgt := 28) hx hb dX5_readsNumber_21 (by decide) (fun c21 => ?_) (fun c21 => ?_)
    · refine lv_iconst (v := nI (0)) hx hb dX5_readsNumber_28 (by decide) ?_
      exact ret_z hE (r := nI (0)) (by decide) (by rw [show numB (stI I) zp0 zp1 = false by unfold numB; rw [dt c9, c21]; rfl]; rfl) hP hD hS dX5_readsNumber_29
    · refine lv_iconst (v := nI (1)) hx hb dX5_readsNumber_24 (by decide) ?_
      refine lv_goto (tgt := 29) hx hb dX5_readsNumber_25 (by decide) ?_
      exact ret_z hE (r := nI (1)) (by decide) (by rw [show numB (stI I) zp0 zp1 = true by unfold numB; rw [dt c9, c21]; rfl]; rfl) hP hD hS dX5_readsNumber_29

set_option maxHeartbeats 4000000 in
set_option maxRecDepth 100000 in
theorem ct_X5_readsSemicolon (l : Launch) (E : cE) (a : Nat → Nat) (I : Nat → Nat → Nat) (tr : Int64) (hR : RK I) : Ct l E 7 yX5_readsSemicolon cX5_readsSemicolon 1 (some .boolean) [.ref (a 2)] (WC E a I tr) (some (.int (bB (decide (stI I 4 0 = 3))))) (WC E a (stI I) tr) := by
  refine Ct_of (plainFor_of_name (by decide)) (Nat.le_of_ble_eq_true rfl) ?_
  intro p e s m args below meth c A ls hE hP hD hS hl
  have hE : cEnv p s m args meth c E RX5 cX5_readsSemicolon 1 (some .boolean) A := hE
  have hx := hE.1
  have hb := hE.2.1
  have hl : lv_has ls 1 [(0, .ref (a 2))] := hl
  have hP : va_P E.1 vwCl (WC E a I tr) s.heap := hP
  generalize hH : s.heap = H at hP hS ⊢
  have hS : va_S A s.heap H [] := by rw [hH]; exact hS
  clear hH
  have hT := hR.1
  have hT3 := hT.1
  have h20 := hR.2.1
  have h30 := hR.2.2.1
  have h40 := hR.2.2.2.1
  have h50 := hR.2.2.2.2
  refine lv_aload_n hx hb dX5_readsSemicolon_0 rfl (lv_at hl 0 rfl) ?_
  refine call_V (As := []) (rest := []) hE (ct_X5_step l E a I tr hR) cm_X5_step (uw mt_L_X5_33 rfl) (gC_3 E a I tr) rfl rfl hP hD hS hl.1 rfl rfl (Nat.le_of_ble_eq_true rfl) ⟨by decide, by decide⟩ dX5_readsSemicolon_1 (fun H locs hP hD hS => ?_)
  refine W.eq (g2 := F0 m 4 ls []) rfl ?_
  have hR1 : RK (stI I) := RK_st hR
  have hR14 := hR1.2.2.2.1
  have hR15 := hR1.2.2.2.2
  refine lv_aload_n hx hb dX5_readsSemicolon_4 rfl (lv_at hl 0 rfl) ?_
  refine gf_X5_36 hE hP (3) (gC_3 E a (stI I) tr) (v := .int (nI ((stI I) (4) (0)))) rfl dX5_readsSemicolon_5 ?_
  refine lv_iconst (v := nI (3)) hx hb dX5_readsSemicolon_8 (by decide) ?_
  refine bN_ne (tgt := 16) hx hb (by omega) (by omega) dX5_readsSemicolon_9 (by decide) (fun c9 => ?_) (fun c9 => ?_)
  · refine lv_iconst (v := nI (0)) hx hb dX5_readsSemicolon_16 (by decide) ?_
    exact ret_z hE (r := nI (0)) (by decide) (by rw [df c9]; rfl) hP hD hS dX5_readsSemicolon_17
  · refine lv_iconst (v := nI (1)) hx hb dX5_readsSemicolon_12 (by decide) ?_
    refine lv_goto (tgt := 17) hx hb dX5_readsSemicolon_13 (by decide) ?_
    exact ret_z hE (r := nI (1)) (by decide) (by rw [dt c9]; rfl) hP hD hS dX5_readsSemicolon_17

set_option maxHeartbeats 4000000 in
set_option maxRecDepth 100000 in
theorem ct_X7_reset (l : Launch) (E : cE) (a : Nat → Nat) (I : Nat → Nat → Nat) (tr : Int64)  : Ct l E 0 yX7_reset cX7_reset 1 none [.ref (a 12)] (WC E a I tr) none (WC E a (up2 (up2 I 26 0 0) 27 0 1) tr) := by
  refine Ct_of (plainFor_of_name (by decide)) (Nat.le_of_ble_eq_true rfl) ?_
  intro p e s m args below meth c A ls hE hP hD hS hl
  have hE : cEnv p s m args meth c E RX7 cX7_reset 1 none A := hE
  have hx := hE.1
  have hb := hE.2.1
  have hl : lv_has ls 1 [(0, .ref (a 12))] := hl
  have hP : va_P E.1 vwCl (WC E a I tr) s.heap := hP
  generalize hH : s.heap = H at hP hS ⊢
  have hS : va_S A s.heap H [] := by rw [hH]; exact hS
  clear hH
  refine lv_aload_n hx hb dX7_reset_0 rfl (lv_at hl 0 rfl) ?_
  refine lv_iconst (v := nI (0)) hx hb dX7_reset_1 (by decide) ?_
  refine pf_X7_22 hE hP hD hS (24) (gC_24 E a I tr) rfl rfl (Nat.le_of_ble_eq_true rfl) (sC_24_1 E a I tr (0)) dX7_reset_2 (fun H locs hP hD hS => ?_)
  refine lv_aload_n hx hb dX7_reset_5 rfl (lv_at hl 0 rfl) ?_
  refine lv_iconst (v := nI (1)) hx hb dX7_reset_6 (by decide) ?_
  refine pf_X7_17 hE hP hD hS (24) (gC_24 E a (up2 I (26) (0) (0)) tr) rfl rfl (Nat.le_of_ble_eq_true rfl) (sC_24_2 E a (up2 I (26) (0) (0)) tr (1)) dX7_reset_7 (fun H locs hP hD hS => ?_)
  exact ret_v hE rfl hP hD hS dX7_reset_10
