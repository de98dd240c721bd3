set_option maxHeartbeats 4000000 in
set_option maxRecDepth 100000 in
theorem ct_X5_stepWord (l : Launch) (E : cE) (a : Nat → Nat) (I : Nat → Nat → Nat) (tr : Int64) (hT : TK I) (h32 : I 3 0 ≤ I 2 0) (h21 : I 2 0 ≤ I 1 0) : Ct l E 5 yX5_stepWord cX5_stepWord 1 none [.ref (a 2)] (WC E a I tr) none (WC E a (swdI I) tr) := by
  refine Ct_of (plainFor_of_name (by decide)) (Nat.le_of_ble_eq_true rfl) ?_
  intro p e s m args below meth c A ls hE hP hD hS hl
  have hE : cEnv p s m args meth c E RX5 cX5_stepWord 1 none A := hE
  have hx := hE.1
  have hb := hE.2.1
  have hl : lv_has ls 1 [(0, .ref (a 2))] := hl
  have hP : va_P E.1 vwCl (WC E a I tr) s.heap := hP
  generalize hH : s.heap = H at hP hS ⊢
  have hS : va_S A s.heap H [] := by rw [hH]; exact hS
  clear hH
  have hT3 := hT.1
  have loop0 : ∀ (fu0 : Nat) (q : Nat), I 1 0 - q < fu0 → (q ≤ I 1 0) → (I 3 0 ≤ q) → (swE I = skp (rgB 97 122 (I 0) (I 1 0)) (I 1 0) q) → ∀ (ls : Array Slot) (H : Heap) (locs : List Loc), lv_has ls 1 [(0, .ref (a 2))] → va_P E.1 vwCl (WC E a (up2 I (2) (0) (q)) tr) H → va_D A (WC E a (up2 I (2) (0) (q)) tr) → va_S A s.heap H locs → W p l e (rmL 5) s m args below meth c H locs 0 0 (RQ E below args s A none (WC E a (swdI I) tr)) (F0 m 0 ls []) := by
    intro fu0
    induction fu0 with
    | zero => intro q h; exact absurd h (Nat.not_lt_zero _)
    | succ fu0 ih0 =>
      intro q hfu0 hq hq2 hs ls H locs hl hP hD hS
      refine lv_aload_n hx hb dX5_stepWord_0 rfl (lv_at hl 0 rfl) ?_
      refine gf_X5_18 hE hP (3) (gC_3 E a (up2 I (2) (0) (q)) tr) (v := .ref (a 1)) rfl dX5_stepWord_1 ?_
      refine lv_aload_n hx hb dX5_stepWord_4 rfl (lv_at hl 0 rfl) ?_
      refine gf_X5_25 hE hP (3) (gC_3 E a (up2 I (2) (0) (q)) tr) (v := .int (nI (q))) rfl dX5_stepWord_5 ?_
      refine call_V (As := [.int (nI (q))]) (rest := []) hE (ct_X6_isLetter l E a (up2 I (2) (0) (q)) tr (q) hT (by omega)) cm_X6_isLetter (uw mt_L_X5_98 rfl) (gC_1 E a (up2 I (2) (0) (q)) tr) rfl rfl hP hD hS hl.1 rfl rfl (Nat.le_of_ble_eq_true rfl) ⟨by decide, by decide⟩ dX5_stepWord_8 (fun H locs hP hD hS => ?_)
      refine W.eq (g2 := F0 m 11 ls [.int (bB (rgB 97 122 (I 0) (I 1 0) (q)))]) rfl ?_
      refine bB_eq (tgt := 37) hx hb dX5_stepWord_11 (by decide) (fun c11 => ?_) (fun c11 => ?_)
      · have he : swE I = q := hs.trans (skp_f (Or.inr c11))
        refine lv_aload_n hx hb dX5_stepWord_37 rfl (lv_at hl 0 rfl) ?_
        refine gf_X5_18 hE hP (3) (gC_3 E a (up2 I (2) (0) (q)) tr) (v := .ref (a 1)) rfl dX5_stepWord_38 ?_
        refine va_ldcS hx hb hE.2.2.2.2.1 (hE.2.2.2.2.2.2.2.2.2.2.1.1) dX5_stepWord_41 ?_
        refine lv_aload_n hx hb dX5_stepWord_43 rfl (lv_at hl 0 rfl) ?_
        refine gf_X5_49 hE hP (3) (gC_3 E a (up2 I (2) (0) (q)) tr) (v := .int (nI (I (3) (0)))) rfl dX5_stepWord_44 ?_
        refine lv_aload_n hx hb dX5_stepWord_47 rfl (lv_at hl 0 rfl) ?_
        refine gf_X5_25 hE hP (3) (gC_3 E a (up2 I (2) (0) (q)) tr) (v := .int (nI (q))) rfl dX5_stepWord_48 ?_
        refine call_V (As := [.ref (E.2.2.1 0), .int (nI (I (3) (0))), .int (nI (q))]) (rest := []) hE (ct_X6_has l E a (up2 I (2) (0) (q)) tr 0 (I (3) (0)) (q) hT (by decide) (by omega) (show q ≤ I 1 0 by omega)) cm_X6_has (uw mt_L_X5_116 rfl) (gC_1 E a (up2 I (2) (0) (q)) tr) rfl rfl hP hD hS hl.1 rfl rfl (Nat.le_of_ble_eq_true rfl) ⟨by decide, by decide⟩ dX5_stepWord_51 (fun H locs hP hD hS => ?_)
        refine W.eq (g2 := F0 m 54 ls [.int (bB (hsB 0 (I 0) (I (3) (0)) (q)))]) rfl ?_
        refine bB_eq (tgt := 65) hx hb dX5_stepWord_54 (by decide) (fun c54 => ?_) (fun c54 => ?_)
        · refine lv_aload_n hx hb dX5_stepWord_65 rfl (lv_at hl 0 rfl) ?_
          refine gf_X5_18 hE hP (3) (gC_3 E a (up2 I (2) (0) (q)) tr) (v := .ref (a 1)) rfl dX5_stepWord_66 ?_
          refine va_ldcS hx hb hE.2.2.2.2.1 (hE.2.2.2.2.2.2.2.2.2.2.1.2.1) dX5_stepWord_69 ?_
          refine lv_aload_n hx hb dX5_stepWord_71 rfl (lv_at hl 0 rfl) ?_
          refine gf_X5_49 hE hP (3) (gC_3 E a (up2 I (2) (0) (q)) tr) (v := .int (nI (I (3) (0)))) rfl dX5_stepWord_72 ?_
          refine lv_aload_n hx hb dX5_stepWord_75 rfl (lv_at hl 0 rfl) ?_
          refine gf_X5_25 hE hP (3) (gC_3 E a (up2 I (2) (0) (q)) tr) (v := .int (nI (q))) rfl dX5_stepWord_76 ?_
          refine call_V (As := [.ref (E.2.2.1 1), .int (nI (I (3) (0))), .int (nI (q))]) (rest := []) hE (ct_X6_has l E a (up2 I (2) (0) (q)) tr 1 (I (3) (0)) (q) hT (by decide) (by omega) (show q ≤ I 1 0 by omega)) cm_X6_has (uw mt_L_X5_116 rfl) (gC_1 E a (up2 I (2) (0) (q)) tr) rfl rfl hP hD hS hl.1 rfl rfl (Nat.le_of_ble_eq_true rfl) ⟨by decide, by decide⟩ dX5_stepWord_79 (fun H locs hP hD hS => ?_)
          refine W.eq (g2 := F0 m 82 ls [.int (bB (hsB 1 (I 0) (I (3) (0)) (q)))]) rfl ?_
          refine bB_eq (tgt := 93) hx hb dX5_stepWord_82 (by decide) (fun c82 => ?_) (fun c82 => ?_)
          · refine lv_aload_n hx hb dX5_stepWord_93 rfl (lv_at hl 0 rfl) ?_
            refine gf_X5_18 hE hP (3) (gC_3 E a (up2 I (2) (0) (q)) tr) (v := .ref (a 1)) rfl dX5_stepWord_94 ?_
            refine va_ldcS hx hb hE.2.2.2.2.1 (hE.2.2.2.2.2.2.2.2.2.2.1.2.2) dX5_stepWord_97 ?_
            refine lv_aload_n hx hb dX5_stepWord_99 rfl (lv_at hl 0 rfl) ?_
            refine gf_X5_49 hE hP (3) (gC_3 E a (up2 I (2) (0) (q)) tr) (v := .int (nI (I (3) (0)))) rfl dX5_stepWord_100 ?_
            refine lv_aload_n hx hb dX5_stepWord_103 rfl (lv_at hl 0 rfl) ?_
            refine gf_X5_25 hE hP (3) (gC_3 E a (up2 I (2) (0) (q)) tr) (v := .int (nI (q))) rfl dX5_stepWord_104 ?_
            refine call_V (As := [.ref (E.2.2.1 2), .int (nI (I (3) (0))), .int (nI (q))]) (rest := []) hE (ct_X6_has l E a (up2 I (2) (0) (q)) tr 2 (I (3) (0)) (q) hT (by decide) (by omega) (show q ≤ I 1 0 by omega)) cm_X6_has (uw mt_L_X5_116 rfl) (gC_1 E a (up2 I (2) (0) (q)) tr) rfl rfl hP hD hS hl.1 rfl rfl (Nat.le_of_ble_eq_true rfl) ⟨by decide, by decide⟩ dX5_stepWord_107 (fun H locs hP hD hS => ?_)
            refine W.eq (g2 := F0 m 110 ls [.int (bB (hsB 2 (I 0) (I (3) (0)) (q)))]) rfl ?_
            refine bB_eq (tgt := 122) hx hb dX5_stepWord_110 (by decide) (fun c110 => ?_) (fun c110 => ?_)
            · refine lv_aload_n hx hb dX5_stepWord_122 rfl (lv_at hl 0 rfl) ?_
              refine lv_iconst (v := nI (1)) hx hb dX5_stepWord_123 (by decide) ?_
              refine pf_X5_36 hE hP hD hS (3) (gC_3 E a (up2 I (2) (0) (q)) tr) rfl rfl (Nat.le_of_ble_eq_true rfl) (sC_3_4 E a (up2 I (2) (0) (q)) tr (1)) dX5_stepWord_124 (fun H locs hP hD hS => ?_)
              have hw : (up2 (up2 I (2) (0) (q)) (4) (0) (1)) = (swdI I) := by first | (unfold swdI wdK; rw [he, if_pos c54]; done) | (unfold swdI wdK; rw [he, if_neg (by rw [c54]; decide), if_pos c82]; done) | (unfold swdI wdK; rw [he, if_neg (by rw [c54]; decide), if_neg (by rw [c82]; decide), if_pos c110]; done) | (unfold swdI wdK; rw [he, if_neg (by rw [c54]; decide), if_neg (by rw [c82]; decide), if_neg (by rw [c110]; decide)]; done)
              have hP := Eq.mp (congrArg (fun q => va_P E.1 vwCl (WC E a q tr) H) hw) hP
              have hD := Eq.mp (congrArg (fun q => va_D A (WC E a q tr)) hw) hD
              exact ret_v hE rfl hP hD hS dX5_stepWord_127
            · refine lv_aload_n hx hb dX5_stepWord_113 rfl (lv_at hl 0 rfl) ?_
              refine lv_bipush (v := nI (6)) hx hb dX5_stepWord_114 (by decide) ?_
              refine pf_X5_36 hE hP hD hS (3) (gC_3 E a (up2 I (2) (0) (q)) tr) rfl rfl (Nat.le_of_ble_eq_true rfl) (sC_3_4 E a (up2 I (2) (0) (q)) tr (6)) dX5_stepWord_116 (fun H locs hP hD hS => ?_)
              refine lv_goto (tgt := 127) hx hb dX5_stepWord_119 (by decide) ?_
              have hw : (up2 (up2 I (2) (0) (q)) (4) (0) (6)) = (swdI I) := by first | (unfold swdI wdK; rw [he, if_pos c54]; done) | (unfold swdI wdK; rw [he, if_neg (by rw [c54]; decide), if_pos c82]; done) | (unfold swdI wdK; rw [he, if_neg (by rw [c54]; decide), if_neg (by rw [c82]; decide), if_pos c110]; done) | (unfold swdI wdK; rw [he, if_neg (by rw [c54]; decide), if_neg (by rw [c82]; decide), if_neg (by rw [c110]; decide)]; done)
              have hP := Eq.mp (congrArg (fun q => va_P E.1 vwCl (WC E a q tr) H) hw) hP
              have hD := Eq.mp (congrArg (fun q => va_D A (WC E a q tr)) hw) hD
              exact ret_v hE rfl hP hD hS dX5_stepWord_127
          · refine lv_aload_n hx hb dX5_stepWord_85 rfl (lv_at hl 0 rfl) ?_
            refine lv_iconst (v := nI (5)) hx hb dX5_stepWord_86 (by decide) ?_
            refine pf_X5_36 hE hP hD hS (3) (gC_3 E a (up2 I (2) (0) (q)) tr) rfl rfl (Nat.le_of_ble_eq_true rfl) (sC_3_4 E a (up2 I (2) (0) (q)) tr (5)) dX5_stepWord_87 (fun H locs hP hD hS => ?_)
            refine lv_goto (tgt := 127) hx hb dX5_stepWord_90 (by decide) ?_
            have hw : (up2 (up2 I (2) (0) (q)) (4) (0) (5)) = (swdI I) := by first | (unfold swdI wdK; rw [he, if_pos c54]; done) | (unfold swdI wdK; rw [he, if_neg (by rw [c54]; decide), if_pos c82]; done)
            have hP := Eq.mp (congrArg (fun q => va_P E.1 vwCl (WC E a q tr) H) hw) hP
            have hD := Eq.mp (congrArg (fun q => va_D A (WC E a q tr)) hw) hD
            exact ret_v hE rfl hP hD hS dX5_stepWord_127
        · refine lv_aload_n hx hb dX5_stepWord_57 rfl (lv_at hl 0 rfl) ?_
          refine lv_iconst (v := nI (4)) hx hb dX5_stepWord_58 (by decide) ?_
          refine pf_X5_36 hE hP hD hS (3) (gC_3 E a (up2 I (2) (0) (q)) tr) rfl rfl (Nat.le_of_ble_eq_true rfl) (sC_3_4 E a (up2 I (2) (0) (q)) tr (4)) dX5_stepWord_59 (fun H locs hP hD hS => ?_)
          refine lv_goto (tgt := 127) hx hb dX5_stepWord_62 (by decide) ?_
          have hw : (up2 (up2 I (2) (0) (q)) (4) (0) (4)) = (swdI I) := by first | (unfold swdI wdK; rw [he, if_pos c54]; done)
          have hP := Eq.mp (congrArg (fun q => va_P E.1 vwCl (WC E a q tr) H) hw) hP
          have hD := Eq.mp (congrArg (fun q => va_D A (WC E a q tr)) hw) hD
          exact ret_v hE rfl hP hD hS dX5_stepWord_127
      · have hin := rgB_in c11
        refine lv_aload_n hx hb dX5_stepWord_14 rfl (lv_at hl 0 rfl) ?_
        refine gf_X5_25 hE hP (3) (gC_3 E a (up2 I (2) (0) (q)) tr) (v := .int (nI (q))) rfl dX5_stepWord_15 ?_
        refine lv_sipush (v := nI (300)) hx hb dX5_stepWord_18 (by decide) ?_
        refine bN_ge (tgt := 37) hx hb (by omega) (by omega) dX5_stepWord_21 (by decide) (fun c21 => absurd c21 (by omega)) (fun c21 => ?_)
        refine lv_aload_n hx hb dX5_stepWord_24 rfl (lv_at hl 0 rfl) ?_
        refine lv_dup hx hb dX5_stepWord_25 rfl ?_
        refine gf_X5_25 hE hP (3) (gC_3 E a (up2 I (2) (0) (q)) tr) (v := .int (nI (q))) rfl dX5_stepWord_26 ?_
        refine lv_iconst (v := nI (1)) hx hb dX5_stepWord_29 (by decide) ?_
        refine lv_iadd hx hb dX5_stepWord_30 ?_
        refine tp (nI_add _ _) ?_
        refine pf_X5_25 hE hP hD hS (3) (gC_3 E a (up2 I (2) (0) (q)) tr) rfl rfl (Nat.le_of_ble_eq_true rfl) (sC_3_2 E a (up2 I (2) (0) (q)) tr (q + 1)) dX5_stepWord_31 (fun H locs hP hD hS => ?_)
        refine lv_goto (tgt := 0) hx hb dX5_stepWord_34 (by decide) ?_
        exact ih0 (q + 1) (by omega) (by omega) (by omega) (hs.trans (skp_t (by omega) c11)) ls _ _ (lv_sub hl [0] rfl) (by have hw : (up2 (up2 I (2) (0) (q)) (2) (0) (q + 1)) = (up2 I (2) (0) ((q + 1))) := (up22 _ _ _ _ _); rw [hw] at hP; exact hP) (by have hw : (up2 (up2 I (2) (0) (q)) (2) (0) (q + 1)) = (up2 I (2) (0) ((q + 1))) := (up22 _ _ _ _ _); rw [hw] at hD; exact hD) hS
  exact loop0 (_ + 1) (I 2 0) (Nat.lt_succ_self _) (by omega) (by omega) rfl ls _ _ (lv_sub hl [0] rfl) (by have hw : I = (up2 I (2) (0) ((I 2 0))) := (up2_self _ _ _).symm; rw [hw] at hP; exact hP) (by have hw : I = (up2 I (2) (0) ((I 2 0))) := (up2_self _ _ _).symm; rw [hw] at hD; exact hD) hS

set_option maxHeartbeats 4000000 in
set_option maxRecDepth 100000 in
theorem ct_X5_stepNumber (l : Launch) (E : cE) (a : Nat → Nat) (I : Nat → Nat → Nat) (tr : Int64) (hT : TK I) (h32 : I 3 0 ≤ I 2 0) (h31 : I 3 0 < I 1 0) (h21 : I 2 0 ≤ I 1 0) : Ct l E 2 yX5_stepNumber cX5_stepNumber 3 none [.ref (a 2)] (WC E a I tr) none (WC E a (snI I) tr) := by
  refine Ct_of (plainFor_of_name (by decide)) (Nat.le_of_ble_eq_true rfl) ?_
  intro p e s m args below meth c A ls hE hP hD hS hl
  have hE : cEnv p s m args meth c E RX5 cX5_stepNumber 3 none A := hE
  have hx := hE.1
  have hb := hE.2.1
  have hl : lv_has ls 3 [(0, .ref (a 2))] := hl
  have hP : va_P E.1 vwCl (WC E a I tr) s.heap := hP
  generalize hH : s.heap = H at hP hS ⊢
  have hS : va_S A s.heap H [] := by rw [hH]; exact hS
  clear hH
  have hT3 := hT.1
  have hb0 := hT.2 _ h31
  refine lv_aload_n hx hb dX5_stepNumber_0 rfl (lv_at hl 0 rfl) ?_
  refine gf_X5_18 hE hP (3) (gC_3 E a I tr) (v := .ref (a 1)) rfl dX5_stepNumber_1 ?_
  refine gf_X5_110 hE hP (1) (gC_1 E a I tr) (v := .ref (a 10)) rfl dX5_stepNumber_4 ?_
  refine lv_aload_n hx hb dX5_stepNumber_7 rfl (lv_at hl 0 rfl) ?_
  refine gf_X5_49 hE hP (3) (gC_3 E a I tr) (v := .int (nI (I (3) (0)))) rfl dX5_stepNumber_8 ?_
  refine ald_i hE hP (2) (gC_2 E a I tr) (by omega) (by decide) (r := nI (I (0) (I (3) (0)))) rfl dX5_stepNumber_11 ?_
  refine lv_bipush (v := nI (48)) hx hb dX5_stepNumber_12 (by decide) ?_
  refine bN_ne (tgt := 21) hx hb (by omega) (by omega) dX5_stepNumber_14 (by decide) (fun c14 => ?_) (fun c14 => ?_)
  · refine lv_iconst (v := nI (0)) hx hb dX5_stepNumber_21 (by decide) ?_
    refine lv_istore_n (lv' := [(1, .int (nI (0))), (0, .ref (a 2))]) hx hb dX5_stepNumber_22 rfl hl (by decide) rfl (fun ls hl => ?_)
    refine lv_aload_n hx hb dX5_stepNumber_23 rfl (lv_at hl 1 rfl) ?_
    refine lv_iconst (v := nI (0)) hx hb dX5_stepNumber_24 (by decide) ?_
    refine pf_X5_59 hE hP hD hS (3) (gC_3 E a I tr) rfl rfl (Nat.le_of_ble_eq_true rfl) (sC_3_5 E a I tr (0)) dX5_stepNumber_25 (fun H locs hP hD hS => ?_)
    have loop28 : ∀ (fu28 : Nat) (q : Nat) (w : Nat) (z : Nat), I 1 0 - q < fu28 → (q ≤ I 1 0) → (I 3 0 ≤ q) → (snE I = skp (rgB 48 57 (I 0) (I 1 0)) (I 1 0) q) → (snV I = vaP (rgB 48 57 (I 0) (I 1 0)) (I 0) (I 1 0) q w) → (w ≤ 100) → ((z = 1 ∧ I 0 (I 3 0) = 48) ∨ (z = 0 ∧ ¬ I 0 (I 3 0) = 48)) → ∀ (ls : Array Slot) (H : Heap) (locs : List Loc), lv_has ls 3 [(0, .ref (a 2)), (1, .int (nI (z)))] → va_P E.1 vwCl (WC E a (up2 (up2 I (2) (0) (q)) (5) (0) (w)) tr) H → va_D A (WC E a (up2 (up2 I (2) (0) (q)) (5) (0) (w)) tr) → va_S A s.heap H locs → W p l e (rmL 2) s m args below meth c H locs 0 0 (RQ E below args s A none (WC E a (snI I) tr)) (F0 m 28 ls []) := by
      intro fu28
      induction fu28 with
      | zero => intro q w z h; exact absurd h (Nat.not_lt_zero _)
      | succ fu28 ih28 =>
        intro q w z hfu28 hq hq2 hs hw hw1 hz ls H locs hl hP hD hS
        refine lv_aload_n hx hb dX5_stepNumber_28 rfl (lv_at hl 0 rfl) ?_
        refine gf_X5_18 hE hP (3) (gC_3 E a (up2 (up2 I (2) (0) (q)) (5) (0) (w)) tr) (v := .ref (a 1)) rfl dX5_stepNumber_29 ?_
        refine lv_aload_n hx hb dX5_stepNumber_32 rfl (lv_at hl 0 rfl) ?_
        refine gf_X5_25 hE hP (3) (gC_3 E a (up2 (up2 I (2) (0) (q)) (5) (0) (w)) tr) (v := .int (nI (q))) rfl dX5_stepNumber_33 ?_
        refine call_V (As := [.int (nI (q))]) (rest := []) hE (ct_X6_isDigit l E a (up2 (up2 I (2) (0) (q)) (5) (0) (w)) tr (q) hT (by omega)) cm_X6_isDigit (uw mt_L_X5_104 rfl) (gC_1 E a (up2 (up2 I (2) (0) (q)) (5) (0) (w)) tr) rfl rfl hP hD hS hl.1 rfl rfl (Nat.le_of_ble_eq_true rfl) ⟨by decide, by decide⟩ dX5_stepNumber_36 (fun H locs hP hD hS => ?_)
        refine W.eq (g2 := F0 m 39 ls [.int (bB (rgB 48 57 (I 0) (I 1 0) (q)))]) rfl ?_
        refine bB_eq (tgt := 97) hx hb dX5_stepNumber_39 (by decide) (fun c39 => ?_) (fun c39 => ?_)
        · have he : snE I = q := hs.trans (skp_f (Or.inr c39))
          have hw2 : snV I = w := hw.trans (vaP_f (Or.inr c39))
          refine lv_aload_n hx hb dX5_stepNumber_97 rfl (lv_at hl 0 rfl) ?_
          refine gf_X5_25 hE hP (3) (gC_3 E a (up2 (up2 I (2) (0) (q)) (5) (0) (w)) tr) (v := .int (nI (q))) rfl dX5_stepNumber_98 ?_
          refine lv_aload_n hx hb dX5_stepNumber_101 rfl (lv_at hl 0 rfl) ?_
          refine gf_X5_49 hE hP (3) (gC_3 E a (up2 (up2 I (2) (0) (q)) (5) (0) (w)) tr) (v := .int (nI (I (3) (0)))) rfl dX5_stepNumber_102 ?_
          refine lv_isub hx hb dX5_stepNumber_105 ?_
          refine tp (pk_sub (by omega)) ?_
          refine lv_iconst (v := nI (1)) hx hb dX5_stepNumber_106 (by decide) ?_
          refine bN_le (tgt := 114) hx hb (by omega) (by omega) dX5_stepNumber_107 (by decide) (fun c107 => ?_) (fun c107 => ?_)
          · refine lv_iconst (v := nI (0)) hx hb dX5_stepNumber_114 (by decide) ?_
            refine lv_istore_n (lv' := [(2, .int (nI (0))), (0, .ref (a 2)), (1, .int (nI (z)))]) hx hb dX5_stepNumber_115 rfl hl (by decide) rfl (fun ls hl => ?_)
            refine lv_aload_n hx hb dX5_stepNumber_116 rfl (lv_at hl 1 rfl) ?_
            refine lv_aload_n hx hb dX5_stepNumber_117 rfl (lv_at hl 1 rfl) ?_
            refine gf_X5_59 hE hP (3) (gC_3 E a (up2 (up2 I (2) (0) (q)) (5) (0) (w)) tr) (v := .int (nI (w))) rfl dX5_stepNumber_118 ?_
            refine lv_bipush (v := nI (99)) hx hb dX5_stepNumber_121 (by decide) ?_
            refine bN_gt (tgt := 134) hx hb (by omega) (by omega) dX5_stepNumber_123 (by decide) (fun c123 => ?_) (fun c123 => ?_)
            · refine lv_iconst (v := nI (1)) hx hb dX5_stepNumber_134 (by decide) ?_
              refine lv_goto (tgt := 139) hx hb dX5_stepNumber_135 (by decide) ?_
              refine pf_X5_36 hE hP hD hS (3) (gC_3 E a (up2 (up2 I (2) (0) (q)) (5) (0) (w)) tr) rfl rfl (Nat.le_of_ble_eq_true rfl) (sC_3_4 E a (up2 (up2 I (2) (0) (q)) (5) (0) (w)) tr (1)) dX5_stepNumber_139 (fun H locs hP hD hS => ?_)
              have hw : (up2 (up2 (up2 I (2) (0) (q)) (5) (0) (w)) (4) (0) (1)) = (snI I) := by first | (unfold snI nmK; rw [he, hw2, if_pos (Or.inl c123)]; done) | (unfold snI nmK; rw [he, hw2, if_pos (Or.inr ⟨by omega, by omega⟩)]; done) | (unfold snI nmK; rw [he, hw2, if_neg (fun z9 => by omega)]; done)
              have hP := Eq.mp (congrArg (fun q => va_P E.1 vwCl (WC E a q tr) H) hw) hP
              have hD := Eq.mp (congrArg (fun q => va_D A (WC E a q tr)) hw) hD
              exact ret_v hE rfl hP hD hS dX5_stepNumber_142
            · refine lv_iload_n hx hb dX5_stepNumber_126 rfl (lv_at hl 2 rfl) ?_
              refine bZ_eq (tgt := 138) hx hb (by omega) dX5_stepNumber_127 (by decide) (fun c127 => ?_) (fun c127 => ?_)
              · refine lv_iconst (v := nI (2)) hx hb dX5_stepNumber_138 (by decide) ?_
                refine pf_X5_36 hE hP hD hS (3) (gC_3 E a (up2 (up2 I (2) (0) (q)) (5) (0) (w)) tr) rfl rfl (Nat.le_of_ble_eq_true rfl) (sC_3_4 E a (up2 (up2 I (2) (0) (q)) (5) (0) (w)) tr (2)) dX5_stepNumber_139 (fun H locs hP hD hS => ?_)
                have hw : (up2 (up2 (up2 I (2) (0) (q)) (5) (0) (w)) (4) (0) (2)) = (snI I) := by first | (unfold snI nmK; rw [he, hw2, if_pos (Or.inl c123)]; done) | (unfold snI nmK; rw [he, hw2, if_pos (Or.inr ⟨by omega, by omega⟩)]; done) | (unfold snI nmK; rw [he, hw2, if_neg (fun z9 => by omega)]; done)
                have hP := Eq.mp (congrArg (fun q => va_P E.1 vwCl (WC E a q tr) H) hw) hP
                have hD := Eq.mp (congrArg (fun q => va_D A (WC E a q tr)) hw) hD
                exact ret_v hE rfl hP hD hS dX5_stepNumber_142
              · refine lv_iload_n hx hb dX5_stepNumber_130 rfl (lv_at hl 0 rfl) ?_
                refine bZ_eq (tgt := 138) hx hb (by omega) dX5_stepNumber_131 (by decide) (fun c131 => ?_) (fun c131 => absurd c131 (by omega))
                refine lv_iconst (v := nI (2)) hx hb dX5_stepNumber_138 (by decide) ?_
                refine pf_X5_36 hE hP hD hS (3) (gC_3 E a (up2 (up2 I (2) (0) (q)) (5) (0) (w)) tr) rfl rfl (Nat.le_of_ble_eq_true rfl) (sC_3_4 E a (up2 (up2 I (2) (0) (q)) (5) (0) (w)) tr (2)) dX5_stepNumber_139 (fun H locs hP hD hS => ?_)
                have hw : (up2 (up2 (up2 I (2) (0) (q)) (5) (0) (w)) (4) (0) (2)) = (snI I) := by first | (unfold snI nmK; rw [he, hw2, if_pos (Or.inl c123)]; done) | (unfold snI nmK; rw [he, hw2, if_pos (Or.inr ⟨by omega, by omega⟩)]; done) | (unfold snI nmK; rw [he, hw2, if_neg (fun z9 => by omega)]; done)
                have hP := Eq.mp (congrArg (fun q => va_P E.1 vwCl (WC E a q tr) H) hw) hP
                have hD := Eq.mp (congrArg (fun q => va_D A (WC E a q tr)) hw) hD
                exact ret_v hE rfl hP hD hS dX5_stepNumber_142
          · refine lv_iconst (v := nI (1)) hx hb dX5_stepNumber_110 (by decide) ?_
            refine lv_goto (tgt := 115) hx hb dX5_stepNumber_111 (by decide) ?_
            refine lv_istore_n (lv' := [(2, .int (nI (1))), (0, .ref (a 2)), (1, .int (nI (z)))]) hx hb dX5_stepNumber_115 rfl hl (by decide) rfl (fun ls hl => ?_)
            refine lv_aload_n hx hb dX5_stepNumber_116 rfl (lv_at hl 1 rfl) ?_
            refine lv_aload_n hx hb dX5_stepNumber_117 rfl (lv_at hl 1 rfl) ?_
            refine gf_X5_59 hE hP (3) (gC_3 E a (up2 (up2 I (2) (0) (q)) (5) (0) (w)) tr) (v := .int (nI (w))) rfl dX5_stepNumber_118 ?_
            refine lv_bipush (v := nI (99)) hx hb dX5_stepNumber_121 (by decide) ?_
            refine bN_gt (tgt := 134) hx hb (by omega) (by omega) dX5_stepNumber_123 (by decide) (fun c123 => ?_) (fun c123 => ?_)
            · refine lv_iconst (v := nI (1)) hx hb dX5_stepNumber_134 (by decide) ?_
              refine lv_goto (tgt := 139) hx hb dX5_stepNumber_135 (by decide) ?_
              refine pf_X5_36 hE hP hD hS (3) (gC_3 E a (up2 (up2 I (2) (0) (q)) (5) (0) (w)) tr) rfl rfl (Nat.le_of_ble_eq_true rfl) (sC_3_4 E a (up2 (up2 I (2) (0) (q)) (5) (0) (w)) tr (1)) dX5_stepNumber_139 (fun H locs hP hD hS => ?_)
              have hw : (up2 (up2 (up2 I (2) (0) (q)) (5) (0) (w)) (4) (0) (1)) = (snI I) := by first | (unfold snI nmK; rw [he, hw2, if_pos (Or.inl c123)]; done) | (unfold snI nmK; rw [he, hw2, if_pos (Or.inr ⟨by omega, by omega⟩)]; done) | (unfold snI nmK; rw [he, hw2, if_neg (fun z9 => by omega)]; done)
              have hP := Eq.mp (congrArg (fun q => va_P E.1 vwCl (WC E a q tr) H) hw) hP
              have hD := Eq.mp (congrArg (fun q => va_D A (WC E a q tr)) hw) hD
              exact ret_v hE rfl hP hD hS dX5_stepNumber_142
            · refine lv_iload_n hx hb dX5_stepNumber_126 rfl (lv_at hl 2 rfl) ?_
              refine bZ_eq (tgt := 138) hx hb (by omega) dX5_stepNumber_127 (by decide) (fun c127 => ?_) (fun c127 => ?_)
              · refine lv_iconst (v := nI (2)) hx hb dX5_stepNumber_138 (by decide) ?_
                refine pf_X5_36 hE hP hD hS (3) (gC_3 E a (up2 (up2 I (2) (0) (q)) (5) (0) (w)) tr) rfl rfl (Nat.le_of_ble_eq_true rfl) (sC_3_4 E a (up2 (up2 I (2) (0) (q)) (5) (0) (w)) tr (2)) dX5_stepNumber_139 (fun H locs hP hD hS => ?_)
                have hw : (up2 (up2 (up2 I (2) (0) (q)) (5) (0) (w)) (4) (0) (2)) = (snI I) := by first | (unfold snI nmK; rw [he, hw2, if_pos (Or.inl c123)]; done) | (unfold snI nmK; rw [he, hw2, if_pos (Or.inr ⟨by omega, by omega⟩)]; done) | (unfold snI nmK; rw [he, hw2, if_neg (fun z9 => by omega)]; done)
                have hP := Eq.mp (congrArg (fun q => va_P E.1 vwCl (WC E a q tr) H) hw) hP
                have hD := Eq.mp (congrArg (fun q => va_D A (WC E a q tr)) hw) hD
                exact ret_v hE rfl hP hD hS dX5_stepNumber_142
              · refine lv_iload_n hx hb dX5_stepNumber_130 rfl (lv_at hl 0 rfl) ?_
                refine bZ_eq (tgt := 138) hx hb (by omega) dX5_stepNumber_131 (by decide) (fun c131 => absurd c131 (by omega)) (fun c131 => ?_)
                refine lv_iconst (v := nI (1)) hx hb dX5_stepNumber_134 (by decide) ?_
                refine lv_goto (tgt := 139) hx hb dX5_stepNumber_135 (by decide) ?_
                refine pf_X5_36 hE hP hD hS (3) (gC_3 E a (up2 (up2 I (2) (0) (q)) (5) (0) (w)) tr) rfl rfl (Nat.le_of_ble_eq_true rfl) (sC_3_4 E a (up2 (up2 I (2) (0) (q)) (5) (0) (w)) tr (1)) dX5_stepNumber_139 (fun H locs hP hD hS => ?_)
                have hw : (up2 (up2 (up2 I (2) (0) (q)) (5) (0) (w)) (4) (0) (1)) = (snI I) := by first | (unfold snI nmK; rw [he, hw2, if_pos (Or.inl c123)]; done) | (unfold snI nmK; rw [he, hw2, if_pos (Or.inr ⟨by omega, by omega⟩)]; done) | (unfold snI nmK; rw [he, hw2, if_neg (fun z9 => by omega)]; done)
                have hP := Eq.mp (congrArg (fun q => va_P E.1 vwCl (WC E a q tr) H) hw) hP
                have hD := Eq.mp (congrArg (fun q => va_D A (WC E a q tr)) hw) hD
                exact ret_v hE rfl hP hD hS dX5_stepNumber_142
        · have hin := rgB_in c39
          have hbq := hT.2 q hin.1
          refine lv_aload_n hx hb dX5_stepNumber_42 rfl (lv_at hl 0 rfl) ?_
          refine gf_X5_25 hE hP (3) (gC_3 E a (up2 (up2 I (2) (0) (q)) (5) (0) (w)) tr) (v := .int (nI (q))) rfl dX5_stepNumber_43 ?_
          refine lv_sipush (v := nI (300)) hx hb dX5_stepNumber_46 (by decide) ?_
          refine bN_ge (tgt := 97) hx hb (by omega) (by omega) dX5_stepNumber_49 (by decide) (fun c49 => absurd c49 (by omega)) (fun c49 => ?_)
          refine lv_aload_n hx hb dX5_stepNumber_52 rfl (lv_at hl 0 rfl) ?_
          refine lv_aload_n hx hb dX5_stepNumber_53 rfl (lv_at hl 0 rfl) ?_
          refine gf_X5_59 hE hP (3) (gC_3 E a (up2 (up2 I (2) (0) (q)) (5) (0) (w)) tr) (v := .int (nI (w))) rfl dX5_stepNumber_54 ?_
          refine lv_bipush (v := nI (10)) hx hb dX5_stepNumber_57 (by decide) ?_
          refine lv_imul hx hb dX5_stepNumber_59 ?_
          refine tp (pk_mul _ _) ?_
          refine lv_aload_n hx hb dX5_stepNumber_60 rfl (lv_at hl 0 rfl) ?_
          refine gf_X5_18 hE hP (3) (gC_3 E a (up2 (up2 I (2) (0) (q)) (5) (0) (w)) tr) (v := .ref (a 1)) rfl dX5_stepNumber_61 ?_
          refine gf_X5_110 hE hP (1) (gC_1 E a (up2 (up2 I (2) (0) (q)) (5) (0) (w)) tr) (v := .ref (a 10)) rfl dX5_stepNumber_64 ?_
          refine lv_aload_n hx hb dX5_stepNumber_67 rfl (lv_at hl 0 rfl) ?_
          refine gf_X5_25 hE hP (3) (gC_3 E a (up2 (up2 I (2) (0) (q)) (5) (0) (w)) tr) (v := .int (nI (q))) rfl dX5_stepNumber_68 ?_
          refine ald_i hE hP (2) (gC_2 E a (up2 (up2 I (2) (0) (q)) (5) (0) (w)) tr) (by omega) (by decide) (r := nI (I (0) (q))) rfl dX5_stepNumber_71 ?_
          refine lv_iadd hx hb dX5_stepNumber_72 ?_
          refine tp (nI_add _ _) ?_
          refine lv_bipush (v := nI (48)) hx hb dX5_stepNumber_73 (by decide) ?_
          refine lv_isub hx hb dX5_stepNumber_75 ?_
          refine tp (pk_sub (by omega)) ?_
          refine lv_bipush (v := nI (100)) hx hb dX5_stepNumber_76 (by decide) ?_
          refine va_mmin hx hb (hE.2.2.2.2.2.1.trans hl.1.symm) hE.2.2.2.2.1 (hE.2.2.2.1 _ (uw mt_L_X5_123 rfl)) (hE.2.2.2.1 _ (uw mt_T_J9_min_7cf53 rfl)) (hE.2.2.2.1 _ (uw mt_N_J9 rfl)) (hE.2.2.2.1 _ (uw mt_C_J9_min_7cf53 rfl)) (by decide) (Nat.le_of_ble_eq_true rfl) (Nat.zero_le _) (Nat.zero_le _) dX5_stepNumber_78 ?_
          refine tp (nI_min (by omega) (by omega)) ?_
          refine pf_X5_59 hE hP hD hS (3) (gC_3 E a (up2 (up2 I (2) (0) (q)) (5) (0) (w)) tr) rfl rfl (Nat.le_of_ble_eq_true rfl) (sC_3_5 E a (up2 (up2 I (2) (0) (q)) (5) (0) (w)) tr (min ((w) * (10) + (I (0) (q)) - (48)) (100))) dX5_stepNumber_81 (fun H locs hP hD hS => ?_)
          refine lv_aload_n hx hb dX5_stepNumber_84 rfl (lv_at hl 0 rfl) ?_
          refine lv_dup hx hb dX5_stepNumber_85 rfl ?_
          refine gf_X5_25 hE hP (3) (gC_3 E a (up2 (up2 (up2 I (2) (0) (q)) (5) (0) (w)) (5) (0) (min ((w) * (10) + (I (0) (q)) - (48)) (100))) tr) (v := .int (nI (q))) rfl dX5_stepNumber_86 ?_
          refine lv_iconst (v := nI (1)) hx hb dX5_stepNumber_89 (by decide) ?_
          refine lv_iadd hx hb dX5_stepNumber_90 ?_
          refine tp (nI_add _ _) ?_
          refine pf_X5_25 hE hP hD hS (3) (gC_3 E a (up2 (up2 (up2 I (2) (0) (q)) (5) (0) (w)) (5) (0) (min ((w) * (10) + (I (0) (q)) - (48)) (100))) tr) rfl rfl (Nat.le_of_ble_eq_true rfl) (sC_3_2 E a (up2 (up2 (up2 I (2) (0) (q)) (5) (0) (w)) (5) (0) (min ((w) * (10) + (I (0) (q)) - (48)) (100))) tr (q + 1)) dX5_stepNumber_91 (fun H locs hP hD hS => ?_)
          refine lv_goto (tgt := 28) hx hb dX5_stepNumber_94 (by decide) ?_
          exact ih28 (q + 1) (min ((w) * (10) + (I (0) (q)) - (48)) (100)) (z) (by omega) (by omega) (by omega) (hs.trans (skp_t (by omega) c39)) (hw.trans (vaP_t (by omega) c39)) (Nat.min_le_right _ _) (by omega) ls _ _ (lv_sub hl [0, 1] rfl) (by have hw : (up2 (up2 (up2 (up2 I (2) (0) (q)) (5) (0) (w)) (5) (0) (min ((w) * (10) + (I (0) (q)) - (48)) (100))) (2) (0) (q + 1)) = (up2 (up2 I (2) (0) ((q + 1))) (5) (0) ((min ((w) * (10) + (I (0) (q)) - (48)) (100)))) := (up25 _ _ _ _ _); rw [hw] at hP; exact hP) (by have hw : (up2 (up2 (up2 (up2 I (2) (0) (q)) (5) (0) (w)) (5) (0) (min ((w) * (10) + (I (0) (q)) - (48)) (100))) (2) (0) (q + 1)) = (up2 (up2 I (2) (0) ((q + 1))) (5) (0) ((min ((w) * (10) + (I (0) (q)) - (48)) (100)))) := (up25 _ _ _ _ _); rw [hw] at hD; exact hD) hS
    exact loop28 (_ + 1) (I 2 0) (0) (0) (Nat.lt_succ_self _) (by omega) (by omega) rfl rfl (by omega) (by omega) ls _ _ (lv_sub hl [1, 0] rfl) (by have hw : (up2 I (5) (0) (0)) = (up2 (up2 I (2) (0) ((I 2 0))) (5) (0) ((0))) := (by rw [up2_self]); rw [hw] at hP; exact hP) (by have hw : (up2 I (5) (0) (0)) = (up2 (up2 I (2) (0) ((I 2 0))) (5) (0) ((0))) := (by rw [up2_self]); rw [hw] at hD; exact hD) hS
  · refine lv_iconst (v := nI (1)) hx hb dX5_stepNumber_17 (by decide) ?_
    refine lv_goto (tgt := 22) hx hb dX5_stepNumber_18 (by decide) ?_
    refine lv_istore_n (lv' := [(1, .int (nI (1))), (0, .ref (a 2))]) hx hb dX5_stepNumber_22 rfl hl (by decide) rfl (fun ls hl => ?_)
    refine lv_aload_n hx hb dX5_stepNumber_23 rfl (lv_at hl 1 rfl) ?_
    refine lv_iconst (v := nI (0)) hx hb dX5_stepNumber_24 (by decide) ?_
    refine pf_X5_59 hE hP hD hS (3) (gC_3 E a I tr) rfl rfl (Nat.le_of_ble_eq_true rfl) (sC_3_5 E a I tr (0)) dX5_stepNumber_25 (fun H locs hP hD hS => ?_)
    have loop28 : ∀ (fu28 : Nat) (q : Nat) (w : Nat) (z : Nat), I 1 0 - q < fu28 → (q ≤ I 1 0) → (I 3 0 ≤ q) → (snE I = skp (rgB 48 57 (I 0) (I 1 0)) (I 1 0) q) → (snV I = vaP (rgB 48 57 (I 0) (I 1 0)) (I 0) (I 1 0) q w) → (w ≤ 100) → ((z = 1 ∧ I 0 (I 3 0) = 48) ∨ (z = 0 ∧ ¬ I 0 (I 3 0) = 48)) → ∀ (ls : Array Slot) (H : Heap) (locs : List Loc), lv_has ls 3 [(0, .ref (a 2)), (1, .int (nI (z)))] → va_P E.1 vwCl (WC E a (up2 (up2 I (2) (0) (q)) (5) (0) (w)) tr) H → va_D A (WC E a (up2 (up2 I (2) (0) (q)) (5) (0) (w)) tr) → va_S A s.heap H locs → W p l e (rmL 2) s m args below meth c H locs 0 0 (RQ E below args s A none (WC E a (snI I) tr)) (F0 m 28 ls []) := by
      intro fu28
      induction fu28 with
      | zero => intro q w z h; exact absurd h (Nat.not_lt_zero _)
      | succ fu28 ih28 =>
        intro q w z hfu28 hq hq2 hs hw hw1 hz ls H locs hl hP hD hS
        refine lv_aload_n hx hb dX5_stepNumber_28 rfl (lv_at hl 0 rfl) ?_
        refine gf_X5_18 hE hP (3) (gC_3 E a (up2 (up2 I (2) (0) (q)) (5) (0) (w)) tr) (v := .ref (a 1)) rfl dX5_stepNumber_29 ?_
        refine lv_aload_n hx hb dX5_stepNumber_32 rfl (lv_at hl 0 rfl) ?_
        refine gf_X5_25 hE hP (3) (gC_3 E a (up2 (up2 I (2) (0) (q)) (5) (0) (w)) tr) (v := .int (nI (q))) rfl dX5_stepNumber_33 ?_
        refine call_V (As := [.int (nI (q))]) (rest := []) hE (ct_X6_isDigit l E a (up2 (up2 I (2) (0) (q)) (5) (0) (w)) tr (q) hT (by omega)) cm_X6_isDigit (uw mt_L_X5_104 rfl) (gC_1 E a (up2 (up2 I (2) (0) (q)) (5) (0) (w)) tr) rfl rfl hP hD hS hl.1 rfl rfl (Nat.le_of_ble_eq_true rfl) ⟨by decide, by decide⟩ dX5_stepNumber_36 (fun H locs hP hD hS => ?_)
        refine W.eq (g2 := F0 m 39 ls [.int (bB (rgB 48 57 (I 0) (I 1 0) (q)))]) rfl ?_
        refine bB_eq (tgt := 97) hx hb dX5_stepNumber_39 (by decide) (fun c39 => ?_) (fun c39 => ?_)
        · have he : snE I = q := hs.trans (skp_f (Or.inr c39))
          have hw2 : snV I = w := hw.trans (vaP_f (Or.inr c39))
          refine lv_aload_n hx hb dX5_stepNumber_97 rfl (lv_at hl 0 rfl) ?_
          refine gf_X5_25 hE hP (3) (gC_3 E a (up2 (up2 I (2) (0) (q)) (5) (0) (w)) tr) (v := .int (nI (q))) rfl dX5_stepNumber_98 ?_
          refine lv_aload_n hx hb dX5_stepNumber_101 rfl (lv_at hl 0 rfl) ?_
          refine gf_X5_49 hE hP (3) (gC_3 E a (up2 (up2 I (2) (0) (q)) (5) (0) (w)) tr) (v := .int (nI (I (3) (0)))) rfl dX5_stepNumber_102 ?_
          refine lv_isub hx hb dX5_stepNumber_105 ?_
          refine tp (pk_sub (by omega)) ?_
          refine lv_iconst (v := nI (1)) hx hb dX5_stepNumber_106 (by decide) ?_
          refine bN_le (tgt := 114) hx hb (by omega) (by omega) dX5_stepNumber_107 (by decide) (fun c107 => ?_) (fun c107 => ?_)
          · refine lv_iconst (v := nI (0)) hx hb dX5_stepNumber_114 (by decide) ?_
            refine lv_istore_n (lv' := [(2, .int (nI (0))), (0, .ref (a 2)), (1, .int (nI (z)))]) hx hb dX5_stepNumber_115 rfl hl (by decide) rfl (fun ls hl => ?_)
            refine lv_aload_n hx hb dX5_stepNumber_116 rfl (lv_at hl 1 rfl) ?_
            refine lv_aload_n hx hb dX5_stepNumber_117 rfl (lv_at hl 1 rfl) ?_
            refine gf_X5_59 hE hP (3) (gC_3 E a (up2 (up2 I (2) (0) (q)) (5) (0) (w)) tr) (v := .int (nI (w))) rfl dX5_stepNumber_118 ?_
            refine lv_bipush (v := nI (99)) hx hb dX5_stepNumber_121 (by decide) ?_
            refine bN_gt (tgt := 134) hx hb (by omega) (by omega) dX5_stepNumber_123 (by decide) (fun c123 => ?_) (fun c123 => ?_)
            · refine lv_iconst (v := nI (1)) hx hb dX5_stepNumber_134 (by decide) ?_
              refine lv_goto (tgt := 139) hx hb dX5_stepNumber_135 (by decide) ?_
              refine pf_X5_36 hE hP hD hS (3) (gC_3 E a (up2 (up2 I (2) (0) (q)) (5) (0) (w)) tr) rfl rfl (Nat.le_of_ble_eq_true rfl) (sC_3_4 E a (up2 (up2 I (2) (0) (q)) (5) (0) (w)) tr (1)) dX5_stepNumber_139 (fun H locs hP hD hS => ?_)
              have hw : (up2 (up2 (up2 I (2) (0) (q)) (5) (0) (w)) (4) (0) (1)) = (snI I) := by first | (unfold snI nmK; rw [he, hw2, if_pos (Or.inl c123)]; done) | (unfold snI nmK; rw [he, hw2, if_pos (Or.inr ⟨by omega, by omega⟩)]; done) | (unfold snI nmK; rw [he, hw2, if_neg (fun z9 => by omega)]; done)
              have hP := Eq.mp (congrArg (fun q => va_P E.1 vwCl (WC E a q tr) H) hw) hP
              have hD := Eq.mp (congrArg (fun q => va_D A (WC E a q tr)) hw) hD
              exact ret_v hE rfl hP hD hS dX5_stepNumber_142
            · refine lv_iload_n hx hb dX5_stepNumber_126 rfl (lv_at hl 2 rfl) ?_
              refine bZ_eq (tgt := 138) hx hb (by omega) dX5_stepNumber_127 (by decide) (fun c127 => ?_) (fun c127 => ?_)
              · refine lv_iconst (v := nI (2)) hx hb dX5_stepNumber_138 (by decide) ?_
                refine pf_X5_36 hE hP hD hS (3) (gC_3 E a (up2 (up2 I (2) (0) (q)) (5) (0) (w)) tr) rfl rfl (Nat.le_of_ble_eq_true rfl) (sC_3_4 E a (up2 (up2 I (2) (0) (q)) (5) (0) (w)) tr (2)) dX5_stepNumber_139 (fun H locs hP hD hS => ?_)
                have hw : (up2 (up2 (up2 I (2) (0) (q)) (5) (0) (w)) (4) (0) (2)) = (snI I) := by first | (unfold snI nmK; rw [he, hw2, if_pos (Or.inl c123)]; done) | (unfold snI nmK; rw [he, hw2, if_pos (Or.inr ⟨by omega, by omega⟩)]; done) | (unfold snI nmK; rw [he, hw2, if_neg (fun z9 => by omega)]; done)
                have hP := Eq.mp (congrArg (fun q => va_P E.1 vwCl (WC E a q tr) H) hw) hP
                have hD := Eq.mp (congrArg (fun q => va_D A (WC E a q tr)) hw) hD
                exact ret_v hE rfl hP hD hS dX5_stepNumber_142
              · refine lv_iload_n hx hb dX5_stepNumber_130 rfl (lv_at hl 0 rfl) ?_
                refine bZ_eq (tgt := 138) hx hb (by omega) dX5_stepNumber_131 (by decide) (fun c131 => ?_) (fun c131 => absurd c131 (by omega))
                refine lv_iconst (v := nI (2)) hx hb dX5_stepNumber_138 (by decide) ?_
                refine pf_X5_36 hE hP hD hS (3) (gC_3 E a (up2 (up2 I (2) (0) (q)) (5) (0) (w)) tr) rfl rfl (Nat.le_of_ble_eq_true rfl) (sC_3_4 E a (up2 (up2 I (2) (0) (q)) (5) (0) (w)) tr (2)) dX5_stepNumber_139 (fun H locs hP hD hS => ?_)
                have hw : (up2 (up2 (up2 I (2) (0) (q)) (5) (0) (w)) (4) (0) (2)) = (snI I) := by first | (unfold snI nmK; rw [he, hw2, if_pos (Or.inl c123)]; done) | (unfold snI nmK; rw [he, hw2, if_pos (Or.inr ⟨by omega, by omega⟩)]; done) | (unfold snI nmK; rw [he, hw2, if_neg (fun z9 => by omega)]; done)
                have hP := Eq.mp (congrArg (fun q => va_P E.1 vwCl (WC E a q tr) H) hw) hP
                have hD := Eq.mp (congrArg (fun q => va_D A (WC E a q tr)) hw) hD
                exact ret_v hE rfl hP hD hS dX5_stepNumber_142
          · refine lv_iconst (v := nI (1)) hx hb dX5_stepNumber_110 (by decide) ?_
            refine lv_goto (tgt := 115) hx hb dX5_stepNumber_111 (by decide) ?_
            refine lv_istore_n (lv' := [(2, .int (nI (1))), (0, .ref (a 2)), (1, .int (nI (z)))]) hx hb dX5_stepNumber_115 rfl hl (by decide) rfl (fun ls hl => ?_)
            refine lv_aload_n hx hb dX5_stepNumber_116 rfl (lv_at hl 1 rfl) ?_
            refine lv_aload_n hx hb dX5_stepNumber_117 rfl (lv_at hl 1 rfl) ?_
            refine gf_X5_59 hE hP (3) (gC_3 E a (up2 (up2 I (2) (0) (q)) (5) (0) (w)) tr) (v := .int (nI (w))) rfl dX5_stepNumber_118 ?_
            refine lv_bipush (v := nI (99)) hx hb dX5_stepNumber_121 (by decide) ?_
            refine bN_gt (tgt := 134) hx hb (by omega) (by omega) dX5_stepNumber_123 (by decide) (fun c123 => ?_) (fun c123 => ?_)
            · refine lv_iconst (v := nI (1)) hx hb dX5_stepNumber_134 (by decide) ?_
              refine lv_goto (tgt := 139) hx hb dX5_stepNumber_135 (by decide) ?_
              refine pf_X5_36 hE hP hD hS (3) (gC_3 E a (up2 (up2 I (2) (0) (q)) (5) (0) (w)) tr) rfl rfl (Nat.le_of_ble_eq_true rfl) (sC_3_4 E a (up2 (up2 I (2) (0) (q)) (5) (0) (w)) tr (1)) dX5_stepNumber_139 (fun H locs hP hD hS => ?_)
              have hw : (up2 (up2 (up2 I (2) (0) (q)) (5) (0) (w)) (4) (0) (1)) = (snI I) := by first | (unfold snI nmK; rw [he, hw2, if_pos (Or.inl c123)]; done) | (unfold snI nmK; rw [he, hw2, if_pos (Or.inr ⟨by omega, by omega⟩)]; done) | (unfold snI nmK; rw [he, hw2, if_neg (fun z9 => by omega)]; done)
              have hP := Eq.mp (congrArg (fun q => va_P E.1 vwCl (WC E a q tr) H) hw) hP
              have hD := Eq.mp (congrArg (fun q => va_D A (WC E a q tr)) hw) hD
              exact ret_v hE rfl hP hD hS dX5_stepNumber_142
            · refine lv_iload_n hx hb dX5_stepNumber_126 rfl (lv_at hl 2 rfl) ?_
              refine bZ_eq (tgt := 138) hx hb (by omega) dX5_stepNumber_127 (by decide) (fun c127 => ?_) (fun c127 => ?_)
              · refine lv_iconst (v := nI (2)) hx hb dX5_stepNumber_138 (by decide) ?_
                refine pf_X5_36 hE hP hD hS (3) (gC_3 E a (up2 (up2 I (2) (0) (q)) (5) (0) (w)) tr) rfl rfl (Nat.le_of_ble_eq_true rfl) (sC_3_4 E a (up2 (up2 I (2) (0) (q)) (5) (0) (w)) tr (2)) dX5_stepNumber_139 (fun H locs hP hD hS => ?_)
                have hw : (up2 (up2 (up2 I (2) (0) (q)) (5) (0) (w)) (4) (0) (2)) = (snI I) := by first | (unfold snI nmK; rw [he, hw2, if_pos (Or.inl c123)]; done) | (unfold snI nmK; rw [he, hw2, if_pos (Or.inr ⟨by omega, by omega⟩)]; done) | (unfold snI nmK; rw [he, hw2, if_neg (fun z9 => by omega)]; done)
                have hP := Eq.mp (congrArg (fun q => va_P E.1 vwCl (WC E a q tr) H) hw) hP
                have hD := Eq.mp (congrArg (fun q => va_D A (WC E a q tr)) hw) hD
                exact ret_v hE rfl hP hD hS dX5_stepNumber_142
              · refine lv_iload_n hx hb dX5_stepNumber_130 rfl (lv_at hl 0 rfl) ?_
                refine bZ_eq (tgt := 138) hx hb (by omega) dX5_stepNumber_131 (by decide) (fun c131 => absurd c131 (by omega)) (fun c131 => ?_)
                refine lv_iconst (v := nI (1)) hx hb dX5_stepNumber_134 (by decide) ?_
                refine lv_goto (tgt := 139) hx hb dX5_stepNumber_135 (by decide) ?_
                refine pf_X5_36 hE hP hD hS (3) (gC_3 E a (up2 (up2 I (2) (0) (q)) (5) (0) (w)) tr) rfl rfl (Nat.le_of_ble_eq_true rfl) (sC_3_4 E a (up2 (up2 I (2) (0) (q)) (5) (0) (w)) tr (1)) dX5_stepNumber_139 (fun H locs hP hD hS => ?_)
                have hw : (up2 (up2 (up2 I (2) (0) (q)) (5) (0) (w)) (4) (0) (1)) = (snI I) := by first | (unfold snI nmK; rw [he, hw2, if_pos (Or.inl c123)]; done) | (unfold snI nmK; rw [he, hw2, if_pos (Or.inr ⟨by omega, by omega⟩)]; done) | (unfold snI nmK; rw [he, hw2, if_neg (fun z9 => by omega)]; done)
                have hP := Eq.mp (congrArg (fun q => va_P E.1 vwCl (WC E a q tr) H) hw) hP
                have hD := Eq.mp (congrArg (fun q => va_D A (WC E a q tr)) hw) hD
                exact ret_v hE rfl hP hD hS dX5_stepNumber_142
        · have hin := rgB_in c39
          have hbq := hT.2 q hin.1
          refine lv_aload_n hx hb dX5_stepNumber_42 rfl (lv_at hl 0 rfl) ?_
          refine gf_X5_25 hE hP (3) (gC_3 E a (up2 (up2 I (2) (0) (q)) (5) (0) (w)) tr) (v := .int (nI (q))) rfl dX5_stepNumber_43 ?_
          refine lv_sipush (v := nI (300)) hx hb dX5_stepNumber_46 (by decide) ?_
          refine bN_ge (tgt := 97) hx hb (by omega) (by omega) dX5_stepNumber_49 (by decide) (fun c49 => absurd c49 (by omega)) (fun c49 => ?_)
          refine lv_aload_n hx hb dX5_stepNumber_52 rfl (lv_at hl 0 rfl) ?_
          refine lv_aload_n hx hb dX5_stepNumber_53 rfl (lv_at hl 0 rfl) ?_
          refine gf_X5_59 hE hP (3) (gC_3 E a (up2 (up2 I (2) (0) (q)) (5) (0) (w)) tr) (v := .int (nI (w))) rfl dX5_stepNumber_54 ?_
          refine lv_bipush (v := nI (10)) hx hb dX5_stepNumber_57 (by decide) ?_
          refine lv_imul hx hb dX5_stepNumber_59 ?_
          refine tp (pk_mul _ _) ?_
          refine lv_aload_n hx hb dX5_stepNumber_60 rfl (lv_at hl 0 rfl) ?_
          refine gf_X5_18 hE hP (3) (gC_3 E a (up2 (up2 I (2) (0) (q)) (5) (0) (w)) tr) (v := .ref (a 1)) rfl dX5_stepNumber_61 ?_
          refine gf_X5_110 hE hP (1) (gC_1 E a (up2 (up2 I (2) (0) (q)) (5) (0) (w)) tr) (v := .ref (a 10)) rfl dX5_stepNumber_64 ?_
          refine lv_aload_n hx hb dX5_stepNumber_67 rfl (lv_at hl 0 rfl) ?_
          refine gf_X5_25 hE hP (3) (gC_3 E a (up2 (up2 I (2) (0) (q)) (5) (0) (w)) tr) (v := .int (nI (q))) rfl dX5_stepNumber_68 ?_
          refine ald_i hE hP (2) (gC_2 E a (up2 (up2 I (2) (0) (q)) (5) (0) (w)) tr) (by omega) (by decide) (r := nI (I (0) (q))) rfl dX5_stepNumber_71 ?_
          refine lv_iadd hx hb dX5_stepNumber_72 ?_
          refine tp (nI_add _ _) ?_
          refine lv_bipush (v := nI (48)) hx hb dX5_stepNumber_73 (by decide) ?_
          refine lv_isub hx hb dX5_stepNumber_75 ?_
          refine tp (pk_sub (by omega)) ?_
          refine lv_bipush (v := nI (100)) hx hb dX5_stepNumber_76 (by decide) ?_
          refine va_mmin hx hb (hE.2.2.2.2.2.1.trans hl.1.symm) hE.2.2.2.2.1 (hE.2.2.2.1 _ (uw mt_L_X5_123 rfl)) (hE.2.2.2.1 _ (uw mt_T_J9_min_7cf53 rfl)) (hE.2.2.2.1 _ (uw mt_N_J9 rfl)) (hE.2.2.2.1 _ (uw mt_C_J9_min_7cf53 rfl)) (by decide) (Nat.le_of_ble_eq_true rfl) (Nat.zero_le _) (Nat.zero_le _) dX5_stepNumber_78 ?_
          refine tp (nI_min (by omega) (by omega)) ?_
          refine pf_X5_59 hE hP hD hS (3) (gC_3 E a (up2 (up2 I (2) (0) (q)) (5) (0) (w)) tr) rfl rfl (Nat.le_of_ble_eq_true rfl) (sC_3_5 E a (up2 (up2 I (2) (0) (q)) (5) (0) (w)) tr (min ((w) * (10) + (I (0) (q)) - (48)) (100))) dX5_stepNumber_81 (fun H locs hP hD hS => ?_)
          refine lv_aload_n hx hb dX5_stepNumber_84 rfl (lv_at hl 0 rfl) ?_
          refine lv_dup hx hb dX5_stepNumber_85 rfl ?_
          refine gf_X5_25 hE hP (3) (gC_3 E a (up2 (up2 (up2 I (2) (0) (q)) (5) (0) (w)) (5) (0) (min ((w) * (10) + (I (0) (q)) - (48)) (100))) tr) (v := .int (nI (q))) rfl dX5_stepNumber_86 ?_
          refine lv_iconst (v := nI (1)) hx hb dX5_stepNumber_89 (by decide) ?_
          refine lv_iadd hx hb dX5_stepNumber_90 ?_
          refine tp (nI_add _ _) ?_
          refine pf_X5_25 hE hP hD hS (3) (gC_3 E a (up2 (up2 (up2 I (2) (0) (q)) (5) (0) (w)) (5) (0) (min ((w) * (10) + (I (0) (q)) - (48)) (100))) tr) rfl rfl (Nat.le_of_ble_eq_true rfl) (sC_3_2 E a (up2 (up2 (up2 I (2) (0) (q)) (5) (0) (w)) (5) (0) (min ((w) * (10) + (I (0) (q)) - (48)) (100))) tr (q + 1)) dX5_stepNumber_91 (fun H locs hP hD hS => ?_)
          refine lv_goto (tgt := 28) hx hb dX5_stepNumber_94 (by decide) ?_
          exact ih28 (q + 1) (min ((w) * (10) + (I (0) (q)) - (48)) (100)) (z) (by omega) (by omega) (by omega) (hs.trans (skp_t (by omega) c39)) (hw.trans (vaP_t (by omega) c39)) (Nat.min_le_right _ _) (by omega) ls _ _ (lv_sub hl [0, 1] rfl) (by have hw : (up2 (up2 (up2 (up2 I (2) (0) (q)) (5) (0) (w)) (5) (0) (min ((w) * (10) + (I (0) (q)) - (48)) (100))) (2) (0) (q + 1)) = (up2 (up2 I (2) (0) ((q + 1))) (5) (0) ((min ((w) * (10) + (I (0) (q)) - (48)) (100)))) := (up25 _ _ _ _ _); rw [hw] at hP; exact hP) (by have hw : (up2 (up2 (up2 (up2 I (2) (0) (q)) (5) (0) (w)) (5) (0) (min ((w) * (10) + (I (0) (q)) - (48)) (100))) (2) (0) (q + 1)) = (up2 (up2 I (2) (0) ((q + 1))) (5) (0) ((min ((w) * (10) + (I (0) (q)) - (48)) (100)))) := (up25 _ _ _ _ _); rw [hw] at hD; exact hD) hS
    exact loop28 (_ + 1) (I 2 0) (0) (1) (Nat.lt_succ_self _) (by omega) (by omega) rfl rfl (by omega) (by omega) ls _ _ (lv_sub hl [1, 0] rfl) (by have hw : (up2 I (5) (0) (0)) = (up2 (up2 I (2) (0) ((I 2 0))) (5) (0) ((0))) := (by rw [up2_self]); rw [hw] at hP; exact hP) (by have hw : (up2 I (5) (0) (0)) = (up2 (up2 I (2) (0) ((I 2 0))) (5) (0) ((0))) := (by rw [up2_self]); rw [hw] at hD; exact hD) hS
