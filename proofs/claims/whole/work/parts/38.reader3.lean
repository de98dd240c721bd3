set_option maxHeartbeats 4000000 in
set_option maxRecDepth 100000 in
theorem ct_X3_build (l : Launch) (E : cE) (a : Nat → Nat) (I : Nat → Nat → Nat) (tr : Int64) (h s1_ p1_ q1_ : Nat) (hh : h < 6) (hs48 : s1_ < 48) (hp9 : p1_ ≤ 9) (hq9 : q1_ ≤ 9) : Ct l E 1 yX3_build cX3_build 5 none [.ref (a (60 + h)), .int (nI (s1_)), .int (nI (p1_)), .int (nI (q1_))] (WC E a I tr) none (WC E a (buI I h s1_ p1_ q1_) tr) := by
  refine Ct_of (plainFor_of_name (by decide)) (Nat.le_of_ble_eq_true rfl) ?_
  intro p e s m args below meth c A ls hE hP hD hS hl
  have hE : cEnv p s m args meth c E RX3 cX3_build 5 none A := hE
  have hx := hE.1
  have hb := hE.2.1
  have hl : lv_has ls 5 [(0, .ref (a (60 + h))), (1, .int (nI (s1_))), (2, .int (nI (p1_))), (3, .int (nI (q1_)))] := hl
  have hP : va_P E.1 vwCl (WC E a I tr) s.heap := hP
  generalize hH : s.heap = H at hP hS ⊢
  have hS : va_S A s.heap H [] := by rw [hH]; exact hS
  clear hH
  refine lv_aload_n hx hb dX3_build_0 rfl (lv_at hl 0 rfl) ?_
  refine lv_iload_n hx hb dX3_build_1 rfl (lv_at hl 1 rfl) ?_
  refine pf_X3_22 hE hP hD hS (26 + h) (gC_hs E a I tr (h) (by omega)) rfl rfl (Nat.le_of_ble_eq_true rfl) (sC_hs_1 E a I tr (s1_) (h) (by omega)) dX3_build_2 (fun H locs hP hD hS => ?_)
  refine lv_aload_n hx hb dX3_build_5 rfl (lv_at hl 0 rfl) ?_
  refine lv_iload_n hx hb dX3_build_6 rfl (lv_at hl 2 rfl) ?_
  refine pf_X3_15 hE hP hD hS (26 + h) (gC_hs E a (up2 I (28) (h) (s1_)) tr (h) (by omega)) rfl rfl (Nat.le_of_ble_eq_true rfl) (sC_hs_2 E a (up2 I (28) (h) (s1_)) tr (p1_) (h) (by omega)) dX3_build_7 (fun H locs hP hD hS => ?_)
  refine lv_aload_n hx hb dX3_build_10 rfl (lv_at hl 0 rfl) ?_
  refine lv_iload_n hx hb dX3_build_11 rfl (lv_at hl 3 rfl) ?_
  refine pf_X3_19 hE hP hD hS (26 + h) (gC_hs E a (up2 (up2 I (28) (h) (s1_)) (29) (h) (p1_)) tr (h) (by omega)) rfl rfl (Nat.le_of_ble_eq_true rfl) (sC_hs_3 E a (up2 (up2 I (28) (h) (s1_)) (29) (h) (p1_)) tr (q1_) (h) (by omega)) dX3_build_12 (fun H locs hP hD hS => ?_)
  refine lv_aload_n hx hb dX3_build_15 rfl (lv_at hl 0 rfl) ?_
  refine lv_iconst (v := nI (0)) hx hb dX3_build_16 (by decide) ?_
  refine pf_X3_25 hE hP hD hS (26 + h) (gC_hs E a (up2 (up2 (up2 I (28) (h) (s1_)) (29) (h) (p1_)) (30) (h) (q1_)) tr (h) (by omega)) rfl rfl (Nat.le_of_ble_eq_true rfl) (sC_hs_4 E a (up2 (up2 (up2 I (28) (h) (s1_)) (29) (h) (p1_)) (30) (h) (q1_)) tr (0) (h) (by omega)) dX3_build_17 (fun H locs hP hD hS => ?_)
  refine lv_iconst (v := nI (0)) hx hb dX3_build_20 (by decide) ?_
  refine lv_istore (lv' := [(4, .int (nI (0))), (0, .ref (a (60 + h))), (1, .int (nI (s1_))), (2, .int (nI (p1_))), (3, .int (nI (q1_)))]) hx hb dX3_build_21 hl (by decide) rfl (fun ls hl => ?_)
  have loop23 : ∀ (fu23 : Nat) (t : Nat), 96 - t < fu23 → (t ≤ 96) → ∀ (ls : Array Slot) (H : Heap) (locs : List Loc), lv_has ls 5 [(0, .ref (a (60 + h))), (4, .int (nI (t)))] → va_P E.1 vwCl (WC E a (upA (up2 (up2 (up2 (up2 I (28) (h) (s1_)) (29) (h) (p1_)) (30) (h) (q1_)) (31) (h) (0)) (32 + h) (flF (I (32 + h)) (bdF s1_ p1_ q1_) (t))) tr) H → va_D A (WC E a (upA (up2 (up2 (up2 (up2 I (28) (h) (s1_)) (29) (h) (p1_)) (30) (h) (q1_)) (31) (h) (0)) (32 + h) (flF (I (32 + h)) (bdF s1_ p1_ q1_) (t))) tr) → va_S A s.heap H locs → W p l e (rmL 1) s m args below meth c H locs 0 0 (RQ E below args s A none (WC E a (buI I h s1_ p1_ q1_) tr)) (F0 m 23 ls []) := by
    intro fu23
    induction fu23 with
    | zero => intro t h; exact absurd h (Nat.not_lt_zero _)
    | succ fu23 ih23 =>
      intro t hfu23 ht ls H locs hl hP hD hS
      have hW28 := bd_28 I (flF (I (32 + h)) (bdF s1_ p1_ q1_) t) h s1_ p1_ q1_
      have hW29 := bd_29 I (flF (I (32 + h)) (bdF s1_ p1_ q1_) t) h s1_ p1_ q1_
      have hW30 := bd_30 I (flF (I (32 + h)) (bdF s1_ p1_ q1_) t) h s1_ p1_ q1_
      unfold bdI at hW28 hW29 hW30
      refine lv_iload hx hb dX3_build_23 (lv_at hl 1 rfl) ?_
      refine lv_bipush (v := nI (96)) hx hb dX3_build_25 (by decide) ?_
      refine bN_ge (tgt := 57) hx hb (by omega) (by omega) dX3_build_27 (by decide) (fun c27 => ?_) (fun c27 => ?_)
      · have hw : (upA (up2 (up2 (up2 (up2 I (28) (h) (s1_)) (29) (h) (p1_)) (30) (h) (q1_)) (31) (h) (0)) (32 + h) (flF (I (32 + h)) (bdF s1_ p1_ q1_) (t))) = (buI I h s1_ p1_ q1_) := by rw [show t = 96 by omega]; rfl
        have hP := Eq.mp (congrArg (fun q => va_P E.1 vwCl (WC E a q tr) H) hw) hP
        have hD := Eq.mp (congrArg (fun q => va_D A (WC E a q tr)) hw) hD
        exact ret_v hE rfl hP hD hS dX3_build_57
      · refine lv_aload_n hx hb dX3_build_30 rfl (lv_at hl 0 rfl) ?_
        refine gf_X3_9 hE hP (26 + h) (gC_hs E a (upA (up2 (up2 (up2 (up2 I (28) (h) (s1_)) (29) (h) (p1_)) (30) (h) (q1_)) (31) (h) (0)) (32 + h) (flF (I (32 + h)) (bdF s1_ p1_ q1_) (t))) tr (h) (by omega)) (v := .ref (a (70 + h))) rfl dX3_build_31 ?_
        refine lv_iload hx hb dX3_build_34 (lv_at hl 1 rfl) ?_
        refine lv_aload_n hx hb dX3_build_36 rfl (lv_at hl 0 rfl) ?_
        refine gf_X3_22 hE hP (26 + h) (gC_hs E a (upA (up2 (up2 (up2 (up2 I (28) (h) (s1_)) (29) (h) (p1_)) (30) (h) (q1_)) (31) (h) (0)) (32 + h) (flF (I (32 + h)) (bdF s1_ p1_ q1_) (t))) tr (h) (by omega)) (v := .int (nI ((upA (up2 (up2 (up2 (up2 I (28) (h) (s1_)) (29) (h) (p1_)) (30) (h) (q1_)) (31) (h) (0)) (32 + h) (flF (I (32 + h)) (bdF s1_ p1_ q1_) (t))) (28) (h)))) rfl dX3_build_37 ?_
        refine tp (show nI ((upA (up2 (up2 (up2 (up2 I (28) (h) (s1_)) (29) (h) (p1_)) (30) (h) (q1_)) (31) (h) (0)) (32 + h) (flF (I (32 + h)) (bdF s1_ p1_ q1_) (t))) (28) (h)) = nI s1_ by rw [hW28]) ?_
        refine lv_aload_n hx hb dX3_build_40 rfl (lv_at hl 0 rfl) ?_
        refine lv_iload hx hb dX3_build_41 (lv_at hl 1 rfl) ?_
        refine call_V (As := [.int (nI (t))]) (rest := [.int (nI (s1_)), .int (nI (t)), .ref (a (70 + h))]) hE (ct_X3_ranTill_s l E a (upA (up2 (up2 (up2 (up2 I (28) (h) (s1_)) (29) (h) (p1_)) (30) (h) (q1_)) (31) (h) (0)) (32 + h) (flF (I (32 + h)) (bdF s1_ p1_ q1_) (t))) tr h (t) hh (by omega) (by rw [hW29]; exact hp9) (by rw [hW30]; exact hq9)) cm_X3_ranTill (uw mt_L_X3_28 rfl) (gC_hs E a (upA (up2 (up2 (up2 (up2 I (28) (h) (s1_)) (29) (h) (p1_)) (30) (h) (q1_)) (31) (h) (0)) (32 + h) (flF (I (32 + h)) (bdF s1_ p1_ q1_) (t))) tr (h) (by omega)) rfl rfl hP hD hS hl.1 rfl rfl (Nat.le_of_ble_eq_true rfl) ⟨by decide, by decide⟩ dX3_build_43 (fun H locs hP hD hS => ?_)
        refine W.eq (g2 := F0 m 46 ls [.int (nI (lv ((upA (up2 (up2 (up2 (up2 I (28) (h) (s1_)) (29) (h) (p1_)) (30) (h) (q1_)) (31) (h) (0)) (32 + h) (flF (I (32 + h)) (bdF s1_ p1_ q1_) (t))) 29 h) ((upA (up2 (up2 (up2 (up2 I (28) (h) (s1_)) (29) (h) (p1_)) (30) (h) (q1_)) (31) (h) (0)) (32 + h) (flF (I (32 + h)) (bdF s1_ p1_ q1_) (t))) 30 h) (t))), .int (nI (s1_)), .int (nI (t)), .ref (a (70 + h))]) rfl ?_
        refine tp (show nI (lv ((upA (up2 (up2 (up2 (up2 I (28) (h) (s1_)) (29) (h) (p1_)) (30) (h) (q1_)) (31) (h) (0)) (32 + h) (flF (I (32 + h)) (bdF s1_ p1_ q1_) (t))) 29 h) ((upA (up2 (up2 (up2 (up2 I (28) (h) (s1_)) (29) (h) (p1_)) (30) (h) (q1_)) (31) (h) (0)) (32 + h) (flF (I (32 + h)) (bdF s1_ p1_ q1_) (t))) 30 h) (t)) = nI (lv p1_ q1_ (t)) by rw [hW29, hW30]) ?_
        have hlv1 := lv_le (p := p1_) (q := q1_) (t := t) hp9 (by omega)
        refine lv_iadd hx hb dX3_build_46 ?_
        refine tp (nI_add _ _) ?_
        refine lv_bipush (v := nI (48)) hx hb dX3_build_47 (by decide) ?_
        refine lv_irem hx hb dX3_build_49 (nI_ne0 (by omega) (by omega)) ?_
        refine tp (pk_rem (by omega) (by omega) (by omega)) ?_
        refine ast_i hE hP hD hS (32 + h) (gC_ds E a (upA (up2 (up2 (up2 (up2 I (28) (h) (s1_)) (29) (h) (p1_)) (30) (h) (q1_)) (31) (h) (0)) (32 + h) (flF (I (32 + h)) (bdF s1_ p1_ q1_) (t))) tr (h) (by omega)) (by omega) (by decide) (sC_ds E a (upA (up2 (up2 (up2 (up2 I (28) (h) (s1_)) (29) (h) (p1_)) (30) (h) (q1_)) (31) (h) (0)) (32 + h) (flF (I (32 + h)) (bdF s1_ p1_ q1_) (t))) tr (t) ((s1_ + (lv p1_ q1_ (t))) % (48)) (h) (by omega)) dX3_build_50 (fun H locs hP hD hS => ?_)
        refine lv_iinc (v := nI (t + 1)) (lv' := [(4, .int (nI (t + 1))), (0, .ref (a (60 + h)))]) hx hb dX3_build_51 hl (k := 1) rfl (ii1_N _) (by decide) rfl (fun ls hl => ?_)
        refine lv_goto (tgt := 23) hx hb dX3_build_54 (by decide) ?_
        exact ih23 (t + 1) (by omega) (by omega) ls _ _ (lv_sub hl [1, 0] rfl) (by have hw : (up2 (upA (up2 (up2 (up2 (up2 I (28) (h) (s1_)) (29) (h) (p1_)) (30) (h) (q1_)) (31) (h) (0)) (32 + h) (flF (I (32 + h)) (bdF s1_ p1_ q1_) (t))) (32 + h) (t) ((s1_ + (lv p1_ q1_ (t))) % (48))) = (upA (up2 (up2 (up2 (up2 I (28) (h) (s1_)) (29) (h) (p1_)) (30) (h) (q1_)) (31) (h) (0)) (32 + h) (flF (I (32 + h)) (bdF s1_ p1_ q1_) ((t + 1)))) := (by rw [up2_upA]; exact congrArg (upA _ (32 + h)) (flF_s _ _ _)); rw [hw] at hP; exact hP) (by have hw : (up2 (upA (up2 (up2 (up2 (up2 I (28) (h) (s1_)) (29) (h) (p1_)) (30) (h) (q1_)) (31) (h) (0)) (32 + h) (flF (I (32 + h)) (bdF s1_ p1_ q1_) (t))) (32 + h) (t) ((s1_ + (lv p1_ q1_ (t))) % (48))) = (upA (up2 (up2 (up2 (up2 I (28) (h) (s1_)) (29) (h) (p1_)) (30) (h) (q1_)) (31) (h) (0)) (32 + h) (flF (I (32 + h)) (bdF s1_ p1_ q1_) ((t + 1)))) := (by rw [up2_upA]; exact congrArg (upA _ (32 + h)) (flF_s _ _ _)); rw [hw] at hD; exact hD) hS
  exact loop23 (_ + 1) (0) (Nat.lt_succ_self _) (by omega) ls _ _ (lv_sub hl [1, 0] rfl) (by have hw : (up2 (up2 (up2 (up2 I (28) (h) (s1_)) (29) (h) (p1_)) (30) (h) (q1_)) (31) (h) (0)) = (upA (up2 (up2 (up2 (up2 I (28) (h) (s1_)) (29) (h) (p1_)) (30) (h) (q1_)) (31) (h) (0)) (32 + h) (flF (I (32 + h)) (bdF s1_ p1_ q1_) ((0)))) := (by rw [flF_0]; exact ((congrArg (upA (bdI I h s1_ p1_ q1_) (32 + h)) (bd_d I h s1_ p1_ q1_).symm).trans (upA_self _ _)).symm); rw [hw] at hP; exact hP) (by have hw : (up2 (up2 (up2 (up2 I (28) (h) (s1_)) (29) (h) (p1_)) (30) (h) (q1_)) (31) (h) (0)) = (upA (up2 (up2 (up2 (up2 I (28) (h) (s1_)) (29) (h) (p1_)) (30) (h) (q1_)) (31) (h) (0)) (32 + h) (flF (I (32 + h)) (bdF s1_ p1_ q1_) ((0)))) := (by rw [flF_0]; exact ((congrArg (upA (bdI I h s1_ p1_ q1_) (32 + h)) (bd_d I h s1_ p1_ q1_).symm).trans (upA_self _ _)).symm); rw [hw] at hD; exact hD) hS

set_option maxHeartbeats 4000000 in
set_option maxRecDepth 100000 in
theorem ct_X3_addLeap (l : Launch) (E : cE) (a : Nat → Nat) (I : Nat → Nat → Nat) (tr : Int64) (h f1_ b1_ : Nat) (hh : h < 6) (hf96 : f1_ < 96) (hb48 : b1_ < 48) (hl2 : I 31 h ≤ 2) (hd48 : ∀ t, t < 96 → I (32 + h) t < 48) : Ct l E 1 yX3_addLeap cX3_addLeap 4 none [.ref (a (60 + h)), .int (nI (f1_)), .int (nI (b1_))] (WC E a I tr) none (WC E a (lpI I h f1_ b1_) tr) := by
  refine Ct_of (plainFor_of_name (by decide)) (Nat.le_of_ble_eq_true rfl) ?_
  intro p e s m args below meth c A ls hE hP hD hS hl
  have hE : cEnv p s m args meth c E RX3 cX3_addLeap 4 none A := hE
  have hx := hE.1
  have hb := hE.2.1
  have hl : lv_has ls 4 [(0, .ref (a (60 + h))), (1, .int (nI (f1_))), (2, .int (nI (b1_)))] := hl
  have hP : va_P E.1 vwCl (WC E a I tr) s.heap := hP
  generalize hH : s.heap = H at hP hS ⊢
  have hS : va_S A s.heap H [] := by rw [hH]; exact hS
  clear hH
  refine lv_aload_n hx hb dX3_addLeap_0 rfl (lv_at hl 0 rfl) ?_
  refine lv_dup hx hb dX3_addLeap_1 rfl ?_
  refine gf_X3_25 hE hP (26 + h) (gC_hs E a I tr (h) (by omega)) (v := .int (nI (I (31) (h)))) rfl dX3_addLeap_2 ?_
  refine lv_iconst (v := nI (1)) hx hb dX3_addLeap_5 (by decide) ?_
  refine lv_iadd hx hb dX3_addLeap_6 ?_
  refine tp (nI_add _ _) ?_
  refine pf_X3_25 hE hP hD hS (26 + h) (gC_hs E a I tr (h) (by omega)) rfl rfl (Nat.le_of_ble_eq_true rfl) (sC_hs_4 E a I tr (I (31) (h) + 1) (h) (by omega)) dX3_addLeap_7 (fun H locs hP hD hS => ?_)
  refine lv_iload_n hx hb dX3_addLeap_10 rfl (lv_at hl 1 rfl) ?_
  refine lv_iconst (v := nI (0)) hx hb dX3_addLeap_11 (by decide) ?_
  refine va_mmax hx hb (hE.2.2.2.2.2.1.trans hl.1.symm) hE.2.2.2.2.1 (hE.2.2.2.1 _ (uw mt_L_X3_32 rfl)) (hE.2.2.2.1 _ (uw mt_T_J9_max_7cf53 rfl)) (hE.2.2.2.1 _ (uw mt_N_J9 rfl)) (hE.2.2.2.1 _ (uw mt_C_J9_max_7cf53 rfl)) (by decide) (by decide) (Nat.zero_le _) (Nat.zero_le _) dX3_addLeap_12 ?_
  refine tp (nI_max (by omega) (by omega)) ?_
  refine tp (show nI (max (f1_) (0)) = nI f1_ by rw [Nat.max_eq_left (Nat.zero_le _)]) ?_
  refine lv_istore_n (lv' := [(3, .int (nI (f1_))), (0, .ref (a (60 + h))), (1, .int (nI (f1_))), (2, .int (nI (b1_)))]) hx hb dX3_addLeap_15 rfl hl (by decide) rfl (fun ls hl => ?_)
  have loop16 : ∀ (fu16 : Nat) (t : Nat), 96 - t < fu16 → (t ≤ 96) → (f1_ ≤ t) → ∀ (ls : Array Slot) (H : Heap) (locs : List Loc), lv_has ls 4 [(0, .ref (a (60 + h))), (2, .int (nI (b1_))), (3, .int (nI (t)))] → va_P E.1 vwCl (WC E a (upA (up2 I (31) (h) (I 31 h + 1)) (32 + h) (adF (I (32 + h)) f1_ b1_ (t))) tr) H → va_D A (WC E a (upA (up2 I (31) (h) (I 31 h + 1)) (32 + h) (adF (I (32 + h)) f1_ b1_ (t))) tr) → va_S A s.heap H locs → W p l e (rmL 1) s m args below meth c H locs 0 0 (RQ E below args s A none (WC E a (lpI I h f1_ b1_) tr)) (F0 m 16 ls []) := by
    intro fu16
    induction fu16 with
    | zero => intro t h; exact absurd h (Nat.not_lt_zero _)
    | succ fu16 ih16 =>
      intro t hfu16 ht ht2 ls H locs hl hP hD hS
      refine lv_iload_n hx hb dX3_addLeap_16 rfl (lv_at hl 2 rfl) ?_
      refine lv_bipush (v := nI (96)) hx hb dX3_addLeap_17 (by decide) ?_
      refine bN_ge (tgt := 45) hx hb (by omega) (by omega) dX3_addLeap_19 (by decide) (fun c19 => ?_) (fun c19 => ?_)
      · have hw : (upA (up2 I (31) (h) (I 31 h + 1)) (32 + h) (adF (I (32 + h)) f1_ b1_ (t))) = (lpI I h f1_ b1_) := by rw [show t = 96 by omega]; rfl
        have hP := Eq.mp (congrArg (fun q => va_P E.1 vwCl (WC E a q tr) H) hw) hP
        have hD := Eq.mp (congrArg (fun q => va_D A (WC E a q tr)) hw) hD
        exact ret_v hE rfl hP hD hS dX3_addLeap_45
      · refine lv_aload_n hx hb dX3_addLeap_22 rfl (lv_at hl 0 rfl) ?_
        refine gf_X3_9 hE hP (26 + h) (gC_hs E a (upA (up2 I (31) (h) (I 31 h + 1)) (32 + h) (adF (I (32 + h)) f1_ b1_ (t))) tr (h) (by omega)) (v := .ref (a (70 + h))) rfl dX3_addLeap_23 ?_
        refine lv_iload_n hx hb dX3_addLeap_26 rfl (lv_at hl 2 rfl) ?_
        refine lv_aload_n hx hb dX3_addLeap_27 rfl (lv_at hl 0 rfl) ?_
        refine gf_X3_9 hE hP (26 + h) (gC_hs E a (upA (up2 I (31) (h) (I 31 h + 1)) (32 + h) (adF (I (32 + h)) f1_ b1_ (t))) tr (h) (by omega)) (v := .ref (a (70 + h))) rfl dX3_addLeap_28 ?_
        refine lv_iload_n hx hb dX3_addLeap_31 rfl (lv_at hl 2 rfl) ?_
        refine ald_i hE hP (32 + h) (gC_ds E a (upA (up2 I (31) (h) (I 31 h + 1)) (32 + h) (adF (I (32 + h)) f1_ b1_ (t))) tr (h) (by omega)) (by omega) (by decide) (r := nI ((adF (I (32 + h)) f1_ b1_ (t)) (t))) (congrArg nI (congrFun (upA_at _ _ _) _)) dX3_addLeap_32 ?_
        refine tp (show nI ((adF (I (32 + h)) f1_ b1_ (t)) (t)) = nI (I (32 + h) t) by rw [adF_at]) ?_
        have hdt := hd48 t (by omega)
        refine lv_iload_n hx hb dX3_addLeap_33 rfl (lv_at hl 1 rfl) ?_
        refine lv_iadd hx hb dX3_addLeap_34 ?_
        refine tp (nI_add _ _) ?_
        refine lv_bipush (v := nI (48)) hx hb dX3_addLeap_35 (by decide) ?_
        refine lv_irem hx hb dX3_addLeap_37 (nI_ne0 (by omega) (by omega)) ?_
        refine tp (pk_rem (by omega) (by omega) (by omega)) ?_
        refine ast_i hE hP hD hS (32 + h) (gC_ds E a (upA (up2 I (31) (h) (I 31 h + 1)) (32 + h) (adF (I (32 + h)) f1_ b1_ (t))) tr (h) (by omega)) (by omega) (by decide) (sC_ds E a (upA (up2 I (31) (h) (I 31 h + 1)) (32 + h) (adF (I (32 + h)) f1_ b1_ (t))) tr (t) ((I (32 + h) t + b1_) % (48)) (h) (by omega)) dX3_addLeap_38 (fun H locs hP hD hS => ?_)
        refine lv_iinc (v := nI (t + 1)) (lv' := [(3, .int (nI (t + 1))), (0, .ref (a (60 + h))), (2, .int (nI (b1_)))]) hx hb dX3_addLeap_39 hl (k := 2) rfl (ii1_N _) (by decide) rfl (fun ls hl => ?_)
        refine lv_goto (tgt := 16) hx hb dX3_addLeap_42 (by decide) ?_
        exact ih16 (t + 1) (by omega) (by omega) (by omega) ls _ _ (lv_sub hl [1, 2, 0] rfl) (by have hw : (up2 (upA (up2 I (31) (h) (I 31 h + 1)) (32 + h) (adF (I (32 + h)) f1_ b1_ (t))) (32 + h) (t) ((I (32 + h) t + b1_) % (48))) = (upA (up2 I (31) (h) (I 31 h + 1)) (32 + h) (adF (I (32 + h)) f1_ b1_ ((t + 1)))) := (by rw [up2_upA]; exact congrArg (upA _ (32 + h)) (adF_s _ ht2)); rw [hw] at hP; exact hP) (by have hw : (up2 (upA (up2 I (31) (h) (I 31 h + 1)) (32 + h) (adF (I (32 + h)) f1_ b1_ (t))) (32 + h) (t) ((I (32 + h) t + b1_) % (48))) = (upA (up2 I (31) (h) (I 31 h + 1)) (32 + h) (adF (I (32 + h)) f1_ b1_ ((t + 1)))) := (by rw [up2_upA]; exact congrArg (upA _ (32 + h)) (adF_s _ ht2)); rw [hw] at hD; exact hD) hS
  exact loop16 (_ + 1) (f1_) (Nat.lt_succ_self _) (by omega) (by omega) ls _ _ (lv_sub hl [1, 3, 0] rfl) (by have hw : (up2 I (31) (h) (I (31) (h) + 1)) = (upA (up2 I (31) (h) (I 31 h + 1)) (32 + h) (adF (I (32 + h)) f1_ b1_ ((f1_)))) := (by rw [adF_0]; exact ((congrArg (upA (up2 I 31 h (I 31 h + 1)) (32 + h)) (up2_off I h (I 31 h + 1) (by omega)).symm).trans (upA_self _ _)).symm); rw [hw] at hP; exact hP) (by have hw : (up2 I (31) (h) (I (31) (h) + 1)) = (upA (up2 I (31) (h) (I 31 h + 1)) (32 + h) (adF (I (32 + h)) f1_ b1_ ((f1_)))) := (by rw [adF_0]; exact ((congrArg (upA (up2 I 31 h (I 31 h + 1)) (32 + h)) (up2_off I h (I 31 h + 1) (by omega)).symm).trans (upA_self _ _)).symm); rw [hw] at hD; exact hD) hS

set_option maxHeartbeats 4000000 in
set_option maxRecDepth 100000 in
theorem ct_X7_addHouse (l : Launch) (E : cE) (a : Nat → Nat) (I : Nat → Nat → Nat) (tr : Int64) (s1_ p1_ q1_ : Nat) (hc6 : I 26 0 < 6) (hs48 : s1_ < 48) (hp9 : p1_ ≤ 9) (hq9 : q1_ ≤ 9) : Ct l E 2 yX7_addHouse cX7_addHouse 4 none [.ref (a 12), .int (nI (s1_)), .int (nI (p1_)), .int (nI (q1_))] (WC E a I tr) none (WC E a (ahI I s1_ p1_ q1_) tr) := by
  refine Ct_of (plainFor_of_name (by decide)) (Nat.le_of_ble_eq_true rfl) ?_
  intro p e s m args below meth c A ls hE hP hD hS hl
  have hE : cEnv p s m args meth c E RX7 cX7_addHouse 4 none A := hE
  have hx := hE.1
  have hb := hE.2.1
  have hl : lv_has ls 4 [(0, .ref (a 12)), (1, .int (nI (s1_))), (2, .int (nI (p1_))), (3, .int (nI (q1_)))] := hl
  have hP : va_P E.1 vwCl (WC E a I tr) s.heap := hP
  generalize hH : s.heap = H at hP hS ⊢
  have hS : va_S A s.heap H [] := by rw [hH]; exact hS
  clear hH
  refine lv_aload_n hx hb dX7_addHouse_0 rfl (lv_at hl 0 rfl) ?_
  refine gf_X7_22 hE hP (24) (gC_24 E a I tr) (v := .int (nI (I (26) (0)))) rfl dX7_addHouse_1 ?_
  refine lv_bipush (v := nI (6)) hx hb dX7_addHouse_4 (by decide) ?_
  refine bN_ge (tgt := 34) hx hb (by omega) (by omega) dX7_addHouse_6 (by decide) (fun c6 => absurd c6 (by omega)) (fun c6 => ?_)
  refine lv_aload_n hx hb dX7_addHouse_9 rfl (lv_at hl 0 rfl) ?_
  refine gf_X7_11 hE hP (24) (gC_24 E a I tr) (v := .ref (a 18)) rfl dX7_addHouse_10 ?_
  refine lv_aload_n hx hb dX7_addHouse_13 rfl (lv_at hl 0 rfl) ?_
  refine gf_X7_22 hE hP (24) (gC_24 E a I tr) (v := .int (nI (I (26) (0)))) rfl dX7_addHouse_14 ?_
  refine ald_q 3 hE hP 25 (gC_25 E a I tr) rfl (by omega) (by decide) (r := a (60 + I (26) (0))) rfl dX7_addHouse_17 ?_
  refine lv_iload_n hx hb dX7_addHouse_18 rfl (lv_at hl 1 rfl) ?_
  refine lv_iload_n hx hb dX7_addHouse_19 rfl (lv_at hl 2 rfl) ?_
  refine lv_iload_n hx hb dX7_addHouse_20 rfl (lv_at hl 3 rfl) ?_
  refine call_V (As := [.int (nI (s1_)), .int (nI (p1_)), .int (nI (q1_))]) (rest := []) hE (ct_X3_build l E a I tr (I 26 0) (s1_) (p1_) (q1_) hc6 hs48 hp9 hq9) cm_X3_build (uw mt_L_X7_25 rfl) (gC_hs E a I tr (I (26) (0)) (by omega)) rfl rfl hP hD hS hl.1 rfl rfl (Nat.le_of_ble_eq_true rfl) ⟨by decide, by decide⟩ dX7_addHouse_21 (fun H locs hP hD hS => ?_)
  refine W.eq (g2 := F0 m 24 ls []) rfl ?_
  refine lv_aload_n hx hb dX7_addHouse_24 rfl (lv_at hl 0 rfl) ?_
  have hbo : buI I (I 26 0) s1_ p1_ q1_ 26 = I 26 := buI_off _ _ _ _ _ (by decide) hc6
  refine lv_dup hx hb dX7_addHouse_25 rfl ?_
  refine gf_X7_22 hE hP (24) (gC_24 E a (buI I (I 26 0) (s1_) (p1_) (q1_)) tr) (v := .int (nI ((buI I (I 26 0) (s1_) (p1_) (q1_)) (26) (0)))) rfl dX7_addHouse_26 ?_
  refine tp (show nI ((buI I (I 26 0) (s1_) (p1_) (q1_)) (26) (0)) = nI (I 26 0) by rw [hbo]) ?_
  refine lv_iconst (v := nI (1)) hx hb dX7_addHouse_29 (by decide) ?_
  refine lv_iadd hx hb dX7_addHouse_30 ?_
  refine tp (nI_add _ _) ?_
  refine pf_X7_22 hE hP hD hS (24) (gC_24 E a (buI I (I 26 0) (s1_) (p1_) (q1_)) tr) rfl rfl (Nat.le_of_ble_eq_true rfl) (sC_24_1 E a (buI I (I 26 0) (s1_) (p1_) (q1_)) tr (I 26 0 + 1)) dX7_addHouse_31 (fun H locs hP hD hS => ?_)
  have hw : (up2 (buI I (I 26 0) (s1_) (p1_) (q1_)) (26) (0) (I 26 0 + 1)) = (ahI I s1_ p1_ q1_) := rfl
  have hP := Eq.mp (congrArg (fun q => va_P E.1 vwCl (WC E a q tr) H) hw) hP
  have hD := Eq.mp (congrArg (fun q => va_D A (WC E a q tr)) hw) hD
  exact ret_v hE rfl hP hD hS dX7_addHouse_34

set_option maxHeartbeats 4000000 in
set_option maxRecDepth 100000 in
theorem ct_X5_readsHouse (l : Launch) (E : cE) (a : Nat → Nat) (I : Nat → Nat → Nat) (tr : Int64) (hR : RK I) (hDs : DKs I) : Ct l E 8 yX5_readsHouse cX5_readsHouse 3 (some .boolean) [.ref (a 2)] (WC E a I tr) (some (.int (bB (rhI I).1))) (WC E a (rhI I).2 tr) := by
  refine Ct_of (plainFor_of_name (by decide)) (Nat.le_of_ble_eq_true rfl) ?_
  intro p e s m args below meth c A ls hE hP hD hS hl
  have hE : cEnv p s m args meth c E RX5 cX5_readsHouse 3 (some .boolean) A := hE
  have hx := hE.1
  have hb := hE.2.1
  have hl : lv_has ls 3 [(0, .ref (a 2))] := hl
  have hP : va_P E.1 vwCl (WC E a I tr) s.heap := hP
  generalize hH : s.heap = H at hP hS ⊢
  have hS : va_S A s.heap H [] := by rw [hH]; exact hS
  clear hH
  have hT := hR.1
  have hT3 := hT.1
  have h20 := hR.2.1
  have h30 := hR.2.2.1
  have h40 := hR.2.2.2.1
  have h50 := hR.2.2.2.2
  have hc6 := hDs.1
  refine lv_aload_n hx hb dX5_readsHouse_0 rfl (lv_at hl 0 rfl) ?_
  refine gf_X5_12 hE hP (3) (gC_3 E a I tr) (v := .ref (a 12)) rfl dX5_readsHouse_1 ?_
  refine gf_X5_52 hE hP (24) (gC_24 E a I tr) (v := .int (nI (I (26) (0)))) rfl dX5_readsHouse_4 ?_
  refine lv_bipush (v := nI (6)) hx hb dX5_readsHouse_7 (by decide) ?_
  refine bN_ge (tgt := 22) hx hb (by omega) (by omega) dX5_readsHouse_9 (by decide) (fun c9 => ?_) (fun c9 => ?_)
  · refine lv_iconst (v := nI (0)) hx hb dX5_readsHouse_22 (by decide) ?_
    have hw : I = (rhI I).2 := by first | (unfold rhI; rw [if_pos c9]; done)
    have hP := Eq.mp (congrArg (fun q => va_P E.1 vwCl (WC E a q tr) H) hw) hP
    have hD := Eq.mp (congrArg (fun q => va_D A (WC E a q tr)) hw) hD
    exact ret_z hE (r := nI (0)) (by decide) (by first | (unfold rhI; rw [if_pos c9]; rfl; done)) hP hD hS dX5_readsHouse_23
  · refine lv_aload_n hx hb dX5_readsHouse_12 rfl (lv_at hl 0 rfl) ?_
    refine lv_iconst (v := nI (0)) hx hb dX5_readsHouse_13 (by decide) ?_
    refine lv_bipush (v := nI (47)) hx hb dX5_readsHouse_14 (by decide) ?_
    refine call_V (As := [.int (nI (0)), .int (nI (47))]) (rest := []) hE (ct_X5_readsNumber l E a I tr (nI (0)) (nI (47)) hR) cm_X5_readsNumber (uw mt_L_X5_55 rfl) (gC_3 E a I tr) rfl rfl hP hD hS hl.1 rfl rfl (Nat.le_of_ble_eq_true rfl) ⟨by decide, by decide⟩ dX5_readsHouse_16 (fun H locs hP hD hS => ?_)
    refine W.eq (g2 := F0 m 19 ls [.int (bB (numB (stI I) (nI (0)) (nI (47))))]) rfl ?_
    have hR1 : RK (stI I) := RK_st hR
    have hR14 := hR1.2.2.2.1
    have hR15 := hR1.2.2.2.2
    refine bB_ne (tgt := 24) hx hb dX5_readsHouse_19 (by decide) (fun c19 => ?_) (fun c19 => ?_)
    · have hn1 := numB_v (lo := 0) (hi := 47) (by omega) (by decide) (by decide) c19
      refine lv_aload_n hx hb dX5_readsHouse_24 rfl (lv_at hl 0 rfl) ?_
      refine gf_X5_59 hE hP (3) (gC_3 E a (stI I) tr) (v := .int (nI ((stI I) (5) (0)))) rfl dX5_readsHouse_25 ?_
      refine lv_istore_n (lv' := [(1, .int (nI ((stI I) (5) (0)))), (0, .ref (a 2))]) hx hb dX5_readsHouse_28 rfl hl (by decide) rfl (fun ls hl => ?_)
      refine lv_aload_n hx hb dX5_readsHouse_29 rfl (lv_at hl 1 rfl) ?_
      refine lv_iconst (v := nI (1)) hx hb dX5_readsHouse_30 (by decide) ?_
      refine lv_bipush (v := nI (9)) hx hb dX5_readsHouse_31 (by decide) ?_
      refine call_V (As := [.int (nI (1)), .int (nI (9))]) (rest := []) hE (ct_X5_readsNumber l E a (stI I) tr (nI (1)) (nI (9)) hR1) cm_X5_readsNumber (uw mt_L_X5_55 rfl) (gC_3 E a (stI I) tr) rfl rfl hP hD hS hl.1 rfl rfl (Nat.le_of_ble_eq_true rfl) ⟨by decide, by decide⟩ dX5_readsHouse_33 (fun H locs hP hD hS => ?_)
      refine W.eq (g2 := F0 m 36 ls [.int (bB (numB (stI (stI I)) (nI (1)) (nI (9))))]) rfl ?_
      have hR2 : RK (stI (stI I)) := RK_st hR1
      have hR24 := hR2.2.2.2.1
      have hR25 := hR2.2.2.2.2
      refine bB_ne (tgt := 41) hx hb dX5_readsHouse_36 (by decide) (fun c36 => ?_) (fun c36 => ?_)
      · have hn2 := numB_v (lo := 1) (hi := 9) (by omega) (by decide) (by decide) c36
        refine lv_aload_n hx hb dX5_readsHouse_41 rfl (lv_at hl 1 rfl) ?_
        refine gf_X5_59 hE hP (3) (gC_3 E a (stI (stI I)) tr) (v := .int (nI ((stI (stI I)) (5) (0)))) rfl dX5_readsHouse_42 ?_
        refine lv_istore_n (lv' := [(2, .int (nI ((stI (stI I)) (5) (0)))), (1, .int (nI ((stI I) (5) (0)))), (0, .ref (a 2))]) hx hb dX5_readsHouse_45 rfl hl (by decide) rfl (fun ls hl => ?_)
        refine lv_aload_n hx hb dX5_readsHouse_46 rfl (lv_at hl 2 rfl) ?_
        refine lv_iconst (v := nI (1)) hx hb dX5_readsHouse_47 (by decide) ?_
        refine lv_bipush (v := nI (9)) hx hb dX5_readsHouse_48 (by decide) ?_
        refine call_V (As := [.int (nI (1)), .int (nI (9))]) (rest := []) hE (ct_X5_readsNumber l E a (stI (stI I)) tr (nI (1)) (nI (9)) hR2) cm_X5_readsNumber (uw mt_L_X5_55 rfl) (gC_3 E a (stI (stI I)) tr) rfl rfl hP hD hS hl.1 rfl rfl (Nat.le_of_ble_eq_true rfl) ⟨by decide, by decide⟩ dX5_readsHouse_50 (fun H locs hP hD hS => ?_)
        refine W.eq (g2 := F0 m 53 ls [.int (bB (numB (stI (stI (stI I))) (nI (1)) (nI (9))))]) rfl ?_
        have hR3 : RK (stI (stI (stI I))) := RK_st hR2
        have hR34 := hR3.2.2.2.1
        have hR35 := hR3.2.2.2.2
        refine bB_ne (tgt := 58) hx hb dX5_readsHouse_53 (by decide) (fun c53 => ?_) (fun c53 => ?_)
        · have hn3 := numB_v (lo := 1) (hi := 9) (by omega) (by decide) (by decide) c53
          have hcc : (stI (stI (stI I))) 26 0 < 6 := by rw [stI_off _ (by decide), stI_off _ (by decide), stI_off _ (by decide)]; exact c9
          refine lv_aload_n hx hb dX5_readsHouse_58 rfl (lv_at hl 2 rfl) ?_
          refine gf_X5_12 hE hP (3) (gC_3 E a (stI (stI (stI I))) tr) (v := .ref (a 12)) rfl dX5_readsHouse_59 ?_
          refine lv_iload_n hx hb dX5_readsHouse_62 rfl (lv_at hl 1 rfl) ?_
          refine lv_iload_n hx hb dX5_readsHouse_63 rfl (lv_at hl 0 rfl) ?_
          refine lv_aload_n hx hb dX5_readsHouse_64 rfl (lv_at hl 2 rfl) ?_
          refine gf_X5_59 hE hP (3) (gC_3 E a (stI (stI (stI I))) tr) (v := .int (nI ((stI (stI (stI I))) (5) (0)))) rfl dX5_readsHouse_65 ?_
          refine call_V (As := [.int (nI ((stI I) (5) (0))), .int (nI ((stI (stI I)) (5) (0))), .int (nI ((stI (stI (stI I))) (5) (0)))]) (rest := []) hE (ct_X7_addHouse l E a (stI (stI (stI I))) tr ((stI I) (5) (0)) ((stI (stI I)) (5) (0)) ((stI (stI (stI I))) (5) (0)) hcc (by omega) (by omega) (by omega)) cm_X7_addHouse (uw mt_L_X5_62 rfl) (gC_24 E a (stI (stI (stI I))) tr) rfl rfl hP hD hS hl.1 rfl rfl (Nat.le_of_ble_eq_true rfl) ⟨by decide, by decide⟩ dX5_readsHouse_68 (fun H locs hP hD hS => ?_)
          refine W.eq (g2 := F0 m 71 ls []) rfl ?_
          have hR4 : RK (ahI (stI (stI (stI I))) ((stI I) (5) (0)) ((stI (stI I)) (5) (0)) ((stI (stI (stI I))) (5) (0))) := RK_of hR3 (fun k hk => ahI_off _ _ _ _ (by omega) hcc)
          refine lv_aload_n hx hb dX5_readsHouse_71 rfl (lv_at hl 2 rfl) ?_
          refine call_V (As := []) (rest := []) hE (ct_X5_readsSemicolon l E a (ahI (stI (stI (stI I))) ((stI I) (5) (0)) ((stI (stI I)) (5) (0)) ((stI (stI (stI I))) (5) (0))) tr hR4) cm_X5_readsSemicolon (uw mt_L_X5_66 rfl) (gC_3 E a (ahI (stI (stI (stI I))) ((stI I) (5) (0)) ((stI (stI I)) (5) (0)) ((stI (stI (stI I))) (5) (0))) tr) rfl rfl hP hD hS hl.1 rfl rfl (Nat.le_of_ble_eq_true rfl) ⟨by decide, by decide⟩ dX5_readsHouse_72 (fun H locs hP hD hS => ?_)
          refine W.eq (g2 := F0 m 75 ls [.int (bB (decide (stI (ahI (stI (stI (stI I))) ((stI I) (5) (0)) ((stI (stI I)) (5) (0)) ((stI (stI (stI I))) (5) (0))) 4 0 = 3)))]) rfl ?_
          have hw : (stI (ahI (stI (stI (stI I))) ((stI I) (5) (0)) ((stI (stI I)) (5) (0)) ((stI (stI (stI I))) (5) (0)))) = (rhI I).2 := by first | (unfold rhI; rw [if_pos c9]; done) | (unfold rhI; rw [if_neg (by omega), if_pos c19]; done) | (unfold rhI; rw [if_neg (by omega), if_neg (by rw [c19]; decide), if_pos c36]; done) | (unfold rhI; rw [if_neg (by omega), if_neg (by rw [c19]; decide), if_neg (by rw [c36]; decide), if_pos c53]; done) | (unfold rhI; rw [if_neg (by omega), if_neg (by rw [c19]; decide), if_neg (by rw [c36]; decide), if_neg (by rw [c53]; decide)]; done)
          have hP := Eq.mp (congrArg (fun q => va_P E.1 vwCl (WC E a q tr) H) hw) hP
          have hD := Eq.mp (congrArg (fun q => va_D A (WC E a q tr)) hw) hD
          exact ret_z hE (r := bB (decide (stI (ahI (stI (stI (stI I))) ((stI I) (5) (0)) ((stI (stI I)) (5) (0)) ((stI (stI (stI I))) (5) (0))) 4 0 = 3))) (bB_nar _) (by first | (unfold rhI; rw [if_pos c9]; rfl; done) | (unfold rhI; rw [if_neg (by omega), if_pos c19]; rfl; done) | (unfold rhI; rw [if_neg (by omega), if_neg (by rw [c19]; decide), if_pos c36]; rfl; done) | (unfold rhI; rw [if_neg (by omega), if_neg (by rw [c19]; decide), if_neg (by rw [c36]; decide), if_pos c53]; rfl; done) | (unfold rhI; rw [if_neg (by omega), if_neg (by rw [c19]; decide), if_neg (by rw [c36]; decide), if_neg (by rw [c53]; decide)]; done)) hP hD hS dX5_readsHouse_75
        · refine lv_iconst (v := nI (0)) hx hb dX5_readsHouse_56 (by decide) ?_
          have hw : (stI (stI (stI I))) = (rhI I).2 := by first | (unfold rhI; rw [if_pos c9]; done) | (unfold rhI; rw [if_neg (by omega), if_pos c19]; done) | (unfold rhI; rw [if_neg (by omega), if_neg (by rw [c19]; decide), if_pos c36]; done) | (unfold rhI; rw [if_neg (by omega), if_neg (by rw [c19]; decide), if_neg (by rw [c36]; decide), if_pos c53]; done) | (unfold rhI; rw [if_neg (by omega), if_neg (by rw [c19]; decide), if_neg (by rw [c36]; decide), if_neg (by rw [c53]; decide)]; done)
          have hP := Eq.mp (congrArg (fun q => va_P E.1 vwCl (WC E a q tr) H) hw) hP
          have hD := Eq.mp (congrArg (fun q => va_D A (WC E a q tr)) hw) hD
          exact ret_z hE (r := nI (0)) (by decide) (by first | (unfold rhI; rw [if_pos c9]; rfl; done) | (unfold rhI; rw [if_neg (by omega), if_pos c19]; rfl; done) | (unfold rhI; rw [if_neg (by omega), if_neg (by rw [c19]; decide), if_pos c36]; rfl; done) | (unfold rhI; rw [if_neg (by omega), if_neg (by rw [c19]; decide), if_neg (by rw [c36]; decide), if_pos c53]; rfl; done) | (unfold rhI; rw [if_neg (by omega), if_neg (by rw [c19]; decide), if_neg (by rw [c36]; decide), if_neg (by rw [c53]; decide)]; done)) hP hD hS dX5_readsHouse_57
      · refine lv_iconst (v := nI (0)) hx hb dX5_readsHouse_39 (by decide) ?_
        have hw : (stI (stI I)) = (rhI I).2 := by first | (unfold rhI; rw [if_pos c9]; done) | (unfold rhI; rw [if_neg (by omega), if_pos c19]; done) | (unfold rhI; rw [if_neg (by omega), if_neg (by rw [c19]; decide), if_pos c36]; done)
        have hP := Eq.mp (congrArg (fun q => va_P E.1 vwCl (WC E a q tr) H) hw) hP
        have hD := Eq.mp (congrArg (fun q => va_D A (WC E a q tr)) hw) hD
        exact ret_z hE (r := nI (0)) (by decide) (by first | (unfold rhI; rw [if_pos c9]; rfl; done) | (unfold rhI; rw [if_neg (by omega), if_pos c19]; rfl; done) | (unfold rhI; rw [if_neg (by omega), if_neg (by rw [c19]; decide), if_pos c36]; rfl; done)) hP hD hS dX5_readsHouse_40
    · refine lv_iconst (v := nI (0)) hx hb dX5_readsHouse_22 (by decide) ?_
      have hw : (stI I) = (rhI I).2 := by first | (unfold rhI; rw [if_pos c9]; done) | (unfold rhI; rw [if_neg (by omega), if_pos c19]; done)
      have hP := Eq.mp (congrArg (fun q => va_P E.1 vwCl (WC E a q tr) H) hw) hP
      have hD := Eq.mp (congrArg (fun q => va_D A (WC E a q tr)) hw) hD
      exact ret_z hE (r := nI (0)) (by decide) (by first | (unfold rhI; rw [if_pos c9]; rfl; done) | (unfold rhI; rw [if_neg (by omega), if_pos c19]; rfl; done)) hP hD hS dX5_readsHouse_23
