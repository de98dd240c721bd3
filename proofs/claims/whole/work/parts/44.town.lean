def tyI (I : Nat → Nat → Nat) (v : Int64) (p : Int32) : Nat → Nat → Nat := cond (wi p (nI 1) (nI 8)) (if I 1 0 + tn p ≤ 300 then up2 (upA I 0 (tyB (I 0) (I 1 0) v (tn p) 0)) 1 0 (I 1 0 + tn p) else I) I
def r_type (len : Nat) (p : Int32) : Int32 := cond (wi p (nI 1) (nI 8)) (if len + tn p ≤ 300 then nI (len + tn p) else -3) (-1)
def baI (I : Nat → Nat → Nat) : Nat → Nat → Nat := upA (up2 (up2 (up2 (up2 (up2 (upA (up2 I 1 0 0) 7 (flN (I 7) 6 0)) 10 0 0) 11 0 0) 44 0 0) 47 0 0) 55 0 0) 70 (flN (I 70) 2 0)
theorem flN_s0 (g : Nat → Nat) (k v : Nat) : upN (flN g k v) k v = flN g (k + 1) v := by
  funext j
  unfold upN flN
  by_cases h1 : j = k
  · subst h1; rw [if_pos rfl, if_pos (by omega)]
  · rw [if_neg h1]
    by_cases h2 : j < k
    · rw [if_pos h2, if_pos (by omega)]
    · rw [if_neg h2, if_neg (by omega)]
theorem flN_00 (g : Nat → Nat) (v : Nat) : flN g 0 v = g := by funext j; unfold flN; rw [if_neg (by omega)]

set_option maxHeartbeats 4000000 in
set_option maxRecDepth 100000 in
theorem ct_X9_type (l : Launch) (E : cE) (a : Nat → Nat) (I : Nat → Nat → Nat) (tr : Int64) (zv : Int64) (zp1 : Int32) (h300 : I 1 0 ≤ 300) : Ct l E 1 yX9_type cX9_type 4 (some .int) [.ref (a 0), .long (zv), .int (zp1)] (WC E a I tr) (some (.int (r_type (I 1 0) zp1))) (WC E a (tyI I zv zp1) tr) := by
  refine Ct_of (plainFor_of_name (by decide)) (Nat.le_of_ble_eq_true rfl) ?_
  intro p e s m args below meth c A ls hE hP hD hS hl
  have hE : cEnv p s m args meth c E RX9 cX9_type 4 (some .int) A := hE
  have hx := hE.1
  have hb := hE.2.1
  have hl : lv_has ls 4 [(0, .ref (a 0)), (1, .long (zv)), (3, .int (zp1))] := hl
  have hP : va_P E.1 vwCl (WC E a I tr) s.heap := hP
  generalize hH : s.heap = H at hP hS ⊢
  have hS : va_S A s.heap H [] := by rw [hH]; exact hS
  clear hH
  refine lv_iload_n hx hb dX9_type_0 rfl (lv_at hl 2 rfl) ?_
  refine lv_iconst (v := nI (1)) hx hb dX9_type_1 (by decide) ?_
  refine lv_bipush (v := nI (8)) hx hb dX9_type_2 (by decide) ?_
  refine call_S (As := [.int (zp1), .int (nI (1)), .int (nI (8))]) (rest := []) hE (ct_X9_isWithin l E (WC E a I tr) ((zp1)) (nI (1)) (nI (8))) cm_X9_isWithin (uw mt_L_X9_73 rfl) hP hD hS hl.1 rfl rfl (Nat.le_of_ble_eq_true rfl) ⟨by decide, by decide⟩ dX9_type_4 (fun H locs hP hD hS => ?_)
  refine W.eq (g2 := F0 m 7 ls [.int (bB (wi ((zp1)) (nI (1)) (nI (8))))]) rfl ?_
  refine bB_ne (tgt := 12) hx hb dX9_type_7 (by decide) (fun c7 => ?_) (fun c7 => ?_)
  · obtain ⟨n, qn1, qn2, rfl⟩ := wi_of (by decide) (by decide) c7
    have kn : tn (nI n) = n := tn_nI (by omega)
    refine lv_aload_n hx hb dX9_type_12 rfl (lv_at hl 0 rfl) ?_
    refine gf_X9_10 hE hP (0) (gC_0 E a I tr) (v := .ref (a 1)) rfl dX9_type_13 ?_
    refine gf_X9_77 hE hP (1) (gC_1 E a I tr) (v := .int (nI (I (1) (0)))) rfl dX9_type_16 ?_
    refine lv_iload_n hx hb dX9_type_19 rfl (lv_at hl 2 rfl) ?_
    refine lv_iadd hx hb dX9_type_20 ?_
    refine tp (nI_add _ _) ?_
    refine lv_sipush (v := nI (300)) hx hb dX9_type_21 (by decide) ?_
    refine bN_le (tgt := 30) hx hb (by omega) (by omega) dX9_type_24 (by decide) (fun c24 => ?_) (fun c24 => ?_)
    · refine lv_aload_n hx hb dX9_type_30 rfl (lv_at hl 0 rfl) ?_
      refine gf_X9_10 hE hP (0) (gC_0 E a I tr) (v := .ref (a 1)) rfl dX9_type_31 ?_
      refine lv_lload_n hx hb dX9_type_34 rfl (lv_at hl 1 rfl) ?_
      refine lv_iload_n hx hb dX9_type_35 rfl (lv_at hl 2 rfl) ?_
      refine call_V (As := [.long (zv), .int (nI (n))]) (rest := []) hE (ct_X6_add l E a I tr zv n (by omega) (by omega) (by omega)) cm_X6_add (uw mt_L_X9_81 rfl) (gC_1 E a I tr) rfl rfl hP hD hS hl.1 rfl rfl (Nat.le_of_ble_eq_true rfl) ⟨by decide, by decide⟩ dX9_type_36 (fun H locs hP hD hS => ?_)
      refine W.eq (g2 := F0 m 39 ls []) rfl ?_
      refine lv_aload_n hx hb dX9_type_39 rfl (lv_at hl 0 rfl) ?_
      refine gf_X9_10 hE hP (0) (gC_0 E a (up2 (upA I (0) (tyB (I 0) (I 1 0) zv n 0)) (1) (0) (I 1 0 + n)) tr) (v := .ref (a 1)) rfl dX9_type_40 ?_
      refine gf_X9_77 hE hP (1) (gC_1 E a (up2 (upA I (0) (tyB (I 0) (I 1 0) zv n 0)) (1) (0) (I 1 0 + n)) tr) (v := .int (nI (I 1 0 + n))) rfl dX9_type_43 ?_
      have hw : (up2 (upA I (0) (tyB (I 0) (I 1 0) zv n 0)) (1) (0) (I 1 0 + n)) = (tyI I zv (nI n)) := by simp only [tyI, c7, kn, cond_true]; rw [if_pos (by omega)]
      have hP := Eq.mp (congrArg (fun q => va_P E.1 vwCl (WC E a q tr) H) hw) hP
      have hD := Eq.mp (congrArg (fun q => va_D A (WC E a q tr)) hw) hD
      exact ret_i hE (r := nI (I 1 0 + n)) (by simp only [r_type, c7, kn, cond_true]; rw [if_pos (by omega)]) hP hD hS dX9_type_46
    · refine lv_bipush (v := (-3)) hx hb dX9_type_27 (by decide) ?_
      have hw : I = (tyI I zv (nI n)) := by simp only [tyI, c7, kn, cond_true]; rw [if_neg (by omega)]
      have hP := Eq.mp (congrArg (fun q => va_P E.1 vwCl (WC E a q tr) H) hw) hP
      have hD := Eq.mp (congrArg (fun q => va_D A (WC E a q tr)) hw) hD
      exact ret_i hE (r := (-3)) (by simp only [r_type, c7, kn, cond_true]; rw [if_neg (by omega)]) hP hD hS dX9_type_29
  · refine lv_iconst (v := (-1)) hx hb dX9_type_10 (by decide) ?_
    have hw : I = (tyI I zv zp1) := by simp only [tyI, c7, cond_false]
    have hP := Eq.mp (congrArg (fun q => va_P E.1 vwCl (WC E a q tr) H) hw) hP
    have hD := Eq.mp (congrArg (fun q => va_D A (WC E a q tr)) hw) hD
    exact ret_i hE (r := (-1)) (by simp only [r_type, c7, cond_false]) hP hD hS dX9_type_11

set_option maxHeartbeats 4000000 in
set_option maxRecDepth 100000 in
theorem ct_X9_beginAnew (l : Launch) (E : cE) (a : Nat → Nat) (I : Nat → Nat → Nat) (tr : Int64)  : Ct l E 2 yX9_beginAnew cX9_beginAnew 2 none [.ref (a 0)] (WC E a I tr) none (WC E a (baI I) tr) := by
  refine Ct_of (plainFor_of_name (by decide)) (Nat.le_of_ble_eq_true rfl) ?_
  intro p e s m args below meth c A ls hE hP hD hS hl
  have hE : cEnv p s m args meth c E RX9 cX9_beginAnew 2 none A := hE
  have hx := hE.1
  have hb := hE.2.1
  have hl : lv_has ls 2 [(0, .ref (a 0))] := hl
  have hP : va_P E.1 vwCl (WC E a I tr) s.heap := hP
  generalize hH : s.heap = H at hP hS ⊢
  have hS : va_S A s.heap H [] := by rw [hH]; exact hS
  clear hH
  refine lv_aload_n hx hb dX9_beginAnew_0 rfl (lv_at hl 0 rfl) ?_
  refine gf_X9_10 hE hP (0) (gC_0 E a I tr) (v := .ref (a 1)) rfl dX9_beginAnew_1 ?_
  refine lv_iconst (v := nI (0)) hx hb dX9_beginAnew_4 (by decide) ?_
  refine pf_X9_77 hE hP hD hS (1) (gC_1 E a I tr) rfl rfl (Nat.le_of_ble_eq_true rfl) (sC_1_1 E a I tr (0)) dX9_beginAnew_5 (fun H locs hP hD hS => ?_)
  refine lv_aload_n hx hb dX9_beginAnew_8 rfl (lv_at hl 0 rfl) ?_
  refine gf_X9_36 hE hP (0) (gC_0 E a (up2 I (1) (0) (0)) tr) (v := .ref (a 4)) rfl dX9_beginAnew_9 ?_
  refine call_V (As := []) (rest := []) hE (ct_X4_reset l E a (up2 I (1) (0) (0)) tr) cm_X4_reset (uw mt_L_X9_272 rfl) (gC_5 E a (up2 I (1) (0) (0)) tr) rfl rfl hP hD hS hl.1 rfl rfl (Nat.le_of_ble_eq_true rfl) ⟨by decide, by decide⟩ dX9_beginAnew_12 (fun H locs hP hD hS => ?_)
  refine W.eq (g2 := F0 m 15 ls []) rfl ?_
  refine lv_aload_n hx hb dX9_beginAnew_15 rfl (lv_at hl 0 rfl) ?_
  refine gf_X9_44 hE hP (0) (gC_0 E a (up2 (up2 (upA (up2 I (1) (0) (0)) (7) (flN (I 7) 6 0)) (10) (0) (0)) (11) (0) (0)) tr) (v := .ref (a 5)) rfl dX9_beginAnew_16 ?_
  refine lv_iconst (v := nI (0)) hx hb dX9_beginAnew_19 (by decide) ?_
  refine pf_X9_182 hE hP hD hS (38) (gC_38 E a (up2 (up2 (upA (up2 I (1) (0) (0)) (7) (flN (I 7) 6 0)) (10) (0) (0)) (11) (0) (0)) tr) rfl rfl (Nat.le_of_ble_eq_true rfl) (sC_38_5 E a (up2 (up2 (upA (up2 I (1) (0) (0)) (7) (flN (I 7) 6 0)) (10) (0) (0)) (11) (0) (0)) tr (0)) dX9_beginAnew_20 (fun H locs hP hD hS => ?_)
  refine lv_aload_n hx hb dX9_beginAnew_23 rfl (lv_at hl 0 rfl) ?_
  refine gf_X9_51 hE hP (0) (gC_0 E a (up2 (up2 (up2 (upA (up2 I (1) (0) (0)) (7) (flN (I 7) 6 0)) (10) (0) (0)) (11) (0) (0)) (44) (0) (0)) tr) (v := .ref (a 6)) rfl dX9_beginAnew_24 ?_
  refine lv_iconst (v := nI (0)) hx hb dX9_beginAnew_27 (by decide) ?_
  refine pf_X9_212 hE hP hD hS (43) (gC_43 E a (up2 (up2 (up2 (upA (up2 I (1) (0) (0)) (7) (flN (I 7) 6 0)) (10) (0) (0)) (11) (0) (0)) (44) (0) (0)) tr) rfl rfl (Nat.le_of_ble_eq_true rfl) (sC_43_3 E a (up2 (up2 (up2 (upA (up2 I (1) (0) (0)) (7) (flN (I 7) 6 0)) (10) (0) (0)) (11) (0) (0)) (44) (0) (0)) tr (0)) dX9_beginAnew_28 (fun H locs hP hD hS => ?_)
  refine lv_aload_n hx hb dX9_beginAnew_31 rfl (lv_at hl 0 rfl) ?_
  refine gf_X9_58 hE hP (0) (gC_0 E a (up2 (up2 (up2 (up2 (upA (up2 I (1) (0) (0)) (7) (flN (I 7) 6 0)) (10) (0) (0)) (11) (0) (0)) (44) (0) (0)) (47) (0) (0)) tr) (v := .ref (a 7)) rfl dX9_beginAnew_32 ?_
  refine lv_iconst (v := nI (0)) hx hb dX9_beginAnew_35 (by decide) ?_
  refine pf_X9_230 hE hP hD hS (46) (gC_46 E a (up2 (up2 (up2 (up2 (upA (up2 I (1) (0) (0)) (7) (flN (I 7) 6 0)) (10) (0) (0)) (11) (0) (0)) (44) (0) (0)) (47) (0) (0)) tr) rfl rfl (Nat.le_of_ble_eq_true rfl) (sC_46_6 E a (up2 (up2 (up2 (up2 (upA (up2 I (1) (0) (0)) (7) (flN (I 7) 6 0)) (10) (0) (0)) (11) (0) (0)) (44) (0) (0)) (47) (0) (0)) tr (0)) dX9_beginAnew_36 (fun H locs hP hD hS => ?_)
  refine lv_iconst (v := nI (0)) hx hb dX9_beginAnew_39 (by decide) ?_
  refine lv_istore_n (lv' := [(1, .int (nI (0))), (0, .ref (a 0))]) hx hb dX9_beginAnew_40 rfl hl (by decide) rfl (fun ls hl => ?_)
  have loop41 : ∀ (fu41 : Nat) (i : Nat), 2 - i < fu41 → (i ≤ 2) → ∀ (ls : Array Slot) (H : Heap) (locs : List Loc), lv_has ls 2 [(0, .ref (a 0)), (1, .int (nI (i)))] → va_P E.1 vwCl (WC E a (upA (up2 (up2 (up2 (up2 (up2 (upA (up2 I (1) (0) (0)) (7) (flN (I 7) 6 0)) (10) (0) (0)) (11) (0) (0)) (44) (0) (0)) (47) (0) (0)) (55) (0) (0)) (70) (flN (I 70) (i) 0)) tr) H → va_D A (WC E a (upA (up2 (up2 (up2 (up2 (up2 (upA (up2 I (1) (0) (0)) (7) (flN (I 7) 6 0)) (10) (0) (0)) (11) (0) (0)) (44) (0) (0)) (47) (0) (0)) (55) (0) (0)) (70) (flN (I 70) (i) 0)) tr) → va_S A s.heap H locs → W p l e (rmL 2) s m args below meth c H locs 0 0 (RQ E below args s A none (WC E a (baI I) tr)) (F0 m 41 ls []) := by
    intro fu41
    induction fu41 with
    | zero => intro i h; exact absurd h (Nat.not_lt_zero _)
    | succ fu41 ih41 =>
      intro i hfu41 hi ls H locs hl hP hD hS
      refine lv_iload_n hx hb dX9_beginAnew_41 rfl (lv_at hl 1 rfl) ?_
      refine lv_iconst (v := nI (2)) hx hb dX9_beginAnew_42 (by decide) ?_
      refine bN_ge (tgt := 59) hx hb (by omega) (by omega) dX9_beginAnew_43 (by decide) (fun c43 => ?_) (fun c43 => ?_)
      · have hw : (upA (up2 (up2 (up2 (up2 (up2 (upA (up2 I (1) (0) (0)) (7) (flN (I 7) 6 0)) (10) (0) (0)) (11) (0) (0)) (44) (0) (0)) (47) (0) (0)) (55) (0) (0)) (70) (flN (I 70) (i) 0)) = (baI I) := by rw [show i = 2 by omega]; rfl
        have hP := Eq.mp (congrArg (fun q => va_P E.1 vwCl (WC E a q tr) H) hw) hP
        have hD := Eq.mp (congrArg (fun q => va_D A (WC E a q tr)) hw) hD
        exact ret_v hE rfl hP hD hS dX9_beginAnew_59
      · refine lv_aload_n hx hb dX9_beginAnew_46 rfl (lv_at hl 0 rfl) ?_
        refine gf_X9_68 hE hP (0) (gC_0 E a (upA (up2 (up2 (up2 (up2 (up2 (upA (up2 I (1) (0) (0)) (7) (flN (I 7) 6 0)) (10) (0) (0)) (11) (0) (0)) (44) (0) (0)) (47) (0) (0)) (55) (0) (0)) (70) (flN (I 70) (i) 0)) tr) (v := .ref (a 9)) rfl dX9_beginAnew_47 ?_
        refine lv_iload_n hx hb dX9_beginAnew_50 rfl (lv_at hl 1 rfl) ?_
        refine lv_iconst (v := nI (0)) hx hb dX9_beginAnew_51 (by decide) ?_
        refine ast_z hE hP hD hS (61) (gC_61 E a (upA (up2 (up2 (up2 (up2 (up2 (upA (up2 I (1) (0) (0)) (7) (flN (I 7) 6 0)) (10) (0) (0)) (11) (0) (0)) (44) (0) (0)) (47) (0) (0)) (55) (0) (0)) (70) (flN (I 70) (i) 0)) tr) (by omega) (by decide) (sC_61 E a (upA (up2 (up2 (up2 (up2 (up2 (upA (up2 I (1) (0) (0)) (7) (flN (I 7) 6 0)) (10) (0) (0)) (11) (0) (0)) (44) (0) (0)) (47) (0) (0)) (55) (0) (0)) (70) (flN (I 70) (i) 0)) tr (i) (0) (by omega)) dX9_beginAnew_52 (fun H locs hP hD hS => ?_)
        refine lv_iinc (v := nI (i + 1)) (lv' := [(1, .int (nI (i + 1))), (0, .ref (a 0))]) hx hb dX9_beginAnew_53 hl (k := 1) rfl (ii1_N _) (by decide) rfl (fun ls hl => ?_)
        refine lv_goto (tgt := 41) hx hb dX9_beginAnew_56 (by decide) ?_
        exact ih41 (i + 1) (by omega) (by omega) ls _ _ (lv_sub hl [1, 0] rfl) (by have hw : (up2 (upA (up2 (up2 (up2 (up2 (up2 (upA (up2 I (1) (0) (0)) (7) (flN (I 7) 6 0)) (10) (0) (0)) (11) (0) (0)) (44) (0) (0)) (47) (0) (0)) (55) (0) (0)) (70) (flN (I 70) (i) 0)) (70) (i) (0)) = (upA (up2 (up2 (up2 (up2 (up2 (upA (up2 I (1) (0) (0)) (7) (flN (I 7) 6 0)) (10) (0) (0)) (11) (0) (0)) (44) (0) (0)) (47) (0) (0)) (55) (0) (0)) (70) (flN (I 70) ((i + 1)) 0)) := (by rw [up2_upA, flN_s0]); rw [hw] at hP; exact hP) (by have hw : (up2 (upA (up2 (up2 (up2 (up2 (up2 (upA (up2 I (1) (0) (0)) (7) (flN (I 7) 6 0)) (10) (0) (0)) (11) (0) (0)) (44) (0) (0)) (47) (0) (0)) (55) (0) (0)) (70) (flN (I 70) (i) 0)) (70) (i) (0)) = (upA (up2 (up2 (up2 (up2 (up2 (upA (up2 I (1) (0) (0)) (7) (flN (I 7) 6 0)) (10) (0) (0)) (11) (0) (0)) (44) (0) (0)) (47) (0) (0)) (55) (0) (0)) (70) (flN (I 70) ((i + 1)) 0)) := (by rw [up2_upA, flN_s0]); rw [hw] at hD; exact hD) hS
  exact loop41 (_ + 1) (0) (Nat.lt_succ_self _) (by omega) ls _ _ (lv_sub hl [1, 0] rfl) (by have hw : (up2 (up2 (up2 (up2 (up2 (upA (up2 I (1) (0) (0)) (7) (flN (I 7) 6 0)) (10) (0) (0)) (11) (0) (0)) (44) (0) (0)) (47) (0) (0)) (55) (0) (0)) = (upA (up2 (up2 (up2 (up2 (up2 (upA (up2 I (1) (0) (0)) (7) (flN (I 7) 6 0)) (10) (0) (0)) (11) (0) (0)) (44) (0) (0)) (47) (0) (0)) (55) (0) (0)) (70) (flN (I 70) ((0)) 0)) := (by rw [flN_00]; exact (upA_self _ 70).symm); rw [hw] at hP; exact hP) (by have hw : (up2 (up2 (up2 (up2 (up2 (upA (up2 I (1) (0) (0)) (7) (flN (I 7) 6 0)) (10) (0) (0)) (11) (0) (0)) (44) (0) (0)) (47) (0) (0)) (55) (0) (0)) = (upA (up2 (up2 (up2 (up2 (up2 (upA (up2 I (1) (0) (0)) (7) (flN (I 7) 6 0)) (10) (0) (0)) (11) (0) (0)) (44) (0) (0)) (47) (0) (0)) (55) (0) (0)) (70) (flN (I 70) ((0)) 0)) := (by rw [flN_00]; exact (upA_self _ 70).symm); rw [hw] at hD; exact hD) hS

set_option maxHeartbeats 4000000 in
set_option maxRecDepth 100000 in
theorem ct_X9_town (l : Launch) (E : cE) (a : Nat → Nat) (I : Nat → Nat → Nat) (tr : Int64) (hT : TK I) (h30 : I 3 0 ≤ 300) (h40 : I 4 0 ≤ 6) (h50 : I 5 0 ≤ 100) (hDs : DKs I) : Ct l E 10 yX9_town cX9_town 2 (some .int) [.ref (a 0)] (WC E a I tr) (some (.int (raI I).1)) (if (raI I).1 < 0 then WC E a (raI I).2 tr else WC E (sgA a) (baI (sgI (raI I).2)) tr) := by
  refine Ct_of (plainFor_of_name (by decide)) (Nat.le_of_ble_eq_true rfl) ?_
  intro p e s m args below meth c A ls hE hP hD hS hl
  have hE : cEnv p s m args meth c E RX9 cX9_town 2 (some .int) A := hE
  have hx := hE.1
  have hb := hE.2.1
  have hl : lv_has ls 2 [(0, .ref (a 0))] := hl
  have hP : va_P E.1 vwCl (WC E a I tr) s.heap := hP
  generalize hH : s.heap = H at hP hS ⊢
  have hS : va_S A s.heap H [] := by rw [hH]; exact hS
  clear hH
  refine lv_aload_n hx hb dX9_town_0 rfl (lv_at hl 0 rfl) ?_
  refine gf_X9_21 hE hP (0) (gC_0 E a I tr) (v := .ref (a 2)) rfl dX9_town_1 ?_
  refine call_V (As := []) (rest := []) hE (ct_X5_readAll l E a I tr hT h30 h40 h50 hDs) cm_X5_readAll (uw mt_L_X9_85 rfl) (gC_3 E a I tr) rfl rfl hP hD hS hl.1 rfl rfl (Nat.le_of_ble_eq_true rfl) ⟨by decide, by decide⟩ dX9_town_4 (fun H locs hP hD hS => ?_)
  refine W.eq (g2 := F0 m 7 ls [.int ((raI I).1)]) rfl ?_
  refine lv_istore_n (lv' := [(1, .int ((raI I).1)), (0, .ref (a 0))]) hx hb dX9_town_7 rfl hl (by decide) rfl (fun ls hl => ?_)
  refine lv_iload_n hx hb dX9_town_8 rfl (lv_at hl 0 rfl) ?_
  refine lv_if_lt (tgt := 37) hx hb dX9_town_9 (by decide) (fun c9 => ?_) (fun c9 => ?_)
  · have hwe : (if (raI I).1 < 0 then WC E a (raI I).2 tr else WC E (sgA a) (baI (sgI (raI I).2)) tr) = WC E a (raI I).2 tr := if_pos c9
    rw [hwe]
    refine lv_iload_n hx hb dX9_town_37 rfl (lv_at hl 0 rfl) ?_
    exact ret_i hE (r := ((raI I).1)) (rfl) hP hD hS dX9_town_38
  · refine lv_aload_n hx hb dX9_town_12 rfl (lv_at hl 1 rfl) ?_
    refine gf_X9_28 hE hP (0) (gC_0 E a (raI I).2 tr) (v := .ref (a 3)) rfl dX9_town_13 ?_
    refine lv_aload_n hx hb dX9_town_16 rfl (lv_at hl 1 rfl) ?_
    refine gf_X9_21 hE hP (0) (gC_0 E a (raI I).2 tr) (v := .ref (a 2)) rfl dX9_town_17 ?_
    refine lv_aload_n hx hb dX9_town_20 rfl (lv_at hl 1 rfl) ?_
    refine gf_X9_28 hE hP (0) (gC_0 E a (raI I).2 tr) (v := .ref (a 3)) rfl dX9_town_21 ?_
    refine gf_X9_89 hE hP (4) (gC_4 E a (raI I).2 tr) (v := .ref (a 11)) rfl dX9_town_24 ?_
    refine call_V (As := [.ref (a 11)]) (rest := [.ref (a 3)]) hE (ct_X5_handOver l E a (raI I).2 tr) cm_X5_handOver (uw mt_L_X9_93 rfl) (gC_3 E a (raI I).2 tr) rfl rfl hP hD hS hl.1 rfl rfl (Nat.le_of_ble_eq_true rfl) ⟨by decide, by decide⟩ dX9_town_27 (fun H locs hP hD hS => ?_)
    refine W.eq (g2 := F0 m 30 ls [.ref (a 12), .ref (a 3)]) rfl ?_
    refine pf_X9_89 hE hP hD hS (4) (a := a 3) (fs := [.ref (a 4), .ref (a 13), .ref (a 11)]) rfl rfl rfl (Nat.le_of_ble_eq_true rfl) (ws' := swW E a (raI I).2 tr) rfl dX9_town_30 (fun H locs hP hD hS => ?_)
    have hP := sw_P hP
    have hD := sw_D hD
    refine lv_aload_n hx hb dX9_town_33 rfl (lv_at hl 1 rfl) ?_
    refine call_V (As := []) (rest := []) hE (ct_X9_beginAnew l E (sgA a) (sgI (raI I).2) tr) cm_X9_beginAnew (uw mt_L_X9_97 rfl) (gC_0 E (sgA a) (sgI (raI I).2) tr) rfl rfl hP hD hS hl.1 rfl rfl (Nat.zero_le _) ⟨by decide, by decide⟩ dX9_town_34 (fun H locs hP hD hS => ?_)
    refine W.eq (g2 := F0 m 37 ls []) rfl ?_
    refine lv_iload_n hx hb dX9_town_37 rfl (lv_at hl 0 rfl) ?_
    have hwe : (if (raI I).1 < 0 then WC E a (raI I).2 tr else WC E (sgA a) (baI (sgI (raI I).2)) tr) = WC E (sgA a) (baI (sgI (raI I).2)) tr := if_neg c9
    rw [hwe]
    exact ret_i hE rfl hP hD hS dX9_town_38
