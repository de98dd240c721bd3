set_option maxHeartbeats 4000000 in
set_option maxRecDepth 100000 in
theorem ct_X10_type (l : Launch) (E : cE) (a : Nat → Nat) (I : Nat → Nat → Nat) (tr : Int64) (zv : Int64) (zp1 : Int32) (h300 : I 1 0 ≤ 300) : Ct l E 1 yX10_type cX10_type 5 (some .int) [.ref (a 0), .long (zv), .int (zp1)] (WM E a I tr) (some (.int (r_type (I 1 0) zp1))) (WM E a (tyI I zv zp1) tr) := by
  refine Ct_of (plainFor_of_name (by decide)) (Nat.le_of_ble_eq_true rfl) ?_
  intro p e s m args below meth c A ls hE hP hD hS hl
  have hE : cEnv p s m args meth c E RX10 cX10_type 5 (some .int) A := hE
  have hx := hE.1
  have hb := hE.2.1
  have hl : lv_has ls 5 [(0, .ref (a 0)), (1, .long (zv)), (3, .int (zp1))] := hl
  have hP : va_P E.1 vwCl (WM E a I tr) s.heap := hP
  generalize hH : s.heap = H at hP hS ⊢
  have hS : va_S A s.heap H [] := by rw [hH]; exact hS
  clear hH
  refine lv_iload_n hx hb dX10_type_0 rfl (lv_at hl 2 rfl) ?_
  refine lv_iconst (v := nI (1)) hx hb dX10_type_1 (by decide) ?_
  refine lv_bipush (v := nI (8)) hx hb dX10_type_2 (by decide) ?_
  refine call_S (As := [.int (zp1), .int (nI (1)), .int (nI (8))]) (rest := []) hE (ct_X10_in l E (WM E a I tr) ((zp1)) (nI (1)) (nI (8))) cm_X10_in (uw mt_L_X10_63 rfl) hP hD hS hl.1 rfl rfl (Nat.le_of_ble_eq_true rfl) ⟨by decide, by decide⟩ dX10_type_4 (fun H locs hP hD hS => ?_)
  refine W.eq (g2 := F0 m 7 ls [.int (bB (wi ((zp1)) (nI (1)) (nI (8))))]) rfl ?_
  refine bB_ne (tgt := 12) hx hb dX10_type_7 (by decide) (fun c7 => ?_) (fun c7 => ?_)
  · obtain ⟨n, qn1, qn2, rfl⟩ := wi_of (by decide) (by decide) c7
    have kn : tn (nI n) = n := tn_nI (by omega)
    refine lv_aload_n hx hb dX10_type_12 rfl (lv_at hl 0 rfl) ?_
    refine gf_X10_67 hE hP (0) (gM_0 E a I tr) (v := .int (nI (I (1) (0)))) rfl dX10_type_13 ?_
    refine lv_iload_n hx hb dX10_type_16 rfl (lv_at hl 2 rfl) ?_
    refine lv_iadd hx hb dX10_type_17 ?_
    refine tp (nI_add _ _) ?_
    refine lv_sipush (v := nI (300)) hx hb dX10_type_18 (by decide) ?_
    refine bN_le (tgt := 27) hx hb (by omega) (by omega) dX10_type_21 (by decide) (fun c21 => ?_) (fun c21 => ?_)
    · refine lv_iload_n hx hb dX10_type_27 rfl (lv_at hl 2 rfl) ?_
      refine lv_iconst (v := nI (1)) hx hb dX10_type_28 (by decide) ?_
      refine lv_isub hx hb dX10_type_29 ?_
      refine tp (pk_sub (by omega)) ?_
      refine tp (show nI (n - 1) = rN (n + 8) by rw [← rN_9, show n - 1 + 9 = n + 8 by omega]) ?_
      refine lv_istore (lv' := [(4, .int (rN (n + 8))), (0, .ref (a 0)), (1, .long (zv)), (3, .int (nI (n)))]) hx hb dX10_type_30 hl (by decide) rfl (fun ls hl => ?_)
      have loop32 : ∀ (fu32 : Nat) (u : Nat), u < fu32 → (u ≤ n) → ∀ (ls : Array Slot) (H : Heap) (locs : List Loc), lv_has ls 5 [(0, .ref (a 0)), (1, .long (zv)), (3, .int (nI (n))), (4, .int (rN (u + 8)))] → va_P E.1 vwCl (WM E a (up2 (upA I (0) (tyB (I 0) (I 1 0) zv n (u))) (1) (0) (I 1 0 + (n - (u)))) tr) H → va_D A (WM E a (up2 (upA I (0) (tyB (I 0) (I 1 0) zv n (u))) (1) (0) (I 1 0 + (n - (u)))) tr) → va_S A s.heap H locs → W p l e (rmL 1) s m args below meth c H locs 0 0 (RQ E below args s A (some (.int (r_type (I 1 0) (nI n)))) (WM E a (tyI I zv (nI n)) tr)) (F0 m 32 ls []) := by
        intro fu32
        induction fu32 with
        | zero => intro u h; exact absurd h (Nat.not_lt_zero _)
        | succ fu32 ih32 =>
          intro u hfu32 hu ls H locs hl hP hD hS
          refine lv_iload hx hb dX10_type_32 (lv_at hl 3 rfl) ?_
          refine bQz_lt (tgt := 75) hx hb (by omega) dX10_type_34 (by decide) (fun c34 => ?_) (fun c34 => ?_)
          · have hu0 : u = 0 := by omega
            rw [hu0, Nat.sub_zero] at hP hD
            refine lv_aload_n hx hb dX10_type_75 rfl (lv_at hl 0 rfl) ?_
            refine gf_X10_67 hE hP (0) (gM_0 E a (up2 (upA I (0) (tyB (I 0) (I 1 0) zv n 0)) (1) (0) (I 1 0 + n)) tr) (v := .int (nI (I 1 0 + n))) rfl dX10_type_76 ?_
            have hw : (up2 (upA I (0) (tyB (I 0) (I 1 0) zv n 0)) (1) (0) (I 1 0 + n)) = (tyI I zv (nI n)) := by simp only [tyI, c7, kn, cond_true]; rw [if_pos (by omega)]
            have hP := Eq.mp (congrArg (fun q => va_P E.1 vwCl (WM E a q tr) H) hw) hP
            have hD := Eq.mp (congrArg (fun q => va_D A (WM E a q tr)) hw) hD
            exact ret_i hE (r := nI (I 1 0 + n)) (by simp only [r_type, c7, kn, cond_true]; rw [if_pos (by omega)]) hP hD hS dX10_type_79
          · obtain ⟨k, rfl⟩ : ∃ k, u = k + 1 := ⟨u - 1, by omega⟩
            rw [show rN (k + 1 + 8) = nI k from rN_9 k] at hl
            refine lv_aload_n hx hb dX10_type_37 rfl (lv_at hl 0 rfl) ?_
            refine gf_X10_7 hE hP (0) (gM_0 E a (up2 (upA I (0) (tyB (I 0) (I 1 0) zv n (k + 1))) (1) (0) (I 1 0 + (n - (k + 1)))) tr) (v := .ref (a 1)) rfl dX10_type_38 ?_
            refine lv_aload_n hx hb dX10_type_41 rfl (lv_at hl 0 rfl) ?_
            refine gf_X10_67 hE hP (0) (gM_0 E a (up2 (upA I (0) (tyB (I 0) (I 1 0) zv n (k + 1))) (1) (0) (I 1 0 + (n - (k + 1)))) tr) (v := .int (nI (I 1 0 + (n - (k + 1))))) rfl dX10_type_42 ?_
            refine lv_lload_n hx hb dX10_type_45 rfl (lv_at hl 1 rfl) ?_
            refine lv_bipush (v := nI (8)) hx hb dX10_type_46 (by decide) ?_
            refine lv_iload hx hb dX10_type_48 (lv_at hl 3 rfl) ?_
            refine lv_imul hx hb dX10_type_50 ?_
            refine tp (pk_mul _ _) ?_
            refine lv_lshr (v := (zv) >>> ((nI ((8) * (k))).toInt64 &&& 63)) hx hb dX10_type_51 rfl ?_
            refine lv_ldc2 (v := 255) hx hb hE.2.2.2.2.1 (hE.2.2.2.1 _ (uw mt_K_X10_71 rfl)) dX10_type_52 ?_
            refine lv_land hx hb dX10_type_55 ?_
            refine lv_l2i (v := (((zv) >>> ((nI ((8) * (k))).toInt64 &&& 63)) &&& (255)).toInt32) hx hb dX10_type_56 rfl ?_
            refine tp (byM zv (i := k) (by omega)) ?_
            refine lv_i2b (v := sb_b (byV zv k)) hx hb dX10_type_57 rfl ?_
            refine ast_b hE hP hD hS (1) (gM_1 E a (up2 (upA I (0) (tyB (I 0) (I 1 0) zv n (k + 1))) (1) (0) (I 1 0 + (n - (k + 1)))) tr) (by omega) (by decide) (sM_1 E a (up2 (upA I (0) (tyB (I 0) (I 1 0) zv n (k + 1))) (1) (0) (I 1 0 + (n - (k + 1)))) tr (I 1 0 + (n - (k + 1))) (byV zv k) (sb_nar _)) dX10_type_58 (fun H locs hP hD hS => ?_)
            refine lv_aload_n hx hb dX10_type_59 rfl (lv_at hl 0 rfl) ?_
            refine lv_dup hx hb dX10_type_60 rfl ?_
            refine gf_X10_67 hE hP (0) (gM_0 E a (up2 (up2 (upA I (0) (tyB (I 0) (I 1 0) zv n (k + 1))) (1) (0) (I 1 0 + (n - (k + 1)))) (0) (I 1 0 + (n - (k + 1))) (byV zv k)) tr) (v := .int (nI (I 1 0 + (n - (k + 1))))) rfl dX10_type_61 ?_
            refine lv_iconst (v := nI (1)) hx hb dX10_type_64 (by decide) ?_
            refine lv_iadd hx hb dX10_type_65 ?_
            refine tp (nI_add _ _) ?_
            refine pf_X10_67 hE hP hD hS (0) (gM_0 E a (up2 (up2 (upA I (0) (tyB (I 0) (I 1 0) zv n (k + 1))) (1) (0) (I 1 0 + (n - (k + 1)))) (0) (I 1 0 + (n - (k + 1))) (byV zv k)) tr) rfl rfl (Nat.le_of_ble_eq_true rfl) (sM_0_2 E a (up2 (up2 (upA I (0) (tyB (I 0) (I 1 0) zv n (k + 1))) (1) (0) (I 1 0 + (n - (k + 1)))) (0) (I 1 0 + (n - (k + 1))) (byV zv k)) tr (I 1 0 + (n - (k + 1)) + 1)) dX10_type_66 (fun H locs hP hD hS => ?_)
            refine lv_iinc (v := rN (k + 8)) (lv' := [(4, .int (rN (k + 8))), (0, .ref (a 0)), (1, .long (zv)), (3, .int (nI (n)))]) hx hb dX10_type_69 hl (k := 3) rfl (iim1_NQ k) (by decide) rfl (fun ls hl => ?_)
            refine lv_goto (tgt := 32) hx hb dX10_type_72 (by decide) ?_
            exact ih32 (k) (by omega) (by omega) ls _ _ (lv_sub hl [1, 2, 3, 0] rfl) (by have hw : (up2 (up2 (up2 (upA I (0) (tyB (I 0) (I 1 0) zv n (k + 1))) (1) (0) (I 1 0 + (n - (k + 1)))) (0) (I 1 0 + (n - (k + 1))) (byV zv k)) (1) (0) (I 1 0 + (n - (k + 1)) + 1)) = (up2 (upA I (0) (tyB (I 0) (I 1 0) zv n ((k)))) (1) (0) (I 1 0 + (n - ((k))))) := (by rw [adW (I := I) (by omega)]); rw [hw] at hP; exact hP) (by have hw : (up2 (up2 (up2 (upA I (0) (tyB (I 0) (I 1 0) zv n (k + 1))) (1) (0) (I 1 0 + (n - (k + 1)))) (0) (I 1 0 + (n - (k + 1))) (byV zv k)) (1) (0) (I 1 0 + (n - (k + 1)) + 1)) = (up2 (upA I (0) (tyB (I 0) (I 1 0) zv n ((k)))) (1) (0) (I 1 0 + (n - ((k))))) := (by rw [adW (I := I) (by omega)]); rw [hw] at hD; exact hD) hS
      exact loop32 (_ + 1) (n) (Nat.lt_succ_self _) (by omega) ls _ _ (lv_sub hl [1, 2, 3, 0] rfl) (by have hw : I = (up2 (upA I (0) (tyB (I 0) (I 1 0) zv n ((n)))) (1) (0) (I 1 0 + (n - ((n))))) := (by rw [tyB_0, upA_self, Nat.sub_self, Nat.add_zero, up2_self]); rw [hw] at hP; exact hP) (by have hw : I = (up2 (upA I (0) (tyB (I 0) (I 1 0) zv n ((n)))) (1) (0) (I 1 0 + (n - ((n))))) := (by rw [tyB_0, upA_self, Nat.sub_self, Nat.add_zero, up2_self]); rw [hw] at hD; exact hD) hS
    · refine lv_bipush (v := (-3)) hx hb dX10_type_24 (by decide) ?_
      have hw : I = (tyI I zv (nI n)) := by simp only [tyI, c7, kn, cond_true]; rw [if_neg (by omega)]
      have hP := Eq.mp (congrArg (fun q => va_P E.1 vwCl (WM E a q tr) H) hw) hP
      have hD := Eq.mp (congrArg (fun q => va_D A (WM E a q tr)) hw) hD
      exact ret_i hE (r := (-3)) (by simp only [r_type, c7, kn, cond_true]; rw [if_neg (by omega)]) hP hD hS dX10_type_26
  · refine lv_iconst (v := (-1)) hx hb dX10_type_10 (by decide) ?_
    have hw : I = (tyI I zv zp1) := by simp only [tyI, c7, cond_false]
    have hP := Eq.mp (congrArg (fun q => va_P E.1 vwCl (WM E a q tr) H) hw) hP
    have hD := Eq.mp (congrArg (fun q => va_D A (WM E a q tr)) hw) hD
    exact ret_i hE (r := (-1)) (by simp only [r_type, c7, cond_false]) hP hD hS dX10_type_11

def hrB (B : Nat → Nat) (n q : Nat) : Nat := if q < n then B q + 9 else 8
theorem hrB_y {B : Nat → Nat} {n q : Nat} (h : q < n) : hrB B n q = B q + 9 := if_pos h
theorem hrB_n {B : Nat → Nat} {n q : Nat} (h : n ≤ q) : hrB B n q = 8 := if_neg (by omega)

set_option maxHeartbeats 4000000 in
set_option maxRecDepth 100000 in
theorem ct_X10_here (l : Launch) (E : cE) (a : Nat → Nat) (I : Nat → Nat → Nat) (tr : Int64) (hT : TK I) (h10 : I 10 0 ≤ 300) : Ct l E 0 yX10_here cX10_here 1 (some .int) [.ref (a 0)] (WM E a I tr) (some (.int (rN (hrB (I 0) (I 1 0) (I 10 0))))) (WM E a I tr) := by
  refine Ct_of (plainFor_of_name (by decide)) (Nat.le_of_ble_eq_true rfl) ?_
  intro p e s m args below meth c A ls hE hP hD hS hl
  have hE : cEnv p s m args meth c E RX10 cX10_here 1 (some .int) A := hE
  have hx := hE.1
  have hb := hE.2.1
  have hl : lv_has ls 1 [(0, .ref (a 0))] := hl
  have hP : va_P E.1 vwCl (WM E a I tr) s.heap := hP
  generalize hH : s.heap = H at hP hS ⊢
  have hS : va_S A s.heap H [] := by rw [hH]; exact hS
  clear hH
  have hT3 := hT.1
  refine lv_aload_n hx hb dX10_here_0 rfl (lv_at hl 0 rfl) ?_
  refine gf_X10_73 hE hP (0) (gM_0 E a I tr) (v := .int (nI (I (10) (0)))) rfl dX10_here_1 ?_
  refine lv_aload_n hx hb dX10_here_4 rfl (lv_at hl 0 rfl) ?_
  refine gf_X10_67 hE hP (0) (gM_0 E a I tr) (v := .int (nI (I (1) (0)))) rfl dX10_here_5 ?_
  refine bN_ge (tgt := 27) hx hb (by omega) (by omega) dX10_here_8 (by decide) (fun c8 => ?_) (fun c8 => ?_)
  · refine lv_iconst (v := (-1)) hx hb dX10_here_27 (by decide) ?_
    exact ret_i hE (r := (-1)) (by rw [hrB_n c8]; rfl) hP hD hS dX10_here_28
  · have hbk := hT.2 _ c8
    refine lv_aload_n hx hb dX10_here_11 rfl (lv_at hl 0 rfl) ?_
    refine gf_X10_7 hE hP (0) (gM_0 E a I tr) (v := .ref (a 1)) rfl dX10_here_12 ?_
    refine lv_aload_n hx hb dX10_here_15 rfl (lv_at hl 0 rfl) ?_
    refine gf_X10_73 hE hP (0) (gM_0 E a I tr) (v := .int (nI (I (10) (0)))) rfl dX10_here_16 ?_
    refine ald_b hE hP (1) (gM_1 E a I tr) (by omega) (by decide) (r := (sb_b (I (0) (I (10) (0))))) rfl dX10_here_19 ?_
    refine lv_sipush (v := nI (255)) hx hb dX10_here_20 (by decide) ?_
    refine lv_iand hx hb dX10_here_23 ?_
    refine tp (sb_byte _ hbk).1 ?_
    refine lv_goto (tgt := 28) hx hb dX10_here_24 (by decide) ?_
    exact ret_i hE (r := nI (I 0 (I 10 0))) (by rw [hrB_y c8, rN_9]) hP hD hS dX10_here_28
