set_option maxHeartbeats 4000000 in
set_option maxRecDepth 100000 in
theorem ct_X5_readAll (l : Launch) (E : cE) (a : Nat → Nat) (I : Nat → Nat → Nat) (tr : Int64) (hT : TK I) (h30 : I 3 0 ≤ 300) (h40 : I 4 0 ≤ 6) (h50 : I 5 0 ≤ 100) (hDs : DKs I) : Ct l E 9 yX5_readAll cX5_readAll 3 (some .int) [.ref (a 2)] (WC E a I tr) (some (.int (raI I).1)) (WC E a (raI I).2 tr) := by
  refine Ct_of (plainFor_of_name (by decide)) (Nat.le_of_ble_eq_true rfl) ?_
  intro p e s m args below meth c A ls hE hP hD hS hl
  have hE : cEnv p s m args meth c E RX5 cX5_readAll 3 (some .int) A := hE
  have hx := hE.1
  have hb := hE.2.1
  have hl : lv_has ls 3 [(0, .ref (a 2))] := hl
  have hP : va_P E.1 vwCl (WC E a I tr) s.heap := hP
  generalize hH : s.heap = H at hP hS ⊢
  have hS : va_S A s.heap H [] := by rw [hH]; exact hS
  clear hH
  refine lv_aload_n hx hb dX5_readAll_0 rfl (lv_at hl 0 rfl) ?_
  refine gf_X5_12 hE hP (3) (gC_3 E a I tr) (v := .ref (a 12)) rfl dX5_readAll_1 ?_
  refine call_V (As := []) (rest := []) hE (ct_X7_reset l E a I tr) cm_X7_reset (uw mt_L_X5_22 rfl) (gC_24 E a I tr) rfl rfl hP hD hS hl.1 rfl rfl (Nat.le_of_ble_eq_true rfl) ⟨by decide, by decide⟩ dX5_readAll_4 (fun H locs hP hD hS => ?_)
  refine W.eq (g2 := F0 m 7 ls []) rfl ?_
  refine lv_aload_n hx hb dX5_readAll_7 rfl (lv_at hl 0 rfl) ?_
  refine lv_iconst (v := nI (0)) hx hb dX5_readAll_8 (by decide) ?_
  refine pf_X5_25 hE hP hD hS (3) (gC_3 E a (up2 (up2 I (26) (0) (0)) (27) (0) (1)) tr) rfl rfl (Nat.le_of_ble_eq_true rfl) (sC_3_2 E a (up2 (up2 I (26) (0) (0)) (27) (0) (1)) tr (0)) dX5_readAll_9 (fun H locs hP hD hS => ?_)
  refine lv_aload_n hx hb dX5_readAll_12 rfl (lv_at hl 0 rfl) ?_
  refine lv_iconst (v := nI (0)) hx hb dX5_readAll_13 (by decide) ?_
  refine pf_X5_29 hE hP hD hS (3) (gC_3 E a (up2 (up2 (up2 I (26) (0) (0)) (27) (0) (1)) (2) (0) (0)) tr) (by decide) (by decide) (Nat.le_of_ble_eq_true rfl) (sC_3_6 E a (up2 (up2 (up2 I (26) (0) (0)) (27) (0) (1)) (2) (0) (0)) tr (0)) dX5_readAll_14 (fun H locs hP hD hS => ?_)
  refine lv_iconst (v := nI (0)) hx hb dX5_readAll_17 (by decide) ?_
  refine lv_istore_n (lv' := [(1, .int (nI (0))), (0, .ref (a 2))]) hx hb dX5_readAll_18 rfl hl (by decide) rfl (fun ls hl => ?_)
  have loop19 : ∀ (fu19 : Nat) (X : Nat → Nat → Nat) (i : Nat), 301 - i < fu19 → (i ≤ 301) → (BK X) → (raK (301 - i) X i = raI I) → ∀ (ls : Array Slot) (H : Heap) (locs : List Loc), lv_has ls 3 [(0, .ref (a 2)), (1, .int (nI (i)))] → va_P E.1 vwCl (WC E a X tr) H → va_D A (WC E a X tr) → va_S A s.heap H locs → W p l e (rmL 9) s m args below meth c H locs 0 0 (RQ E below args s A (some (.int (raI I).1)) (WC E a (raI I).2 tr)) (F0 m 19 ls []) := by
    intro fu19
    induction fu19 with
    | zero => intro X i h; exact absurd h (Nat.not_lt_zero _)
    | succ fu19 ih19 =>
      intro X i hfu19 hi hBX hraw ls H locs hl hP hD hS
      refine lv_iload_n hx hb dX5_readAll_19 rfl (lv_at hl 1 rfl) ?_
      refine lv_sipush (v := nI (300)) hx hb dX5_readAll_20 (by decide) ?_
      refine bN_gt (tgt := 104) hx hb (by omega) (by omega) dX5_readAll_23 (by decide) (fun c23 => ?_) (fun c23 => ?_)
      · have h33 := hBX.1.2.2.1
        refine lv_bipush (v := (-10)) hx hb dX5_readAll_104 (by decide) ?_
        refine lv_aload_n hx hb dX5_readAll_106 rfl (lv_at hl 0 rfl) ?_
        refine gf_X5_49 hE hP (3) (gC_3 E a X tr) (v := .int (nI (X (3) (0)))) rfl dX5_readAll_107 ?_
        refine lv_isub hx hb dX5_readAll_110 ?_
        have hw : X = (raI I).2 := by rw [← hraw, show 301 - i = 0 by omega, raK]
        have hP := Eq.mp (congrArg (fun q => va_P E.1 vwCl (WC E a q tr) H) hw) hP
        have hD := Eq.mp (congrArg (fun q => va_D A (WC E a q tr)) hw) hD
        exact ret_i hE (r := (((-10)) - (nI (X (3) (0))))) (by rw [← hraw, show 301 - i = 0 by omega, raK]) hP hD hS dX5_readAll_111
      · refine lv_aload_n hx hb dX5_readAll_26 rfl (lv_at hl 0 rfl) ?_
        refine call_V (As := []) (rest := []) hE (ct_X5_step l E a X tr hBX.1) cm_X5_step (uw mt_L_X5_33 rfl) (gC_3 E a X tr) rfl rfl hP hD hS hl.1 rfl rfl (Nat.le_of_ble_eq_true rfl) ⟨by decide, by decide⟩ dX5_readAll_27 (fun H locs hP hD hS => ?_)
        refine W.eq (g2 := F0 m 30 ls []) rfl ?_
        have hB1 := BK_st hBX
        have h4 := hB1.1.2.2.2.1
        refine lv_aload_n hx hb dX5_readAll_30 rfl (lv_at hl 0 rfl) ?_
        refine gf_X5_36 hE hP (3) (gC_3 E a (stI X) tr) (v := .int (nI ((stI X) (4) (0)))) rfl dX5_readAll_31 ?_
        refine bZ_ne (tgt := 39) hx hb (by omega) dX5_readAll_34 (by decide) (fun c34 => ?_) (fun c34 => ?_)
        · refine lv_aload_n hx hb dX5_readAll_39 rfl (lv_at hl 0 rfl) ?_
          refine gf_X5_36 hE hP (3) (gC_3 E a (stI X) tr) (v := .int (nI ((stI X) (4) (0)))) rfl dX5_readAll_40 ?_
          refine lv_iconst (v := nI (4)) hx hb dX5_readAll_43 (by decide) ?_
          refine bN_ne (tgt := 54) hx hb (by omega) (by omega) dX5_readAll_44 (by decide) (fun c44 => ?_) (fun c44 => ?_)
          · refine lv_aload_n hx hb dX5_readAll_54 rfl (lv_at hl 0 rfl) ?_
            refine gf_X5_36 hE hP (3) (gC_3 E a (stI X) tr) (v := .int (nI ((stI X) (4) (0)))) rfl dX5_readAll_55 ?_
            refine lv_iconst (v := nI (5)) hx hb dX5_readAll_58 (by decide) ?_
            refine bN_ne (tgt := 69) hx hb (by omega) (by omega) dX5_readAll_59 (by decide) (fun c59 => ?_) (fun c59 => ?_)
            · refine lv_aload_n hx hb dX5_readAll_69 rfl (lv_at hl 0 rfl) ?_
              refine gf_X5_36 hE hP (3) (gC_3 E a (stI X) tr) (v := .int (nI ((stI X) (4) (0)))) rfl dX5_readAll_70 ?_
              refine lv_bipush (v := nI (6)) hx hb dX5_readAll_73 (by decide) ?_
              refine bN_ne (tgt := 89) hx hb (by omega) (by omega) dX5_readAll_75 (by decide) (fun c75 => ?_) (fun c75 => ?_)
              · have hit := it_n c44 c59 c75
                have h33 := hB1.1.2.2.1
                refine lv_iconst (v := nI (0)) hx hb dX5_readAll_89 (by decide) ?_
                refine lv_istore_n (lv' := [(2, .int (nI (0))), (0, .ref (a 2)), (1, .int (nI (i)))]) hx hb dX5_readAll_90 rfl hl (by decide) rfl (fun ls hl => ?_)
                refine lv_iload_n hx hb dX5_readAll_91 rfl (lv_at hl 0 rfl) ?_
                refine bZ_ne (tgt := 98) hx hb (by omega) dX5_readAll_92 (by decide) (fun c92 => absurd c92 (by omega)) (fun c92 => ?_)
                refine lv_goto (tgt := 104) hx hb dX5_readAll_95 (by decide) ?_
                refine lv_bipush (v := (-10)) hx hb dX5_readAll_104 (by decide) ?_
                refine lv_aload_n hx hb dX5_readAll_106 rfl (lv_at hl 1 rfl) ?_
                refine gf_X5_49 hE hP (3) (gC_3 E a (stI X) tr) (v := .int (nI ((stI X) (3) (0)))) rfl dX5_readAll_107 ?_
                refine lv_isub hx hb dX5_readAll_110 ?_
                have hw : (stI X) = (raI I).2 := by rw [← hraw, show 301 - i = (300 - i) + 1 by omega, ra_f c34 hit rfl]
                have hP := Eq.mp (congrArg (fun q => va_P E.1 vwCl (WC E a q tr) H) hw) hP
                have hD := Eq.mp (congrArg (fun q => va_D A (WC E a q tr)) hw) hD
                exact ret_i hE (r := (((-10)) - (nI ((stI X) (3) (0))))) (by rw [← hraw, show 301 - i = (300 - i) + 1 by omega, ra_f c34 hit rfl]) hP hD hS dX5_readAll_111
              · have hit := it_6 c75
                refine lv_aload_n hx hb dX5_readAll_78 rfl (lv_at hl 0 rfl) ?_
                refine call_V (As := []) (rest := []) hE (ct_X5_readsWalk l E a (stI X) tr hB1.1 hB1.2.2) cm_X5_readsWalk (uw mt_L_X5_46 rfl) (gC_3 E a (stI X) tr) rfl rfl hP hD hS hl.1 rfl rfl (Nat.le_of_ble_eq_true rfl) ⟨by decide, by decide⟩ dX5_readAll_79 (fun H locs hP hD hS => ?_)
                refine W.eq (g2 := F0 m 82 ls [.int (bB ((rwI (stI X)).1))]) rfl ?_
                have hB2 := BK_it hB1
                rw [hit] at hB2
                have h33 := hB2.1.2.2.1
                refine bB_eq (tgt := 89) hx hb dX5_readAll_82 (by decide) (fun c82 => ?_) (fun c82 => ?_)
                · refine lv_iconst (v := nI (0)) hx hb dX5_readAll_89 (by decide) ?_
                  refine lv_istore_n (lv' := [(2, .int (nI (0))), (0, .ref (a 2)), (1, .int (nI (i)))]) hx hb dX5_readAll_90 rfl hl (by decide) rfl (fun ls hl => ?_)
                  refine lv_iload_n hx hb dX5_readAll_91 rfl (lv_at hl 0 rfl) ?_
                  refine bZ_ne (tgt := 98) hx hb (by omega) dX5_readAll_92 (by decide) (fun c92 => absurd c92 (by omega)) (fun c92 => ?_)
                  refine lv_goto (tgt := 104) hx hb dX5_readAll_95 (by decide) ?_
                  refine lv_bipush (v := (-10)) hx hb dX5_readAll_104 (by decide) ?_
                  refine lv_aload_n hx hb dX5_readAll_106 rfl (lv_at hl 1 rfl) ?_
                  refine gf_X5_49 hE hP (3) (gC_3 E a (rwI (stI X)).2 tr) (v := .int (nI ((rwI (stI X)).2 (3) (0)))) rfl dX5_readAll_107 ?_
                  refine lv_isub hx hb dX5_readAll_110 ?_
                  have hw : (rwI (stI X)).2 = (raI I).2 := by rw [← hraw, show 301 - i = (300 - i) + 1 by omega, ra_f (Y := (rwI (stI X)).2) c34 hit c82]
                  have hP := Eq.mp (congrArg (fun q => va_P E.1 vwCl (WC E a q tr) H) hw) hP
                  have hD := Eq.mp (congrArg (fun q => va_D A (WC E a q tr)) hw) hD
                  exact ret_i hE (r := (((-10)) - (nI ((rwI (stI X)).2 (3) (0))))) (by rw [← hraw, show 301 - i = (300 - i) + 1 by omega, ra_f (Y := (rwI (stI X)).2) c34 hit c82]) hP hD hS dX5_readAll_111
                · refine lv_iconst (v := nI (1)) hx hb dX5_readAll_85 (by decide) ?_
                  refine lv_goto (tgt := 90) hx hb dX5_readAll_86 (by decide) ?_
                  refine lv_istore_n (lv' := [(2, .int (nI (1))), (0, .ref (a 2)), (1, .int (nI (i)))]) hx hb dX5_readAll_90 rfl hl (by decide) rfl (fun ls hl => ?_)
                  refine lv_iload_n hx hb dX5_readAll_91 rfl (lv_at hl 0 rfl) ?_
                  refine bZ_ne (tgt := 98) hx hb (by omega) dX5_readAll_92 (by decide) (fun c92 => ?_) (fun c92 => absurd c92 (by omega))
                  refine lv_iinc (v := nI (i + 1)) (lv' := [(1, .int (nI (i + 1))), (2, .int (nI (1))), (0, .ref (a 2))]) hx hb dX5_readAll_98 hl (k := 2) rfl (ii1_N _) (by decide) rfl (fun ls hl => ?_)
                  refine lv_goto (tgt := 19) hx hb dX5_readAll_101 (by decide) ?_
                  exact ih19 ((rwI (stI X)).2) (i + 1) (by omega) (by omega) hB2 (by rw [← hraw, show 301 - i = (301 - (i + 1)) + 1 by omega, ra_t (Y := (rwI (stI X)).2) c34 hit c82]) ls _ _ (lv_sub hl [2, 0] rfl) hP hD hS
            · have hit := it_5 c59
              refine lv_aload_n hx hb dX5_readAll_62 rfl (lv_at hl 0 rfl) ?_
              refine call_V (As := []) (rest := []) hE (ct_X5_readsLeap l E a (stI X) tr hB1.1 hB1.2.1) cm_X5_readsLeap (uw mt_L_X5_43 rfl) (gC_3 E a (stI X) tr) rfl rfl hP hD hS hl.1 rfl rfl (Nat.le_of_ble_eq_true rfl) ⟨by decide, by decide⟩ dX5_readAll_63 (fun H locs hP hD hS => ?_)
              refine W.eq (g2 := F0 m 66 ls [.int (bB ((rlI (stI X)).1))]) rfl ?_
              have hB2 := BK_it hB1
              rw [hit] at hB2
              have h33 := hB2.1.2.2.1
              refine lv_goto (tgt := 90) hx hb dX5_readAll_66 (by decide) ?_
              refine lv_istore_n (lv' := [(2, .int (bB ((rlI (stI X)).1))), (0, .ref (a 2)), (1, .int (nI (i)))]) hx hb dX5_readAll_90 rfl hl (by decide) rfl (fun ls hl => ?_)
              refine lv_iload_n hx hb dX5_readAll_91 rfl (lv_at hl 0 rfl) ?_
              refine bB_ne (tgt := 98) hx hb dX5_readAll_92 (by decide) (fun c92 => ?_) (fun c92 => ?_)
              · refine lv_iinc (v := nI (i + 1)) (lv' := [(1, .int (nI (i + 1))), (2, .int (bB ((rlI (stI X)).1))), (0, .ref (a 2))]) hx hb dX5_readAll_98 hl (k := 2) rfl (ii1_N _) (by decide) rfl (fun ls hl => ?_)
                refine lv_goto (tgt := 19) hx hb dX5_readAll_101 (by decide) ?_
                exact ih19 ((rlI (stI X)).2) (i + 1) (by omega) (by omega) hB2 (by rw [← hraw, show 301 - i = (301 - (i + 1)) + 1 by omega, ra_t (Y := (rlI (stI X)).2) c34 hit c92]) ls _ _ (lv_sub hl [2, 0] rfl) hP hD hS
              · refine lv_goto (tgt := 104) hx hb dX5_readAll_95 (by decide) ?_
                refine lv_bipush (v := (-10)) hx hb dX5_readAll_104 (by decide) ?_
                refine lv_aload_n hx hb dX5_readAll_106 rfl (lv_at hl 1 rfl) ?_
                refine gf_X5_49 hE hP (3) (gC_3 E a (rlI (stI X)).2 tr) (v := .int (nI ((rlI (stI X)).2 (3) (0)))) rfl dX5_readAll_107 ?_
                refine lv_isub hx hb dX5_readAll_110 ?_
                have hw : (rlI (stI X)).2 = (raI I).2 := by rw [← hraw, show 301 - i = (300 - i) + 1 by omega, ra_f (Y := (rlI (stI X)).2) c34 hit c92]
                have hP := Eq.mp (congrArg (fun q => va_P E.1 vwCl (WC E a q tr) H) hw) hP
                have hD := Eq.mp (congrArg (fun q => va_D A (WC E a q tr)) hw) hD
                exact ret_i hE (r := (((-10)) - (nI ((rlI (stI X)).2 (3) (0))))) (by rw [← hraw, show 301 - i = (300 - i) + 1 by omega, ra_f (Y := (rlI (stI X)).2) c34 hit c92]) hP hD hS dX5_readAll_111
          · have hit := it_4 c44
            refine lv_aload_n hx hb dX5_readAll_47 rfl (lv_at hl 0 rfl) ?_
            refine call_V (As := []) (rest := []) hE (ct_X5_readsHouse l E a (stI X) tr hB1.1 hB1.2.1) cm_X5_readsHouse (uw mt_L_X5_39 rfl) (gC_3 E a (stI X) tr) rfl rfl hP hD hS hl.1 rfl rfl (Nat.le_of_ble_eq_true rfl) ⟨by decide, by decide⟩ dX5_readAll_48 (fun H locs hP hD hS => ?_)
            refine W.eq (g2 := F0 m 51 ls [.int (bB ((rhI (stI X)).1))]) rfl ?_
            have hB2 := BK_it hB1
            rw [hit] at hB2
            have h33 := hB2.1.2.2.1
            refine lv_goto (tgt := 90) hx hb dX5_readAll_51 (by decide) ?_
            refine lv_istore_n (lv' := [(2, .int (bB ((rhI (stI X)).1))), (0, .ref (a 2)), (1, .int (nI (i)))]) hx hb dX5_readAll_90 rfl hl (by decide) rfl (fun ls hl => ?_)
            refine lv_iload_n hx hb dX5_readAll_91 rfl (lv_at hl 0 rfl) ?_
            refine bB_ne (tgt := 98) hx hb dX5_readAll_92 (by decide) (fun c92 => ?_) (fun c92 => ?_)
            · refine lv_iinc (v := nI (i + 1)) (lv' := [(1, .int (nI (i + 1))), (2, .int (bB ((rhI (stI X)).1))), (0, .ref (a 2))]) hx hb dX5_readAll_98 hl (k := 2) rfl (ii1_N _) (by decide) rfl (fun ls hl => ?_)
              refine lv_goto (tgt := 19) hx hb dX5_readAll_101 (by decide) ?_
              exact ih19 ((rhI (stI X)).2) (i + 1) (by omega) (by omega) hB2 (by rw [← hraw, show 301 - i = (301 - (i + 1)) + 1 by omega, ra_t (Y := (rhI (stI X)).2) c34 hit c92]) ls _ _ (lv_sub hl [2, 0] rfl) hP hD hS
            · refine lv_goto (tgt := 104) hx hb dX5_readAll_95 (by decide) ?_
              refine lv_bipush (v := (-10)) hx hb dX5_readAll_104 (by decide) ?_
              refine lv_aload_n hx hb dX5_readAll_106 rfl (lv_at hl 1 rfl) ?_
              refine gf_X5_49 hE hP (3) (gC_3 E a (rhI (stI X)).2 tr) (v := .int (nI ((rhI (stI X)).2 (3) (0)))) rfl dX5_readAll_107 ?_
              refine lv_isub hx hb dX5_readAll_110 ?_
              have hw : (rhI (stI X)).2 = (raI I).2 := by rw [← hraw, show 301 - i = (300 - i) + 1 by omega, ra_f (Y := (rhI (stI X)).2) c34 hit c92]
              have hP := Eq.mp (congrArg (fun q => va_P E.1 vwCl (WC E a q tr) H) hw) hP
              have hD := Eq.mp (congrArg (fun q => va_D A (WC E a q tr)) hw) hD
              exact ret_i hE (r := (((-10)) - (nI ((rhI (stI X)).2 (3) (0))))) (by rw [← hraw, show 301 - i = (300 - i) + 1 by omega, ra_f (Y := (rhI (stI X)).2) c34 hit c92]) hP hD hS dX5_readAll_111
        · refine lv_iload_n hx hb dX5_readAll_37 rfl (lv_at hl 1 rfl) ?_
          have hw : (stI X) = (raI I).2 := by rw [← hraw, show 301 - i = (300 - i) + 1 by omega, ra_0 c34]
          have hP := Eq.mp (congrArg (fun q => va_P E.1 vwCl (WC E a q tr) H) hw) hP
          have hD := Eq.mp (congrArg (fun q => va_D A (WC E a q tr)) hw) hD
          exact ret_i hE (r := nI (i)) (by rw [← hraw, show 301 - i = (300 - i) + 1 by omega, ra_0 c34]) hP hD hS dX5_readAll_38
  exact loop19 (_ + 1) ((up2 (up2 (up2 (up2 I (26) (0) (0)) (27) (0) (1)) (2) (0) (0)) (6) (0) (0))) (0) (Nat.lt_succ_self _) (by omega) (BK_0 hT h30 h40 h50 hDs) rfl ls _ _ (lv_sub hl [1, 0] rfl) hP hD hS
