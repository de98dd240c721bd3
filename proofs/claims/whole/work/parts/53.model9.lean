set_option maxHeartbeats 4000000 in
set_option maxRecDepth 100000 in
theorem ct_X10_readItem (l : Launch) (E : cE) (a : Nat → Nat) (I : Nat → Nat → Nat) (tr : Int64) (hR : RJ I) (hH : I 2 1 ≤ 6) (hL2 : ∀ x, x < 12 → I 7 x ≤ 2) (h15 : I 15 0 < 2) : Ct l E 6 yX10_readItem cX10_readItem 3 none [.ref (a 0)] (WM E a I tr) none (WM E a (riJ I) tr) := by
  refine Ct_of (plainFor_of_name (by decide)) (Nat.le_of_ble_eq_true rfl) ?_
  intro p e s m args below meth c A ls hE hP hD hS hl
  have hE : cEnv p s m args meth c E RX10 cX10_readItem 3 none A := hE
  have hx := hE.1
  have hb := hE.2.1
  have hl : lv_has ls 3 [(0, .ref (a 0))] := hl
  have hP : va_P E.1 vwCl (WM E a I tr) s.heap := hP
  generalize hH : s.heap = H at hP hS ⊢
  have hS : va_S A s.heap H [] := by rw [hH]; exact hS
  clear hH
  have hT := hR.1
  have hT3 := hT.1
  have h10 := hR.2.1
  have h11 := hR.2.2.1
  have h12 := hR.2.2.2.1
  have h13 := hR.2.2.2.2.1
  have h14 := hR.2.2.2.2.2
  have hr2 : ri1 I 2 = I 2 := waJ_off _ _ (by decide)
  have hr7 : ri1 I 7 = I 7 := waJ_off _ _ (by decide)
  have hr21 : ri1 I 2 1 = I 2 1 := by rw [hr2]
  have hR1c := (RJ_r1 hR).2.2.2.2.1
  have h32 : ho3 (ri1 I) 2 1 = I 2 1 := by rw [ho3_2, hr2]
  refine lv_aload_n hx hb dX10_readItem_0 rfl (lv_at hl 0 rfl) ?_
  refine gf_X10_86 hE hP (0) (gM_0 E a I tr) (v := .int (nI (I (12) (0)))) rfl dX10_readItem_1 ?_
  refine lv_istore_n (lv' := [(1, .int (nI (I (12) (0)))), (0, .ref (a 0))]) hx hb dX10_readItem_4 rfl hl (by decide) rfl (fun ls hl => ?_)
  refine lv_aload_n hx hb dX10_readItem_5 rfl (lv_at hl 1 rfl) ?_
  refine lv_iload_n hx hb dX10_readItem_6 rfl (lv_at hl 0 rfl) ?_
  refine bZ_ne (tgt := 21) hx hb (by omega) dX10_readItem_7 (by decide) (fun c7 => ?_) (fun c7 => ?_)
  · refine lv_iload_n hx hb dX10_readItem_21 rfl (lv_at hl 0 rfl) ?_
    refine lv_iconst (v := nI (1)) hx hb dX10_readItem_22 (by decide) ?_
    refine bN_eq (tgt := 38) hx hb (by omega) (by omega) dX10_readItem_23 (by decide) (fun c23 => ?_) (fun c23 => ?_)
    · refine lv_iconst (v := nI (1)) hx hb dX10_readItem_38 (by decide) ?_
      refine lv_goto (tgt := 43) hx hb dX10_readItem_39 (by decide) ?_
      refine call_V (As := [.int (nI (1))]) (rest := []) hE (ct_X10_want l E a I tr (1) (by omega) hR) cm_X10_want (uw mt_L_X10_98 rfl) (gM_0 E a I tr) rfl rfl hP hD hS hl.1 rfl rfl (Nat.le_of_ble_eq_true rfl) ⟨by decide, by decide⟩ dX10_readItem_43 (fun H locs hP hD hS => ?_)
      refine W.eq (g2 := F0 m 46 ls [.int (nI (I 13 0))]) rfl ?_
      have hR1 : RJ (waJ I (1)) := RJ_wa hR
      have hwf : (waJ I (1)) = (ri1 I) := by first | (unfold ri1 riZ; rw [if_pos (by omega)]; done) | (unfold ri1 riZ; rw [if_neg (by omega)]; done)
      have hP := Eq.mp (congrArg (fun q => va_P E.1 vwCl (WM E a q tr) H) hwf) hP
      have hD := Eq.mp (congrArg (fun q => va_D A (WM E a q tr)) hwf) hD
      have hR2 : RJ (ri1 I) := RJ_r1 hR
      have hR2d := hR2.2.2.2.2.1
      have hR2f := hR2.2.2.2.2.2
      refine lv_pop hx hb dX10_readItem_46 rfl ?_
      refine lv_aload_n hx hb dX10_readItem_47 rfl (lv_at hl 1 rfl) ?_
      refine gf_X10_92 hE hP (0) (gM_0 E a (ri1 I) tr) (v := .int (rN ((ri1 I) (14) (0)))) rfl dX10_readItem_48 ?_
      refine lv_bipush (v := (-9)) hx hb dX10_readItem_51 (by decide) ?_
      refine bQ9_eq (tgt := 57) hx hb (by omega) dX10_readItem_53 (by decide) (fun c53 => ?_) (fun c53 => ?_)
      · have hok := ri_ok c53
        refine lv_iload_n hx hb dX10_readItem_57 rfl (lv_at hl 0 rfl) ?_
        refine bZ_ne (tgt := 130) hx hb (by omega) dX10_readItem_58 (by decide) (fun c58 => ?_) (fun c58 => ?_)
        · refine lv_iload_n hx hb dX10_readItem_130 rfl (lv_at hl 0 rfl) ?_
          refine lv_iconst (v := nI (1)) hx hb dX10_readItem_131 (by decide) ?_
          refine bN_ne (tgt := 142) hx hb (by omega) (by omega) dX10_readItem_132 (by decide) (fun c132 => ?_) (fun c132 => ?_)
          · refine lv_aload_n hx hb dX10_readItem_142 rfl (lv_at hl 1 rfl) ?_
            refine gf_X10_17 hE hP (0) (gM_0 E a (ri1 I) tr) (v := .ref (a 3)) rfl dX10_readItem_143 ?_
            refine lv_iconst (v := nI (1)) hx hb dX10_readItem_146 (by decide) ?_
            refine lv_aload_n hx hb dX10_readItem_147 rfl (lv_at hl 1 rfl) ?_
            refine lv_iconst (v := nI (0)) hx hb dX10_readItem_148 (by decide) ?_
            refine lv_bipush (v := nI (9)) hx hb dX10_readItem_149 (by decide) ?_
            refine call_V (As := [.int (nI (0)), .int (nI (9))]) (rest := [.int (nI (1)), .ref (a 3)]) hE (ct_X10_number l E a (ri1 I) tr (nI (0)) (nI (9)) hR2) cm_X10_number (uw mt_L_X10_102 rfl) (gM_0 E a (ri1 I) tr) rfl rfl hP hD hS hl.1 rfl rfl (Nat.le_of_ble_eq_true rfl) ⟨by decide, by decide⟩ dX10_readItem_151 (fun H locs hP hD hS => ?_)
            refine W.eq (g2 := F0 m 154 ls [.int (nI ((ri1 I) 13 0)), .int (nI (1)), .ref (a 3)]) rfl ?_
            have hR3 : RJ (waJ (ri1 I) (nuZ (ri1 I) (nI (0)) (nI (9)))) := RJ_wa hR2
            have hR3d := hR3.2.2.2.2.1
            have hR3f := hR3.2.2.2.2.2
            refine ast_i hE hP hD hS (3) (gM_3 E a (waJ (ri1 I) (nuZ (ri1 I) (nI (0)) (nI (9)))) tr) (by omega) (by decide) (sM_3 E a (waJ (ri1 I) (nuZ (ri1 I) (nI (0)) (nI (9)))) tr (1) ((ri1 I) 13 0)) dX10_readItem_154 (fun H locs hP hD hS => ?_)
            refine lv_aload_n hx hb dX10_readItem_155 rfl (lv_at hl 1 rfl) ?_
            refine lv_iconst (v := nI (1)) hx hb dX10_readItem_156 (by decide) ?_
            refine pf_X10_106 hE hP hD hS (0) (gM_0 E a (up2 (waJ (ri1 I) (nuZ (ri1 I) (nI (0)) (nI (9)))) (3) (1) ((ri1 I) 13 0)) tr) (by decide) (by decide) (Nat.le_of_ble_eq_true rfl) (sM_0_16 E a (up2 (waJ (ri1 I) (nuZ (ri1 I) (nI (0)) (nI (9)))) (3) (1) ((ri1 I) 13 0)) tr (1)) dX10_readItem_157 (fun H locs hP hD hS => ?_)
            have hwf : (up2 (up2 (waJ (ri1 I) (nuZ (ri1 I) (nI (0)) (nI (9)))) (3) (1) ((ri1 I) 13 0)) (15) (0) (1)) = (riK I) := by unfold riK; rw [if_neg (by omega), if_neg c132]; rfl
            have hP := Eq.mp (congrArg (fun q => va_P E.1 vwCl (WM E a q tr) H) hwf) hP
            have hD := Eq.mp (congrArg (fun q => va_D A (WM E a q tr)) hwf) hD
            have hR4 : RJ (riK I) := RJ_K hR
            have hR4d := hR4.2.2.2.2.1
            have hR4f := hR4.2.2.2.2.2
            have hk12 := (RJ_K hR).2.2.2.1
            refine lv_aload_n hx hb dX10_readItem_160 rfl (lv_at hl 1 rfl) ?_
            refine lv_aload_n hx hb dX10_readItem_161 rfl (lv_at hl 1 rfl) ?_
            refine gf_X10_86 hE hP (0) (gM_0 E a (riK I) tr) (v := .int (nI ((riK I) (12) (0)))) rfl dX10_readItem_162 ?_
            refine lv_iconst (v := nI (5)) hx hb dX10_readItem_165 (by decide) ?_
            refine bN_ne (tgt := 173) hx hb (by omega) (by omega) dX10_readItem_166 (by decide) (fun c166 => ?_) (fun c166 => ?_)
            · refine lv_iconst (v := nI (0)) hx hb dX10_readItem_173 (by decide) ?_
              refine call_V (As := [.int (nI (0))]) (rest := []) hE (ct_X10_want l E a (riK I) tr (0) (by omega) hR4) cm_X10_want (uw mt_L_X10_98 rfl) (gM_0 E a (riK I) tr) rfl rfl hP hD hS hl.1 rfl rfl (Nat.le_of_ble_eq_true rfl) ⟨by decide, by decide⟩ dX10_readItem_174 (fun H locs hP hD hS => ?_)
              refine W.eq (g2 := F0 m 177 ls [.int (nI ((riK I) 13 0))]) rfl ?_
              have hR5 : RJ (waJ (riK I) (0)) := RJ_wa hR4
              refine lv_pop hx hb dX10_readItem_177 rfl ?_
              have hw : (waJ (riK I) (0)) = (riJ I) := by first | (unfold riJ; rw [if_pos c53, if_pos c166]; done) | (unfold riJ; rw [if_pos c53, if_neg c166]; done)
              have hP := Eq.mp (congrArg (fun q => va_P E.1 vwCl (WM E a q tr) H) hw) hP
              have hD := Eq.mp (congrArg (fun q => va_D A (WM E a q tr)) hw) hD
              exact ret_v hE rfl hP hD hS dX10_readItem_178
            · refine lv_iconst (v := nI (1)) hx hb dX10_readItem_169 (by decide) ?_
              refine lv_goto (tgt := 174) hx hb dX10_readItem_170 (by decide) ?_
              refine call_V (As := [.int (nI (1))]) (rest := []) hE (ct_X10_want l E a (riK I) tr (1) (by omega) hR4) cm_X10_want (uw mt_L_X10_98 rfl) (gM_0 E a (riK I) tr) rfl rfl hP hD hS hl.1 rfl rfl (Nat.le_of_ble_eq_true rfl) ⟨by decide, by decide⟩ dX10_readItem_174 (fun H locs hP hD hS => ?_)
              refine W.eq (g2 := F0 m 177 ls [.int (nI ((riK I) 13 0))]) rfl ?_
              have hR6 : RJ (waJ (riK I) (1)) := RJ_wa hR4
              refine lv_pop hx hb dX10_readItem_177 rfl ?_
              have hw : (waJ (riK I) (1)) = (riJ I) := by first | (unfold riJ; rw [if_pos c53, if_pos c166]; done) | (unfold riJ; rw [if_pos c53, if_neg c166]; done)
              have hP := Eq.mp (congrArg (fun q => va_P E.1 vwCl (WM E a q tr) H) hw) hP
              have hD := Eq.mp (congrArg (fun q => va_D A (WM E a q tr)) hw) hD
              exact ret_v hE rfl hP hD hS dX10_readItem_178
          · refine lv_aload_n hx hb dX10_readItem_135 rfl (lv_at hl 1 rfl) ?_
            refine call_V (As := []) (rest := []) hE (ct_X10_readLeap l E a (ri1 I) tr (RJ_r1 hR) (by rw [hr2]; omega) (fun x hx9 => by rw [hr7]; exact hL2 x hx9)) cm_X10_readLeap (uw mt_L_X10_110 rfl) (gM_0 E a (ri1 I) tr) rfl rfl hP hD hS hl.1 rfl rfl (Nat.le_of_ble_eq_true rfl) ⟨by decide, by decide⟩ dX10_readItem_136 (fun H locs hP hD hS => ?_)
            refine W.eq (g2 := F0 m 139 ls []) rfl ?_
            have hwf : (leJ (ri1 I)) = (riK I) := by unfold riK; rw [if_neg (by omega), if_pos c132]
            have hP := Eq.mp (congrArg (fun q => va_P E.1 vwCl (WM E a q tr) H) hwf) hP
            have hD := Eq.mp (congrArg (fun q => va_D A (WM E a q tr)) hwf) hD
            have hR7 : RJ (riK I) := RJ_K hR
            have hR7d := hR7.2.2.2.2.1
            have hR7f := hR7.2.2.2.2.2
            refine lv_goto (tgt := 160) hx hb dX10_readItem_139 (by decide) ?_
            have hk12 := (RJ_K hR).2.2.2.1
            refine lv_aload_n hx hb dX10_readItem_160 rfl (lv_at hl 1 rfl) ?_
            refine lv_aload_n hx hb dX10_readItem_161 rfl (lv_at hl 1 rfl) ?_
            refine gf_X10_86 hE hP (0) (gM_0 E a (riK I) tr) (v := .int (nI ((riK I) (12) (0)))) rfl dX10_readItem_162 ?_
            refine lv_iconst (v := nI (5)) hx hb dX10_readItem_165 (by decide) ?_
            refine bN_ne (tgt := 173) hx hb (by omega) (by omega) dX10_readItem_166 (by decide) (fun c166 => ?_) (fun c166 => ?_)
            · refine lv_iconst (v := nI (0)) hx hb dX10_readItem_173 (by decide) ?_
              refine call_V (As := [.int (nI (0))]) (rest := []) hE (ct_X10_want l E a (riK I) tr (0) (by omega) hR7) cm_X10_want (uw mt_L_X10_98 rfl) (gM_0 E a (riK I) tr) rfl rfl hP hD hS hl.1 rfl rfl (Nat.le_of_ble_eq_true rfl) ⟨by decide, by decide⟩ dX10_readItem_174 (fun H locs hP hD hS => ?_)
              refine W.eq (g2 := F0 m 177 ls [.int (nI ((riK I) 13 0))]) rfl ?_
              have hR8 : RJ (waJ (riK I) (0)) := RJ_wa hR7
              refine lv_pop hx hb dX10_readItem_177 rfl ?_
              have hw : (waJ (riK I) (0)) = (riJ I) := by first | (unfold riJ; rw [if_pos c53, if_pos c166]; done) | (unfold riJ; rw [if_pos c53, if_neg c166]; done)
              have hP := Eq.mp (congrArg (fun q => va_P E.1 vwCl (WM E a q tr) H) hw) hP
              have hD := Eq.mp (congrArg (fun q => va_D A (WM E a q tr)) hw) hD
              exact ret_v hE rfl hP hD hS dX10_readItem_178
            · refine lv_iconst (v := nI (1)) hx hb dX10_readItem_169 (by decide) ?_
              refine lv_goto (tgt := 174) hx hb dX10_readItem_170 (by decide) ?_
              refine call_V (As := [.int (nI (1))]) (rest := []) hE (ct_X10_want l E a (riK I) tr (1) (by omega) hR7) cm_X10_want (uw mt_L_X10_98 rfl) (gM_0 E a (riK I) tr) rfl rfl hP hD hS hl.1 rfl rfl (Nat.le_of_ble_eq_true rfl) ⟨by decide, by decide⟩ dX10_readItem_174 (fun H locs hP hD hS => ?_)
              refine W.eq (g2 := F0 m 177 ls [.int (nI ((riK I) 13 0))]) rfl ?_
              have hR9 : RJ (waJ (riK I) (1)) := RJ_wa hR7
              refine lv_pop hx hb dX10_readItem_177 rfl ?_
              have hw : (waJ (riK I) (1)) = (riJ I) := by first | (unfold riJ; rw [if_pos c53, if_pos c166]; done) | (unfold riJ; rw [if_pos c53, if_neg c166]; done)
              have hP := Eq.mp (congrArg (fun q => va_P E.1 vwCl (WM E a q tr) H) hw) hP
              have hD := Eq.mp (congrArg (fun q => va_D A (WM E a q tr)) hw) hD
              exact ret_v hE rfl hP hD hS dX10_readItem_178
        · refine lv_bipush (v := nI (6)) hx hb dX10_readItem_61 (by decide) ?_
          refine lv_aload_n hx hb dX10_readItem_63 rfl (lv_at hl 1 rfl) ?_
          refine gf_X10_13 hE hP (0) (gM_0 E a (ri1 I) tr) (v := .ref (a 2)) rfl dX10_readItem_64 ?_
          refine lv_iconst (v := nI (1)) hx hb dX10_readItem_67 (by decide) ?_
          refine ald_i hE hP (2) (gM_2 E a (ri1 I) tr) (by omega) (by decide) (r := nI ((ri1 I) (2) (1))) rfl dX10_readItem_68 ?_
          refine lv_iadd hx hb dX10_readItem_69 ?_
          refine tp (nI_add _ _) ?_
          refine lv_istore_n (lv' := [(2, .int (nI (6 + (ri1 I) (2) (1)))), (1, .int (nI (I (12) (0)))), (0, .ref (a 0))]) hx hb dX10_readItem_70 rfl hl (by decide) rfl (fun ls hl => ?_)
          refine lv_aload_n hx hb dX10_readItem_71 rfl (lv_at hl 2 rfl) ?_
          refine gf_X10_20 hE hP (0) (gM_0 E a (ri1 I) tr) (v := .ref (a 4)) rfl dX10_readItem_72 ?_
          refine lv_iload_n hx hb dX10_readItem_75 rfl (lv_at hl 0 rfl) ?_
          refine lv_aload_n hx hb dX10_readItem_76 rfl (lv_at hl 2 rfl) ?_
          refine lv_iconst (v := nI (0)) hx hb dX10_readItem_77 (by decide) ?_
          refine lv_bipush (v := nI (47)) hx hb dX10_readItem_78 (by decide) ?_
          refine call_V (As := [.int (nI (0)), .int (nI (47))]) (rest := [.int (nI (6 + (ri1 I) (2) (1))), .ref (a 4)]) hE (ct_X10_number l E a (ri1 I) tr (nI (0)) (nI (47)) hR2) cm_X10_number (uw mt_L_X10_102 rfl) (gM_0 E a (ri1 I) tr) rfl rfl hP hD hS hl.1 rfl rfl (Nat.le_of_ble_eq_true rfl) ⟨by decide, by decide⟩ dX10_readItem_80 (fun H locs hP hD hS => ?_)
          refine W.eq (g2 := F0 m 83 ls [.int (nI ((ri1 I) 13 0)), .int (nI (6 + (ri1 I) (2) (1))), .ref (a 4)]) rfl ?_
          have hR10 : RJ (waJ (ri1 I) (nuZ (ri1 I) (nI (0)) (nI (47)))) := RJ_wa hR2
          have hR10d := hR10.2.2.2.2.1
          have hR10f := hR10.2.2.2.2.2
          refine ast_i hE hP hD hS (4) (gM_4 E a (waJ (ri1 I) (nuZ (ri1 I) (nI (0)) (nI (47)))) tr) (by omega) (by decide) (sM_4 E a (waJ (ri1 I) (nuZ (ri1 I) (nI (0)) (nI (47)))) tr (6 + (ri1 I) (2) (1)) ((ri1 I) 13 0)) dX10_readItem_83 (fun H locs hP hD hS => ?_)
          have hwf : (up2 (waJ (ri1 I) (nuZ (ri1 I) (nI (0)) (nI (47)))) (4) (6 + (ri1 I) (2) (1)) ((ri1 I) 13 0)) = (ho1 (ri1 I)) := rfl
          have hP := Eq.mp (congrArg (fun q => va_P E.1 vwCl (WM E a q tr) H) hwf) hP
          have hD := Eq.mp (congrArg (fun q => va_D A (WM E a q tr)) hwf) hD
          have hR11 : RJ (ho1 (ri1 I)) := RJ_h1 (RJ_r1 hR)
          have hR11d := hR11.2.2.2.2.1
          have hR11f := hR11.2.2.2.2.2
          refine lv_aload_n hx hb dX10_readItem_84 rfl (lv_at hl 2 rfl) ?_
          refine gf_X10_23 hE hP (0) (gM_0 E a (ho1 (ri1 I)) tr) (v := .ref (a 5)) rfl dX10_readItem_85 ?_
          refine lv_iload_n hx hb dX10_readItem_88 rfl (lv_at hl 0 rfl) ?_
          refine lv_aload_n hx hb dX10_readItem_89 rfl (lv_at hl 2 rfl) ?_
          refine lv_iconst (v := nI (1)) hx hb dX10_readItem_90 (by decide) ?_
          refine lv_bipush (v := nI (9)) hx hb dX10_readItem_91 (by decide) ?_
          refine call_V (As := [.int (nI (1)), .int (nI (9))]) (rest := [.int (nI (6 + (ri1 I) (2) (1))), .ref (a 5)]) hE (ct_X10_number l E a (ho1 (ri1 I)) tr (nI (1)) (nI (9)) hR11) cm_X10_number (uw mt_L_X10_102 rfl) (gM_0 E a (ho1 (ri1 I)) tr) rfl rfl hP hD hS hl.1 rfl rfl (Nat.le_of_ble_eq_true rfl) ⟨by decide, by decide⟩ dX10_readItem_93 (fun H locs hP hD hS => ?_)
          refine W.eq (g2 := F0 m 96 ls [.int (nI ((ho1 (ri1 I)) 13 0)), .int (nI (6 + (ri1 I) (2) (1))), .ref (a 5)]) rfl ?_
          have hR12 : RJ (waJ (ho1 (ri1 I)) (nuZ (ho1 (ri1 I)) (nI (1)) (nI (9)))) := RJ_wa hR11
          have hR12d := hR12.2.2.2.2.1
          have hR12f := hR12.2.2.2.2.2
          refine ast_i hE hP hD hS (5) (gM_5 E a (waJ (ho1 (ri1 I)) (nuZ (ho1 (ri1 I)) (nI (1)) (nI (9)))) tr) (by omega) (by decide) (sM_5 E a (waJ (ho1 (ri1 I)) (nuZ (ho1 (ri1 I)) (nI (1)) (nI (9)))) tr (6 + (ri1 I) (2) (1)) ((ho1 (ri1 I)) 13 0)) dX10_readItem_96 (fun H locs hP hD hS => ?_)
          have hwf : (up2 (waJ (ho1 (ri1 I)) (nuZ (ho1 (ri1 I)) (nI (1)) (nI (9)))) (5) (6 + (ri1 I) (2) (1)) ((ho1 (ri1 I)) 13 0)) = (ho2 (ri1 I)) := rfl
          have hP := Eq.mp (congrArg (fun q => va_P E.1 vwCl (WM E a q tr) H) hwf) hP
          have hD := Eq.mp (congrArg (fun q => va_D A (WM E a q tr)) hwf) hD
          have hR13 : RJ (ho2 (ri1 I)) := RJ_h2 (RJ_r1 hR)
          have hR13d := hR13.2.2.2.2.1
          have hR13f := hR13.2.2.2.2.2
          refine lv_aload_n hx hb dX10_readItem_97 rfl (lv_at hl 2 rfl) ?_
          refine gf_X10_26 hE hP (0) (gM_0 E a (ho2 (ri1 I)) tr) (v := .ref (a 6)) rfl dX10_readItem_98 ?_
          refine lv_iload_n hx hb dX10_readItem_101 rfl (lv_at hl 0 rfl) ?_
          refine lv_aload_n hx hb dX10_readItem_102 rfl (lv_at hl 2 rfl) ?_
          refine lv_iconst (v := nI (1)) hx hb dX10_readItem_103 (by decide) ?_
          refine lv_bipush (v := nI (9)) hx hb dX10_readItem_104 (by decide) ?_
          refine call_V (As := [.int (nI (1)), .int (nI (9))]) (rest := [.int (nI (6 + (ri1 I) (2) (1))), .ref (a 6)]) hE (ct_X10_number l E a (ho2 (ri1 I)) tr (nI (1)) (nI (9)) hR13) cm_X10_number (uw mt_L_X10_102 rfl) (gM_0 E a (ho2 (ri1 I)) tr) rfl rfl hP hD hS hl.1 rfl rfl (Nat.le_of_ble_eq_true rfl) ⟨by decide, by decide⟩ dX10_readItem_106 (fun H locs hP hD hS => ?_)
          refine W.eq (g2 := F0 m 109 ls [.int (nI ((ho2 (ri1 I)) 13 0)), .int (nI (6 + (ri1 I) (2) (1))), .ref (a 6)]) rfl ?_
          have hR14 : RJ (waJ (ho2 (ri1 I)) (nuZ (ho2 (ri1 I)) (nI (1)) (nI (9)))) := RJ_wa hR13
          have hR14d := hR14.2.2.2.2.1
          have hR14f := hR14.2.2.2.2.2
          refine ast_i hE hP hD hS (6) (gM_6 E a (waJ (ho2 (ri1 I)) (nuZ (ho2 (ri1 I)) (nI (1)) (nI (9)))) tr) (by omega) (by decide) (sM_6 E a (waJ (ho2 (ri1 I)) (nuZ (ho2 (ri1 I)) (nI (1)) (nI (9)))) tr (6 + (ri1 I) (2) (1)) ((ho2 (ri1 I)) 13 0)) dX10_readItem_109 (fun H locs hP hD hS => ?_)
          have hwf : (up2 (waJ (ho2 (ri1 I)) (nuZ (ho2 (ri1 I)) (nI (1)) (nI (9)))) (6) (6 + (ri1 I) (2) (1)) ((ho2 (ri1 I)) 13 0)) = (ho3 (ri1 I)) := rfl
          have hP := Eq.mp (congrArg (fun q => va_P E.1 vwCl (WM E a q tr) H) hwf) hP
          have hD := Eq.mp (congrArg (fun q => va_D A (WM E a q tr)) hwf) hD
          have hR15 : RJ (ho3 (ri1 I)) := RJ_h3 (RJ_r1 hR)
          have hR15d := hR15.2.2.2.2.1
          have hR15f := hR15.2.2.2.2.2
          refine lv_aload_n hx hb dX10_readItem_110 rfl (lv_at hl 2 rfl) ?_
          refine gf_X10_29 hE hP (0) (gM_0 E a (ho3 (ri1 I)) tr) (v := .ref (a 7)) rfl dX10_readItem_111 ?_
          refine lv_iload_n hx hb dX10_readItem_114 rfl (lv_at hl 0 rfl) ?_
          refine lv_iconst (v := nI (0)) hx hb dX10_readItem_115 (by decide) ?_
          refine ast_i hE hP hD hS (7) (gM_7 E a (ho3 (ri1 I)) tr) (by omega) (by decide) (sM_7 E a (ho3 (ri1 I)) tr (6 + (ri1 I) (2) (1)) (0)) dX10_readItem_116 (fun H locs hP hD hS => ?_)
          refine lv_aload_n hx hb dX10_readItem_117 rfl (lv_at hl 2 rfl) ?_
          refine gf_X10_13 hE hP (0) (gM_0 E a (up2 (ho3 (ri1 I)) (7) (6 + (ri1 I) (2) (1)) (0)) tr) (v := .ref (a 2)) rfl dX10_readItem_118 ?_
          refine lv_iconst (v := nI (1)) hx hb dX10_readItem_121 (by decide) ?_
          refine lv_dup2_11 hx hb dX10_readItem_122 rfl rfl ?_
          refine ald_i hE hP (2) (gM_2 E a (up2 (ho3 (ri1 I)) (7) (6 + (ri1 I) (2) (1)) (0)) tr) (by omega) (by decide) (r := nI ((ho3 (ri1 I)) (2) (1))) rfl dX10_readItem_123 ?_
          refine lv_iconst (v := nI (1)) hx hb dX10_readItem_124 (by decide) ?_
          refine lv_iadd hx hb dX10_readItem_125 ?_
          refine tp (nI_add _ _) ?_
          refine ast_i hE hP hD hS (2) (gM_2 E a (up2 (ho3 (ri1 I)) (7) (6 + (ri1 I) (2) (1)) (0)) tr) (by omega) (by decide) (sM_2 E a (up2 (ho3 (ri1 I)) (7) (6 + (ri1 I) (2) (1)) (0)) tr (1) ((ho3 (ri1 I)) (2) (1) + 1)) dX10_readItem_126 (fun H locs hP hD hS => ?_)
          have hwf : (up2 (up2 (ho3 (ri1 I)) (7) (6 + (ri1 I) (2) (1)) (0)) (2) (1) ((ho3 (ri1 I)) (2) (1) + 1)) = (riK I) := by unfold riK; rw [if_pos c58]; rfl
          have hP := Eq.mp (congrArg (fun q => va_P E.1 vwCl (WM E a q tr) H) hwf) hP
          have hD := Eq.mp (congrArg (fun q => va_D A (WM E a q tr)) hwf) hD
          have hR16 : RJ (riK I) := RJ_K hR
          have hR16d := hR16.2.2.2.2.1
          have hR16f := hR16.2.2.2.2.2
          refine lv_goto (tgt := 160) hx hb dX10_readItem_127 (by decide) ?_
          have hk12 := (RJ_K hR).2.2.2.1
          refine lv_aload_n hx hb dX10_readItem_160 rfl (lv_at hl 2 rfl) ?_
          refine lv_aload_n hx hb dX10_readItem_161 rfl (lv_at hl 2 rfl) ?_
          refine gf_X10_86 hE hP (0) (gM_0 E a (riK I) tr) (v := .int (nI ((riK I) (12) (0)))) rfl dX10_readItem_162 ?_
          refine lv_iconst (v := nI (5)) hx hb dX10_readItem_165 (by decide) ?_
          refine bN_ne (tgt := 173) hx hb (by omega) (by omega) dX10_readItem_166 (by decide) (fun c166 => ?_) (fun c166 => ?_)
          · refine lv_iconst (v := nI (0)) hx hb dX10_readItem_173 (by decide) ?_
            refine call_V (As := [.int (nI (0))]) (rest := []) hE (ct_X10_want l E a (riK I) tr (0) (by omega) hR16) cm_X10_want (uw mt_L_X10_98 rfl) (gM_0 E a (riK I) tr) rfl rfl hP hD hS hl.1 rfl rfl (Nat.le_of_ble_eq_true rfl) ⟨by decide, by decide⟩ dX10_readItem_174 (fun H locs hP hD hS => ?_)
            refine W.eq (g2 := F0 m 177 ls [.int (nI ((riK I) 13 0))]) rfl ?_
            have hR17 : RJ (waJ (riK I) (0)) := RJ_wa hR16
            refine lv_pop hx hb dX10_readItem_177 rfl ?_
            have hw : (waJ (riK I) (0)) = (riJ I) := by first | (unfold riJ; rw [if_pos c53, if_pos c166]; done) | (unfold riJ; rw [if_pos c53, if_neg c166]; done)
            have hP := Eq.mp (congrArg (fun q => va_P E.1 vwCl (WM E a q tr) H) hw) hP
            have hD := Eq.mp (congrArg (fun q => va_D A (WM E a q tr)) hw) hD
            exact ret_v hE rfl hP hD hS dX10_readItem_178
          · refine lv_iconst (v := nI (1)) hx hb dX10_readItem_169 (by decide) ?_
            refine lv_goto (tgt := 174) hx hb dX10_readItem_170 (by decide) ?_
            refine call_V (As := [.int (nI (1))]) (rest := []) hE (ct_X10_want l E a (riK I) tr (1) (by omega) hR16) cm_X10_want (uw mt_L_X10_98 rfl) (gM_0 E a (riK I) tr) rfl rfl hP hD hS hl.1 rfl rfl (Nat.le_of_ble_eq_true rfl) ⟨by decide, by decide⟩ dX10_readItem_174 (fun H locs hP hD hS => ?_)
            refine W.eq (g2 := F0 m 177 ls [.int (nI ((riK I) 13 0))]) rfl ?_
            have hR18 : RJ (waJ (riK I) (1)) := RJ_wa hR16
            refine lv_pop hx hb dX10_readItem_177 rfl ?_
            have hw : (waJ (riK I) (1)) = (riJ I) := by first | (unfold riJ; rw [if_pos c53, if_pos c166]; done) | (unfold riJ; rw [if_pos c53, if_neg c166]; done)
            have hP := Eq.mp (congrArg (fun q => va_P E.1 vwCl (WM E a q tr) H) hw) hP
            have hD := Eq.mp (congrArg (fun q => va_D A (WM E a q tr)) hw) hD
            exact ret_v hE rfl hP hD hS dX10_readItem_178
      · have hw : (ri1 I) = (riJ I) := by unfold riJ; rw [if_neg (by omega)]
        have hP := Eq.mp (congrArg (fun q => va_P E.1 vwCl (WM E a q tr) H) hw) hP
        have hD := Eq.mp (congrArg (fun q => va_D A (WM E a q tr)) hw) hD
        exact ret_v hE rfl hP hD hS dX10_readItem_56
    · refine lv_iload_n hx hb dX10_readItem_26 rfl (lv_at hl 0 rfl) ?_
      refine lv_iconst (v := nI (2)) hx hb dX10_readItem_27 (by decide) ?_
      refine bN_ne (tgt := 42) hx hb (by omega) (by omega) dX10_readItem_28 (by decide) (fun c28 => ?_) (fun c28 => ?_)
      · refine lv_iconst (v := nI (0)) hx hb dX10_readItem_42 (by decide) ?_
        refine call_V (As := [.int (nI (0))]) (rest := []) hE (ct_X10_want l E a I tr (0) (by omega) hR) cm_X10_want (uw mt_L_X10_98 rfl) (gM_0 E a I tr) rfl rfl hP hD hS hl.1 rfl rfl (Nat.le_of_ble_eq_true rfl) ⟨by decide, by decide⟩ dX10_readItem_43 (fun H locs hP hD hS => ?_)
        refine W.eq (g2 := F0 m 46 ls [.int (nI (I 13 0))]) rfl ?_
        have hR19 : RJ (waJ I (0)) := RJ_wa hR
        have hwf : (waJ I (0)) = (ri1 I) := by first | (unfold ri1 riZ; rw [if_pos (by omega)]; done) | (unfold ri1 riZ; rw [if_neg (by omega)]; done)
        have hP := Eq.mp (congrArg (fun q => va_P E.1 vwCl (WM E a q tr) H) hwf) hP
        have hD := Eq.mp (congrArg (fun q => va_D A (WM E a q tr)) hwf) hD
        have hR20 : RJ (ri1 I) := RJ_r1 hR
        have hR20d := hR20.2.2.2.2.1
        have hR20f := hR20.2.2.2.2.2
        refine lv_pop hx hb dX10_readItem_46 rfl ?_
        refine lv_aload_n hx hb dX10_readItem_47 rfl (lv_at hl 1 rfl) ?_
        refine gf_X10_92 hE hP (0) (gM_0 E a (ri1 I) tr) (v := .int (rN ((ri1 I) (14) (0)))) rfl dX10_readItem_48 ?_
        refine lv_bipush (v := (-9)) hx hb dX10_readItem_51 (by decide) ?_
        refine bQ9_eq (tgt := 57) hx hb (by omega) dX10_readItem_53 (by decide) (fun c53 => ?_) (fun c53 => ?_)
        · have hok := ri_ok c53
          refine lv_iload_n hx hb dX10_readItem_57 rfl (lv_at hl 0 rfl) ?_
          refine bZ_ne (tgt := 130) hx hb (by omega) dX10_readItem_58 (by decide) (fun c58 => ?_) (fun c58 => ?_)
          · refine lv_iload_n hx hb dX10_readItem_130 rfl (lv_at hl 0 rfl) ?_
            refine lv_iconst (v := nI (1)) hx hb dX10_readItem_131 (by decide) ?_
            refine bN_ne (tgt := 142) hx hb (by omega) (by omega) dX10_readItem_132 (by decide) (fun c132 => ?_) (fun c132 => ?_)
            · refine lv_aload_n hx hb dX10_readItem_142 rfl (lv_at hl 1 rfl) ?_
              refine gf_X10_17 hE hP (0) (gM_0 E a (ri1 I) tr) (v := .ref (a 3)) rfl dX10_readItem_143 ?_
              refine lv_iconst (v := nI (1)) hx hb dX10_readItem_146 (by decide) ?_
              refine lv_aload_n hx hb dX10_readItem_147 rfl (lv_at hl 1 rfl) ?_
              refine lv_iconst (v := nI (0)) hx hb dX10_readItem_148 (by decide) ?_
              refine lv_bipush (v := nI (9)) hx hb dX10_readItem_149 (by decide) ?_
              refine call_V (As := [.int (nI (0)), .int (nI (9))]) (rest := [.int (nI (1)), .ref (a 3)]) hE (ct_X10_number l E a (ri1 I) tr (nI (0)) (nI (9)) hR20) cm_X10_number (uw mt_L_X10_102 rfl) (gM_0 E a (ri1 I) tr) rfl rfl hP hD hS hl.1 rfl rfl (Nat.le_of_ble_eq_true rfl) ⟨by decide, by decide⟩ dX10_readItem_151 (fun H locs hP hD hS => ?_)
              refine W.eq (g2 := F0 m 154 ls [.int (nI ((ri1 I) 13 0)), .int (nI (1)), .ref (a 3)]) rfl ?_
              have hR21 : RJ (waJ (ri1 I) (nuZ (ri1 I) (nI (0)) (nI (9)))) := RJ_wa hR20
              have hR21d := hR21.2.2.2.2.1
              have hR21f := hR21.2.2.2.2.2
              refine ast_i hE hP hD hS (3) (gM_3 E a (waJ (ri1 I) (nuZ (ri1 I) (nI (0)) (nI (9)))) tr) (by omega) (by decide) (sM_3 E a (waJ (ri1 I) (nuZ (ri1 I) (nI (0)) (nI (9)))) tr (1) ((ri1 I) 13 0)) dX10_readItem_154 (fun H locs hP hD hS => ?_)
              refine lv_aload_n hx hb dX10_readItem_155 rfl (lv_at hl 1 rfl) ?_
              refine lv_iconst (v := nI (1)) hx hb dX10_readItem_156 (by decide) ?_
              refine pf_X10_106 hE hP hD hS (0) (gM_0 E a (up2 (waJ (ri1 I) (nuZ (ri1 I) (nI (0)) (nI (9)))) (3) (1) ((ri1 I) 13 0)) tr) (by decide) (by decide) (Nat.le_of_ble_eq_true rfl) (sM_0_16 E a (up2 (waJ (ri1 I) (nuZ (ri1 I) (nI (0)) (nI (9)))) (3) (1) ((ri1 I) 13 0)) tr (1)) dX10_readItem_157 (fun H locs hP hD hS => ?_)
              have hwf : (up2 (up2 (waJ (ri1 I) (nuZ (ri1 I) (nI (0)) (nI (9)))) (3) (1) ((ri1 I) 13 0)) (15) (0) (1)) = (riK I) := by unfold riK; rw [if_neg (by omega), if_neg c132]; rfl
              have hP := Eq.mp (congrArg (fun q => va_P E.1 vwCl (WM E a q tr) H) hwf) hP
              have hD := Eq.mp (congrArg (fun q => va_D A (WM E a q tr)) hwf) hD
              have hR22 : RJ (riK I) := RJ_K hR
              have hR22d := hR22.2.2.2.2.1
              have hR22f := hR22.2.2.2.2.2
              have hk12 := (RJ_K hR).2.2.2.1
              refine lv_aload_n hx hb dX10_readItem_160 rfl (lv_at hl 1 rfl) ?_
              refine lv_aload_n hx hb dX10_readItem_161 rfl (lv_at hl 1 rfl) ?_
              refine gf_X10_86 hE hP (0) (gM_0 E a (riK I) tr) (v := .int (nI ((riK I) (12) (0)))) rfl dX10_readItem_162 ?_
              refine lv_iconst (v := nI (5)) hx hb dX10_readItem_165 (by decide) ?_
              refine bN_ne (tgt := 173) hx hb (by omega) (by omega) dX10_readItem_166 (by decide) (fun c166 => ?_) (fun c166 => ?_)
              · refine lv_iconst (v := nI (0)) hx hb dX10_readItem_173 (by decide) ?_
                refine call_V (As := [.int (nI (0))]) (rest := []) hE (ct_X10_want l E a (riK I) tr (0) (by omega) hR22) cm_X10_want (uw mt_L_X10_98 rfl) (gM_0 E a (riK I) tr) rfl rfl hP hD hS hl.1 rfl rfl (Nat.le_of_ble_eq_true rfl) ⟨by decide, by decide⟩ dX10_readItem_174 (fun H locs hP hD hS => ?_)
                refine W.eq (g2 := F0 m 177 ls [.int (nI ((riK I) 13 0))]) rfl ?_
                have hR23 : RJ (waJ (riK I) (0)) := RJ_wa hR22
                refine lv_pop hx hb dX10_readItem_177 rfl ?_
                have hw : (waJ (riK I) (0)) = (riJ I) := by first | (unfold riJ; rw [if_pos c53, if_pos c166]; done) | (unfold riJ; rw [if_pos c53, if_neg c166]; done)
                have hP := Eq.mp (congrArg (fun q => va_P E.1 vwCl (WM E a q tr) H) hw) hP
                have hD := Eq.mp (congrArg (fun q => va_D A (WM E a q tr)) hw) hD
                exact ret_v hE rfl hP hD hS dX10_readItem_178
              · refine lv_iconst (v := nI (1)) hx hb dX10_readItem_169 (by decide) ?_
                refine lv_goto (tgt := 174) hx hb dX10_readItem_170 (by decide) ?_
                refine call_V (As := [.int (nI (1))]) (rest := []) hE (ct_X10_want l E a (riK I) tr (1) (by omega) hR22) cm_X10_want (uw mt_L_X10_98 rfl) (gM_0 E a (riK I) tr) rfl rfl hP hD hS hl.1 rfl rfl (Nat.le_of_ble_eq_true rfl) ⟨by decide, by decide⟩ dX10_readItem_174 (fun H locs hP hD hS => ?_)
                refine W.eq (g2 := F0 m 177 ls [.int (nI ((riK I) 13 0))]) rfl ?_
                have hR24 : RJ (waJ (riK I) (1)) := RJ_wa hR22
                refine lv_pop hx hb dX10_readItem_177 rfl ?_
                have hw : (waJ (riK I) (1)) = (riJ I) := by first | (unfold riJ; rw [if_pos c53, if_pos c166]; done) | (unfold riJ; rw [if_pos c53, if_neg c166]; done)
                have hP := Eq.mp (congrArg (fun q => va_P E.1 vwCl (WM E a q tr) H) hw) hP
                have hD := Eq.mp (congrArg (fun q => va_D A (WM E a q tr)) hw) hD
                exact ret_v hE rfl hP hD hS dX10_readItem_178
            · refine lv_aload_n hx hb dX10_readItem_135 rfl (lv_at hl 1 rfl) ?_
              refine call_V (As := []) (rest := []) hE (ct_X10_readLeap l E a (ri1 I) tr (RJ_r1 hR) (by rw [hr2]; omega) (fun x hx9 => by rw [hr7]; exact hL2 x hx9)) cm_X10_readLeap (uw mt_L_X10_110 rfl) (gM_0 E a (ri1 I) tr) rfl rfl hP hD hS hl.1 rfl rfl (Nat.le_of_ble_eq_true rfl) ⟨by decide, by decide⟩ dX10_readItem_136 (fun H locs hP hD hS => ?_)
              refine W.eq (g2 := F0 m 139 ls []) rfl ?_
              have hwf : (leJ (ri1 I)) = (riK I) := by unfold riK; rw [if_neg (by omega), if_pos c132]
              have hP := Eq.mp (congrArg (fun q => va_P E.1 vwCl (WM E a q tr) H) hwf) hP
              have hD := Eq.mp (congrArg (fun q => va_D A (WM E a q tr)) hwf) hD
              have hR25 : RJ (riK I) := RJ_K hR
              have hR25d := hR25.2.2.2.2.1
              have hR25f := hR25.2.2.2.2.2
              refine lv_goto (tgt := 160) hx hb dX10_readItem_139 (by decide) ?_
              have hk12 := (RJ_K hR).2.2.2.1
              refine lv_aload_n hx hb dX10_readItem_160 rfl (lv_at hl 1 rfl) ?_
              refine lv_aload_n hx hb dX10_readItem_161 rfl (lv_at hl 1 rfl) ?_
              refine gf_X10_86 hE hP (0) (gM_0 E a (riK I) tr) (v := .int (nI ((riK I) (12) (0)))) rfl dX10_readItem_162 ?_
              refine lv_iconst (v := nI (5)) hx hb dX10_readItem_165 (by decide) ?_
              refine bN_ne (tgt := 173) hx hb (by omega) (by omega) dX10_readItem_166 (by decide) (fun c166 => ?_) (fun c166 => ?_)
              · refine lv_iconst (v := nI (0)) hx hb dX10_readItem_173 (by decide) ?_
                refine call_V (As := [.int (nI (0))]) (rest := []) hE (ct_X10_want l E a (riK I) tr (0) (by omega) hR25) cm_X10_want (uw mt_L_X10_98 rfl) (gM_0 E a (riK I) tr) rfl rfl hP hD hS hl.1 rfl rfl (Nat.le_of_ble_eq_true rfl) ⟨by decide, by decide⟩ dX10_readItem_174 (fun H locs hP hD hS => ?_)
                refine W.eq (g2 := F0 m 177 ls [.int (nI ((riK I) 13 0))]) rfl ?_
                have hR26 : RJ (waJ (riK I) (0)) := RJ_wa hR25
                refine lv_pop hx hb dX10_readItem_177 rfl ?_
                have hw : (waJ (riK I) (0)) = (riJ I) := by first | (unfold riJ; rw [if_pos c53, if_pos c166]; done) | (unfold riJ; rw [if_pos c53, if_neg c166]; done)
                have hP := Eq.mp (congrArg (fun q => va_P E.1 vwCl (WM E a q tr) H) hw) hP
                have hD := Eq.mp (congrArg (fun q => va_D A (WM E a q tr)) hw) hD
                exact ret_v hE rfl hP hD hS dX10_readItem_178
              · refine lv_iconst (v := nI (1)) hx hb dX10_readItem_169 (by decide) ?_
                refine lv_goto (tgt := 174) hx hb dX10_readItem_170 (by decide) ?_
                refine call_V (As := [.int (nI (1))]) (rest := []) hE (ct_X10_want l E a (riK I) tr (1) (by omega) hR25) cm_X10_want (uw mt_L_X10_98 rfl) (gM_0 E a (riK I) tr) rfl rfl hP hD hS hl.1 rfl rfl (Nat.le_of_ble_eq_true rfl) ⟨by decide, by decide⟩ dX10_readItem_174 (fun H locs hP hD hS => ?_)
                refine W.eq (g2 := F0 m 177 ls [.int (nI ((riK I) 13 0))]) rfl ?_
                have hR27 : RJ (waJ (riK I) (1)) := RJ_wa hR25
                refine lv_pop hx hb dX10_readItem_177 rfl ?_
                have hw : (waJ (riK I) (1)) = (riJ I) := by first | (unfold riJ; rw [if_pos c53, if_pos c166]; done) | (unfold riJ; rw [if_pos c53, if_neg c166]; done)
                have hP := Eq.mp (congrArg (fun q => va_P E.1 vwCl (WM E a q tr) H) hw) hP
                have hD := Eq.mp (congrArg (fun q => va_D A (WM E a q tr)) hw) hD
                exact ret_v hE rfl hP hD hS dX10_readItem_178
          · refine lv_bipush (v := nI (6)) hx hb dX10_readItem_61 (by decide) ?_
            refine lv_aload_n hx hb dX10_readItem_63 rfl (lv_at hl 1 rfl) ?_
            refine gf_X10_13 hE hP (0) (gM_0 E a (ri1 I) tr) (v := .ref (a 2)) rfl dX10_readItem_64 ?_
            refine lv_iconst (v := nI (1)) hx hb dX10_readItem_67 (by decide) ?_
            refine ald_i hE hP (2) (gM_2 E a (ri1 I) tr) (by omega) (by decide) (r := nI ((ri1 I) (2) (1))) rfl dX10_readItem_68 ?_
            refine lv_iadd hx hb dX10_readItem_69 ?_
            refine tp (nI_add _ _) ?_
            refine lv_istore_n (lv' := [(2, .int (nI (6 + (ri1 I) (2) (1)))), (1, .int (nI (I (12) (0)))), (0, .ref (a 0))]) hx hb dX10_readItem_70 rfl hl (by decide) rfl (fun ls hl => ?_)
            refine lv_aload_n hx hb dX10_readItem_71 rfl (lv_at hl 2 rfl) ?_
            refine gf_X10_20 hE hP (0) (gM_0 E a (ri1 I) tr) (v := .ref (a 4)) rfl dX10_readItem_72 ?_
            refine lv_iload_n hx hb dX10_readItem_75 rfl (lv_at hl 0 rfl) ?_
            refine lv_aload_n hx hb dX10_readItem_76 rfl (lv_at hl 2 rfl) ?_
            refine lv_iconst (v := nI (0)) hx hb dX10_readItem_77 (by decide) ?_
            refine lv_bipush (v := nI (47)) hx hb dX10_readItem_78 (by decide) ?_
            refine call_V (As := [.int (nI (0)), .int (nI (47))]) (rest := [.int (nI (6 + (ri1 I) (2) (1))), .ref (a 4)]) hE (ct_X10_number l E a (ri1 I) tr (nI (0)) (nI (47)) hR20) cm_X10_number (uw mt_L_X10_102 rfl) (gM_0 E a (ri1 I) tr) rfl rfl hP hD hS hl.1 rfl rfl (Nat.le_of_ble_eq_true rfl) ⟨by decide, by decide⟩ dX10_readItem_80 (fun H locs hP hD hS => ?_)
            refine W.eq (g2 := F0 m 83 ls [.int (nI ((ri1 I) 13 0)), .int (nI (6 + (ri1 I) (2) (1))), .ref (a 4)]) rfl ?_
            have hR28 : RJ (waJ (ri1 I) (nuZ (ri1 I) (nI (0)) (nI (47)))) := RJ_wa hR20
            have hR28d := hR28.2.2.2.2.1
            have hR28f := hR28.2.2.2.2.2
            refine ast_i hE hP hD hS (4) (gM_4 E a (waJ (ri1 I) (nuZ (ri1 I) (nI (0)) (nI (47)))) tr) (by omega) (by decide) (sM_4 E a (waJ (ri1 I) (nuZ (ri1 I) (nI (0)) (nI (47)))) tr (6 + (ri1 I) (2) (1)) ((ri1 I) 13 0)) dX10_readItem_83 (fun H locs hP hD hS => ?_)
            have hwf : (up2 (waJ (ri1 I) (nuZ (ri1 I) (nI (0)) (nI (47)))) (4) (6 + (ri1 I) (2) (1)) ((ri1 I) 13 0)) = (ho1 (ri1 I)) := rfl
            have hP := Eq.mp (congrArg (fun q => va_P E.1 vwCl (WM E a q tr) H) hwf) hP
            have hD := Eq.mp (congrArg (fun q => va_D A (WM E a q tr)) hwf) hD
            have hR29 : RJ (ho1 (ri1 I)) := RJ_h1 (RJ_r1 hR)
            have hR29d := hR29.2.2.2.2.1
            have hR29f := hR29.2.2.2.2.2
            refine lv_aload_n hx hb dX10_readItem_84 rfl (lv_at hl 2 rfl) ?_
            refine gf_X10_23 hE hP (0) (gM_0 E a (ho1 (ri1 I)) tr) (v := .ref (a 5)) rfl dX10_readItem_85 ?_
            refine lv_iload_n hx hb dX10_readItem_88 rfl (lv_at hl 0 rfl) ?_
            refine lv_aload_n hx hb dX10_readItem_89 rfl (lv_at hl 2 rfl) ?_
            refine lv_iconst (v := nI (1)) hx hb dX10_readItem_90 (by decide) ?_
            refine lv_bipush (v := nI (9)) hx hb dX10_readItem_91 (by decide) ?_
            refine call_V (As := [.int (nI (1)), .int (nI (9))]) (rest := [.int (nI (6 + (ri1 I) (2) (1))), .ref (a 5)]) hE (ct_X10_number l E a (ho1 (ri1 I)) tr (nI (1)) (nI (9)) hR29) cm_X10_number (uw mt_L_X10_102 rfl) (gM_0 E a (ho1 (ri1 I)) tr) rfl rfl hP hD hS hl.1 rfl rfl (Nat.le_of_ble_eq_true rfl) ⟨by decide, by decide⟩ dX10_readItem_93 (fun H locs hP hD hS => ?_)
            refine W.eq (g2 := F0 m 96 ls [.int (nI ((ho1 (ri1 I)) 13 0)), .int (nI (6 + (ri1 I) (2) (1))), .ref (a 5)]) rfl ?_
            have hR30 : RJ (waJ (ho1 (ri1 I)) (nuZ (ho1 (ri1 I)) (nI (1)) (nI (9)))) := RJ_wa hR29
            have hR30d := hR30.2.2.2.2.1
            have hR30f := hR30.2.2.2.2.2
            refine ast_i hE hP hD hS (5) (gM_5 E a (waJ (ho1 (ri1 I)) (nuZ (ho1 (ri1 I)) (nI (1)) (nI (9)))) tr) (by omega) (by decide) (sM_5 E a (waJ (ho1 (ri1 I)) (nuZ (ho1 (ri1 I)) (nI (1)) (nI (9)))) tr (6 + (ri1 I) (2) (1)) ((ho1 (ri1 I)) 13 0)) dX10_readItem_96 (fun H locs hP hD hS => ?_)
            have hwf : (up2 (waJ (ho1 (ri1 I)) (nuZ (ho1 (ri1 I)) (nI (1)) (nI (9)))) (5) (6 + (ri1 I) (2) (1)) ((ho1 (ri1 I)) 13 0)) = (ho2 (ri1 I)) := rfl
            have hP := Eq.mp (congrArg (fun q => va_P E.1 vwCl (WM E a q tr) H) hwf) hP
            have hD := Eq.mp (congrArg (fun q => va_D A (WM E a q tr)) hwf) hD
            have hR31 : RJ (ho2 (ri1 I)) := RJ_h2 (RJ_r1 hR)
            have hR31d := hR31.2.2.2.2.1
            have hR31f := hR31.2.2.2.2.2
            refine lv_aload_n hx hb dX10_readItem_97 rfl (lv_at hl 2 rfl) ?_
            refine gf_X10_26 hE hP (0) (gM_0 E a (ho2 (ri1 I)) tr) (v := .ref (a 6)) rfl dX10_readItem_98 ?_
            refine lv_iload_n hx hb dX10_readItem_101 rfl (lv_at hl 0 rfl) ?_
            refine lv_aload_n hx hb dX10_readItem_102 rfl (lv_at hl 2 rfl) ?_
            refine lv_iconst (v := nI (1)) hx hb dX10_readItem_103 (by decide) ?_
            refine lv_bipush (v := nI (9)) hx hb dX10_readItem_104 (by decide) ?_
            refine call_V (As := [.int (nI (1)), .int (nI (9))]) (rest := [.int (nI (6 + (ri1 I) (2) (1))), .ref (a 6)]) hE (ct_X10_number l E a (ho2 (ri1 I)) tr (nI (1)) (nI (9)) hR31) cm_X10_number (uw mt_L_X10_102 rfl) (gM_0 E a (ho2 (ri1 I)) tr) rfl rfl hP hD hS hl.1 rfl rfl (Nat.le_of_ble_eq_true rfl) ⟨by decide, by decide⟩ dX10_readItem_106 (fun H locs hP hD hS => ?_)
            refine W.eq (g2 := F0 m 109 ls [.int (nI ((ho2 (ri1 I)) 13 0)), .int (nI (6 + (ri1 I) (2) (1))), .ref (a 6)]) rfl ?_
            have hR32 : RJ (waJ (ho2 (ri1 I)) (nuZ (ho2 (ri1 I)) (nI (1)) (nI (9)))) := RJ_wa hR31
            have hR32d := hR32.2.2.2.2.1
            have hR32f := hR32.2.2.2.2.2
            refine ast_i hE hP hD hS (6) (gM_6 E a (waJ (ho2 (ri1 I)) (nuZ (ho2 (ri1 I)) (nI (1)) (nI (9)))) tr) (by omega) (by decide) (sM_6 E a (waJ (ho2 (ri1 I)) (nuZ (ho2 (ri1 I)) (nI (1)) (nI (9)))) tr (6 + (ri1 I) (2) (1)) ((ho2 (ri1 I)) 13 0)) dX10_readItem_109 (fun H locs hP hD hS => ?_)
            have hwf : (up2 (waJ (ho2 (ri1 I)) (nuZ (ho2 (ri1 I)) (nI (1)) (nI (9)))) (6) (6 + (ri1 I) (2) (1)) ((ho2 (ri1 I)) 13 0)) = (ho3 (ri1 I)) := rfl
            have hP := Eq.mp (congrArg (fun q => va_P E.1 vwCl (WM E a q tr) H) hwf) hP
            have hD := Eq.mp (congrArg (fun q => va_D A (WM E a q tr)) hwf) hD
            have hR33 : RJ (ho3 (ri1 I)) := RJ_h3 (RJ_r1 hR)
            have hR33d := hR33.2.2.2.2.1
            have hR33f := hR33.2.2.2.2.2
            refine lv_aload_n hx hb dX10_readItem_110 rfl (lv_at hl 2 rfl) ?_
            refine gf_X10_29 hE hP (0) (gM_0 E a (ho3 (ri1 I)) tr) (v := .ref (a 7)) rfl dX10_readItem_111 ?_
            refine lv_iload_n hx hb dX10_readItem_114 rfl (lv_at hl 0 rfl) ?_
            refine lv_iconst (v := nI (0)) hx hb dX10_readItem_115 (by decide) ?_
            refine ast_i hE hP hD hS (7) (gM_7 E a (ho3 (ri1 I)) tr) (by omega) (by decide) (sM_7 E a (ho3 (ri1 I)) tr (6 + (ri1 I) (2) (1)) (0)) dX10_readItem_116 (fun H locs hP hD hS => ?_)
            refine lv_aload_n hx hb dX10_readItem_117 rfl (lv_at hl 2 rfl) ?_
            refine gf_X10_13 hE hP (0) (gM_0 E a (up2 (ho3 (ri1 I)) (7) (6 + (ri1 I) (2) (1)) (0)) tr) (v := .ref (a 2)) rfl dX10_readItem_118 ?_
            refine lv_iconst (v := nI (1)) hx hb dX10_readItem_121 (by decide) ?_
            refine lv_dup2_11 hx hb dX10_readItem_122 rfl rfl ?_
            refine ald_i hE hP (2) (gM_2 E a (up2 (ho3 (ri1 I)) (7) (6 + (ri1 I) (2) (1)) (0)) tr) (by omega) (by decide) (r := nI ((ho3 (ri1 I)) (2) (1))) rfl dX10_readItem_123 ?_
            refine lv_iconst (v := nI (1)) hx hb dX10_readItem_124 (by decide) ?_
            refine lv_iadd hx hb dX10_readItem_125 ?_
            refine tp (nI_add _ _) ?_
            refine ast_i hE hP hD hS (2) (gM_2 E a (up2 (ho3 (ri1 I)) (7) (6 + (ri1 I) (2) (1)) (0)) tr) (by omega) (by decide) (sM_2 E a (up2 (ho3 (ri1 I)) (7) (6 + (ri1 I) (2) (1)) (0)) tr (1) ((ho3 (ri1 I)) (2) (1) + 1)) dX10_readItem_126 (fun H locs hP hD hS => ?_)
            have hwf : (up2 (up2 (ho3 (ri1 I)) (7) (6 + (ri1 I) (2) (1)) (0)) (2) (1) ((ho3 (ri1 I)) (2) (1) + 1)) = (riK I) := by unfold riK; rw [if_pos c58]; rfl
            have hP := Eq.mp (congrArg (fun q => va_P E.1 vwCl (WM E a q tr) H) hwf) hP
            have hD := Eq.mp (congrArg (fun q => va_D A (WM E a q tr)) hwf) hD
            have hR34 : RJ (riK I) := RJ_K hR
            have hR34d := hR34.2.2.2.2.1
            have hR34f := hR34.2.2.2.2.2
            refine lv_goto (tgt := 160) hx hb dX10_readItem_127 (by decide) ?_
            have hk12 := (RJ_K hR).2.2.2.1
            refine lv_aload_n hx hb dX10_readItem_160 rfl (lv_at hl 2 rfl) ?_
            refine lv_aload_n hx hb dX10_readItem_161 rfl (lv_at hl 2 rfl) ?_
            refine gf_X10_86 hE hP (0) (gM_0 E a (riK I) tr) (v := .int (nI ((riK I) (12) (0)))) rfl dX10_readItem_162 ?_
            refine lv_iconst (v := nI (5)) hx hb dX10_readItem_165 (by decide) ?_
            refine bN_ne (tgt := 173) hx hb (by omega) (by omega) dX10_readItem_166 (by decide) (fun c166 => ?_) (fun c166 => ?_)
            · refine lv_iconst (v := nI (0)) hx hb dX10_readItem_173 (by decide) ?_
              refine call_V (As := [.int (nI (0))]) (rest := []) hE (ct_X10_want l E a (riK I) tr (0) (by omega) hR34) cm_X10_want (uw mt_L_X10_98 rfl) (gM_0 E a (riK I) tr) rfl rfl hP hD hS hl.1 rfl rfl (Nat.le_of_ble_eq_true rfl) ⟨by decide, by decide⟩ dX10_readItem_174 (fun H locs hP hD hS => ?_)
              refine W.eq (g2 := F0 m 177 ls [.int (nI ((riK I) 13 0))]) rfl ?_
              have hR35 : RJ (waJ (riK I) (0)) := RJ_wa hR34
              refine lv_pop hx hb dX10_readItem_177 rfl ?_
              have hw : (waJ (riK I) (0)) = (riJ I) := by first | (unfold riJ; rw [if_pos c53, if_pos c166]; done) | (unfold riJ; rw [if_pos c53, if_neg c166]; done)
              have hP := Eq.mp (congrArg (fun q => va_P E.1 vwCl (WM E a q tr) H) hw) hP
              have hD := Eq.mp (congrArg (fun q => va_D A (WM E a q tr)) hw) hD
              exact ret_v hE rfl hP hD hS dX10_readItem_178
            · refine lv_iconst (v := nI (1)) hx hb dX10_readItem_169 (by decide) ?_
              refine lv_goto (tgt := 174) hx hb dX10_readItem_170 (by decide) ?_
              refine call_V (As := [.int (nI (1))]) (rest := []) hE (ct_X10_want l E a (riK I) tr (1) (by omega) hR34) cm_X10_want (uw mt_L_X10_98 rfl) (gM_0 E a (riK I) tr) rfl rfl hP hD hS hl.1 rfl rfl (Nat.le_of_ble_eq_true rfl) ⟨by decide, by decide⟩ dX10_readItem_174 (fun H locs hP hD hS => ?_)
              refine W.eq (g2 := F0 m 177 ls [.int (nI ((riK I) 13 0))]) rfl ?_
              have hR36 : RJ (waJ (riK I) (1)) := RJ_wa hR34
              refine lv_pop hx hb dX10_readItem_177 rfl ?_
              have hw : (waJ (riK I) (1)) = (riJ I) := by first | (unfold riJ; rw [if_pos c53, if_pos c166]; done) | (unfold riJ; rw [if_pos c53, if_neg c166]; done)
              have hP := Eq.mp (congrArg (fun q => va_P E.1 vwCl (WM E a q tr) H) hw) hP
              have hD := Eq.mp (congrArg (fun q => va_D A (WM E a q tr)) hw) hD
              exact ret_v hE rfl hP hD hS dX10_readItem_178
        · have hw : (ri1 I) = (riJ I) := by unfold riJ; rw [if_neg (by omega)]
          have hP := Eq.mp (congrArg (fun q => va_P E.1 vwCl (WM E a q tr) H) hw) hP
          have hD := Eq.mp (congrArg (fun q => va_D A (WM E a q tr)) hw) hD
          exact ret_v hE rfl hP hD hS dX10_readItem_56
      · refine lv_aload_n hx hb dX10_readItem_31 rfl (lv_at hl 1 rfl) ?_
        refine gf_X10_106 hE hP (0) (gM_0 E a I tr) (v := .int (nI (I (15) (0)))) rfl dX10_readItem_32 ?_
        refine bZ_ne (tgt := 42) hx hb (by omega) dX10_readItem_35 (by decide) (fun c35 => ?_) (fun c35 => ?_)
        · refine lv_iconst (v := nI (0)) hx hb dX10_readItem_42 (by decide) ?_
          refine call_V (As := [.int (nI (0))]) (rest := []) hE (ct_X10_want l E a I tr (0) (by omega) hR) cm_X10_want (uw mt_L_X10_98 rfl) (gM_0 E a I tr) rfl rfl hP hD hS hl.1 rfl rfl (Nat.le_of_ble_eq_true rfl) ⟨by decide, by decide⟩ dX10_readItem_43 (fun H locs hP hD hS => ?_)
          refine W.eq (g2 := F0 m 46 ls [.int (nI (I 13 0))]) rfl ?_
          have hR37 : RJ (waJ I (0)) := RJ_wa hR
          have hwf : (waJ I (0)) = (ri1 I) := by first | (unfold ri1 riZ; rw [if_pos (by omega)]; done) | (unfold ri1 riZ; rw [if_neg (by omega)]; done)
          have hP := Eq.mp (congrArg (fun q => va_P E.1 vwCl (WM E a q tr) H) hwf) hP
          have hD := Eq.mp (congrArg (fun q => va_D A (WM E a q tr)) hwf) hD
          have hR38 : RJ (ri1 I) := RJ_r1 hR
          have hR38d := hR38.2.2.2.2.1
          have hR38f := hR38.2.2.2.2.2
          refine lv_pop hx hb dX10_readItem_46 rfl ?_
          refine lv_aload_n hx hb dX10_readItem_47 rfl (lv_at hl 1 rfl) ?_
          refine gf_X10_92 hE hP (0) (gM_0 E a (ri1 I) tr) (v := .int (rN ((ri1 I) (14) (0)))) rfl dX10_readItem_48 ?_
          refine lv_bipush (v := (-9)) hx hb dX10_readItem_51 (by decide) ?_
          refine bQ9_eq (tgt := 57) hx hb (by omega) dX10_readItem_53 (by decide) (fun c53 => ?_) (fun c53 => ?_)
          · have hok := ri_ok c53
            refine lv_iload_n hx hb dX10_readItem_57 rfl (lv_at hl 0 rfl) ?_
            refine bZ_ne (tgt := 130) hx hb (by omega) dX10_readItem_58 (by decide) (fun c58 => ?_) (fun c58 => ?_)
            · refine lv_iload_n hx hb dX10_readItem_130 rfl (lv_at hl 0 rfl) ?_
              refine lv_iconst (v := nI (1)) hx hb dX10_readItem_131 (by decide) ?_
              refine bN_ne (tgt := 142) hx hb (by omega) (by omega) dX10_readItem_132 (by decide) (fun c132 => ?_) (fun c132 => ?_)
              · refine lv_aload_n hx hb dX10_readItem_142 rfl (lv_at hl 1 rfl) ?_
                refine gf_X10_17 hE hP (0) (gM_0 E a (ri1 I) tr) (v := .ref (a 3)) rfl dX10_readItem_143 ?_
                refine lv_iconst (v := nI (1)) hx hb dX10_readItem_146 (by decide) ?_
                refine lv_aload_n hx hb dX10_readItem_147 rfl (lv_at hl 1 rfl) ?_
                refine lv_iconst (v := nI (0)) hx hb dX10_readItem_148 (by decide) ?_
                refine lv_bipush (v := nI (9)) hx hb dX10_readItem_149 (by decide) ?_
                refine call_V (As := [.int (nI (0)), .int (nI (9))]) (rest := [.int (nI (1)), .ref (a 3)]) hE (ct_X10_number l E a (ri1 I) tr (nI (0)) (nI (9)) hR38) cm_X10_number (uw mt_L_X10_102 rfl) (gM_0 E a (ri1 I) tr) rfl rfl hP hD hS hl.1 rfl rfl (Nat.le_of_ble_eq_true rfl) ⟨by decide, by decide⟩ dX10_readItem_151 (fun H locs hP hD hS => ?_)
                refine W.eq (g2 := F0 m 154 ls [.int (nI ((ri1 I) 13 0)), .int (nI (1)), .ref (a 3)]) rfl ?_
                have hR39 : RJ (waJ (ri1 I) (nuZ (ri1 I) (nI (0)) (nI (9)))) := RJ_wa hR38
                have hR39d := hR39.2.2.2.2.1
                have hR39f := hR39.2.2.2.2.2
                refine ast_i hE hP hD hS (3) (gM_3 E a (waJ (ri1 I) (nuZ (ri1 I) (nI (0)) (nI (9)))) tr) (by omega) (by decide) (sM_3 E a (waJ (ri1 I) (nuZ (ri1 I) (nI (0)) (nI (9)))) tr (1) ((ri1 I) 13 0)) dX10_readItem_154 (fun H locs hP hD hS => ?_)
                refine lv_aload_n hx hb dX10_readItem_155 rfl (lv_at hl 1 rfl) ?_
                refine lv_iconst (v := nI (1)) hx hb dX10_readItem_156 (by decide) ?_
                refine pf_X10_106 hE hP hD hS (0) (gM_0 E a (up2 (waJ (ri1 I) (nuZ (ri1 I) (nI (0)) (nI (9)))) (3) (1) ((ri1 I) 13 0)) tr) (by decide) (by decide) (Nat.le_of_ble_eq_true rfl) (sM_0_16 E a (up2 (waJ (ri1 I) (nuZ (ri1 I) (nI (0)) (nI (9)))) (3) (1) ((ri1 I) 13 0)) tr (1)) dX10_readItem_157 (fun H locs hP hD hS => ?_)
                have hwf : (up2 (up2 (waJ (ri1 I) (nuZ (ri1 I) (nI (0)) (nI (9)))) (3) (1) ((ri1 I) 13 0)) (15) (0) (1)) = (riK I) := by unfold riK; rw [if_neg (by omega), if_neg c132]; rfl
                have hP := Eq.mp (congrArg (fun q => va_P E.1 vwCl (WM E a q tr) H) hwf) hP
                have hD := Eq.mp (congrArg (fun q => va_D A (WM E a q tr)) hwf) hD
                have hR40 : RJ (riK I) := RJ_K hR
                have hR40d := hR40.2.2.2.2.1
                have hR40f := hR40.2.2.2.2.2
                have hk12 := (RJ_K hR).2.2.2.1
                refine lv_aload_n hx hb dX10_readItem_160 rfl (lv_at hl 1 rfl) ?_
                refine lv_aload_n hx hb dX10_readItem_161 rfl (lv_at hl 1 rfl) ?_
                refine gf_X10_86 hE hP (0) (gM_0 E a (riK I) tr) (v := .int (nI ((riK I) (12) (0)))) rfl dX10_readItem_162 ?_
                refine lv_iconst (v := nI (5)) hx hb dX10_readItem_165 (by decide) ?_
                refine bN_ne (tgt := 173) hx hb (by omega) (by omega) dX10_readItem_166 (by decide) (fun c166 => ?_) (fun c166 => ?_)
                · refine lv_iconst (v := nI (0)) hx hb dX10_readItem_173 (by decide) ?_
                  refine call_V (As := [.int (nI (0))]) (rest := []) hE (ct_X10_want l E a (riK I) tr (0) (by omega) hR40) cm_X10_want (uw mt_L_X10_98 rfl) (gM_0 E a (riK I) tr) rfl rfl hP hD hS hl.1 rfl rfl (Nat.le_of_ble_eq_true rfl) ⟨by decide, by decide⟩ dX10_readItem_174 (fun H locs hP hD hS => ?_)
                  refine W.eq (g2 := F0 m 177 ls [.int (nI ((riK I) 13 0))]) rfl ?_
                  have hR41 : RJ (waJ (riK I) (0)) := RJ_wa hR40
                  refine lv_pop hx hb dX10_readItem_177 rfl ?_
                  have hw : (waJ (riK I) (0)) = (riJ I) := by first | (unfold riJ; rw [if_pos c53, if_pos c166]; done) | (unfold riJ; rw [if_pos c53, if_neg c166]; done)
                  have hP := Eq.mp (congrArg (fun q => va_P E.1 vwCl (WM E a q tr) H) hw) hP
                  have hD := Eq.mp (congrArg (fun q => va_D A (WM E a q tr)) hw) hD
                  exact ret_v hE rfl hP hD hS dX10_readItem_178
                · refine lv_iconst (v := nI (1)) hx hb dX10_readItem_169 (by decide) ?_
                  refine lv_goto (tgt := 174) hx hb dX10_readItem_170 (by decide) ?_
                  refine call_V (As := [.int (nI (1))]) (rest := []) hE (ct_X10_want l E a (riK I) tr (1) (by omega) hR40) cm_X10_want (uw mt_L_X10_98 rfl) (gM_0 E a (riK I) tr) rfl rfl hP hD hS hl.1 rfl rfl (Nat.le_of_ble_eq_true rfl) ⟨by decide, by decide⟩ dX10_readItem_174 (fun H locs hP hD hS => ?_)
                  refine W.eq (g2 := F0 m 177 ls [.int (nI ((riK I) 13 0))]) rfl ?_
                  have hR42 : RJ (waJ (riK I) (1)) := RJ_wa hR40
                  refine lv_pop hx hb dX10_readItem_177 rfl ?_
                  have hw : (waJ (riK I) (1)) = (riJ I) := by first | (unfold riJ; rw [if_pos c53, if_pos c166]; done) | (unfold riJ; rw [if_pos c53, if_neg c166]; done)
                  have hP := Eq.mp (congrArg (fun q => va_P E.1 vwCl (WM E a q tr) H) hw) hP
                  have hD := Eq.mp (congrArg (fun q => va_D A (WM E a q tr)) hw) hD
                  exact ret_v hE rfl hP hD hS dX10_readItem_178
              · refine lv_aload_n hx hb dX10_readItem_135 rfl (lv_at hl 1 rfl) ?_
                refine call_V (As := []) (rest := []) hE (ct_X10_readLeap l E a (ri1 I) tr (RJ_r1 hR) (by rw [hr2]; omega) (fun x hx9 => by rw [hr7]; exact hL2 x hx9)) cm_X10_readLeap (uw mt_L_X10_110 rfl) (gM_0 E a (ri1 I) tr) rfl rfl hP hD hS hl.1 rfl rfl (Nat.le_of_ble_eq_true rfl) ⟨by decide, by decide⟩ dX10_readItem_136 (fun H locs hP hD hS => ?_)
                refine W.eq (g2 := F0 m 139 ls []) rfl ?_
                have hwf : (leJ (ri1 I)) = (riK I) := by unfold riK; rw [if_neg (by omega), if_pos c132]
                have hP := Eq.mp (congrArg (fun q => va_P E.1 vwCl (WM E a q tr) H) hwf) hP
                have hD := Eq.mp (congrArg (fun q => va_D A (WM E a q tr)) hwf) hD
                have hR43 : RJ (riK I) := RJ_K hR
                have hR43d := hR43.2.2.2.2.1
                have hR43f := hR43.2.2.2.2.2
                refine lv_goto (tgt := 160) hx hb dX10_readItem_139 (by decide) ?_
                have hk12 := (RJ_K hR).2.2.2.1
                refine lv_aload_n hx hb dX10_readItem_160 rfl (lv_at hl 1 rfl) ?_
                refine lv_aload_n hx hb dX10_readItem_161 rfl (lv_at hl 1 rfl) ?_
                refine gf_X10_86 hE hP (0) (gM_0 E a (riK I) tr) (v := .int (nI ((riK I) (12) (0)))) rfl dX10_readItem_162 ?_
                refine lv_iconst (v := nI (5)) hx hb dX10_readItem_165 (by decide) ?_
                refine bN_ne (tgt := 173) hx hb (by omega) (by omega) dX10_readItem_166 (by decide) (fun c166 => ?_) (fun c166 => ?_)
                · refine lv_iconst (v := nI (0)) hx hb dX10_readItem_173 (by decide) ?_
                  refine call_V (As := [.int (nI (0))]) (rest := []) hE (ct_X10_want l E a (riK I) tr (0) (by omega) hR43) cm_X10_want (uw mt_L_X10_98 rfl) (gM_0 E a (riK I) tr) rfl rfl hP hD hS hl.1 rfl rfl (Nat.le_of_ble_eq_true rfl) ⟨by decide, by decide⟩ dX10_readItem_174 (fun H locs hP hD hS => ?_)
                  refine W.eq (g2 := F0 m 177 ls [.int (nI ((riK I) 13 0))]) rfl ?_
                  have hR44 : RJ (waJ (riK I) (0)) := RJ_wa hR43
                  refine lv_pop hx hb dX10_readItem_177 rfl ?_
                  have hw : (waJ (riK I) (0)) = (riJ I) := by first | (unfold riJ; rw [if_pos c53, if_pos c166]; done) | (unfold riJ; rw [if_pos c53, if_neg c166]; done)
                  have hP := Eq.mp (congrArg (fun q => va_P E.1 vwCl (WM E a q tr) H) hw) hP
                  have hD := Eq.mp (congrArg (fun q => va_D A (WM E a q tr)) hw) hD
                  exact ret_v hE rfl hP hD hS dX10_readItem_178
                · refine lv_iconst (v := nI (1)) hx hb dX10_readItem_169 (by decide) ?_
                  refine lv_goto (tgt := 174) hx hb dX10_readItem_170 (by decide) ?_
                  refine call_V (As := [.int (nI (1))]) (rest := []) hE (ct_X10_want l E a (riK I) tr (1) (by omega) hR43) cm_X10_want (uw mt_L_X10_98 rfl) (gM_0 E a (riK I) tr) rfl rfl hP hD hS hl.1 rfl rfl (Nat.le_of_ble_eq_true rfl) ⟨by decide, by decide⟩ dX10_readItem_174 (fun H locs hP hD hS => ?_)
                  refine W.eq (g2 := F0 m 177 ls [.int (nI ((riK I) 13 0))]) rfl ?_
                  have hR45 : RJ (waJ (riK I) (1)) := RJ_wa hR43
                  refine lv_pop hx hb dX10_readItem_177 rfl ?_
                  have hw : (waJ (riK I) (1)) = (riJ I) := by first | (unfold riJ; rw [if_pos c53, if_pos c166]; done) | (unfold riJ; rw [if_pos c53, if_neg c166]; done)
                  have hP := Eq.mp (congrArg (fun q => va_P E.1 vwCl (WM E a q tr) H) hw) hP
                  have hD := Eq.mp (congrArg (fun q => va_D A (WM E a q tr)) hw) hD
                  exact ret_v hE rfl hP hD hS dX10_readItem_178
            · refine lv_bipush (v := nI (6)) hx hb dX10_readItem_61 (by decide) ?_
              refine lv_aload_n hx hb dX10_readItem_63 rfl (lv_at hl 1 rfl) ?_
              refine gf_X10_13 hE hP (0) (gM_0 E a (ri1 I) tr) (v := .ref (a 2)) rfl dX10_readItem_64 ?_
              refine lv_iconst (v := nI (1)) hx hb dX10_readItem_67 (by decide) ?_
              refine ald_i hE hP (2) (gM_2 E a (ri1 I) tr) (by omega) (by decide) (r := nI ((ri1 I) (2) (1))) rfl dX10_readItem_68 ?_
              refine lv_iadd hx hb dX10_readItem_69 ?_
              refine tp (nI_add _ _) ?_
              refine lv_istore_n (lv' := [(2, .int (nI (6 + (ri1 I) (2) (1)))), (1, .int (nI (I (12) (0)))), (0, .ref (a 0))]) hx hb dX10_readItem_70 rfl hl (by decide) rfl (fun ls hl => ?_)
              refine lv_aload_n hx hb dX10_readItem_71 rfl (lv_at hl 2 rfl) ?_
              refine gf_X10_20 hE hP (0) (gM_0 E a (ri1 I) tr) (v := .ref (a 4)) rfl dX10_readItem_72 ?_
              refine lv_iload_n hx hb dX10_readItem_75 rfl (lv_at hl 0 rfl) ?_
              refine lv_aload_n hx hb dX10_readItem_76 rfl (lv_at hl 2 rfl) ?_
              refine lv_iconst (v := nI (0)) hx hb dX10_readItem_77 (by decide) ?_
              refine lv_bipush (v := nI (47)) hx hb dX10_readItem_78 (by decide) ?_
              refine call_V (As := [.int (nI (0)), .int (nI (47))]) (rest := [.int (nI (6 + (ri1 I) (2) (1))), .ref (a 4)]) hE (ct_X10_number l E a (ri1 I) tr (nI (0)) (nI (47)) hR38) cm_X10_number (uw mt_L_X10_102 rfl) (gM_0 E a (ri1 I) tr) rfl rfl hP hD hS hl.1 rfl rfl (Nat.le_of_ble_eq_true rfl) ⟨by decide, by decide⟩ dX10_readItem_80 (fun H locs hP hD hS => ?_)
              refine W.eq (g2 := F0 m 83 ls [.int (nI ((ri1 I) 13 0)), .int (nI (6 + (ri1 I) (2) (1))), .ref (a 4)]) rfl ?_
              have hR46 : RJ (waJ (ri1 I) (nuZ (ri1 I) (nI (0)) (nI (47)))) := RJ_wa hR38
              have hR46d := hR46.2.2.2.2.1
              have hR46f := hR46.2.2.2.2.2
              refine ast_i hE hP hD hS (4) (gM_4 E a (waJ (ri1 I) (nuZ (ri1 I) (nI (0)) (nI (47)))) tr) (by omega) (by decide) (sM_4 E a (waJ (ri1 I) (nuZ (ri1 I) (nI (0)) (nI (47)))) tr (6 + (ri1 I) (2) (1)) ((ri1 I) 13 0)) dX10_readItem_83 (fun H locs hP hD hS => ?_)
              have hwf : (up2 (waJ (ri1 I) (nuZ (ri1 I) (nI (0)) (nI (47)))) (4) (6 + (ri1 I) (2) (1)) ((ri1 I) 13 0)) = (ho1 (ri1 I)) := rfl
              have hP := Eq.mp (congrArg (fun q => va_P E.1 vwCl (WM E a q tr) H) hwf) hP
              have hD := Eq.mp (congrArg (fun q => va_D A (WM E a q tr)) hwf) hD
              have hR47 : RJ (ho1 (ri1 I)) := RJ_h1 (RJ_r1 hR)
              have hR47d := hR47.2.2.2.2.1
              have hR47f := hR47.2.2.2.2.2
              refine lv_aload_n hx hb dX10_readItem_84 rfl (lv_at hl 2 rfl) ?_
              refine gf_X10_23 hE hP (0) (gM_0 E a (ho1 (ri1 I)) tr) (v := .ref (a 5)) rfl dX10_readItem_85 ?_
              refine lv_iload_n hx hb dX10_readItem_88 rfl (lv_at hl 0 rfl) ?_
              refine lv_aload_n hx hb dX10_readItem_89 rfl (lv_at hl 2 rfl) ?_
              refine lv_iconst (v := nI (1)) hx hb dX10_readItem_90 (by decide) ?_
              refine lv_bipush (v := nI (9)) hx hb dX10_readItem_91 (by decide) ?_
              refine call_V (As := [.int (nI (1)), .int (nI (9))]) (rest := [.int (nI (6 + (ri1 I) (2) (1))), .ref (a 5)]) hE (ct_X10_number l E a (ho1 (ri1 I)) tr (nI (1)) (nI (9)) hR47) cm_X10_number (uw mt_L_X10_102 rfl) (gM_0 E a (ho1 (ri1 I)) tr) rfl rfl hP hD hS hl.1 rfl rfl (Nat.le_of_ble_eq_true rfl) ⟨by decide, by decide⟩ dX10_readItem_93 (fun H locs hP hD hS => ?_)
              refine W.eq (g2 := F0 m 96 ls [.int (nI ((ho1 (ri1 I)) 13 0)), .int (nI (6 + (ri1 I) (2) (1))), .ref (a 5)]) rfl ?_
              have hR48 : RJ (waJ (ho1 (ri1 I)) (nuZ (ho1 (ri1 I)) (nI (1)) (nI (9)))) := RJ_wa hR47
              have hR48d := hR48.2.2.2.2.1
              have hR48f := hR48.2.2.2.2.2
              refine ast_i hE hP hD hS (5) (gM_5 E a (waJ (ho1 (ri1 I)) (nuZ (ho1 (ri1 I)) (nI (1)) (nI (9)))) tr) (by omega) (by decide) (sM_5 E a (waJ (ho1 (ri1 I)) (nuZ (ho1 (ri1 I)) (nI (1)) (nI (9)))) tr (6 + (ri1 I) (2) (1)) ((ho1 (ri1 I)) 13 0)) dX10_readItem_96 (fun H locs hP hD hS => ?_)
              have hwf : (up2 (waJ (ho1 (ri1 I)) (nuZ (ho1 (ri1 I)) (nI (1)) (nI (9)))) (5) (6 + (ri1 I) (2) (1)) ((ho1 (ri1 I)) 13 0)) = (ho2 (ri1 I)) := rfl
              have hP := Eq.mp (congrArg (fun q => va_P E.1 vwCl (WM E a q tr) H) hwf) hP
              have hD := Eq.mp (congrArg (fun q => va_D A (WM E a q tr)) hwf) hD
              have hR49 : RJ (ho2 (ri1 I)) := RJ_h2 (RJ_r1 hR)
              have hR49d := hR49.2.2.2.2.1
              have hR49f := hR49.2.2.2.2.2
              refine lv_aload_n hx hb dX10_readItem_97 rfl (lv_at hl 2 rfl) ?_
              refine gf_X10_26 hE hP (0) (gM_0 E a (ho2 (ri1 I)) tr) (v := .ref (a 6)) rfl dX10_readItem_98 ?_
              refine lv_iload_n hx hb dX10_readItem_101 rfl (lv_at hl 0 rfl) ?_
              refine lv_aload_n hx hb dX10_readItem_102 rfl (lv_at hl 2 rfl) ?_
              refine lv_iconst (v := nI (1)) hx hb dX10_readItem_103 (by decide) ?_
              refine lv_bipush (v := nI (9)) hx hb dX10_readItem_104 (by decide) ?_
              refine call_V (As := [.int (nI (1)), .int (nI (9))]) (rest := [.int (nI (6 + (ri1 I) (2) (1))), .ref (a 6)]) hE (ct_X10_number l E a (ho2 (ri1 I)) tr (nI (1)) (nI (9)) hR49) cm_X10_number (uw mt_L_X10_102 rfl) (gM_0 E a (ho2 (ri1 I)) tr) rfl rfl hP hD hS hl.1 rfl rfl (Nat.le_of_ble_eq_true rfl) ⟨by decide, by decide⟩ dX10_readItem_106 (fun H locs hP hD hS => ?_)
              refine W.eq (g2 := F0 m 109 ls [.int (nI ((ho2 (ri1 I)) 13 0)), .int (nI (6 + (ri1 I) (2) (1))), .ref (a 6)]) rfl ?_
              have hR50 : RJ (waJ (ho2 (ri1 I)) (nuZ (ho2 (ri1 I)) (nI (1)) (nI (9)))) := RJ_wa hR49
              have hR50d := hR50.2.2.2.2.1
              have hR50f := hR50.2.2.2.2.2
              refine ast_i hE hP hD hS (6) (gM_6 E a (waJ (ho2 (ri1 I)) (nuZ (ho2 (ri1 I)) (nI (1)) (nI (9)))) tr) (by omega) (by decide) (sM_6 E a (waJ (ho2 (ri1 I)) (nuZ (ho2 (ri1 I)) (nI (1)) (nI (9)))) tr (6 + (ri1 I) (2) (1)) ((ho2 (ri1 I)) 13 0)) dX10_readItem_109 (fun H locs hP hD hS => ?_)
              have hwf : (up2 (waJ (ho2 (ri1 I)) (nuZ (ho2 (ri1 I)) (nI (1)) (nI (9)))) (6) (6 + (ri1 I) (2) (1)) ((ho2 (ri1 I)) 13 0)) = (ho3 (ri1 I)) := rfl
              have hP := Eq.mp (congrArg (fun q => va_P E.1 vwCl (WM E a q tr) H) hwf) hP
              have hD := Eq.mp (congrArg (fun q => va_D A (WM E a q tr)) hwf) hD
              have hR51 : RJ (ho3 (ri1 I)) := RJ_h3 (RJ_r1 hR)
              have hR51d := hR51.2.2.2.2.1
              have hR51f := hR51.2.2.2.2.2
              refine lv_aload_n hx hb dX10_readItem_110 rfl (lv_at hl 2 rfl) ?_
              refine gf_X10_29 hE hP (0) (gM_0 E a (ho3 (ri1 I)) tr) (v := .ref (a 7)) rfl dX10_readItem_111 ?_
              refine lv_iload_n hx hb dX10_readItem_114 rfl (lv_at hl 0 rfl) ?_
              refine lv_iconst (v := nI (0)) hx hb dX10_readItem_115 (by decide) ?_
              refine ast_i hE hP hD hS (7) (gM_7 E a (ho3 (ri1 I)) tr) (by omega) (by decide) (sM_7 E a (ho3 (ri1 I)) tr (6 + (ri1 I) (2) (1)) (0)) dX10_readItem_116 (fun H locs hP hD hS => ?_)
              refine lv_aload_n hx hb dX10_readItem_117 rfl (lv_at hl 2 rfl) ?_
              refine gf_X10_13 hE hP (0) (gM_0 E a (up2 (ho3 (ri1 I)) (7) (6 + (ri1 I) (2) (1)) (0)) tr) (v := .ref (a 2)) rfl dX10_readItem_118 ?_
              refine lv_iconst (v := nI (1)) hx hb dX10_readItem_121 (by decide) ?_
              refine lv_dup2_11 hx hb dX10_readItem_122 rfl rfl ?_
              refine ald_i hE hP (2) (gM_2 E a (up2 (ho3 (ri1 I)) (7) (6 + (ri1 I) (2) (1)) (0)) tr) (by omega) (by decide) (r := nI ((ho3 (ri1 I)) (2) (1))) rfl dX10_readItem_123 ?_
              refine lv_iconst (v := nI (1)) hx hb dX10_readItem_124 (by decide) ?_
              refine lv_iadd hx hb dX10_readItem_125 ?_
              refine tp (nI_add _ _) ?_
              refine ast_i hE hP hD hS (2) (gM_2 E a (up2 (ho3 (ri1 I)) (7) (6 + (ri1 I) (2) (1)) (0)) tr) (by omega) (by decide) (sM_2 E a (up2 (ho3 (ri1 I)) (7) (6 + (ri1 I) (2) (1)) (0)) tr (1) ((ho3 (ri1 I)) (2) (1) + 1)) dX10_readItem_126 (fun H locs hP hD hS => ?_)
              have hwf : (up2 (up2 (ho3 (ri1 I)) (7) (6 + (ri1 I) (2) (1)) (0)) (2) (1) ((ho3 (ri1 I)) (2) (1) + 1)) = (riK I) := by unfold riK; rw [if_pos c58]; rfl
              have hP := Eq.mp (congrArg (fun q => va_P E.1 vwCl (WM E a q tr) H) hwf) hP
              have hD := Eq.mp (congrArg (fun q => va_D A (WM E a q tr)) hwf) hD
              have hR52 : RJ (riK I) := RJ_K hR
              have hR52d := hR52.2.2.2.2.1
              have hR52f := hR52.2.2.2.2.2
              refine lv_goto (tgt := 160) hx hb dX10_readItem_127 (by decide) ?_
              have hk12 := (RJ_K hR).2.2.2.1
              refine lv_aload_n hx hb dX10_readItem_160 rfl (lv_at hl 2 rfl) ?_
              refine lv_aload_n hx hb dX10_readItem_161 rfl (lv_at hl 2 rfl) ?_
              refine gf_X10_86 hE hP (0) (gM_0 E a (riK I) tr) (v := .int (nI ((riK I) (12) (0)))) rfl dX10_readItem_162 ?_
              refine lv_iconst (v := nI (5)) hx hb dX10_readItem_165 (by decide) ?_
              refine bN_ne (tgt := 173) hx hb (by omega) (by omega) dX10_readItem_166 (by decide) (fun c166 => ?_) (fun c166 => ?_)
              · refine lv_iconst (v := nI (0)) hx hb dX10_readItem_173 (by decide) ?_
                refine call_V (As := [.int (nI (0))]) (rest := []) hE (ct_X10_want l E a (riK I) tr (0) (by omega) hR52) cm_X10_want (uw mt_L_X10_98 rfl) (gM_0 E a (riK I) tr) rfl rfl hP hD hS hl.1 rfl rfl (Nat.le_of_ble_eq_true rfl) ⟨by decide, by decide⟩ dX10_readItem_174 (fun H locs hP hD hS => ?_)
                refine W.eq (g2 := F0 m 177 ls [.int (nI ((riK I) 13 0))]) rfl ?_
                have hR53 : RJ (waJ (riK I) (0)) := RJ_wa hR52
                refine lv_pop hx hb dX10_readItem_177 rfl ?_
                have hw : (waJ (riK I) (0)) = (riJ I) := by first | (unfold riJ; rw [if_pos c53, if_pos c166]; done) | (unfold riJ; rw [if_pos c53, if_neg c166]; done)
                have hP := Eq.mp (congrArg (fun q => va_P E.1 vwCl (WM E a q tr) H) hw) hP
                have hD := Eq.mp (congrArg (fun q => va_D A (WM E a q tr)) hw) hD
                exact ret_v hE rfl hP hD hS dX10_readItem_178
              · refine lv_iconst (v := nI (1)) hx hb dX10_readItem_169 (by decide) ?_
                refine lv_goto (tgt := 174) hx hb dX10_readItem_170 (by decide) ?_
                refine call_V (As := [.int (nI (1))]) (rest := []) hE (ct_X10_want l E a (riK I) tr (1) (by omega) hR52) cm_X10_want (uw mt_L_X10_98 rfl) (gM_0 E a (riK I) tr) rfl rfl hP hD hS hl.1 rfl rfl (Nat.le_of_ble_eq_true rfl) ⟨by decide, by decide⟩ dX10_readItem_174 (fun H locs hP hD hS => ?_)
                refine W.eq (g2 := F0 m 177 ls [.int (nI ((riK I) 13 0))]) rfl ?_
                have hR54 : RJ (waJ (riK I) (1)) := RJ_wa hR52
                refine lv_pop hx hb dX10_readItem_177 rfl ?_
                have hw : (waJ (riK I) (1)) = (riJ I) := by first | (unfold riJ; rw [if_pos c53, if_pos c166]; done) | (unfold riJ; rw [if_pos c53, if_neg c166]; done)
                have hP := Eq.mp (congrArg (fun q => va_P E.1 vwCl (WM E a q tr) H) hw) hP
                have hD := Eq.mp (congrArg (fun q => va_D A (WM E a q tr)) hw) hD
                exact ret_v hE rfl hP hD hS dX10_readItem_178
          · have hw : (ri1 I) = (riJ I) := by unfold riJ; rw [if_neg (by omega)]
            have hP := Eq.mp (congrArg (fun q => va_P E.1 vwCl (WM E a q tr) H) hw) hP
            have hD := Eq.mp (congrArg (fun q => va_D A (WM E a q tr)) hw) hD
            exact ret_v hE rfl hP hD hS dX10_readItem_56
        · refine lv_iconst (v := nI (1)) hx hb dX10_readItem_38 (by decide) ?_
          refine lv_goto (tgt := 43) hx hb dX10_readItem_39 (by decide) ?_
          refine call_V (As := [.int (nI (1))]) (rest := []) hE (ct_X10_want l E a I tr (1) (by omega) hR) cm_X10_want (uw mt_L_X10_98 rfl) (gM_0 E a I tr) rfl rfl hP hD hS hl.1 rfl rfl (Nat.le_of_ble_eq_true rfl) ⟨by decide, by decide⟩ dX10_readItem_43 (fun H locs hP hD hS => ?_)
          refine W.eq (g2 := F0 m 46 ls [.int (nI (I 13 0))]) rfl ?_
          have hR55 : RJ (waJ I (1)) := RJ_wa hR
          have hwf : (waJ I (1)) = (ri1 I) := by first | (unfold ri1 riZ; rw [if_pos (by omega)]; done) | (unfold ri1 riZ; rw [if_neg (by omega)]; done)
          have hP := Eq.mp (congrArg (fun q => va_P E.1 vwCl (WM E a q tr) H) hwf) hP
          have hD := Eq.mp (congrArg (fun q => va_D A (WM E a q tr)) hwf) hD
          have hR56 : RJ (ri1 I) := RJ_r1 hR
          have hR56d := hR56.2.2.2.2.1
          have hR56f := hR56.2.2.2.2.2
          refine lv_pop hx hb dX10_readItem_46 rfl ?_
          refine lv_aload_n hx hb dX10_readItem_47 rfl (lv_at hl 1 rfl) ?_
          refine gf_X10_92 hE hP (0) (gM_0 E a (ri1 I) tr) (v := .int (rN ((ri1 I) (14) (0)))) rfl dX10_readItem_48 ?_
          refine lv_bipush (v := (-9)) hx hb dX10_readItem_51 (by decide) ?_
          refine bQ9_eq (tgt := 57) hx hb (by omega) dX10_readItem_53 (by decide) (fun c53 => ?_) (fun c53 => ?_)
          · have hok := ri_ok c53
            refine lv_iload_n hx hb dX10_readItem_57 rfl (lv_at hl 0 rfl) ?_
            refine bZ_ne (tgt := 130) hx hb (by omega) dX10_readItem_58 (by decide) (fun c58 => ?_) (fun c58 => ?_)
            · refine lv_iload_n hx hb dX10_readItem_130 rfl (lv_at hl 0 rfl) ?_
              refine lv_iconst (v := nI (1)) hx hb dX10_readItem_131 (by decide) ?_
              refine bN_ne (tgt := 142) hx hb (by omega) (by omega) dX10_readItem_132 (by decide) (fun c132 => ?_) (fun c132 => ?_)
              · refine lv_aload_n hx hb dX10_readItem_142 rfl (lv_at hl 1 rfl) ?_
                refine gf_X10_17 hE hP (0) (gM_0 E a (ri1 I) tr) (v := .ref (a 3)) rfl dX10_readItem_143 ?_
                refine lv_iconst (v := nI (1)) hx hb dX10_readItem_146 (by decide) ?_
                refine lv_aload_n hx hb dX10_readItem_147 rfl (lv_at hl 1 rfl) ?_
                refine lv_iconst (v := nI (0)) hx hb dX10_readItem_148 (by decide) ?_
                refine lv_bipush (v := nI (9)) hx hb dX10_readItem_149 (by decide) ?_
                refine call_V (As := [.int (nI (0)), .int (nI (9))]) (rest := [.int (nI (1)), .ref (a 3)]) hE (ct_X10_number l E a (ri1 I) tr (nI (0)) (nI (9)) hR56) cm_X10_number (uw mt_L_X10_102 rfl) (gM_0 E a (ri1 I) tr) rfl rfl hP hD hS hl.1 rfl rfl (Nat.le_of_ble_eq_true rfl) ⟨by decide, by decide⟩ dX10_readItem_151 (fun H locs hP hD hS => ?_)
                refine W.eq (g2 := F0 m 154 ls [.int (nI ((ri1 I) 13 0)), .int (nI (1)), .ref (a 3)]) rfl ?_
                have hR57 : RJ (waJ (ri1 I) (nuZ (ri1 I) (nI (0)) (nI (9)))) := RJ_wa hR56
                have hR57d := hR57.2.2.2.2.1
                have hR57f := hR57.2.2.2.2.2
                refine ast_i hE hP hD hS (3) (gM_3 E a (waJ (ri1 I) (nuZ (ri1 I) (nI (0)) (nI (9)))) tr) (by omega) (by decide) (sM_3 E a (waJ (ri1 I) (nuZ (ri1 I) (nI (0)) (nI (9)))) tr (1) ((ri1 I) 13 0)) dX10_readItem_154 (fun H locs hP hD hS => ?_)
                refine lv_aload_n hx hb dX10_readItem_155 rfl (lv_at hl 1 rfl) ?_
                refine lv_iconst (v := nI (1)) hx hb dX10_readItem_156 (by decide) ?_
                refine pf_X10_106 hE hP hD hS (0) (gM_0 E a (up2 (waJ (ri1 I) (nuZ (ri1 I) (nI (0)) (nI (9)))) (3) (1) ((ri1 I) 13 0)) tr) (by decide) (by decide) (Nat.le_of_ble_eq_true rfl) (sM_0_16 E a (up2 (waJ (ri1 I) (nuZ (ri1 I) (nI (0)) (nI (9)))) (3) (1) ((ri1 I) 13 0)) tr (1)) dX10_readItem_157 (fun H locs hP hD hS => ?_)
                have hwf : (up2 (up2 (waJ (ri1 I) (nuZ (ri1 I) (nI (0)) (nI (9)))) (3) (1) ((ri1 I) 13 0)) (15) (0) (1)) = (riK I) := by unfold riK; rw [if_neg (by omega), if_neg c132]; rfl
                have hP := Eq.mp (congrArg (fun q => va_P E.1 vwCl (WM E a q tr) H) hwf) hP
                have hD := Eq.mp (congrArg (fun q => va_D A (WM E a q tr)) hwf) hD
                have hR58 : RJ (riK I) := RJ_K hR
                have hR58d := hR58.2.2.2.2.1
                have hR58f := hR58.2.2.2.2.2
                have hk12 := (RJ_K hR).2.2.2.1
                refine lv_aload_n hx hb dX10_readItem_160 rfl (lv_at hl 1 rfl) ?_
                refine lv_aload_n hx hb dX10_readItem_161 rfl (lv_at hl 1 rfl) ?_
                refine gf_X10_86 hE hP (0) (gM_0 E a (riK I) tr) (v := .int (nI ((riK I) (12) (0)))) rfl dX10_readItem_162 ?_
                refine lv_iconst (v := nI (5)) hx hb dX10_readItem_165 (by decide) ?_
                refine bN_ne (tgt := 173) hx hb (by omega) (by omega) dX10_readItem_166 (by decide) (fun c166 => ?_) (fun c166 => ?_)
                · refine lv_iconst (v := nI (0)) hx hb dX10_readItem_173 (by decide) ?_
                  refine call_V (As := [.int (nI (0))]) (rest := []) hE (ct_X10_want l E a (riK I) tr (0) (by omega) hR58) cm_X10_want (uw mt_L_X10_98 rfl) (gM_0 E a (riK I) tr) rfl rfl hP hD hS hl.1 rfl rfl (Nat.le_of_ble_eq_true rfl) ⟨by decide, by decide⟩ dX10_readItem_174 (fun H locs hP hD hS => ?_)
                  refine W.eq (g2 := F0 m 177 ls [.int (nI ((riK I) 13 0))]) rfl ?_
                  have hR59 : RJ (waJ (riK I) (0)) := RJ_wa hR58
                  refine lv_pop hx hb dX10_readItem_177 rfl ?_
                  have hw : (waJ (riK I) (0)) = (riJ I) := by first | (unfold riJ; rw [if_pos c53, if_pos c166]; done) | (unfold riJ; rw [if_pos c53, if_neg c166]; done)
                  have hP := Eq.mp (congrArg (fun q => va_P E.1 vwCl (WM E a q tr) H) hw) hP
                  have hD := Eq.mp (congrArg (fun q => va_D A (WM E a q tr)) hw) hD
                  exact ret_v hE rfl hP hD hS dX10_readItem_178
                · refine lv_iconst (v := nI (1)) hx hb dX10_readItem_169 (by decide) ?_
                  refine lv_goto (tgt := 174) hx hb dX10_readItem_170 (by decide) ?_
                  refine call_V (As := [.int (nI (1))]) (rest := []) hE (ct_X10_want l E a (riK I) tr (1) (by omega) hR58) cm_X10_want (uw mt_L_X10_98 rfl) (gM_0 E a (riK I) tr) rfl rfl hP hD hS hl.1 rfl rfl (Nat.le_of_ble_eq_true rfl) ⟨by decide, by decide⟩ dX10_readItem_174 (fun H locs hP hD hS => ?_)
                  refine W.eq (g2 := F0 m 177 ls [.int (nI ((riK I) 13 0))]) rfl ?_
                  have hR60 : RJ (waJ (riK I) (1)) := RJ_wa hR58
                  refine lv_pop hx hb dX10_readItem_177 rfl ?_
                  have hw : (waJ (riK I) (1)) = (riJ I) := by first | (unfold riJ; rw [if_pos c53, if_pos c166]; done) | (unfold riJ; rw [if_pos c53, if_neg c166]; done)
                  have hP := Eq.mp (congrArg (fun q => va_P E.1 vwCl (WM E a q tr) H) hw) hP
                  have hD := Eq.mp (congrArg (fun q => va_D A (WM E a q tr)) hw) hD
                  exact ret_v hE rfl hP hD hS dX10_readItem_178
              · refine lv_aload_n hx hb dX10_readItem_135 rfl (lv_at hl 1 rfl) ?_
                refine call_V (As := []) (rest := []) hE (ct_X10_readLeap l E a (ri1 I) tr (RJ_r1 hR) (by rw [hr2]; omega) (fun x hx9 => by rw [hr7]; exact hL2 x hx9)) cm_X10_readLeap (uw mt_L_X10_110 rfl) (gM_0 E a (ri1 I) tr) rfl rfl hP hD hS hl.1 rfl rfl (Nat.le_of_ble_eq_true rfl) ⟨by decide, by decide⟩ dX10_readItem_136 (fun H locs hP hD hS => ?_)
                refine W.eq (g2 := F0 m 139 ls []) rfl ?_
                have hwf : (leJ (ri1 I)) = (riK I) := by unfold riK; rw [if_neg (by omega), if_pos c132]
                have hP := Eq.mp (congrArg (fun q => va_P E.1 vwCl (WM E a q tr) H) hwf) hP
                have hD := Eq.mp (congrArg (fun q => va_D A (WM E a q tr)) hwf) hD
                have hR61 : RJ (riK I) := RJ_K hR
                have hR61d := hR61.2.2.2.2.1
                have hR61f := hR61.2.2.2.2.2
                refine lv_goto (tgt := 160) hx hb dX10_readItem_139 (by decide) ?_
                have hk12 := (RJ_K hR).2.2.2.1
                refine lv_aload_n hx hb dX10_readItem_160 rfl (lv_at hl 1 rfl) ?_
                refine lv_aload_n hx hb dX10_readItem_161 rfl (lv_at hl 1 rfl) ?_
                refine gf_X10_86 hE hP (0) (gM_0 E a (riK I) tr) (v := .int (nI ((riK I) (12) (0)))) rfl dX10_readItem_162 ?_
                refine lv_iconst (v := nI (5)) hx hb dX10_readItem_165 (by decide) ?_
                refine bN_ne (tgt := 173) hx hb (by omega) (by omega) dX10_readItem_166 (by decide) (fun c166 => ?_) (fun c166 => ?_)
                · refine lv_iconst (v := nI (0)) hx hb dX10_readItem_173 (by decide) ?_
                  refine call_V (As := [.int (nI (0))]) (rest := []) hE (ct_X10_want l E a (riK I) tr (0) (by omega) hR61) cm_X10_want (uw mt_L_X10_98 rfl) (gM_0 E a (riK I) tr) rfl rfl hP hD hS hl.1 rfl rfl (Nat.le_of_ble_eq_true rfl) ⟨by decide, by decide⟩ dX10_readItem_174 (fun H locs hP hD hS => ?_)
                  refine W.eq (g2 := F0 m 177 ls [.int (nI ((riK I) 13 0))]) rfl ?_
                  have hR62 : RJ (waJ (riK I) (0)) := RJ_wa hR61
                  refine lv_pop hx hb dX10_readItem_177 rfl ?_
                  have hw : (waJ (riK I) (0)) = (riJ I) := by first | (unfold riJ; rw [if_pos c53, if_pos c166]; done) | (unfold riJ; rw [if_pos c53, if_neg c166]; done)
                  have hP := Eq.mp (congrArg (fun q => va_P E.1 vwCl (WM E a q tr) H) hw) hP
                  have hD := Eq.mp (congrArg (fun q => va_D A (WM E a q tr)) hw) hD
                  exact ret_v hE rfl hP hD hS dX10_readItem_178
                · refine lv_iconst (v := nI (1)) hx hb dX10_readItem_169 (by decide) ?_
                  refine lv_goto (tgt := 174) hx hb dX10_readItem_170 (by decide) ?_
                  refine call_V (As := [.int (nI (1))]) (rest := []) hE (ct_X10_want l E a (riK I) tr (1) (by omega) hR61) cm_X10_want (uw mt_L_X10_98 rfl) (gM_0 E a (riK I) tr) rfl rfl hP hD hS hl.1 rfl rfl (Nat.le_of_ble_eq_true rfl) ⟨by decide, by decide⟩ dX10_readItem_174 (fun H locs hP hD hS => ?_)
                  refine W.eq (g2 := F0 m 177 ls [.int (nI ((riK I) 13 0))]) rfl ?_
                  have hR63 : RJ (waJ (riK I) (1)) := RJ_wa hR61
                  refine lv_pop hx hb dX10_readItem_177 rfl ?_
                  have hw : (waJ (riK I) (1)) = (riJ I) := by first | (unfold riJ; rw [if_pos c53, if_pos c166]; done) | (unfold riJ; rw [if_pos c53, if_neg c166]; done)
                  have hP := Eq.mp (congrArg (fun q => va_P E.1 vwCl (WM E a q tr) H) hw) hP
                  have hD := Eq.mp (congrArg (fun q => va_D A (WM E a q tr)) hw) hD
                  exact ret_v hE rfl hP hD hS dX10_readItem_178
            · refine lv_bipush (v := nI (6)) hx hb dX10_readItem_61 (by decide) ?_
              refine lv_aload_n hx hb dX10_readItem_63 rfl (lv_at hl 1 rfl) ?_
              refine gf_X10_13 hE hP (0) (gM_0 E a (ri1 I) tr) (v := .ref (a 2)) rfl dX10_readItem_64 ?_
              refine lv_iconst (v := nI (1)) hx hb dX10_readItem_67 (by decide) ?_
              refine ald_i hE hP (2) (gM_2 E a (ri1 I) tr) (by omega) (by decide) (r := nI ((ri1 I) (2) (1))) rfl dX10_readItem_68 ?_
              refine lv_iadd hx hb dX10_readItem_69 ?_
              refine tp (nI_add _ _) ?_
              refine lv_istore_n (lv' := [(2, .int (nI (6 + (ri1 I) (2) (1)))), (1, .int (nI (I (12) (0)))), (0, .ref (a 0))]) hx hb dX10_readItem_70 rfl hl (by decide) rfl (fun ls hl => ?_)
              refine lv_aload_n hx hb dX10_readItem_71 rfl (lv_at hl 2 rfl) ?_
              refine gf_X10_20 hE hP (0) (gM_0 E a (ri1 I) tr) (v := .ref (a 4)) rfl dX10_readItem_72 ?_
              refine lv_iload_n hx hb dX10_readItem_75 rfl (lv_at hl 0 rfl) ?_
              refine lv_aload_n hx hb dX10_readItem_76 rfl (lv_at hl 2 rfl) ?_
              refine lv_iconst (v := nI (0)) hx hb dX10_readItem_77 (by decide) ?_
              refine lv_bipush (v := nI (47)) hx hb dX10_readItem_78 (by decide) ?_
              refine call_V (As := [.int (nI (0)), .int (nI (47))]) (rest := [.int (nI (6 + (ri1 I) (2) (1))), .ref (a 4)]) hE (ct_X10_number l E a (ri1 I) tr (nI (0)) (nI (47)) hR56) cm_X10_number (uw mt_L_X10_102 rfl) (gM_0 E a (ri1 I) tr) rfl rfl hP hD hS hl.1 rfl rfl (Nat.le_of_ble_eq_true rfl) ⟨by decide, by decide⟩ dX10_readItem_80 (fun H locs hP hD hS => ?_)
              refine W.eq (g2 := F0 m 83 ls [.int (nI ((ri1 I) 13 0)), .int (nI (6 + (ri1 I) (2) (1))), .ref (a 4)]) rfl ?_
              have hR64 : RJ (waJ (ri1 I) (nuZ (ri1 I) (nI (0)) (nI (47)))) := RJ_wa hR56
              have hR64d := hR64.2.2.2.2.1
              have hR64f := hR64.2.2.2.2.2
              refine ast_i hE hP hD hS (4) (gM_4 E a (waJ (ri1 I) (nuZ (ri1 I) (nI (0)) (nI (47)))) tr) (by omega) (by decide) (sM_4 E a (waJ (ri1 I) (nuZ (ri1 I) (nI (0)) (nI (47)))) tr (6 + (ri1 I) (2) (1)) ((ri1 I) 13 0)) dX10_readItem_83 (fun H locs hP hD hS => ?_)
              have hwf : (up2 (waJ (ri1 I) (nuZ (ri1 I) (nI (0)) (nI (47)))) (4) (6 + (ri1 I) (2) (1)) ((ri1 I) 13 0)) = (ho1 (ri1 I)) := rfl
              have hP := Eq.mp (congrArg (fun q => va_P E.1 vwCl (WM E a q tr) H) hwf) hP
              have hD := Eq.mp (congrArg (fun q => va_D A (WM E a q tr)) hwf) hD
              have hR65 : RJ (ho1 (ri1 I)) := RJ_h1 (RJ_r1 hR)
              have hR65d := hR65.2.2.2.2.1
              have hR65f := hR65.2.2.2.2.2
              refine lv_aload_n hx hb dX10_readItem_84 rfl (lv_at hl 2 rfl) ?_
              refine gf_X10_23 hE hP (0) (gM_0 E a (ho1 (ri1 I)) tr) (v := .ref (a 5)) rfl dX10_readItem_85 ?_
              refine lv_iload_n hx hb dX10_readItem_88 rfl (lv_at hl 0 rfl) ?_
              refine lv_aload_n hx hb dX10_readItem_89 rfl (lv_at hl 2 rfl) ?_
              refine lv_iconst (v := nI (1)) hx hb dX10_readItem_90 (by decide) ?_
              refine lv_bipush (v := nI (9)) hx hb dX10_readItem_91 (by decide) ?_
              refine call_V (As := [.int (nI (1)), .int (nI (9))]) (rest := [.int (nI (6 + (ri1 I) (2) (1))), .ref (a 5)]) hE (ct_X10_number l E a (ho1 (ri1 I)) tr (nI (1)) (nI (9)) hR65) cm_X10_number (uw mt_L_X10_102 rfl) (gM_0 E a (ho1 (ri1 I)) tr) rfl rfl hP hD hS hl.1 rfl rfl (Nat.le_of_ble_eq_true rfl) ⟨by decide, by decide⟩ dX10_readItem_93 (fun H locs hP hD hS => ?_)
              refine W.eq (g2 := F0 m 96 ls [.int (nI ((ho1 (ri1 I)) 13 0)), .int (nI (6 + (ri1 I) (2) (1))), .ref (a 5)]) rfl ?_
              have hR66 : RJ (waJ (ho1 (ri1 I)) (nuZ (ho1 (ri1 I)) (nI (1)) (nI (9)))) := RJ_wa hR65
              have hR66d := hR66.2.2.2.2.1
              have hR66f := hR66.2.2.2.2.2
              refine ast_i hE hP hD hS (5) (gM_5 E a (waJ (ho1 (ri1 I)) (nuZ (ho1 (ri1 I)) (nI (1)) (nI (9)))) tr) (by omega) (by decide) (sM_5 E a (waJ (ho1 (ri1 I)) (nuZ (ho1 (ri1 I)) (nI (1)) (nI (9)))) tr (6 + (ri1 I) (2) (1)) ((ho1 (ri1 I)) 13 0)) dX10_readItem_96 (fun H locs hP hD hS => ?_)
              have hwf : (up2 (waJ (ho1 (ri1 I)) (nuZ (ho1 (ri1 I)) (nI (1)) (nI (9)))) (5) (6 + (ri1 I) (2) (1)) ((ho1 (ri1 I)) 13 0)) = (ho2 (ri1 I)) := rfl
              have hP := Eq.mp (congrArg (fun q => va_P E.1 vwCl (WM E a q tr) H) hwf) hP
              have hD := Eq.mp (congrArg (fun q => va_D A (WM E a q tr)) hwf) hD
              have hR67 : RJ (ho2 (ri1 I)) := RJ_h2 (RJ_r1 hR)
              have hR67d := hR67.2.2.2.2.1
              have hR67f := hR67.2.2.2.2.2
              refine lv_aload_n hx hb dX10_readItem_97 rfl (lv_at hl 2 rfl) ?_
              refine gf_X10_26 hE hP (0) (gM_0 E a (ho2 (ri1 I)) tr) (v := .ref (a 6)) rfl dX10_readItem_98 ?_
              refine lv_iload_n hx hb dX10_readItem_101 rfl (lv_at hl 0 rfl) ?_
              refine lv_aload_n hx hb dX10_readItem_102 rfl (lv_at hl 2 rfl) ?_
              refine lv_iconst (v := nI (1)) hx hb dX10_readItem_103 (by decide) ?_
              refine lv_bipush (v := nI (9)) hx hb dX10_readItem_104 (by decide) ?_
              refine call_V (As := [.int (nI (1)), .int (nI (9))]) (rest := [.int (nI (6 + (ri1 I) (2) (1))), .ref (a 6)]) hE (ct_X10_number l E a (ho2 (ri1 I)) tr (nI (1)) (nI (9)) hR67) cm_X10_number (uw mt_L_X10_102 rfl) (gM_0 E a (ho2 (ri1 I)) tr) rfl rfl hP hD hS hl.1 rfl rfl (Nat.le_of_ble_eq_true rfl) ⟨by decide, by decide⟩ dX10_readItem_106 (fun H locs hP hD hS => ?_)
              refine W.eq (g2 := F0 m 109 ls [.int (nI ((ho2 (ri1 I)) 13 0)), .int (nI (6 + (ri1 I) (2) (1))), .ref (a 6)]) rfl ?_
              have hR68 : RJ (waJ (ho2 (ri1 I)) (nuZ (ho2 (ri1 I)) (nI (1)) (nI (9)))) := RJ_wa hR67
              have hR68d := hR68.2.2.2.2.1
              have hR68f := hR68.2.2.2.2.2
              refine ast_i hE hP hD hS (6) (gM_6 E a (waJ (ho2 (ri1 I)) (nuZ (ho2 (ri1 I)) (nI (1)) (nI (9)))) tr) (by omega) (by decide) (sM_6 E a (waJ (ho2 (ri1 I)) (nuZ (ho2 (ri1 I)) (nI (1)) (nI (9)))) tr (6 + (ri1 I) (2) (1)) ((ho2 (ri1 I)) 13 0)) dX10_readItem_109 (fun H locs hP hD hS => ?_)
              have hwf : (up2 (waJ (ho2 (ri1 I)) (nuZ (ho2 (ri1 I)) (nI (1)) (nI (9)))) (6) (6 + (ri1 I) (2) (1)) ((ho2 (ri1 I)) 13 0)) = (ho3 (ri1 I)) := rfl
              have hP := Eq.mp (congrArg (fun q => va_P E.1 vwCl (WM E a q tr) H) hwf) hP
              have hD := Eq.mp (congrArg (fun q => va_D A (WM E a q tr)) hwf) hD
              have hR69 : RJ (ho3 (ri1 I)) := RJ_h3 (RJ_r1 hR)
              have hR69d := hR69.2.2.2.2.1
              have hR69f := hR69.2.2.2.2.2
              refine lv_aload_n hx hb dX10_readItem_110 rfl (lv_at hl 2 rfl) ?_
              refine gf_X10_29 hE hP (0) (gM_0 E a (ho3 (ri1 I)) tr) (v := .ref (a 7)) rfl dX10_readItem_111 ?_
              refine lv_iload_n hx hb dX10_readItem_114 rfl (lv_at hl 0 rfl) ?_
              refine lv_iconst (v := nI (0)) hx hb dX10_readItem_115 (by decide) ?_
              refine ast_i hE hP hD hS (7) (gM_7 E a (ho3 (ri1 I)) tr) (by omega) (by decide) (sM_7 E a (ho3 (ri1 I)) tr (6 + (ri1 I) (2) (1)) (0)) dX10_readItem_116 (fun H locs hP hD hS => ?_)
              refine lv_aload_n hx hb dX10_readItem_117 rfl (lv_at hl 2 rfl) ?_
              refine gf_X10_13 hE hP (0) (gM_0 E a (up2 (ho3 (ri1 I)) (7) (6 + (ri1 I) (2) (1)) (0)) tr) (v := .ref (a 2)) rfl dX10_readItem_118 ?_
              refine lv_iconst (v := nI (1)) hx hb dX10_readItem_121 (by decide) ?_
              refine lv_dup2_11 hx hb dX10_readItem_122 rfl rfl ?_
              refine ald_i hE hP (2) (gM_2 E a (up2 (ho3 (ri1 I)) (7) (6 + (ri1 I) (2) (1)) (0)) tr) (by omega) (by decide) (r := nI ((ho3 (ri1 I)) (2) (1))) rfl dX10_readItem_123 ?_
              refine lv_iconst (v := nI (1)) hx hb dX10_readItem_124 (by decide) ?_
              refine lv_iadd hx hb dX10_readItem_125 ?_
              refine tp (nI_add _ _) ?_
              refine ast_i hE hP hD hS (2) (gM_2 E a (up2 (ho3 (ri1 I)) (7) (6 + (ri1 I) (2) (1)) (0)) tr) (by omega) (by decide) (sM_2 E a (up2 (ho3 (ri1 I)) (7) (6 + (ri1 I) (2) (1)) (0)) tr (1) ((ho3 (ri1 I)) (2) (1) + 1)) dX10_readItem_126 (fun H locs hP hD hS => ?_)
              have hwf : (up2 (up2 (ho3 (ri1 I)) (7) (6 + (ri1 I) (2) (1)) (0)) (2) (1) ((ho3 (ri1 I)) (2) (1) + 1)) = (riK I) := by unfold riK; rw [if_pos c58]; rfl
              have hP := Eq.mp (congrArg (fun q => va_P E.1 vwCl (WM E a q tr) H) hwf) hP
              have hD := Eq.mp (congrArg (fun q => va_D A (WM E a q tr)) hwf) hD
              have hR70 : RJ (riK I) := RJ_K hR
              have hR70d := hR70.2.2.2.2.1
              have hR70f := hR70.2.2.2.2.2
              refine lv_goto (tgt := 160) hx hb dX10_readItem_127 (by decide) ?_
              have hk12 := (RJ_K hR).2.2.2.1
              refine lv_aload_n hx hb dX10_readItem_160 rfl (lv_at hl 2 rfl) ?_
              refine lv_aload_n hx hb dX10_readItem_161 rfl (lv_at hl 2 rfl) ?_
              refine gf_X10_86 hE hP (0) (gM_0 E a (riK I) tr) (v := .int (nI ((riK I) (12) (0)))) rfl dX10_readItem_162 ?_
              refine lv_iconst (v := nI (5)) hx hb dX10_readItem_165 (by decide) ?_
              refine bN_ne (tgt := 173) hx hb (by omega) (by omega) dX10_readItem_166 (by decide) (fun c166 => ?_) (fun c166 => ?_)
              · refine lv_iconst (v := nI (0)) hx hb dX10_readItem_173 (by decide) ?_
                refine call_V (As := [.int (nI (0))]) (rest := []) hE (ct_X10_want l E a (riK I) tr (0) (by omega) hR70) cm_X10_want (uw mt_L_X10_98 rfl) (gM_0 E a (riK I) tr) rfl rfl hP hD hS hl.1 rfl rfl (Nat.le_of_ble_eq_true rfl) ⟨by decide, by decide⟩ dX10_readItem_174 (fun H locs hP hD hS => ?_)
                refine W.eq (g2 := F0 m 177 ls [.int (nI ((riK I) 13 0))]) rfl ?_
                have hR71 : RJ (waJ (riK I) (0)) := RJ_wa hR70
                refine lv_pop hx hb dX10_readItem_177 rfl ?_
                have hw : (waJ (riK I) (0)) = (riJ I) := by first | (unfold riJ; rw [if_pos c53, if_pos c166]; done) | (unfold riJ; rw [if_pos c53, if_neg c166]; done)
                have hP := Eq.mp (congrArg (fun q => va_P E.1 vwCl (WM E a q tr) H) hw) hP
                have hD := Eq.mp (congrArg (fun q => va_D A (WM E a q tr)) hw) hD
                exact ret_v hE rfl hP hD hS dX10_readItem_178
              · refine lv_iconst (v := nI (1)) hx hb dX10_readItem_169 (by decide) ?_
                refine lv_goto (tgt := 174) hx hb dX10_readItem_170 (by decide) ?_
                refine call_V (As := [.int (nI (1))]) (rest := []) hE (ct_X10_want l E a (riK I) tr (1) (by omega) hR70) cm_X10_want (uw mt_L_X10_98 rfl) (gM_0 E a (riK I) tr) rfl rfl hP hD hS hl.1 rfl rfl (Nat.le_of_ble_eq_true rfl) ⟨by decide, by decide⟩ dX10_readItem_174 (fun H locs hP hD hS => ?_)
                refine W.eq (g2 := F0 m 177 ls [.int (nI ((riK I) 13 0))]) rfl ?_
                have hR72 : RJ (waJ (riK I) (1)) := RJ_wa hR70
                refine lv_pop hx hb dX10_readItem_177 rfl ?_
                have hw : (waJ (riK I) (1)) = (riJ I) := by first | (unfold riJ; rw [if_pos c53, if_pos c166]; done) | (unfold riJ; rw [if_pos c53, if_neg c166]; done)
                have hP := Eq.mp (congrArg (fun q => va_P E.1 vwCl (WM E a q tr) H) hw) hP
                have hD := Eq.mp (congrArg (fun q => va_D A (WM E a q tr)) hw) hD
                exact ret_v hE rfl hP hD hS dX10_readItem_178
          · have hw : (ri1 I) = (riJ I) := by unfold riJ; rw [if_neg (by omega)]
            have hP := Eq.mp (congrArg (fun q => va_P E.1 vwCl (WM E a q tr) H) hw) hP
            have hD := Eq.mp (congrArg (fun q => va_D A (WM E a q tr)) hw) hD
            exact ret_v hE rfl hP hD hS dX10_readItem_56
  · refine lv_aload_n hx hb dX10_readItem_10 rfl (lv_at hl 1 rfl) ?_
    refine gf_X10_13 hE hP (0) (gM_0 E a I tr) (v := .ref (a 2)) rfl dX10_readItem_11 ?_
    refine lv_iconst (v := nI (1)) hx hb dX10_readItem_14 (by decide) ?_
    refine ald_i hE hP (2) (gM_2 E a I tr) (by omega) (by decide) (r := nI (I (2) (1))) rfl dX10_readItem_15 ?_
    refine lv_bipush (v := nI (6)) hx hb dX10_readItem_16 (by decide) ?_
    refine bN_lt (tgt := 38) hx hb (by omega) (by omega) dX10_readItem_18 (by decide) (fun c18 => ?_) (fun c18 => ?_)
    · refine lv_iconst (v := nI (1)) hx hb dX10_readItem_38 (by decide) ?_
      refine lv_goto (tgt := 43) hx hb dX10_readItem_39 (by decide) ?_
      refine call_V (As := [.int (nI (1))]) (rest := []) hE (ct_X10_want l E a I tr (1) (by omega) hR) cm_X10_want (uw mt_L_X10_98 rfl) (gM_0 E a I tr) rfl rfl hP hD hS hl.1 rfl rfl (Nat.le_of_ble_eq_true rfl) ⟨by decide, by decide⟩ dX10_readItem_43 (fun H locs hP hD hS => ?_)
      refine W.eq (g2 := F0 m 46 ls [.int (nI (I 13 0))]) rfl ?_
      have hR73 : RJ (waJ I (1)) := RJ_wa hR
      have hwf : (waJ I (1)) = (ri1 I) := by first | (unfold ri1 riZ; rw [if_pos (by omega)]; done) | (unfold ri1 riZ; rw [if_neg (by omega)]; done)
      have hP := Eq.mp (congrArg (fun q => va_P E.1 vwCl (WM E a q tr) H) hwf) hP
      have hD := Eq.mp (congrArg (fun q => va_D A (WM E a q tr)) hwf) hD
      have hR74 : RJ (ri1 I) := RJ_r1 hR
      have hR74d := hR74.2.2.2.2.1
      have hR74f := hR74.2.2.2.2.2
      refine lv_pop hx hb dX10_readItem_46 rfl ?_
      refine lv_aload_n hx hb dX10_readItem_47 rfl (lv_at hl 1 rfl) ?_
      refine gf_X10_92 hE hP (0) (gM_0 E a (ri1 I) tr) (v := .int (rN ((ri1 I) (14) (0)))) rfl dX10_readItem_48 ?_
      refine lv_bipush (v := (-9)) hx hb dX10_readItem_51 (by decide) ?_
      refine bQ9_eq (tgt := 57) hx hb (by omega) dX10_readItem_53 (by decide) (fun c53 => ?_) (fun c53 => ?_)
      · have hok := ri_ok c53
        refine lv_iload_n hx hb dX10_readItem_57 rfl (lv_at hl 0 rfl) ?_
        refine bZ_ne (tgt := 130) hx hb (by omega) dX10_readItem_58 (by decide) (fun c58 => ?_) (fun c58 => ?_)
        · refine lv_iload_n hx hb dX10_readItem_130 rfl (lv_at hl 0 rfl) ?_
          refine lv_iconst (v := nI (1)) hx hb dX10_readItem_131 (by decide) ?_
          refine bN_ne (tgt := 142) hx hb (by omega) (by omega) dX10_readItem_132 (by decide) (fun c132 => ?_) (fun c132 => ?_)
          · refine lv_aload_n hx hb dX10_readItem_142 rfl (lv_at hl 1 rfl) ?_
            refine gf_X10_17 hE hP (0) (gM_0 E a (ri1 I) tr) (v := .ref (a 3)) rfl dX10_readItem_143 ?_
            refine lv_iconst (v := nI (1)) hx hb dX10_readItem_146 (by decide) ?_
            refine lv_aload_n hx hb dX10_readItem_147 rfl (lv_at hl 1 rfl) ?_
            refine lv_iconst (v := nI (0)) hx hb dX10_readItem_148 (by decide) ?_
            refine lv_bipush (v := nI (9)) hx hb dX10_readItem_149 (by decide) ?_
            refine call_V (As := [.int (nI (0)), .int (nI (9))]) (rest := [.int (nI (1)), .ref (a 3)]) hE (ct_X10_number l E a (ri1 I) tr (nI (0)) (nI (9)) hR74) cm_X10_number (uw mt_L_X10_102 rfl) (gM_0 E a (ri1 I) tr) rfl rfl hP hD hS hl.1 rfl rfl (Nat.le_of_ble_eq_true rfl) ⟨by decide, by decide⟩ dX10_readItem_151 (fun H locs hP hD hS => ?_)
            refine W.eq (g2 := F0 m 154 ls [.int (nI ((ri1 I) 13 0)), .int (nI (1)), .ref (a 3)]) rfl ?_
            have hR75 : RJ (waJ (ri1 I) (nuZ (ri1 I) (nI (0)) (nI (9)))) := RJ_wa hR74
            have hR75d := hR75.2.2.2.2.1
            have hR75f := hR75.2.2.2.2.2
            refine ast_i hE hP hD hS (3) (gM_3 E a (waJ (ri1 I) (nuZ (ri1 I) (nI (0)) (nI (9)))) tr) (by omega) (by decide) (sM_3 E a (waJ (ri1 I) (nuZ (ri1 I) (nI (0)) (nI (9)))) tr (1) ((ri1 I) 13 0)) dX10_readItem_154 (fun H locs hP hD hS => ?_)
            refine lv_aload_n hx hb dX10_readItem_155 rfl (lv_at hl 1 rfl) ?_
            refine lv_iconst (v := nI (1)) hx hb dX10_readItem_156 (by decide) ?_
            refine pf_X10_106 hE hP hD hS (0) (gM_0 E a (up2 (waJ (ri1 I) (nuZ (ri1 I) (nI (0)) (nI (9)))) (3) (1) ((ri1 I) 13 0)) tr) (by decide) (by decide) (Nat.le_of_ble_eq_true rfl) (sM_0_16 E a (up2 (waJ (ri1 I) (nuZ (ri1 I) (nI (0)) (nI (9)))) (3) (1) ((ri1 I) 13 0)) tr (1)) dX10_readItem_157 (fun H locs hP hD hS => ?_)
            have hwf : (up2 (up2 (waJ (ri1 I) (nuZ (ri1 I) (nI (0)) (nI (9)))) (3) (1) ((ri1 I) 13 0)) (15) (0) (1)) = (riK I) := by unfold riK; rw [if_neg (by omega), if_neg c132]; rfl
            have hP := Eq.mp (congrArg (fun q => va_P E.1 vwCl (WM E a q tr) H) hwf) hP
            have hD := Eq.mp (congrArg (fun q => va_D A (WM E a q tr)) hwf) hD
            have hR76 : RJ (riK I) := RJ_K hR
            have hR76d := hR76.2.2.2.2.1
            have hR76f := hR76.2.2.2.2.2
            have hk12 := (RJ_K hR).2.2.2.1
            refine lv_aload_n hx hb dX10_readItem_160 rfl (lv_at hl 1 rfl) ?_
            refine lv_aload_n hx hb dX10_readItem_161 rfl (lv_at hl 1 rfl) ?_
            refine gf_X10_86 hE hP (0) (gM_0 E a (riK I) tr) (v := .int (nI ((riK I) (12) (0)))) rfl dX10_readItem_162 ?_
            refine lv_iconst (v := nI (5)) hx hb dX10_readItem_165 (by decide) ?_
            refine bN_ne (tgt := 173) hx hb (by omega) (by omega) dX10_readItem_166 (by decide) (fun c166 => ?_) (fun c166 => ?_)
            · refine lv_iconst (v := nI (0)) hx hb dX10_readItem_173 (by decide) ?_
              refine call_V (As := [.int (nI (0))]) (rest := []) hE (ct_X10_want l E a (riK I) tr (0) (by omega) hR76) cm_X10_want (uw mt_L_X10_98 rfl) (gM_0 E a (riK I) tr) rfl rfl hP hD hS hl.1 rfl rfl (Nat.le_of_ble_eq_true rfl) ⟨by decide, by decide⟩ dX10_readItem_174 (fun H locs hP hD hS => ?_)
              refine W.eq (g2 := F0 m 177 ls [.int (nI ((riK I) 13 0))]) rfl ?_
              have hR77 : RJ (waJ (riK I) (0)) := RJ_wa hR76
              refine lv_pop hx hb dX10_readItem_177 rfl ?_
              have hw : (waJ (riK I) (0)) = (riJ I) := by first | (unfold riJ; rw [if_pos c53, if_pos c166]; done) | (unfold riJ; rw [if_pos c53, if_neg c166]; done)
              have hP := Eq.mp (congrArg (fun q => va_P E.1 vwCl (WM E a q tr) H) hw) hP
              have hD := Eq.mp (congrArg (fun q => va_D A (WM E a q tr)) hw) hD
              exact ret_v hE rfl hP hD hS dX10_readItem_178
            · refine lv_iconst (v := nI (1)) hx hb dX10_readItem_169 (by decide) ?_
              refine lv_goto (tgt := 174) hx hb dX10_readItem_170 (by decide) ?_
              refine call_V (As := [.int (nI (1))]) (rest := []) hE (ct_X10_want l E a (riK I) tr (1) (by omega) hR76) cm_X10_want (uw mt_L_X10_98 rfl) (gM_0 E a (riK I) tr) rfl rfl hP hD hS hl.1 rfl rfl (Nat.le_of_ble_eq_true rfl) ⟨by decide, by decide⟩ dX10_readItem_174 (fun H locs hP hD hS => ?_)
              refine W.eq (g2 := F0 m 177 ls [.int (nI ((riK I) 13 0))]) rfl ?_
              have hR78 : RJ (waJ (riK I) (1)) := RJ_wa hR76
              refine lv_pop hx hb dX10_readItem_177 rfl ?_
              have hw : (waJ (riK I) (1)) = (riJ I) := by first | (unfold riJ; rw [if_pos c53, if_pos c166]; done) | (unfold riJ; rw [if_pos c53, if_neg c166]; done)
              have hP := Eq.mp (congrArg (fun q => va_P E.1 vwCl (WM E a q tr) H) hw) hP
              have hD := Eq.mp (congrArg (fun q => va_D A (WM E a q tr)) hw) hD
              exact ret_v hE rfl hP hD hS dX10_readItem_178
          · refine lv_aload_n hx hb dX10_readItem_135 rfl (lv_at hl 1 rfl) ?_
            refine call_V (As := []) (rest := []) hE (ct_X10_readLeap l E a (ri1 I) tr (RJ_r1 hR) (by rw [hr2]; omega) (fun x hx9 => by rw [hr7]; exact hL2 x hx9)) cm_X10_readLeap (uw mt_L_X10_110 rfl) (gM_0 E a (ri1 I) tr) rfl rfl hP hD hS hl.1 rfl rfl (Nat.le_of_ble_eq_true rfl) ⟨by decide, by decide⟩ dX10_readItem_136 (fun H locs hP hD hS => ?_)
            refine W.eq (g2 := F0 m 139 ls []) rfl ?_
            have hwf : (leJ (ri1 I)) = (riK I) := by unfold riK; rw [if_neg (by omega), if_pos c132]
            have hP := Eq.mp (congrArg (fun q => va_P E.1 vwCl (WM E a q tr) H) hwf) hP
            have hD := Eq.mp (congrArg (fun q => va_D A (WM E a q tr)) hwf) hD
            have hR79 : RJ (riK I) := RJ_K hR
            have hR79d := hR79.2.2.2.2.1
            have hR79f := hR79.2.2.2.2.2
            refine lv_goto (tgt := 160) hx hb dX10_readItem_139 (by decide) ?_
            have hk12 := (RJ_K hR).2.2.2.1
            refine lv_aload_n hx hb dX10_readItem_160 rfl (lv_at hl 1 rfl) ?_
            refine lv_aload_n hx hb dX10_readItem_161 rfl (lv_at hl 1 rfl) ?_
            refine gf_X10_86 hE hP (0) (gM_0 E a (riK I) tr) (v := .int (nI ((riK I) (12) (0)))) rfl dX10_readItem_162 ?_
            refine lv_iconst (v := nI (5)) hx hb dX10_readItem_165 (by decide) ?_
            refine bN_ne (tgt := 173) hx hb (by omega) (by omega) dX10_readItem_166 (by decide) (fun c166 => ?_) (fun c166 => ?_)
            · refine lv_iconst (v := nI (0)) hx hb dX10_readItem_173 (by decide) ?_
              refine call_V (As := [.int (nI (0))]) (rest := []) hE (ct_X10_want l E a (riK I) tr (0) (by omega) hR79) cm_X10_want (uw mt_L_X10_98 rfl) (gM_0 E a (riK I) tr) rfl rfl hP hD hS hl.1 rfl rfl (Nat.le_of_ble_eq_true rfl) ⟨by decide, by decide⟩ dX10_readItem_174 (fun H locs hP hD hS => ?_)
              refine W.eq (g2 := F0 m 177 ls [.int (nI ((riK I) 13 0))]) rfl ?_
              have hR80 : RJ (waJ (riK I) (0)) := RJ_wa hR79
              refine lv_pop hx hb dX10_readItem_177 rfl ?_
              have hw : (waJ (riK I) (0)) = (riJ I) := by first | (unfold riJ; rw [if_pos c53, if_pos c166]; done) | (unfold riJ; rw [if_pos c53, if_neg c166]; done)
              have hP := Eq.mp (congrArg (fun q => va_P E.1 vwCl (WM E a q tr) H) hw) hP
              have hD := Eq.mp (congrArg (fun q => va_D A (WM E a q tr)) hw) hD
              exact ret_v hE rfl hP hD hS dX10_readItem_178
            · refine lv_iconst (v := nI (1)) hx hb dX10_readItem_169 (by decide) ?_
              refine lv_goto (tgt := 174) hx hb dX10_readItem_170 (by decide) ?_
              refine call_V (As := [.int (nI (1))]) (rest := []) hE (ct_X10_want l E a (riK I) tr (1) (by omega) hR79) cm_X10_want (uw mt_L_X10_98 rfl) (gM_0 E a (riK I) tr) rfl rfl hP hD hS hl.1 rfl rfl (Nat.le_of_ble_eq_true rfl) ⟨by decide, by decide⟩ dX10_readItem_174 (fun H locs hP hD hS => ?_)
              refine W.eq (g2 := F0 m 177 ls [.int (nI ((riK I) 13 0))]) rfl ?_
              have hR81 : RJ (waJ (riK I) (1)) := RJ_wa hR79
              refine lv_pop hx hb dX10_readItem_177 rfl ?_
              have hw : (waJ (riK I) (1)) = (riJ I) := by first | (unfold riJ; rw [if_pos c53, if_pos c166]; done) | (unfold riJ; rw [if_pos c53, if_neg c166]; done)
              have hP := Eq.mp (congrArg (fun q => va_P E.1 vwCl (WM E a q tr) H) hw) hP
              have hD := Eq.mp (congrArg (fun q => va_D A (WM E a q tr)) hw) hD
              exact ret_v hE rfl hP hD hS dX10_readItem_178
        · refine lv_bipush (v := nI (6)) hx hb dX10_readItem_61 (by decide) ?_
          refine lv_aload_n hx hb dX10_readItem_63 rfl (lv_at hl 1 rfl) ?_
          refine gf_X10_13 hE hP (0) (gM_0 E a (ri1 I) tr) (v := .ref (a 2)) rfl dX10_readItem_64 ?_
          refine lv_iconst (v := nI (1)) hx hb dX10_readItem_67 (by decide) ?_
          refine ald_i hE hP (2) (gM_2 E a (ri1 I) tr) (by omega) (by decide) (r := nI ((ri1 I) (2) (1))) rfl dX10_readItem_68 ?_
          refine lv_iadd hx hb dX10_readItem_69 ?_
          refine tp (nI_add _ _) ?_
          refine lv_istore_n (lv' := [(2, .int (nI (6 + (ri1 I) (2) (1)))), (1, .int (nI (I (12) (0)))), (0, .ref (a 0))]) hx hb dX10_readItem_70 rfl hl (by decide) rfl (fun ls hl => ?_)
          refine lv_aload_n hx hb dX10_readItem_71 rfl (lv_at hl 2 rfl) ?_
          refine gf_X10_20 hE hP (0) (gM_0 E a (ri1 I) tr) (v := .ref (a 4)) rfl dX10_readItem_72 ?_
          refine lv_iload_n hx hb dX10_readItem_75 rfl (lv_at hl 0 rfl) ?_
          refine lv_aload_n hx hb dX10_readItem_76 rfl (lv_at hl 2 rfl) ?_
          refine lv_iconst (v := nI (0)) hx hb dX10_readItem_77 (by decide) ?_
          refine lv_bipush (v := nI (47)) hx hb dX10_readItem_78 (by decide) ?_
          refine call_V (As := [.int (nI (0)), .int (nI (47))]) (rest := [.int (nI (6 + (ri1 I) (2) (1))), .ref (a 4)]) hE (ct_X10_number l E a (ri1 I) tr (nI (0)) (nI (47)) hR74) cm_X10_number (uw mt_L_X10_102 rfl) (gM_0 E a (ri1 I) tr) rfl rfl hP hD hS hl.1 rfl rfl (Nat.le_of_ble_eq_true rfl) ⟨by decide, by decide⟩ dX10_readItem_80 (fun H locs hP hD hS => ?_)
          refine W.eq (g2 := F0 m 83 ls [.int (nI ((ri1 I) 13 0)), .int (nI (6 + (ri1 I) (2) (1))), .ref (a 4)]) rfl ?_
          have hR82 : RJ (waJ (ri1 I) (nuZ (ri1 I) (nI (0)) (nI (47)))) := RJ_wa hR74
          have hR82d := hR82.2.2.2.2.1
          have hR82f := hR82.2.2.2.2.2
          refine ast_i hE hP hD hS (4) (gM_4 E a (waJ (ri1 I) (nuZ (ri1 I) (nI (0)) (nI (47)))) tr) (by omega) (by decide) (sM_4 E a (waJ (ri1 I) (nuZ (ri1 I) (nI (0)) (nI (47)))) tr (6 + (ri1 I) (2) (1)) ((ri1 I) 13 0)) dX10_readItem_83 (fun H locs hP hD hS => ?_)
          have hwf : (up2 (waJ (ri1 I) (nuZ (ri1 I) (nI (0)) (nI (47)))) (4) (6 + (ri1 I) (2) (1)) ((ri1 I) 13 0)) = (ho1 (ri1 I)) := rfl
          have hP := Eq.mp (congrArg (fun q => va_P E.1 vwCl (WM E a q tr) H) hwf) hP
          have hD := Eq.mp (congrArg (fun q => va_D A (WM E a q tr)) hwf) hD
          have hR83 : RJ (ho1 (ri1 I)) := RJ_h1 (RJ_r1 hR)
          have hR83d := hR83.2.2.2.2.1
          have hR83f := hR83.2.2.2.2.2
          refine lv_aload_n hx hb dX10_readItem_84 rfl (lv_at hl 2 rfl) ?_
          refine gf_X10_23 hE hP (0) (gM_0 E a (ho1 (ri1 I)) tr) (v := .ref (a 5)) rfl dX10_readItem_85 ?_
          refine lv_iload_n hx hb dX10_readItem_88 rfl (lv_at hl 0 rfl) ?_
          refine lv_aload_n hx hb dX10_readItem_89 rfl (lv_at hl 2 rfl) ?_
          refine lv_iconst (v := nI (1)) hx hb dX10_readItem_90 (by decide) ?_
          refine lv_bipush (v := nI (9)) hx hb dX10_readItem_91 (by decide) ?_
          refine call_V (As := [.int (nI (1)), .int (nI (9))]) (rest := [.int (nI (6 + (ri1 I) (2) (1))), .ref (a 5)]) hE (ct_X10_number l E a (ho1 (ri1 I)) tr (nI (1)) (nI (9)) hR83) cm_X10_number (uw mt_L_X10_102 rfl) (gM_0 E a (ho1 (ri1 I)) tr) rfl rfl hP hD hS hl.1 rfl rfl (Nat.le_of_ble_eq_true rfl) ⟨by decide, by decide⟩ dX10_readItem_93 (fun H locs hP hD hS => ?_)
          refine W.eq (g2 := F0 m 96 ls [.int (nI ((ho1 (ri1 I)) 13 0)), .int (nI (6 + (ri1 I) (2) (1))), .ref (a 5)]) rfl ?_
          have hR84 : RJ (waJ (ho1 (ri1 I)) (nuZ (ho1 (ri1 I)) (nI (1)) (nI (9)))) := RJ_wa hR83
          have hR84d := hR84.2.2.2.2.1
          have hR84f := hR84.2.2.2.2.2
          refine ast_i hE hP hD hS (5) (gM_5 E a (waJ (ho1 (ri1 I)) (nuZ (ho1 (ri1 I)) (nI (1)) (nI (9)))) tr) (by omega) (by decide) (sM_5 E a (waJ (ho1 (ri1 I)) (nuZ (ho1 (ri1 I)) (nI (1)) (nI (9)))) tr (6 + (ri1 I) (2) (1)) ((ho1 (ri1 I)) 13 0)) dX10_readItem_96 (fun H locs hP hD hS => ?_)
          have hwf : (up2 (waJ (ho1 (ri1 I)) (nuZ (ho1 (ri1 I)) (nI (1)) (nI (9)))) (5) (6 + (ri1 I) (2) (1)) ((ho1 (ri1 I)) 13 0)) = (ho2 (ri1 I)) := rfl
          have hP := Eq.mp (congrArg (fun q => va_P E.1 vwCl (WM E a q tr) H) hwf) hP
          have hD := Eq.mp (congrArg (fun q => va_D A (WM E a q tr)) hwf) hD
          have hR85 : RJ (ho2 (ri1 I)) := RJ_h2 (RJ_r1 hR)
          have hR85d := hR85.2.2.2.2.1
          have hR85f := hR85.2.2.2.2.2
          refine lv_aload_n hx hb dX10_readItem_97 rfl (lv_at hl 2 rfl) ?_
          refine gf_X10_26 hE hP (0) (gM_0 E a (ho2 (ri1 I)) tr) (v := .ref (a 6)) rfl dX10_readItem_98 ?_
          refine lv_iload_n hx hb dX10_readItem_101 rfl (lv_at hl 0 rfl) ?_
          refine lv_aload_n hx hb dX10_readItem_102 rfl (lv_at hl 2 rfl) ?_
          refine lv_iconst (v := nI (1)) hx hb dX10_readItem_103 (by decide) ?_
          refine lv_bipush (v := nI (9)) hx hb dX10_readItem_104 (by decide) ?_
          refine call_V (As := [.int (nI (1)), .int (nI (9))]) (rest := [.int (nI (6 + (ri1 I) (2) (1))), .ref (a 6)]) hE (ct_X10_number l E a (ho2 (ri1 I)) tr (nI (1)) (nI (9)) hR85) cm_X10_number (uw mt_L_X10_102 rfl) (gM_0 E a (ho2 (ri1 I)) tr) rfl rfl hP hD hS hl.1 rfl rfl (Nat.le_of_ble_eq_true rfl) ⟨by decide, by decide⟩ dX10_readItem_106 (fun H locs hP hD hS => ?_)
          refine W.eq (g2 := F0 m 109 ls [.int (nI ((ho2 (ri1 I)) 13 0)), .int (nI (6 + (ri1 I) (2) (1))), .ref (a 6)]) rfl ?_
          have hR86 : RJ (waJ (ho2 (ri1 I)) (nuZ (ho2 (ri1 I)) (nI (1)) (nI (9)))) := RJ_wa hR85
          have hR86d := hR86.2.2.2.2.1
          have hR86f := hR86.2.2.2.2.2
          refine ast_i hE hP hD hS (6) (gM_6 E a (waJ (ho2 (ri1 I)) (nuZ (ho2 (ri1 I)) (nI (1)) (nI (9)))) tr) (by omega) (by decide) (sM_6 E a (waJ (ho2 (ri1 I)) (nuZ (ho2 (ri1 I)) (nI (1)) (nI (9)))) tr (6 + (ri1 I) (2) (1)) ((ho2 (ri1 I)) 13 0)) dX10_readItem_109 (fun H locs hP hD hS => ?_)
          have hwf : (up2 (waJ (ho2 (ri1 I)) (nuZ (ho2 (ri1 I)) (nI (1)) (nI (9)))) (6) (6 + (ri1 I) (2) (1)) ((ho2 (ri1 I)) 13 0)) = (ho3 (ri1 I)) := rfl
          have hP := Eq.mp (congrArg (fun q => va_P E.1 vwCl (WM E a q tr) H) hwf) hP
          have hD := Eq.mp (congrArg (fun q => va_D A (WM E a q tr)) hwf) hD
          have hR87 : RJ (ho3 (ri1 I)) := RJ_h3 (RJ_r1 hR)
          have hR87d := hR87.2.2.2.2.1
          have hR87f := hR87.2.2.2.2.2
          refine lv_aload_n hx hb dX10_readItem_110 rfl (lv_at hl 2 rfl) ?_
          refine gf_X10_29 hE hP (0) (gM_0 E a (ho3 (ri1 I)) tr) (v := .ref (a 7)) rfl dX10_readItem_111 ?_
          refine lv_iload_n hx hb dX10_readItem_114 rfl (lv_at hl 0 rfl) ?_
          refine lv_iconst (v := nI (0)) hx hb dX10_readItem_115 (by decide) ?_
          refine ast_i hE hP hD hS (7) (gM_7 E a (ho3 (ri1 I)) tr) (by omega) (by decide) (sM_7 E a (ho3 (ri1 I)) tr (6 + (ri1 I) (2) (1)) (0)) dX10_readItem_116 (fun H locs hP hD hS => ?_)
          refine lv_aload_n hx hb dX10_readItem_117 rfl (lv_at hl 2 rfl) ?_
          refine gf_X10_13 hE hP (0) (gM_0 E a (up2 (ho3 (ri1 I)) (7) (6 + (ri1 I) (2) (1)) (0)) tr) (v := .ref (a 2)) rfl dX10_readItem_118 ?_
          refine lv_iconst (v := nI (1)) hx hb dX10_readItem_121 (by decide) ?_
          refine lv_dup2_11 hx hb dX10_readItem_122 rfl rfl ?_
          refine ald_i hE hP (2) (gM_2 E a (up2 (ho3 (ri1 I)) (7) (6 + (ri1 I) (2) (1)) (0)) tr) (by omega) (by decide) (r := nI ((ho3 (ri1 I)) (2) (1))) rfl dX10_readItem_123 ?_
          refine lv_iconst (v := nI (1)) hx hb dX10_readItem_124 (by decide) ?_
          refine lv_iadd hx hb dX10_readItem_125 ?_
          refine tp (nI_add _ _) ?_
          refine ast_i hE hP hD hS (2) (gM_2 E a (up2 (ho3 (ri1 I)) (7) (6 + (ri1 I) (2) (1)) (0)) tr) (by omega) (by decide) (sM_2 E a (up2 (ho3 (ri1 I)) (7) (6 + (ri1 I) (2) (1)) (0)) tr (1) ((ho3 (ri1 I)) (2) (1) + 1)) dX10_readItem_126 (fun H locs hP hD hS => ?_)
          have hwf : (up2 (up2 (ho3 (ri1 I)) (7) (6 + (ri1 I) (2) (1)) (0)) (2) (1) ((ho3 (ri1 I)) (2) (1) + 1)) = (riK I) := by unfold riK; rw [if_pos c58]; rfl
          have hP := Eq.mp (congrArg (fun q => va_P E.1 vwCl (WM E a q tr) H) hwf) hP
          have hD := Eq.mp (congrArg (fun q => va_D A (WM E a q tr)) hwf) hD
          have hR88 : RJ (riK I) := RJ_K hR
          have hR88d := hR88.2.2.2.2.1
          have hR88f := hR88.2.2.2.2.2
          refine lv_goto (tgt := 160) hx hb dX10_readItem_127 (by decide) ?_
          have hk12 := (RJ_K hR).2.2.2.1
          refine lv_aload_n hx hb dX10_readItem_160 rfl (lv_at hl 2 rfl) ?_
          refine lv_aload_n hx hb dX10_readItem_161 rfl (lv_at hl 2 rfl) ?_
          refine gf_X10_86 hE hP (0) (gM_0 E a (riK I) tr) (v := .int (nI ((riK I) (12) (0)))) rfl dX10_readItem_162 ?_
          refine lv_iconst (v := nI (5)) hx hb dX10_readItem_165 (by decide) ?_
          refine bN_ne (tgt := 173) hx hb (by omega) (by omega) dX10_readItem_166 (by decide) (fun c166 => ?_) (fun c166 => ?_)
          · refine lv_iconst (v := nI (0)) hx hb dX10_readItem_173 (by decide) ?_
            refine call_V (As := [.int (nI (0))]) (rest := []) hE (ct_X10_want l E a (riK I) tr (0) (by omega) hR88) cm_X10_want (uw mt_L_X10_98 rfl) (gM_0 E a (riK I) tr) rfl rfl hP hD hS hl.1 rfl rfl (Nat.le_of_ble_eq_true rfl) ⟨by decide, by decide⟩ dX10_readItem_174 (fun H locs hP hD hS => ?_)
            refine W.eq (g2 := F0 m 177 ls [.int (nI ((riK I) 13 0))]) rfl ?_
            have hR89 : RJ (waJ (riK I) (0)) := RJ_wa hR88
            refine lv_pop hx hb dX10_readItem_177 rfl ?_
            have hw : (waJ (riK I) (0)) = (riJ I) := by first | (unfold riJ; rw [if_pos c53, if_pos c166]; done) | (unfold riJ; rw [if_pos c53, if_neg c166]; done)
            have hP := Eq.mp (congrArg (fun q => va_P E.1 vwCl (WM E a q tr) H) hw) hP
            have hD := Eq.mp (congrArg (fun q => va_D A (WM E a q tr)) hw) hD
            exact ret_v hE rfl hP hD hS dX10_readItem_178
          · refine lv_iconst (v := nI (1)) hx hb dX10_readItem_169 (by decide) ?_
            refine lv_goto (tgt := 174) hx hb dX10_readItem_170 (by decide) ?_
            refine call_V (As := [.int (nI (1))]) (rest := []) hE (ct_X10_want l E a (riK I) tr (1) (by omega) hR88) cm_X10_want (uw mt_L_X10_98 rfl) (gM_0 E a (riK I) tr) rfl rfl hP hD hS hl.1 rfl rfl (Nat.le_of_ble_eq_true rfl) ⟨by decide, by decide⟩ dX10_readItem_174 (fun H locs hP hD hS => ?_)
            refine W.eq (g2 := F0 m 177 ls [.int (nI ((riK I) 13 0))]) rfl ?_
            have hR90 : RJ (waJ (riK I) (1)) := RJ_wa hR88
            refine lv_pop hx hb dX10_readItem_177 rfl ?_
            have hw : (waJ (riK I) (1)) = (riJ I) := by first | (unfold riJ; rw [if_pos c53, if_pos c166]; done) | (unfold riJ; rw [if_pos c53, if_neg c166]; done)
            have hP := Eq.mp (congrArg (fun q => va_P E.1 vwCl (WM E a q tr) H) hw) hP
            have hD := Eq.mp (congrArg (fun q => va_D A (WM E a q tr)) hw) hD
            exact ret_v hE rfl hP hD hS dX10_readItem_178
      · have hw : (ri1 I) = (riJ I) := by unfold riJ; rw [if_neg (by omega)]
        have hP := Eq.mp (congrArg (fun q => va_P E.1 vwCl (WM E a q tr) H) hw) hP
        have hD := Eq.mp (congrArg (fun q => va_D A (WM E a q tr)) hw) hD
        exact ret_v hE rfl hP hD hS dX10_readItem_56
    · refine lv_iload_n hx hb dX10_readItem_21 rfl (lv_at hl 0 rfl) ?_
      refine lv_iconst (v := nI (1)) hx hb dX10_readItem_22 (by decide) ?_
      refine bN_eq (tgt := 38) hx hb (by omega) (by omega) dX10_readItem_23 (by decide) (fun c23 => ?_) (fun c23 => ?_)
      · refine lv_iconst (v := nI (1)) hx hb dX10_readItem_38 (by decide) ?_
        refine lv_goto (tgt := 43) hx hb dX10_readItem_39 (by decide) ?_
        refine call_V (As := [.int (nI (1))]) (rest := []) hE (ct_X10_want l E a I tr (1) (by omega) hR) cm_X10_want (uw mt_L_X10_98 rfl) (gM_0 E a I tr) rfl rfl hP hD hS hl.1 rfl rfl (Nat.le_of_ble_eq_true rfl) ⟨by decide, by decide⟩ dX10_readItem_43 (fun H locs hP hD hS => ?_)
        refine W.eq (g2 := F0 m 46 ls [.int (nI (I 13 0))]) rfl ?_
        have hR91 : RJ (waJ I (1)) := RJ_wa hR
        have hwf : (waJ I (1)) = (ri1 I) := by first | (unfold ri1 riZ; rw [if_pos (by omega)]; done) | (unfold ri1 riZ; rw [if_neg (by omega)]; done)
        have hP := Eq.mp (congrArg (fun q => va_P E.1 vwCl (WM E a q tr) H) hwf) hP
        have hD := Eq.mp (congrArg (fun q => va_D A (WM E a q tr)) hwf) hD
        have hR92 : RJ (ri1 I) := RJ_r1 hR
        have hR92d := hR92.2.2.2.2.1
        have hR92f := hR92.2.2.2.2.2
        refine lv_pop hx hb dX10_readItem_46 rfl ?_
        refine lv_aload_n hx hb dX10_readItem_47 rfl (lv_at hl 1 rfl) ?_
        refine gf_X10_92 hE hP (0) (gM_0 E a (ri1 I) tr) (v := .int (rN ((ri1 I) (14) (0)))) rfl dX10_readItem_48 ?_
        refine lv_bipush (v := (-9)) hx hb dX10_readItem_51 (by decide) ?_
        refine bQ9_eq (tgt := 57) hx hb (by omega) dX10_readItem_53 (by decide) (fun c53 => ?_) (fun c53 => ?_)
        · have hok := ri_ok c53
          refine lv_iload_n hx hb dX10_readItem_57 rfl (lv_at hl 0 rfl) ?_
          refine bZ_ne (tgt := 130) hx hb (by omega) dX10_readItem_58 (by decide) (fun c58 => ?_) (fun c58 => ?_)
          · refine lv_iload_n hx hb dX10_readItem_130 rfl (lv_at hl 0 rfl) ?_
            refine lv_iconst (v := nI (1)) hx hb dX10_readItem_131 (by decide) ?_
            refine bN_ne (tgt := 142) hx hb (by omega) (by omega) dX10_readItem_132 (by decide) (fun c132 => ?_) (fun c132 => ?_)
            · refine lv_aload_n hx hb dX10_readItem_142 rfl (lv_at hl 1 rfl) ?_
              refine gf_X10_17 hE hP (0) (gM_0 E a (ri1 I) tr) (v := .ref (a 3)) rfl dX10_readItem_143 ?_
              refine lv_iconst (v := nI (1)) hx hb dX10_readItem_146 (by decide) ?_
              refine lv_aload_n hx hb dX10_readItem_147 rfl (lv_at hl 1 rfl) ?_
              refine lv_iconst (v := nI (0)) hx hb dX10_readItem_148 (by decide) ?_
              refine lv_bipush (v := nI (9)) hx hb dX10_readItem_149 (by decide) ?_
              refine call_V (As := [.int (nI (0)), .int (nI (9))]) (rest := [.int (nI (1)), .ref (a 3)]) hE (ct_X10_number l E a (ri1 I) tr (nI (0)) (nI (9)) hR92) cm_X10_number (uw mt_L_X10_102 rfl) (gM_0 E a (ri1 I) tr) rfl rfl hP hD hS hl.1 rfl rfl (Nat.le_of_ble_eq_true rfl) ⟨by decide, by decide⟩ dX10_readItem_151 (fun H locs hP hD hS => ?_)
              refine W.eq (g2 := F0 m 154 ls [.int (nI ((ri1 I) 13 0)), .int (nI (1)), .ref (a 3)]) rfl ?_
              have hR93 : RJ (waJ (ri1 I) (nuZ (ri1 I) (nI (0)) (nI (9)))) := RJ_wa hR92
              have hR93d := hR93.2.2.2.2.1
              have hR93f := hR93.2.2.2.2.2
              refine ast_i hE hP hD hS (3) (gM_3 E a (waJ (ri1 I) (nuZ (ri1 I) (nI (0)) (nI (9)))) tr) (by omega) (by decide) (sM_3 E a (waJ (ri1 I) (nuZ (ri1 I) (nI (0)) (nI (9)))) tr (1) ((ri1 I) 13 0)) dX10_readItem_154 (fun H locs hP hD hS => ?_)
              refine lv_aload_n hx hb dX10_readItem_155 rfl (lv_at hl 1 rfl) ?_
              refine lv_iconst (v := nI (1)) hx hb dX10_readItem_156 (by decide) ?_
              refine pf_X10_106 hE hP hD hS (0) (gM_0 E a (up2 (waJ (ri1 I) (nuZ (ri1 I) (nI (0)) (nI (9)))) (3) (1) ((ri1 I) 13 0)) tr) (by decide) (by decide) (Nat.le_of_ble_eq_true rfl) (sM_0_16 E a (up2 (waJ (ri1 I) (nuZ (ri1 I) (nI (0)) (nI (9)))) (3) (1) ((ri1 I) 13 0)) tr (1)) dX10_readItem_157 (fun H locs hP hD hS => ?_)
              have hwf : (up2 (up2 (waJ (ri1 I) (nuZ (ri1 I) (nI (0)) (nI (9)))) (3) (1) ((ri1 I) 13 0)) (15) (0) (1)) = (riK I) := by unfold riK; rw [if_neg (by omega), if_neg c132]; rfl
              have hP := Eq.mp (congrArg (fun q => va_P E.1 vwCl (WM E a q tr) H) hwf) hP
              have hD := Eq.mp (congrArg (fun q => va_D A (WM E a q tr)) hwf) hD
              have hR94 : RJ (riK I) := RJ_K hR
              have hR94d := hR94.2.2.2.2.1
              have hR94f := hR94.2.2.2.2.2
              have hk12 := (RJ_K hR).2.2.2.1
              refine lv_aload_n hx hb dX10_readItem_160 rfl (lv_at hl 1 rfl) ?_
              refine lv_aload_n hx hb dX10_readItem_161 rfl (lv_at hl 1 rfl) ?_
              refine gf_X10_86 hE hP (0) (gM_0 E a (riK I) tr) (v := .int (nI ((riK I) (12) (0)))) rfl dX10_readItem_162 ?_
              refine lv_iconst (v := nI (5)) hx hb dX10_readItem_165 (by decide) ?_
              refine bN_ne (tgt := 173) hx hb (by omega) (by omega) dX10_readItem_166 (by decide) (fun c166 => ?_) (fun c166 => ?_)
              · refine lv_iconst (v := nI (0)) hx hb dX10_readItem_173 (by decide) ?_
                refine call_V (As := [.int (nI (0))]) (rest := []) hE (ct_X10_want l E a (riK I) tr (0) (by omega) hR94) cm_X10_want (uw mt_L_X10_98 rfl) (gM_0 E a (riK I) tr) rfl rfl hP hD hS hl.1 rfl rfl (Nat.le_of_ble_eq_true rfl) ⟨by decide, by decide⟩ dX10_readItem_174 (fun H locs hP hD hS => ?_)
                refine W.eq (g2 := F0 m 177 ls [.int (nI ((riK I) 13 0))]) rfl ?_
                have hR95 : RJ (waJ (riK I) (0)) := RJ_wa hR94
                refine lv_pop hx hb dX10_readItem_177 rfl ?_
                have hw : (waJ (riK I) (0)) = (riJ I) := by first | (unfold riJ; rw [if_pos c53, if_pos c166]; done) | (unfold riJ; rw [if_pos c53, if_neg c166]; done)
                have hP := Eq.mp (congrArg (fun q => va_P E.1 vwCl (WM E a q tr) H) hw) hP
                have hD := Eq.mp (congrArg (fun q => va_D A (WM E a q tr)) hw) hD
                exact ret_v hE rfl hP hD hS dX10_readItem_178
              · refine lv_iconst (v := nI (1)) hx hb dX10_readItem_169 (by decide) ?_
                refine lv_goto (tgt := 174) hx hb dX10_readItem_170 (by decide) ?_
                refine call_V (As := [.int (nI (1))]) (rest := []) hE (ct_X10_want l E a (riK I) tr (1) (by omega) hR94) cm_X10_want (uw mt_L_X10_98 rfl) (gM_0 E a (riK I) tr) rfl rfl hP hD hS hl.1 rfl rfl (Nat.le_of_ble_eq_true rfl) ⟨by decide, by decide⟩ dX10_readItem_174 (fun H locs hP hD hS => ?_)
                refine W.eq (g2 := F0 m 177 ls [.int (nI ((riK I) 13 0))]) rfl ?_
                have hR96 : RJ (waJ (riK I) (1)) := RJ_wa hR94
                refine lv_pop hx hb dX10_readItem_177 rfl ?_
                have hw : (waJ (riK I) (1)) = (riJ I) := by first | (unfold riJ; rw [if_pos c53, if_pos c166]; done) | (unfold riJ; rw [if_pos c53, if_neg c166]; done)
                have hP := Eq.mp (congrArg (fun q => va_P E.1 vwCl (WM E a q tr) H) hw) hP
                have hD := Eq.mp (congrArg (fun q => va_D A (WM E a q tr)) hw) hD
                exact ret_v hE rfl hP hD hS dX10_readItem_178
            · refine lv_aload_n hx hb dX10_readItem_135 rfl (lv_at hl 1 rfl) ?_
              refine call_V (As := []) (rest := []) hE (ct_X10_readLeap l E a (ri1 I) tr (RJ_r1 hR) (by rw [hr2]; omega) (fun x hx9 => by rw [hr7]; exact hL2 x hx9)) cm_X10_readLeap (uw mt_L_X10_110 rfl) (gM_0 E a (ri1 I) tr) rfl rfl hP hD hS hl.1 rfl rfl (Nat.le_of_ble_eq_true rfl) ⟨by decide, by decide⟩ dX10_readItem_136 (fun H locs hP hD hS => ?_)
              refine W.eq (g2 := F0 m 139 ls []) rfl ?_
              have hwf : (leJ (ri1 I)) = (riK I) := by unfold riK; rw [if_neg (by omega), if_pos c132]
              have hP := Eq.mp (congrArg (fun q => va_P E.1 vwCl (WM E a q tr) H) hwf) hP
              have hD := Eq.mp (congrArg (fun q => va_D A (WM E a q tr)) hwf) hD
              have hR97 : RJ (riK I) := RJ_K hR
              have hR97d := hR97.2.2.2.2.1
              have hR97f := hR97.2.2.2.2.2
              refine lv_goto (tgt := 160) hx hb dX10_readItem_139 (by decide) ?_
              have hk12 := (RJ_K hR).2.2.2.1
              refine lv_aload_n hx hb dX10_readItem_160 rfl (lv_at hl 1 rfl) ?_
              refine lv_aload_n hx hb dX10_readItem_161 rfl (lv_at hl 1 rfl) ?_
              refine gf_X10_86 hE hP (0) (gM_0 E a (riK I) tr) (v := .int (nI ((riK I) (12) (0)))) rfl dX10_readItem_162 ?_
              refine lv_iconst (v := nI (5)) hx hb dX10_readItem_165 (by decide) ?_
              refine bN_ne (tgt := 173) hx hb (by omega) (by omega) dX10_readItem_166 (by decide) (fun c166 => ?_) (fun c166 => ?_)
              · refine lv_iconst (v := nI (0)) hx hb dX10_readItem_173 (by decide) ?_
                refine call_V (As := [.int (nI (0))]) (rest := []) hE (ct_X10_want l E a (riK I) tr (0) (by omega) hR97) cm_X10_want (uw mt_L_X10_98 rfl) (gM_0 E a (riK I) tr) rfl rfl hP hD hS hl.1 rfl rfl (Nat.le_of_ble_eq_true rfl) ⟨by decide, by decide⟩ dX10_readItem_174 (fun H locs hP hD hS => ?_)
                refine W.eq (g2 := F0 m 177 ls [.int (nI ((riK I) 13 0))]) rfl ?_
                have hR98 : RJ (waJ (riK I) (0)) := RJ_wa hR97
                refine lv_pop hx hb dX10_readItem_177 rfl ?_
                have hw : (waJ (riK I) (0)) = (riJ I) := by first | (unfold riJ; rw [if_pos c53, if_pos c166]; done) | (unfold riJ; rw [if_pos c53, if_neg c166]; done)
                have hP := Eq.mp (congrArg (fun q => va_P E.1 vwCl (WM E a q tr) H) hw) hP
                have hD := Eq.mp (congrArg (fun q => va_D A (WM E a q tr)) hw) hD
                exact ret_v hE rfl hP hD hS dX10_readItem_178
              · refine lv_iconst (v := nI (1)) hx hb dX10_readItem_169 (by decide) ?_
                refine lv_goto (tgt := 174) hx hb dX10_readItem_170 (by decide) ?_
                refine call_V (As := [.int (nI (1))]) (rest := []) hE (ct_X10_want l E a (riK I) tr (1) (by omega) hR97) cm_X10_want (uw mt_L_X10_98 rfl) (gM_0 E a (riK I) tr) rfl rfl hP hD hS hl.1 rfl rfl (Nat.le_of_ble_eq_true rfl) ⟨by decide, by decide⟩ dX10_readItem_174 (fun H locs hP hD hS => ?_)
                refine W.eq (g2 := F0 m 177 ls [.int (nI ((riK I) 13 0))]) rfl ?_
                have hR99 : RJ (waJ (riK I) (1)) := RJ_wa hR97
                refine lv_pop hx hb dX10_readItem_177 rfl ?_
                have hw : (waJ (riK I) (1)) = (riJ I) := by first | (unfold riJ; rw [if_pos c53, if_pos c166]; done) | (unfold riJ; rw [if_pos c53, if_neg c166]; done)
                have hP := Eq.mp (congrArg (fun q => va_P E.1 vwCl (WM E a q tr) H) hw) hP
                have hD := Eq.mp (congrArg (fun q => va_D A (WM E a q tr)) hw) hD
                exact ret_v hE rfl hP hD hS dX10_readItem_178
          · refine lv_bipush (v := nI (6)) hx hb dX10_readItem_61 (by decide) ?_
            refine lv_aload_n hx hb dX10_readItem_63 rfl (lv_at hl 1 rfl) ?_
            refine gf_X10_13 hE hP (0) (gM_0 E a (ri1 I) tr) (v := .ref (a 2)) rfl dX10_readItem_64 ?_
            refine lv_iconst (v := nI (1)) hx hb dX10_readItem_67 (by decide) ?_
            refine ald_i hE hP (2) (gM_2 E a (ri1 I) tr) (by omega) (by decide) (r := nI ((ri1 I) (2) (1))) rfl dX10_readItem_68 ?_
            refine lv_iadd hx hb dX10_readItem_69 ?_
            refine tp (nI_add _ _) ?_
            refine lv_istore_n (lv' := [(2, .int (nI (6 + (ri1 I) (2) (1)))), (1, .int (nI (I (12) (0)))), (0, .ref (a 0))]) hx hb dX10_readItem_70 rfl hl (by decide) rfl (fun ls hl => ?_)
            refine lv_aload_n hx hb dX10_readItem_71 rfl (lv_at hl 2 rfl) ?_
            refine gf_X10_20 hE hP (0) (gM_0 E a (ri1 I) tr) (v := .ref (a 4)) rfl dX10_readItem_72 ?_
            refine lv_iload_n hx hb dX10_readItem_75 rfl (lv_at hl 0 rfl) ?_
            refine lv_aload_n hx hb dX10_readItem_76 rfl (lv_at hl 2 rfl) ?_
            refine lv_iconst (v := nI (0)) hx hb dX10_readItem_77 (by decide) ?_
            refine lv_bipush (v := nI (47)) hx hb dX10_readItem_78 (by decide) ?_
            refine call_V (As := [.int (nI (0)), .int (nI (47))]) (rest := [.int (nI (6 + (ri1 I) (2) (1))), .ref (a 4)]) hE (ct_X10_number l E a (ri1 I) tr (nI (0)) (nI (47)) hR92) cm_X10_number (uw mt_L_X10_102 rfl) (gM_0 E a (ri1 I) tr) rfl rfl hP hD hS hl.1 rfl rfl (Nat.le_of_ble_eq_true rfl) ⟨by decide, by decide⟩ dX10_readItem_80 (fun H locs hP hD hS => ?_)
            refine W.eq (g2 := F0 m 83 ls [.int (nI ((ri1 I) 13 0)), .int (nI (6 + (ri1 I) (2) (1))), .ref (a 4)]) rfl ?_
            have hR100 : RJ (waJ (ri1 I) (nuZ (ri1 I) (nI (0)) (nI (47)))) := RJ_wa hR92
            have hR100d := hR100.2.2.2.2.1
            have hR100f := hR100.2.2.2.2.2
            refine ast_i hE hP hD hS (4) (gM_4 E a (waJ (ri1 I) (nuZ (ri1 I) (nI (0)) (nI (47)))) tr) (by omega) (by decide) (sM_4 E a (waJ (ri1 I) (nuZ (ri1 I) (nI (0)) (nI (47)))) tr (6 + (ri1 I) (2) (1)) ((ri1 I) 13 0)) dX10_readItem_83 (fun H locs hP hD hS => ?_)
            have hwf : (up2 (waJ (ri1 I) (nuZ (ri1 I) (nI (0)) (nI (47)))) (4) (6 + (ri1 I) (2) (1)) ((ri1 I) 13 0)) = (ho1 (ri1 I)) := rfl
            have hP := Eq.mp (congrArg (fun q => va_P E.1 vwCl (WM E a q tr) H) hwf) hP
            have hD := Eq.mp (congrArg (fun q => va_D A (WM E a q tr)) hwf) hD
            have hR101 : RJ (ho1 (ri1 I)) := RJ_h1 (RJ_r1 hR)
            have hR101d := hR101.2.2.2.2.1
            have hR101f := hR101.2.2.2.2.2
            refine lv_aload_n hx hb dX10_readItem_84 rfl (lv_at hl 2 rfl) ?_
            refine gf_X10_23 hE hP (0) (gM_0 E a (ho1 (ri1 I)) tr) (v := .ref (a 5)) rfl dX10_readItem_85 ?_
            refine lv_iload_n hx hb dX10_readItem_88 rfl (lv_at hl 0 rfl) ?_
            refine lv_aload_n hx hb dX10_readItem_89 rfl (lv_at hl 2 rfl) ?_
            refine lv_iconst (v := nI (1)) hx hb dX10_readItem_90 (by decide) ?_
            refine lv_bipush (v := nI (9)) hx hb dX10_readItem_91 (by decide) ?_
            refine call_V (As := [.int (nI (1)), .int (nI (9))]) (rest := [.int (nI (6 + (ri1 I) (2) (1))), .ref (a 5)]) hE (ct_X10_number l E a (ho1 (ri1 I)) tr (nI (1)) (nI (9)) hR101) cm_X10_number (uw mt_L_X10_102 rfl) (gM_0 E a (ho1 (ri1 I)) tr) rfl rfl hP hD hS hl.1 rfl rfl (Nat.le_of_ble_eq_true rfl) ⟨by decide, by decide⟩ dX10_readItem_93 (fun H locs hP hD hS => ?_)
            refine W.eq (g2 := F0 m 96 ls [.int (nI ((ho1 (ri1 I)) 13 0)), .int (nI (6 + (ri1 I) (2) (1))), .ref (a 5)]) rfl ?_
            have hR102 : RJ (waJ (ho1 (ri1 I)) (nuZ (ho1 (ri1 I)) (nI (1)) (nI (9)))) := RJ_wa hR101
            have hR102d := hR102.2.2.2.2.1
            have hR102f := hR102.2.2.2.2.2
            refine ast_i hE hP hD hS (5) (gM_5 E a (waJ (ho1 (ri1 I)) (nuZ (ho1 (ri1 I)) (nI (1)) (nI (9)))) tr) (by omega) (by decide) (sM_5 E a (waJ (ho1 (ri1 I)) (nuZ (ho1 (ri1 I)) (nI (1)) (nI (9)))) tr (6 + (ri1 I) (2) (1)) ((ho1 (ri1 I)) 13 0)) dX10_readItem_96 (fun H locs hP hD hS => ?_)
            have hwf : (up2 (waJ (ho1 (ri1 I)) (nuZ (ho1 (ri1 I)) (nI (1)) (nI (9)))) (5) (6 + (ri1 I) (2) (1)) ((ho1 (ri1 I)) 13 0)) = (ho2 (ri1 I)) := rfl
            have hP := Eq.mp (congrArg (fun q => va_P E.1 vwCl (WM E a q tr) H) hwf) hP
            have hD := Eq.mp (congrArg (fun q => va_D A (WM E a q tr)) hwf) hD
            have hR103 : RJ (ho2 (ri1 I)) := RJ_h2 (RJ_r1 hR)
            have hR103d := hR103.2.2.2.2.1
            have hR103f := hR103.2.2.2.2.2
            refine lv_aload_n hx hb dX10_readItem_97 rfl (lv_at hl 2 rfl) ?_
            refine gf_X10_26 hE hP (0) (gM_0 E a (ho2 (ri1 I)) tr) (v := .ref (a 6)) rfl dX10_readItem_98 ?_
            refine lv_iload_n hx hb dX10_readItem_101 rfl (lv_at hl 0 rfl) ?_
            refine lv_aload_n hx hb dX10_readItem_102 rfl (lv_at hl 2 rfl) ?_
            refine lv_iconst (v := nI (1)) hx hb dX10_readItem_103 (by decide) ?_
            refine lv_bipush (v := nI (9)) hx hb dX10_readItem_104 (by decide) ?_
            refine call_V (As := [.int (nI (1)), .int (nI (9))]) (rest := [.int (nI (6 + (ri1 I) (2) (1))), .ref (a 6)]) hE (ct_X10_number l E a (ho2 (ri1 I)) tr (nI (1)) (nI (9)) hR103) cm_X10_number (uw mt_L_X10_102 rfl) (gM_0 E a (ho2 (ri1 I)) tr) rfl rfl hP hD hS hl.1 rfl rfl (Nat.le_of_ble_eq_true rfl) ⟨by decide, by decide⟩ dX10_readItem_106 (fun H locs hP hD hS => ?_)
            refine W.eq (g2 := F0 m 109 ls [.int (nI ((ho2 (ri1 I)) 13 0)), .int (nI (6 + (ri1 I) (2) (1))), .ref (a 6)]) rfl ?_
            have hR104 : RJ (waJ (ho2 (ri1 I)) (nuZ (ho2 (ri1 I)) (nI (1)) (nI (9)))) := RJ_wa hR103
            have hR104d := hR104.2.2.2.2.1
            have hR104f := hR104.2.2.2.2.2
            refine ast_i hE hP hD hS (6) (gM_6 E a (waJ (ho2 (ri1 I)) (nuZ (ho2 (ri1 I)) (nI (1)) (nI (9)))) tr) (by omega) (by decide) (sM_6 E a (waJ (ho2 (ri1 I)) (nuZ (ho2 (ri1 I)) (nI (1)) (nI (9)))) tr (6 + (ri1 I) (2) (1)) ((ho2 (ri1 I)) 13 0)) dX10_readItem_109 (fun H locs hP hD hS => ?_)
            have hwf : (up2 (waJ (ho2 (ri1 I)) (nuZ (ho2 (ri1 I)) (nI (1)) (nI (9)))) (6) (6 + (ri1 I) (2) (1)) ((ho2 (ri1 I)) 13 0)) = (ho3 (ri1 I)) := rfl
            have hP := Eq.mp (congrArg (fun q => va_P E.1 vwCl (WM E a q tr) H) hwf) hP
            have hD := Eq.mp (congrArg (fun q => va_D A (WM E a q tr)) hwf) hD
            have hR105 : RJ (ho3 (ri1 I)) := RJ_h3 (RJ_r1 hR)
            have hR105d := hR105.2.2.2.2.1
            have hR105f := hR105.2.2.2.2.2
            refine lv_aload_n hx hb dX10_readItem_110 rfl (lv_at hl 2 rfl) ?_
            refine gf_X10_29 hE hP (0) (gM_0 E a (ho3 (ri1 I)) tr) (v := .ref (a 7)) rfl dX10_readItem_111 ?_
            refine lv_iload_n hx hb dX10_readItem_114 rfl (lv_at hl 0 rfl) ?_
            refine lv_iconst (v := nI (0)) hx hb dX10_readItem_115 (by decide) ?_
            refine ast_i hE hP hD hS (7) (gM_7 E a (ho3 (ri1 I)) tr) (by omega) (by decide) (sM_7 E a (ho3 (ri1 I)) tr (6 + (ri1 I) (2) (1)) (0)) dX10_readItem_116 (fun H locs hP hD hS => ?_)
            refine lv_aload_n hx hb dX10_readItem_117 rfl (lv_at hl 2 rfl) ?_
            refine gf_X10_13 hE hP (0) (gM_0 E a (up2 (ho3 (ri1 I)) (7) (6 + (ri1 I) (2) (1)) (0)) tr) (v := .ref (a 2)) rfl dX10_readItem_118 ?_
            refine lv_iconst (v := nI (1)) hx hb dX10_readItem_121 (by decide) ?_
            refine lv_dup2_11 hx hb dX10_readItem_122 rfl rfl ?_
            refine ald_i hE hP (2) (gM_2 E a (up2 (ho3 (ri1 I)) (7) (6 + (ri1 I) (2) (1)) (0)) tr) (by omega) (by decide) (r := nI ((ho3 (ri1 I)) (2) (1))) rfl dX10_readItem_123 ?_
            refine lv_iconst (v := nI (1)) hx hb dX10_readItem_124 (by decide) ?_
            refine lv_iadd hx hb dX10_readItem_125 ?_
            refine tp (nI_add _ _) ?_
            refine ast_i hE hP hD hS (2) (gM_2 E a (up2 (ho3 (ri1 I)) (7) (6 + (ri1 I) (2) (1)) (0)) tr) (by omega) (by decide) (sM_2 E a (up2 (ho3 (ri1 I)) (7) (6 + (ri1 I) (2) (1)) (0)) tr (1) ((ho3 (ri1 I)) (2) (1) + 1)) dX10_readItem_126 (fun H locs hP hD hS => ?_)
            have hwf : (up2 (up2 (ho3 (ri1 I)) (7) (6 + (ri1 I) (2) (1)) (0)) (2) (1) ((ho3 (ri1 I)) (2) (1) + 1)) = (riK I) := by unfold riK; rw [if_pos c58]; rfl
            have hP := Eq.mp (congrArg (fun q => va_P E.1 vwCl (WM E a q tr) H) hwf) hP
            have hD := Eq.mp (congrArg (fun q => va_D A (WM E a q tr)) hwf) hD
            have hR106 : RJ (riK I) := RJ_K hR
            have hR106d := hR106.2.2.2.2.1
            have hR106f := hR106.2.2.2.2.2
            refine lv_goto (tgt := 160) hx hb dX10_readItem_127 (by decide) ?_
            have hk12 := (RJ_K hR).2.2.2.1
            refine lv_aload_n hx hb dX10_readItem_160 rfl (lv_at hl 2 rfl) ?_
            refine lv_aload_n hx hb dX10_readItem_161 rfl (lv_at hl 2 rfl) ?_
            refine gf_X10_86 hE hP (0) (gM_0 E a (riK I) tr) (v := .int (nI ((riK I) (12) (0)))) rfl dX10_readItem_162 ?_
            refine lv_iconst (v := nI (5)) hx hb dX10_readItem_165 (by decide) ?_
            refine bN_ne (tgt := 173) hx hb (by omega) (by omega) dX10_readItem_166 (by decide) (fun c166 => ?_) (fun c166 => ?_)
            · refine lv_iconst (v := nI (0)) hx hb dX10_readItem_173 (by decide) ?_
              refine call_V (As := [.int (nI (0))]) (rest := []) hE (ct_X10_want l E a (riK I) tr (0) (by omega) hR106) cm_X10_want (uw mt_L_X10_98 rfl) (gM_0 E a (riK I) tr) rfl rfl hP hD hS hl.1 rfl rfl (Nat.le_of_ble_eq_true rfl) ⟨by decide, by decide⟩ dX10_readItem_174 (fun H locs hP hD hS => ?_)
              refine W.eq (g2 := F0 m 177 ls [.int (nI ((riK I) 13 0))]) rfl ?_
              have hR107 : RJ (waJ (riK I) (0)) := RJ_wa hR106
              refine lv_pop hx hb dX10_readItem_177 rfl ?_
              have hw : (waJ (riK I) (0)) = (riJ I) := by first | (unfold riJ; rw [if_pos c53, if_pos c166]; done) | (unfold riJ; rw [if_pos c53, if_neg c166]; done)
              have hP := Eq.mp (congrArg (fun q => va_P E.1 vwCl (WM E a q tr) H) hw) hP
              have hD := Eq.mp (congrArg (fun q => va_D A (WM E a q tr)) hw) hD
              exact ret_v hE rfl hP hD hS dX10_readItem_178
            · refine lv_iconst (v := nI (1)) hx hb dX10_readItem_169 (by decide) ?_
              refine lv_goto (tgt := 174) hx hb dX10_readItem_170 (by decide) ?_
              refine call_V (As := [.int (nI (1))]) (rest := []) hE (ct_X10_want l E a (riK I) tr (1) (by omega) hR106) cm_X10_want (uw mt_L_X10_98 rfl) (gM_0 E a (riK I) tr) rfl rfl hP hD hS hl.1 rfl rfl (Nat.le_of_ble_eq_true rfl) ⟨by decide, by decide⟩ dX10_readItem_174 (fun H locs hP hD hS => ?_)
              refine W.eq (g2 := F0 m 177 ls [.int (nI ((riK I) 13 0))]) rfl ?_
              have hR108 : RJ (waJ (riK I) (1)) := RJ_wa hR106
              refine lv_pop hx hb dX10_readItem_177 rfl ?_
              have hw : (waJ (riK I) (1)) = (riJ I) := by first | (unfold riJ; rw [if_pos c53, if_pos c166]; done) | (unfold riJ; rw [if_pos c53, if_neg c166]; done)
              have hP := Eq.mp (congrArg (fun q => va_P E.1 vwCl (WM E a q tr) H) hw) hP
              have hD := Eq.mp (congrArg (fun q => va_D A (WM E a q tr)) hw) hD
              exact ret_v hE rfl hP hD hS dX10_readItem_178
        · have hw : (ri1 I) = (riJ I) := by unfold riJ; rw [if_neg (by omega)]
          have hP := Eq.mp (congrArg (fun q => va_P E.1 vwCl (WM E a q tr) H) hw) hP
          have hD := Eq.mp (congrArg (fun q => va_D A (WM E a q tr)) hw) hD
          exact ret_v hE rfl hP hD hS dX10_readItem_56
      · refine lv_iload_n hx hb dX10_readItem_26 rfl (lv_at hl 0 rfl) ?_
        refine lv_iconst (v := nI (2)) hx hb dX10_readItem_27 (by decide) ?_
        refine bN_ne (tgt := 42) hx hb (by omega) (by omega) dX10_readItem_28 (by decide) (fun c28 => ?_) (fun c28 => ?_)
        · refine lv_iconst (v := nI (0)) hx hb dX10_readItem_42 (by decide) ?_
          refine call_V (As := [.int (nI (0))]) (rest := []) hE (ct_X10_want l E a I tr (0) (by omega) hR) cm_X10_want (uw mt_L_X10_98 rfl) (gM_0 E a I tr) rfl rfl hP hD hS hl.1 rfl rfl (Nat.le_of_ble_eq_true rfl) ⟨by decide, by decide⟩ dX10_readItem_43 (fun H locs hP hD hS => ?_)
          refine W.eq (g2 := F0 m 46 ls [.int (nI (I 13 0))]) rfl ?_
          have hR109 : RJ (waJ I (0)) := RJ_wa hR
          have hwf : (waJ I (0)) = (ri1 I) := by first | (unfold ri1 riZ; rw [if_pos (by omega)]; done) | (unfold ri1 riZ; rw [if_neg (by omega)]; done)
          have hP := Eq.mp (congrArg (fun q => va_P E.1 vwCl (WM E a q tr) H) hwf) hP
          have hD := Eq.mp (congrArg (fun q => va_D A (WM E a q tr)) hwf) hD
          have hR110 : RJ (ri1 I) := RJ_r1 hR
          have hR110d := hR110.2.2.2.2.1
          have hR110f := hR110.2.2.2.2.2
          refine lv_pop hx hb dX10_readItem_46 rfl ?_
          refine lv_aload_n hx hb dX10_readItem_47 rfl (lv_at hl 1 rfl) ?_
          refine gf_X10_92 hE hP (0) (gM_0 E a (ri1 I) tr) (v := .int (rN ((ri1 I) (14) (0)))) rfl dX10_readItem_48 ?_
          refine lv_bipush (v := (-9)) hx hb dX10_readItem_51 (by decide) ?_
          refine bQ9_eq (tgt := 57) hx hb (by omega) dX10_readItem_53 (by decide) (fun c53 => ?_) (fun c53 => ?_)
          · have hok := ri_ok c53
            refine lv_iload_n hx hb dX10_readItem_57 rfl (lv_at hl 0 rfl) ?_
            refine bZ_ne (tgt := 130) hx hb (by omega) dX10_readItem_58 (by decide) (fun c58 => ?_) (fun c58 => ?_)
            · refine lv_iload_n hx hb dX10_readItem_130 rfl (lv_at hl 0 rfl) ?_
              refine lv_iconst (v := nI (1)) hx hb dX10_readItem_131 (by decide) ?_
              refine bN_ne (tgt := 142) hx hb (by omega) (by omega) dX10_readItem_132 (by decide) (fun c132 => ?_) (fun c132 => ?_)
              · refine lv_aload_n hx hb dX10_readItem_142 rfl (lv_at hl 1 rfl) ?_
                refine gf_X10_17 hE hP (0) (gM_0 E a (ri1 I) tr) (v := .ref (a 3)) rfl dX10_readItem_143 ?_
                refine lv_iconst (v := nI (1)) hx hb dX10_readItem_146 (by decide) ?_
                refine lv_aload_n hx hb dX10_readItem_147 rfl (lv_at hl 1 rfl) ?_
                refine lv_iconst (v := nI (0)) hx hb dX10_readItem_148 (by decide) ?_
                refine lv_bipush (v := nI (9)) hx hb dX10_readItem_149 (by decide) ?_
                refine call_V (As := [.int (nI (0)), .int (nI (9))]) (rest := [.int (nI (1)), .ref (a 3)]) hE (ct_X10_number l E a (ri1 I) tr (nI (0)) (nI (9)) hR110) cm_X10_number (uw mt_L_X10_102 rfl) (gM_0 E a (ri1 I) tr) rfl rfl hP hD hS hl.1 rfl rfl (Nat.le_of_ble_eq_true rfl) ⟨by decide, by decide⟩ dX10_readItem_151 (fun H locs hP hD hS => ?_)
                refine W.eq (g2 := F0 m 154 ls [.int (nI ((ri1 I) 13 0)), .int (nI (1)), .ref (a 3)]) rfl ?_
                have hR111 : RJ (waJ (ri1 I) (nuZ (ri1 I) (nI (0)) (nI (9)))) := RJ_wa hR110
                have hR111d := hR111.2.2.2.2.1
                have hR111f := hR111.2.2.2.2.2
                refine ast_i hE hP hD hS (3) (gM_3 E a (waJ (ri1 I) (nuZ (ri1 I) (nI (0)) (nI (9)))) tr) (by omega) (by decide) (sM_3 E a (waJ (ri1 I) (nuZ (ri1 I) (nI (0)) (nI (9)))) tr (1) ((ri1 I) 13 0)) dX10_readItem_154 (fun H locs hP hD hS => ?_)
                refine lv_aload_n hx hb dX10_readItem_155 rfl (lv_at hl 1 rfl) ?_
                refine lv_iconst (v := nI (1)) hx hb dX10_readItem_156 (by decide) ?_
                refine pf_X10_106 hE hP hD hS (0) (gM_0 E a (up2 (waJ (ri1 I) (nuZ (ri1 I) (nI (0)) (nI (9)))) (3) (1) ((ri1 I) 13 0)) tr) (by decide) (by decide) (Nat.le_of_ble_eq_true rfl) (sM_0_16 E a (up2 (waJ (ri1 I) (nuZ (ri1 I) (nI (0)) (nI (9)))) (3) (1) ((ri1 I) 13 0)) tr (1)) dX10_readItem_157 (fun H locs hP hD hS => ?_)
                have hwf : (up2 (up2 (waJ (ri1 I) (nuZ (ri1 I) (nI (0)) (nI (9)))) (3) (1) ((ri1 I) 13 0)) (15) (0) (1)) = (riK I) := by unfold riK; rw [if_neg (by omega), if_neg c132]; rfl
                have hP := Eq.mp (congrArg (fun q => va_P E.1 vwCl (WM E a q tr) H) hwf) hP
                have hD := Eq.mp (congrArg (fun q => va_D A (WM E a q tr)) hwf) hD
                have hR112 : RJ (riK I) := RJ_K hR
                have hR112d := hR112.2.2.2.2.1
                have hR112f := hR112.2.2.2.2.2
                have hk12 := (RJ_K hR).2.2.2.1
                refine lv_aload_n hx hb dX10_readItem_160 rfl (lv_at hl 1 rfl) ?_
                refine lv_aload_n hx hb dX10_readItem_161 rfl (lv_at hl 1 rfl) ?_
                refine gf_X10_86 hE hP (0) (gM_0 E a (riK I) tr) (v := .int (nI ((riK I) (12) (0)))) rfl dX10_readItem_162 ?_
                refine lv_iconst (v := nI (5)) hx hb dX10_readItem_165 (by decide) ?_
                refine bN_ne (tgt := 173) hx hb (by omega) (by omega) dX10_readItem_166 (by decide) (fun c166 => ?_) (fun c166 => ?_)
                · refine lv_iconst (v := nI (0)) hx hb dX10_readItem_173 (by decide) ?_
                  refine call_V (As := [.int (nI (0))]) (rest := []) hE (ct_X10_want l E a (riK I) tr (0) (by omega) hR112) cm_X10_want (uw mt_L_X10_98 rfl) (gM_0 E a (riK I) tr) rfl rfl hP hD hS hl.1 rfl rfl (Nat.le_of_ble_eq_true rfl) ⟨by decide, by decide⟩ dX10_readItem_174 (fun H locs hP hD hS => ?_)
                  refine W.eq (g2 := F0 m 177 ls [.int (nI ((riK I) 13 0))]) rfl ?_
                  have hR113 : RJ (waJ (riK I) (0)) := RJ_wa hR112
                  refine lv_pop hx hb dX10_readItem_177 rfl ?_
                  have hw : (waJ (riK I) (0)) = (riJ I) := by first | (unfold riJ; rw [if_pos c53, if_pos c166]; done) | (unfold riJ; rw [if_pos c53, if_neg c166]; done)
                  have hP := Eq.mp (congrArg (fun q => va_P E.1 vwCl (WM E a q tr) H) hw) hP
                  have hD := Eq.mp (congrArg (fun q => va_D A (WM E a q tr)) hw) hD
                  exact ret_v hE rfl hP hD hS dX10_readItem_178
                · refine lv_iconst (v := nI (1)) hx hb dX10_readItem_169 (by decide) ?_
                  refine lv_goto (tgt := 174) hx hb dX10_readItem_170 (by decide) ?_
                  refine call_V (As := [.int (nI (1))]) (rest := []) hE (ct_X10_want l E a (riK I) tr (1) (by omega) hR112) cm_X10_want (uw mt_L_X10_98 rfl) (gM_0 E a (riK I) tr) rfl rfl hP hD hS hl.1 rfl rfl (Nat.le_of_ble_eq_true rfl) ⟨by decide, by decide⟩ dX10_readItem_174 (fun H locs hP hD hS => ?_)
                  refine W.eq (g2 := F0 m 177 ls [.int (nI ((riK I) 13 0))]) rfl ?_
                  have hR114 : RJ (waJ (riK I) (1)) := RJ_wa hR112
                  refine lv_pop hx hb dX10_readItem_177 rfl ?_
                  have hw : (waJ (riK I) (1)) = (riJ I) := by first | (unfold riJ; rw [if_pos c53, if_pos c166]; done) | (unfold riJ; rw [if_pos c53, if_neg c166]; done)
                  have hP := Eq.mp (congrArg (fun q => va_P E.1 vwCl (WM E a q tr) H) hw) hP
                  have hD := Eq.mp (congrArg (fun q => va_D A (WM E a q tr)) hw) hD
                  exact ret_v hE rfl hP hD hS dX10_readItem_178
              · refine lv_aload_n hx hb dX10_readItem_135 rfl (lv_at hl 1 rfl) ?_
                refine call_V (As := []) (rest := []) hE (ct_X10_readLeap l E a (ri1 I) tr (RJ_r1 hR) (by rw [hr2]; omega) (fun x hx9 => by rw [hr7]; exact hL2 x hx9)) cm_X10_readLeap (uw mt_L_X10_110 rfl) (gM_0 E a (ri1 I) tr) rfl rfl hP hD hS hl.1 rfl rfl (Nat.le_of_ble_eq_true rfl) ⟨by decide, by decide⟩ dX10_readItem_136 (fun H locs hP hD hS => ?_)
                refine W.eq (g2 := F0 m 139 ls []) rfl ?_
                have hwf : (leJ (ri1 I)) = (riK I) := by unfold riK; rw [if_neg (by omega), if_pos c132]
                have hP := Eq.mp (congrArg (fun q => va_P E.1 vwCl (WM E a q tr) H) hwf) hP
                have hD := Eq.mp (congrArg (fun q => va_D A (WM E a q tr)) hwf) hD
                have hR115 : RJ (riK I) := RJ_K hR
                have hR115d := hR115.2.2.2.2.1
                have hR115f := hR115.2.2.2.2.2
                refine lv_goto (tgt := 160) hx hb dX10_readItem_139 (by decide) ?_
                have hk12 := (RJ_K hR).2.2.2.1
                refine lv_aload_n hx hb dX10_readItem_160 rfl (lv_at hl 1 rfl) ?_
                refine lv_aload_n hx hb dX10_readItem_161 rfl (lv_at hl 1 rfl) ?_
                refine gf_X10_86 hE hP (0) (gM_0 E a (riK I) tr) (v := .int (nI ((riK I) (12) (0)))) rfl dX10_readItem_162 ?_
                refine lv_iconst (v := nI (5)) hx hb dX10_readItem_165 (by decide) ?_
                refine bN_ne (tgt := 173) hx hb (by omega) (by omega) dX10_readItem_166 (by decide) (fun c166 => ?_) (fun c166 => ?_)
                · refine lv_iconst (v := nI (0)) hx hb dX10_readItem_173 (by decide) ?_
                  refine call_V (As := [.int (nI (0))]) (rest := []) hE (ct_X10_want l E a (riK I) tr (0) (by omega) hR115) cm_X10_want (uw mt_L_X10_98 rfl) (gM_0 E a (riK I) tr) rfl rfl hP hD hS hl.1 rfl rfl (Nat.le_of_ble_eq_true rfl) ⟨by decide, by decide⟩ dX10_readItem_174 (fun H locs hP hD hS => ?_)
                  refine W.eq (g2 := F0 m 177 ls [.int (nI ((riK I) 13 0))]) rfl ?_
                  have hR116 : RJ (waJ (riK I) (0)) := RJ_wa hR115
                  refine lv_pop hx hb dX10_readItem_177 rfl ?_
                  have hw : (waJ (riK I) (0)) = (riJ I) := by first | (unfold riJ; rw [if_pos c53, if_pos c166]; done) | (unfold riJ; rw [if_pos c53, if_neg c166]; done)
                  have hP := Eq.mp (congrArg (fun q => va_P E.1 vwCl (WM E a q tr) H) hw) hP
                  have hD := Eq.mp (congrArg (fun q => va_D A (WM E a q tr)) hw) hD
                  exact ret_v hE rfl hP hD hS dX10_readItem_178
                · refine lv_iconst (v := nI (1)) hx hb dX10_readItem_169 (by decide) ?_
                  refine lv_goto (tgt := 174) hx hb dX10_readItem_170 (by decide) ?_
                  refine call_V (As := [.int (nI (1))]) (rest := []) hE (ct_X10_want l E a (riK I) tr (1) (by omega) hR115) cm_X10_want (uw mt_L_X10_98 rfl) (gM_0 E a (riK I) tr) rfl rfl hP hD hS hl.1 rfl rfl (Nat.le_of_ble_eq_true rfl) ⟨by decide, by decide⟩ dX10_readItem_174 (fun H locs hP hD hS => ?_)
                  refine W.eq (g2 := F0 m 177 ls [.int (nI ((riK I) 13 0))]) rfl ?_
                  have hR117 : RJ (waJ (riK I) (1)) := RJ_wa hR115
                  refine lv_pop hx hb dX10_readItem_177 rfl ?_
                  have hw : (waJ (riK I) (1)) = (riJ I) := by first | (unfold riJ; rw [if_pos c53, if_pos c166]; done) | (unfold riJ; rw [if_pos c53, if_neg c166]; done)
                  have hP := Eq.mp (congrArg (fun q => va_P E.1 vwCl (WM E a q tr) H) hw) hP
                  have hD := Eq.mp (congrArg (fun q => va_D A (WM E a q tr)) hw) hD
                  exact ret_v hE rfl hP hD hS dX10_readItem_178
            · refine lv_bipush (v := nI (6)) hx hb dX10_readItem_61 (by decide) ?_
              refine lv_aload_n hx hb dX10_readItem_63 rfl (lv_at hl 1 rfl) ?_
              refine gf_X10_13 hE hP (0) (gM_0 E a (ri1 I) tr) (v := .ref (a 2)) rfl dX10_readItem_64 ?_
              refine lv_iconst (v := nI (1)) hx hb dX10_readItem_67 (by decide) ?_
              refine ald_i hE hP (2) (gM_2 E a (ri1 I) tr) (by omega) (by decide) (r := nI ((ri1 I) (2) (1))) rfl dX10_readItem_68 ?_
              refine lv_iadd hx hb dX10_readItem_69 ?_
              refine tp (nI_add _ _) ?_
              refine lv_istore_n (lv' := [(2, .int (nI (6 + (ri1 I) (2) (1)))), (1, .int (nI (I (12) (0)))), (0, .ref (a 0))]) hx hb dX10_readItem_70 rfl hl (by decide) rfl (fun ls hl => ?_)
              refine lv_aload_n hx hb dX10_readItem_71 rfl (lv_at hl 2 rfl) ?_
              refine gf_X10_20 hE hP (0) (gM_0 E a (ri1 I) tr) (v := .ref (a 4)) rfl dX10_readItem_72 ?_
              refine lv_iload_n hx hb dX10_readItem_75 rfl (lv_at hl 0 rfl) ?_
              refine lv_aload_n hx hb dX10_readItem_76 rfl (lv_at hl 2 rfl) ?_
              refine lv_iconst (v := nI (0)) hx hb dX10_readItem_77 (by decide) ?_
              refine lv_bipush (v := nI (47)) hx hb dX10_readItem_78 (by decide) ?_
              refine call_V (As := [.int (nI (0)), .int (nI (47))]) (rest := [.int (nI (6 + (ri1 I) (2) (1))), .ref (a 4)]) hE (ct_X10_number l E a (ri1 I) tr (nI (0)) (nI (47)) hR110) cm_X10_number (uw mt_L_X10_102 rfl) (gM_0 E a (ri1 I) tr) rfl rfl hP hD hS hl.1 rfl rfl (Nat.le_of_ble_eq_true rfl) ⟨by decide, by decide⟩ dX10_readItem_80 (fun H locs hP hD hS => ?_)
              refine W.eq (g2 := F0 m 83 ls [.int (nI ((ri1 I) 13 0)), .int (nI (6 + (ri1 I) (2) (1))), .ref (a 4)]) rfl ?_
              have hR118 : RJ (waJ (ri1 I) (nuZ (ri1 I) (nI (0)) (nI (47)))) := RJ_wa hR110
              have hR118d := hR118.2.2.2.2.1
              have hR118f := hR118.2.2.2.2.2
              refine ast_i hE hP hD hS (4) (gM_4 E a (waJ (ri1 I) (nuZ (ri1 I) (nI (0)) (nI (47)))) tr) (by omega) (by decide) (sM_4 E a (waJ (ri1 I) (nuZ (ri1 I) (nI (0)) (nI (47)))) tr (6 + (ri1 I) (2) (1)) ((ri1 I) 13 0)) dX10_readItem_83 (fun H locs hP hD hS => ?_)
              have hwf : (up2 (waJ (ri1 I) (nuZ (ri1 I) (nI (0)) (nI (47)))) (4) (6 + (ri1 I) (2) (1)) ((ri1 I) 13 0)) = (ho1 (ri1 I)) := rfl
              have hP := Eq.mp (congrArg (fun q => va_P E.1 vwCl (WM E a q tr) H) hwf) hP
              have hD := Eq.mp (congrArg (fun q => va_D A (WM E a q tr)) hwf) hD
              have hR119 : RJ (ho1 (ri1 I)) := RJ_h1 (RJ_r1 hR)
              have hR119d := hR119.2.2.2.2.1
              have hR119f := hR119.2.2.2.2.2
              refine lv_aload_n hx hb dX10_readItem_84 rfl (lv_at hl 2 rfl) ?_
              refine gf_X10_23 hE hP (0) (gM_0 E a (ho1 (ri1 I)) tr) (v := .ref (a 5)) rfl dX10_readItem_85 ?_
              refine lv_iload_n hx hb dX10_readItem_88 rfl (lv_at hl 0 rfl) ?_
              refine lv_aload_n hx hb dX10_readItem_89 rfl (lv_at hl 2 rfl) ?_
              refine lv_iconst (v := nI (1)) hx hb dX10_readItem_90 (by decide) ?_
              refine lv_bipush (v := nI (9)) hx hb dX10_readItem_91 (by decide) ?_
              refine call_V (As := [.int (nI (1)), .int (nI (9))]) (rest := [.int (nI (6 + (ri1 I) (2) (1))), .ref (a 5)]) hE (ct_X10_number l E a (ho1 (ri1 I)) tr (nI (1)) (nI (9)) hR119) cm_X10_number (uw mt_L_X10_102 rfl) (gM_0 E a (ho1 (ri1 I)) tr) rfl rfl hP hD hS hl.1 rfl rfl (Nat.le_of_ble_eq_true rfl) ⟨by decide, by decide⟩ dX10_readItem_93 (fun H locs hP hD hS => ?_)
              refine W.eq (g2 := F0 m 96 ls [.int (nI ((ho1 (ri1 I)) 13 0)), .int (nI (6 + (ri1 I) (2) (1))), .ref (a 5)]) rfl ?_
              have hR120 : RJ (waJ (ho1 (ri1 I)) (nuZ (ho1 (ri1 I)) (nI (1)) (nI (9)))) := RJ_wa hR119
              have hR120d := hR120.2.2.2.2.1
              have hR120f := hR120.2.2.2.2.2
              refine ast_i hE hP hD hS (5) (gM_5 E a (waJ (ho1 (ri1 I)) (nuZ (ho1 (ri1 I)) (nI (1)) (nI (9)))) tr) (by omega) (by decide) (sM_5 E a (waJ (ho1 (ri1 I)) (nuZ (ho1 (ri1 I)) (nI (1)) (nI (9)))) tr (6 + (ri1 I) (2) (1)) ((ho1 (ri1 I)) 13 0)) dX10_readItem_96 (fun H locs hP hD hS => ?_)
              have hwf : (up2 (waJ (ho1 (ri1 I)) (nuZ (ho1 (ri1 I)) (nI (1)) (nI (9)))) (5) (6 + (ri1 I) (2) (1)) ((ho1 (ri1 I)) 13 0)) = (ho2 (ri1 I)) := rfl
              have hP := Eq.mp (congrArg (fun q => va_P E.1 vwCl (WM E a q tr) H) hwf) hP
              have hD := Eq.mp (congrArg (fun q => va_D A (WM E a q tr)) hwf) hD
              have hR121 : RJ (ho2 (ri1 I)) := RJ_h2 (RJ_r1 hR)
              have hR121d := hR121.2.2.2.2.1
              have hR121f := hR121.2.2.2.2.2
              refine lv_aload_n hx hb dX10_readItem_97 rfl (lv_at hl 2 rfl) ?_
              refine gf_X10_26 hE hP (0) (gM_0 E a (ho2 (ri1 I)) tr) (v := .ref (a 6)) rfl dX10_readItem_98 ?_
              refine lv_iload_n hx hb dX10_readItem_101 rfl (lv_at hl 0 rfl) ?_
              refine lv_aload_n hx hb dX10_readItem_102 rfl (lv_at hl 2 rfl) ?_
              refine lv_iconst (v := nI (1)) hx hb dX10_readItem_103 (by decide) ?_
              refine lv_bipush (v := nI (9)) hx hb dX10_readItem_104 (by decide) ?_
              refine call_V (As := [.int (nI (1)), .int (nI (9))]) (rest := [.int (nI (6 + (ri1 I) (2) (1))), .ref (a 6)]) hE (ct_X10_number l E a (ho2 (ri1 I)) tr (nI (1)) (nI (9)) hR121) cm_X10_number (uw mt_L_X10_102 rfl) (gM_0 E a (ho2 (ri1 I)) tr) rfl rfl hP hD hS hl.1 rfl rfl (Nat.le_of_ble_eq_true rfl) ⟨by decide, by decide⟩ dX10_readItem_106 (fun H locs hP hD hS => ?_)
              refine W.eq (g2 := F0 m 109 ls [.int (nI ((ho2 (ri1 I)) 13 0)), .int (nI (6 + (ri1 I) (2) (1))), .ref (a 6)]) rfl ?_
              have hR122 : RJ (waJ (ho2 (ri1 I)) (nuZ (ho2 (ri1 I)) (nI (1)) (nI (9)))) := RJ_wa hR121
              have hR122d := hR122.2.2.2.2.1
              have hR122f := hR122.2.2.2.2.2
              refine ast_i hE hP hD hS (6) (gM_6 E a (waJ (ho2 (ri1 I)) (nuZ (ho2 (ri1 I)) (nI (1)) (nI (9)))) tr) (by omega) (by decide) (sM_6 E a (waJ (ho2 (ri1 I)) (nuZ (ho2 (ri1 I)) (nI (1)) (nI (9)))) tr (6 + (ri1 I) (2) (1)) ((ho2 (ri1 I)) 13 0)) dX10_readItem_109 (fun H locs hP hD hS => ?_)
              have hwf : (up2 (waJ (ho2 (ri1 I)) (nuZ (ho2 (ri1 I)) (nI (1)) (nI (9)))) (6) (6 + (ri1 I) (2) (1)) ((ho2 (ri1 I)) 13 0)) = (ho3 (ri1 I)) := rfl
              have hP := Eq.mp (congrArg (fun q => va_P E.1 vwCl (WM E a q tr) H) hwf) hP
              have hD := Eq.mp (congrArg (fun q => va_D A (WM E a q tr)) hwf) hD
              have hR123 : RJ (ho3 (ri1 I)) := RJ_h3 (RJ_r1 hR)
              have hR123d := hR123.2.2.2.2.1
              have hR123f := hR123.2.2.2.2.2
              refine lv_aload_n hx hb dX10_readItem_110 rfl (lv_at hl 2 rfl) ?_
              refine gf_X10_29 hE hP (0) (gM_0 E a (ho3 (ri1 I)) tr) (v := .ref (a 7)) rfl dX10_readItem_111 ?_
              refine lv_iload_n hx hb dX10_readItem_114 rfl (lv_at hl 0 rfl) ?_
              refine lv_iconst (v := nI (0)) hx hb dX10_readItem_115 (by decide) ?_
              refine ast_i hE hP hD hS (7) (gM_7 E a (ho3 (ri1 I)) tr) (by omega) (by decide) (sM_7 E a (ho3 (ri1 I)) tr (6 + (ri1 I) (2) (1)) (0)) dX10_readItem_116 (fun H locs hP hD hS => ?_)
              refine lv_aload_n hx hb dX10_readItem_117 rfl (lv_at hl 2 rfl) ?_
              refine gf_X10_13 hE hP (0) (gM_0 E a (up2 (ho3 (ri1 I)) (7) (6 + (ri1 I) (2) (1)) (0)) tr) (v := .ref (a 2)) rfl dX10_readItem_118 ?_
              refine lv_iconst (v := nI (1)) hx hb dX10_readItem_121 (by decide) ?_
              refine lv_dup2_11 hx hb dX10_readItem_122 rfl rfl ?_
              refine ald_i hE hP (2) (gM_2 E a (up2 (ho3 (ri1 I)) (7) (6 + (ri1 I) (2) (1)) (0)) tr) (by omega) (by decide) (r := nI ((ho3 (ri1 I)) (2) (1))) rfl dX10_readItem_123 ?_
              refine lv_iconst (v := nI (1)) hx hb dX10_readItem_124 (by decide) ?_
              refine lv_iadd hx hb dX10_readItem_125 ?_
              refine tp (nI_add _ _) ?_
              refine ast_i hE hP hD hS (2) (gM_2 E a (up2 (ho3 (ri1 I)) (7) (6 + (ri1 I) (2) (1)) (0)) tr) (by omega) (by decide) (sM_2 E a (up2 (ho3 (ri1 I)) (7) (6 + (ri1 I) (2) (1)) (0)) tr (1) ((ho3 (ri1 I)) (2) (1) + 1)) dX10_readItem_126 (fun H locs hP hD hS => ?_)
              have hwf : (up2 (up2 (ho3 (ri1 I)) (7) (6 + (ri1 I) (2) (1)) (0)) (2) (1) ((ho3 (ri1 I)) (2) (1) + 1)) = (riK I) := by unfold riK; rw [if_pos c58]; rfl
              have hP := Eq.mp (congrArg (fun q => va_P E.1 vwCl (WM E a q tr) H) hwf) hP
              have hD := Eq.mp (congrArg (fun q => va_D A (WM E a q tr)) hwf) hD
              have hR124 : RJ (riK I) := RJ_K hR
              have hR124d := hR124.2.2.2.2.1
              have hR124f := hR124.2.2.2.2.2
              refine lv_goto (tgt := 160) hx hb dX10_readItem_127 (by decide) ?_
              have hk12 := (RJ_K hR).2.2.2.1
              refine lv_aload_n hx hb dX10_readItem_160 rfl (lv_at hl 2 rfl) ?_
              refine lv_aload_n hx hb dX10_readItem_161 rfl (lv_at hl 2 rfl) ?_
              refine gf_X10_86 hE hP (0) (gM_0 E a (riK I) tr) (v := .int (nI ((riK I) (12) (0)))) rfl dX10_readItem_162 ?_
              refine lv_iconst (v := nI (5)) hx hb dX10_readItem_165 (by decide) ?_
              refine bN_ne (tgt := 173) hx hb (by omega) (by omega) dX10_readItem_166 (by decide) (fun c166 => ?_) (fun c166 => ?_)
              · refine lv_iconst (v := nI (0)) hx hb dX10_readItem_173 (by decide) ?_
                refine call_V (As := [.int (nI (0))]) (rest := []) hE (ct_X10_want l E a (riK I) tr (0) (by omega) hR124) cm_X10_want (uw mt_L_X10_98 rfl) (gM_0 E a (riK I) tr) rfl rfl hP hD hS hl.1 rfl rfl (Nat.le_of_ble_eq_true rfl) ⟨by decide, by decide⟩ dX10_readItem_174 (fun H locs hP hD hS => ?_)
                refine W.eq (g2 := F0 m 177 ls [.int (nI ((riK I) 13 0))]) rfl ?_
                have hR125 : RJ (waJ (riK I) (0)) := RJ_wa hR124
                refine lv_pop hx hb dX10_readItem_177 rfl ?_
                have hw : (waJ (riK I) (0)) = (riJ I) := by first | (unfold riJ; rw [if_pos c53, if_pos c166]; done) | (unfold riJ; rw [if_pos c53, if_neg c166]; done)
                have hP := Eq.mp (congrArg (fun q => va_P E.1 vwCl (WM E a q tr) H) hw) hP
                have hD := Eq.mp (congrArg (fun q => va_D A (WM E a q tr)) hw) hD
                exact ret_v hE rfl hP hD hS dX10_readItem_178
              · refine lv_iconst (v := nI (1)) hx hb dX10_readItem_169 (by decide) ?_
                refine lv_goto (tgt := 174) hx hb dX10_readItem_170 (by decide) ?_
                refine call_V (As := [.int (nI (1))]) (rest := []) hE (ct_X10_want l E a (riK I) tr (1) (by omega) hR124) cm_X10_want (uw mt_L_X10_98 rfl) (gM_0 E a (riK I) tr) rfl rfl hP hD hS hl.1 rfl rfl (Nat.le_of_ble_eq_true rfl) ⟨by decide, by decide⟩ dX10_readItem_174 (fun H locs hP hD hS => ?_)
                refine W.eq (g2 := F0 m 177 ls [.int (nI ((riK I) 13 0))]) rfl ?_
                have hR126 : RJ (waJ (riK I) (1)) := RJ_wa hR124
                refine lv_pop hx hb dX10_readItem_177 rfl ?_
                have hw : (waJ (riK I) (1)) = (riJ I) := by first | (unfold riJ; rw [if_pos c53, if_pos c166]; done) | (unfold riJ; rw [if_pos c53, if_neg c166]; done)
                have hP := Eq.mp (congrArg (fun q => va_P E.1 vwCl (WM E a q tr) H) hw) hP
                have hD := Eq.mp (congrArg (fun q => va_D A (WM E a q tr)) hw) hD
                exact ret_v hE rfl hP hD hS dX10_readItem_178
          · have hw : (ri1 I) = (riJ I) := by unfold riJ; rw [if_neg (by omega)]
            have hP := Eq.mp (congrArg (fun q => va_P E.1 vwCl (WM E a q tr) H) hw) hP
            have hD := Eq.mp (congrArg (fun q => va_D A (WM E a q tr)) hw) hD
            exact ret_v hE rfl hP hD hS dX10_readItem_56
        · refine lv_aload_n hx hb dX10_readItem_31 rfl (lv_at hl 1 rfl) ?_
          refine gf_X10_106 hE hP (0) (gM_0 E a I tr) (v := .int (nI (I (15) (0)))) rfl dX10_readItem_32 ?_
          refine bZ_ne (tgt := 42) hx hb (by omega) dX10_readItem_35 (by decide) (fun c35 => ?_) (fun c35 => ?_)
          · refine lv_iconst (v := nI (0)) hx hb dX10_readItem_42 (by decide) ?_
            refine call_V (As := [.int (nI (0))]) (rest := []) hE (ct_X10_want l E a I tr (0) (by omega) hR) cm_X10_want (uw mt_L_X10_98 rfl) (gM_0 E a I tr) rfl rfl hP hD hS hl.1 rfl rfl (Nat.le_of_ble_eq_true rfl) ⟨by decide, by decide⟩ dX10_readItem_43 (fun H locs hP hD hS => ?_)
            refine W.eq (g2 := F0 m 46 ls [.int (nI (I 13 0))]) rfl ?_
            have hR127 : RJ (waJ I (0)) := RJ_wa hR
            have hwf : (waJ I (0)) = (ri1 I) := by first | (unfold ri1 riZ; rw [if_pos (by omega)]; done) | (unfold ri1 riZ; rw [if_neg (by omega)]; done)
            have hP := Eq.mp (congrArg (fun q => va_P E.1 vwCl (WM E a q tr) H) hwf) hP
            have hD := Eq.mp (congrArg (fun q => va_D A (WM E a q tr)) hwf) hD
            have hR128 : RJ (ri1 I) := RJ_r1 hR
            have hR128d := hR128.2.2.2.2.1
            have hR128f := hR128.2.2.2.2.2
            refine lv_pop hx hb dX10_readItem_46 rfl ?_
            refine lv_aload_n hx hb dX10_readItem_47 rfl (lv_at hl 1 rfl) ?_
            refine gf_X10_92 hE hP (0) (gM_0 E a (ri1 I) tr) (v := .int (rN ((ri1 I) (14) (0)))) rfl dX10_readItem_48 ?_
            refine lv_bipush (v := (-9)) hx hb dX10_readItem_51 (by decide) ?_
            refine bQ9_eq (tgt := 57) hx hb (by omega) dX10_readItem_53 (by decide) (fun c53 => ?_) (fun c53 => ?_)
            · have hok := ri_ok c53
              refine lv_iload_n hx hb dX10_readItem_57 rfl (lv_at hl 0 rfl) ?_
              refine bZ_ne (tgt := 130) hx hb (by omega) dX10_readItem_58 (by decide) (fun c58 => ?_) (fun c58 => ?_)
              · refine lv_iload_n hx hb dX10_readItem_130 rfl (lv_at hl 0 rfl) ?_
                refine lv_iconst (v := nI (1)) hx hb dX10_readItem_131 (by decide) ?_
                refine bN_ne (tgt := 142) hx hb (by omega) (by omega) dX10_readItem_132 (by decide) (fun c132 => ?_) (fun c132 => ?_)
                · refine lv_aload_n hx hb dX10_readItem_142 rfl (lv_at hl 1 rfl) ?_
                  refine gf_X10_17 hE hP (0) (gM_0 E a (ri1 I) tr) (v := .ref (a 3)) rfl dX10_readItem_143 ?_
                  refine lv_iconst (v := nI (1)) hx hb dX10_readItem_146 (by decide) ?_
                  refine lv_aload_n hx hb dX10_readItem_147 rfl (lv_at hl 1 rfl) ?_
                  refine lv_iconst (v := nI (0)) hx hb dX10_readItem_148 (by decide) ?_
                  refine lv_bipush (v := nI (9)) hx hb dX10_readItem_149 (by decide) ?_
                  refine call_V (As := [.int (nI (0)), .int (nI (9))]) (rest := [.int (nI (1)), .ref (a 3)]) hE (ct_X10_number l E a (ri1 I) tr (nI (0)) (nI (9)) hR128) cm_X10_number (uw mt_L_X10_102 rfl) (gM_0 E a (ri1 I) tr) rfl rfl hP hD hS hl.1 rfl rfl (Nat.le_of_ble_eq_true rfl) ⟨by decide, by decide⟩ dX10_readItem_151 (fun H locs hP hD hS => ?_)
                  refine W.eq (g2 := F0 m 154 ls [.int (nI ((ri1 I) 13 0)), .int (nI (1)), .ref (a 3)]) rfl ?_
                  have hR129 : RJ (waJ (ri1 I) (nuZ (ri1 I) (nI (0)) (nI (9)))) := RJ_wa hR128
                  have hR129d := hR129.2.2.2.2.1
                  have hR129f := hR129.2.2.2.2.2
                  refine ast_i hE hP hD hS (3) (gM_3 E a (waJ (ri1 I) (nuZ (ri1 I) (nI (0)) (nI (9)))) tr) (by omega) (by decide) (sM_3 E a (waJ (ri1 I) (nuZ (ri1 I) (nI (0)) (nI (9)))) tr (1) ((ri1 I) 13 0)) dX10_readItem_154 (fun H locs hP hD hS => ?_)
                  refine lv_aload_n hx hb dX10_readItem_155 rfl (lv_at hl 1 rfl) ?_
                  refine lv_iconst (v := nI (1)) hx hb dX10_readItem_156 (by decide) ?_
                  refine pf_X10_106 hE hP hD hS (0) (gM_0 E a (up2 (waJ (ri1 I) (nuZ (ri1 I) (nI (0)) (nI (9)))) (3) (1) ((ri1 I) 13 0)) tr) (by decide) (by decide) (Nat.le_of_ble_eq_true rfl) (sM_0_16 E a (up2 (waJ (ri1 I) (nuZ (ri1 I) (nI (0)) (nI (9)))) (3) (1) ((ri1 I) 13 0)) tr (1)) dX10_readItem_157 (fun H locs hP hD hS => ?_)
                  have hwf : (up2 (up2 (waJ (ri1 I) (nuZ (ri1 I) (nI (0)) (nI (9)))) (3) (1) ((ri1 I) 13 0)) (15) (0) (1)) = (riK I) := by unfold riK; rw [if_neg (by omega), if_neg c132]; rfl
                  have hP := Eq.mp (congrArg (fun q => va_P E.1 vwCl (WM E a q tr) H) hwf) hP
                  have hD := Eq.mp (congrArg (fun q => va_D A (WM E a q tr)) hwf) hD
                  have hR130 : RJ (riK I) := RJ_K hR
                  have hR130d := hR130.2.2.2.2.1
                  have hR130f := hR130.2.2.2.2.2
                  have hk12 := (RJ_K hR).2.2.2.1
                  refine lv_aload_n hx hb dX10_readItem_160 rfl (lv_at hl 1 rfl) ?_
                  refine lv_aload_n hx hb dX10_readItem_161 rfl (lv_at hl 1 rfl) ?_
                  refine gf_X10_86 hE hP (0) (gM_0 E a (riK I) tr) (v := .int (nI ((riK I) (12) (0)))) rfl dX10_readItem_162 ?_
                  refine lv_iconst (v := nI (5)) hx hb dX10_readItem_165 (by decide) ?_
                  refine bN_ne (tgt := 173) hx hb (by omega) (by omega) dX10_readItem_166 (by decide) (fun c166 => ?_) (fun c166 => ?_)
                  · refine lv_iconst (v := nI (0)) hx hb dX10_readItem_173 (by decide) ?_
                    refine call_V (As := [.int (nI (0))]) (rest := []) hE (ct_X10_want l E a (riK I) tr (0) (by omega) hR130) cm_X10_want (uw mt_L_X10_98 rfl) (gM_0 E a (riK I) tr) rfl rfl hP hD hS hl.1 rfl rfl (Nat.le_of_ble_eq_true rfl) ⟨by decide, by decide⟩ dX10_readItem_174 (fun H locs hP hD hS => ?_)
                    refine W.eq (g2 := F0 m 177 ls [.int (nI ((riK I) 13 0))]) rfl ?_
                    have hR131 : RJ (waJ (riK I) (0)) := RJ_wa hR130
                    refine lv_pop hx hb dX10_readItem_177 rfl ?_
                    have hw : (waJ (riK I) (0)) = (riJ I) := by first | (unfold riJ; rw [if_pos c53, if_pos c166]; done) | (unfold riJ; rw [if_pos c53, if_neg c166]; done)
                    have hP := Eq.mp (congrArg (fun q => va_P E.1 vwCl (WM E a q tr) H) hw) hP
                    have hD := Eq.mp (congrArg (fun q => va_D A (WM E a q tr)) hw) hD
                    exact ret_v hE rfl hP hD hS dX10_readItem_178
                  · refine lv_iconst (v := nI (1)) hx hb dX10_readItem_169 (by decide) ?_
                    refine lv_goto (tgt := 174) hx hb dX10_readItem_170 (by decide) ?_
                    refine call_V (As := [.int (nI (1))]) (rest := []) hE (ct_X10_want l E a (riK I) tr (1) (by omega) hR130) cm_X10_want (uw mt_L_X10_98 rfl) (gM_0 E a (riK I) tr) rfl rfl hP hD hS hl.1 rfl rfl (Nat.le_of_ble_eq_true rfl) ⟨by decide, by decide⟩ dX10_readItem_174 (fun H locs hP hD hS => ?_)
                    refine W.eq (g2 := F0 m 177 ls [.int (nI ((riK I) 13 0))]) rfl ?_
                    have hR132 : RJ (waJ (riK I) (1)) := RJ_wa hR130
                    refine lv_pop hx hb dX10_readItem_177 rfl ?_
                    have hw : (waJ (riK I) (1)) = (riJ I) := by first | (unfold riJ; rw [if_pos c53, if_pos c166]; done) | (unfold riJ; rw [if_pos c53, if_neg c166]; done)
                    have hP := Eq.mp (congrArg (fun q => va_P E.1 vwCl (WM E a q tr) H) hw) hP
                    have hD := Eq.mp (congrArg (fun q => va_D A (WM E a q tr)) hw) hD
                    exact ret_v hE rfl hP hD hS dX10_readItem_178
                · refine lv_aload_n hx hb dX10_readItem_135 rfl (lv_at hl 1 rfl) ?_
                  refine call_V (As := []) (rest := []) hE (ct_X10_readLeap l E a (ri1 I) tr (RJ_r1 hR) (by rw [hr2]; omega) (fun x hx9 => by rw [hr7]; exact hL2 x hx9)) cm_X10_readLeap (uw mt_L_X10_110 rfl) (gM_0 E a (ri1 I) tr) rfl rfl hP hD hS hl.1 rfl rfl (Nat.le_of_ble_eq_true rfl) ⟨by decide, by decide⟩ dX10_readItem_136 (fun H locs hP hD hS => ?_)
                  refine W.eq (g2 := F0 m 139 ls []) rfl ?_
                  have hwf : (leJ (ri1 I)) = (riK I) := by unfold riK; rw [if_neg (by omega), if_pos c132]
                  have hP := Eq.mp (congrArg (fun q => va_P E.1 vwCl (WM E a q tr) H) hwf) hP
                  have hD := Eq.mp (congrArg (fun q => va_D A (WM E a q tr)) hwf) hD
                  have hR133 : RJ (riK I) := RJ_K hR
                  have hR133d := hR133.2.2.2.2.1
                  have hR133f := hR133.2.2.2.2.2
                  refine lv_goto (tgt := 160) hx hb dX10_readItem_139 (by decide) ?_
                  have hk12 := (RJ_K hR).2.2.2.1
                  refine lv_aload_n hx hb dX10_readItem_160 rfl (lv_at hl 1 rfl) ?_
                  refine lv_aload_n hx hb dX10_readItem_161 rfl (lv_at hl 1 rfl) ?_
                  refine gf_X10_86 hE hP (0) (gM_0 E a (riK I) tr) (v := .int (nI ((riK I) (12) (0)))) rfl dX10_readItem_162 ?_
                  refine lv_iconst (v := nI (5)) hx hb dX10_readItem_165 (by decide) ?_
                  refine bN_ne (tgt := 173) hx hb (by omega) (by omega) dX10_readItem_166 (by decide) (fun c166 => ?_) (fun c166 => ?_)
                  · refine lv_iconst (v := nI (0)) hx hb dX10_readItem_173 (by decide) ?_
                    refine call_V (As := [.int (nI (0))]) (rest := []) hE (ct_X10_want l E a (riK I) tr (0) (by omega) hR133) cm_X10_want (uw mt_L_X10_98 rfl) (gM_0 E a (riK I) tr) rfl rfl hP hD hS hl.1 rfl rfl (Nat.le_of_ble_eq_true rfl) ⟨by decide, by decide⟩ dX10_readItem_174 (fun H locs hP hD hS => ?_)
                    refine W.eq (g2 := F0 m 177 ls [.int (nI ((riK I) 13 0))]) rfl ?_
                    have hR134 : RJ (waJ (riK I) (0)) := RJ_wa hR133
                    refine lv_pop hx hb dX10_readItem_177 rfl ?_
                    have hw : (waJ (riK I) (0)) = (riJ I) := by first | (unfold riJ; rw [if_pos c53, if_pos c166]; done) | (unfold riJ; rw [if_pos c53, if_neg c166]; done)
                    have hP := Eq.mp (congrArg (fun q => va_P E.1 vwCl (WM E a q tr) H) hw) hP
                    have hD := Eq.mp (congrArg (fun q => va_D A (WM E a q tr)) hw) hD
                    exact ret_v hE rfl hP hD hS dX10_readItem_178
                  · refine lv_iconst (v := nI (1)) hx hb dX10_readItem_169 (by decide) ?_
                    refine lv_goto (tgt := 174) hx hb dX10_readItem_170 (by decide) ?_
                    refine call_V (As := [.int (nI (1))]) (rest := []) hE (ct_X10_want l E a (riK I) tr (1) (by omega) hR133) cm_X10_want (uw mt_L_X10_98 rfl) (gM_0 E a (riK I) tr) rfl rfl hP hD hS hl.1 rfl rfl (Nat.le_of_ble_eq_true rfl) ⟨by decide, by decide⟩ dX10_readItem_174 (fun H locs hP hD hS => ?_)
                    refine W.eq (g2 := F0 m 177 ls [.int (nI ((riK I) 13 0))]) rfl ?_
                    have hR135 : RJ (waJ (riK I) (1)) := RJ_wa hR133
                    refine lv_pop hx hb dX10_readItem_177 rfl ?_
                    have hw : (waJ (riK I) (1)) = (riJ I) := by first | (unfold riJ; rw [if_pos c53, if_pos c166]; done) | (unfold riJ; rw [if_pos c53, if_neg c166]; done)
                    have hP := Eq.mp (congrArg (fun q => va_P E.1 vwCl (WM E a q tr) H) hw) hP
                    have hD := Eq.mp (congrArg (fun q => va_D A (WM E a q tr)) hw) hD
                    exact ret_v hE rfl hP hD hS dX10_readItem_178
              · refine lv_bipush (v := nI (6)) hx hb dX10_readItem_61 (by decide) ?_
                refine lv_aload_n hx hb dX10_readItem_63 rfl (lv_at hl 1 rfl) ?_
                refine gf_X10_13 hE hP (0) (gM_0 E a (ri1 I) tr) (v := .ref (a 2)) rfl dX10_readItem_64 ?_
                refine lv_iconst (v := nI (1)) hx hb dX10_readItem_67 (by decide) ?_
                refine ald_i hE hP (2) (gM_2 E a (ri1 I) tr) (by omega) (by decide) (r := nI ((ri1 I) (2) (1))) rfl dX10_readItem_68 ?_
                refine lv_iadd hx hb dX10_readItem_69 ?_
                refine tp (nI_add _ _) ?_
                refine lv_istore_n (lv' := [(2, .int (nI (6 + (ri1 I) (2) (1)))), (1, .int (nI (I (12) (0)))), (0, .ref (a 0))]) hx hb dX10_readItem_70 rfl hl (by decide) rfl (fun ls hl => ?_)
                refine lv_aload_n hx hb dX10_readItem_71 rfl (lv_at hl 2 rfl) ?_
                refine gf_X10_20 hE hP (0) (gM_0 E a (ri1 I) tr) (v := .ref (a 4)) rfl dX10_readItem_72 ?_
                refine lv_iload_n hx hb dX10_readItem_75 rfl (lv_at hl 0 rfl) ?_
                refine lv_aload_n hx hb dX10_readItem_76 rfl (lv_at hl 2 rfl) ?_
                refine lv_iconst (v := nI (0)) hx hb dX10_readItem_77 (by decide) ?_
                refine lv_bipush (v := nI (47)) hx hb dX10_readItem_78 (by decide) ?_
                refine call_V (As := [.int (nI (0)), .int (nI (47))]) (rest := [.int (nI (6 + (ri1 I) (2) (1))), .ref (a 4)]) hE (ct_X10_number l E a (ri1 I) tr (nI (0)) (nI (47)) hR128) cm_X10_number (uw mt_L_X10_102 rfl) (gM_0 E a (ri1 I) tr) rfl rfl hP hD hS hl.1 rfl rfl (Nat.le_of_ble_eq_true rfl) ⟨by decide, by decide⟩ dX10_readItem_80 (fun H locs hP hD hS => ?_)
                refine W.eq (g2 := F0 m 83 ls [.int (nI ((ri1 I) 13 0)), .int (nI (6 + (ri1 I) (2) (1))), .ref (a 4)]) rfl ?_
                have hR136 : RJ (waJ (ri1 I) (nuZ (ri1 I) (nI (0)) (nI (47)))) := RJ_wa hR128
                have hR136d := hR136.2.2.2.2.1
                have hR136f := hR136.2.2.2.2.2
                refine ast_i hE hP hD hS (4) (gM_4 E a (waJ (ri1 I) (nuZ (ri1 I) (nI (0)) (nI (47)))) tr) (by omega) (by decide) (sM_4 E a (waJ (ri1 I) (nuZ (ri1 I) (nI (0)) (nI (47)))) tr (6 + (ri1 I) (2) (1)) ((ri1 I) 13 0)) dX10_readItem_83 (fun H locs hP hD hS => ?_)
                have hwf : (up2 (waJ (ri1 I) (nuZ (ri1 I) (nI (0)) (nI (47)))) (4) (6 + (ri1 I) (2) (1)) ((ri1 I) 13 0)) = (ho1 (ri1 I)) := rfl
                have hP := Eq.mp (congrArg (fun q => va_P E.1 vwCl (WM E a q tr) H) hwf) hP
                have hD := Eq.mp (congrArg (fun q => va_D A (WM E a q tr)) hwf) hD
                have hR137 : RJ (ho1 (ri1 I)) := RJ_h1 (RJ_r1 hR)
                have hR137d := hR137.2.2.2.2.1
                have hR137f := hR137.2.2.2.2.2
                refine lv_aload_n hx hb dX10_readItem_84 rfl (lv_at hl 2 rfl) ?_
                refine gf_X10_23 hE hP (0) (gM_0 E a (ho1 (ri1 I)) tr) (v := .ref (a 5)) rfl dX10_readItem_85 ?_
                refine lv_iload_n hx hb dX10_readItem_88 rfl (lv_at hl 0 rfl) ?_
                refine lv_aload_n hx hb dX10_readItem_89 rfl (lv_at hl 2 rfl) ?_
                refine lv_iconst (v := nI (1)) hx hb dX10_readItem_90 (by decide) ?_
                refine lv_bipush (v := nI (9)) hx hb dX10_readItem_91 (by decide) ?_
                refine call_V (As := [.int (nI (1)), .int (nI (9))]) (rest := [.int (nI (6 + (ri1 I) (2) (1))), .ref (a 5)]) hE (ct_X10_number l E a (ho1 (ri1 I)) tr (nI (1)) (nI (9)) hR137) cm_X10_number (uw mt_L_X10_102 rfl) (gM_0 E a (ho1 (ri1 I)) tr) rfl rfl hP hD hS hl.1 rfl rfl (Nat.le_of_ble_eq_true rfl) ⟨by decide, by decide⟩ dX10_readItem_93 (fun H locs hP hD hS => ?_)
                refine W.eq (g2 := F0 m 96 ls [.int (nI ((ho1 (ri1 I)) 13 0)), .int (nI (6 + (ri1 I) (2) (1))), .ref (a 5)]) rfl ?_
                have hR138 : RJ (waJ (ho1 (ri1 I)) (nuZ (ho1 (ri1 I)) (nI (1)) (nI (9)))) := RJ_wa hR137
                have hR138d := hR138.2.2.2.2.1
                have hR138f := hR138.2.2.2.2.2
                refine ast_i hE hP hD hS (5) (gM_5 E a (waJ (ho1 (ri1 I)) (nuZ (ho1 (ri1 I)) (nI (1)) (nI (9)))) tr) (by omega) (by decide) (sM_5 E a (waJ (ho1 (ri1 I)) (nuZ (ho1 (ri1 I)) (nI (1)) (nI (9)))) tr (6 + (ri1 I) (2) (1)) ((ho1 (ri1 I)) 13 0)) dX10_readItem_96 (fun H locs hP hD hS => ?_)
                have hwf : (up2 (waJ (ho1 (ri1 I)) (nuZ (ho1 (ri1 I)) (nI (1)) (nI (9)))) (5) (6 + (ri1 I) (2) (1)) ((ho1 (ri1 I)) 13 0)) = (ho2 (ri1 I)) := rfl
                have hP := Eq.mp (congrArg (fun q => va_P E.1 vwCl (WM E a q tr) H) hwf) hP
                have hD := Eq.mp (congrArg (fun q => va_D A (WM E a q tr)) hwf) hD
                have hR139 : RJ (ho2 (ri1 I)) := RJ_h2 (RJ_r1 hR)
                have hR139d := hR139.2.2.2.2.1
                have hR139f := hR139.2.2.2.2.2
                refine lv_aload_n hx hb dX10_readItem_97 rfl (lv_at hl 2 rfl) ?_
                refine gf_X10_26 hE hP (0) (gM_0 E a (ho2 (ri1 I)) tr) (v := .ref (a 6)) rfl dX10_readItem_98 ?_
                refine lv_iload_n hx hb dX10_readItem_101 rfl (lv_at hl 0 rfl) ?_
                refine lv_aload_n hx hb dX10_readItem_102 rfl (lv_at hl 2 rfl) ?_
                refine lv_iconst (v := nI (1)) hx hb dX10_readItem_103 (by decide) ?_
                refine lv_bipush (v := nI (9)) hx hb dX10_readItem_104 (by decide) ?_
                refine call_V (As := [.int (nI (1)), .int (nI (9))]) (rest := [.int (nI (6 + (ri1 I) (2) (1))), .ref (a 6)]) hE (ct_X10_number l E a (ho2 (ri1 I)) tr (nI (1)) (nI (9)) hR139) cm_X10_number (uw mt_L_X10_102 rfl) (gM_0 E a (ho2 (ri1 I)) tr) rfl rfl hP hD hS hl.1 rfl rfl (Nat.le_of_ble_eq_true rfl) ⟨by decide, by decide⟩ dX10_readItem_106 (fun H locs hP hD hS => ?_)
                refine W.eq (g2 := F0 m 109 ls [.int (nI ((ho2 (ri1 I)) 13 0)), .int (nI (6 + (ri1 I) (2) (1))), .ref (a 6)]) rfl ?_
                have hR140 : RJ (waJ (ho2 (ri1 I)) (nuZ (ho2 (ri1 I)) (nI (1)) (nI (9)))) := RJ_wa hR139
                have hR140d := hR140.2.2.2.2.1
                have hR140f := hR140.2.2.2.2.2
                refine ast_i hE hP hD hS (6) (gM_6 E a (waJ (ho2 (ri1 I)) (nuZ (ho2 (ri1 I)) (nI (1)) (nI (9)))) tr) (by omega) (by decide) (sM_6 E a (waJ (ho2 (ri1 I)) (nuZ (ho2 (ri1 I)) (nI (1)) (nI (9)))) tr (6 + (ri1 I) (2) (1)) ((ho2 (ri1 I)) 13 0)) dX10_readItem_109 (fun H locs hP hD hS => ?_)
                have hwf : (up2 (waJ (ho2 (ri1 I)) (nuZ (ho2 (ri1 I)) (nI (1)) (nI (9)))) (6) (6 + (ri1 I) (2) (1)) ((ho2 (ri1 I)) 13 0)) = (ho3 (ri1 I)) := rfl
                have hP := Eq.mp (congrArg (fun q => va_P E.1 vwCl (WM E a q tr) H) hwf) hP
                have hD := Eq.mp (congrArg (fun q => va_D A (WM E a q tr)) hwf) hD
                have hR141 : RJ (ho3 (ri1 I)) := RJ_h3 (RJ_r1 hR)
                have hR141d := hR141.2.2.2.2.1
                have hR141f := hR141.2.2.2.2.2
                refine lv_aload_n hx hb dX10_readItem_110 rfl (lv_at hl 2 rfl) ?_
                refine gf_X10_29 hE hP (0) (gM_0 E a (ho3 (ri1 I)) tr) (v := .ref (a 7)) rfl dX10_readItem_111 ?_
                refine lv_iload_n hx hb dX10_readItem_114 rfl (lv_at hl 0 rfl) ?_
                refine lv_iconst (v := nI (0)) hx hb dX10_readItem_115 (by decide) ?_
                refine ast_i hE hP hD hS (7) (gM_7 E a (ho3 (ri1 I)) tr) (by omega) (by decide) (sM_7 E a (ho3 (ri1 I)) tr (6 + (ri1 I) (2) (1)) (0)) dX10_readItem_116 (fun H locs hP hD hS => ?_)
                refine lv_aload_n hx hb dX10_readItem_117 rfl (lv_at hl 2 rfl) ?_
                refine gf_X10_13 hE hP (0) (gM_0 E a (up2 (ho3 (ri1 I)) (7) (6 + (ri1 I) (2) (1)) (0)) tr) (v := .ref (a 2)) rfl dX10_readItem_118 ?_
                refine lv_iconst (v := nI (1)) hx hb dX10_readItem_121 (by decide) ?_
                refine lv_dup2_11 hx hb dX10_readItem_122 rfl rfl ?_
                refine ald_i hE hP (2) (gM_2 E a (up2 (ho3 (ri1 I)) (7) (6 + (ri1 I) (2) (1)) (0)) tr) (by omega) (by decide) (r := nI ((ho3 (ri1 I)) (2) (1))) rfl dX10_readItem_123 ?_
                refine lv_iconst (v := nI (1)) hx hb dX10_readItem_124 (by decide) ?_
                refine lv_iadd hx hb dX10_readItem_125 ?_
                refine tp (nI_add _ _) ?_
                refine ast_i hE hP hD hS (2) (gM_2 E a (up2 (ho3 (ri1 I)) (7) (6 + (ri1 I) (2) (1)) (0)) tr) (by omega) (by decide) (sM_2 E a (up2 (ho3 (ri1 I)) (7) (6 + (ri1 I) (2) (1)) (0)) tr (1) ((ho3 (ri1 I)) (2) (1) + 1)) dX10_readItem_126 (fun H locs hP hD hS => ?_)
                have hwf : (up2 (up2 (ho3 (ri1 I)) (7) (6 + (ri1 I) (2) (1)) (0)) (2) (1) ((ho3 (ri1 I)) (2) (1) + 1)) = (riK I) := by unfold riK; rw [if_pos c58]; rfl
                have hP := Eq.mp (congrArg (fun q => va_P E.1 vwCl (WM E a q tr) H) hwf) hP
                have hD := Eq.mp (congrArg (fun q => va_D A (WM E a q tr)) hwf) hD
                have hR142 : RJ (riK I) := RJ_K hR
                have hR142d := hR142.2.2.2.2.1
                have hR142f := hR142.2.2.2.2.2
                refine lv_goto (tgt := 160) hx hb dX10_readItem_127 (by decide) ?_
                have hk12 := (RJ_K hR).2.2.2.1
                refine lv_aload_n hx hb dX10_readItem_160 rfl (lv_at hl 2 rfl) ?_
                refine lv_aload_n hx hb dX10_readItem_161 rfl (lv_at hl 2 rfl) ?_
                refine gf_X10_86 hE hP (0) (gM_0 E a (riK I) tr) (v := .int (nI ((riK I) (12) (0)))) rfl dX10_readItem_162 ?_
                refine lv_iconst (v := nI (5)) hx hb dX10_readItem_165 (by decide) ?_
                refine bN_ne (tgt := 173) hx hb (by omega) (by omega) dX10_readItem_166 (by decide) (fun c166 => ?_) (fun c166 => ?_)
                · refine lv_iconst (v := nI (0)) hx hb dX10_readItem_173 (by decide) ?_
                  refine call_V (As := [.int (nI (0))]) (rest := []) hE (ct_X10_want l E a (riK I) tr (0) (by omega) hR142) cm_X10_want (uw mt_L_X10_98 rfl) (gM_0 E a (riK I) tr) rfl rfl hP hD hS hl.1 rfl rfl (Nat.le_of_ble_eq_true rfl) ⟨by decide, by decide⟩ dX10_readItem_174 (fun H locs hP hD hS => ?_)
                  refine W.eq (g2 := F0 m 177 ls [.int (nI ((riK I) 13 0))]) rfl ?_
                  have hR143 : RJ (waJ (riK I) (0)) := RJ_wa hR142
                  refine lv_pop hx hb dX10_readItem_177 rfl ?_
                  have hw : (waJ (riK I) (0)) = (riJ I) := by first | (unfold riJ; rw [if_pos c53, if_pos c166]; done) | (unfold riJ; rw [if_pos c53, if_neg c166]; done)
                  have hP := Eq.mp (congrArg (fun q => va_P E.1 vwCl (WM E a q tr) H) hw) hP
                  have hD := Eq.mp (congrArg (fun q => va_D A (WM E a q tr)) hw) hD
                  exact ret_v hE rfl hP hD hS dX10_readItem_178
                · refine lv_iconst (v := nI (1)) hx hb dX10_readItem_169 (by decide) ?_
                  refine lv_goto (tgt := 174) hx hb dX10_readItem_170 (by decide) ?_
                  refine call_V (As := [.int (nI (1))]) (rest := []) hE (ct_X10_want l E a (riK I) tr (1) (by omega) hR142) cm_X10_want (uw mt_L_X10_98 rfl) (gM_0 E a (riK I) tr) rfl rfl hP hD hS hl.1 rfl rfl (Nat.le_of_ble_eq_true rfl) ⟨by decide, by decide⟩ dX10_readItem_174 (fun H locs hP hD hS => ?_)
                  refine W.eq (g2 := F0 m 177 ls [.int (nI ((riK I) 13 0))]) rfl ?_
                  have hR144 : RJ (waJ (riK I) (1)) := RJ_wa hR142
                  refine lv_pop hx hb dX10_readItem_177 rfl ?_
                  have hw : (waJ (riK I) (1)) = (riJ I) := by first | (unfold riJ; rw [if_pos c53, if_pos c166]; done) | (unfold riJ; rw [if_pos c53, if_neg c166]; done)
                  have hP := Eq.mp (congrArg (fun q => va_P E.1 vwCl (WM E a q tr) H) hw) hP
                  have hD := Eq.mp (congrArg (fun q => va_D A (WM E a q tr)) hw) hD
                  exact ret_v hE rfl hP hD hS dX10_readItem_178
            · have hw : (ri1 I) = (riJ I) := by unfold riJ; rw [if_neg (by omega)]
              have hP := Eq.mp (congrArg (fun q => va_P E.1 vwCl (WM E a q tr) H) hw) hP
              have hD := Eq.mp (congrArg (fun q => va_D A (WM E a q tr)) hw) hD
              exact ret_v hE rfl hP hD hS dX10_readItem_56
          · refine lv_iconst (v := nI (1)) hx hb dX10_readItem_38 (by decide) ?_
            refine lv_goto (tgt := 43) hx hb dX10_readItem_39 (by decide) ?_
            refine call_V (As := [.int (nI (1))]) (rest := []) hE (ct_X10_want l E a I tr (1) (by omega) hR) cm_X10_want (uw mt_L_X10_98 rfl) (gM_0 E a I tr) rfl rfl hP hD hS hl.1 rfl rfl (Nat.le_of_ble_eq_true rfl) ⟨by decide, by decide⟩ dX10_readItem_43 (fun H locs hP hD hS => ?_)
            refine W.eq (g2 := F0 m 46 ls [.int (nI (I 13 0))]) rfl ?_
            have hR145 : RJ (waJ I (1)) := RJ_wa hR
            have hwf : (waJ I (1)) = (ri1 I) := by first | (unfold ri1 riZ; rw [if_pos (by omega)]; done) | (unfold ri1 riZ; rw [if_neg (by omega)]; done)
            have hP := Eq.mp (congrArg (fun q => va_P E.1 vwCl (WM E a q tr) H) hwf) hP
            have hD := Eq.mp (congrArg (fun q => va_D A (WM E a q tr)) hwf) hD
            have hR146 : RJ (ri1 I) := RJ_r1 hR
            have hR146d := hR146.2.2.2.2.1
            have hR146f := hR146.2.2.2.2.2
            refine lv_pop hx hb dX10_readItem_46 rfl ?_
            refine lv_aload_n hx hb dX10_readItem_47 rfl (lv_at hl 1 rfl) ?_
            refine gf_X10_92 hE hP (0) (gM_0 E a (ri1 I) tr) (v := .int (rN ((ri1 I) (14) (0)))) rfl dX10_readItem_48 ?_
            refine lv_bipush (v := (-9)) hx hb dX10_readItem_51 (by decide) ?_
            refine bQ9_eq (tgt := 57) hx hb (by omega) dX10_readItem_53 (by decide) (fun c53 => ?_) (fun c53 => ?_)
            · have hok := ri_ok c53
              refine lv_iload_n hx hb dX10_readItem_57 rfl (lv_at hl 0 rfl) ?_
              refine bZ_ne (tgt := 130) hx hb (by omega) dX10_readItem_58 (by decide) (fun c58 => ?_) (fun c58 => ?_)
              · refine lv_iload_n hx hb dX10_readItem_130 rfl (lv_at hl 0 rfl) ?_
                refine lv_iconst (v := nI (1)) hx hb dX10_readItem_131 (by decide) ?_
                refine bN_ne (tgt := 142) hx hb (by omega) (by omega) dX10_readItem_132 (by decide) (fun c132 => ?_) (fun c132 => ?_)
                · refine lv_aload_n hx hb dX10_readItem_142 rfl (lv_at hl 1 rfl) ?_
                  refine gf_X10_17 hE hP (0) (gM_0 E a (ri1 I) tr) (v := .ref (a 3)) rfl dX10_readItem_143 ?_
                  refine lv_iconst (v := nI (1)) hx hb dX10_readItem_146 (by decide) ?_
                  refine lv_aload_n hx hb dX10_readItem_147 rfl (lv_at hl 1 rfl) ?_
                  refine lv_iconst (v := nI (0)) hx hb dX10_readItem_148 (by decide) ?_
                  refine lv_bipush (v := nI (9)) hx hb dX10_readItem_149 (by decide) ?_
                  refine call_V (As := [.int (nI (0)), .int (nI (9))]) (rest := [.int (nI (1)), .ref (a 3)]) hE (ct_X10_number l E a (ri1 I) tr (nI (0)) (nI (9)) hR146) cm_X10_number (uw mt_L_X10_102 rfl) (gM_0 E a (ri1 I) tr) rfl rfl hP hD hS hl.1 rfl rfl (Nat.le_of_ble_eq_true rfl) ⟨by decide, by decide⟩ dX10_readItem_151 (fun H locs hP hD hS => ?_)
                  refine W.eq (g2 := F0 m 154 ls [.int (nI ((ri1 I) 13 0)), .int (nI (1)), .ref (a 3)]) rfl ?_
                  have hR147 : RJ (waJ (ri1 I) (nuZ (ri1 I) (nI (0)) (nI (9)))) := RJ_wa hR146
                  have hR147d := hR147.2.2.2.2.1
                  have hR147f := hR147.2.2.2.2.2
                  refine ast_i hE hP hD hS (3) (gM_3 E a (waJ (ri1 I) (nuZ (ri1 I) (nI (0)) (nI (9)))) tr) (by omega) (by decide) (sM_3 E a (waJ (ri1 I) (nuZ (ri1 I) (nI (0)) (nI (9)))) tr (1) ((ri1 I) 13 0)) dX10_readItem_154 (fun H locs hP hD hS => ?_)
                  refine lv_aload_n hx hb dX10_readItem_155 rfl (lv_at hl 1 rfl) ?_
                  refine lv_iconst (v := nI (1)) hx hb dX10_readItem_156 (by decide) ?_
                  refine pf_X10_106 hE hP hD hS (0) (gM_0 E a (up2 (waJ (ri1 I) (nuZ (ri1 I) (nI (0)) (nI (9)))) (3) (1) ((ri1 I) 13 0)) tr) (by decide) (by decide) (Nat.le_of_ble_eq_true rfl) (sM_0_16 E a (up2 (waJ (ri1 I) (nuZ (ri1 I) (nI (0)) (nI (9)))) (3) (1) ((ri1 I) 13 0)) tr (1)) dX10_readItem_157 (fun H locs hP hD hS => ?_)
                  have hwf : (up2 (up2 (waJ (ri1 I) (nuZ (ri1 I) (nI (0)) (nI (9)))) (3) (1) ((ri1 I) 13 0)) (15) (0) (1)) = (riK I) := by unfold riK; rw [if_neg (by omega), if_neg c132]; rfl
                  have hP := Eq.mp (congrArg (fun q => va_P E.1 vwCl (WM E a q tr) H) hwf) hP
                  have hD := Eq.mp (congrArg (fun q => va_D A (WM E a q tr)) hwf) hD
                  have hR148 : RJ (riK I) := RJ_K hR
                  have hR148d := hR148.2.2.2.2.1
                  have hR148f := hR148.2.2.2.2.2
                  have hk12 := (RJ_K hR).2.2.2.1
                  refine lv_aload_n hx hb dX10_readItem_160 rfl (lv_at hl 1 rfl) ?_
                  refine lv_aload_n hx hb dX10_readItem_161 rfl (lv_at hl 1 rfl) ?_
                  refine gf_X10_86 hE hP (0) (gM_0 E a (riK I) tr) (v := .int (nI ((riK I) (12) (0)))) rfl dX10_readItem_162 ?_
                  refine lv_iconst (v := nI (5)) hx hb dX10_readItem_165 (by decide) ?_
                  refine bN_ne (tgt := 173) hx hb (by omega) (by omega) dX10_readItem_166 (by decide) (fun c166 => ?_) (fun c166 => ?_)
                  · refine lv_iconst (v := nI (0)) hx hb dX10_readItem_173 (by decide) ?_
                    refine call_V (As := [.int (nI (0))]) (rest := []) hE (ct_X10_want l E a (riK I) tr (0) (by omega) hR148) cm_X10_want (uw mt_L_X10_98 rfl) (gM_0 E a (riK I) tr) rfl rfl hP hD hS hl.1 rfl rfl (Nat.le_of_ble_eq_true rfl) ⟨by decide, by decide⟩ dX10_readItem_174 (fun H locs hP hD hS => ?_)
                    refine W.eq (g2 := F0 m 177 ls [.int (nI ((riK I) 13 0))]) rfl ?_
                    have hR149 : RJ (waJ (riK I) (0)) := RJ_wa hR148
                    refine lv_pop hx hb dX10_readItem_177 rfl ?_
                    have hw : (waJ (riK I) (0)) = (riJ I) := by first | (unfold riJ; rw [if_pos c53, if_pos c166]; done) | (unfold riJ; rw [if_pos c53, if_neg c166]; done)
                    have hP := Eq.mp (congrArg (fun q => va_P E.1 vwCl (WM E a q tr) H) hw) hP
                    have hD := Eq.mp (congrArg (fun q => va_D A (WM E a q tr)) hw) hD
                    exact ret_v hE rfl hP hD hS dX10_readItem_178
                  · refine lv_iconst (v := nI (1)) hx hb dX10_readItem_169 (by decide) ?_
                    refine lv_goto (tgt := 174) hx hb dX10_readItem_170 (by decide) ?_
                    refine call_V (As := [.int (nI (1))]) (rest := []) hE (ct_X10_want l E a (riK I) tr (1) (by omega) hR148) cm_X10_want (uw mt_L_X10_98 rfl) (gM_0 E a (riK I) tr) rfl rfl hP hD hS hl.1 rfl rfl (Nat.le_of_ble_eq_true rfl) ⟨by decide, by decide⟩ dX10_readItem_174 (fun H locs hP hD hS => ?_)
                    refine W.eq (g2 := F0 m 177 ls [.int (nI ((riK I) 13 0))]) rfl ?_
                    have hR150 : RJ (waJ (riK I) (1)) := RJ_wa hR148
                    refine lv_pop hx hb dX10_readItem_177 rfl ?_
                    have hw : (waJ (riK I) (1)) = (riJ I) := by first | (unfold riJ; rw [if_pos c53, if_pos c166]; done) | (unfold riJ; rw [if_pos c53, if_neg c166]; done)
                    have hP := Eq.mp (congrArg (fun q => va_P E.1 vwCl (WM E a q tr) H) hw) hP
                    have hD := Eq.mp (congrArg (fun q => va_D A (WM E a q tr)) hw) hD
                    exact ret_v hE rfl hP hD hS dX10_readItem_178
                · refine lv_aload_n hx hb dX10_readItem_135 rfl (lv_at hl 1 rfl) ?_
                  refine call_V (As := []) (rest := []) hE (ct_X10_readLeap l E a (ri1 I) tr (RJ_r1 hR) (by rw [hr2]; omega) (fun x hx9 => by rw [hr7]; exact hL2 x hx9)) cm_X10_readLeap (uw mt_L_X10_110 rfl) (gM_0 E a (ri1 I) tr) rfl rfl hP hD hS hl.1 rfl rfl (Nat.le_of_ble_eq_true rfl) ⟨by decide, by decide⟩ dX10_readItem_136 (fun H locs hP hD hS => ?_)
                  refine W.eq (g2 := F0 m 139 ls []) rfl ?_
                  have hwf : (leJ (ri1 I)) = (riK I) := by unfold riK; rw [if_neg (by omega), if_pos c132]
                  have hP := Eq.mp (congrArg (fun q => va_P E.1 vwCl (WM E a q tr) H) hwf) hP
                  have hD := Eq.mp (congrArg (fun q => va_D A (WM E a q tr)) hwf) hD
                  have hR151 : RJ (riK I) := RJ_K hR
                  have hR151d := hR151.2.2.2.2.1
                  have hR151f := hR151.2.2.2.2.2
                  refine lv_goto (tgt := 160) hx hb dX10_readItem_139 (by decide) ?_
                  have hk12 := (RJ_K hR).2.2.2.1
                  refine lv_aload_n hx hb dX10_readItem_160 rfl (lv_at hl 1 rfl) ?_
                  refine lv_aload_n hx hb dX10_readItem_161 rfl (lv_at hl 1 rfl) ?_
                  refine gf_X10_86 hE hP (0) (gM_0 E a (riK I) tr) (v := .int (nI ((riK I) (12) (0)))) rfl dX10_readItem_162 ?_
                  refine lv_iconst (v := nI (5)) hx hb dX10_readItem_165 (by decide) ?_
                  refine bN_ne (tgt := 173) hx hb (by omega) (by omega) dX10_readItem_166 (by decide) (fun c166 => ?_) (fun c166 => ?_)
                  · refine lv_iconst (v := nI (0)) hx hb dX10_readItem_173 (by decide) ?_
                    refine call_V (As := [.int (nI (0))]) (rest := []) hE (ct_X10_want l E a (riK I) tr (0) (by omega) hR151) cm_X10_want (uw mt_L_X10_98 rfl) (gM_0 E a (riK I) tr) rfl rfl hP hD hS hl.1 rfl rfl (Nat.le_of_ble_eq_true rfl) ⟨by decide, by decide⟩ dX10_readItem_174 (fun H locs hP hD hS => ?_)
                    refine W.eq (g2 := F0 m 177 ls [.int (nI ((riK I) 13 0))]) rfl ?_
                    have hR152 : RJ (waJ (riK I) (0)) := RJ_wa hR151
                    refine lv_pop hx hb dX10_readItem_177 rfl ?_
                    have hw : (waJ (riK I) (0)) = (riJ I) := by first | (unfold riJ; rw [if_pos c53, if_pos c166]; done) | (unfold riJ; rw [if_pos c53, if_neg c166]; done)
                    have hP := Eq.mp (congrArg (fun q => va_P E.1 vwCl (WM E a q tr) H) hw) hP
                    have hD := Eq.mp (congrArg (fun q => va_D A (WM E a q tr)) hw) hD
                    exact ret_v hE rfl hP hD hS dX10_readItem_178
                  · refine lv_iconst (v := nI (1)) hx hb dX10_readItem_169 (by decide) ?_
                    refine lv_goto (tgt := 174) hx hb dX10_readItem_170 (by decide) ?_
                    refine call_V (As := [.int (nI (1))]) (rest := []) hE (ct_X10_want l E a (riK I) tr (1) (by omega) hR151) cm_X10_want (uw mt_L_X10_98 rfl) (gM_0 E a (riK I) tr) rfl rfl hP hD hS hl.1 rfl rfl (Nat.le_of_ble_eq_true rfl) ⟨by decide, by decide⟩ dX10_readItem_174 (fun H locs hP hD hS => ?_)
                    refine W.eq (g2 := F0 m 177 ls [.int (nI ((riK I) 13 0))]) rfl ?_
                    have hR153 : RJ (waJ (riK I) (1)) := RJ_wa hR151
                    refine lv_pop hx hb dX10_readItem_177 rfl ?_
                    have hw : (waJ (riK I) (1)) = (riJ I) := by first | (unfold riJ; rw [if_pos c53, if_pos c166]; done) | (unfold riJ; rw [if_pos c53, if_neg c166]; done)
                    have hP := Eq.mp (congrArg (fun q => va_P E.1 vwCl (WM E a q tr) H) hw) hP
                    have hD := Eq.mp (congrArg (fun q => va_D A (WM E a q tr)) hw) hD
                    exact ret_v hE rfl hP hD hS dX10_readItem_178
              · refine lv_bipush (v := nI (6)) hx hb dX10_readItem_61 (by decide) ?_
                refine lv_aload_n hx hb dX10_readItem_63 rfl (lv_at hl 1 rfl) ?_
                refine gf_X10_13 hE hP (0) (gM_0 E a (ri1 I) tr) (v := .ref (a 2)) rfl dX10_readItem_64 ?_
                refine lv_iconst (v := nI (1)) hx hb dX10_readItem_67 (by decide) ?_
                refine ald_i hE hP (2) (gM_2 E a (ri1 I) tr) (by omega) (by decide) (r := nI ((ri1 I) (2) (1))) rfl dX10_readItem_68 ?_
                refine lv_iadd hx hb dX10_readItem_69 ?_
                refine tp (nI_add _ _) ?_
                refine lv_istore_n (lv' := [(2, .int (nI (6 + (ri1 I) (2) (1)))), (1, .int (nI (I (12) (0)))), (0, .ref (a 0))]) hx hb dX10_readItem_70 rfl hl (by decide) rfl (fun ls hl => ?_)
                refine lv_aload_n hx hb dX10_readItem_71 rfl (lv_at hl 2 rfl) ?_
                refine gf_X10_20 hE hP (0) (gM_0 E a (ri1 I) tr) (v := .ref (a 4)) rfl dX10_readItem_72 ?_
                refine lv_iload_n hx hb dX10_readItem_75 rfl (lv_at hl 0 rfl) ?_
                refine lv_aload_n hx hb dX10_readItem_76 rfl (lv_at hl 2 rfl) ?_
                refine lv_iconst (v := nI (0)) hx hb dX10_readItem_77 (by decide) ?_
                refine lv_bipush (v := nI (47)) hx hb dX10_readItem_78 (by decide) ?_
                refine call_V (As := [.int (nI (0)), .int (nI (47))]) (rest := [.int (nI (6 + (ri1 I) (2) (1))), .ref (a 4)]) hE (ct_X10_number l E a (ri1 I) tr (nI (0)) (nI (47)) hR146) cm_X10_number (uw mt_L_X10_102 rfl) (gM_0 E a (ri1 I) tr) rfl rfl hP hD hS hl.1 rfl rfl (Nat.le_of_ble_eq_true rfl) ⟨by decide, by decide⟩ dX10_readItem_80 (fun H locs hP hD hS => ?_)
                refine W.eq (g2 := F0 m 83 ls [.int (nI ((ri1 I) 13 0)), .int (nI (6 + (ri1 I) (2) (1))), .ref (a 4)]) rfl ?_
                have hR154 : RJ (waJ (ri1 I) (nuZ (ri1 I) (nI (0)) (nI (47)))) := RJ_wa hR146
                have hR154d := hR154.2.2.2.2.1
                have hR154f := hR154.2.2.2.2.2
                refine ast_i hE hP hD hS (4) (gM_4 E a (waJ (ri1 I) (nuZ (ri1 I) (nI (0)) (nI (47)))) tr) (by omega) (by decide) (sM_4 E a (waJ (ri1 I) (nuZ (ri1 I) (nI (0)) (nI (47)))) tr (6 + (ri1 I) (2) (1)) ((ri1 I) 13 0)) dX10_readItem_83 (fun H locs hP hD hS => ?_)
                have hwf : (up2 (waJ (ri1 I) (nuZ (ri1 I) (nI (0)) (nI (47)))) (4) (6 + (ri1 I) (2) (1)) ((ri1 I) 13 0)) = (ho1 (ri1 I)) := rfl
                have hP := Eq.mp (congrArg (fun q => va_P E.1 vwCl (WM E a q tr) H) hwf) hP
                have hD := Eq.mp (congrArg (fun q => va_D A (WM E a q tr)) hwf) hD
                have hR155 : RJ (ho1 (ri1 I)) := RJ_h1 (RJ_r1 hR)
                have hR155d := hR155.2.2.2.2.1
                have hR155f := hR155.2.2.2.2.2
                refine lv_aload_n hx hb dX10_readItem_84 rfl (lv_at hl 2 rfl) ?_
                refine gf_X10_23 hE hP (0) (gM_0 E a (ho1 (ri1 I)) tr) (v := .ref (a 5)) rfl dX10_readItem_85 ?_
                refine lv_iload_n hx hb dX10_readItem_88 rfl (lv_at hl 0 rfl) ?_
                refine lv_aload_n hx hb dX10_readItem_89 rfl (lv_at hl 2 rfl) ?_
                refine lv_iconst (v := nI (1)) hx hb dX10_readItem_90 (by decide) ?_
                refine lv_bipush (v := nI (9)) hx hb dX10_readItem_91 (by decide) ?_
                refine call_V (As := [.int (nI (1)), .int (nI (9))]) (rest := [.int (nI (6 + (ri1 I) (2) (1))), .ref (a 5)]) hE (ct_X10_number l E a (ho1 (ri1 I)) tr (nI (1)) (nI (9)) hR155) cm_X10_number (uw mt_L_X10_102 rfl) (gM_0 E a (ho1 (ri1 I)) tr) rfl rfl hP hD hS hl.1 rfl rfl (Nat.le_of_ble_eq_true rfl) ⟨by decide, by decide⟩ dX10_readItem_93 (fun H locs hP hD hS => ?_)
                refine W.eq (g2 := F0 m 96 ls [.int (nI ((ho1 (ri1 I)) 13 0)), .int (nI (6 + (ri1 I) (2) (1))), .ref (a 5)]) rfl ?_
                have hR156 : RJ (waJ (ho1 (ri1 I)) (nuZ (ho1 (ri1 I)) (nI (1)) (nI (9)))) := RJ_wa hR155
                have hR156d := hR156.2.2.2.2.1
                have hR156f := hR156.2.2.2.2.2
                refine ast_i hE hP hD hS (5) (gM_5 E a (waJ (ho1 (ri1 I)) (nuZ (ho1 (ri1 I)) (nI (1)) (nI (9)))) tr) (by omega) (by decide) (sM_5 E a (waJ (ho1 (ri1 I)) (nuZ (ho1 (ri1 I)) (nI (1)) (nI (9)))) tr (6 + (ri1 I) (2) (1)) ((ho1 (ri1 I)) 13 0)) dX10_readItem_96 (fun H locs hP hD hS => ?_)
                have hwf : (up2 (waJ (ho1 (ri1 I)) (nuZ (ho1 (ri1 I)) (nI (1)) (nI (9)))) (5) (6 + (ri1 I) (2) (1)) ((ho1 (ri1 I)) 13 0)) = (ho2 (ri1 I)) := rfl
                have hP := Eq.mp (congrArg (fun q => va_P E.1 vwCl (WM E a q tr) H) hwf) hP
                have hD := Eq.mp (congrArg (fun q => va_D A (WM E a q tr)) hwf) hD
                have hR157 : RJ (ho2 (ri1 I)) := RJ_h2 (RJ_r1 hR)
                have hR157d := hR157.2.2.2.2.1
                have hR157f := hR157.2.2.2.2.2
                refine lv_aload_n hx hb dX10_readItem_97 rfl (lv_at hl 2 rfl) ?_
                refine gf_X10_26 hE hP (0) (gM_0 E a (ho2 (ri1 I)) tr) (v := .ref (a 6)) rfl dX10_readItem_98 ?_
                refine lv_iload_n hx hb dX10_readItem_101 rfl (lv_at hl 0 rfl) ?_
                refine lv_aload_n hx hb dX10_readItem_102 rfl (lv_at hl 2 rfl) ?_
                refine lv_iconst (v := nI (1)) hx hb dX10_readItem_103 (by decide) ?_
                refine lv_bipush (v := nI (9)) hx hb dX10_readItem_104 (by decide) ?_
                refine call_V (As := [.int (nI (1)), .int (nI (9))]) (rest := [.int (nI (6 + (ri1 I) (2) (1))), .ref (a 6)]) hE (ct_X10_number l E a (ho2 (ri1 I)) tr (nI (1)) (nI (9)) hR157) cm_X10_number (uw mt_L_X10_102 rfl) (gM_0 E a (ho2 (ri1 I)) tr) rfl rfl hP hD hS hl.1 rfl rfl (Nat.le_of_ble_eq_true rfl) ⟨by decide, by decide⟩ dX10_readItem_106 (fun H locs hP hD hS => ?_)
                refine W.eq (g2 := F0 m 109 ls [.int (nI ((ho2 (ri1 I)) 13 0)), .int (nI (6 + (ri1 I) (2) (1))), .ref (a 6)]) rfl ?_
                have hR158 : RJ (waJ (ho2 (ri1 I)) (nuZ (ho2 (ri1 I)) (nI (1)) (nI (9)))) := RJ_wa hR157
                have hR158d := hR158.2.2.2.2.1
                have hR158f := hR158.2.2.2.2.2
                refine ast_i hE hP hD hS (6) (gM_6 E a (waJ (ho2 (ri1 I)) (nuZ (ho2 (ri1 I)) (nI (1)) (nI (9)))) tr) (by omega) (by decide) (sM_6 E a (waJ (ho2 (ri1 I)) (nuZ (ho2 (ri1 I)) (nI (1)) (nI (9)))) tr (6 + (ri1 I) (2) (1)) ((ho2 (ri1 I)) 13 0)) dX10_readItem_109 (fun H locs hP hD hS => ?_)
                have hwf : (up2 (waJ (ho2 (ri1 I)) (nuZ (ho2 (ri1 I)) (nI (1)) (nI (9)))) (6) (6 + (ri1 I) (2) (1)) ((ho2 (ri1 I)) 13 0)) = (ho3 (ri1 I)) := rfl
                have hP := Eq.mp (congrArg (fun q => va_P E.1 vwCl (WM E a q tr) H) hwf) hP
                have hD := Eq.mp (congrArg (fun q => va_D A (WM E a q tr)) hwf) hD
                have hR159 : RJ (ho3 (ri1 I)) := RJ_h3 (RJ_r1 hR)
                have hR159d := hR159.2.2.2.2.1
                have hR159f := hR159.2.2.2.2.2
                refine lv_aload_n hx hb dX10_readItem_110 rfl (lv_at hl 2 rfl) ?_
                refine gf_X10_29 hE hP (0) (gM_0 E a (ho3 (ri1 I)) tr) (v := .ref (a 7)) rfl dX10_readItem_111 ?_
                refine lv_iload_n hx hb dX10_readItem_114 rfl (lv_at hl 0 rfl) ?_
                refine lv_iconst (v := nI (0)) hx hb dX10_readItem_115 (by decide) ?_
                refine ast_i hE hP hD hS (7) (gM_7 E a (ho3 (ri1 I)) tr) (by omega) (by decide) (sM_7 E a (ho3 (ri1 I)) tr (6 + (ri1 I) (2) (1)) (0)) dX10_readItem_116 (fun H locs hP hD hS => ?_)
                refine lv_aload_n hx hb dX10_readItem_117 rfl (lv_at hl 2 rfl) ?_
                refine gf_X10_13 hE hP (0) (gM_0 E a (up2 (ho3 (ri1 I)) (7) (6 + (ri1 I) (2) (1)) (0)) tr) (v := .ref (a 2)) rfl dX10_readItem_118 ?_
                refine lv_iconst (v := nI (1)) hx hb dX10_readItem_121 (by decide) ?_
                refine lv_dup2_11 hx hb dX10_readItem_122 rfl rfl ?_
                refine ald_i hE hP (2) (gM_2 E a (up2 (ho3 (ri1 I)) (7) (6 + (ri1 I) (2) (1)) (0)) tr) (by omega) (by decide) (r := nI ((ho3 (ri1 I)) (2) (1))) rfl dX10_readItem_123 ?_
                refine lv_iconst (v := nI (1)) hx hb dX10_readItem_124 (by decide) ?_
                refine lv_iadd hx hb dX10_readItem_125 ?_
                refine tp (nI_add _ _) ?_
                refine ast_i hE hP hD hS (2) (gM_2 E a (up2 (ho3 (ri1 I)) (7) (6 + (ri1 I) (2) (1)) (0)) tr) (by omega) (by decide) (sM_2 E a (up2 (ho3 (ri1 I)) (7) (6 + (ri1 I) (2) (1)) (0)) tr (1) ((ho3 (ri1 I)) (2) (1) + 1)) dX10_readItem_126 (fun H locs hP hD hS => ?_)
                have hwf : (up2 (up2 (ho3 (ri1 I)) (7) (6 + (ri1 I) (2) (1)) (0)) (2) (1) ((ho3 (ri1 I)) (2) (1) + 1)) = (riK I) := by unfold riK; rw [if_pos c58]; rfl
                have hP := Eq.mp (congrArg (fun q => va_P E.1 vwCl (WM E a q tr) H) hwf) hP
                have hD := Eq.mp (congrArg (fun q => va_D A (WM E a q tr)) hwf) hD
                have hR160 : RJ (riK I) := RJ_K hR
                have hR160d := hR160.2.2.2.2.1
                have hR160f := hR160.2.2.2.2.2
                refine lv_goto (tgt := 160) hx hb dX10_readItem_127 (by decide) ?_
                have hk12 := (RJ_K hR).2.2.2.1
                refine lv_aload_n hx hb dX10_readItem_160 rfl (lv_at hl 2 rfl) ?_
                refine lv_aload_n hx hb dX10_readItem_161 rfl (lv_at hl 2 rfl) ?_
                refine gf_X10_86 hE hP (0) (gM_0 E a (riK I) tr) (v := .int (nI ((riK I) (12) (0)))) rfl dX10_readItem_162 ?_
                refine lv_iconst (v := nI (5)) hx hb dX10_readItem_165 (by decide) ?_
                refine bN_ne (tgt := 173) hx hb (by omega) (by omega) dX10_readItem_166 (by decide) (fun c166 => ?_) (fun c166 => ?_)
                · refine lv_iconst (v := nI (0)) hx hb dX10_readItem_173 (by decide) ?_
                  refine call_V (As := [.int (nI (0))]) (rest := []) hE (ct_X10_want l E a (riK I) tr (0) (by omega) hR160) cm_X10_want (uw mt_L_X10_98 rfl) (gM_0 E a (riK I) tr) rfl rfl hP hD hS hl.1 rfl rfl (Nat.le_of_ble_eq_true rfl) ⟨by decide, by decide⟩ dX10_readItem_174 (fun H locs hP hD hS => ?_)
                  refine W.eq (g2 := F0 m 177 ls [.int (nI ((riK I) 13 0))]) rfl ?_
                  have hR161 : RJ (waJ (riK I) (0)) := RJ_wa hR160
                  refine lv_pop hx hb dX10_readItem_177 rfl ?_
                  have hw : (waJ (riK I) (0)) = (riJ I) := by first | (unfold riJ; rw [if_pos c53, if_pos c166]; done) | (unfold riJ; rw [if_pos c53, if_neg c166]; done)
                  have hP := Eq.mp (congrArg (fun q => va_P E.1 vwCl (WM E a q tr) H) hw) hP
                  have hD := Eq.mp (congrArg (fun q => va_D A (WM E a q tr)) hw) hD
                  exact ret_v hE rfl hP hD hS dX10_readItem_178
                · refine lv_iconst (v := nI (1)) hx hb dX10_readItem_169 (by decide) ?_
                  refine lv_goto (tgt := 174) hx hb dX10_readItem_170 (by decide) ?_
                  refine call_V (As := [.int (nI (1))]) (rest := []) hE (ct_X10_want l E a (riK I) tr (1) (by omega) hR160) cm_X10_want (uw mt_L_X10_98 rfl) (gM_0 E a (riK I) tr) rfl rfl hP hD hS hl.1 rfl rfl (Nat.le_of_ble_eq_true rfl) ⟨by decide, by decide⟩ dX10_readItem_174 (fun H locs hP hD hS => ?_)
                  refine W.eq (g2 := F0 m 177 ls [.int (nI ((riK I) 13 0))]) rfl ?_
                  have hR162 : RJ (waJ (riK I) (1)) := RJ_wa hR160
                  refine lv_pop hx hb dX10_readItem_177 rfl ?_
                  have hw : (waJ (riK I) (1)) = (riJ I) := by first | (unfold riJ; rw [if_pos c53, if_pos c166]; done) | (unfold riJ; rw [if_pos c53, if_neg c166]; done)
                  have hP := Eq.mp (congrArg (fun q => va_P E.1 vwCl (WM E a q tr) H) hw) hP
                  have hD := Eq.mp (congrArg (fun q => va_D A (WM E a q tr)) hw) hD
                  exact ret_v hE rfl hP hD hS dX10_readItem_178
            · have hw : (ri1 I) = (riJ I) := by unfold riJ; rw [if_neg (by omega)]
              have hP := Eq.mp (congrArg (fun q => va_P E.1 vwCl (WM E a q tr) H) hw) hP
              have hD := Eq.mp (congrArg (fun q => va_D A (WM E a q tr)) hw) hD
              exact ret_v hE rfl hP hD hS dX10_readItem_56
