set_option maxHeartbeats 4000000 in
set_option maxRecDepth 100000 in
theorem ct_X10_readLeap (l : Launch) (E : cE) (a : Nat → Nat) (I : Nat → Nat → Nat) (tr : Int64) (hR : RJ I) (hH : I 2 1 ≤ 6) (hL2 : ∀ x, x < 12 → I 7 x ≤ 2) : Ct l E 5 yX10_readLeap cX10_readLeap 5 none [.ref (a 0)] (WM E a I tr) none (WM E a (leJ I) tr) := by
  refine Ct_of (plainFor_of_name (by decide)) (Nat.le_of_ble_eq_true rfl) ?_
  intro p e s m args below meth c A ls hE hP hD hS hl
  have hE : cEnv p s m args meth c E RX10 cX10_readLeap 5 none A := hE
  have hx := hE.1
  have hb := hE.2.1
  have hl : lv_has ls 5 [(0, .ref (a 0))] := hl
  have hP : va_P E.1 vwCl (WM E a I tr) s.heap := hP
  generalize hH : s.heap = H at hP hS ⊢
  have hS : va_S A s.heap H [] := by rw [hH]; exact hS
  clear hH
  have hT := hR.1
  have hT3 := hT.1
  have h10 := hR.2.1
  have h11 := hR.2.2.1
  have h12 := hR.2.2.2.1
  have h13 := hR.2.2.2.2.1
  have h14 := hR.2.2.2.2.2
  refine lv_aload_n hx hb dX10_readLeap_0 rfl (lv_at hl 0 rfl) ?_
  refine lv_aload_n hx hb dX10_readLeap_1 rfl (lv_at hl 0 rfl) ?_
  refine gf_X10_86 hE hP (0) (gM_0 E a I tr) (v := .int (nI (I (12) (0)))) rfl dX10_readLeap_2 ?_
  refine lv_iconst (v := nI (4)) hx hb dX10_readLeap_5 (by decide) ?_
  refine bN_ne (tgt := 42) hx hb (by omega) (by omega) dX10_readLeap_6 (by decide) (fun c6 => ?_) (fun c6 => ?_)
  · refine lv_iconst (v := nI (0)) hx hb dX10_readLeap_42 (by decide) ?_
    refine call_V (As := [.int (nI (0))]) (rest := []) hE (ct_X10_want l E a I tr (0) (by omega) hR) cm_X10_want (uw mt_L_X10_98 rfl) (gM_0 E a I tr) rfl rfl hP hD hS hl.1 rfl rfl (Nat.le_of_ble_eq_true rfl) ⟨by decide, by decide⟩ dX10_readLeap_43 (fun H locs hP hD hS => ?_)
    refine W.eq (g2 := F0 m 46 ls [.int (nI (I 13 0))]) rfl ?_
    have hR1 : RJ (waJ I (0)) := RJ_wa hR
    have hwf : (waJ I (0)) = (le1 I) := by first | (unfold le1 leZ; rw [if_pos ⟨c6, c19, c35⟩]; done) | (unfold le1 leZ; rw [if_neg (fun z9 => by omega)]; done)
    have hP := Eq.mp (congrArg (fun q => va_P E.1 vwCl (WM E a q tr) H) hwf) hP
    have hD := Eq.mp (congrArg (fun q => va_D A (WM E a q tr)) hwf) hD
    have hR2 : RJ (le1 I) := RJ_l1 hR
    have hR2d := hR2.2.2.2.2.1
    have hR2f := hR2.2.2.2.2.2
    refine lv_istore_n (lv' := [(1, .int (nI (I 13 0))), (0, .ref (a 0))]) hx hb dX10_readLeap_46 rfl hl (by decide) rfl (fun ls hl => ?_)
    refine lv_aload_n hx hb dX10_readLeap_47 rfl (lv_at hl 1 rfl) ?_
    refine lv_iconst (v := nI (0)) hx hb dX10_readLeap_48 (by decide) ?_
    refine lv_bipush (v := nI (95)) hx hb dX10_readLeap_49 (by decide) ?_
    refine call_V (As := [.int (nI (0)), .int (nI (95))]) (rest := []) hE (ct_X10_number l E a (le1 I) tr (nI (0)) (nI (95)) hR2) cm_X10_number (uw mt_L_X10_102 rfl) (gM_0 E a (le1 I) tr) rfl rfl hP hD hS hl.1 rfl rfl (Nat.le_of_ble_eq_true rfl) ⟨by decide, by decide⟩ dX10_readLeap_51 (fun H locs hP hD hS => ?_)
    refine W.eq (g2 := F0 m 54 ls [.int (nI ((le1 I) 13 0))]) rfl ?_
    have hR3 : RJ (waJ (le1 I) (nuZ (le1 I) (nI (0)) (nI (95)))) := RJ_wa hR2
    have hR3d := hR3.2.2.2.2.1
    have hR3f := hR3.2.2.2.2.2
    have hwf : (waJ (le1 I) (nuZ (le1 I) (nI (0)) (nI (95)))) = (le2 I) := rfl
    have hP := Eq.mp (congrArg (fun q => va_P E.1 vwCl (WM E a q tr) H) hwf) hP
    have hD := Eq.mp (congrArg (fun q => va_D A (WM E a q tr)) hwf) hD
    have hR4 : RJ (le2 I) := RJ_l2 hR
    have hR4d := hR4.2.2.2.2.1
    have hR4f := hR4.2.2.2.2.2
    refine lv_istore_n (lv' := [(2, .int (nI ((le1 I) 13 0))), (1, .int (nI (I 13 0))), (0, .ref (a 0))]) hx hb dX10_readLeap_54 rfl hl (by decide) rfl (fun ls hl => ?_)
    refine lv_aload_n hx hb dX10_readLeap_55 rfl (lv_at hl 2 rfl) ?_
    refine lv_iconst (v := nI (1)) hx hb dX10_readLeap_56 (by decide) ?_
    refine lv_bipush (v := nI (47)) hx hb dX10_readLeap_57 (by decide) ?_
    refine call_V (As := [.int (nI (1)), .int (nI (47))]) (rest := []) hE (ct_X10_number l E a (le2 I) tr (nI (1)) (nI (47)) hR4) cm_X10_number (uw mt_L_X10_102 rfl) (gM_0 E a (le2 I) tr) rfl rfl hP hD hS hl.1 rfl rfl (Nat.le_of_ble_eq_true rfl) ⟨by decide, by decide⟩ dX10_readLeap_59 (fun H locs hP hD hS => ?_)
    refine W.eq (g2 := F0 m 62 ls [.int (nI ((le2 I) 13 0))]) rfl ?_
    have hR5 : RJ (waJ (le2 I) (nuZ (le2 I) (nI (1)) (nI (47)))) := RJ_wa hR4
    have hR5d := hR5.2.2.2.2.1
    have hR5f := hR5.2.2.2.2.2
    have hwf : (waJ (le2 I) (nuZ (le2 I) (nI (1)) (nI (47)))) = (le3 I) := rfl
    have hP := Eq.mp (congrArg (fun q => va_P E.1 vwCl (WM E a q tr) H) hwf) hP
    have hD := Eq.mp (congrArg (fun q => va_D A (WM E a q tr)) hwf) hD
    have hR6 : RJ (le3 I) := RJ_l3 hR
    have hR6d := hR6.2.2.2.2.1
    have hR6f := hR6.2.2.2.2.2
    refine lv_istore_n (lv' := [(3, .int (nI ((le2 I) 13 0))), (2, .int (nI ((le1 I) 13 0))), (1, .int (nI (I 13 0))), (0, .ref (a 0))]) hx hb dX10_readLeap_62 rfl hl (by decide) rfl (fun ls hl => ?_)
    refine lv_aload_n hx hb dX10_readLeap_63 rfl (lv_at hl 3 rfl) ?_
    refine gf_X10_92 hE hP (0) (gM_0 E a (le3 I) tr) (v := .int (rN ((le3 I) (14) (0)))) rfl dX10_readLeap_64 ?_
    refine lv_bipush (v := (-9)) hx hb dX10_readLeap_67 (by decide) ?_
    refine bQ9_ne (tgt := 119) hx hb (by omega) dX10_readLeap_69 (by decide) (fun c69 => ?_) (fun c69 => ?_)
    · have hw : (le3 I) = (leJ I) := by first | (unfold leJ; rw [if_pos c69]; rfl; done) | (unfold leJ; rw [if_neg (by omega)]; done)
      have hP := Eq.mp (congrArg (fun q => va_P E.1 vwCl (WM E a q tr) H) hw) hP
      have hD := Eq.mp (congrArg (fun q => va_D A (WM E a q tr)) hw) hD
      exact ret_v hE rfl hP hD hS dX10_readLeap_119
    · have hv := le3_v hR c69
      have hz := leZ_v hv.1
      have hv2 := hv.2.1
      have hv3 := hv.2.2.2
      have hz1 := hz.2.1
      have hl7 : le3 I 7 (6 + I 13 0) < 2 := by rw [le3_off _ (by decide)]; exact hz.2.2
      refine lv_iconst (v := nI (2)) hx hb dX10_readLeap_72 (by decide) ?_
      refine lv_bipush (v := nI (6)) hx hb dX10_readLeap_73 (by decide) ?_
      refine lv_iload_n hx hb dX10_readLeap_75 rfl (lv_at hl 2 rfl) ?_
      refine lv_iadd hx hb dX10_readLeap_76 ?_
      refine tp (nI_add _ _) ?_
      refine lv_imul hx hb dX10_readLeap_77 ?_
      refine tp (pk_mul _ _) ?_
      refine lv_aload_n hx hb dX10_readLeap_78 rfl (lv_at hl 3 rfl) ?_
      refine gf_X10_29 hE hP (0) (gM_0 E a (le3 I) tr) (v := .ref (a 7)) rfl dX10_readLeap_79 ?_
      refine lv_bipush (v := nI (6)) hx hb dX10_readLeap_82 (by decide) ?_
      refine lv_iload_n hx hb dX10_readLeap_84 rfl (lv_at hl 2 rfl) ?_
      refine lv_iadd hx hb dX10_readLeap_85 ?_
      refine tp (nI_add _ _) ?_
      refine ald_i hE hP (7) (gM_7 E a (le3 I) tr) (by omega) (by decide) (r := nI ((le3 I) (7) (6 + I 13 0))) rfl dX10_readLeap_86 ?_
      refine lv_iadd hx hb dX10_readLeap_87 ?_
      refine tp (nI_add _ _) ?_
      refine lv_istore (lv' := [(4, .int (nI ((2) * (6 + I 13 0) + (le3 I) (7) (6 + I 13 0)))), (3, .int (nI ((le2 I) 13 0))), (2, .int (nI ((le1 I) 13 0))), (1, .int (nI (I 13 0))), (0, .ref (a 0))]) hx hb dX10_readLeap_88 hl (by decide) rfl (fun ls hl => ?_)
      refine lv_aload_n hx hb dX10_readLeap_90 rfl (lv_at hl 4 rfl) ?_
      refine gf_X10_32 hE hP (0) (gM_0 E a (le3 I) tr) (v := .ref (a 8)) rfl dX10_readLeap_91 ?_
      refine lv_iload hx hb dX10_readLeap_94 (lv_at hl 0 rfl) ?_
      refine lv_iload_n hx hb dX10_readLeap_96 rfl (lv_at hl 2 rfl) ?_
      refine ast_i hE hP hD hS (8) (gM_8 E a (le3 I) tr) (by omega) (by decide) (sM_8 E a (le3 I) tr ((2) * (6 + I 13 0) + (le3 I) (7) (6 + I 13 0)) ((le1 I) 13 0)) dX10_readLeap_97 (fun H locs hP hD hS => ?_)
      refine lv_aload_n hx hb dX10_readLeap_98 rfl (lv_at hl 4 rfl) ?_
      refine gf_X10_35 hE hP (0) (gM_0 E a (up2 (le3 I) (8) ((2) * (6 + I 13 0) + (le3 I) (7) (6 + I 13 0)) ((le1 I) 13 0)) tr) (v := .ref (a 9)) rfl dX10_readLeap_99 ?_
      refine lv_iload hx hb dX10_readLeap_102 (lv_at hl 0 rfl) ?_
      refine lv_iload_n hx hb dX10_readLeap_104 rfl (lv_at hl 1 rfl) ?_
      refine ast_i hE hP hD hS (9) (gM_9 E a (up2 (le3 I) (8) ((2) * (6 + I 13 0) + (le3 I) (7) (6 + I 13 0)) ((le1 I) 13 0)) tr) (by omega) (by decide) (sM_9 E a (up2 (le3 I) (8) ((2) * (6 + I 13 0) + (le3 I) (7) (6 + I 13 0)) ((le1 I) 13 0)) tr ((2) * (6 + I 13 0) + (le3 I) (7) (6 + I 13 0)) ((le2 I) 13 0)) dX10_readLeap_105 (fun H locs hP hD hS => ?_)
      refine lv_aload_n hx hb dX10_readLeap_106 rfl (lv_at hl 4 rfl) ?_
      refine gf_X10_29 hE hP (0) (gM_0 E a (up2 (up2 (le3 I) (8) ((2) * (6 + I 13 0) + (le3 I) (7) (6 + I 13 0)) ((le1 I) 13 0)) (9) ((2) * (6 + I 13 0) + (le3 I) (7) (6 + I 13 0)) ((le2 I) 13 0)) tr) (v := .ref (a 7)) rfl dX10_readLeap_107 ?_
      refine lv_bipush (v := nI (6)) hx hb dX10_readLeap_110 (by decide) ?_
      refine lv_iload_n hx hb dX10_readLeap_112 rfl (lv_at hl 3 rfl) ?_
      refine lv_iadd hx hb dX10_readLeap_113 ?_
      refine tp (nI_add _ _) ?_
      refine lv_dup2_11 hx hb dX10_readLeap_114 rfl rfl ?_
      refine ald_i hE hP (7) (gM_7 E a (up2 (up2 (le3 I) (8) ((2) * (6 + I 13 0) + (le3 I) (7) (6 + I 13 0)) ((le1 I) 13 0)) (9) ((2) * (6 + I 13 0) + (le3 I) (7) (6 + I 13 0)) ((le2 I) 13 0)) tr) (by omega) (by decide) (r := nI ((le3 I) (7) (6 + I 13 0))) rfl dX10_readLeap_115 ?_
      refine lv_iconst (v := nI (1)) hx hb dX10_readLeap_116 (by decide) ?_
      refine lv_iadd hx hb dX10_readLeap_117 ?_
      refine tp (nI_add _ _) ?_
      refine ast_i hE hP hD hS (7) (gM_7 E a (up2 (up2 (le3 I) (8) ((2) * (6 + I 13 0) + (le3 I) (7) (6 + I 13 0)) ((le1 I) 13 0)) (9) ((2) * (6 + I 13 0) + (le3 I) (7) (6 + I 13 0)) ((le2 I) 13 0)) tr) (by omega) (by decide) (sM_7 E a (up2 (up2 (le3 I) (8) ((2) * (6 + I 13 0) + (le3 I) (7) (6 + I 13 0)) ((le1 I) 13 0)) (9) ((2) * (6 + I 13 0) + (le3 I) (7) (6 + I 13 0)) ((le2 I) 13 0)) tr (6 + I 13 0) ((le3 I) (7) (6 + I 13 0) + 1)) dX10_readLeap_118 (fun H locs hP hD hS => ?_)
      have hw : (up2 (up2 (up2 (le3 I) (8) ((2) * (6 + I 13 0) + (le3 I) (7) (6 + I 13 0)) ((le1 I) 13 0)) (9) ((2) * (6 + I 13 0) + (le3 I) (7) (6 + I 13 0)) ((le2 I) 13 0)) (7) (6 + I 13 0) ((le3 I) (7) (6 + I 13 0) + 1)) = (leJ I) := by first | (unfold leJ; rw [if_pos c69]; rfl; done) | (unfold leJ; rw [if_neg (by omega)]; done)
      have hP := Eq.mp (congrArg (fun q => va_P E.1 vwCl (WM E a q tr) H) hw) hP
      have hD := Eq.mp (congrArg (fun q => va_D A (WM E a q tr)) hw) hD
      exact ret_v hE rfl hP hD hS dX10_readLeap_119
  · refine lv_aload_n hx hb dX10_readLeap_9 rfl (lv_at hl 0 rfl) ?_
    refine gf_X10_83 hE hP (0) (gM_0 E a I tr) (v := .int (nI (I (13) (0)))) rfl dX10_readLeap_10 ?_
    refine lv_aload_n hx hb dX10_readLeap_13 rfl (lv_at hl 0 rfl) ?_
    refine gf_X10_13 hE hP (0) (gM_0 E a I tr) (v := .ref (a 2)) rfl dX10_readLeap_14 ?_
    refine lv_iconst (v := nI (1)) hx hb dX10_readLeap_17 (by decide) ?_
    refine ald_i hE hP (2) (gM_2 E a I tr) (by omega) (by decide) (r := nI (I (2) (1))) rfl dX10_readLeap_18 ?_
    refine bN_ge (tgt := 42) hx hb (by omega) (by omega) dX10_readLeap_19 (by decide) (fun c19 => ?_) (fun c19 => ?_)
    · refine lv_iconst (v := nI (0)) hx hb dX10_readLeap_42 (by decide) ?_
      refine call_V (As := [.int (nI (0))]) (rest := []) hE (ct_X10_want l E a I tr (0) (by omega) hR) cm_X10_want (uw mt_L_X10_98 rfl) (gM_0 E a I tr) rfl rfl hP hD hS hl.1 rfl rfl (Nat.le_of_ble_eq_true rfl) ⟨by decide, by decide⟩ dX10_readLeap_43 (fun H locs hP hD hS => ?_)
      refine W.eq (g2 := F0 m 46 ls [.int (nI (I 13 0))]) rfl ?_
      have hR7 : RJ (waJ I (0)) := RJ_wa hR
      have hwf : (waJ I (0)) = (le1 I) := by first | (unfold le1 leZ; rw [if_pos ⟨c6, c19, c35⟩]; done) | (unfold le1 leZ; rw [if_neg (fun z9 => by omega)]; done)
      have hP := Eq.mp (congrArg (fun q => va_P E.1 vwCl (WM E a q tr) H) hwf) hP
      have hD := Eq.mp (congrArg (fun q => va_D A (WM E a q tr)) hwf) hD
      have hR8 : RJ (le1 I) := RJ_l1 hR
      have hR8d := hR8.2.2.2.2.1
      have hR8f := hR8.2.2.2.2.2
      refine lv_istore_n (lv' := [(1, .int (nI (I 13 0))), (0, .ref (a 0))]) hx hb dX10_readLeap_46 rfl hl (by decide) rfl (fun ls hl => ?_)
      refine lv_aload_n hx hb dX10_readLeap_47 rfl (lv_at hl 1 rfl) ?_
      refine lv_iconst (v := nI (0)) hx hb dX10_readLeap_48 (by decide) ?_
      refine lv_bipush (v := nI (95)) hx hb dX10_readLeap_49 (by decide) ?_
      refine call_V (As := [.int (nI (0)), .int (nI (95))]) (rest := []) hE (ct_X10_number l E a (le1 I) tr (nI (0)) (nI (95)) hR8) cm_X10_number (uw mt_L_X10_102 rfl) (gM_0 E a (le1 I) tr) rfl rfl hP hD hS hl.1 rfl rfl (Nat.le_of_ble_eq_true rfl) ⟨by decide, by decide⟩ dX10_readLeap_51 (fun H locs hP hD hS => ?_)
      refine W.eq (g2 := F0 m 54 ls [.int (nI ((le1 I) 13 0))]) rfl ?_
      have hR9 : RJ (waJ (le1 I) (nuZ (le1 I) (nI (0)) (nI (95)))) := RJ_wa hR8
      have hR9d := hR9.2.2.2.2.1
      have hR9f := hR9.2.2.2.2.2
      have hwf : (waJ (le1 I) (nuZ (le1 I) (nI (0)) (nI (95)))) = (le2 I) := rfl
      have hP := Eq.mp (congrArg (fun q => va_P E.1 vwCl (WM E a q tr) H) hwf) hP
      have hD := Eq.mp (congrArg (fun q => va_D A (WM E a q tr)) hwf) hD
      have hR10 : RJ (le2 I) := RJ_l2 hR
      have hR10d := hR10.2.2.2.2.1
      have hR10f := hR10.2.2.2.2.2
      refine lv_istore_n (lv' := [(2, .int (nI ((le1 I) 13 0))), (1, .int (nI (I 13 0))), (0, .ref (a 0))]) hx hb dX10_readLeap_54 rfl hl (by decide) rfl (fun ls hl => ?_)
      refine lv_aload_n hx hb dX10_readLeap_55 rfl (lv_at hl 2 rfl) ?_
      refine lv_iconst (v := nI (1)) hx hb dX10_readLeap_56 (by decide) ?_
      refine lv_bipush (v := nI (47)) hx hb dX10_readLeap_57 (by decide) ?_
      refine call_V (As := [.int (nI (1)), .int (nI (47))]) (rest := []) hE (ct_X10_number l E a (le2 I) tr (nI (1)) (nI (47)) hR10) cm_X10_number (uw mt_L_X10_102 rfl) (gM_0 E a (le2 I) tr) rfl rfl hP hD hS hl.1 rfl rfl (Nat.le_of_ble_eq_true rfl) ⟨by decide, by decide⟩ dX10_readLeap_59 (fun H locs hP hD hS => ?_)
      refine W.eq (g2 := F0 m 62 ls [.int (nI ((le2 I) 13 0))]) rfl ?_
      have hR11 : RJ (waJ (le2 I) (nuZ (le2 I) (nI (1)) (nI (47)))) := RJ_wa hR10
      have hR11d := hR11.2.2.2.2.1
      have hR11f := hR11.2.2.2.2.2
      have hwf : (waJ (le2 I) (nuZ (le2 I) (nI (1)) (nI (47)))) = (le3 I) := rfl
      have hP := Eq.mp (congrArg (fun q => va_P E.1 vwCl (WM E a q tr) H) hwf) hP
      have hD := Eq.mp (congrArg (fun q => va_D A (WM E a q tr)) hwf) hD
      have hR12 : RJ (le3 I) := RJ_l3 hR
      have hR12d := hR12.2.2.2.2.1
      have hR12f := hR12.2.2.2.2.2
      refine lv_istore_n (lv' := [(3, .int (nI ((le2 I) 13 0))), (2, .int (nI ((le1 I) 13 0))), (1, .int (nI (I 13 0))), (0, .ref (a 0))]) hx hb dX10_readLeap_62 rfl hl (by decide) rfl (fun ls hl => ?_)
      refine lv_aload_n hx hb dX10_readLeap_63 rfl (lv_at hl 3 rfl) ?_
      refine gf_X10_92 hE hP (0) (gM_0 E a (le3 I) tr) (v := .int (rN ((le3 I) (14) (0)))) rfl dX10_readLeap_64 ?_
      refine lv_bipush (v := (-9)) hx hb dX10_readLeap_67 (by decide) ?_
      refine bQ9_ne (tgt := 119) hx hb (by omega) dX10_readLeap_69 (by decide) (fun c69 => ?_) (fun c69 => ?_)
      · have hw : (le3 I) = (leJ I) := by first | (unfold leJ; rw [if_pos c69]; rfl; done) | (unfold leJ; rw [if_neg (by omega)]; done)
        have hP := Eq.mp (congrArg (fun q => va_P E.1 vwCl (WM E a q tr) H) hw) hP
        have hD := Eq.mp (congrArg (fun q => va_D A (WM E a q tr)) hw) hD
        exact ret_v hE rfl hP hD hS dX10_readLeap_119
      · have hv := le3_v hR c69
        have hz := leZ_v hv.1
        have hv2 := hv.2.1
        have hv3 := hv.2.2.2
        have hz1 := hz.2.1
        have hl7 : le3 I 7 (6 + I 13 0) < 2 := by rw [le3_off _ (by decide)]; exact hz.2.2
        refine lv_iconst (v := nI (2)) hx hb dX10_readLeap_72 (by decide) ?_
        refine lv_bipush (v := nI (6)) hx hb dX10_readLeap_73 (by decide) ?_
        refine lv_iload_n hx hb dX10_readLeap_75 rfl (lv_at hl 2 rfl) ?_
        refine lv_iadd hx hb dX10_readLeap_76 ?_
        refine tp (nI_add _ _) ?_
        refine lv_imul hx hb dX10_readLeap_77 ?_
        refine tp (pk_mul _ _) ?_
        refine lv_aload_n hx hb dX10_readLeap_78 rfl (lv_at hl 3 rfl) ?_
        refine gf_X10_29 hE hP (0) (gM_0 E a (le3 I) tr) (v := .ref (a 7)) rfl dX10_readLeap_79 ?_
        refine lv_bipush (v := nI (6)) hx hb dX10_readLeap_82 (by decide) ?_
        refine lv_iload_n hx hb dX10_readLeap_84 rfl (lv_at hl 2 rfl) ?_
        refine lv_iadd hx hb dX10_readLeap_85 ?_
        refine tp (nI_add _ _) ?_
        refine ald_i hE hP (7) (gM_7 E a (le3 I) tr) (by omega) (by decide) (r := nI ((le3 I) (7) (6 + I 13 0))) rfl dX10_readLeap_86 ?_
        refine lv_iadd hx hb dX10_readLeap_87 ?_
        refine tp (nI_add _ _) ?_
        refine lv_istore (lv' := [(4, .int (nI ((2) * (6 + I 13 0) + (le3 I) (7) (6 + I 13 0)))), (3, .int (nI ((le2 I) 13 0))), (2, .int (nI ((le1 I) 13 0))), (1, .int (nI (I 13 0))), (0, .ref (a 0))]) hx hb dX10_readLeap_88 hl (by decide) rfl (fun ls hl => ?_)
        refine lv_aload_n hx hb dX10_readLeap_90 rfl (lv_at hl 4 rfl) ?_
        refine gf_X10_32 hE hP (0) (gM_0 E a (le3 I) tr) (v := .ref (a 8)) rfl dX10_readLeap_91 ?_
        refine lv_iload hx hb dX10_readLeap_94 (lv_at hl 0 rfl) ?_
        refine lv_iload_n hx hb dX10_readLeap_96 rfl (lv_at hl 2 rfl) ?_
        refine ast_i hE hP hD hS (8) (gM_8 E a (le3 I) tr) (by omega) (by decide) (sM_8 E a (le3 I) tr ((2) * (6 + I 13 0) + (le3 I) (7) (6 + I 13 0)) ((le1 I) 13 0)) dX10_readLeap_97 (fun H locs hP hD hS => ?_)
        refine lv_aload_n hx hb dX10_readLeap_98 rfl (lv_at hl 4 rfl) ?_
        refine gf_X10_35 hE hP (0) (gM_0 E a (up2 (le3 I) (8) ((2) * (6 + I 13 0) + (le3 I) (7) (6 + I 13 0)) ((le1 I) 13 0)) tr) (v := .ref (a 9)) rfl dX10_readLeap_99 ?_
        refine lv_iload hx hb dX10_readLeap_102 (lv_at hl 0 rfl) ?_
        refine lv_iload_n hx hb dX10_readLeap_104 rfl (lv_at hl 1 rfl) ?_
        refine ast_i hE hP hD hS (9) (gM_9 E a (up2 (le3 I) (8) ((2) * (6 + I 13 0) + (le3 I) (7) (6 + I 13 0)) ((le1 I) 13 0)) tr) (by omega) (by decide) (sM_9 E a (up2 (le3 I) (8) ((2) * (6 + I 13 0) + (le3 I) (7) (6 + I 13 0)) ((le1 I) 13 0)) tr ((2) * (6 + I 13 0) + (le3 I) (7) (6 + I 13 0)) ((le2 I) 13 0)) dX10_readLeap_105 (fun H locs hP hD hS => ?_)
        refine lv_aload_n hx hb dX10_readLeap_106 rfl (lv_at hl 4 rfl) ?_
        refine gf_X10_29 hE hP (0) (gM_0 E a (up2 (up2 (le3 I) (8) ((2) * (6 + I 13 0) + (le3 I) (7) (6 + I 13 0)) ((le1 I) 13 0)) (9) ((2) * (6 + I 13 0) + (le3 I) (7) (6 + I 13 0)) ((le2 I) 13 0)) tr) (v := .ref (a 7)) rfl dX10_readLeap_107 ?_
        refine lv_bipush (v := nI (6)) hx hb dX10_readLeap_110 (by decide) ?_
        refine lv_iload_n hx hb dX10_readLeap_112 rfl (lv_at hl 3 rfl) ?_
        refine lv_iadd hx hb dX10_readLeap_113 ?_
        refine tp (nI_add _ _) ?_
        refine lv_dup2_11 hx hb dX10_readLeap_114 rfl rfl ?_
        refine ald_i hE hP (7) (gM_7 E a (up2 (up2 (le3 I) (8) ((2) * (6 + I 13 0) + (le3 I) (7) (6 + I 13 0)) ((le1 I) 13 0)) (9) ((2) * (6 + I 13 0) + (le3 I) (7) (6 + I 13 0)) ((le2 I) 13 0)) tr) (by omega) (by decide) (r := nI ((le3 I) (7) (6 + I 13 0))) rfl dX10_readLeap_115 ?_
        refine lv_iconst (v := nI (1)) hx hb dX10_readLeap_116 (by decide) ?_
        refine lv_iadd hx hb dX10_readLeap_117 ?_
        refine tp (nI_add _ _) ?_
        refine ast_i hE hP hD hS (7) (gM_7 E a (up2 (up2 (le3 I) (8) ((2) * (6 + I 13 0) + (le3 I) (7) (6 + I 13 0)) ((le1 I) 13 0)) (9) ((2) * (6 + I 13 0) + (le3 I) (7) (6 + I 13 0)) ((le2 I) 13 0)) tr) (by omega) (by decide) (sM_7 E a (up2 (up2 (le3 I) (8) ((2) * (6 + I 13 0) + (le3 I) (7) (6 + I 13 0)) ((le1 I) 13 0)) (9) ((2) * (6 + I 13 0) + (le3 I) (7) (6 + I 13 0)) ((le2 I) 13 0)) tr (6 + I 13 0) ((le3 I) (7) (6 + I 13 0) + 1)) dX10_readLeap_118 (fun H locs hP hD hS => ?_)
        have hw : (up2 (up2 (up2 (le3 I) (8) ((2) * (6 + I 13 0) + (le3 I) (7) (6 + I 13 0)) ((le1 I) 13 0)) (9) ((2) * (6 + I 13 0) + (le3 I) (7) (6 + I 13 0)) ((le2 I) 13 0)) (7) (6 + I 13 0) ((le3 I) (7) (6 + I 13 0) + 1)) = (leJ I) := by first | (unfold leJ; rw [if_pos c69]; rfl; done) | (unfold leJ; rw [if_neg (by omega)]; done)
        have hP := Eq.mp (congrArg (fun q => va_P E.1 vwCl (WM E a q tr) H) hw) hP
        have hD := Eq.mp (congrArg (fun q => va_D A (WM E a q tr)) hw) hD
        exact ret_v hE rfl hP hD hS dX10_readLeap_119
    · have hl7a := hL2 (6 + I 13 0) (by omega)
      refine lv_aload_n hx hb dX10_readLeap_22 rfl (lv_at hl 0 rfl) ?_
      refine gf_X10_29 hE hP (0) (gM_0 E a I tr) (v := .ref (a 7)) rfl dX10_readLeap_23 ?_
      refine lv_bipush (v := nI (6)) hx hb dX10_readLeap_26 (by decide) ?_
      refine lv_aload_n hx hb dX10_readLeap_28 rfl (lv_at hl 0 rfl) ?_
      refine gf_X10_83 hE hP (0) (gM_0 E a I tr) (v := .int (nI (I (13) (0)))) rfl dX10_readLeap_29 ?_
      refine lv_iadd hx hb dX10_readLeap_32 ?_
      refine tp (nI_add _ _) ?_
      refine ald_i hE hP (7) (gM_7 E a I tr) (by omega) (by decide) (r := nI (I (7) (6 + (I (13) (0))))) rfl dX10_readLeap_33 ?_
      refine lv_iconst (v := nI (2)) hx hb dX10_readLeap_34 (by decide) ?_
      refine bN_ge (tgt := 42) hx hb (by omega) (by omega) dX10_readLeap_35 (by decide) (fun c35 => ?_) (fun c35 => ?_)
      · refine lv_iconst (v := nI (0)) hx hb dX10_readLeap_42 (by decide) ?_
        refine call_V (As := [.int (nI (0))]) (rest := []) hE (ct_X10_want l E a I tr (0) (by omega) hR) cm_X10_want (uw mt_L_X10_98 rfl) (gM_0 E a I tr) rfl rfl hP hD hS hl.1 rfl rfl (Nat.le_of_ble_eq_true rfl) ⟨by decide, by decide⟩ dX10_readLeap_43 (fun H locs hP hD hS => ?_)
        refine W.eq (g2 := F0 m 46 ls [.int (nI (I 13 0))]) rfl ?_
        have hR13 : RJ (waJ I (0)) := RJ_wa hR
        have hwf : (waJ I (0)) = (le1 I) := by first | (unfold le1 leZ; rw [if_pos ⟨c6, c19, c35⟩]; done) | (unfold le1 leZ; rw [if_neg (fun z9 => by omega)]; done)
        have hP := Eq.mp (congrArg (fun q => va_P E.1 vwCl (WM E a q tr) H) hwf) hP
        have hD := Eq.mp (congrArg (fun q => va_D A (WM E a q tr)) hwf) hD
        have hR14 : RJ (le1 I) := RJ_l1 hR
        have hR14d := hR14.2.2.2.2.1
        have hR14f := hR14.2.2.2.2.2
        refine lv_istore_n (lv' := [(1, .int (nI (I 13 0))), (0, .ref (a 0))]) hx hb dX10_readLeap_46 rfl hl (by decide) rfl (fun ls hl => ?_)
        refine lv_aload_n hx hb dX10_readLeap_47 rfl (lv_at hl 1 rfl) ?_
        refine lv_iconst (v := nI (0)) hx hb dX10_readLeap_48 (by decide) ?_
        refine lv_bipush (v := nI (95)) hx hb dX10_readLeap_49 (by decide) ?_
        refine call_V (As := [.int (nI (0)), .int (nI (95))]) (rest := []) hE (ct_X10_number l E a (le1 I) tr (nI (0)) (nI (95)) hR14) cm_X10_number (uw mt_L_X10_102 rfl) (gM_0 E a (le1 I) tr) rfl rfl hP hD hS hl.1 rfl rfl (Nat.le_of_ble_eq_true rfl) ⟨by decide, by decide⟩ dX10_readLeap_51 (fun H locs hP hD hS => ?_)
        refine W.eq (g2 := F0 m 54 ls [.int (nI ((le1 I) 13 0))]) rfl ?_
        have hR15 : RJ (waJ (le1 I) (nuZ (le1 I) (nI (0)) (nI (95)))) := RJ_wa hR14
        have hR15d := hR15.2.2.2.2.1
        have hR15f := hR15.2.2.2.2.2
        have hwf : (waJ (le1 I) (nuZ (le1 I) (nI (0)) (nI (95)))) = (le2 I) := rfl
        have hP := Eq.mp (congrArg (fun q => va_P E.1 vwCl (WM E a q tr) H) hwf) hP
        have hD := Eq.mp (congrArg (fun q => va_D A (WM E a q tr)) hwf) hD
        have hR16 : RJ (le2 I) := RJ_l2 hR
        have hR16d := hR16.2.2.2.2.1
        have hR16f := hR16.2.2.2.2.2
        refine lv_istore_n (lv' := [(2, .int (nI ((le1 I) 13 0))), (1, .int (nI (I 13 0))), (0, .ref (a 0))]) hx hb dX10_readLeap_54 rfl hl (by decide) rfl (fun ls hl => ?_)
        refine lv_aload_n hx hb dX10_readLeap_55 rfl (lv_at hl 2 rfl) ?_
        refine lv_iconst (v := nI (1)) hx hb dX10_readLeap_56 (by decide) ?_
        refine lv_bipush (v := nI (47)) hx hb dX10_readLeap_57 (by decide) ?_
        refine call_V (As := [.int (nI (1)), .int (nI (47))]) (rest := []) hE (ct_X10_number l E a (le2 I) tr (nI (1)) (nI (47)) hR16) cm_X10_number (uw mt_L_X10_102 rfl) (gM_0 E a (le2 I) tr) rfl rfl hP hD hS hl.1 rfl rfl (Nat.le_of_ble_eq_true rfl) ⟨by decide, by decide⟩ dX10_readLeap_59 (fun H locs hP hD hS => ?_)
        refine W.eq (g2 := F0 m 62 ls [.int (nI ((le2 I) 13 0))]) rfl ?_
        have hR17 : RJ (waJ (le2 I) (nuZ (le2 I) (nI (1)) (nI (47)))) := RJ_wa hR16
        have hR17d := hR17.2.2.2.2.1
        have hR17f := hR17.2.2.2.2.2
        have hwf : (waJ (le2 I) (nuZ (le2 I) (nI (1)) (nI (47)))) = (le3 I) := rfl
        have hP := Eq.mp (congrArg (fun q => va_P E.1 vwCl (WM E a q tr) H) hwf) hP
        have hD := Eq.mp (congrArg (fun q => va_D A (WM E a q tr)) hwf) hD
        have hR18 : RJ (le3 I) := RJ_l3 hR
        have hR18d := hR18.2.2.2.2.1
        have hR18f := hR18.2.2.2.2.2
        refine lv_istore_n (lv' := [(3, .int (nI ((le2 I) 13 0))), (2, .int (nI ((le1 I) 13 0))), (1, .int (nI (I 13 0))), (0, .ref (a 0))]) hx hb dX10_readLeap_62 rfl hl (by decide) rfl (fun ls hl => ?_)
        refine lv_aload_n hx hb dX10_readLeap_63 rfl (lv_at hl 3 rfl) ?_
        refine gf_X10_92 hE hP (0) (gM_0 E a (le3 I) tr) (v := .int (rN ((le3 I) (14) (0)))) rfl dX10_readLeap_64 ?_
        refine lv_bipush (v := (-9)) hx hb dX10_readLeap_67 (by decide) ?_
        refine bQ9_ne (tgt := 119) hx hb (by omega) dX10_readLeap_69 (by decide) (fun c69 => ?_) (fun c69 => ?_)
        · have hw : (le3 I) = (leJ I) := by first | (unfold leJ; rw [if_pos c69]; rfl; done) | (unfold leJ; rw [if_neg (by omega)]; done)
          have hP := Eq.mp (congrArg (fun q => va_P E.1 vwCl (WM E a q tr) H) hw) hP
          have hD := Eq.mp (congrArg (fun q => va_D A (WM E a q tr)) hw) hD
          exact ret_v hE rfl hP hD hS dX10_readLeap_119
        · have hv := le3_v hR c69
          have hz := leZ_v hv.1
          have hv2 := hv.2.1
          have hv3 := hv.2.2.2
          have hz1 := hz.2.1
          have hl7 : le3 I 7 (6 + I 13 0) < 2 := by rw [le3_off _ (by decide)]; exact hz.2.2
          refine lv_iconst (v := nI (2)) hx hb dX10_readLeap_72 (by decide) ?_
          refine lv_bipush (v := nI (6)) hx hb dX10_readLeap_73 (by decide) ?_
          refine lv_iload_n hx hb dX10_readLeap_75 rfl (lv_at hl 2 rfl) ?_
          refine lv_iadd hx hb dX10_readLeap_76 ?_
          refine tp (nI_add _ _) ?_
          refine lv_imul hx hb dX10_readLeap_77 ?_
          refine tp (pk_mul _ _) ?_
          refine lv_aload_n hx hb dX10_readLeap_78 rfl (lv_at hl 3 rfl) ?_
          refine gf_X10_29 hE hP (0) (gM_0 E a (le3 I) tr) (v := .ref (a 7)) rfl dX10_readLeap_79 ?_
          refine lv_bipush (v := nI (6)) hx hb dX10_readLeap_82 (by decide) ?_
          refine lv_iload_n hx hb dX10_readLeap_84 rfl (lv_at hl 2 rfl) ?_
          refine lv_iadd hx hb dX10_readLeap_85 ?_
          refine tp (nI_add _ _) ?_
          refine ald_i hE hP (7) (gM_7 E a (le3 I) tr) (by omega) (by decide) (r := nI ((le3 I) (7) (6 + I 13 0))) rfl dX10_readLeap_86 ?_
          refine lv_iadd hx hb dX10_readLeap_87 ?_
          refine tp (nI_add _ _) ?_
          refine lv_istore (lv' := [(4, .int (nI ((2) * (6 + I 13 0) + (le3 I) (7) (6 + I 13 0)))), (3, .int (nI ((le2 I) 13 0))), (2, .int (nI ((le1 I) 13 0))), (1, .int (nI (I 13 0))), (0, .ref (a 0))]) hx hb dX10_readLeap_88 hl (by decide) rfl (fun ls hl => ?_)
          refine lv_aload_n hx hb dX10_readLeap_90 rfl (lv_at hl 4 rfl) ?_
          refine gf_X10_32 hE hP (0) (gM_0 E a (le3 I) tr) (v := .ref (a 8)) rfl dX10_readLeap_91 ?_
          refine lv_iload hx hb dX10_readLeap_94 (lv_at hl 0 rfl) ?_
          refine lv_iload_n hx hb dX10_readLeap_96 rfl (lv_at hl 2 rfl) ?_
          refine ast_i hE hP hD hS (8) (gM_8 E a (le3 I) tr) (by omega) (by decide) (sM_8 E a (le3 I) tr ((2) * (6 + I 13 0) + (le3 I) (7) (6 + I 13 0)) ((le1 I) 13 0)) dX10_readLeap_97 (fun H locs hP hD hS => ?_)
          refine lv_aload_n hx hb dX10_readLeap_98 rfl (lv_at hl 4 rfl) ?_
          refine gf_X10_35 hE hP (0) (gM_0 E a (up2 (le3 I) (8) ((2) * (6 + I 13 0) + (le3 I) (7) (6 + I 13 0)) ((le1 I) 13 0)) tr) (v := .ref (a 9)) rfl dX10_readLeap_99 ?_
          refine lv_iload hx hb dX10_readLeap_102 (lv_at hl 0 rfl) ?_
          refine lv_iload_n hx hb dX10_readLeap_104 rfl (lv_at hl 1 rfl) ?_
          refine ast_i hE hP hD hS (9) (gM_9 E a (up2 (le3 I) (8) ((2) * (6 + I 13 0) + (le3 I) (7) (6 + I 13 0)) ((le1 I) 13 0)) tr) (by omega) (by decide) (sM_9 E a (up2 (le3 I) (8) ((2) * (6 + I 13 0) + (le3 I) (7) (6 + I 13 0)) ((le1 I) 13 0)) tr ((2) * (6 + I 13 0) + (le3 I) (7) (6 + I 13 0)) ((le2 I) 13 0)) dX10_readLeap_105 (fun H locs hP hD hS => ?_)
          refine lv_aload_n hx hb dX10_readLeap_106 rfl (lv_at hl 4 rfl) ?_
          refine gf_X10_29 hE hP (0) (gM_0 E a (up2 (up2 (le3 I) (8) ((2) * (6 + I 13 0) + (le3 I) (7) (6 + I 13 0)) ((le1 I) 13 0)) (9) ((2) * (6 + I 13 0) + (le3 I) (7) (6 + I 13 0)) ((le2 I) 13 0)) tr) (v := .ref (a 7)) rfl dX10_readLeap_107 ?_
          refine lv_bipush (v := nI (6)) hx hb dX10_readLeap_110 (by decide) ?_
          refine lv_iload_n hx hb dX10_readLeap_112 rfl (lv_at hl 3 rfl) ?_
          refine lv_iadd hx hb dX10_readLeap_113 ?_
          refine tp (nI_add _ _) ?_
          refine lv_dup2_11 hx hb dX10_readLeap_114 rfl rfl ?_
          refine ald_i hE hP (7) (gM_7 E a (up2 (up2 (le3 I) (8) ((2) * (6 + I 13 0) + (le3 I) (7) (6 + I 13 0)) ((le1 I) 13 0)) (9) ((2) * (6 + I 13 0) + (le3 I) (7) (6 + I 13 0)) ((le2 I) 13 0)) tr) (by omega) (by decide) (r := nI ((le3 I) (7) (6 + I 13 0))) rfl dX10_readLeap_115 ?_
          refine lv_iconst (v := nI (1)) hx hb dX10_readLeap_116 (by decide) ?_
          refine lv_iadd hx hb dX10_readLeap_117 ?_
          refine tp (nI_add _ _) ?_
          refine ast_i hE hP hD hS (7) (gM_7 E a (up2 (up2 (le3 I) (8) ((2) * (6 + I 13 0) + (le3 I) (7) (6 + I 13 0)) ((le1 I) 13 0)) (9) ((2) * (6 + I 13 0) + (le3 I) (7) (6 + I 13 0)) ((le2 I) 13 0)) tr) (by omega) (by decide) (sM_7 E a (up2 (up2 (le3 I) (8) ((2) * (6 + I 13 0) + (le3 I) (7) (6 + I 13 0)) ((le1 I) 13 0)) (9) ((2) * (6 + I 13 0) + (le3 I) (7) (6 + I 13 0)) ((le2 I) 13 0)) tr (6 + I 13 0) ((le3 I) (7) (6 + I 13 0) + 1)) dX10_readLeap_118 (fun H locs hP hD hS => ?_)
          have hw : (up2 (up2 (up2 (le3 I) (8) ((2) * (6 + I 13 0) + (le3 I) (7) (6 + I 13 0)) ((le1 I) 13 0)) (9) ((2) * (6 + I 13 0) + (le3 I) (7) (6 + I 13 0)) ((le2 I) 13 0)) (7) (6 + I 13 0) ((le3 I) (7) (6 + I 13 0) + 1)) = (leJ I) := by first | (unfold leJ; rw [if_pos c69]; rfl; done) | (unfold leJ; rw [if_neg (by omega)]; done)
          have hP := Eq.mp (congrArg (fun q => va_P E.1 vwCl (WM E a q tr) H) hw) hP
          have hD := Eq.mp (congrArg (fun q => va_D A (WM E a q tr)) hw) hD
          exact ret_v hE rfl hP hD hS dX10_readLeap_119
      · refine lv_iconst (v := nI (1)) hx hb dX10_readLeap_38 (by decide) ?_
        refine lv_goto (tgt := 43) hx hb dX10_readLeap_39 (by decide) ?_
        refine call_V (As := [.int (nI (1))]) (rest := []) hE (ct_X10_want l E a I tr (1) (by omega) hR) cm_X10_want (uw mt_L_X10_98 rfl) (gM_0 E a I tr) rfl rfl hP hD hS hl.1 rfl rfl (Nat.le_of_ble_eq_true rfl) ⟨by decide, by decide⟩ dX10_readLeap_43 (fun H locs hP hD hS => ?_)
        refine W.eq (g2 := F0 m 46 ls [.int (nI (I 13 0))]) rfl ?_
        have hR19 : RJ (waJ I (1)) := RJ_wa hR
        have hwf : (waJ I (1)) = (le1 I) := by first | (unfold le1 leZ; rw [if_pos ⟨c6, c19, c35⟩]; done) | (unfold le1 leZ; rw [if_neg (fun z9 => by omega)]; done)
        have hP := Eq.mp (congrArg (fun q => va_P E.1 vwCl (WM E a q tr) H) hwf) hP
        have hD := Eq.mp (congrArg (fun q => va_D A (WM E a q tr)) hwf) hD
        have hR20 : RJ (le1 I) := RJ_l1 hR
        have hR20d := hR20.2.2.2.2.1
        have hR20f := hR20.2.2.2.2.2
        refine lv_istore_n (lv' := [(1, .int (nI (I 13 0))), (0, .ref (a 0))]) hx hb dX10_readLeap_46 rfl hl (by decide) rfl (fun ls hl => ?_)
        refine lv_aload_n hx hb dX10_readLeap_47 rfl (lv_at hl 1 rfl) ?_
        refine lv_iconst (v := nI (0)) hx hb dX10_readLeap_48 (by decide) ?_
        refine lv_bipush (v := nI (95)) hx hb dX10_readLeap_49 (by decide) ?_
        refine call_V (As := [.int (nI (0)), .int (nI (95))]) (rest := []) hE (ct_X10_number l E a (le1 I) tr (nI (0)) (nI (95)) hR20) cm_X10_number (uw mt_L_X10_102 rfl) (gM_0 E a (le1 I) tr) rfl rfl hP hD hS hl.1 rfl rfl (Nat.le_of_ble_eq_true rfl) ⟨by decide, by decide⟩ dX10_readLeap_51 (fun H locs hP hD hS => ?_)
        refine W.eq (g2 := F0 m 54 ls [.int (nI ((le1 I) 13 0))]) rfl ?_
        have hR21 : RJ (waJ (le1 I) (nuZ (le1 I) (nI (0)) (nI (95)))) := RJ_wa hR20
        have hR21d := hR21.2.2.2.2.1
        have hR21f := hR21.2.2.2.2.2
        have hwf : (waJ (le1 I) (nuZ (le1 I) (nI (0)) (nI (95)))) = (le2 I) := rfl
        have hP := Eq.mp (congrArg (fun q => va_P E.1 vwCl (WM E a q tr) H) hwf) hP
        have hD := Eq.mp (congrArg (fun q => va_D A (WM E a q tr)) hwf) hD
        have hR22 : RJ (le2 I) := RJ_l2 hR
        have hR22d := hR22.2.2.2.2.1
        have hR22f := hR22.2.2.2.2.2
        refine lv_istore_n (lv' := [(2, .int (nI ((le1 I) 13 0))), (1, .int (nI (I 13 0))), (0, .ref (a 0))]) hx hb dX10_readLeap_54 rfl hl (by decide) rfl (fun ls hl => ?_)
        refine lv_aload_n hx hb dX10_readLeap_55 rfl (lv_at hl 2 rfl) ?_
        refine lv_iconst (v := nI (1)) hx hb dX10_readLeap_56 (by decide) ?_
        refine lv_bipush (v := nI (47)) hx hb dX10_readLeap_57 (by decide) ?_
        refine call_V (As := [.int (nI (1)), .int (nI (47))]) (rest := []) hE (ct_X10_number l E a (le2 I) tr (nI (1)) (nI (47)) hR22) cm_X10_number (uw mt_L_X10_102 rfl) (gM_0 E a (le2 I) tr) rfl rfl hP hD hS hl.1 rfl rfl (Nat.le_of_ble_eq_true rfl) ⟨by decide, by decide⟩ dX10_readLeap_59 (fun H locs hP hD hS => ?_)
        refine W.eq (g2 := F0 m 62 ls [.int (nI ((le2 I) 13 0))]) rfl ?_
        have hR23 : RJ (waJ (le2 I) (nuZ (le2 I) (nI (1)) (nI (47)))) := RJ_wa hR22
        have hR23d := hR23.2.2.2.2.1
        have hR23f := hR23.2.2.2.2.2
        have hwf : (waJ (le2 I) (nuZ (le2 I) (nI (1)) (nI (47)))) = (le3 I) := rfl
        have hP := Eq.mp (congrArg (fun q => va_P E.1 vwCl (WM E a q tr) H) hwf) hP
        have hD := Eq.mp (congrArg (fun q => va_D A (WM E a q tr)) hwf) hD
        have hR24 : RJ (le3 I) := RJ_l3 hR
        have hR24d := hR24.2.2.2.2.1
        have hR24f := hR24.2.2.2.2.2
        refine lv_istore_n (lv' := [(3, .int (nI ((le2 I) 13 0))), (2, .int (nI ((le1 I) 13 0))), (1, .int (nI (I 13 0))), (0, .ref (a 0))]) hx hb dX10_readLeap_62 rfl hl (by decide) rfl (fun ls hl => ?_)
        refine lv_aload_n hx hb dX10_readLeap_63 rfl (lv_at hl 3 rfl) ?_
        refine gf_X10_92 hE hP (0) (gM_0 E a (le3 I) tr) (v := .int (rN ((le3 I) (14) (0)))) rfl dX10_readLeap_64 ?_
        refine lv_bipush (v := (-9)) hx hb dX10_readLeap_67 (by decide) ?_
        refine bQ9_ne (tgt := 119) hx hb (by omega) dX10_readLeap_69 (by decide) (fun c69 => ?_) (fun c69 => ?_)
        · have hw : (le3 I) = (leJ I) := by first | (unfold leJ; rw [if_pos c69]; rfl; done) | (unfold leJ; rw [if_neg (by omega)]; done)
          have hP := Eq.mp (congrArg (fun q => va_P E.1 vwCl (WM E a q tr) H) hw) hP
          have hD := Eq.mp (congrArg (fun q => va_D A (WM E a q tr)) hw) hD
          exact ret_v hE rfl hP hD hS dX10_readLeap_119
        · have hv := le3_v hR c69
          have hz := leZ_v hv.1
          have hv2 := hv.2.1
          have hv3 := hv.2.2.2
          have hz1 := hz.2.1
          have hl7 : le3 I 7 (6 + I 13 0) < 2 := by rw [le3_off _ (by decide)]; exact hz.2.2
          refine lv_iconst (v := nI (2)) hx hb dX10_readLeap_72 (by decide) ?_
          refine lv_bipush (v := nI (6)) hx hb dX10_readLeap_73 (by decide) ?_
          refine lv_iload_n hx hb dX10_readLeap_75 rfl (lv_at hl 2 rfl) ?_
          refine lv_iadd hx hb dX10_readLeap_76 ?_
          refine tp (nI_add _ _) ?_
          refine lv_imul hx hb dX10_readLeap_77 ?_
          refine tp (pk_mul _ _) ?_
          refine lv_aload_n hx hb dX10_readLeap_78 rfl (lv_at hl 3 rfl) ?_
          refine gf_X10_29 hE hP (0) (gM_0 E a (le3 I) tr) (v := .ref (a 7)) rfl dX10_readLeap_79 ?_
          refine lv_bipush (v := nI (6)) hx hb dX10_readLeap_82 (by decide) ?_
          refine lv_iload_n hx hb dX10_readLeap_84 rfl (lv_at hl 2 rfl) ?_
          refine lv_iadd hx hb dX10_readLeap_85 ?_
          refine tp (nI_add _ _) ?_
          refine ald_i hE hP (7) (gM_7 E a (le3 I) tr) (by omega) (by decide) (r := nI ((le3 I) (7) (6 + I 13 0))) rfl dX10_readLeap_86 ?_
          refine lv_iadd hx hb dX10_readLeap_87 ?_
          refine tp (nI_add _ _) ?_
          refine lv_istore (lv' := [(4, .int (nI ((2) * (6 + I 13 0) + (le3 I) (7) (6 + I 13 0)))), (3, .int (nI ((le2 I) 13 0))), (2, .int (nI ((le1 I) 13 0))), (1, .int (nI (I 13 0))), (0, .ref (a 0))]) hx hb dX10_readLeap_88 hl (by decide) rfl (fun ls hl => ?_)
          refine lv_aload_n hx hb dX10_readLeap_90 rfl (lv_at hl 4 rfl) ?_
          refine gf_X10_32 hE hP (0) (gM_0 E a (le3 I) tr) (v := .ref (a 8)) rfl dX10_readLeap_91 ?_
          refine lv_iload hx hb dX10_readLeap_94 (lv_at hl 0 rfl) ?_
          refine lv_iload_n hx hb dX10_readLeap_96 rfl (lv_at hl 2 rfl) ?_
          refine ast_i hE hP hD hS (8) (gM_8 E a (le3 I) tr) (by omega) (by decide) (sM_8 E a (le3 I) tr ((2) * (6 + I 13 0) + (le3 I) (7) (6 + I 13 0)) ((le1 I) 13 0)) dX10_readLeap_97 (fun H locs hP hD hS => ?_)
          refine lv_aload_n hx hb dX10_readLeap_98 rfl (lv_at hl 4 rfl) ?_
          refine gf_X10_35 hE hP (0) (gM_0 E a (up2 (le3 I) (8) ((2) * (6 + I 13 0) + (le3 I) (7) (6 + I 13 0)) ((le1 I) 13 0)) tr) (v := .ref (a 9)) rfl dX10_readLeap_99 ?_
          refine lv_iload hx hb dX10_readLeap_102 (lv_at hl 0 rfl) ?_
          refine lv_iload_n hx hb dX10_readLeap_104 rfl (lv_at hl 1 rfl) ?_
          refine ast_i hE hP hD hS (9) (gM_9 E a (up2 (le3 I) (8) ((2) * (6 + I 13 0) + (le3 I) (7) (6 + I 13 0)) ((le1 I) 13 0)) tr) (by omega) (by decide) (sM_9 E a (up2 (le3 I) (8) ((2) * (6 + I 13 0) + (le3 I) (7) (6 + I 13 0)) ((le1 I) 13 0)) tr ((2) * (6 + I 13 0) + (le3 I) (7) (6 + I 13 0)) ((le2 I) 13 0)) dX10_readLeap_105 (fun H locs hP hD hS => ?_)
          refine lv_aload_n hx hb dX10_readLeap_106 rfl (lv_at hl 4 rfl) ?_
          refine gf_X10_29 hE hP (0) (gM_0 E a (up2 (up2 (le3 I) (8) ((2) * (6 + I 13 0) + (le3 I) (7) (6 + I 13 0)) ((le1 I) 13 0)) (9) ((2) * (6 + I 13 0) + (le3 I) (7) (6 + I 13 0)) ((le2 I) 13 0)) tr) (v := .ref (a 7)) rfl dX10_readLeap_107 ?_
          refine lv_bipush (v := nI (6)) hx hb dX10_readLeap_110 (by decide) ?_
          refine lv_iload_n hx hb dX10_readLeap_112 rfl (lv_at hl 3 rfl) ?_
          refine lv_iadd hx hb dX10_readLeap_113 ?_
          refine tp (nI_add _ _) ?_
          refine lv_dup2_11 hx hb dX10_readLeap_114 rfl rfl ?_
          refine ald_i hE hP (7) (gM_7 E a (up2 (up2 (le3 I) (8) ((2) * (6 + I 13 0) + (le3 I) (7) (6 + I 13 0)) ((le1 I) 13 0)) (9) ((2) * (6 + I 13 0) + (le3 I) (7) (6 + I 13 0)) ((le2 I) 13 0)) tr) (by omega) (by decide) (r := nI ((le3 I) (7) (6 + I 13 0))) rfl dX10_readLeap_115 ?_
          refine lv_iconst (v := nI (1)) hx hb dX10_readLeap_116 (by decide) ?_
          refine lv_iadd hx hb dX10_readLeap_117 ?_
          refine tp (nI_add _ _) ?_
          refine ast_i hE hP hD hS (7) (gM_7 E a (up2 (up2 (le3 I) (8) ((2) * (6 + I 13 0) + (le3 I) (7) (6 + I 13 0)) ((le1 I) 13 0)) (9) ((2) * (6 + I 13 0) + (le3 I) (7) (6 + I 13 0)) ((le2 I) 13 0)) tr) (by omega) (by decide) (sM_7 E a (up2 (up2 (le3 I) (8) ((2) * (6 + I 13 0) + (le3 I) (7) (6 + I 13 0)) ((le1 I) 13 0)) (9) ((2) * (6 + I 13 0) + (le3 I) (7) (6 + I 13 0)) ((le2 I) 13 0)) tr (6 + I 13 0) ((le3 I) (7) (6 + I 13 0) + 1)) dX10_readLeap_118 (fun H locs hP hD hS => ?_)
          have hw : (up2 (up2 (up2 (le3 I) (8) ((2) * (6 + I 13 0) + (le3 I) (7) (6 + I 13 0)) ((le1 I) 13 0)) (9) ((2) * (6 + I 13 0) + (le3 I) (7) (6 + I 13 0)) ((le2 I) 13 0)) (7) (6 + I 13 0) ((le3 I) (7) (6 + I 13 0) + 1)) = (leJ I) := by first | (unfold leJ; rw [if_pos c69]; rfl; done) | (unfold leJ; rw [if_neg (by omega)]; done)
          have hP := Eq.mp (congrArg (fun q => va_P E.1 vwCl (WM E a q tr) H) hw) hP
          have hD := Eq.mp (congrArg (fun q => va_D A (WM E a q tr)) hw) hD
          exact ret_v hE rfl hP hD hS dX10_readLeap_119
