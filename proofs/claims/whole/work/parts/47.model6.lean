set_option maxHeartbeats 4000000 in
set_option maxRecDepth 100000 in
theorem ct_X10_next (l : Launch) (E : cE) (a : Nat → Nat) (I : Nat → Nat → Nat) (tr : Int64) (hT : TK I) (h10 : I 10 0 ≤ I 1 0) : Ct l E 2 yX10_next cX10_next 3 none [.ref (a 0)] (WM E a I tr) none (WM E a (nxJ I) tr) := by
  refine Ct_of (plainFor_of_name (by decide)) (Nat.le_of_ble_eq_true rfl) ?_
  intro p e s m args below meth c A ls hE hP hD hS hl
  have hE : cEnv p s m args meth c E RX10 cX10_next 3 none A := hE
  have hx := hE.1
  have hb := hE.2.1
  have hl : lv_has ls 3 [(0, .ref (a 0))] := hl
  have hP : va_P E.1 vwCl (WM E a I tr) s.heap := hP
  generalize hH : s.heap = H at hP hS ⊢
  have hS : va_S A s.heap H [] := by rw [hH]; exact hS
  clear hH
  have hT3 := hT.1
  have hB := hT.2
  have loop0 : ∀ (fu0 : Nat) (q : Nat), I 1 0 - q < fu0 → (q ≤ I 1 0) → (nxS I = skp (rgB 32 32 (I 0) (I 1 0)) (I 1 0) q) → ∀ (ls : Array Slot) (H : Heap) (locs : List Loc), lv_has ls 3 [(0, .ref (a 0))] → va_P E.1 vwCl (WM E a (up2 I (10) (0) (q)) tr) H → va_D A (WM E a (up2 I (10) (0) (q)) tr) → va_S A s.heap H locs → W p l e (rmL 2) s m args below meth c H locs 0 0 (RQ E below args s A none (WM E a (nxJ I) tr)) (F0 m 0 ls []) := by
    intro fu0
    induction fu0 with
    | zero => intro q h; exact absurd h (Nat.not_lt_zero _)
    | succ fu0 ih0 =>
      intro q hfu0 hq hs ls H locs hl hP hD hS
      refine lv_aload_n hx hb dX10_next_0 rfl (lv_at hl 0 rfl) ?_
      refine call_V (As := []) (rest := []) hE (ct_X10_here l E a (up2 I (10) (0) (q)) tr hT (show (q) ≤ 300 by omega)) cm_X10_here (uw mt_L_X10_76 rfl) (gM_0 E a (up2 I (10) (0) (q)) tr) rfl rfl hP hD hS hl.1 rfl rfl (Nat.le_of_ble_eq_true rfl) ⟨by decide, by decide⟩ dX10_next_1 (fun H locs hP hD hS => ?_)
      refine W.eq (g2 := F0 m 4 ls [.int (rN (hrB ((up2 I (10) (0) (q)) 0) ((up2 I (10) (0) (q)) 1 0) ((up2 I (10) (0) (q)) 10 0)))]) rfl ?_
      refine tp (show rN (hrB ((up2 I (10) (0) (q)) 0) ((up2 I (10) (0) (q)) 1 0) ((up2 I (10) (0) (q)) 10 0)) = rN (hrB (I 0) (I 1 0) (q)) from rfl) ?_
      have hh1 := hr_le hB (q)
      refine lv_bipush (v := nI (32)) hx hb dX10_next_4 (by decide) ?_
      refine tp (rN_9 (32)).symm ?_
      refine bQ_ne (tgt := 22) hx hb (by omega) (by omega) dX10_next_6 (by decide) (fun c6 => ?_) (fun c6 => ?_)
      · have hsq : nxS I = q := hs.trans (skp_f (Or.inr (rgB_32 c6)))
        refine lv_aload_n hx hb dX10_next_22 rfl (lv_at hl 0 rfl) ?_
        refine lv_aload_n hx hb dX10_next_23 rfl (lv_at hl 0 rfl) ?_
        refine gf_X10_73 hE hP (0) (gM_0 E a (up2 I (10) (0) (q)) tr) (v := .int (nI (q))) rfl dX10_next_24 ?_
        refine pf_X10_80 hE hP hD hS (0) (gM_0 E a (up2 I (10) (0) (q)) tr) rfl rfl (Nat.le_of_ble_eq_true rfl) (sM_0_12 E a (up2 I (10) (0) (q)) tr (q)) dX10_next_27 (fun H locs hP hD hS => ?_)
        refine lv_aload_n hx hb dX10_next_30 rfl (lv_at hl 0 rfl) ?_
        refine lv_iconst (v := nI (0)) hx hb dX10_next_31 (by decide) ?_
        refine pf_X10_83 hE hP hD hS (0) (gM_0 E a (up2 (up2 I (10) (0) (q)) (11) (0) (q)) tr) rfl rfl (Nat.le_of_ble_eq_true rfl) (sM_0_14 E a (up2 (up2 I (10) (0) (q)) (11) (0) (q)) tr (0)) dX10_next_32 (fun H locs hP hD hS => ?_)
        refine lv_aload_n hx hb dX10_next_35 rfl (lv_at hl 0 rfl) ?_
        refine call_V (As := []) (rest := []) hE (ct_X10_here l E a (up2 (up2 (up2 I (10) (0) (q)) (11) (0) (q)) (13) (0) (0)) tr hT (show (q) ≤ 300 by omega)) cm_X10_here (uw mt_L_X10_76 rfl) (gM_0 E a (up2 (up2 (up2 I (10) (0) (q)) (11) (0) (q)) (13) (0) (0)) tr) rfl rfl hP hD hS hl.1 rfl rfl (Nat.le_of_ble_eq_true rfl) ⟨by decide, by decide⟩ dX10_next_36 (fun H locs hP hD hS => ?_)
        refine W.eq (g2 := F0 m 39 ls [.int (rN (hrB ((up2 (up2 (up2 I (10) (0) (q)) (11) (0) (q)) (13) (0) (0)) 0) ((up2 (up2 (up2 I (10) (0) (q)) (11) (0) (q)) (13) (0) (0)) 1 0) ((up2 (up2 (up2 I (10) (0) (q)) (11) (0) (q)) (13) (0) (0)) 10 0)))]) rfl ?_
        refine tp (show rN (hrB ((up2 (up2 (up2 I (10) (0) (q)) (11) (0) (q)) (13) (0) (0)) 0) ((up2 (up2 (up2 I (10) (0) (q)) (11) (0) (q)) (13) (0) (0)) 1 0) ((up2 (up2 (up2 I (10) (0) (q)) (11) (0) (q)) (13) (0) (0)) 10 0)) = rN (hrB (I 0) (I 1 0) (q)) from rfl) ?_
        have hh2 := hr_le hB (q)
        refine lv_istore_n (lv' := [(1, .int (rN (hrB (I 0) (I 1 0) (q)))), (0, .ref (a 0))]) hx hb dX10_next_39 rfl hl (by decide) rfl (fun ls hl => ?_)
        refine lv_iload_n hx hb dX10_next_40 rfl (lv_at hl 0 rfl) ?_
        refine bQz_ge (tgt := 52) hx hb (by omega) dX10_next_41 (by decide) (fun c41 => ?_) (fun c41 => ?_)
        · have hlt := hr_lt c41
          have hbq := hB q hlt
          rw [hrB_y hlt, rN_9] at hl
          refine lv_iload_n hx hb dX10_next_52 rfl (lv_at hl 0 rfl) ?_
          refine lv_bipush (v := nI (97)) hx hb dX10_next_53 (by decide) ?_
          refine lv_bipush (v := nI (122)) hx hb dX10_next_55 (by decide) ?_
          refine call_S (As := [.int (nI (I 0 q)), .int (nI (97)), .int (nI (122))]) (rest := []) hE (ct_X10_in l E (WM E a (up2 (up2 (up2 I (10) (0) (q)) (11) (0) (q)) (13) (0) (0)) tr) (nI (I 0 q)) (nI 97) (nI 122)) cm_X10_in (uw mt_L_X10_63 rfl) hP hD hS hl.1 rfl rfl (Nat.le_of_ble_eq_true rfl) ⟨by decide, by decide⟩ dX10_next_57 (fun H locs hP hD hS => ?_)
          refine W.eq (g2 := F0 m 60 ls [.int (bB (wi (nI (I 0 q)) (nI 97) (nI 122)))]) rfl ?_
          refine tp (congrArg bB (show wi (nI (I 0 q)) (nI 97) (nI 122) = rgB 97 122 (I 0) (I 1 0) (q) from (by rw [wi_nat (by omega) (by decide) (by decide), rgB_y hlt]))) ?_
          refine bB_eq (tgt := 180) hx hb dX10_next_60 (by decide) (fun c60 => ?_) (fun c60 => ?_)
          · refine lv_iload_n hx hb dX10_next_180 rfl (lv_at hl 0 rfl) ?_
            refine lv_bipush (v := nI (48)) hx hb dX10_next_181 (by decide) ?_
            refine lv_bipush (v := nI (57)) hx hb dX10_next_183 (by decide) ?_
            refine call_S (As := [.int (nI (I 0 q)), .int (nI (48)), .int (nI (57))]) (rest := []) hE (ct_X10_in l E (WM E a (up2 (up2 (up2 I (10) (0) (q)) (11) (0) (q)) (13) (0) (0)) tr) (nI (I 0 q)) (nI 48) (nI 57)) cm_X10_in (uw mt_L_X10_63 rfl) hP hD hS hl.1 rfl rfl (Nat.le_of_ble_eq_true rfl) ⟨by decide, by decide⟩ dX10_next_185 (fun H locs hP hD hS => ?_)
            refine W.eq (g2 := F0 m 188 ls [.int (bB (wi (nI (I 0 q)) (nI 48) (nI 57)))]) rfl ?_
            refine tp (congrArg bB (show wi (nI (I 0 q)) (nI 48) (nI 57) = rgB 48 57 (I 0) (I 1 0) (q) from (by rw [wi_nat (by omega) (by decide) (by decide), rgB_y hlt]))) ?_
            refine bB_eq (tgt := 294) hx hb dX10_next_188 (by decide) (fun c188 => ?_) (fun c188 => ?_)
            · refine lv_aload_n hx hb dX10_next_294 rfl (lv_at hl 1 rfl) ?_
              refine lv_dup hx hb dX10_next_295 rfl ?_
              refine gf_X10_73 hE hP (0) (gM_0 E a (up2 (up2 (up2 I (10) (0) (q)) (11) (0) (q)) (13) (0) (0)) tr) (v := .int (nI (q))) rfl dX10_next_296 ?_
              refine lv_iconst (v := nI (1)) hx hb dX10_next_299 (by decide) ?_
              refine lv_iadd hx hb dX10_next_300 ?_
              refine tp (nI_add _ _) ?_
              refine pf_X10_73 hE hP hD hS (0) (gM_0 E a (up2 (up2 (up2 I (10) (0) (q)) (11) (0) (q)) (13) (0) (0)) tr) rfl rfl (Nat.le_of_ble_eq_true rfl) (sM_0_11 E a (up2 (up2 (up2 I (10) (0) (q)) (11) (0) (q)) (13) (0) (0)) tr (q + 1)) dX10_next_301 (fun H locs hP hD hS => ?_)
              refine lv_aload_n hx hb dX10_next_304 rfl (lv_at hl 1 rfl) ?_
              refine lv_iload_n hx hb dX10_next_305 rfl (lv_at hl 0 rfl) ?_
              refine lv_bipush (v := nI (59)) hx hb dX10_next_306 (by decide) ?_
              refine bN_ne (tgt := 315) hx hb (by omega) (by omega) dX10_next_308 (by decide) (fun c308 => ?_) (fun c308 => ?_)
              · refine lv_bipush (v := nI (6)) hx hb dX10_next_315 (by decide) ?_
                refine pf_X10_86 hE hP hD hS (0) (gM_0 E a (up2 (up2 (up2 (up2 I (10) (0) (q)) (11) (0) (q)) (13) (0) (0)) (10) (0) (q + 1)) tr) rfl rfl (Nat.le_of_ble_eq_true rfl) (sM_0_13 E a (up2 (up2 (up2 (up2 I (10) (0) (q)) (11) (0) (q)) (13) (0) (0)) (10) (0) (q + 1)) tr (6)) dX10_next_317 (fun H locs hP hD hS => ?_)
                have hw : (up2 (up2 (up2 (up2 (up2 I (10) (0) (q)) (11) (0) (q)) (13) (0) (0)) (10) (0) (q + 1)) (12) (0) (6)) = (nxJ I) := (by unfold nxJ; rw [hsq, if_neg (by omega), if_neg (by rw [c60]; decide), if_neg (by rw [c188]; decide)]; first | (rw [if_pos c308]; exact congrArg (fun z => up2 z 12 0 5) (nxB_10 _ _ _ _ _)) | (rw [if_neg c308]; exact congrArg (fun z => up2 z 12 0 6) (nxB_10 _ _ _ _ _)))
                have hP := Eq.mp (congrArg (fun q => va_P E.1 vwCl (WM E a q tr) H) hw) hP
                have hD := Eq.mp (congrArg (fun q => va_D A (WM E a q tr)) hw) hD
                exact ret_v hE rfl hP hD hS dX10_next_320
              · refine lv_iconst (v := nI (5)) hx hb dX10_next_311 (by decide) ?_
                refine lv_goto (tgt := 317) hx hb dX10_next_312 (by decide) ?_
                refine pf_X10_86 hE hP hD hS (0) (gM_0 E a (up2 (up2 (up2 (up2 I (10) (0) (q)) (11) (0) (q)) (13) (0) (0)) (10) (0) (q + 1)) tr) rfl rfl (Nat.le_of_ble_eq_true rfl) (sM_0_13 E a (up2 (up2 (up2 (up2 I (10) (0) (q)) (11) (0) (q)) (13) (0) (0)) (10) (0) (q + 1)) tr (5)) dX10_next_317 (fun H locs hP hD hS => ?_)
                have hw : (up2 (up2 (up2 (up2 (up2 I (10) (0) (q)) (11) (0) (q)) (13) (0) (0)) (10) (0) (q + 1)) (12) (0) (5)) = (nxJ I) := (by unfold nxJ; rw [hsq, if_neg (by omega), if_neg (by rw [c60]; decide), if_neg (by rw [c188]; decide)]; first | (rw [if_pos c308]; exact congrArg (fun z => up2 z 12 0 5) (nxB_10 _ _ _ _ _)) | (rw [if_neg c308]; exact congrArg (fun z => up2 z 12 0 6) (nxB_10 _ _ _ _ _)))
                have hP := Eq.mp (congrArg (fun q => va_P E.1 vwCl (WM E a q tr) H) hw) hP
                have hD := Eq.mp (congrArg (fun q => va_D A (WM E a q tr)) hw) hD
                exact ret_v hE rfl hP hD hS dX10_next_320
            · have loop191 : ∀ (fu191 : Nat) (e1 : Nat) (w : Nat), I 1 0 - e1 < fu191 → (q ≤ e1) → (e1 ≤ I 1 0) → (nxD I = skp (rgB 48 57 (I 0) (I 1 0)) (I 1 0) e1) → (nxV I = vmP (rgB 48 57 (I 0) (I 1 0)) (I 0) (I 1 0) e1 w) → (w ≤ 999) → ∀ (ls : Array Slot) (H : Heap) (locs : List Loc), lv_has ls 3 [(0, .ref (a 0)), (1, .int (nI (I 0 q)))] → va_P E.1 vwCl (WM E a (up2 (up2 (up2 I (10) (0) (e1)) (11) (0) (q)) (13) (0) (w)) tr) H → va_D A (WM E a (up2 (up2 (up2 I (10) (0) (e1)) (11) (0) (q)) (13) (0) (w)) tr) → va_S A s.heap H locs → W p l e (rmL 2) s m args below meth c H locs 0 0 (RQ E below args s A none (WM E a (nxJ I) tr)) (F0 m 191 ls []) := by
                intro fu191
                induction fu191 with
                | zero => intro e1 w h; exact absurd h (Nat.not_lt_zero _)
                | succ fu191 ih191 =>
                  intro e1 w hfu191 he1 he2 hs2 hw hw9 ls H locs hl hP hD hS
                  refine lv_aload_n hx hb dX10_next_191 rfl (lv_at hl 0 rfl) ?_
                  refine call_V (As := []) (rest := []) hE (ct_X10_here l E a (up2 (up2 (up2 I (10) (0) (e1)) (11) (0) (q)) (13) (0) (w)) tr hT (show (e1) ≤ 300 by omega)) cm_X10_here (uw mt_L_X10_76 rfl) (gM_0 E a (up2 (up2 (up2 I (10) (0) (e1)) (11) (0) (q)) (13) (0) (w)) tr) rfl rfl hP hD hS hl.1 rfl rfl (Nat.le_of_ble_eq_true rfl) ⟨by decide, by decide⟩ dX10_next_192 (fun H locs hP hD hS => ?_)
                  refine W.eq (g2 := F0 m 195 ls [.int (rN (hrB ((up2 (up2 (up2 I (10) (0) (e1)) (11) (0) (q)) (13) (0) (w)) 0) ((up2 (up2 (up2 I (10) (0) (e1)) (11) (0) (q)) (13) (0) (w)) 1 0) ((up2 (up2 (up2 I (10) (0) (e1)) (11) (0) (q)) (13) (0) (w)) 10 0)))]) rfl ?_
                  refine tp (show rN (hrB ((up2 (up2 (up2 I (10) (0) (e1)) (11) (0) (q)) (13) (0) (w)) 0) ((up2 (up2 (up2 I (10) (0) (e1)) (11) (0) (q)) (13) (0) (w)) 1 0) ((up2 (up2 (up2 I (10) (0) (e1)) (11) (0) (q)) (13) (0) (w)) 10 0)) = rN (hrB (I 0) (I 1 0) (e1)) from rfl) ?_
                  have hh3 := hr_le hB (e1)
                  refine lv_bipush (v := nI (48)) hx hb dX10_next_195 (by decide) ?_
                  refine lv_bipush (v := nI (57)) hx hb dX10_next_197 (by decide) ?_
                  refine call_S (As := [.int (rN (hrB (I 0) (I 1 0) (e1))), .int (nI (48)), .int (nI (57))]) (rest := []) hE (ct_X10_in l E (WM E a (up2 (up2 (up2 I (10) (0) (e1)) (11) (0) (q)) (13) (0) (w)) tr) (rN (hrB (I 0) (I 1 0) (e1))) (nI 48) (nI 57)) cm_X10_in (uw mt_L_X10_63 rfl) hP hD hS hl.1 rfl rfl (Nat.le_of_ble_eq_true rfl) ⟨by decide, by decide⟩ dX10_next_199 (fun H locs hP hD hS => ?_)
                  refine W.eq (g2 := F0 m 202 ls [.int (bB (wi (rN (hrB (I 0) (I 1 0) (e1))) (nI 48) (nI 57)))]) rfl ?_
                  refine tp (congrArg bB (show wi (rN (hrB (I 0) (I 1 0) (e1))) (nI 48) (nI 57) = rgB 48 57 (I 0) (I 1 0) (e1) from wi_hr hB (by decide) (by decide))) ?_
                  refine bB_eq (tgt := 253) hx hb dX10_next_202 (by decide) (fun c202 => ?_) (fun c202 => ?_)
                  · have hde2 : nxD I = e1 := hs2.trans (skp_f (Or.inr c202))
                    have hwv : nxV I = w := hw.trans (vmP_f (Or.inr c202))
                    refine lv_aload_n hx hb dX10_next_253 rfl (lv_at hl 0 rfl) ?_
                    refine lv_aload_n hx hb dX10_next_254 rfl (lv_at hl 0 rfl) ?_
                    refine gf_X10_83 hE hP (0) (gM_0 E a (up2 (up2 (up2 I (10) (0) (e1)) (11) (0) (q)) (13) (0) (w)) tr) (v := .int (nI (w))) rfl dX10_next_255 ?_
                    refine lv_bipush (v := nI (99)) hx hb dX10_next_258 (by decide) ?_
                    refine bN_gt (tgt := 282) hx hb (by omega) (by omega) dX10_next_260 (by decide) (fun c260 => ?_) (fun c260 => ?_)
                    · refine lv_bipush (v := nI (6)) hx hb dX10_next_282 (by decide) ?_
                      refine lv_goto (tgt := 288) hx hb dX10_next_284 (by decide) ?_
                      refine pf_X10_86 hE hP hD hS (0) (gM_0 E a (up2 (up2 (up2 I (10) (0) (e1)) (11) (0) (q)) (13) (0) (w)) tr) rfl rfl (Nat.le_of_ble_eq_true rfl) (sM_0_13 E a (up2 (up2 (up2 I (10) (0) (e1)) (11) (0) (q)) (13) (0) (w)) tr (6)) dX10_next_288 (fun H locs hP hD hS => ?_)
                      refine lv_goto (tgt := 320) hx hb dX10_next_291 (by decide) ?_
                      have hw : (up2 (up2 (up2 (up2 I (10) (0) (e1)) (11) (0) (q)) (13) (0) (w)) (12) (0) (6)) = (nxJ I) := (by unfold nxJ; rw [hsq, if_neg (by omega), if_neg (by rw [c60]; decide), if_pos c188, hde2, hwv]; have hnm : nmM (I 0 q) q e1 w = 6 := (by unfold nmM; first | rw [if_pos (Or.inl c260)] | rw [if_pos (Or.inr ⟨by omega, by omega⟩)] | rw [if_neg (fun z9 => by omega)]); rw [hnm]; rfl)
                      have hP := Eq.mp (congrArg (fun q => va_P E.1 vwCl (WM E a q tr) H) hw) hP
                      have hD := Eq.mp (congrArg (fun q => va_D A (WM E a q tr)) hw) hD
                      exact ret_v hE rfl hP hD hS dX10_next_320
                    · refine lv_iload_n hx hb dX10_next_263 rfl (lv_at hl 1 rfl) ?_
                      refine lv_bipush (v := nI (48)) hx hb dX10_next_264 (by decide) ?_
                      refine bN_ne (tgt := 287) hx hb (by omega) (by omega) dX10_next_266 (by decide) (fun c266 => ?_) (fun c266 => ?_)
                      · refine lv_iconst (v := nI (4)) hx hb dX10_next_287 (by decide) ?_
                        refine pf_X10_86 hE hP hD hS (0) (gM_0 E a (up2 (up2 (up2 I (10) (0) (e1)) (11) (0) (q)) (13) (0) (w)) tr) rfl rfl (Nat.le_of_ble_eq_true rfl) (sM_0_13 E a (up2 (up2 (up2 I (10) (0) (e1)) (11) (0) (q)) (13) (0) (w)) tr (4)) dX10_next_288 (fun H locs hP hD hS => ?_)
                        refine lv_goto (tgt := 320) hx hb dX10_next_291 (by decide) ?_
                        have hw : (up2 (up2 (up2 (up2 I (10) (0) (e1)) (11) (0) (q)) (13) (0) (w)) (12) (0) (4)) = (nxJ I) := (by unfold nxJ; rw [hsq, if_neg (by omega), if_neg (by rw [c60]; decide), if_pos c188, hde2, hwv]; have hnm : nmM (I 0 q) q e1 w = 4 := (by unfold nmM; first | rw [if_pos (Or.inl c260)] | rw [if_pos (Or.inr ⟨by omega, by omega⟩)] | rw [if_neg (fun z9 => by omega)]); rw [hnm]; rfl)
                        have hP := Eq.mp (congrArg (fun q => va_P E.1 vwCl (WM E a q tr) H) hw) hP
                        have hD := Eq.mp (congrArg (fun q => va_D A (WM E a q tr)) hw) hD
                        exact ret_v hE rfl hP hD hS dX10_next_320
                      · refine lv_aload_n hx hb dX10_next_269 rfl (lv_at hl 0 rfl) ?_
                        refine gf_X10_73 hE hP (0) (gM_0 E a (up2 (up2 (up2 I (10) (0) (e1)) (11) (0) (q)) (13) (0) (w)) tr) (v := .int (nI (e1))) rfl dX10_next_270 ?_
                        refine lv_aload_n hx hb dX10_next_273 rfl (lv_at hl 0 rfl) ?_
                        refine gf_X10_80 hE hP (0) (gM_0 E a (up2 (up2 (up2 I (10) (0) (e1)) (11) (0) (q)) (13) (0) (w)) tr) (v := .int (nI (q))) rfl dX10_next_274 ?_
                        refine lv_isub hx hb dX10_next_277 ?_
                        refine tp (pk_sub (by omega)) ?_
                        refine lv_iconst (v := nI (1)) hx hb dX10_next_278 (by decide) ?_
                        refine bN_le (tgt := 287) hx hb (by omega) (by omega) dX10_next_279 (by decide) (fun c279 => ?_) (fun c279 => ?_)
                        · refine lv_iconst (v := nI (4)) hx hb dX10_next_287 (by decide) ?_
                          refine pf_X10_86 hE hP hD hS (0) (gM_0 E a (up2 (up2 (up2 I (10) (0) (e1)) (11) (0) (q)) (13) (0) (w)) tr) rfl rfl (Nat.le_of_ble_eq_true rfl) (sM_0_13 E a (up2 (up2 (up2 I (10) (0) (e1)) (11) (0) (q)) (13) (0) (w)) tr (4)) dX10_next_288 (fun H locs hP hD hS => ?_)
                          refine lv_goto (tgt := 320) hx hb dX10_next_291 (by decide) ?_
                          have hw : (up2 (up2 (up2 (up2 I (10) (0) (e1)) (11) (0) (q)) (13) (0) (w)) (12) (0) (4)) = (nxJ I) := (by unfold nxJ; rw [hsq, if_neg (by omega), if_neg (by rw [c60]; decide), if_pos c188, hde2, hwv]; have hnm : nmM (I 0 q) q e1 w = 4 := (by unfold nmM; first | rw [if_pos (Or.inl c260)] | rw [if_pos (Or.inr ⟨by omega, by omega⟩)] | rw [if_neg (fun z9 => by omega)]); rw [hnm]; rfl)
                          have hP := Eq.mp (congrArg (fun q => va_P E.1 vwCl (WM E a q tr) H) hw) hP
                          have hD := Eq.mp (congrArg (fun q => va_D A (WM E a q tr)) hw) hD
                          exact ret_v hE rfl hP hD hS dX10_next_320
                        · refine lv_bipush (v := nI (6)) hx hb dX10_next_282 (by decide) ?_
                          refine lv_goto (tgt := 288) hx hb dX10_next_284 (by decide) ?_
                          refine pf_X10_86 hE hP hD hS (0) (gM_0 E a (up2 (up2 (up2 I (10) (0) (e1)) (11) (0) (q)) (13) (0) (w)) tr) rfl rfl (Nat.le_of_ble_eq_true rfl) (sM_0_13 E a (up2 (up2 (up2 I (10) (0) (e1)) (11) (0) (q)) (13) (0) (w)) tr (6)) dX10_next_288 (fun H locs hP hD hS => ?_)
                          refine lv_goto (tgt := 320) hx hb dX10_next_291 (by decide) ?_
                          have hw : (up2 (up2 (up2 (up2 I (10) (0) (e1)) (11) (0) (q)) (13) (0) (w)) (12) (0) (6)) = (nxJ I) := (by unfold nxJ; rw [hsq, if_neg (by omega), if_neg (by rw [c60]; decide), if_pos c188, hde2, hwv]; have hnm : nmM (I 0 q) q e1 w = 6 := (by unfold nmM; first | rw [if_pos (Or.inl c260)] | rw [if_pos (Or.inr ⟨by omega, by omega⟩)] | rw [if_neg (fun z9 => by omega)]); rw [hnm]; rfl)
                          have hP := Eq.mp (congrArg (fun q => va_P E.1 vwCl (WM E a q tr) H) hw) hP
                          have hD := Eq.mp (congrArg (fun q => va_D A (WM E a q tr)) hw) hD
                          exact ret_v hE rfl hP hD hS dX10_next_320
                  · have hin := rgB_in c202
                    have hbe := hB e1 hin.1
                    refine lv_aload_n hx hb dX10_next_205 rfl (lv_at hl 0 rfl) ?_
                    refine lv_aload_n hx hb dX10_next_206 rfl (lv_at hl 0 rfl) ?_
                    refine gf_X10_83 hE hP (0) (gM_0 E a (up2 (up2 (up2 I (10) (0) (e1)) (11) (0) (q)) (13) (0) (w)) tr) (v := .int (nI (w))) rfl dX10_next_207 ?_
                    refine lv_bipush (v := nI (99)) hx hb dX10_next_210 (by decide) ?_
                    refine bN_le (tgt := 222) hx hb (by omega) (by omega) dX10_next_212 (by decide) (fun c212 => ?_) (fun c212 => ?_)
                    · refine lv_bipush (v := nI (10)) hx hb dX10_next_222 (by decide) ?_
                      refine lv_aload_n hx hb dX10_next_224 rfl (lv_at hl 0 rfl) ?_
                      refine gf_X10_83 hE hP (0) (gM_0 E a (up2 (up2 (up2 I (10) (0) (e1)) (11) (0) (q)) (13) (0) (w)) tr) (v := .int (nI (w))) rfl dX10_next_225 ?_
                      refine lv_imul hx hb dX10_next_228 ?_
                      refine tp (pk_mul _ _) ?_
                      refine lv_aload_n hx hb dX10_next_229 rfl (lv_at hl 0 rfl) ?_
                      refine call_V (As := []) (rest := [.int (nI ((10) * (w))), .ref (a 0)]) hE (ct_X10_here l E a (up2 (up2 (up2 I (10) (0) (e1)) (11) (0) (q)) (13) (0) (w)) tr hT (show (e1) ≤ 300 by omega)) cm_X10_here (uw mt_L_X10_76 rfl) (gM_0 E a (up2 (up2 (up2 I (10) (0) (e1)) (11) (0) (q)) (13) (0) (w)) tr) rfl rfl hP hD hS hl.1 rfl rfl (Nat.le_of_ble_eq_true rfl) ⟨by decide, by decide⟩ dX10_next_230 (fun H locs hP hD hS => ?_)
                      refine W.eq (g2 := F0 m 233 ls [.int (rN (hrB ((up2 (up2 (up2 I (10) (0) (e1)) (11) (0) (q)) (13) (0) (w)) 0) ((up2 (up2 (up2 I (10) (0) (e1)) (11) (0) (q)) (13) (0) (w)) 1 0) ((up2 (up2 (up2 I (10) (0) (e1)) (11) (0) (q)) (13) (0) (w)) 10 0))), .int (nI ((10) * (w))), .ref (a 0)]) rfl ?_
                      refine tp (show rN (hrB ((up2 (up2 (up2 I (10) (0) (e1)) (11) (0) (q)) (13) (0) (w)) 0) ((up2 (up2 (up2 I (10) (0) (e1)) (11) (0) (q)) (13) (0) (w)) 1 0) ((up2 (up2 (up2 I (10) (0) (e1)) (11) (0) (q)) (13) (0) (w)) 10 0)) = rN (hrB (I 0) (I 1 0) (e1)) from rfl) ?_
                      have hh4 := hr_le hB (e1)
                      refine tp (show rN (hrB (I 0) (I 1 0) (e1)) = nI (I 0 (e1)) by rw [hrB_y hin.1, rN_9]) ?_
                      refine lv_iadd hx hb dX10_next_233 ?_
                      refine tp (nI_add _ _) ?_
                      refine lv_bipush (v := nI (48)) hx hb dX10_next_234 (by decide) ?_
                      refine lv_isub hx hb dX10_next_236 ?_
                      refine tp (pk_sub (by omega)) ?_
                      refine pf_X10_83 hE hP hD hS (0) (gM_0 E a (up2 (up2 (up2 I (10) (0) (e1)) (11) (0) (q)) (13) (0) (w)) tr) rfl rfl (Nat.le_of_ble_eq_true rfl) (sM_0_14 E a (up2 (up2 (up2 I (10) (0) (e1)) (11) (0) (q)) (13) (0) (w)) tr ((10) * (w) + I 0 e1 - (48))) dX10_next_237 (fun H locs hP hD hS => ?_)
                      refine lv_aload_n hx hb dX10_next_240 rfl (lv_at hl 0 rfl) ?_
                      refine lv_dup hx hb dX10_next_241 rfl ?_
                      refine gf_X10_73 hE hP (0) (gM_0 E a (up2 (up2 (up2 (up2 I (10) (0) (e1)) (11) (0) (q)) (13) (0) (w)) (13) (0) ((10) * (w) + I 0 e1 - (48))) tr) (v := .int (nI (e1))) rfl dX10_next_242 ?_
                      refine lv_iconst (v := nI (1)) hx hb dX10_next_245 (by decide) ?_
                      refine lv_iadd hx hb dX10_next_246 ?_
                      refine tp (nI_add _ _) ?_
                      refine pf_X10_73 hE hP hD hS (0) (gM_0 E a (up2 (up2 (up2 (up2 I (10) (0) (e1)) (11) (0) (q)) (13) (0) (w)) (13) (0) ((10) * (w) + I 0 e1 - (48))) tr) rfl rfl (Nat.le_of_ble_eq_true rfl) (sM_0_11 E a (up2 (up2 (up2 (up2 I (10) (0) (e1)) (11) (0) (q)) (13) (0) (w)) (13) (0) ((10) * (w) + I 0 e1 - (48))) tr (e1 + 1)) dX10_next_247 (fun H locs hP hD hS => ?_)
                      refine lv_goto (tgt := 191) hx hb dX10_next_250 (by decide) ?_
                      exact ih191 (e1 + 1) ((10) * (w) + I 0 e1 - (48)) (by omega) (by omega) (by omega) (hs2.trans (skp_t (by omega) c202)) (hw.trans ((vmP_t (by omega) c202).trans (by first | rw [if_pos c212] | rw [if_neg (by omega)]))) (by omega) ls _ _ (lv_sub hl [0, 1] rfl) (by have hw : (up2 (up2 (up2 (up2 (up2 I (10) (0) (e1)) (11) (0) (q)) (13) (0) (w)) (13) (0) ((10) * (w) + I 0 e1 - (48))) (10) (0) (e1 + 1)) = (up2 (up2 (up2 I (10) (0) ((e1 + 1))) (11) (0) (q)) (13) (0) (((10) * (w) + I 0 e1 - (48)))) := ((congrArg (fun z => up2 z 10 0 (e1 + 1)) (nxB_13 _ _ _ _ _)).trans (nxB_10 _ _ _ _ _)); rw [hw] at hP; exact hP) (by have hw : (up2 (up2 (up2 (up2 (up2 I (10) (0) (e1)) (11) (0) (q)) (13) (0) (w)) (13) (0) ((10) * (w) + I 0 e1 - (48))) (10) (0) (e1 + 1)) = (up2 (up2 (up2 I (10) (0) ((e1 + 1))) (11) (0) (q)) (13) (0) (((10) * (w) + I 0 e1 - (48)))) := ((congrArg (fun z => up2 z 10 0 (e1 + 1)) (nxB_13 _ _ _ _ _)).trans (nxB_10 _ _ _ _ _)); rw [hw] at hD; exact hD) hS
                    · refine lv_aload_n hx hb dX10_next_215 rfl (lv_at hl 0 rfl) ?_
                      refine gf_X10_83 hE hP (0) (gM_0 E a (up2 (up2 (up2 I (10) (0) (e1)) (11) (0) (q)) (13) (0) (w)) tr) (v := .int (nI (w))) rfl dX10_next_216 ?_
                      refine lv_goto (tgt := 237) hx hb dX10_next_219 (by decide) ?_
                      refine pf_X10_83 hE hP hD hS (0) (gM_0 E a (up2 (up2 (up2 I (10) (0) (e1)) (11) (0) (q)) (13) (0) (w)) tr) rfl rfl (Nat.le_of_ble_eq_true rfl) (sM_0_14 E a (up2 (up2 (up2 I (10) (0) (e1)) (11) (0) (q)) (13) (0) (w)) tr (w)) dX10_next_237 (fun H locs hP hD hS => ?_)
                      refine lv_aload_n hx hb dX10_next_240 rfl (lv_at hl 0 rfl) ?_
                      refine lv_dup hx hb dX10_next_241 rfl ?_
                      refine gf_X10_73 hE hP (0) (gM_0 E a (up2 (up2 (up2 (up2 I (10) (0) (e1)) (11) (0) (q)) (13) (0) (w)) (13) (0) (w)) tr) (v := .int (nI (e1))) rfl dX10_next_242 ?_
                      refine lv_iconst (v := nI (1)) hx hb dX10_next_245 (by decide) ?_
                      refine lv_iadd hx hb dX10_next_246 ?_
                      refine tp (nI_add _ _) ?_
                      refine pf_X10_73 hE hP hD hS (0) (gM_0 E a (up2 (up2 (up2 (up2 I (10) (0) (e1)) (11) (0) (q)) (13) (0) (w)) (13) (0) (w)) tr) rfl rfl (Nat.le_of_ble_eq_true rfl) (sM_0_11 E a (up2 (up2 (up2 (up2 I (10) (0) (e1)) (11) (0) (q)) (13) (0) (w)) (13) (0) (w)) tr (e1 + 1)) dX10_next_247 (fun H locs hP hD hS => ?_)
                      refine lv_goto (tgt := 191) hx hb dX10_next_250 (by decide) ?_
                      exact ih191 (e1 + 1) (w) (by omega) (by omega) (by omega) (hs2.trans (skp_t (by omega) c202)) (hw.trans ((vmP_t (by omega) c202).trans (by first | rw [if_pos c212] | rw [if_neg (by omega)]))) (by omega) ls _ _ (lv_sub hl [0, 1] rfl) (by have hw : (up2 (up2 (up2 (up2 (up2 I (10) (0) (e1)) (11) (0) (q)) (13) (0) (w)) (13) (0) (w)) (10) (0) (e1 + 1)) = (up2 (up2 (up2 I (10) (0) ((e1 + 1))) (11) (0) (q)) (13) (0) ((w))) := ((congrArg (fun z => up2 z 10 0 (e1 + 1)) (nxB_13 _ _ _ _ _)).trans (nxB_10 _ _ _ _ _)); rw [hw] at hP; exact hP) (by have hw : (up2 (up2 (up2 (up2 (up2 I (10) (0) (e1)) (11) (0) (q)) (13) (0) (w)) (13) (0) (w)) (10) (0) (e1 + 1)) = (up2 (up2 (up2 I (10) (0) ((e1 + 1))) (11) (0) (q)) (13) (0) ((w))) := ((congrArg (fun z => up2 z 10 0 (e1 + 1)) (nxB_13 _ _ _ _ _)).trans (nxB_10 _ _ _ _ _)); rw [hw] at hD; exact hD) hS
              exact loop191 (_ + 1) (q) (0) (Nat.lt_succ_self _) (by omega) (by omega) (by unfold nxD; rw [hsq]) (by unfold nxV; rw [hsq]) (by omega) ls _ _ (lv_sub hl [1, 0] rfl) hP hD hS
          · refine lv_iconst (v := nI (0)) hx hb dX10_next_63 (by decide) ?_
            refine lv_istore_n (lv' := [(2, .int (nI (0))), (1, .int (nI (I 0 q))), (0, .ref (a 0))]) hx hb dX10_next_64 rfl hl (by decide) rfl (fun ls hl => ?_)
            have loop65 : ∀ (fu65 : Nat) (e1 : Nat) (cd : Nat), I 1 0 - e1 < fu65 → (q ≤ e1) → (e1 ≤ I 1 0) → (nxL I = skp (rgB 97 122 (I 0) (I 1 0)) (I 1 0) e1) → (cd = cdK (I 0) q (e1 - q)) → ((e1 - q = 0 → cd ≤ 0) ∧ (e1 - q = 1 → cd ≤ 26) ∧ (e1 - q = 2 → cd ≤ 728) ∧ (e1 - q = 3 → cd ≤ 19682) ∧ (e1 - q = 4 → cd ≤ 531440) ∧ cd ≤ 14348906) → ∀ (ls : Array Slot) (H : Heap) (locs : List Loc), lv_has ls 3 [(0, .ref (a 0)), (2, .int (nI (cd)))] → va_P E.1 vwCl (WM E a (up2 (up2 (up2 I (10) (0) (e1)) (11) (0) (q)) (13) (0) (0)) tr) H → va_D A (WM E a (up2 (up2 (up2 I (10) (0) (e1)) (11) (0) (q)) (13) (0) (0)) tr) → va_S A s.heap H locs → W p l e (rmL 2) s m args below meth c H locs 0 0 (RQ E below args s A none (WM E a (nxJ I) tr)) (F0 m 65 ls []) := by
              intro fu65
              induction fu65 with
              | zero => intro e1 cd h; exact absurd h (Nat.not_lt_zero _)
              | succ fu65 ih65 =>
                intro e1 cd hfu65 he1 he2 hs2 hcd hcb ls H locs hl hP hD hS
                refine lv_aload_n hx hb dX10_next_65 rfl (lv_at hl 0 rfl) ?_
                refine call_V (As := []) (rest := []) hE (ct_X10_here l E a (up2 (up2 (up2 I (10) (0) (e1)) (11) (0) (q)) (13) (0) (0)) tr hT (show (e1) ≤ 300 by omega)) cm_X10_here (uw mt_L_X10_76 rfl) (gM_0 E a (up2 (up2 (up2 I (10) (0) (e1)) (11) (0) (q)) (13) (0) (0)) tr) rfl rfl hP hD hS hl.1 rfl rfl (Nat.le_of_ble_eq_true rfl) ⟨by decide, by decide⟩ dX10_next_66 (fun H locs hP hD hS => ?_)
                refine W.eq (g2 := F0 m 69 ls [.int (rN (hrB ((up2 (up2 (up2 I (10) (0) (e1)) (11) (0) (q)) (13) (0) (0)) 0) ((up2 (up2 (up2 I (10) (0) (e1)) (11) (0) (q)) (13) (0) (0)) 1 0) ((up2 (up2 (up2 I (10) (0) (e1)) (11) (0) (q)) (13) (0) (0)) 10 0)))]) rfl ?_
                refine tp (show rN (hrB ((up2 (up2 (up2 I (10) (0) (e1)) (11) (0) (q)) (13) (0) (0)) 0) ((up2 (up2 (up2 I (10) (0) (e1)) (11) (0) (q)) (13) (0) (0)) 1 0) ((up2 (up2 (up2 I (10) (0) (e1)) (11) (0) (q)) (13) (0) (0)) 10 0)) = rN (hrB (I 0) (I 1 0) (e1)) from rfl) ?_
                have hh5 := hr_le hB (e1)
                refine lv_bipush (v := nI (97)) hx hb dX10_next_69 (by decide) ?_
                refine lv_bipush (v := nI (122)) hx hb dX10_next_71 (by decide) ?_
                refine call_S (As := [.int (rN (hrB (I 0) (I 1 0) (e1))), .int (nI (97)), .int (nI (122))]) (rest := []) hE (ct_X10_in l E (WM E a (up2 (up2 (up2 I (10) (0) (e1)) (11) (0) (q)) (13) (0) (0)) tr) (rN (hrB (I 0) (I 1 0) (e1))) (nI 97) (nI 122)) cm_X10_in (uw mt_L_X10_63 rfl) hP hD hS hl.1 rfl rfl (Nat.le_of_ble_eq_true rfl) ⟨by decide, by decide⟩ dX10_next_73 (fun H locs hP hD hS => ?_)
                refine W.eq (g2 := F0 m 76 ls [.int (bB (wi (rN (hrB (I 0) (I 1 0) (e1))) (nI 97) (nI 122)))]) rfl ?_
                refine tp (congrArg bB (show wi (rN (hrB (I 0) (I 1 0) (e1))) (nI 97) (nI 122) = rgB 97 122 (I 0) (I 1 0) (e1) from wi_hr hB (by decide) (by decide))) ?_
                refine bB_eq (tgt := 122) hx hb dX10_next_76 (by decide) (fun c76 => ?_) (fun c76 => ?_)
                · have hle2 : nxL I = e1 := hs2.trans (skp_f (Or.inr c76))
                  refine lv_aload_n hx hb dX10_next_122 rfl (lv_at hl 0 rfl) ?_
                  refine gf_X10_73 hE hP (0) (gM_0 E a (up2 (up2 (up2 I (10) (0) (e1)) (11) (0) (q)) (13) (0) (0)) tr) (v := .int (nI (e1))) rfl dX10_next_123 ?_
                  refine lv_aload_n hx hb dX10_next_126 rfl (lv_at hl 0 rfl) ?_
                  refine gf_X10_80 hE hP (0) (gM_0 E a (up2 (up2 (up2 I (10) (0) (e1)) (11) (0) (q)) (13) (0) (0)) tr) (v := .int (nI (q))) rfl dX10_next_127 ?_
                  refine lv_isub hx hb dX10_next_130 ?_
                  refine tp (pk_sub (by omega)) ?_
                  refine lv_iconst (v := nI (5)) hx hb dX10_next_131 (by decide) ?_
                  refine bN_le (tgt := 139) hx hb (by omega) (by omega) dX10_next_132 (by decide) (fun c132 => ?_) (fun c132 => ?_)
                  · refine lv_iload_n hx hb dX10_next_139 rfl (lv_at hl 1 rfl) ?_
                    refine lv_istore_n (lv' := [(2, .int (nI (cd))), (0, .ref (a 0))]) hx hb dX10_next_140 rfl hl (by decide) rfl (fun ls hl => ?_)
                    refine lv_aload_n hx hb dX10_next_141 rfl (lv_at hl 1 rfl) ?_
                    refine lv_iload_n hx hb dX10_next_142 rfl (lv_at hl 0 rfl) ?_
                    refine lv_ldc (v := nI (4562600)) hx hb hE.2.2.2.2.1 (hE.2.2.2.1 _ (uw mt_K_X10_89 rfl)) dX10_next_143 ?_
                    refine bN_ne (tgt := 152) hx hb (by omega) (by omega) dX10_next_145 (by decide) (fun c145 => ?_) (fun c145 => ?_)
                    · refine lv_iload_n hx hb dX10_next_152 rfl (lv_at hl 0 rfl) ?_
                      refine lv_ldc (v := nI (239884)) hx hb hE.2.2.2.2.1 (hE.2.2.2.1 _ (uw mt_K_X10_90 rfl)) dX10_next_153 ?_
                      refine bN_ne (tgt := 162) hx hb (by omega) (by omega) dX10_next_155 (by decide) (fun c155 => ?_) (fun c155 => ?_)
                      · refine lv_iload_n hx hb dX10_next_162 rfl (lv_at hl 0 rfl) ?_
                        refine lv_ldc (v := nI (453773)) hx hb hE.2.2.2.2.1 (hE.2.2.2.1 _ (uw mt_K_X10_91 rfl)) dX10_next_163 ?_
                        refine bN_ne (tgt := 172) hx hb (by omega) (by omega) dX10_next_165 (by decide) (fun c165 => ?_) (fun c165 => ?_)
                        · refine lv_bipush (v := nI (6)) hx hb dX10_next_172 (by decide) ?_
                          refine pf_X10_86 hE hP hD hS (0) (gM_0 E a (up2 (up2 (up2 I (10) (0) (e1)) (11) (0) (q)) (13) (0) (0)) tr) rfl rfl (Nat.le_of_ble_eq_true rfl) (sM_0_13 E a (up2 (up2 (up2 I (10) (0) (e1)) (11) (0) (q)) (13) (0) (0)) tr (6)) dX10_next_174 (fun H locs hP hD hS => ?_)
                          refine lv_goto (tgt := 320) hx hb dX10_next_177 (by decide) ?_
                          have hw : (up2 (up2 (up2 (up2 I (10) (0) (e1)) (11) (0) (q)) (13) (0) (0)) (12) (0) (6)) = (nxJ I) := (by unfold nxJ; rw [hsq, if_neg (by omega), if_pos c60, hle2]; unfold nxCd; rw [hle2, hsq, ← hcd]; have hcw : wdM (cdW (e1 - q) cd) = 6 := (by unfold cdW wdM; rw [if_neg (show ¬ 5 < e1 - q by omega)]; first | (rw [if_pos c145]; done) | (rw [if_neg c145, if_pos c155]; done) | (rw [if_neg c145, if_neg c155, if_pos c165]; done) | (rw [if_neg c145, if_neg c155, if_neg c165]; done) | (omega; done) | (rfl; done)); rw [hcw]; rfl)
                          have hP := Eq.mp (congrArg (fun q => va_P E.1 vwCl (WM E a q tr) H) hw) hP
                          have hD := Eq.mp (congrArg (fun q => va_D A (WM E a q tr)) hw) hD
                          exact ret_v hE rfl hP hD hS dX10_next_320
                        · refine lv_iconst (v := nI (2)) hx hb dX10_next_168 (by decide) ?_
                          refine lv_goto (tgt := 174) hx hb dX10_next_169 (by decide) ?_
                          refine pf_X10_86 hE hP hD hS (0) (gM_0 E a (up2 (up2 (up2 I (10) (0) (e1)) (11) (0) (q)) (13) (0) (0)) tr) rfl rfl (Nat.le_of_ble_eq_true rfl) (sM_0_13 E a (up2 (up2 (up2 I (10) (0) (e1)) (11) (0) (q)) (13) (0) (0)) tr (2)) dX10_next_174 (fun H locs hP hD hS => ?_)
                          refine lv_goto (tgt := 320) hx hb dX10_next_177 (by decide) ?_
                          have hw : (up2 (up2 (up2 (up2 I (10) (0) (e1)) (11) (0) (q)) (13) (0) (0)) (12) (0) (2)) = (nxJ I) := (by unfold nxJ; rw [hsq, if_neg (by omega), if_pos c60, hle2]; unfold nxCd; rw [hle2, hsq, ← hcd]; have hcw : wdM (cdW (e1 - q) cd) = 2 := (by unfold cdW wdM; rw [if_neg (show ¬ 5 < e1 - q by omega)]; first | (rw [if_pos c145]; done) | (rw [if_neg c145, if_pos c155]; done) | (rw [if_neg c145, if_neg c155, if_pos c165]; done) | (rw [if_neg c145, if_neg c155, if_neg c165]; done) | (omega; done) | (rfl; done)); rw [hcw]; rfl)
                          have hP := Eq.mp (congrArg (fun q => va_P E.1 vwCl (WM E a q tr) H) hw) hP
                          have hD := Eq.mp (congrArg (fun q => va_D A (WM E a q tr)) hw) hD
                          exact ret_v hE rfl hP hD hS dX10_next_320
                      · refine lv_iconst (v := nI (1)) hx hb dX10_next_158 (by decide) ?_
                        refine lv_goto (tgt := 174) hx hb dX10_next_159 (by decide) ?_
                        refine pf_X10_86 hE hP hD hS (0) (gM_0 E a (up2 (up2 (up2 I (10) (0) (e1)) (11) (0) (q)) (13) (0) (0)) tr) rfl rfl (Nat.le_of_ble_eq_true rfl) (sM_0_13 E a (up2 (up2 (up2 I (10) (0) (e1)) (11) (0) (q)) (13) (0) (0)) tr (1)) dX10_next_174 (fun H locs hP hD hS => ?_)
                        refine lv_goto (tgt := 320) hx hb dX10_next_177 (by decide) ?_
                        have hw : (up2 (up2 (up2 (up2 I (10) (0) (e1)) (11) (0) (q)) (13) (0) (0)) (12) (0) (1)) = (nxJ I) := (by unfold nxJ; rw [hsq, if_neg (by omega), if_pos c60, hle2]; unfold nxCd; rw [hle2, hsq, ← hcd]; have hcw : wdM (cdW (e1 - q) cd) = 1 := (by unfold cdW wdM; rw [if_neg (show ¬ 5 < e1 - q by omega)]; first | (rw [if_pos c145]; done) | (rw [if_neg c145, if_pos c155]; done) | (omega; done) | (rfl; done)); rw [hcw]; rfl)
                        have hP := Eq.mp (congrArg (fun q => va_P E.1 vwCl (WM E a q tr) H) hw) hP
                        have hD := Eq.mp (congrArg (fun q => va_D A (WM E a q tr)) hw) hD
                        exact ret_v hE rfl hP hD hS dX10_next_320
                    · refine lv_iconst (v := nI (0)) hx hb dX10_next_148 (by decide) ?_
                      refine lv_goto (tgt := 174) hx hb dX10_next_149 (by decide) ?_
                      refine pf_X10_86 hE hP hD hS (0) (gM_0 E a (up2 (up2 (up2 I (10) (0) (e1)) (11) (0) (q)) (13) (0) (0)) tr) rfl rfl (Nat.le_of_ble_eq_true rfl) (sM_0_13 E a (up2 (up2 (up2 I (10) (0) (e1)) (11) (0) (q)) (13) (0) (0)) tr (0)) dX10_next_174 (fun H locs hP hD hS => ?_)
                      refine lv_goto (tgt := 320) hx hb dX10_next_177 (by decide) ?_
                      have hw : (up2 (up2 (up2 (up2 I (10) (0) (e1)) (11) (0) (q)) (13) (0) (0)) (12) (0) (0)) = (nxJ I) := (by unfold nxJ; rw [hsq, if_neg (by omega), if_pos c60, hle2]; unfold nxCd; rw [hle2, hsq, ← hcd]; have hcw : wdM (cdW (e1 - q) cd) = 0 := (by unfold cdW wdM; rw [if_neg (show ¬ 5 < e1 - q by omega)]; first | (rw [if_pos c145]; done) | (omega; done) | (rfl; done)); rw [hcw]; rfl)
                      have hP := Eq.mp (congrArg (fun q => va_P E.1 vwCl (WM E a q tr) H) hw) hP
                      have hD := Eq.mp (congrArg (fun q => va_D A (WM E a q tr)) hw) hD
                      exact ret_v hE rfl hP hD hS dX10_next_320
                  · refine lv_iconst (v := nI (0)) hx hb dX10_next_135 (by decide) ?_
                    refine lv_goto (tgt := 140) hx hb dX10_next_136 (by decide) ?_
                    refine lv_istore_n (lv' := [(2, .int (nI (0))), (0, .ref (a 0))]) hx hb dX10_next_140 rfl hl (by decide) rfl (fun ls hl => ?_)
                    refine lv_aload_n hx hb dX10_next_141 rfl (lv_at hl 1 rfl) ?_
                    refine lv_iload_n hx hb dX10_next_142 rfl (lv_at hl 0 rfl) ?_
                    refine lv_ldc (v := nI (4562600)) hx hb hE.2.2.2.2.1 (hE.2.2.2.1 _ (uw mt_K_X10_89 rfl)) dX10_next_143 ?_
                    refine bN_ne (tgt := 152) hx hb (by omega) (by omega) dX10_next_145 (by decide) (fun c145 => ?_) (fun c145 => ?_)
                    · refine lv_iload_n hx hb dX10_next_152 rfl (lv_at hl 0 rfl) ?_
                      refine lv_ldc (v := nI (239884)) hx hb hE.2.2.2.2.1 (hE.2.2.2.1 _ (uw mt_K_X10_90 rfl)) dX10_next_153 ?_
                      refine bN_ne (tgt := 162) hx hb (by omega) (by omega) dX10_next_155 (by decide) (fun c155 => ?_) (fun c155 => ?_)
                      · refine lv_iload_n hx hb dX10_next_162 rfl (lv_at hl 0 rfl) ?_
                        refine lv_ldc (v := nI (453773)) hx hb hE.2.2.2.2.1 (hE.2.2.2.1 _ (uw mt_K_X10_91 rfl)) dX10_next_163 ?_
                        refine bN_ne (tgt := 172) hx hb (by omega) (by omega) dX10_next_165 (by decide) (fun c165 => ?_) (fun c165 => ?_)
                        · refine lv_bipush (v := nI (6)) hx hb dX10_next_172 (by decide) ?_
                          refine pf_X10_86 hE hP hD hS (0) (gM_0 E a (up2 (up2 (up2 I (10) (0) (e1)) (11) (0) (q)) (13) (0) (0)) tr) rfl rfl (Nat.le_of_ble_eq_true rfl) (sM_0_13 E a (up2 (up2 (up2 I (10) (0) (e1)) (11) (0) (q)) (13) (0) (0)) tr (6)) dX10_next_174 (fun H locs hP hD hS => ?_)
                          refine lv_goto (tgt := 320) hx hb dX10_next_177 (by decide) ?_
                          have hw : (up2 (up2 (up2 (up2 I (10) (0) (e1)) (11) (0) (q)) (13) (0) (0)) (12) (0) (6)) = (nxJ I) := (by unfold nxJ; rw [hsq, if_neg (by omega), if_pos c60, hle2]; unfold nxCd; rw [hle2, hsq, ← hcd]; have hcw : wdM (cdW (e1 - q) cd) = 6 := (by unfold cdW wdM; rw [if_pos (show 5 < e1 - q by omega)]; first | (rw [if_pos c145]; done) | (rw [if_neg c145, if_pos c155]; done) | (rw [if_neg c145, if_neg c155, if_pos c165]; done) | (rw [if_neg c145, if_neg c155, if_neg c165]; done) | (omega; done) | (rfl; done)); rw [hcw]; rfl)
                          have hP := Eq.mp (congrArg (fun q => va_P E.1 vwCl (WM E a q tr) H) hw) hP
                          have hD := Eq.mp (congrArg (fun q => va_D A (WM E a q tr)) hw) hD
                          exact ret_v hE rfl hP hD hS dX10_next_320
                        · refine lv_iconst (v := nI (2)) hx hb dX10_next_168 (by decide) ?_
                          refine lv_goto (tgt := 174) hx hb dX10_next_169 (by decide) ?_
                          refine pf_X10_86 hE hP hD hS (0) (gM_0 E a (up2 (up2 (up2 I (10) (0) (e1)) (11) (0) (q)) (13) (0) (0)) tr) rfl rfl (Nat.le_of_ble_eq_true rfl) (sM_0_13 E a (up2 (up2 (up2 I (10) (0) (e1)) (11) (0) (q)) (13) (0) (0)) tr (2)) dX10_next_174 (fun H locs hP hD hS => ?_)
                          refine lv_goto (tgt := 320) hx hb dX10_next_177 (by decide) ?_
                          have hw : (up2 (up2 (up2 (up2 I (10) (0) (e1)) (11) (0) (q)) (13) (0) (0)) (12) (0) (2)) = (nxJ I) := (by unfold nxJ; rw [hsq, if_neg (by omega), if_pos c60, hle2]; unfold nxCd; rw [hle2, hsq, ← hcd]; have hcw : wdM (cdW (e1 - q) cd) = 2 := (by unfold cdW wdM; rw [if_pos (show 5 < e1 - q by omega)]; first | (rw [if_pos c145]; done) | (rw [if_neg c145, if_pos c155]; done) | (rw [if_neg c145, if_neg c155, if_pos c165]; done) | (rw [if_neg c145, if_neg c155, if_neg c165]; done) | (omega; done) | (rfl; done)); rw [hcw]; rfl)
                          have hP := Eq.mp (congrArg (fun q => va_P E.1 vwCl (WM E a q tr) H) hw) hP
                          have hD := Eq.mp (congrArg (fun q => va_D A (WM E a q tr)) hw) hD
                          exact ret_v hE rfl hP hD hS dX10_next_320
                      · refine lv_iconst (v := nI (1)) hx hb dX10_next_158 (by decide) ?_
                        refine lv_goto (tgt := 174) hx hb dX10_next_159 (by decide) ?_
                        refine pf_X10_86 hE hP hD hS (0) (gM_0 E a (up2 (up2 (up2 I (10) (0) (e1)) (11) (0) (q)) (13) (0) (0)) tr) rfl rfl (Nat.le_of_ble_eq_true rfl) (sM_0_13 E a (up2 (up2 (up2 I (10) (0) (e1)) (11) (0) (q)) (13) (0) (0)) tr (1)) dX10_next_174 (fun H locs hP hD hS => ?_)
                        refine lv_goto (tgt := 320) hx hb dX10_next_177 (by decide) ?_
                        have hw : (up2 (up2 (up2 (up2 I (10) (0) (e1)) (11) (0) (q)) (13) (0) (0)) (12) (0) (1)) = (nxJ I) := (by unfold nxJ; rw [hsq, if_neg (by omega), if_pos c60, hle2]; unfold nxCd; rw [hle2, hsq, ← hcd]; have hcw : wdM (cdW (e1 - q) cd) = 1 := (by unfold cdW wdM; rw [if_pos (show 5 < e1 - q by omega)]; first | (rw [if_pos c145]; done) | (rw [if_neg c145, if_pos c155]; done) | (omega; done) | (rfl; done)); rw [hcw]; rfl)
                        have hP := Eq.mp (congrArg (fun q => va_P E.1 vwCl (WM E a q tr) H) hw) hP
                        have hD := Eq.mp (congrArg (fun q => va_D A (WM E a q tr)) hw) hD
                        exact ret_v hE rfl hP hD hS dX10_next_320
                    · refine lv_iconst (v := nI (0)) hx hb dX10_next_148 (by decide) ?_
                      refine lv_goto (tgt := 174) hx hb dX10_next_149 (by decide) ?_
                      refine pf_X10_86 hE hP hD hS (0) (gM_0 E a (up2 (up2 (up2 I (10) (0) (e1)) (11) (0) (q)) (13) (0) (0)) tr) rfl rfl (Nat.le_of_ble_eq_true rfl) (sM_0_13 E a (up2 (up2 (up2 I (10) (0) (e1)) (11) (0) (q)) (13) (0) (0)) tr (0)) dX10_next_174 (fun H locs hP hD hS => ?_)
                      refine lv_goto (tgt := 320) hx hb dX10_next_177 (by decide) ?_
                      have hw : (up2 (up2 (up2 (up2 I (10) (0) (e1)) (11) (0) (q)) (13) (0) (0)) (12) (0) (0)) = (nxJ I) := (by unfold nxJ; rw [hsq, if_neg (by omega), if_pos c60, hle2]; unfold nxCd; rw [hle2, hsq, ← hcd]; have hcw : wdM (cdW (e1 - q) cd) = 0 := (by unfold cdW wdM; rw [if_pos (show 5 < e1 - q by omega)]; first | (rw [if_pos c145]; done) | (omega; done) | (rfl; done)); rw [hcw]; rfl)
                      have hP := Eq.mp (congrArg (fun q => va_P E.1 vwCl (WM E a q tr) H) hw) hP
                      have hD := Eq.mp (congrArg (fun q => va_D A (WM E a q tr)) hw) hD
                      exact ret_v hE rfl hP hD hS dX10_next_320
                · have hin := rgB_in c76
                  have hbe := hB e1 hin.1
                  refine lv_aload_n hx hb dX10_next_79 rfl (lv_at hl 0 rfl) ?_
                  refine gf_X10_73 hE hP (0) (gM_0 E a (up2 (up2 (up2 I (10) (0) (e1)) (11) (0) (q)) (13) (0) (0)) tr) (v := .int (nI (e1))) rfl dX10_next_80 ?_
                  refine lv_aload_n hx hb dX10_next_83 rfl (lv_at hl 0 rfl) ?_
                  refine gf_X10_80 hE hP (0) (gM_0 E a (up2 (up2 (up2 I (10) (0) (e1)) (11) (0) (q)) (13) (0) (0)) tr) (v := .int (nI (q))) rfl dX10_next_84 ?_
                  refine lv_isub hx hb dX10_next_87 ?_
                  refine tp (pk_sub (by omega)) ?_
                  refine lv_iconst (v := nI (5)) hx hb dX10_next_88 (by decide) ?_
                  refine bN_ge (tgt := 107) hx hb (by omega) (by omega) dX10_next_89 (by decide) (fun c89 => ?_) (fun c89 => ?_)
                  · refine lv_iconst (v := nI (0)) hx hb dX10_next_107 (by decide) ?_
                    refine lv_istore_n (lv' := [(2, .int (nI (0))), (0, .ref (a 0))]) hx hb dX10_next_108 rfl hl (by decide) rfl (fun ls hl => ?_)
                    refine lv_aload_n hx hb dX10_next_109 rfl (lv_at hl 1 rfl) ?_
                    refine lv_dup hx hb dX10_next_110 rfl ?_
                    refine gf_X10_73 hE hP (0) (gM_0 E a (up2 (up2 (up2 I (10) (0) (e1)) (11) (0) (q)) (13) (0) (0)) tr) (v := .int (nI (e1))) rfl dX10_next_111 ?_
                    refine lv_iconst (v := nI (1)) hx hb dX10_next_114 (by decide) ?_
                    refine lv_iadd hx hb dX10_next_115 ?_
                    refine tp (nI_add _ _) ?_
                    refine pf_X10_73 hE hP hD hS (0) (gM_0 E a (up2 (up2 (up2 I (10) (0) (e1)) (11) (0) (q)) (13) (0) (0)) tr) rfl rfl (Nat.le_of_ble_eq_true rfl) (sM_0_11 E a (up2 (up2 (up2 I (10) (0) (e1)) (11) (0) (q)) (13) (0) (0)) tr (e1 + 1)) dX10_next_116 (fun H locs hP hD hS => ?_)
                    refine lv_goto (tgt := 65) hx hb dX10_next_119 (by decide) ?_
                    exact ih65 (e1 + 1) (0) (by omega) (by omega) (by omega) (hs2.trans (skp_t (by omega) c76)) (by rw [show e1 + 1 - q = (e1 - q) + 1 by omega, cdK, show q + (e1 - q) = e1 by omega, ← hcd]; first | exact (if_neg (by omega)).symm | exact (if_pos (by omega)).symm) (by omega) ls _ _ (lv_sub hl [1, 0] rfl) (by have hw : (up2 (up2 (up2 (up2 I (10) (0) (e1)) (11) (0) (q)) (13) (0) (0)) (10) (0) (e1 + 1)) = (up2 (up2 (up2 I (10) (0) ((e1 + 1))) (11) (0) (q)) (13) (0) (0)) := (nxB_10 _ _ _ _ _); rw [hw] at hP; exact hP) (by have hw : (up2 (up2 (up2 (up2 I (10) (0) (e1)) (11) (0) (q)) (13) (0) (0)) (10) (0) (e1 + 1)) = (up2 (up2 (up2 I (10) (0) ((e1 + 1))) (11) (0) (q)) (13) (0) (0)) := (nxB_10 _ _ _ _ _); rw [hw] at hD; exact hD) hS
                  · refine lv_bipush (v := nI (27)) hx hb dX10_next_92 (by decide) ?_
                    refine lv_iload_n hx hb dX10_next_94 rfl (lv_at hl 1 rfl) ?_
                    refine lv_imul hx hb dX10_next_95 ?_
                    refine tp (pk_mul _ _) ?_
                    refine lv_aload_n hx hb dX10_next_96 rfl (lv_at hl 0 rfl) ?_
                    refine call_V (As := []) (rest := [.int (nI ((27) * (cd)))]) hE (ct_X10_here l E a (up2 (up2 (up2 I (10) (0) (e1)) (11) (0) (q)) (13) (0) (0)) tr hT (show (e1) ≤ 300 by omega)) cm_X10_here (uw mt_L_X10_76 rfl) (gM_0 E a (up2 (up2 (up2 I (10) (0) (e1)) (11) (0) (q)) (13) (0) (0)) tr) rfl rfl hP hD hS hl.1 rfl rfl (Nat.le_of_ble_eq_true rfl) ⟨by decide, by decide⟩ dX10_next_97 (fun H locs hP hD hS => ?_)
                    refine W.eq (g2 := F0 m 100 ls [.int (rN (hrB ((up2 (up2 (up2 I (10) (0) (e1)) (11) (0) (q)) (13) (0) (0)) 0) ((up2 (up2 (up2 I (10) (0) (e1)) (11) (0) (q)) (13) (0) (0)) 1 0) ((up2 (up2 (up2 I (10) (0) (e1)) (11) (0) (q)) (13) (0) (0)) 10 0))), .int (nI ((27) * (cd)))]) rfl ?_
                    refine tp (show rN (hrB ((up2 (up2 (up2 I (10) (0) (e1)) (11) (0) (q)) (13) (0) (0)) 0) ((up2 (up2 (up2 I (10) (0) (e1)) (11) (0) (q)) (13) (0) (0)) 1 0) ((up2 (up2 (up2 I (10) (0) (e1)) (11) (0) (q)) (13) (0) (0)) 10 0)) = rN (hrB (I 0) (I 1 0) (e1)) from rfl) ?_
                    have hh6 := hr_le hB (e1)
                    refine tp (show rN (hrB (I 0) (I 1 0) (e1)) = nI (I 0 (e1)) by rw [hrB_y hin.1, rN_9]) ?_
                    refine lv_iadd hx hb dX10_next_100 ?_
                    refine tp (nI_add _ _) ?_
                    refine lv_bipush (v := nI (96)) hx hb dX10_next_101 (by decide) ?_
                    refine lv_isub hx hb dX10_next_103 ?_
                    refine tp (pk_sub (by omega)) ?_
                    refine lv_goto (tgt := 108) hx hb dX10_next_104 (by decide) ?_
                    refine lv_istore_n (lv' := [(2, .int (nI ((27) * (cd) + I 0 e1 - (96)))), (0, .ref (a 0))]) hx hb dX10_next_108 rfl hl (by decide) rfl (fun ls hl => ?_)
                    refine lv_aload_n hx hb dX10_next_109 rfl (lv_at hl 1 rfl) ?_
                    refine lv_dup hx hb dX10_next_110 rfl ?_
                    refine gf_X10_73 hE hP (0) (gM_0 E a (up2 (up2 (up2 I (10) (0) (e1)) (11) (0) (q)) (13) (0) (0)) tr) (v := .int (nI (e1))) rfl dX10_next_111 ?_
                    refine lv_iconst (v := nI (1)) hx hb dX10_next_114 (by decide) ?_
                    refine lv_iadd hx hb dX10_next_115 ?_
                    refine tp (nI_add _ _) ?_
                    refine pf_X10_73 hE hP hD hS (0) (gM_0 E a (up2 (up2 (up2 I (10) (0) (e1)) (11) (0) (q)) (13) (0) (0)) tr) rfl rfl (Nat.le_of_ble_eq_true rfl) (sM_0_11 E a (up2 (up2 (up2 I (10) (0) (e1)) (11) (0) (q)) (13) (0) (0)) tr (e1 + 1)) dX10_next_116 (fun H locs hP hD hS => ?_)
                    refine lv_goto (tgt := 65) hx hb dX10_next_119 (by decide) ?_
                    exact ih65 (e1 + 1) ((27) * (cd) + I 0 e1 - (96)) (by omega) (by omega) (by omega) (hs2.trans (skp_t (by omega) c76)) (by rw [show e1 + 1 - q = (e1 - q) + 1 by omega, cdK, show q + (e1 - q) = e1 by omega, ← hcd]; first | exact (if_neg (by omega)).symm | exact (if_pos (by omega)).symm) (by omega) ls _ _ (lv_sub hl [1, 0] rfl) (by have hw : (up2 (up2 (up2 (up2 I (10) (0) (e1)) (11) (0) (q)) (13) (0) (0)) (10) (0) (e1 + 1)) = (up2 (up2 (up2 I (10) (0) ((e1 + 1))) (11) (0) (q)) (13) (0) (0)) := (nxB_10 _ _ _ _ _); rw [hw] at hP; exact hP) (by have hw : (up2 (up2 (up2 (up2 I (10) (0) (e1)) (11) (0) (q)) (13) (0) (0)) (10) (0) (e1 + 1)) = (up2 (up2 (up2 I (10) (0) ((e1 + 1))) (11) (0) (q)) (13) (0) (0)) := (nxB_10 _ _ _ _ _); rw [hw] at hD; exact hD) hS
            exact loop65 (_ + 1) (q) (0) (Nat.lt_succ_self _) (by omega) (by omega) (by unfold nxL; rw [hsq]) (by rw [Nat.sub_self]; rfl) (by omega) ls _ _ (lv_sub hl [2, 0] rfl) hP hD hS
        · have hge := hr_ge c41
          refine lv_aload_n hx hb dX10_next_44 rfl (lv_at hl 1 rfl) ?_
          refine lv_iconst (v := nI (3)) hx hb dX10_next_45 (by decide) ?_
          refine pf_X10_86 hE hP hD hS (0) (gM_0 E a (up2 (up2 (up2 I (10) (0) (q)) (11) (0) (q)) (13) (0) (0)) tr) rfl rfl (Nat.le_of_ble_eq_true rfl) (sM_0_13 E a (up2 (up2 (up2 I (10) (0) (q)) (11) (0) (q)) (13) (0) (0)) tr (3)) dX10_next_46 (fun H locs hP hD hS => ?_)
          refine lv_goto (tgt := 320) hx hb dX10_next_49 (by decide) ?_
          have hw : (up2 (up2 (up2 (up2 I (10) (0) (q)) (11) (0) (q)) (13) (0) (0)) (12) (0) (3)) = (nxJ I) := (by unfold nxJ; rw [hsq, if_pos hge]; rfl)
          have hP := Eq.mp (congrArg (fun q => va_P E.1 vwCl (WM E a q tr) H) hw) hP
          have hD := Eq.mp (congrArg (fun q => va_D A (WM E a q tr)) hw) hD
          exact ret_v hE rfl hP hD hS dX10_next_320
      · have hql := (hr_eq c6).1
        refine lv_aload_n hx hb dX10_next_9 rfl (lv_at hl 0 rfl) ?_
        refine lv_dup hx hb dX10_next_10 rfl ?_
        refine gf_X10_73 hE hP (0) (gM_0 E a (up2 I (10) (0) (q)) tr) (v := .int (nI (q))) rfl dX10_next_11 ?_
        refine lv_iconst (v := nI (1)) hx hb dX10_next_14 (by decide) ?_
        refine lv_iadd hx hb dX10_next_15 ?_
        refine tp (nI_add _ _) ?_
        refine pf_X10_73 hE hP hD hS (0) (gM_0 E a (up2 I (10) (0) (q)) tr) rfl rfl (Nat.le_of_ble_eq_true rfl) (sM_0_11 E a (up2 I (10) (0) (q)) tr (q + 1)) dX10_next_16 (fun H locs hP hD hS => ?_)
        refine lv_goto (tgt := 0) hx hb dX10_next_19 (by decide) ?_
        exact ih0 (q + 1) (by omega) (by have := (hr_eq c6).1; omega) (hs.trans (skp_t (hr_eq c6).1 (rgB_e (hr_eq c6).1 (by have := (hr_eq c6).2; omega)))) ls _ _ (lv_sub hl [0] rfl) (by have hw : (up2 (up2 I (10) (0) (q)) (10) (0) (q + 1)) = (up2 I (10) (0) ((q + 1))) := (up22 _ _ _ _ _); rw [hw] at hP; exact hP) (by have hw : (up2 (up2 I (10) (0) (q)) (10) (0) (q + 1)) = (up2 I (10) (0) ((q + 1))) := (up22 _ _ _ _ _); rw [hw] at hD; exact hD) hS
  exact loop0 (_ + 1) (I 10 0) (Nat.lt_succ_self _) (by omega) rfl ls _ _ (lv_sub hl [0] rfl) (by have hw : I = (up2 I (10) (0) ((I 10 0))) := (up2_self _ _ _).symm; rw [hw] at hP; exact hP) (by have hw : I = (up2 I (10) (0) ((I 10 0))) := (up2_self _ _ _).symm; rw [hw] at hD; exact hD) hS
