def TK (I : Nat → Nat → Nat) : Prop := I 1 0 ≤ 300 ∧ ∀ k, k < I 1 0 → I 0 k < 256

set_option maxHeartbeats 4000000 in
set_option maxRecDepth 100000 in
theorem ct_X6_isLetter (l : Launch) (E : cE) (a : Nat → Nat) (I : Nat → Nat → Nat) (tr : Int64) (k : Nat) (hT : TK I) (hk : k ≤ 300) : Ct l E 1 yX6_isLetter cX6_isLetter 2 (some .boolean) [.ref (a 1), .int (nI (k))] (WC E a I tr) (some (.int (bB (rgB 97 122 (I 0) (I 1 0) k)))) (WC E a I tr) := by
  refine Ct_of (plainFor_of_name (by decide)) (Nat.le_of_ble_eq_true rfl) ?_
  intro p e s m args below meth c A ls hE hP hD hS hl
  have hE : cEnv p s m args meth c E RX6 cX6_isLetter 2 (some .boolean) A := hE
  have hx := hE.1
  have hb := hE.2.1
  have hl : lv_has ls 2 [(0, .ref (a 1)), (1, .int (nI (k)))] := hl
  have hP : va_P E.1 vwCl (WC E a I tr) s.heap := hP
  generalize hH : s.heap = H at hP hS ⊢
  have hS : va_S A s.heap H [] := by rw [hH]; exact hS
  clear hH
  have hT3 := hT.1
  refine lv_iload_n hx hb dX6_isLetter_0 rfl (lv_at hl 1 rfl) ?_
  refine lv_aload_n hx hb dX6_isLetter_1 rfl (lv_at hl 0 rfl) ?_
  refine gf_X6_15 hE hP (1) (gC_1 E a I tr) (v := .int (nI (I (1) (0)))) rfl dX6_isLetter_2 ?_
  refine bN_ge (tgt := 28) hx hb (by omega) (by omega) dX6_isLetter_5 (by decide) (fun c5 => ?_) (fun c5 => ?_)
  · refine lv_iconst (v := nI (0)) hx hb dX6_isLetter_28 (by decide) ?_
    exact ret_z hE (r := nI (0)) (by decide) (by rw [show rgB 97 122 (I 0) (I 1 0) k = false from rgB_n c5]; rfl) hP hD hS dX6_isLetter_29
  · have hbk := hT.2 k c5
    have hw : wi (nI (I 0 k)) (nI 97) (nI 122) = decide (97 ≤ I 0 k ∧ I 0 k ≤ 122) := wi_nat (by omega) (by decide) (by decide)
    refine lv_aload_n hx hb dX6_isLetter_8 rfl (lv_at hl 0 rfl) ?_
    refine gf_X6_9 hE hP (1) (gC_1 E a I tr) (v := .ref (a 10)) rfl dX6_isLetter_9 ?_
    refine lv_iload_n hx hb dX6_isLetter_12 rfl (lv_at hl 1 rfl) ?_
    refine ald_i hE hP (2) (gC_2 E a I tr) (by omega) (by decide) (r := nI (I (0) (k))) rfl dX6_isLetter_13 ?_
    refine lv_bipush (v := nI (97)) hx hb dX6_isLetter_14 (by decide) ?_
    refine lv_bipush (v := nI (122)) hx hb dX6_isLetter_16 (by decide) ?_
    refine call_SN (As := [.int (nI (I (0) (k))), .int (nI (97)), .int (nI (122))]) (rest := []) hE (ct_X9_isWithin l E (WC E a I tr) (nI (I (0) (k))) (nI (97)) (nI (122))) cm_X9_isWithin (hE.2.2.2.2.2.2.2.2.2.1.2.2.1) hP hD hS hl.1 rfl rfl (Nat.le_of_ble_eq_true rfl) ⟨by decide, by decide⟩ dX6_isLetter_18 (fun H locs hP hD hS => ?_)
    refine W.eq (g2 := F0 m 21 ls [.int (bB (wi (nI (I (0) (k))) (nI (97)) (nI (122))))]) rfl ?_
    refine bB_eq (tgt := 28) hx hb dX6_isLetter_21 (by decide) (fun c21 => ?_) (fun c21 => ?_)
    · refine lv_iconst (v := nI (0)) hx hb dX6_isLetter_28 (by decide) ?_
      exact ret_z hE (r := nI (0)) (by decide) (by rw [show rgB 97 122 (I 0) (I 1 0) k = false by rw [rgB_y c5]; exact hw ▸ c21]; rfl) hP hD hS dX6_isLetter_29
    · refine lv_iconst (v := nI (1)) hx hb dX6_isLetter_24 (by decide) ?_
      refine lv_goto (tgt := 29) hx hb dX6_isLetter_25 (by decide) ?_
      exact ret_z hE (r := nI (1)) (by decide) (by rw [show rgB 97 122 (I 0) (I 1 0) k = true by rw [rgB_y c5]; exact hw ▸ c21]; rfl) hP hD hS dX6_isLetter_29

set_option maxHeartbeats 4000000 in
set_option maxRecDepth 100000 in
theorem ct_X6_isDigit (l : Launch) (E : cE) (a : Nat → Nat) (I : Nat → Nat → Nat) (tr : Int64) (k : Nat) (hT : TK I) (hk : k ≤ 300) : Ct l E 1 yX6_isDigit cX6_isDigit 2 (some .boolean) [.ref (a 1), .int (nI (k))] (WC E a I tr) (some (.int (bB (rgB 48 57 (I 0) (I 1 0) k)))) (WC E a I tr) := by
  refine Ct_of (plainFor_of_name (by decide)) (Nat.le_of_ble_eq_true rfl) ?_
  intro p e s m args below meth c A ls hE hP hD hS hl
  have hE : cEnv p s m args meth c E RX6 cX6_isDigit 2 (some .boolean) A := hE
  have hx := hE.1
  have hb := hE.2.1
  have hl : lv_has ls 2 [(0, .ref (a 1)), (1, .int (nI (k)))] := hl
  have hP : va_P E.1 vwCl (WC E a I tr) s.heap := hP
  generalize hH : s.heap = H at hP hS ⊢
  have hS : va_S A s.heap H [] := by rw [hH]; exact hS
  clear hH
  have hT3 := hT.1
  refine lv_iload_n hx hb dX6_isDigit_0 rfl (lv_at hl 1 rfl) ?_
  refine lv_aload_n hx hb dX6_isDigit_1 rfl (lv_at hl 0 rfl) ?_
  refine gf_X6_15 hE hP (1) (gC_1 E a I tr) (v := .int (nI (I (1) (0)))) rfl dX6_isDigit_2 ?_
  refine bN_ge (tgt := 28) hx hb (by omega) (by omega) dX6_isDigit_5 (by decide) (fun c5 => ?_) (fun c5 => ?_)
  · refine lv_iconst (v := nI (0)) hx hb dX6_isDigit_28 (by decide) ?_
    exact ret_z hE (r := nI (0)) (by decide) (by rw [show rgB 48 57 (I 0) (I 1 0) k = false from rgB_n c5]; rfl) hP hD hS dX6_isDigit_29
  · have hbk := hT.2 k c5
    have hw : wi (nI (I 0 k)) (nI 48) (nI 57) = decide (48 ≤ I 0 k ∧ I 0 k ≤ 57) := wi_nat (by omega) (by decide) (by decide)
    refine lv_aload_n hx hb dX6_isDigit_8 rfl (lv_at hl 0 rfl) ?_
    refine gf_X6_9 hE hP (1) (gC_1 E a I tr) (v := .ref (a 10)) rfl dX6_isDigit_9 ?_
    refine lv_iload_n hx hb dX6_isDigit_12 rfl (lv_at hl 1 rfl) ?_
    refine ald_i hE hP (2) (gC_2 E a I tr) (by omega) (by decide) (r := nI (I (0) (k))) rfl dX6_isDigit_13 ?_
    refine lv_bipush (v := nI (48)) hx hb dX6_isDigit_14 (by decide) ?_
    refine lv_bipush (v := nI (57)) hx hb dX6_isDigit_16 (by decide) ?_
    refine call_SN (As := [.int (nI (I (0) (k))), .int (nI (48)), .int (nI (57))]) (rest := []) hE (ct_X9_isWithin l E (WC E a I tr) (nI (I (0) (k))) (nI (48)) (nI (57))) cm_X9_isWithin (hE.2.2.2.2.2.2.2.2.2.1.2.2.1) hP hD hS hl.1 rfl rfl (Nat.le_of_ble_eq_true rfl) ⟨by decide, by decide⟩ dX6_isDigit_18 (fun H locs hP hD hS => ?_)
    refine W.eq (g2 := F0 m 21 ls [.int (bB (wi (nI (I (0) (k))) (nI (48)) (nI (57))))]) rfl ?_
    refine bB_eq (tgt := 28) hx hb dX6_isDigit_21 (by decide) (fun c21 => ?_) (fun c21 => ?_)
    · refine lv_iconst (v := nI (0)) hx hb dX6_isDigit_28 (by decide) ?_
      exact ret_z hE (r := nI (0)) (by decide) (by rw [show rgB 48 57 (I 0) (I 1 0) k = false by rw [rgB_y c5]; exact hw ▸ c21]; rfl) hP hD hS dX6_isDigit_29
    · refine lv_iconst (v := nI (1)) hx hb dX6_isDigit_24 (by decide) ?_
      refine lv_goto (tgt := 29) hx hb dX6_isDigit_25 (by decide) ?_
      exact ret_z hE (r := nI (1)) (by decide) (by rw [show rgB 48 57 (I 0) (I 1 0) k = true by rw [rgB_y c5]; exact hw ▸ c21]; rfl) hP hD hS dX6_isDigit_29

set_option maxHeartbeats 4000000 in
set_option maxRecDepth 100000 in
theorem ct_X6_isBlank (l : Launch) (E : cE) (a : Nat → Nat) (I : Nat → Nat → Nat) (tr : Int64) (k : Nat) (hT : TK I) (hk : k ≤ 300) : Ct l E 0 yX6_isBlank cX6_isBlank 2 (some .boolean) [.ref (a 1), .int (nI (k))] (WC E a I tr) (some (.int (bB (rgB 32 32 (I 0) (I 1 0) k)))) (WC E a I tr) := by
  refine Ct_of (plainFor_of_name (by decide)) (Nat.le_of_ble_eq_true rfl) ?_
  intro p e s m args below meth c A ls hE hP hD hS hl
  have hE : cEnv p s m args meth c E RX6 cX6_isBlank 2 (some .boolean) A := hE
  have hx := hE.1
  have hb := hE.2.1
  have hl : lv_has ls 2 [(0, .ref (a 1)), (1, .int (nI (k)))] := hl
  have hP : va_P E.1 vwCl (WC E a I tr) s.heap := hP
  generalize hH : s.heap = H at hP hS ⊢
  have hS : va_S A s.heap H [] := by rw [hH]; exact hS
  clear hH
  have hT3 := hT.1
  refine lv_iload_n hx hb dX6_isBlank_0 rfl (lv_at hl 1 rfl) ?_
  refine lv_aload_n hx hb dX6_isBlank_1 rfl (lv_at hl 0 rfl) ?_
  refine gf_X6_15 hE hP (1) (gC_1 E a I tr) (v := .int (nI (I (1) (0)))) rfl dX6_isBlank_2 ?_
  refine bN_ge (tgt := 23) hx hb (by omega) (by omega) dX6_isBlank_5 (by decide) (fun c5 => ?_) (fun c5 => ?_)
  · refine lv_iconst (v := nI (0)) hx hb dX6_isBlank_23 (by decide) ?_
    exact ret_z hE (r := nI (0)) (by decide) (by rw [show rgB 32 32 (I 0) (I 1 0) k = false from rgB_n c5]; rfl) hP hD hS dX6_isBlank_24
  · have hbk := hT.2 k c5
    refine lv_aload_n hx hb dX6_isBlank_8 rfl (lv_at hl 0 rfl) ?_
    refine gf_X6_9 hE hP (1) (gC_1 E a I tr) (v := .ref (a 10)) rfl dX6_isBlank_9 ?_
    refine lv_iload_n hx hb dX6_isBlank_12 rfl (lv_at hl 1 rfl) ?_
    refine ald_i hE hP (2) (gC_2 E a I tr) (by omega) (by decide) (r := nI (I (0) (k))) rfl dX6_isBlank_13 ?_
    refine lv_bipush (v := nI (32)) hx hb dX6_isBlank_14 (by decide) ?_
    refine bN_ne (tgt := 23) hx hb (by omega) (by omega) dX6_isBlank_16 (by decide) (fun c16 => ?_) (fun c16 => ?_)
    · refine lv_iconst (v := nI (0)) hx hb dX6_isBlank_23 (by decide) ?_
      exact ret_z hE (r := nI (0)) (by decide) (by rw [show rgB 32 32 (I 0) (I 1 0) k = false by rw [rgB_y c5]; exact df (fun z => by omega)]; rfl) hP hD hS dX6_isBlank_24
    · refine lv_iconst (v := nI (1)) hx hb dX6_isBlank_19 (by decide) ?_
      refine lv_goto (tgt := 24) hx hb dX6_isBlank_20 (by decide) ?_
      exact ret_z hE (r := nI (1)) (by decide) (by rw [show rgB 32 32 (I 0) (I 1 0) k = true by rw [rgB_y c5]; exact dt ⟨by omega, by omega⟩]; rfl) hP hD hS dX6_isBlank_24

set_option maxHeartbeats 4000000 in
set_option maxRecDepth 100000 in
theorem ct_X6_has (l : Launch) (E : cE) (a : Nat → Nat) (I : Nat → Nat → Nat) (tr : Int64) (i f t : Nat) (hT : TK I) (hi3 : i < 3) (hft : f ≤ t) (ht : t ≤ I 1 0) : Ct l E 4 yX6_has cX6_has 5 (some .boolean) [.ref (a 1), .ref (E.2.2.1 i), .int (nI (f)), .int (nI (t))] (WC E a I tr) (some (.int (bB (hsB i (I 0) f t)))) (WC E a I tr) := by
  refine Ct_of (plainFor_of_name (by decide)) (Nat.le_of_ble_eq_true rfl) ?_
  intro p e s m args below meth c A ls hE hP hD hS hl
  have hE : cEnv p s m args meth c E RX6 cX6_has 5 (some .boolean) A := hE
  have hx := hE.1
  have hb := hE.2.1
  have hl : lv_has ls 5 [(0, .ref (a 1)), (1, .ref (E.2.2.1 i)), (2, .int (nI (f))), (3, .int (nI (t)))] := hl
  have hP : va_P E.1 vwCl (WC E a I tr) s.heap := hP
  generalize hH : s.heap = H at hP hS ⊢
  have hS : va_S A s.heap H [] := by rw [hH]; exact hS
  clear hH
  have hT3 := hT.1
  have hs5 := sLn_le i hi3
  refine lv_iload_n hx hb dX6_has_0 rfl (lv_at hl 3 rfl) ?_
  refine lv_iload_n hx hb dX6_has_1 rfl (lv_at hl 2 rfl) ?_
  refine lv_isub hx hb dX6_has_2 ?_
  refine tp (pk_sub (by omega)) ?_
  refine lv_aload_n hx hb dX6_has_3 rfl (lv_at hl 1 rfl) ?_
  refine call_VK (As := []) (rest := [.int (nI (t - (f)))]) hE (ct_J0_length l E (WC E a I tr) i hi3) cm_J0_length_8abf5 (uw mt_L_X6_23 rfl) (vk_recv (eS hE) hi3 hS) hP hD hS hl.1 rfl rfl (Nat.le_of_ble_eq_true rfl) ⟨by decide, by decide⟩ dX6_has_4 (fun H locs hP hD hS => ?_)
  refine W.eq (g2 := F0 m 7 ls [.int (nI (sLn i)), .int (nI (t - (f)))]) rfl ?_
  refine bN_eq (tgt := 12) hx hb (by omega) (by omega) dX6_has_7 (by decide) (fun c7 => ?_) (fun c7 => ?_)
  · refine lv_iconst (v := nI (0)) hx hb dX6_has_12 (by decide) ?_
    refine lv_istore (lv' := [(4, .int (nI (0))), (0, .ref (a 1)), (1, .ref (E.2.2.1 i)), (2, .int (nI (f))), (3, .int (nI (t)))]) hx hb dX6_has_13 hl (by decide) rfl (fun ls hl => ?_)
    have loop15 : ∀ (fu15 : Nat) (j : Nat), sLn i - j < fu15 → (j ≤ sLn i) → (al (fun j => decide (I 0 (f + j) = sCh i j)) j = true) → ∀ (ls : Array Slot) (H : Heap) (locs : List Loc), lv_has ls 5 [(0, .ref (a 1)), (1, .ref (E.2.2.1 i)), (2, .int (nI (f))), (3, .int (nI (t))), (4, .int (nI (j)))] → va_P E.1 vwCl (WC E a I tr) H → va_D A (WC E a I tr) → va_S A s.heap H locs → W p l e (rmL 4) s m args below meth c H locs 0 0 (RQ E below args s A (some (.int (bB (hsB i (I 0) f t)))) (WC E a I tr)) (F0 m 15 ls []) := by
      intro fu15
      induction fu15 with
      | zero => intro j h; exact absurd h (Nat.not_lt_zero _)
      | succ fu15 ih15 =>
        intro j hfu15 hj ha ls H locs hl hP hD hS
        refine lv_iload hx hb dX6_has_15 (lv_at hl 4 rfl) ?_
        refine lv_aload_n hx hb dX6_has_17 rfl (lv_at hl 1 rfl) ?_
        refine call_VK (As := []) (rest := [.int (nI (j))]) hE (ct_J0_length l E (WC E a I tr) i hi3) cm_J0_length_8abf5 (uw mt_L_X6_23 rfl) (vk_recv (eS hE) hi3 hS) hP hD hS hl.1 rfl rfl (Nat.le_of_ble_eq_true rfl) ⟨by decide, by decide⟩ dX6_has_18 (fun H locs hP hD hS => ?_)
        refine W.eq (g2 := F0 m 21 ls [.int (nI (sLn i)), .int (nI (j))]) rfl ?_
        refine bN_ge (tgt := 50) hx hb (by omega) (by omega) dX6_has_21 (by decide) (fun c21 => ?_) (fun c21 => ?_)
        · refine lv_iconst (v := nI (1)) hx hb dX6_has_50 (by decide) ?_
          exact ret_z hE (r := nI (1)) (by decide) (by rw [hsB_y c7 (show al (fun j => decide (I 0 (f + j) = sCh i j)) (sLn i) = true by rw [show sLn i = j by omega]; exact ha)]; rfl) hP hD hS dX6_has_51
        · have hbk := hT.2 (f + j) (by omega)
          refine lv_aload_n hx hb dX6_has_24 rfl (lv_at hl 0 rfl) ?_
          refine gf_X6_9 hE hP (1) (gC_1 E a I tr) (v := .ref (a 10)) rfl dX6_has_25 ?_
          refine lv_iload_n hx hb dX6_has_28 rfl (lv_at hl 2 rfl) ?_
          refine lv_iload hx hb dX6_has_29 (lv_at hl 4 rfl) ?_
          refine lv_iadd hx hb dX6_has_31 ?_
          refine tp (nI_add _ _) ?_
          refine ald_i hE hP (2) (gC_2 E a I tr) (by omega) (by decide) (r := nI (I (0) (f + j))) rfl dX6_has_32 ?_
          refine lv_aload_n hx hb dX6_has_33 rfl (lv_at hl 1 rfl) ?_
          refine lv_iload hx hb dX6_has_34 (lv_at hl 4 rfl) ?_
          refine call_VK (As := [.int (nI (j))]) (rest := [.int (nI (I (0) (f + j)))]) hE (ct_J0_charAt l E (WC E a I tr) i (j) hi3 (by omega)) cm_J0_charAt_5068e (uw mt_L_X6_28 rfl) (vk_recv (eS hE) hi3 hS) hP hD hS hl.1 rfl rfl (Nat.le_of_ble_eq_true rfl) ⟨by decide, by decide⟩ dX6_has_36 (fun H locs hP hD hS => ?_)
          refine W.eq (g2 := F0 m 39 ls [.int (nI (sCh i (j))), .int (nI (I (0) (f + j)))]) rfl ?_
          have hch := (sCh_b i hi3 (j) (by omega)).2
          refine bN_eq (tgt := 44) hx hb (by omega) (by omega) dX6_has_39 (by decide) (fun c39 => ?_) (fun c39 => ?_)
          · refine lv_iinc (v := nI (j + 1)) (lv' := [(4, .int (nI (j + 1))), (0, .ref (a 1)), (1, .ref (E.2.2.1 i)), (2, .int (nI (f))), (3, .int (nI (t)))]) hx hb dX6_has_44 hl (k := 4) rfl (ii1_N _) (by decide) rfl (fun ls hl => ?_)
            refine lv_goto (tgt := 15) hx hb dX6_has_47 (by decide) ?_
            exact ih15 (j + 1) (by omega) (by omega) (al_t ha (dt c39)) ls _ _ (lv_sub hl [1, 2, 3, 4, 0] rfl) hP hD hS
          · refine lv_iconst (v := nI (0)) hx hb dX6_has_42 (by decide) ?_
            exact ret_z hE (r := nI (0)) (by decide) (by rw [hsB_f c21 c39]; rfl) hP hD hS dX6_has_43
    exact loop15 (_ + 1) (0) (Nat.lt_succ_self _) (by omega) rfl ls _ _ (lv_sub hl [1, 2, 3, 4, 0] rfl) hP hD hS
  · refine lv_iconst (v := nI (0)) hx hb dX6_has_10 (by decide) ?_
    exact ret_z hE (r := nI (0)) (by decide) (by rw [hsB_n c7]; rfl) hP hD hS dX6_has_11

set_option maxHeartbeats 4000000 in
set_option maxRecDepth 100000 in
theorem ct_X6_add (l : Launch) (E : cE) (a : Nat → Nat) (I : Nat → Nat → Nat) (tr : Int64) (v : Int64) (n : Nat) (hn : n ≤ 8) (hn1 : 1 ≤ n) (h3 : I 1 0 + n ≤ 300) : Ct l E 0 yX6_add cX6_add 5 none [.ref (a 1), .long (v), .int (nI (n))] (WC E a I tr) none (WC E a (up2 (upA I 0 (tyB (I 0) (I 1 0) v n 0)) 1 0 (I 1 0 + n)) tr) := by
  refine Ct_of (plainFor_of_name (by decide)) (Nat.le_of_ble_eq_true rfl) ?_
  intro p e s m args below meth c A ls hE hP hD hS hl
  have hE : cEnv p s m args meth c E RX6 cX6_add 5 none A := hE
  have hx := hE.1
  have hb := hE.2.1
  have hl : lv_has ls 5 [(0, .ref (a 1)), (1, .long (v)), (3, .int (nI (n)))] := hl
  have hP : va_P E.1 vwCl (WC E a I tr) s.heap := hP
  generalize hH : s.heap = H at hP hS ⊢
  have hS : va_S A s.heap H [] := by rw [hH]; exact hS
  clear hH
  refine lv_iload_n hx hb dX6_add_0 rfl (lv_at hl 2 rfl) ?_
  refine lv_iconst (v := nI (1)) hx hb dX6_add_1 (by decide) ?_
  refine lv_isub hx hb dX6_add_2 ?_
  refine tp (pk_sub (by omega)) ?_
  refine tp (show nI (n - 1) = rN (n + 8) by rw [← rN_9, show n - 1 + 9 = n + 8 by omega]) ?_
  refine lv_istore (lv' := [(4, .int (rN (n + 8))), (0, .ref (a 1)), (1, .long (v)), (3, .int (nI (n)))]) hx hb dX6_add_3 hl (by decide) rfl (fun ls hl => ?_)
  have loop5 : ∀ (fu5 : Nat) (u : Nat), u < fu5 → (u ≤ n) → ∀ (ls : Array Slot) (H : Heap) (locs : List Loc), lv_has ls 5 [(0, .ref (a 1)), (1, .long (v)), (3, .int (nI (n))), (4, .int (rN (u + 8)))] → va_P E.1 vwCl (WC E a (up2 (upA I (0) (tyB (I 0) (I 1 0) v n (u))) (1) (0) (I 1 0 + (n - (u)))) tr) H → va_D A (WC E a (up2 (upA I (0) (tyB (I 0) (I 1 0) v n (u))) (1) (0) (I 1 0 + (n - (u)))) tr) → va_S A s.heap H locs → W p l e (rmL 0) s m args below meth c H locs 0 0 (RQ E below args s A none (WC E a (up2 (upA I 0 (tyB (I 0) (I 1 0) v n 0)) 1 0 (I 1 0 + n)) tr)) (F0 m 5 ls []) := by
    intro fu5
    induction fu5 with
    | zero => intro u h; exact absurd h (Nat.not_lt_zero _)
    | succ fu5 ih5 =>
      intro u hfu5 hu ls H locs hl hP hD hS
      refine lv_iload hx hb dX6_add_5 (lv_at hl 3 rfl) ?_
      refine bQz_lt (tgt := 57) hx hb (by omega) dX6_add_7 (by decide) (fun c7 => ?_) (fun c7 => ?_)
      · rw [show u = 0 by omega, Nat.sub_zero] at hP hD
        exact ret_v hE rfl hP hD hS dX6_add_57
      · obtain ⟨k, rfl⟩ : ∃ k, u = k + 1 := ⟨u - 1, by omega⟩
        rw [show rN (k + 1 + 8) = nI k from rN_9 k] at hl
        refine lv_aload_n hx hb dX6_add_10 rfl (lv_at hl 0 rfl) ?_
        refine gf_X6_15 hE hP (1) (gC_1 E a (up2 (upA I (0) (tyB (I 0) (I 1 0) v n (k + 1))) (1) (0) (I 1 0 + (n - (k + 1)))) tr) (v := .int (nI (I 1 0 + (n - (k + 1))))) rfl dX6_add_11 ?_
        refine lv_sipush (v := nI (300)) hx hb dX6_add_14 (by decide) ?_
        refine bN_ge (tgt := 57) hx hb (by omega) (by omega) dX6_add_17 (by decide) (fun c17 => absurd c17 (by omega)) (fun c17 => ?_)
        refine lv_aload_n hx hb dX6_add_20 rfl (lv_at hl 0 rfl) ?_
        refine gf_X6_9 hE hP (1) (gC_1 E a (up2 (upA I (0) (tyB (I 0) (I 1 0) v n (k + 1))) (1) (0) (I 1 0 + (n - (k + 1)))) tr) (v := .ref (a 10)) rfl dX6_add_21 ?_
        refine lv_aload_n hx hb dX6_add_24 rfl (lv_at hl 0 rfl) ?_
        refine gf_X6_15 hE hP (1) (gC_1 E a (up2 (upA I (0) (tyB (I 0) (I 1 0) v n (k + 1))) (1) (0) (I 1 0 + (n - (k + 1)))) tr) (v := .int (nI (I 1 0 + (n - (k + 1))))) rfl dX6_add_25 ?_
        refine lv_lload_n hx hb dX6_add_28 rfl (lv_at hl 1 rfl) ?_
        refine lv_bipush (v := nI (8)) hx hb dX6_add_29 (by decide) ?_
        refine lv_iload hx hb dX6_add_31 (lv_at hl 3 rfl) ?_
        refine lv_imul hx hb dX6_add_33 ?_
        refine tp (pk_mul _ _) ?_
        refine lv_lushr (v := (((v).toUInt64 >>> ((nI ((8) * (k))).toInt64.toUInt64 &&& Int64.toUInt64 63)).toInt64)) hx hb dX6_add_34 rfl ?_
        refine lv_l2i (v := ((((v).toUInt64 >>> ((nI ((8) * (k))).toInt64.toUInt64 &&& Int64.toUInt64 63)).toInt64)).toInt32) hx hb dX6_add_35 rfl ?_
        refine lv_sipush (v := nI (255)) hx hb dX6_add_36 (by decide) ?_
        refine lv_iand hx hb dX6_add_39 ?_
        refine tp (byC v (i := k) (by omega)) ?_
        refine ast_i hE hP hD hS (2) (gC_2 E a (up2 (upA I (0) (tyB (I 0) (I 1 0) v n (k + 1))) (1) (0) (I 1 0 + (n - (k + 1)))) tr) (by omega) (by decide) (sC_2 E a (up2 (upA I (0) (tyB (I 0) (I 1 0) v n (k + 1))) (1) (0) (I 1 0 + (n - (k + 1)))) tr (I 1 0 + (n - (k + 1))) (byV v k)) dX6_add_40 (fun H locs hP hD hS => ?_)
        refine lv_aload_n hx hb dX6_add_41 rfl (lv_at hl 0 rfl) ?_
        refine lv_dup hx hb dX6_add_42 rfl ?_
        refine gf_X6_15 hE hP (1) (gC_1 E a (up2 (up2 (upA I (0) (tyB (I 0) (I 1 0) v n (k + 1))) (1) (0) (I 1 0 + (n - (k + 1)))) (0) (I 1 0 + (n - (k + 1))) (byV v k)) tr) (v := .int (nI (I 1 0 + (n - (k + 1))))) rfl dX6_add_43 ?_
        refine lv_iconst (v := nI (1)) hx hb dX6_add_46 (by decide) ?_
        refine lv_iadd hx hb dX6_add_47 ?_
        refine tp (nI_add _ _) ?_
        refine pf_X6_15 hE hP hD hS (1) (gC_1 E a (up2 (up2 (upA I (0) (tyB (I 0) (I 1 0) v n (k + 1))) (1) (0) (I 1 0 + (n - (k + 1)))) (0) (I 1 0 + (n - (k + 1))) (byV v k)) tr) rfl rfl (Nat.le_of_ble_eq_true rfl) (sC_1_1 E a (up2 (up2 (upA I (0) (tyB (I 0) (I 1 0) v n (k + 1))) (1) (0) (I 1 0 + (n - (k + 1)))) (0) (I 1 0 + (n - (k + 1))) (byV v k)) tr (I 1 0 + (n - (k + 1)) + 1)) dX6_add_48 (fun H locs hP hD hS => ?_)
        refine lv_iinc (v := rN (k + 8)) (lv' := [(4, .int (rN (k + 8))), (0, .ref (a 1)), (1, .long (v)), (3, .int (nI (n)))]) hx hb dX6_add_51 hl (k := 3) rfl (iim1_NQ k) (by decide) rfl (fun ls hl => ?_)
        refine lv_goto (tgt := 5) hx hb dX6_add_54 (by decide) ?_
        exact ih5 (k) (by omega) (by omega) ls _ _ (lv_sub hl [1, 2, 3, 0] rfl) (by have hw : (up2 (up2 (up2 (upA I (0) (tyB (I 0) (I 1 0) v n (k + 1))) (1) (0) (I 1 0 + (n - (k + 1)))) (0) (I 1 0 + (n - (k + 1))) (byV v k)) (1) (0) (I 1 0 + (n - (k + 1)) + 1)) = (up2 (upA I (0) (tyB (I 0) (I 1 0) v n ((k)))) (1) (0) (I 1 0 + (n - ((k))))) := (by rw [adW (I := I) (by omega)]); rw [hw] at hP; exact hP) (by have hw : (up2 (up2 (up2 (upA I (0) (tyB (I 0) (I 1 0) v n (k + 1))) (1) (0) (I 1 0 + (n - (k + 1)))) (0) (I 1 0 + (n - (k + 1))) (byV v k)) (1) (0) (I 1 0 + (n - (k + 1)) + 1)) = (up2 (upA I (0) (tyB (I 0) (I 1 0) v n ((k)))) (1) (0) (I 1 0 + (n - ((k))))) := (by rw [adW (I := I) (by omega)]); rw [hw] at hD; exact hD) hS
  exact loop5 (_ + 1) (n) (Nat.lt_succ_self _) (by omega) ls _ _ (lv_sub hl [1, 2, 3, 0] rfl) (by have hw : I = (up2 (upA I (0) (tyB (I 0) (I 1 0) v n ((n)))) (1) (0) (I 1 0 + (n - ((n))))) := (by rw [tyB_0, upA_self, Nat.sub_self, Nat.add_zero, up2_self]); rw [hw] at hP; exact hP) (by have hw : I = (up2 (upA I (0) (tyB (I 0) (I 1 0) v n ((n)))) (1) (0) (I 1 0 + (n - ((n))))) := (by rw [tyB_0, upA_self, Nat.sub_self, Nat.add_zero, up2_self]); rw [hw] at hD; exact hD) hS
