set_option maxHeartbeats 4000000 in
set_option maxRecDepth 100000 in
theorem ct_X0_tallyTurns (l : Launch) (E : cE) (a : Nat → Nat) (I : Nat → Nat → Nat) (tr : Int64) (h x : Nat) (hI : CK I) (hh : h < 6) (hx6 : x < 6) : Ct l E 1 yX0_tallyTurns cX0_tallyTurns 4 none [.ref (a 3), .int (nI (h)), .int (nI (x))] (WC E a I tr) none (WC E a (upA I 12 (tlU (flN (I 12) 48 0) (fun u => fm (shC I h u) (shC I x u)) 96)) tr) := by
  refine Ct_of (plainFor_of_name (by decide)) (Nat.le_of_ble_eq_true rfl) ?_
  intro p e s m args below meth c A ls hE hP hD hS hl
  have hE : cEnv p s m args meth c E RX0 cX0_tallyTurns 4 none A := hE
  have hx := hE.1
  have hb := hE.2.1
  have hl : lv_has ls 4 [(0, .ref (a 3)), (1, .int (nI (h))), (2, .int (nI (x)))] := hl
  have hP : va_P E.1 vwCl (WC E a I tr) s.heap := hP
  generalize hH : s.heap = H at hP hS ⊢
  have hS : va_S A s.heap H [] := by rw [hH]; exact hS
  clear hH
  refine lv_aload_n hx hb dX0_tallyTurns_0 rfl (lv_at hl 0 rfl) ?_
  refine gf_X0_18 hE hP (4) (gC_4 E a I tr) (v := .ref (a 13)) rfl dX0_tallyTurns_1 ?_
  refine lv_iconst (v := nI (0)) hx hb dX0_tallyTurns_4 (by decide) ?_
  refine call_S (As := [.ref (a 13), .int (nI (0))]) (rest := []) hE (ct_J7_fill l E (WC E a I tr) 9 (a 13) 48 0 (I 12) (gC_9 E a I tr) (by decide)) cm_J7_fill_53178 (uw mt_L_X0_82 rfl) hP hD hS hl.1 rfl rfl (Nat.le_of_ble_eq_true rfl) ⟨by decide, by decide⟩ dX0_tallyTurns_5 (fun H locs hP hD hS => ?_)
  refine W.eq (g2 := F0 m 8 ls []) rfl ?_
  rw [tC_9] at hP hD
  refine lv_iconst (v := nI (0)) hx hb dX0_tallyTurns_8 (by decide) ?_
  refine lv_istore_n (lv' := [(3, .int (nI (0))), (0, .ref (a 3)), (1, .int (nI (h))), (2, .int (nI (x)))]) hx hb dX0_tallyTurns_9 rfl hl (by decide) rfl (fun ls hl => ?_)
  have loop10 : ∀ (fu10 : Nat) (t : Nat), 96 - t < fu10 → (t ≤ 96) → ∀ (ls : Array Slot) (H : Heap) (locs : List Loc), lv_has ls 4 [(0, .ref (a 3)), (1, .int (nI (h))), (2, .int (nI (x))), (3, .int (nI (t)))] → va_P E.1 vwCl (WC E a (upA I (12) (tlU (flN (I 12) 48 0) (fun u => fm (shC I h u) (shC I x u)) t)) tr) H → va_D A (WC E a (upA I (12) (tlU (flN (I 12) 48 0) (fun u => fm (shC I h u) (shC I x u)) t)) tr) → va_S A s.heap H locs → W p l e (rmL 1) s m args below meth c H locs 0 0 (RQ E below args s A none (WC E a (upA I 12 (tlU (flN (I 12) 48 0) (fun u => fm (shC I h u) (shC I x u)) 96)) tr)) (F0 m 10 ls []) := by
    intro fu10
    induction fu10 with
    | zero => intro t h; exact absurd h (Nat.not_lt_zero _)
    | succ fu10 ih10 =>
      intro t hfu10 ht ls H locs hl hP hD hS
      have hI0 := hI
      have hT : ∀ v, v < 48 → tlU (flN (I 12) 48 0) (fun u => fm (shC I h u) (shC I x u)) t v ≤ 96 := fun v hv => by rw [tlU_eq, flN, if_pos hv]; exact Nat.le_trans (Nat.le_of_eq (Nat.zero_add _)) (Nat.le_trans (cnt_le _ t) ht)
      refine lv_iload_n hx hb dX0_tallyTurns_10 rfl (lv_at hl 3 rfl) ?_
      refine lv_bipush (v := nI (96)) hx hb dX0_tallyTurns_11 (by decide) ?_
      refine bN_ge (tgt := 49) hx hb (by omega) (by omega) dX0_tallyTurns_13 (by decide) (fun c13 => ?_) (fun c13 => ?_)
      · rw [show t = 96 by omega] at hP hD
        exact ret_v hE rfl hP hD hS dX0_tallyTurns_49
      · refine lv_aload_n hx hb dX0_tallyTurns_16 rfl (lv_at hl 0 rfl) ?_
        refine gf_X0_18 hE hP (4) (gC_4 E a (upA I (12) (tlU (flN (I 12) 48 0) (fun u => fm (shC I h u) (shC I x u)) t)) tr) (v := .ref (a 13)) rfl dX0_tallyTurns_17 ?_
        refine lv_aload_n hx hb dX0_tallyTurns_20 rfl (lv_at hl 0 rfl) ?_
        refine lv_iload_n hx hb dX0_tallyTurns_21 rfl (lv_at hl 1 rfl) ?_
        refine lv_iload_n hx hb dX0_tallyTurns_22 rfl (lv_at hl 3 rfl) ?_
        refine call_V (As := [.int (nI (h)), .int (nI (t))]) (rest := [.ref (a 13)]) hE (ct_X0_showsAt l E a (upA I (12) (tlU (flN (I 12) 48 0) (fun u => fm (shC I h u) (shC I x u)) t)) tr (h) (t) (CK_12 _ hI) (by omega) (by omega)) cm_X0_showsAt (uw mt_L_X0_56 rfl) (gC_4 E a (upA I (12) (tlU (flN (I 12) 48 0) (fun u => fm (shC I h u) (shC I x u)) t)) tr) rfl rfl hP hD hS hl.1 rfl rfl (Nat.le_of_ble_eq_true rfl) ⟨by decide, by decide⟩ dX0_tallyTurns_23 (fun H locs hP hD hS => ?_)
        refine W.eq (g2 := F0 m 26 ls [.int (nI (shC (upA I (12) (tlU (flN (I 12) 48 0) (fun u => fm (shC I h u) (shC I x u)) t)) (h) (t))), .ref (a 13)]) rfl ?_
        rw [shC_12]
        have hs1 := shC_lt I (h) (t)
        refine lv_aload_n hx hb dX0_tallyTurns_26 rfl (lv_at hl 0 rfl) ?_
        refine lv_iload_n hx hb dX0_tallyTurns_27 rfl (lv_at hl 2 rfl) ?_
        refine lv_iload_n hx hb dX0_tallyTurns_28 rfl (lv_at hl 3 rfl) ?_
        refine call_V (As := [.int (nI (x)), .int (nI (t))]) (rest := [.int (nI (shC I (h) (t))), .ref (a 13)]) hE (ct_X0_showsAt l E a (upA I (12) (tlU (flN (I 12) 48 0) (fun u => fm (shC I h u) (shC I x u)) t)) tr (x) (t) (CK_12 _ hI) (by omega) (by omega)) cm_X0_showsAt (uw mt_L_X0_56 rfl) (gC_4 E a (upA I (12) (tlU (flN (I 12) 48 0) (fun u => fm (shC I h u) (shC I x u)) t)) tr) rfl rfl hP hD hS hl.1 rfl rfl (Nat.le_of_ble_eq_true rfl) ⟨by decide, by decide⟩ dX0_tallyTurns_29 (fun H locs hP hD hS => ?_)
        refine W.eq (g2 := F0 m 32 ls [.int (nI (shC (upA I (12) (tlU (flN (I 12) 48 0) (fun u => fm (shC I h u) (shC I x u)) t)) (x) (t))), .int (nI (shC I (h) (t))), .ref (a 13)]) rfl ?_
        rw [shC_12]
        have hs2 := shC_lt I (x) (t)
        refine lv_isub hx hb dX0_tallyTurns_32 ?_
        refine lv_bipush (v := nI (48)) hx hb dX0_tallyTurns_33 (by decide) ?_
        refine call_S (As := [.int (nI (shC I (h) (t)) - nI (shC I (x) (t))), .int (nI (48))]) (rest := [.ref (a 13)]) hE (ct_J9_floorMod_7cf53 l E (WC E a (upA I (12) (tlU (flN (I 12) 48 0) (fun u => fm (shC I h u) (shC I x u)) t)) tr) (shC I (h) (t)) (shC I (x) (t)) (by omega) (by omega)) cm_J9_floorMod_7cf53 (uw mt_L_X0_88 rfl) hP hD hS hl.1 rfl rfl (Nat.le_of_ble_eq_true rfl) ⟨by decide, by decide⟩ dX0_tallyTurns_35 (fun H locs hP hD hS => ?_)
        refine W.eq (g2 := F0 m 38 ls [.int (nI (fm (shC I (h) (t)) (shC I (x) (t)))), .ref (a 13)]) rfl ?_
        have hm3 := fm_lt (shC I (h) (t)) (shC I (x) (t))
        have hT1 := hT _ (fm_lt (shC I h t) (shC I x t))
        refine lv_dup2_11 hx hb dX0_tallyTurns_38 rfl rfl ?_
        refine ald_i hE hP (9) (gC_9 E a (upA I (12) (tlU (flN (I 12) 48 0) (fun u => fm (shC I h u) (shC I x u)) t)) tr) (by omega) (by decide) (r := nI ((tlU (flN (I 12) 48 0) (fun u => fm (shC I h u) (shC I x u)) t) (fm (shC I (h) (t)) (shC I (x) (t))))) rfl dX0_tallyTurns_39 ?_
        refine lv_iconst (v := nI (1)) hx hb dX0_tallyTurns_40 (by decide) ?_
        refine lv_iadd hx hb dX0_tallyTurns_41 ?_
        refine tp (nI_add _ _) ?_
        refine ast_i hE hP hD hS (9) (gC_9 E a (upA I (12) (tlU (flN (I 12) 48 0) (fun u => fm (shC I h u) (shC I x u)) t)) tr) (by omega) (by decide) (sC_9 E a (upA I (12) (tlU (flN (I 12) 48 0) (fun u => fm (shC I h u) (shC I x u)) t)) tr (fm (shC I (h) (t)) (shC I (x) (t))) ((tlU (flN (I 12) 48 0) (fun u => fm (shC I h u) (shC I x u)) t) (fm (shC I (h) (t)) (shC I (x) (t))) + 1)) dX0_tallyTurns_42 (fun H locs hP hD hS => ?_)
        refine lv_iinc (v := nI (t + 1)) (lv' := [(3, .int (nI (t + 1))), (0, .ref (a 3)), (1, .int (nI (h))), (2, .int (nI (x)))]) hx hb dX0_tallyTurns_43 hl (k := 3) rfl (ii1_N _) (by decide) rfl (fun ls hl => ?_)
        refine lv_goto (tgt := 10) hx hb dX0_tallyTurns_46 (by decide) ?_
        exact ih10 (t + 1) (by omega) (by omega) ls _ _ (lv_sub hl [1, 2, 3, 0] rfl) (by have hw : (up2 (upA I (12) (tlU (flN (I 12) 48 0) (fun u => fm (shC I h u) (shC I x u)) t)) (12) (fm (shC I (h) (t)) (shC I (x) (t))) ((tlU (flN (I 12) 48 0) (fun u => fm (shC I h u) (shC I x u)) t) (fm (shC I (h) (t)) (shC I (x) (t))) + 1)) = (upA I (12) (tlU (flN (I 12) 48 0) (fun u => fm (shC I h u) (shC I x u)) (t + 1))) := (up2_upA _ _ _ _ _); rw [hw] at hP; exact hP) (by have hw : (up2 (upA I (12) (tlU (flN (I 12) 48 0) (fun u => fm (shC I h u) (shC I x u)) t)) (12) (fm (shC I (h) (t)) (shC I (x) (t))) ((tlU (flN (I 12) 48 0) (fun u => fm (shC I h u) (shC I x u)) t) (fm (shC I (h) (t)) (shC I (x) (t))) + 1)) = (upA I (12) (tlU (flN (I 12) 48 0) (fun u => fm (shC I h u) (shC I x u)) (t + 1))) := (up2_upA _ _ _ _ _); rw [hw] at hD; exact hD) hS
  exact loop10 (_ + 1) (0) (Nat.lt_succ_self _) (by omega) ls _ _ (lv_sub hl [1, 2, 3, 0] rfl) (by have hw : (upA I (12) (flN (I 12) 48 0)) = (upA I (12) (tlU (flN (I 12) 48 0) (fun u => fm (shC I h u) (shC I x u)) (0))) := rfl; rw [hw] at hP; exact hP) (by have hw : (upA I (12) (flN (I 12) 48 0)) = (upA I (12) (tlU (flN (I 12) 48 0) (fun u => fm (shC I h u) (shC I x u)) (0))) := rfl; rw [hw] at hD; exact hD) hS

set_option maxHeartbeats 4000000 in
set_option maxRecDepth 100000 in
theorem ct_X0_bestTallied (l : Launch) (E : cE) (a : Nat → Nat) (I : Nat → Nat → Nat) (tr : Int64) (hT : ∀ v, v < 48 → I 12 v ≤ 96) : Ct l E 0 yX0_bestTallied cX0_bestTallied 3 (some .int) [.ref (a 3)] (WC E a I tr) (some (.int (nI (am (I 12) 48)))) (WC E a I tr) := by
  refine Ct_of (plainFor_of_name (by decide)) (Nat.le_of_ble_eq_true rfl) ?_
  intro p e s m args below meth c A ls hE hP hD hS hl
  have hE : cEnv p s m args meth c E RX0 cX0_bestTallied 3 (some .int) A := hE
  have hx := hE.1
  have hb := hE.2.1
  have hl : lv_has ls 3 [(0, .ref (a 3))] := hl
  have hP : va_P E.1 vwCl (WC E a I tr) s.heap := hP
  generalize hH : s.heap = H at hP hS ⊢
  have hS : va_S A s.heap H [] := by rw [hH]; exact hS
  clear hH
  refine lv_iconst (v := nI (0)) hx hb dX0_bestTallied_0 (by decide) ?_
  refine lv_istore_n (lv' := [(1, .int (nI (0))), (0, .ref (a 3))]) hx hb dX0_bestTallied_1 rfl hl (by decide) rfl (fun ls hl => ?_)
  refine lv_iconst (v := nI (1)) hx hb dX0_bestTallied_2 (by decide) ?_
  refine lv_istore_n (lv' := [(2, .int (nI (1))), (1, .int (nI (0))), (0, .ref (a 3))]) hx hb dX0_bestTallied_3 rfl hl (by decide) rfl (fun ls hl => ?_)
  have loop4 : ∀ (fu4 : Nat) (be : Nat) (k : Nat), 48 - k < fu4 → (k ≤ 48) → (1 ≤ k) → (be = am (I 12) k) → ∀ (ls : Array Slot) (H : Heap) (locs : List Loc), lv_has ls 3 [(0, .ref (a 3)), (1, .int (nI (be))), (2, .int (nI (k)))] → va_P E.1 vwCl (WC E a I tr) H → va_D A (WC E a I tr) → va_S A s.heap H locs → W p l e (rmL 0) s m args below meth c H locs 0 0 (RQ E below args s A (some (.int (nI (am (I 12) 48)))) (WC E a I tr)) (F0 m 4 ls []) := by
    intro fu4
    induction fu4 with
    | zero => intro be k h; exact absurd h (Nat.not_lt_zero _)
    | succ fu4 ih4 =>
      intro be k hfu4 hk hk1 hbe ls H locs hl hP hD hS
      have hlt := am_lt (I 12) (k - 1)
      have hb2 : be < k := by rw [hbe]; obtain ⟨q, rfl⟩ : ∃ q, k = q + 1 := ⟨k - 1, by omega⟩; have := am_lt (I 12) q; rw [am]; split <;> omega
      refine lv_iload_n hx hb dX0_bestTallied_4 rfl (lv_at hl 2 rfl) ?_
      refine lv_bipush (v := nI (48)) hx hb dX0_bestTallied_5 (by decide) ?_
      refine bN_ge (tgt := 33) hx hb (by omega) (by omega) dX0_bestTallied_7 (by decide) (fun c7 => ?_) (fun c7 => ?_)
      · refine lv_iload_n hx hb dX0_bestTallied_33 rfl (lv_at hl 1 rfl) ?_
        exact ret_i hE (r := nI (be)) (by rw [hbe, show (48 : Nat) = k by omega]) hP hD hS dX0_bestTallied_34
      · refine lv_aload_n hx hb dX0_bestTallied_10 rfl (lv_at hl 0 rfl) ?_
        refine gf_X0_18 hE hP (4) (gC_4 E a I tr) (v := .ref (a 13)) rfl dX0_bestTallied_11 ?_
        refine lv_iload_n hx hb dX0_bestTallied_14 rfl (lv_at hl 2 rfl) ?_
        have q1 := hT k (by omega)
        refine ald_i hE hP (9) (gC_9 E a I tr) (by omega) (by decide) (r := nI (I (12) (k))) rfl dX0_bestTallied_15 ?_
        refine lv_aload_n hx hb dX0_bestTallied_16 rfl (lv_at hl 0 rfl) ?_
        refine gf_X0_18 hE hP (4) (gC_4 E a I tr) (v := .ref (a 13)) rfl dX0_bestTallied_17 ?_
        refine lv_iload_n hx hb dX0_bestTallied_20 rfl (lv_at hl 1 rfl) ?_
        have q2 := hT be (by omega)
        refine ald_i hE hP (9) (gC_9 E a I tr) (by omega) (by decide) (r := nI (I (12) (be))) rfl dX0_bestTallied_21 ?_
        refine bN_le (tgt := 27) hx hb (by omega) (by omega) dX0_bestTallied_22 (by decide) (fun c22 => ?_) (fun c22 => ?_)
        · refine lv_iinc (v := nI (k + 1)) (lv' := [(2, .int (nI (k + 1))), (0, .ref (a 3)), (1, .int (nI (be)))]) hx hb dX0_bestTallied_27 hl (k := 2) rfl (ii1_N _) (by decide) rfl (fun ls hl => ?_)
          refine lv_goto (tgt := 4) hx hb dX0_bestTallied_30 (by decide) ?_
          exact ih4 (be) (k + 1) (by omega) (by omega) (by omega) (by subst hbe; first | exact (am_f c22).symm | exact (am_t c22).symm) ls _ _ (lv_sub hl [1, 2, 0] rfl) hP hD hS
        · refine lv_iload_n hx hb dX0_bestTallied_25 rfl (lv_at hl 2 rfl) ?_
          refine lv_istore_n (lv' := [(1, .int (nI (k))), (0, .ref (a 3)), (2, .int (nI (k)))]) hx hb dX0_bestTallied_26 rfl hl (by decide) rfl (fun ls hl => ?_)
          refine lv_iinc (v := nI (k + 1)) (lv' := [(2, .int (nI (k + 1))), (1, .int (nI (k))), (0, .ref (a 3))]) hx hb dX0_bestTallied_27 hl (k := 2) rfl (ii1_N _) (by decide) rfl (fun ls hl => ?_)
          refine lv_goto (tgt := 4) hx hb dX0_bestTallied_30 (by decide) ?_
          exact ih4 (k) (k + 1) (by omega) (by omega) (by omega) (by subst hbe; first | exact (am_f c22).symm | exact (am_t c22).symm) ls _ _ (lv_sub hl [2, 1, 0] rfl) hP hD hS
  exact loop4 (_ + 1) (0) (1) (Nat.lt_succ_self _) (by omega) (by omega) (am_1 _).symm ls _ _ (lv_sub hl [2, 1, 0] rfl) hP hD hS

set_option maxHeartbeats 4000000 in
set_option maxRecDepth 100000 in
theorem ct_X0_unlikeAt (l : Launch) (E : cE) (a : Nat → Nat) (I : Nat → Nat → Nat) (tr : Int64) (sb t : Nat) (hI : CK I) (hs : sb < 64) (ht : t < 96) : Ct l E 1 yX0_unlikeAt cX0_unlikeAt 6 (some .int) [.ref (a 3), .int (nI (sb)), .int (nI (t))] (WC E a I tr) (some (.int (nI (ulC (fun u => shC I u t) sb (I 13 0))))) (WC E a I tr) := by
  refine Ct_of (plainFor_of_name (by decide)) (Nat.le_of_ble_eq_true rfl) ?_
  intro p e s m args below meth c A ls hE hP hD hS hl
  have hE : cEnv p s m args meth c E RX0 cX0_unlikeAt 6 (some .int) A := hE
  have hx := hE.1
  have hb := hE.2.1
  have hl : lv_has ls 6 [(0, .ref (a 3)), (1, .int (nI (sb))), (2, .int (nI (t)))] := hl
  have hP : va_P E.1 vwCl (WC E a I tr) s.heap := hP
  generalize hH : s.heap = H at hP hS ⊢
  have hS : va_S A s.heap H [] := by rw [hH]; exact hS
  clear hH
  have hc := hI.1
  refine lv_lconst (v := 0) hx hb dX0_unlikeAt_0 (by decide) ?_
  refine lv_lstore_n (lv' := [(3, .long (0)), (0, .ref (a 3)), (1, .int (nI (sb))), (2, .int (nI (t)))]) hx hb dX0_unlikeAt_1 rfl hl (by decide) rfl (fun ls hl => ?_)
  refine lv_iconst (v := nI (0)) hx hb dX0_unlikeAt_2 (by decide) ?_
  refine lv_istore (lv' := [(5, .int (nI (0))), (3, .long (0)), (0, .ref (a 3)), (1, .int (nI (sb))), (2, .int (nI (t)))]) hx hb dX0_unlikeAt_3 hl (by decide) rfl (fun ls hl => ?_)
  have loop5 : ∀ (fu5 : Nat) (k : Nat) (h : Nat), I 13 0 - h < fu5 → (h ≤ I 13 0) → (k = mh (fun u => shC I u t) sb h) → ∀ (ls : Array Slot) (H : Heap) (locs : List Loc), lv_has ls 6 [(0, .ref (a 3)), (1, .int (nI (sb))), (2, .int (nI (t))), (3, .long (lN k)), (5, .int (nI (h)))] → va_P E.1 vwCl (WC E a I tr) H → va_D A (WC E a I tr) → va_S A s.heap H locs → W p l e (rmL 1) s m args below meth c H locs 0 0 (RQ E below args s A (some (.int (nI (ulC (fun u => shC I u t) sb (I 13 0))))) (WC E a I tr)) (F0 m 5 ls []) := by
    intro fu5
    induction fu5 with
    | zero => intro k h h; exact absurd h (Nat.not_lt_zero _)
    | succ fu5 ih5 =>
      intro k h hfu5 hh hk ls H locs hl hP hD hS
      have hm := mh_lt (f := (fun u => shC I u t)) (s := sb) h (fun u _ => shC_lt I u t)
      rw [← hk] at hm
      refine lv_iload hx hb dX0_unlikeAt_5 (lv_at hl 4 rfl) ?_
      refine lv_aload_n hx hb dX0_unlikeAt_7 rfl (lv_at hl 0 rfl) ?_
      refine gf_X0_25 hE hP (4) (gC_4 E a I tr) (v := .ref (a 11)) rfl dX0_unlikeAt_8 ?_
      refine gf_X0_29 hE hP (10) (gC_10 E a I tr) (v := .int (nI (I (13) (0)))) rfl dX0_unlikeAt_11 ?_
      refine bN_ge (tgt := 44) hx hb (by omega) (by omega) dX0_unlikeAt_14 (by decide) (fun c14 => ?_) (fun c14 => ?_)
      · refine lv_lload_n hx hb dX0_unlikeAt_44 rfl (lv_at hl 3 rfl) ?_
        refine call_S (As := [.long (lN k)]) (rest := []) hE (ct_J13_bitCount_95d88 l E (WC E a I tr) (k) (by omega)) cm_J13_bitCount_95d88 (uw mt_L_X0_91 rfl) hP hD hS hl.1 rfl rfl (Nat.le_of_ble_eq_true rfl) ⟨by decide, by decide⟩ dX0_unlikeAt_45 (fun H locs hP hD hS => ?_)
        refine W.eq (g2 := F0 m 48 ls [.int (nI (pc (k)))]) rfl ?_
        have hb1 := pc_le (k)
        exact ret_i hE (r := nI (pc (k))) (by rw [hk, show I 13 0 = h by omega]; rfl) hP hD hS dX0_unlikeAt_48
      · refine lv_iload_n hx hb dX0_unlikeAt_17 rfl (lv_at hl 1 rfl) ?_
        refine lv_iload hx hb dX0_unlikeAt_18 (lv_at hl 4 rfl) ?_
        refine lv_ishr hx hb dX0_unlikeAt_20 ?_
        refine tp (nI_shr (by omega) (by omega)) ?_
        have hq2 : sb / 2 ^ h < 64 := Nat.lt_of_le_of_lt (Nat.div_le_self _ _) hs
        refine lv_iconst (v := nI (1)) hx hb dX0_unlikeAt_21 (by decide) ?_
        refine lv_iand hx hb dX0_unlikeAt_22 ?_
        refine tp (nI_and1 (by omega)) ?_
        refine bZ_eq (tgt := 38) hx hb (by omega) dX0_unlikeAt_23 (by decide) (fun c23 => ?_) (fun c23 => ?_)
        · refine lv_iinc (v := nI (h + 1)) (lv' := [(5, .int (nI (h + 1))), (0, .ref (a 3)), (1, .int (nI (sb))), (2, .int (nI (t))), (3, .long (lN k))]) hx hb dX0_unlikeAt_38 hl (k := 4) rfl (ii1_N _) (by decide) rfl (fun ls hl => ?_)
          refine lv_goto (tgt := 5) hx hb dX0_unlikeAt_41 (by decide) ?_
          exact ih5 (k) (h + 1) (by omega) (by omega) (by subst hk; first | exact (mh_f c23).symm | exact (mh_t (by omega)).symm) ls _ _ (lv_sub hl [1, 2, 3, 4, 0] rfl) hP hD hS
        · refine lv_lload_n hx hb dX0_unlikeAt_26 rfl (lv_at hl 3 rfl) ?_
          refine lv_lconst (v := 1) hx hb dX0_unlikeAt_27 (by decide) ?_
          refine lv_aload_n hx hb dX0_unlikeAt_28 rfl (lv_at hl 0 rfl) ?_
          refine lv_iload hx hb dX0_unlikeAt_29 (lv_at hl 4 rfl) ?_
          refine lv_iload_n hx hb dX0_unlikeAt_31 rfl (lv_at hl 2 rfl) ?_
          refine call_V (As := [.int (nI (h)), .int (nI (t))]) (rest := [.long (1), .long (lN k)]) hE (ct_X0_showsAt l E a I tr (h) (t) (hI) (by omega) (by omega)) cm_X0_showsAt (uw mt_L_X0_56 rfl) (gC_4 E a I tr) rfl rfl hP hD hS hl.1 rfl rfl (Nat.le_of_ble_eq_true rfl) ⟨by decide, by decide⟩ dX0_unlikeAt_32 (fun H locs hP hD hS => ?_)
          refine W.eq (g2 := F0 m 35 ls [.int (nI (shC I (h) (t))), .long (1), .long (lN k)]) rfl ?_
          have hs2 := shC_lt I (h) (t)
          refine lv_lshl (v := (1) <<< ((nI (shC I (h) (t))).toInt64 &&& 63)) hx hb dX0_unlikeAt_35 rfl ?_
          refine lv_lor hx hb dX0_unlikeAt_36 ?_
          refine tpl (mk_or hm (shC_lt I h t)) ?_
          refine lv_lstore_n (lv' := [(3, .long (lN (k ||| 2 ^ shC I h t))), (0, .ref (a 3)), (1, .int (nI (sb))), (2, .int (nI (t))), (5, .int (nI (h)))]) hx hb dX0_unlikeAt_37 rfl hl (by decide) rfl (fun ls hl => ?_)
          refine lv_iinc (v := nI (h + 1)) (lv' := [(5, .int (nI (h + 1))), (3, .long (lN (k ||| 2 ^ shC I h t))), (0, .ref (a 3)), (1, .int (nI (sb))), (2, .int (nI (t)))]) hx hb dX0_unlikeAt_38 hl (k := 4) rfl (ii1_N _) (by decide) rfl (fun ls hl => ?_)
          refine lv_goto (tgt := 5) hx hb dX0_unlikeAt_41 (by decide) ?_
          exact ih5 ((k ||| 2 ^ shC I h t)) (h + 1) (by omega) (by omega) (by subst hk; first | exact (mh_f c23).symm | exact (mh_t (by omega)).symm) ls _ _ (lv_sub hl [2, 3, 4, 1, 0] rfl) hP hD hS
  exact loop5 (_ + 1) (0) (0) (Nat.lt_succ_self _) (by omega) rfl ls _ _ (lv_sub hl [2, 3, 4, 1, 0] rfl) hP hD hS

set_option maxHeartbeats 4000000 in
set_option maxRecDepth 100000 in
theorem ct_X0_quarterMostUnlike (l : Launch) (E : cE) (a : Nat → Nat) (I : Nat → Nat → Nat) (tr : Int64) (sb : Nat) (hI : CK I) (hs : sb < 64) : Ct l E 2 yX0_quarterMostUnlike cX0_quarterMostUnlike 6 (some .int) [.ref (a 3), .int (nI (sb))] (WC E a I tr) (some (.int (rN (if pc sb < 2 then 0 else (mq (fun t => ulC (fun u => shC I u t) sb (I 13 0)) 96).1 + 9)))) (WC E a I tr) := by
  refine Ct_of (plainFor_of_name (by decide)) (Nat.le_of_ble_eq_true rfl) ?_
  intro p e s m args below meth c A ls hE hP hD hS hl
  have hE : cEnv p s m args meth c E RX0 cX0_quarterMostUnlike 6 (some .int) A := hE
  have hx := hE.1
  have hb := hE.2.1
  have hl : lv_has ls 6 [(0, .ref (a 3)), (1, .int (nI (sb)))] := hl
  have hP : va_P E.1 vwCl (WC E a I tr) s.heap := hP
  generalize hH : s.heap = H at hP hS ⊢
  have hS : va_S A s.heap H [] := by rw [hH]; exact hS
  clear hH
  refine lv_iload_n hx hb dX0_quarterMostUnlike_0 rfl (lv_at hl 1 rfl) ?_
  refine call_S (As := [.int (nI (sb))]) (rest := []) hE (ct_J6_bitCount_0f7a4 l E (WC E a I tr) (sb) hs) cm_J6_bitCount_0f7a4 (uw mt_L_X0_97 rfl) hP hD hS hl.1 rfl rfl (Nat.le_of_ble_eq_true rfl) ⟨by decide, by decide⟩ dX0_quarterMostUnlike_1 (fun H locs hP hD hS => ?_)
  refine W.eq (g2 := F0 m 4 ls [.int (nI (pc (sb)))]) rfl ?_
  have hb1 := pc_le (sb)
  refine lv_iconst (v := nI (2)) hx hb dX0_quarterMostUnlike_4 (by decide) ?_
  refine bN_ge (tgt := 11) hx hb (by omega) (by omega) dX0_quarterMostUnlike_5 (by decide) (fun c5 => ?_) (fun c5 => ?_)
  · refine lv_iconst (v := nI (0)) hx hb dX0_quarterMostUnlike_11 (by decide) ?_
    refine lv_istore_n (lv' := [(2, .int (nI (0))), (0, .ref (a 3)), (1, .int (nI (sb)))]) hx hb dX0_quarterMostUnlike_12 rfl hl (by decide) rfl (fun ls hl => ?_)
    refine lv_iconst (v := nI (0)) hx hb dX0_quarterMostUnlike_13 (by decide) ?_
    refine lv_istore_n (lv' := [(3, .int (nI (0))), (2, .int (nI (0))), (0, .ref (a 3)), (1, .int (nI (sb)))]) hx hb dX0_quarterMostUnlike_14 rfl hl (by decide) rfl (fun ls hl => ?_)
    refine lv_iconst (v := nI (0)) hx hb dX0_quarterMostUnlike_15 (by decide) ?_
    refine lv_istore (lv' := [(4, .int (nI (0))), (3, .int (nI (0))), (2, .int (nI (0))), (0, .ref (a 3)), (1, .int (nI (sb)))]) hx hb dX0_quarterMostUnlike_16 hl (by decide) rfl (fun ls hl => ?_)
    have loop18 : ∀ (fu18 : Nat) (be : Nat) (mo : Nat) (t : Nat), 96 - t < fu18 → (t ≤ 96) → (mq (fun t => ulC (fun u => shC I u t) sb (I 13 0)) t = (be, mo)) → ∀ (ls : Array Slot) (H : Heap) (locs : List Loc), lv_has ls 6 [(0, .ref (a 3)), (1, .int (nI (sb))), (2, .int (nI (be))), (3, .int (nI (mo))), (4, .int (nI (t)))] → va_P E.1 vwCl (WC E a I tr) H → va_D A (WC E a I tr) → va_S A s.heap H locs → W p l e (rmL 2) s m args below meth c H locs 0 0 (RQ E below args s A (some (.int (rN (if pc sb < 2 then 0 else (mq (fun t => ulC (fun u => shC I u t) sb (I 13 0)) 96).1 + 9)))) (WC E a I tr)) (F0 m 18 ls []) := by
      intro fu18
      induction fu18 with
      | zero => intro be mo t h; exact absurd h (Nat.not_lt_zero _)
      | succ fu18 ih18 =>
        intro be mo t hfu18 ht hp ls H locs hl hP hD hS
        have hb1 := mq_le (fun t => ulC (fun u => shC I u t) sb (I 13 0)) t
        have hb2 := mq_le2 (U := (fun t => ulC (fun u => shC I u t) sb (I 13 0))) (B := 64) (fun t => pc_le _) t
        rw [hp] at hb1 hb2
        have hb1 : be ≤ t := hb1
        have hb2 : mo ≤ 64 := hb2
        refine lv_iload hx hb dX0_quarterMostUnlike_18 (lv_at hl 4 rfl) ?_
        refine lv_bipush (v := nI (96)) hx hb dX0_quarterMostUnlike_20 (by decide) ?_
        refine bN_ge (tgt := 52) hx hb (by omega) (by omega) dX0_quarterMostUnlike_22 (by decide) (fun c22 => ?_) (fun c22 => ?_)
        · refine lv_iload_n hx hb dX0_quarterMostUnlike_52 rfl (lv_at hl 2 rfl) ?_
          exact ret_i hE (r := nI (be)) (by rw [if_neg (by omega), show (96 : Nat) = t by omega, hp, rN_9]) hP hD hS dX0_quarterMostUnlike_53
        · refine lv_aload_n hx hb dX0_quarterMostUnlike_25 rfl (lv_at hl 0 rfl) ?_
          refine lv_iload_n hx hb dX0_quarterMostUnlike_26 rfl (lv_at hl 1 rfl) ?_
          refine lv_iload hx hb dX0_quarterMostUnlike_27 (lv_at hl 4 rfl) ?_
          refine call_V (As := [.int (nI (sb)), .int (nI (t))]) (rest := []) hE (ct_X0_unlikeAt l E a I tr (sb) (t) hI hs (by omega)) cm_X0_unlikeAt (uw mt_L_X0_101 rfl) (gC_4 E a I tr) rfl rfl hP hD hS hl.1 rfl rfl (Nat.le_of_ble_eq_true rfl) ⟨by decide, by decide⟩ dX0_quarterMostUnlike_29 (fun H locs hP hD hS => ?_)
          refine W.eq (g2 := F0 m 32 ls [.int (nI (ulC (fun u => shC I u (t)) (sb) (I 13 0)))]) rfl ?_
          have hu2 := pc_le (mh (fun u => shC I u (t)) (sb) (I 13 0))
          change ulC (fun u => shC I u (t)) (sb) (I 13 0) ≤ 64 at hu2
          refine lv_istore (lv' := [(5, .int (nI (ulC (fun u => shC I u (t)) (sb) (I 13 0)))), (0, .ref (a 3)), (1, .int (nI (sb))), (2, .int (nI (be))), (3, .int (nI (mo))), (4, .int (nI (t)))]) hx hb dX0_quarterMostUnlike_32 hl (by decide) rfl (fun ls hl => ?_)
          refine lv_iload hx hb dX0_quarterMostUnlike_34 (lv_at hl 0 rfl) ?_
          refine lv_iload_n hx hb dX0_quarterMostUnlike_36 rfl (lv_at hl 4 rfl) ?_
          refine bN_le (tgt := 46) hx hb (by omega) (by omega) dX0_quarterMostUnlike_37 (by decide) (fun c37 => ?_) (fun c37 => ?_)
          · refine lv_iinc (v := nI (t + 1)) (lv' := [(4, .int (nI (t + 1))), (5, .int (nI (ulC (fun u => shC I u (t)) (sb) (I 13 0)))), (0, .ref (a 3)), (1, .int (nI (sb))), (2, .int (nI (be))), (3, .int (nI (mo)))]) hx hb dX0_quarterMostUnlike_46 hl (k := 5) rfl (ii1_N _) (by decide) rfl (fun ls hl => ?_)
            refine lv_goto (tgt := 18) hx hb dX0_quarterMostUnlike_49 (by decide) ?_
            exact ih18 (be) (mo) (t + 1) (by omega) (by omega) (by first | exact (mq_f (U := (fun t => ulC (fun u => shC I u t) sb (I 13 0))) (by rw [hp]; exact c37)).trans hp | exact mq_t (U := (fun t => ulC (fun u => shC I u t) sb (I 13 0))) (by rw [hp]; exact c37)) ls _ _ (lv_sub hl [2, 3, 4, 5, 0] rfl) hP hD hS
          · refine lv_iload hx hb dX0_quarterMostUnlike_40 (lv_at hl 0 rfl) ?_
            refine lv_istore_n (lv' := [(3, .int (nI (ulC (fun u => shC I u (t)) (sb) (I 13 0)))), (5, .int (nI (ulC (fun u => shC I u (t)) (sb) (I 13 0)))), (0, .ref (a 3)), (1, .int (nI (sb))), (2, .int (nI (be))), (4, .int (nI (t)))]) hx hb dX0_quarterMostUnlike_42 rfl hl (by decide) rfl (fun ls hl => ?_)
            refine lv_iload hx hb dX0_quarterMostUnlike_43 (lv_at hl 5 rfl) ?_
            refine lv_istore_n (lv' := [(2, .int (nI (t))), (3, .int (nI (ulC (fun u => shC I u (t)) (sb) (I 13 0)))), (5, .int (nI (ulC (fun u => shC I u (t)) (sb) (I 13 0)))), (0, .ref (a 3)), (1, .int (nI (sb))), (4, .int (nI (t)))]) hx hb dX0_quarterMostUnlike_45 rfl hl (by decide) rfl (fun ls hl => ?_)
            refine lv_iinc (v := nI (t + 1)) (lv' := [(4, .int (nI (t + 1))), (2, .int (nI (t))), (3, .int (nI (ulC (fun u => shC I u (t)) (sb) (I 13 0)))), (5, .int (nI (ulC (fun u => shC I u (t)) (sb) (I 13 0)))), (0, .ref (a 3)), (1, .int (nI (sb)))]) hx hb dX0_quarterMostUnlike_46 hl (k := 5) rfl (ii1_N _) (by decide) rfl (fun ls hl => ?_)
            refine lv_goto (tgt := 18) hx hb dX0_quarterMostUnlike_49 (by decide) ?_
            exact ih18 (t) (ulC (fun u => shC I u (t)) (sb) (I 13 0)) (t + 1) (by omega) (by omega) (by first | exact (mq_f (U := (fun t => ulC (fun u => shC I u t) sb (I 13 0))) (by rw [hp]; exact c37)).trans hp | exact mq_t (U := (fun t => ulC (fun u => shC I u t) sb (I 13 0))) (by rw [hp]; exact c37)) ls _ _ (lv_sub hl [4, 5, 1, 2, 0] rfl) hP hD hS
    exact loop18 (_ + 1) (0) (0) (0) (Nat.lt_succ_self _) (by omega) rfl ls _ _ (lv_sub hl [3, 4, 2, 1, 0] rfl) hP hD hS
  · refine lv_bipush (v := (-9)) hx hb dX0_quarterMostUnlike_8 (by decide) ?_
    exact ret_i hE (r := (-9)) (by rw [if_pos c5, rN_0]) hP hD hS dX0_quarterMostUnlike_10

set_option maxHeartbeats 4000000 in
set_option maxRecDepth 100000 in
theorem ct_X3_ranTill (l : Launch) (E : cE) (a : Nat → Nat) (I : Nat → Nat → Nat) (tr : Int64) (h t : Nat) (hh : h < 6) (ht : t ≤ 95) (hp9 : I 16 h ≤ 9) (hq9 : I 17 h ≤ 9) : Ct l E 0 yX3_ranTill cX3_ranTill 2 (some .int) [.ref (a (40 + h)), .int (nI (t))] (WC E a I tr) (some (.int (nI (lv (I 16 h) (I 17 h) t)))) (WC E a I tr) := by
  refine Ct_of (plainFor_of_name (by decide)) (Nat.le_of_ble_eq_true rfl) ?_
  intro p e s m args below meth c A ls hE hP hD hS hl
  have hE : cEnv p s m args meth c E RX3 cX3_ranTill 2 (some .int) A := hE
  have hx := hE.1
  have hb := hE.2.1
  have hl : lv_has ls 2 [(0, .ref (a (40 + h))), (1, .int (nI (t)))] := hl
  have hP : va_P E.1 vwCl (WC E a I tr) s.heap := hP
  generalize hH : s.heap = H at hP hS ⊢
  have hS : va_S A s.heap H [] := by rw [hH]; exact hS
  clear hH
  refine lv_aload_n hx hb dX3_ranTill_0 rfl (lv_at hl 0 rfl) ?_
  refine gf_X3_19 hE hP (12 + h) (gC_hc E a I tr (h) (by omega)) (v := .int (nI (I (17) (h)))) rfl dX3_ranTill_1 ?_
  refine bZ_ne (tgt := 11) hx hb (by omega) dX3_ranTill_4 (by decide) (fun c4 => ?_) (fun c4 => ?_)
  · refine lv_iload_n hx hb dX3_ranTill_11 rfl (lv_at hl 1 rfl) ?_
    refine lv_aload_n hx hb dX3_ranTill_12 rfl (lv_at hl 0 rfl) ?_
    refine gf_X3_15 hE hP (12 + h) (gC_hc E a I tr (h) (by omega)) (v := .int (nI (I (16) (h)))) rfl dX3_ranTill_13 ?_
    have hm : t * I 16 h ≤ 95 * 9 := Nat.mul_le_mul ht hp9
    refine lv_imul hx hb dX3_ranTill_16 ?_
    refine tp (pk_mul _ _) ?_
    refine lv_aload_n hx hb dX3_ranTill_17 rfl (lv_at hl 0 rfl) ?_
    refine gf_X3_19 hE hP (12 + h) (gC_hc E a I tr (h) (by omega)) (v := .int (nI (I (17) (h)))) rfl dX3_ranTill_18 ?_
    refine lv_idiv hx hb dX3_ranTill_21 (nI_ne0 (by omega) (by omega)) ?_
    refine tp (pk_div (by omega) (by omega) (by omega)) ?_
    exact ret_i hE (r := nI (((t) * (I (16) (h))) / (I (17) (h)))) (by rw [lv_n c4]) hP hD hS dX3_ranTill_22
  · refine lv_iconst (v := nI (0)) hx hb dX3_ranTill_7 (by decide) ?_
    refine lv_goto (tgt := 22) hx hb dX3_ranTill_8 (by decide) ?_
    exact ret_i hE (r := nI (0)) (by rw [lv, if_pos c4]) hP hD hS dX3_ranTill_22

set_option maxHeartbeats 4000000 in
set_option maxRecDepth 100000 in
theorem ct_X3_agedBetween (l : Launch) (E : cE) (a : Nat → Nat) (I : Nat → Nat → Nat) (tr : Int64) (h x y : Nat) (hh : h < 6) (hxy : x ≤ y) (hy : y ≤ 95) (hp9 : I 16 h ≤ 9) (hq9 : I 17 h ≤ 9) : Ct l E 1 yX3_agedBetween cX3_agedBetween 3 (some .int) [.ref (a (40 + h)), .int (nI (x)), .int (nI (y))] (WC E a I tr) (some (.int (nI (lv (I 16 h) (I 17 h) y - lv (I 16 h) (I 17 h) x)))) (WC E a I tr) := by
  refine Ct_of (plainFor_of_name (by decide)) (Nat.le_of_ble_eq_true rfl) ?_
  intro p e s m args below meth c A ls hE hP hD hS hl
  have hE : cEnv p s m args meth c E RX3 cX3_agedBetween 3 (some .int) A := hE
  have hx := hE.1
  have hb := hE.2.1
  have hl : lv_has ls 3 [(0, .ref (a (40 + h))), (1, .int (nI (x))), (2, .int (nI (y)))] := hl
  have hP : va_P E.1 vwCl (WC E a I tr) s.heap := hP
  generalize hH : s.heap = H at hP hS ⊢
  have hS : va_S A s.heap H [] := by rw [hH]; exact hS
  clear hH
  refine lv_aload_n hx hb dX3_agedBetween_0 rfl (lv_at hl 0 rfl) ?_
  refine lv_iload_n hx hb dX3_agedBetween_1 rfl (lv_at hl 2 rfl) ?_
  refine call_V (As := [.int (nI (y))]) (rest := []) hE (ct_X3_ranTill l E a I tr h (y) hh (by omega) hp9 hq9) cm_X3_ranTill (uw mt_L_X3_28 rfl) (gC_hc E a I tr (h) (by omega)) rfl rfl hP hD hS hl.1 rfl rfl (Nat.le_of_ble_eq_true rfl) ⟨by decide, by decide⟩ dX3_agedBetween_2 (fun H locs hP hD hS => ?_)
  refine W.eq (g2 := F0 m 5 ls [.int (nI (lv (I 16 h) (I 17 h) (y)))]) rfl ?_
  have hl1 := lv_le (t := y) (q := I 30 h) hp9 (by omega)
  refine lv_aload_n hx hb dX3_agedBetween_5 rfl (lv_at hl 0 rfl) ?_
  refine lv_iload_n hx hb dX3_agedBetween_6 rfl (lv_at hl 1 rfl) ?_
  refine call_V (As := [.int (nI (x))]) (rest := [.int (nI (lv (I 16 h) (I 17 h) (y)))]) hE (ct_X3_ranTill l E a I tr h (x) hh (by omega) hp9 hq9) cm_X3_ranTill (uw mt_L_X3_28 rfl) (gC_hc E a I tr (h) (by omega)) rfl rfl hP hD hS hl.1 rfl rfl (Nat.le_of_ble_eq_true rfl) ⟨by decide, by decide⟩ dX3_agedBetween_7 (fun H locs hP hD hS => ?_)
  refine W.eq (g2 := F0 m 10 ls [.int (nI (lv (I 16 h) (I 17 h) (x))), .int (nI (lv (I 16 h) (I 17 h) (y)))]) rfl ?_
  have hl2 := lv_le (t := x) (q := I 30 h) hp9 (by omega)
  have hmo := lv_mono (p := I 16 h) (q := I 17 h) hxy
  refine lv_isub hx hb dX3_agedBetween_10 ?_
  refine tp (pk_sub (by omega)) ?_
  exact ret_i hE (r := nI (lv (I 16 h) (I 17 h) (y) - (lv (I 16 h) (I 17 h) (x)))) (rfl) hP hD hS dX3_agedBetween_11

set_option maxHeartbeats 4000000 in
set_option maxRecDepth 100000 in
theorem ct_X3_ranTill_s (l : Launch) (E : cE) (a : Nat → Nat) (I : Nat → Nat → Nat) (tr : Int64) (h t : Nat) (hh : h < 6) (ht : t ≤ 95) (hp9 : I 29 h ≤ 9) (hq9 : I 30 h ≤ 9) : Ct l E 0 yX3_ranTill cX3_ranTill 2 (some .int) [.ref (a (60 + h)), .int (nI (t))] (WC E a I tr) (some (.int (nI (lv (I 29 h) (I 30 h) t)))) (WC E a I tr) := by
  refine Ct_of (plainFor_of_name (by decide)) (Nat.le_of_ble_eq_true rfl) ?_
  intro p e s m args below meth c A ls hE hP hD hS hl
  have hE : cEnv p s m args meth c E RX3 cX3_ranTill 2 (some .int) A := hE
  have hx := hE.1
  have hb := hE.2.1
  have hl : lv_has ls 2 [(0, .ref (a (60 + h))), (1, .int (nI (t)))] := hl
  have hP : va_P E.1 vwCl (WC E a I tr) s.heap := hP
  generalize hH : s.heap = H at hP hS ⊢
  have hS : va_S A s.heap H [] := by rw [hH]; exact hS
  clear hH
  refine lv_aload_n hx hb dX3_ranTill_0 rfl (lv_at hl 0 rfl) ?_
  refine gf_X3_19 hE hP (26 + h) (gC_hs E a I tr (h) (by omega)) (v := .int (nI (I (30) (h)))) rfl dX3_ranTill_1 ?_
  refine bZ_ne (tgt := 11) hx hb (by omega) dX3_ranTill_4 (by decide) (fun c4 => ?_) (fun c4 => ?_)
  · refine lv_iload_n hx hb dX3_ranTill_11 rfl (lv_at hl 1 rfl) ?_
    refine lv_aload_n hx hb dX3_ranTill_12 rfl (lv_at hl 0 rfl) ?_
    refine gf_X3_15 hE hP (26 + h) (gC_hs E a I tr (h) (by omega)) (v := .int (nI (I (29) (h)))) rfl dX3_ranTill_13 ?_
    have hm : t * I 29 h ≤ 95 * 9 := Nat.mul_le_mul ht hp9
    refine lv_imul hx hb dX3_ranTill_16 ?_
    refine tp (pk_mul _ _) ?_
    refine lv_aload_n hx hb dX3_ranTill_17 rfl (lv_at hl 0 rfl) ?_
    refine gf_X3_19 hE hP (26 + h) (gC_hs E a I tr (h) (by omega)) (v := .int (nI (I (30) (h)))) rfl dX3_ranTill_18 ?_
    refine lv_idiv hx hb dX3_ranTill_21 (nI_ne0 (by omega) (by omega)) ?_
    refine tp (pk_div (by omega) (by omega) (by omega)) ?_
    exact ret_i hE (r := nI (((t) * (I (29) (h))) / (I (30) (h)))) (by rw [lv_n c4]) hP hD hS dX3_ranTill_22
  · refine lv_iconst (v := nI (0)) hx hb dX3_ranTill_7 (by decide) ?_
    refine lv_goto (tgt := 22) hx hb dX3_ranTill_8 (by decide) ?_
    exact ret_i hE (r := nI (0)) (by rw [lv, if_pos c4]) hP hD hS dX3_ranTill_22

set_option maxHeartbeats 4000000 in
set_option maxRecDepth 100000 in
theorem ct_X0_eldest (l : Launch) (E : cE) (a : Nat → Nat) (I : Nat → Nat → Nat) (tr : Int64) (x y : Nat) (hI : CK I) (hH : HK I) (hxy : x ≤ y) (hy : y ≤ 95) : Ct l E 2 yX0_eldest cX0_eldest 7 (some .int) [.ref (a 3), .int (nI (x)), .int (nI (y))] (WC E a I tr) (some (.int (rN (eld (fun u => lv (I 16 u) (I 17 u) y - lv (I 16 u) (I 17 u) x) (I 13 0)).1))) (WC E a I tr) := by
  refine Ct_of (plainFor_of_name (by decide)) (Nat.le_of_ble_eq_true rfl) ?_
  intro p e s m args below meth c A ls hE hP hD hS hl
  have hE : cEnv p s m args meth c E RX0 cX0_eldest 7 (some .int) A := hE
  have hx := hE.1
  have hb := hE.2.1
  have hl : lv_has ls 7 [(0, .ref (a 3)), (1, .int (nI (x))), (2, .int (nI (y)))] := hl
  have hP : va_P E.1 vwCl (WC E a I tr) s.heap := hP
  generalize hH : s.heap = H at hP hS ⊢
  have hS : va_S A s.heap H [] := by rw [hH]; exact hS
  clear hH
  have hc := hI.1
  refine lv_bipush (v := (-9)) hx hb dX0_eldest_0 (by decide) ?_
  refine tp (show (-9 : Int32) = rN 0 by decide) ?_
  refine lv_istore_n (lv' := [(3, .int (rN (0))), (0, .ref (a 3)), (1, .int (nI (x))), (2, .int (nI (y)))]) hx hb dX0_eldest_2 rfl hl (by decide) rfl (fun ls hl => ?_)
  refine lv_iconst (v := (-1)) hx hb dX0_eldest_3 (by decide) ?_
  refine tp (show (-1 : Int32) = rN 8 by decide) ?_
  refine lv_istore (lv' := [(4, .int (rN (8))), (3, .int (rN (0))), (0, .ref (a 3)), (1, .int (nI (x))), (2, .int (nI (y)))]) hx hb dX0_eldest_4 hl (by decide) rfl (fun ls hl => ?_)
  refine lv_iconst (v := nI (0)) hx hb dX0_eldest_6 (by decide) ?_
  refine lv_istore (lv' := [(5, .int (nI (0))), (4, .int (rN (8))), (3, .int (rN (0))), (0, .ref (a 3)), (1, .int (nI (x))), (2, .int (nI (y)))]) hx hb dX0_eldest_7 hl (by decide) rfl (fun ls hl => ?_)
  have loop9 : ∀ (fu9 : Nat) (el : Nat) (mo : Nat) (h : Nat), I 13 0 - h < fu9 → (h ≤ I 13 0) → (el = (eld (fun u => lv (I 16 u) (I 17 u) y - lv (I 16 u) (I 17 u) x) h).1) → (mo = (eld (fun u => lv (I 16 u) (I 17 u) y - lv (I 16 u) (I 17 u) x) h).2 + 8) → ((eld (fun u => lv (I 16 u) (I 17 u) y - lv (I 16 u) (I 17 u) x) h).2 ≤ 856) → ∀ (ls : Array Slot) (H : Heap) (locs : List Loc), lv_has ls 7 [(0, .ref (a 3)), (1, .int (nI (x))), (2, .int (nI (y))), (3, .int (rN (el))), (4, .int (rN (mo))), (5, .int (nI (h)))] → va_P E.1 vwCl (WC E a I tr) H → va_D A (WC E a I tr) → va_S A s.heap H locs → W p l e (rmL 2) s m args below meth c H locs 0 0 (RQ E below args s A (some (.int (rN (eld (fun u => lv (I 16 u) (I 17 u) y - lv (I 16 u) (I 17 u) x) (I 13 0)).1))) (WC E a I tr)) (F0 m 9 ls []) := by
    intro fu9
    induction fu9 with
    | zero => intro el mo h h; exact absurd h (Nat.not_lt_zero _)
    | succ fu9 ih9 =>
      intro el mo h hfu9 hh he hm hm2 ls H locs hl hP hD hS
      refine lv_iload hx hb dX0_eldest_9 (lv_at hl 5 rfl) ?_
      refine lv_aload_n hx hb dX0_eldest_11 rfl (lv_at hl 0 rfl) ?_
      refine gf_X0_25 hE hP (4) (gC_4 E a I tr) (v := .ref (a 11)) rfl dX0_eldest_12 ?_
      refine gf_X0_29 hE hP (10) (gC_10 E a I tr) (v := .int (nI (I (13) (0)))) rfl dX0_eldest_15 ?_
      refine bN_ge (tgt := 58) hx hb (by omega) (by omega) dX0_eldest_18 (by decide) (fun c18 => ?_) (fun c18 => ?_)
      · refine lv_iload_n hx hb dX0_eldest_58 rfl (lv_at hl 3 rfl) ?_
        exact ret_i hE (r := rN (el)) (by rw [he, show I 13 0 = h by omega]) hP hD hS dX0_eldest_59
      · refine lv_aload_n hx hb dX0_eldest_21 rfl (lv_at hl 0 rfl) ?_
        refine gf_X0_25 hE hP (4) (gC_4 E a I tr) (v := .ref (a 11)) rfl dX0_eldest_22 ?_
        refine gf_X0_41 hE hP (10) (gC_10 E a I tr) (v := .ref (a 17)) rfl dX0_eldest_25 ?_
        refine lv_iload hx hb dX0_eldest_28 (lv_at hl 5 rfl) ?_
        refine ald_q 3 hE hP 11 (gC_11 E a I tr) rfl (by omega) (by decide) (r := a (40 + h)) rfl dX0_eldest_30 ?_
        refine lv_iload_n hx hb dX0_eldest_31 rfl (lv_at hl 1 rfl) ?_
        refine lv_iload_n hx hb dX0_eldest_32 rfl (lv_at hl 2 rfl) ?_
        refine call_V (As := [.int (nI (x)), .int (nI (y))]) (rest := []) hE (ct_X3_agedBetween l E a I tr h x y (by omega) hxy hy (hH h (by omega)).2.1 (hH h (by omega)).2.2.1) cm_X3_agedBetween (uw mt_L_X0_104 rfl) (gC_hc E a I tr (h) (by omega)) rfl rfl hP hD hS hl.1 rfl rfl (Nat.le_of_ble_eq_true rfl) ⟨by decide, by decide⟩ dX0_eldest_33 (fun H locs hP hD hS => ?_)
        refine W.eq (g2 := F0 m 36 ls [.int (nI (lv (I 16 h) (I 17 h) y - lv (I 16 h) (I 17 h) x))]) rfl ?_
        have hg1 := lv_le (t := y) (q := I 17 h) (hH h (by omega)).2.1 hy
        refine lv_istore (lv' := [(6, .int (nI (lv (I 16 h) (I 17 h) y - lv (I 16 h) (I 17 h) x))), (0, .ref (a 3)), (1, .int (nI (x))), (2, .int (nI (y))), (3, .int (rN (el))), (4, .int (rN (mo))), (5, .int (nI (h)))]) hx hb dX0_eldest_36 hl (by decide) rfl (fun ls hl => ?_)
        refine lv_iload hx hb dX0_eldest_38 (lv_at hl 0 rfl) ?_
        refine lv_iload hx hb dX0_eldest_40 (lv_at hl 5 rfl) ?_
        refine tp2 (rN_9 (lv (I 16 h) (I 17 h) y - lv (I 16 h) (I 17 h) x)).symm ?_
        refine bQ_le (tgt := 52) hx hb (by omega) (by omega) dX0_eldest_42 (by decide) (fun c42 => ?_) (fun c42 => ?_)
        · refine lv_iinc (v := nI (h + 1)) (lv' := [(5, .int (nI (h + 1))), (6, .int (nI (lv (I 16 h) (I 17 h) y - lv (I 16 h) (I 17 h) x))), (0, .ref (a 3)), (1, .int (nI (x))), (2, .int (nI (y))), (3, .int (rN (el))), (4, .int (rN (mo)))]) hx hb dX0_eldest_52 hl (k := 6) rfl (ii1_N _) (by decide) rfl (fun ls hl => ?_)
          refine lv_goto (tgt := 9) hx hb dX0_eldest_55 (by decide) ?_
          exact ih9 (el) (mo) (h + 1) (by omega) (by omega) (by first | exact he.trans (congrArg Prod.fst (eld_f (G := (fun u => lv (I 16 u) (I 17 u) y - lv (I 16 u) (I 17 u) x)) (h := h) (by omega))).symm | exact (congrArg Prod.fst (eld_t (G := (fun u => lv (I 16 u) (I 17 u) y - lv (I 16 u) (I 17 u) x)) (h := h) (by omega))).symm) (by first | exact hm.trans (congrArg (fun q => Prod.snd q + 8) (eld_f (G := (fun u => lv (I 16 u) (I 17 u) y - lv (I 16 u) (I 17 u) x)) (h := h) (by omega))).symm | exact (congrArg (fun q => Prod.snd q + 8) (eld_t (G := (fun u => lv (I 16 u) (I 17 u) y - lv (I 16 u) (I 17 u) x)) (h := h) (by omega))).symm) (by first | exact Nat.le_trans (Nat.le_of_eq (congrArg Prod.snd (eld_f (G := (fun u => lv (I 16 u) (I 17 u) y - lv (I 16 u) (I 17 u) x)) (h := h) (by omega)))) hm2 | exact Nat.le_trans (Nat.le_of_eq (congrArg Prod.snd (eld_t (G := (fun u => lv (I 16 u) (I 17 u) y - lv (I 16 u) (I 17 u) x)) (h := h) (by omega)))) (show _ + 1 ≤ 856 by omega)) ls _ _ (lv_sub hl [2, 3, 4, 5, 6, 0] rfl) hP hD hS
        · refine lv_iload hx hb dX0_eldest_45 (lv_at hl 0 rfl) ?_
          refine tp (rN_9 (lv (I 16 h) (I 17 h) y - lv (I 16 h) (I 17 h) x)).symm ?_
          refine lv_istore (lv' := [(4, .int (rN (lv (I 16 h) (I 17 h) y - lv (I 16 h) (I 17 h) x + 9))), (6, .int (nI (lv (I 16 h) (I 17 h) y - lv (I 16 h) (I 17 h) x))), (0, .ref (a 3)), (1, .int (nI (x))), (2, .int (nI (y))), (3, .int (rN (el))), (5, .int (nI (h)))]) hx hb dX0_eldest_47 hl (by decide) rfl (fun ls hl => ?_)
          refine lv_iload hx hb dX0_eldest_49 (lv_at hl 6 rfl) ?_
          refine tp (rN_9 (h)).symm ?_
          refine lv_istore_n (lv' := [(3, .int (rN (h + 9))), (4, .int (rN (lv (I 16 h) (I 17 h) y - lv (I 16 h) (I 17 h) x + 9))), (6, .int (nI (lv (I 16 h) (I 17 h) y - lv (I 16 h) (I 17 h) x))), (0, .ref (a 3)), (1, .int (nI (x))), (2, .int (nI (y))), (5, .int (nI (h)))]) hx hb dX0_eldest_51 rfl hl (by decide) rfl (fun ls hl => ?_)
          refine lv_iinc (v := nI (h + 1)) (lv' := [(5, .int (nI (h + 1))), (3, .int (rN (h + 9))), (4, .int (rN (lv (I 16 h) (I 17 h) y - lv (I 16 h) (I 17 h) x + 9))), (6, .int (nI (lv (I 16 h) (I 17 h) y - lv (I 16 h) (I 17 h) x))), (0, .ref (a 3)), (1, .int (nI (x))), (2, .int (nI (y)))]) hx hb dX0_eldest_52 hl (k := 6) rfl (ii1_N _) (by decide) rfl (fun ls hl => ?_)
          refine lv_goto (tgt := 9) hx hb dX0_eldest_55 (by decide) ?_
          exact ih9 (h + 9) (lv (I 16 h) (I 17 h) y - lv (I 16 h) (I 17 h) x + 9) (h + 1) (by omega) (by omega) (by first | exact he.trans (congrArg Prod.fst (eld_f (G := (fun u => lv (I 16 u) (I 17 u) y - lv (I 16 u) (I 17 u) x)) (h := h) (by omega))).symm | exact (congrArg Prod.fst (eld_t (G := (fun u => lv (I 16 u) (I 17 u) y - lv (I 16 u) (I 17 u) x)) (h := h) (by omega))).symm) (by first | exact hm.trans (congrArg (fun q => Prod.snd q + 8) (eld_f (G := (fun u => lv (I 16 u) (I 17 u) y - lv (I 16 u) (I 17 u) x)) (h := h) (by omega))).symm | exact (congrArg (fun q => Prod.snd q + 8) (eld_t (G := (fun u => lv (I 16 u) (I 17 u) y - lv (I 16 u) (I 17 u) x)) (h := h) (by omega))).symm) (by first | exact Nat.le_trans (Nat.le_of_eq (congrArg Prod.snd (eld_f (G := (fun u => lv (I 16 u) (I 17 u) y - lv (I 16 u) (I 17 u) x)) (h := h) (by omega)))) hm2 | exact Nat.le_trans (Nat.le_of_eq (congrArg Prod.snd (eld_t (G := (fun u => lv (I 16 u) (I 17 u) y - lv (I 16 u) (I 17 u) x)) (h := h) (by omega)))) (show _ + 1 ≤ 856 by omega)) ls _ _ (lv_sub hl [4, 5, 6, 1, 2, 0] rfl) hP hD hS
  exact loop9 (_ + 1) (0) (8) (0) (Nat.lt_succ_self _) (by omega) rfl rfl (Nat.zero_le _) ls _ _ (lv_sub hl [3, 4, 5, 2, 1, 0] rfl) hP hD hS
