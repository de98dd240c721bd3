set_option maxHeartbeats 4000000 in
set_option maxRecDepth 100000 in
theorem ct_X10_spread (l : Launch) (E : cE) (a : Nat → Nat) (I : Nat → Nat → Nat) (tr : Int64) (n : Nat) (hI : KM I) (hn : n < 48) : Ct l E 3 yX10_spread cX10_spread 6 (some .int) [.ref (a 0), .int (nI (n))] (WM E a I tr) (some (.int (rN (sprE (fun u => fst (shM I u) n 0) (I 2 0))))) (WM E a I tr) := by
  refine Ct_of (plainFor_of_name (by decide)) (Nat.le_of_ble_eq_true rfl) ?_
  intro p e s m args below meth c A ls hE hP hD hS hl
  have hE : cEnv p s m args meth c E RX10 cX10_spread 6 (some .int) A := hE
  have hx := hE.1
  have hb := hE.2.1
  have hl : lv_has ls 6 [(0, .ref (a 0)), (1, .int (nI (n)))] := hl
  have hP : va_P E.1 vwCl (WM E a I tr) s.heap := hP
  generalize hH : s.heap = H at hP hS ⊢
  have hS : va_S A s.heap H [] := by rw [hH]; exact hS
  clear hH
  have hc6 := hI.1
  refine lv_bipush (v := (-9)) hx hb dX10_spread_0 (by decide) ?_
  refine tp (show (-9 : Int32) = rN 0 by decide) ?_
  refine lv_istore_n (lv' := [(2, .int (rN (0))), (0, .ref (a 0)), (1, .int (nI (n)))]) hx hb dX10_spread_2 rfl hl (by decide) rfl (fun ls hl => ?_)
  refine lv_bipush (v := (-9)) hx hb dX10_spread_3 (by decide) ?_
  refine tp (show (-9 : Int32) = rN 0 by decide) ?_
  refine lv_istore_n (lv' := [(3, .int (rN (0))), (2, .int (rN (0))), (0, .ref (a 0)), (1, .int (nI (n)))]) hx hb dX10_spread_5 rfl hl (by decide) rfl (fun ls hl => ?_)
  refine lv_iconst (v := nI (0)) hx hb dX10_spread_6 (by decide) ?_
  refine lv_istore (lv' := [(4, .int (nI (0))), (3, .int (rN (0))), (2, .int (rN (0))), (0, .ref (a 0)), (1, .int (nI (n)))]) hx hb dX10_spread_7 hl (by decide) rfl (fun ls hl => ?_)
  have loop9 : ∀ (fu9 : Nat) (le : Nat) (mo : Nat) (h : Nat), I 2 0 - h < fu9 → (h ≤ I 2 0) → (le = if h = 0 then 0 else eaU (fun u => fst (shM I u) n 0) h + 9) → (mo = if h = 0 then 0 else laU (fun u => fst (shM I u) n 0) h + 9) → (az (fun u => fst (shM I u) n 0) h = true) → ∀ (ls : Array Slot) (H : Heap) (locs : List Loc), lv_has ls 6 [(0, .ref (a 0)), (1, .int (nI (n))), (2, .int (rN (le))), (3, .int (rN (mo))), (4, .int (nI (h)))] → va_P E.1 vwCl (WM E a I tr) H → va_D A (WM E a I tr) → va_S A s.heap H locs → W p l e (rmL 3) s m args below meth c H locs 0 0 (RQ E below args s A (some (.int (rN (sprE (fun u => fst (shM I u) n 0) (I 2 0))))) (WM E a I tr)) (F0 m 9 ls []) := by
    intro fu9
    induction fu9 with
    | zero => intro le mo h h; exact absurd h (Nat.not_lt_zero _)
    | succ fu9 ih9 =>
      intro le mo h hfu9 hh hle hmo haz ls H locs hl hP hD hS
      have he95 := ea_95 (fun u => fst (shM I u) n 0) h
      have hl95 := la_95 (fun u => fst (shM I u) n 0) h (fun u _ => fst_le (shM I u) n 0)
      have hle2 : le ≤ 104 := by rw [hle]; split <;> omega
      have hmo2 : mo ≤ 104 := by rw [hmo]; split <;> omega
      refine lv_iload hx hb dX10_spread_9 (lv_at hl 4 rfl) ?_
      refine lv_aload_n hx hb dX10_spread_11 rfl (lv_at hl 0 rfl) ?_
      refine gf_X10_13 hE hP (0) (gM_0 E a I tr) (v := .ref (a 2)) rfl dX10_spread_12 ?_
      refine lv_iconst (v := nI (0)) hx hb dX10_spread_15 (by decide) ?_
      refine ald_i hE hP (2) (gM_2 E a I tr) (by omega) (by decide) (r := nI (I (2) (0))) rfl dX10_spread_16 ?_
      refine bN_ge (tgt := 78) hx hb (by omega) (by omega) dX10_spread_17 (by decide) (fun c17 => ?_) (fun c17 => ?_)
      · refine lv_iload_n hx hb dX10_spread_78 rfl (lv_at hl 2 rfl) ?_
        refine lv_bipush (v := (-9)) hx hb dX10_spread_79 (by decide) ?_
        refine bQ9_ne (tgt := 89) hx hb (by omega) dX10_spread_81 (by decide) (fun c81 => ?_) (fun c81 => ?_)
        · refine lv_iload_n hx hb dX10_spread_89 rfl (lv_at hl 3 rfl) ?_
          refine lv_iload_n hx hb dX10_spread_90 rfl (lv_at hl 2 rfl) ?_
          refine lv_isub hx hb dX10_spread_91 ?_
          exact ret_i hE (r := ((rN (mo)) - (rN (le)))) (by have he : I 2 0 = h := (by omega); have h0 : 0 < h := (by by_cases z : h = 0; (rw [if_pos z] at hle; omega); omega); rw [if_neg (by omega)] at hle hmo; have hz := ea_le (g := (fun u => fst (shM I u) n 0)) h h0 (fun u _ => fst_le (shM I u) n 0); rw [he, sprE_t (g := (fun u => fst (shM I u) n 0)) h0 haz, rN_9, hle, hmo, pk_subQ (by omega)]; exact congrArg (fun x => some (Value.int (nI x))) (by omega)) hP hD hS dX10_spread_92
        · refine lv_bipush (v := (-9)) hx hb dX10_spread_84 (by decide) ?_
          refine lv_goto (tgt := 92) hx hb dX10_spread_86 (by decide) ?_
          exact ret_i hE (r := (-9)) (by rw [sprE_0 (g := (fun u => fst (shM I u) n 0)) (show I 2 0 = 0 by by_cases z : h = 0; omega; (rw [if_neg z] at hle; omega))]; rfl) hP hD hS dX10_spread_92
      · refine lv_aload_n hx hb dX10_spread_20 rfl (lv_at hl 0 rfl) ?_
        refine lv_iload hx hb dX10_spread_21 (lv_at hl 4 rfl) ?_
        refine lv_iload_n hx hb dX10_spread_23 rfl (lv_at hl 1 rfl) ?_
        refine lv_iconst (v := nI (0)) hx hb dX10_spread_24 (by decide) ?_
        refine call_V (As := [.int (nI (h)), .int (nI (n)), .int (nI (0))]) (rest := []) hE (ct_X10_firstOf l E a I tr (h) (n) (0) hI (by omega) (by omega) (by omega)) cm_X10_firstOf (uw mt_L_X10_141 rfl) (gM_0 E a I tr) rfl rfl hP hD hS hl.1 rfl rfl (Nat.le_of_ble_eq_true rfl) ⟨by decide, by decide⟩ dX10_spread_25 (fun H locs hP hD hS => ?_)
        refine W.eq (g2 := F0 m 28 ls [.int (rN (fst (shM I (h)) (n) (0)))]) rfl ?_
        have hf1 := fst_le (shM I (h)) (n) (0)
        refine lv_istore (lv' := [(5, .int (rN (fst (shM I (h)) (n) (0)))), (0, .ref (a 0)), (1, .int (nI (n))), (2, .int (rN (le))), (3, .int (rN (mo))), (4, .int (nI (h)))]) hx hb dX10_spread_28 hl (by decide) rfl (fun ls hl => ?_)
        refine lv_iload hx hb dX10_spread_30 (lv_at hl 0 rfl) ?_
        refine lv_bipush (v := (-9)) hx hb dX10_spread_32 (by decide) ?_
        refine bQ9_ne (tgt := 40) hx hb (by omega) dX10_spread_34 (by decide) (fun c34 => ?_) (fun c34 => ?_)
        · have hg : 9 ≤ (fun u => fst (shM I u) n 0) h ∧ (fun u => fst (shM I u) n 0) h ≤ 104 := ⟨fst_pos c34, fst_le _ _ _⟩
          refine lv_iload_n hx hb dX10_spread_40 rfl (lv_at hl 3 rfl) ?_
          refine lv_bipush (v := (-9)) hx hb dX10_spread_41 (by decide) ?_
          refine bQ9_eq (tgt := 52) hx hb (by omega) dX10_spread_43 (by decide) (fun c43 => ?_) (fun c43 => ?_)
          · refine lv_iload hx hb dX10_spread_52 (lv_at hl 0 rfl) ?_
            refine lv_goto (tgt := 58) hx hb dX10_spread_54 (by decide) ?_
            refine lv_istore_n (lv' := [(2, .int (rN (fst (shM I (h)) (n) (0)))), (5, .int (rN (fst (shM I (h)) (n) (0)))), (0, .ref (a 0)), (1, .int (nI (n))), (3, .int (rN (mo))), (4, .int (nI (h)))]) hx hb dX10_spread_58 rfl hl (by decide) rfl (fun ls hl => ?_)
            refine lv_iload hx hb dX10_spread_59 (lv_at hl 1 rfl) ?_
            refine lv_iload_n hx hb dX10_spread_61 rfl (lv_at hl 4 rfl) ?_
            refine bQ_le (tgt := 70) hx hb (by omega) (by omega) dX10_spread_62 (by decide) (fun c62 => ?_) (fun c62 => ?_)
            · refine lv_iload_n hx hb dX10_spread_70 rfl (lv_at hl 4 rfl) ?_
              refine lv_istore_n (lv' := [(3, .int (rN (mo))), (2, .int (rN (fst (shM I (h)) (n) (0)))), (5, .int (rN (fst (shM I (h)) (n) (0)))), (0, .ref (a 0)), (1, .int (nI (n))), (4, .int (nI (h)))]) hx hb dX10_spread_71 rfl hl (by decide) rfl (fun ls hl => ?_)
              refine lv_iinc (v := nI (h + 1)) (lv' := [(4, .int (nI (h + 1))), (3, .int (rN (mo))), (2, .int (rN (fst (shM I (h)) (n) (0)))), (5, .int (rN (fst (shM I (h)) (n) (0)))), (0, .ref (a 0)), (1, .int (nI (n)))]) hx hb dX10_spread_72 hl (k := 5) rfl (ii1_N _) (by decide) rfl (fun ls hl => ?_)
              refine lv_goto (tgt := 9) hx hb dX10_spread_75 (by decide) ?_
              exact ih9 (fst (shM I (h)) (n) (0)) (mo) (h + 1) (by omega) (by omega) (by rw [if_neg (Nat.succ_ne_zero h)]; first | exact (sp_min hle hg).1 (Or.inl c43)) (by rw [if_neg (Nat.succ_ne_zero h)]; first | exact (sp_max hmo hg).1 c62 | exact (sp_max hmo hg).2 c62) (az_t haz c34) ls _ _ (lv_sub hl [4, 5, 2, 1, 0] rfl) hP hD hS
            · refine lv_iload hx hb dX10_spread_65 (lv_at hl 1 rfl) ?_
              refine lv_goto (tgt := 71) hx hb dX10_spread_67 (by decide) ?_
              refine lv_istore_n (lv' := [(3, .int (rN (fst (shM I (h)) (n) (0)))), (2, .int (rN (fst (shM I (h)) (n) (0)))), (5, .int (rN (fst (shM I (h)) (n) (0)))), (0, .ref (a 0)), (1, .int (nI (n))), (4, .int (nI (h)))]) hx hb dX10_spread_71 rfl hl (by decide) rfl (fun ls hl => ?_)
              refine lv_iinc (v := nI (h + 1)) (lv' := [(4, .int (nI (h + 1))), (3, .int (rN (fst (shM I (h)) (n) (0)))), (2, .int (rN (fst (shM I (h)) (n) (0)))), (5, .int (rN (fst (shM I (h)) (n) (0)))), (0, .ref (a 0)), (1, .int (nI (n)))]) hx hb dX10_spread_72 hl (k := 5) rfl (ii1_N _) (by decide) rfl (fun ls hl => ?_)
              refine lv_goto (tgt := 9) hx hb dX10_spread_75 (by decide) ?_
              exact ih9 (fst (shM I (h)) (n) (0)) (fst (shM I (h)) (n) (0)) (h + 1) (by omega) (by omega) (by rw [if_neg (Nat.succ_ne_zero h)]; first | exact (sp_min hle hg).1 (Or.inl c43)) (by rw [if_neg (Nat.succ_ne_zero h)]; first | exact (sp_max hmo hg).1 c62 | exact (sp_max hmo hg).2 c62) (az_t haz c34) ls _ _ (lv_sub hl [4, 5, 2, 1, 0] rfl) hP hD hS
          · refine lv_iload hx hb dX10_spread_46 (lv_at hl 0 rfl) ?_
            refine lv_iload_n hx hb dX10_spread_48 rfl (lv_at hl 3 rfl) ?_
            refine bQ_ge (tgt := 57) hx hb (by omega) (by omega) dX10_spread_49 (by decide) (fun c49 => ?_) (fun c49 => ?_)
            · refine lv_iload_n hx hb dX10_spread_57 rfl (lv_at hl 3 rfl) ?_
              refine lv_istore_n (lv' := [(2, .int (rN (le))), (5, .int (rN (fst (shM I (h)) (n) (0)))), (0, .ref (a 0)), (1, .int (nI (n))), (3, .int (rN (mo))), (4, .int (nI (h)))]) hx hb dX10_spread_58 rfl hl (by decide) rfl (fun ls hl => ?_)
              refine lv_iload hx hb dX10_spread_59 (lv_at hl 1 rfl) ?_
              refine lv_iload_n hx hb dX10_spread_61 rfl (lv_at hl 4 rfl) ?_
              refine bQ_le (tgt := 70) hx hb (by omega) (by omega) dX10_spread_62 (by decide) (fun c62 => ?_) (fun c62 => ?_)
              · refine lv_iload_n hx hb dX10_spread_70 rfl (lv_at hl 4 rfl) ?_
                refine lv_istore_n (lv' := [(3, .int (rN (mo))), (2, .int (rN (le))), (5, .int (rN (fst (shM I (h)) (n) (0)))), (0, .ref (a 0)), (1, .int (nI (n))), (4, .int (nI (h)))]) hx hb dX10_spread_71 rfl hl (by decide) rfl (fun ls hl => ?_)
                refine lv_iinc (v := nI (h + 1)) (lv' := [(4, .int (nI (h + 1))), (3, .int (rN (mo))), (2, .int (rN (le))), (5, .int (rN (fst (shM I (h)) (n) (0)))), (0, .ref (a 0)), (1, .int (nI (n)))]) hx hb dX10_spread_72 hl (k := 5) rfl (ii1_N _) (by decide) rfl (fun ls hl => ?_)
                refine lv_goto (tgt := 9) hx hb dX10_spread_75 (by decide) ?_
                exact ih9 (le) (mo) (h + 1) (by omega) (by omega) (by rw [if_neg (Nat.succ_ne_zero h)]; first | exact (sp_min hle hg).1 (Or.inl c43) | exact (sp_min hle hg).1 (Or.inr c49) | exact (sp_min hle hg).2 c43 c49) (by rw [if_neg (Nat.succ_ne_zero h)]; first | exact (sp_max hmo hg).1 c62 | exact (sp_max hmo hg).2 c62) (az_t haz c34) ls _ _ (lv_sub hl [4, 5, 2, 1, 0] rfl) hP hD hS
              · refine lv_iload hx hb dX10_spread_65 (lv_at hl 1 rfl) ?_
                refine lv_goto (tgt := 71) hx hb dX10_spread_67 (by decide) ?_
                refine lv_istore_n (lv' := [(3, .int (rN (fst (shM I (h)) (n) (0)))), (2, .int (rN (le))), (5, .int (rN (fst (shM I (h)) (n) (0)))), (0, .ref (a 0)), (1, .int (nI (n))), (4, .int (nI (h)))]) hx hb dX10_spread_71 rfl hl (by decide) rfl (fun ls hl => ?_)
                refine lv_iinc (v := nI (h + 1)) (lv' := [(4, .int (nI (h + 1))), (3, .int (rN (fst (shM I (h)) (n) (0)))), (2, .int (rN (le))), (5, .int (rN (fst (shM I (h)) (n) (0)))), (0, .ref (a 0)), (1, .int (nI (n)))]) hx hb dX10_spread_72 hl (k := 5) rfl (ii1_N _) (by decide) rfl (fun ls hl => ?_)
                refine lv_goto (tgt := 9) hx hb dX10_spread_75 (by decide) ?_
                exact ih9 (le) (fst (shM I (h)) (n) (0)) (h + 1) (by omega) (by omega) (by rw [if_neg (Nat.succ_ne_zero h)]; first | exact (sp_min hle hg).1 (Or.inl c43) | exact (sp_min hle hg).1 (Or.inr c49) | exact (sp_min hle hg).2 c43 c49) (by rw [if_neg (Nat.succ_ne_zero h)]; first | exact (sp_max hmo hg).1 c62 | exact (sp_max hmo hg).2 c62) (az_t haz c34) ls _ _ (lv_sub hl [4, 5, 2, 1, 0] rfl) hP hD hS
            · refine lv_iload hx hb dX10_spread_52 (lv_at hl 0 rfl) ?_
              refine lv_goto (tgt := 58) hx hb dX10_spread_54 (by decide) ?_
              refine lv_istore_n (lv' := [(2, .int (rN (fst (shM I (h)) (n) (0)))), (5, .int (rN (fst (shM I (h)) (n) (0)))), (0, .ref (a 0)), (1, .int (nI (n))), (3, .int (rN (mo))), (4, .int (nI (h)))]) hx hb dX10_spread_58 rfl hl (by decide) rfl (fun ls hl => ?_)
              refine lv_iload hx hb dX10_spread_59 (lv_at hl 1 rfl) ?_
              refine lv_iload_n hx hb dX10_spread_61 rfl (lv_at hl 4 rfl) ?_
              refine bQ_le (tgt := 70) hx hb (by omega) (by omega) dX10_spread_62 (by decide) (fun c62 => ?_) (fun c62 => ?_)
              · refine lv_iload_n hx hb dX10_spread_70 rfl (lv_at hl 4 rfl) ?_
                refine lv_istore_n (lv' := [(3, .int (rN (mo))), (2, .int (rN (fst (shM I (h)) (n) (0)))), (5, .int (rN (fst (shM I (h)) (n) (0)))), (0, .ref (a 0)), (1, .int (nI (n))), (4, .int (nI (h)))]) hx hb dX10_spread_71 rfl hl (by decide) rfl (fun ls hl => ?_)
                refine lv_iinc (v := nI (h + 1)) (lv' := [(4, .int (nI (h + 1))), (3, .int (rN (mo))), (2, .int (rN (fst (shM I (h)) (n) (0)))), (5, .int (rN (fst (shM I (h)) (n) (0)))), (0, .ref (a 0)), (1, .int (nI (n)))]) hx hb dX10_spread_72 hl (k := 5) rfl (ii1_N _) (by decide) rfl (fun ls hl => ?_)
                refine lv_goto (tgt := 9) hx hb dX10_spread_75 (by decide) ?_
                exact ih9 (fst (shM I (h)) (n) (0)) (mo) (h + 1) (by omega) (by omega) (by rw [if_neg (Nat.succ_ne_zero h)]; first | exact (sp_min hle hg).1 (Or.inl c43) | exact (sp_min hle hg).1 (Or.inr c49) | exact (sp_min hle hg).2 c43 c49) (by rw [if_neg (Nat.succ_ne_zero h)]; first | exact (sp_max hmo hg).1 c62 | exact (sp_max hmo hg).2 c62) (az_t haz c34) ls _ _ (lv_sub hl [4, 5, 2, 1, 0] rfl) hP hD hS
              · refine lv_iload hx hb dX10_spread_65 (lv_at hl 1 rfl) ?_
                refine lv_goto (tgt := 71) hx hb dX10_spread_67 (by decide) ?_
                refine lv_istore_n (lv' := [(3, .int (rN (fst (shM I (h)) (n) (0)))), (2, .int (rN (fst (shM I (h)) (n) (0)))), (5, .int (rN (fst (shM I (h)) (n) (0)))), (0, .ref (a 0)), (1, .int (nI (n))), (4, .int (nI (h)))]) hx hb dX10_spread_71 rfl hl (by decide) rfl (fun ls hl => ?_)
                refine lv_iinc (v := nI (h + 1)) (lv' := [(4, .int (nI (h + 1))), (3, .int (rN (fst (shM I (h)) (n) (0)))), (2, .int (rN (fst (shM I (h)) (n) (0)))), (5, .int (rN (fst (shM I (h)) (n) (0)))), (0, .ref (a 0)), (1, .int (nI (n)))]) hx hb dX10_spread_72 hl (k := 5) rfl (ii1_N _) (by decide) rfl (fun ls hl => ?_)
                refine lv_goto (tgt := 9) hx hb dX10_spread_75 (by decide) ?_
                exact ih9 (fst (shM I (h)) (n) (0)) (fst (shM I (h)) (n) (0)) (h + 1) (by omega) (by omega) (by rw [if_neg (Nat.succ_ne_zero h)]; first | exact (sp_min hle hg).1 (Or.inl c43) | exact (sp_min hle hg).1 (Or.inr c49) | exact (sp_min hle hg).2 c43 c49) (by rw [if_neg (Nat.succ_ne_zero h)]; first | exact (sp_max hmo hg).1 c62 | exact (sp_max hmo hg).2 c62) (az_t haz c34) ls _ _ (lv_sub hl [4, 5, 2, 1, 0] rfl) hP hD hS
        · refine lv_bipush (v := (-9)) hx hb dX10_spread_37 (by decide) ?_
          exact ret_i hE (r := (-9)) (by rw [sprE_f (g := (fun u => fst (shM I u) n 0)) c17 c34]; rfl) hP hD hS dX10_spread_39
  exact loop9 (_ + 1) (0) (0) (0) (Nat.lt_succ_self _) (by omega) rfl rfl rfl ls _ _ (lv_sub hl [3, 4, 2, 1, 0] rfl) hP hD hS

set_option maxHeartbeats 4000000 in
set_option maxRecDepth 100000 in
theorem ct_X10_party (l : Launch) (E : cE) (a : Nat → Nat) (I : Nat → Nat → Nat) (tr : Int64) (zp0 : Int32) (hI : KM I) : Ct l E 4 yX10_party cX10_party 6 (some .int) [.ref (a 0), .int (zp0)] (WM E a I tr) (some (.int (r_party (I 2 0) (shM I) zp0))) (WM E a I tr) := by
  refine Ct_of (plainFor_of_name (by decide)) (Nat.le_of_ble_eq_true rfl) ?_
  intro p e s m args below meth c A ls hE hP hD hS hl
  have hE : cEnv p s m args meth c E RX10 cX10_party 6 (some .int) A := hE
  have hx := hE.1
  have hb := hE.2.1
  have hl : lv_has ls 6 [(0, .ref (a 0)), (1, .int (zp0))] := hl
  have hP : va_P E.1 vwCl (WM E a I tr) s.heap := hP
  generalize hH : s.heap = H at hP hS ⊢
  have hS : va_S A s.heap H [] := by rw [hH]; exact hS
  clear hH
  have hc6 := hI.1
  refine lv_iload_n hx hb dX10_party_0 rfl (lv_at hl 1 rfl) ?_
  refine lv_iconst (v := (-1)) hx hb dX10_party_1 (by decide) ?_
  refine lv_bipush (v := nI (47)) hx hb dX10_party_2 (by decide) ?_
  refine call_S (As := [.int (zp0), .int (-1), .int (nI (47))]) (rest := []) hE (ct_X10_in l E (WM E a I tr) ((zp0)) ((-1)) (nI (47))) cm_X10_in (uw mt_L_X10_63 rfl) hP hD hS hl.1 rfl rfl (Nat.le_of_ble_eq_true rfl) ⟨by decide, by decide⟩ dX10_party_4 (fun H locs hP hD hS => ?_)
  refine W.eq (g2 := F0 m 7 ls [.int (bB (wi ((zp0)) ((-1)) (nI (47))))]) rfl ?_
  refine bB_ne (tgt := 12) hx hb dX10_party_7 (by decide) (fun c7 => ?_) (fun c7 => ?_)
  · refine lv_iload_n hx hb dX10_party_12 rfl (lv_at hl 1 rfl) ?_
    refine lv_if_lt (tgt := 22) hx hb dX10_party_13 (by decide) (fun c13 => ?_) (fun c13 => ?_)
    · have hm1 : zp0 = -1 := wm_n c7 c13
      subst hm1
      refine lv_bipush (v := (-9)) hx hb dX10_party_22 (by decide) ?_
      refine tp (show (-9 : Int32) = rN 0 by decide) ?_
      refine lv_istore_n (lv' := [(2, .int (rN (0))), (0, .ref (a 0)), (1, .int (-1))]) hx hb dX10_party_24 rfl hl (by decide) rfl (fun ls hl => ?_)
      refine lv_bipush (v := (-9)) hx hb dX10_party_25 (by decide) ?_
      refine tp (show (-9 : Int32) = rN 0 by decide) ?_
      refine lv_istore_n (lv' := [(3, .int (rN (0))), (2, .int (rN (0))), (0, .ref (a 0)), (1, .int (-1))]) hx hb dX10_party_27 rfl hl (by decide) rfl (fun ls hl => ?_)
      refine lv_iconst (v := nI (0)) hx hb dX10_party_28 (by decide) ?_
      refine lv_istore (lv' := [(4, .int (nI (0))), (3, .int (rN (0))), (2, .int (rN (0))), (0, .ref (a 0)), (1, .int (-1))]) hx hb dX10_party_29 hl (by decide) rfl (fun ls hl => ?_)
      have loop31 : ∀ (fu31 : Nat) (be : Nat) (le : Nat) (v : Nat), 48 - v < fu31 → (v ≤ 48) → (be = (pb (fun v => sprE (fun u => fst (shM I u) v 0) (I 2 0)) v).1) → (le = (pb (fun v => sprE (fun u => fst (shM I u) v 0) (I 2 0)) v).2) → (be ≤ 57) → (le ≤ 104) → ∀ (ls : Array Slot) (H : Heap) (locs : List Loc), lv_has ls 6 [(0, .ref (a 0)), (2, .int (rN (be))), (3, .int (rN (le))), (4, .int (nI (v)))] → va_P E.1 vwCl (WM E a I tr) H → va_D A (WM E a I tr) → va_S A s.heap H locs → W p l e (rmL 4) s m args below meth c H locs 0 0 (RQ E below args s A (some (.int (r_party (I 2 0) (shM I) (-1)))) (WM E a I tr)) (F0 m 31 ls []) := by
        intro fu31
        induction fu31 with
        | zero => intro be le v h; exact absurd h (Nat.not_lt_zero _)
        | succ fu31 ih31 =>
          intro be le v hfu31 hv hbb hl2 hbe hle ls H locs hl hP hD hS
          refine lv_iload hx hb dX10_party_31 (lv_at hl 3 rfl) ?_
          refine lv_bipush (v := nI (48)) hx hb dX10_party_33 (by decide) ?_
          refine bN_ge (tgt := 77) hx hb (by omega) (by omega) dX10_party_35 (by decide) (fun c35 => ?_) (fun c35 => ?_)
          · refine lv_iload_n hx hb dX10_party_77 rfl (lv_at hl 1 rfl) ?_
            exact ret_i hE (r := rN (be)) (by rw [r_party, if_pos rfl, hbb, show v = 48 by omega]) hP hD hS dX10_party_78
          · refine lv_aload_n hx hb dX10_party_38 rfl (lv_at hl 0 rfl) ?_
            refine lv_iload hx hb dX10_party_39 (lv_at hl 3 rfl) ?_
            refine call_V (As := [.int (nI (v))]) (rest := []) hE (ct_X10_spread l E a I tr (v) hI (by omega)) cm_X10_spread (uw mt_L_X10_155 rfl) (gM_0 E a I tr) rfl rfl hP hD hS hl.1 rfl rfl (Nat.le_of_ble_eq_true rfl) ⟨by decide, by decide⟩ dX10_party_41 (fun H locs hP hD hS => ?_)
            refine W.eq (g2 := F0 m 44 ls [.int (rN (sprE (fun u => fst (shM I u) (v) 0) (I 2 0)))]) rfl ?_
            have hp1 := sprE_le (g := fun u => fst (shM I u) (v) 0) (n := I 2 0) (fun u _ => fst_le (shM I u) (v) 0)
            refine lv_istore (lv' := [(5, .int (rN (sprE (fun u => fst (shM I u) (v) 0) (I 2 0)))), (0, .ref (a 0)), (2, .int (rN (be))), (3, .int (rN (le))), (4, .int (nI (v)))]) hx hb dX10_party_44 hl (by decide) rfl (fun ls hl => ?_)
            refine lv_iload hx hb dX10_party_46 (lv_at hl 0 rfl) ?_
            refine lv_bipush (v := (-9)) hx hb dX10_party_48 (by decide) ?_
            refine bQ9_eq (tgt := 71) hx hb (by omega) dX10_party_50 (by decide) (fun c50 => ?_) (fun c50 => ?_)
            · refine lv_iinc (v := nI (v + 1)) (lv' := [(4, .int (nI (v + 1))), (5, .int (rN (sprE (fun u => fst (shM I u) (v) 0) (I 2 0)))), (0, .ref (a 0)), (2, .int (rN (be))), (3, .int (rN (le)))]) hx hb dX10_party_71 hl (k := 4) rfl (ii1_N _) (by decide) rfl (fun ls hl => ?_)
              refine lv_goto (tgt := 31) hx hb dX10_party_74 (by decide) ?_
              exact ih31 (be) (le) (v + 1) (by omega) (by omega) (by first | exact ((pb_k hbb hl2).1 c50).1) (by first | exact ((pb_k hbb hl2).1 c50).2) (by omega) (by omega) ls _ _ (lv_sub hl [2, 3, 4, 0] rfl) hP hD hS
            · refine lv_iload_n hx hb dX10_party_53 rfl (lv_at hl 2 rfl) ?_
              refine lv_bipush (v := (-9)) hx hb dX10_party_54 (by decide) ?_
              refine bQ9_eq (tgt := 65) hx hb (by omega) dX10_party_56 (by decide) (fun c56 => ?_) (fun c56 => ?_)
              · refine lv_iload hx hb dX10_party_65 (lv_at hl 4 rfl) ?_
                refine tp (rN_9 (v)).symm ?_
                refine lv_istore_n (lv' := [(2, .int (rN (v + 9))), (5, .int (rN (sprE (fun u => fst (shM I u) (v) 0) (I 2 0)))), (0, .ref (a 0)), (3, .int (rN (le))), (4, .int (nI (v)))]) hx hb dX10_party_67 rfl hl (by decide) rfl (fun ls hl => ?_)
                refine lv_iload hx hb dX10_party_68 (lv_at hl 1 rfl) ?_
                refine lv_istore_n (lv' := [(3, .int (rN (sprE (fun u => fst (shM I u) (v) 0) (I 2 0)))), (2, .int (rN (v + 9))), (5, .int (rN (sprE (fun u => fst (shM I u) (v) 0) (I 2 0)))), (0, .ref (a 0)), (4, .int (nI (v)))]) hx hb dX10_party_70 rfl hl (by decide) rfl (fun ls hl => ?_)
                refine lv_iinc (v := nI (v + 1)) (lv' := [(4, .int (nI (v + 1))), (3, .int (rN (sprE (fun u => fst (shM I u) (v) 0) (I 2 0)))), (2, .int (rN (v + 9))), (5, .int (rN (sprE (fun u => fst (shM I u) (v) 0) (I 2 0)))), (0, .ref (a 0))]) hx hb dX10_party_71 hl (k := 4) rfl (ii1_N _) (by decide) rfl (fun ls hl => ?_)
                refine lv_goto (tgt := 31) hx hb dX10_party_74 (by decide) ?_
                exact ih31 (v + 9) (sprE (fun u => fst (shM I u) (v) 0) (I 2 0)) (v + 1) (by omega) (by omega) (by first | exact ((pb_k hbb hl2).1 c50).1 | exact ((pb_k hbb hl2).2.2 c50 (Or.inl c56)).1) (by first | exact ((pb_k hbb hl2).1 c50).2 | exact ((pb_k hbb hl2).2.2 c50 (Or.inl c56)).2) (by omega) (by omega) ls _ _ (lv_sub hl [4, 2, 1, 0] rfl) hP hD hS
              · refine lv_iload hx hb dX10_party_59 (lv_at hl 0 rfl) ?_
                refine lv_iload_n hx hb dX10_party_61 rfl (lv_at hl 3 rfl) ?_
                refine bQ_ge (tgt := 71) hx hb (by omega) (by omega) dX10_party_62 (by decide) (fun c62 => ?_) (fun c62 => ?_)
                · refine lv_iinc (v := nI (v + 1)) (lv' := [(4, .int (nI (v + 1))), (5, .int (rN (sprE (fun u => fst (shM I u) (v) 0) (I 2 0)))), (0, .ref (a 0)), (2, .int (rN (be))), (3, .int (rN (le)))]) hx hb dX10_party_71 hl (k := 4) rfl (ii1_N _) (by decide) rfl (fun ls hl => ?_)
                  refine lv_goto (tgt := 31) hx hb dX10_party_74 (by decide) ?_
                  exact ih31 (be) (le) (v + 1) (by omega) (by omega) (by first | exact ((pb_k hbb hl2).1 c50).1 | exact ((pb_k hbb hl2).2.1 c56 c62).1 | exact ((pb_k hbb hl2).2.2 c50 (Or.inl c56)).1 | exact ((pb_k hbb hl2).2.2 c50 (Or.inr c62)).1) (by first | exact ((pb_k hbb hl2).1 c50).2 | exact ((pb_k hbb hl2).2.1 c56 c62).2 | exact ((pb_k hbb hl2).2.2 c50 (Or.inl c56)).2 | exact ((pb_k hbb hl2).2.2 c50 (Or.inr c62)).2) (by omega) (by omega) ls _ _ (lv_sub hl [2, 3, 4, 0] rfl) hP hD hS
                · refine lv_iload hx hb dX10_party_65 (lv_at hl 4 rfl) ?_
                  refine tp (rN_9 (v)).symm ?_
                  refine lv_istore_n (lv' := [(2, .int (rN (v + 9))), (5, .int (rN (sprE (fun u => fst (shM I u) (v) 0) (I 2 0)))), (0, .ref (a 0)), (3, .int (rN (le))), (4, .int (nI (v)))]) hx hb dX10_party_67 rfl hl (by decide) rfl (fun ls hl => ?_)
                  refine lv_iload hx hb dX10_party_68 (lv_at hl 1 rfl) ?_
                  refine lv_istore_n (lv' := [(3, .int (rN (sprE (fun u => fst (shM I u) (v) 0) (I 2 0)))), (2, .int (rN (v + 9))), (5, .int (rN (sprE (fun u => fst (shM I u) (v) 0) (I 2 0)))), (0, .ref (a 0)), (4, .int (nI (v)))]) hx hb dX10_party_70 rfl hl (by decide) rfl (fun ls hl => ?_)
                  refine lv_iinc (v := nI (v + 1)) (lv' := [(4, .int (nI (v + 1))), (3, .int (rN (sprE (fun u => fst (shM I u) (v) 0) (I 2 0)))), (2, .int (rN (v + 9))), (5, .int (rN (sprE (fun u => fst (shM I u) (v) 0) (I 2 0)))), (0, .ref (a 0))]) hx hb dX10_party_71 hl (k := 4) rfl (ii1_N _) (by decide) rfl (fun ls hl => ?_)
                  refine lv_goto (tgt := 31) hx hb dX10_party_74 (by decide) ?_
                  exact ih31 (v + 9) (sprE (fun u => fst (shM I u) (v) 0) (I 2 0)) (v + 1) (by omega) (by omega) (by first | exact ((pb_k hbb hl2).1 c50).1 | exact ((pb_k hbb hl2).2.1 c56 c62).1 | exact ((pb_k hbb hl2).2.2 c50 (Or.inl c56)).1 | exact ((pb_k hbb hl2).2.2 c50 (Or.inr c62)).1) (by first | exact ((pb_k hbb hl2).1 c50).2 | exact ((pb_k hbb hl2).2.1 c56 c62).2 | exact ((pb_k hbb hl2).2.2 c50 (Or.inl c56)).2 | exact ((pb_k hbb hl2).2.2 c50 (Or.inr c62)).2) (by omega) (by omega) ls _ _ (lv_sub hl [4, 2, 1, 0] rfl) hP hD hS
      exact loop31 (_ + 1) (0) (0) (0) (Nat.lt_succ_self _) (by omega) rfl rfl (by omega) (by omega) ls _ _ (lv_sub hl [3, 2, 1, 0] rfl) hP hD hS
    · obtain ⟨n, qn, rfl⟩ := wm_t c7 c13
      have kn : tn (nI n) = n := tn_nI (by omega)
      refine lv_aload_n hx hb dX10_party_16 rfl (lv_at hl 0 rfl) ?_
      refine lv_iload_n hx hb dX10_party_17 rfl (lv_at hl 1 rfl) ?_
      refine call_V (As := [.int (nI (n))]) (rest := []) hE (ct_X10_spread l E a I tr (n) hI (by omega)) cm_X10_spread (uw mt_L_X10_155 rfl) (gM_0 E a I tr) rfl rfl hP hD hS hl.1 rfl rfl (Nat.le_of_ble_eq_true rfl) ⟨by decide, by decide⟩ dX10_party_18 (fun H locs hP hD hS => ?_)
      refine W.eq (g2 := F0 m 21 ls [.int (rN (sprE (fun u => fst (shM I u) (n) 0) (I 2 0)))]) rfl ?_
      have hp2 := sprE_le (g := fun u => fst (shM I u) (n) 0) (n := I 2 0) (fun u _ => fst_le (shM I u) (n) 0)
      exact ret_i hE (r := rN (sprE (fun u => fst (shM I u) (n) 0) (I 2 0))) (by rw [r_party, if_neg (fun z => by rw [z] at c13; exact c13 (by decide))]; simp only [inB_nI qn (by decide), kn, cond_true]) hP hD hS dX10_party_21
  · refine lv_iconst (v := (-1)) hx hb dX10_party_10 (by decide) ?_
    exact ret_i hE (r := (-1)) (by rw [r_party, if_neg (wm_f c7).1]; simp only [(wm_f c7).2, cond_false]) hP hD hS dX10_party_11

set_option maxHeartbeats 4000000 in
set_option maxRecDepth 100000 in
theorem ct_X10_treaty (l : Launch) (E : cE) (a : Nat → Nat) (I : Nat → Nat → Nat) (tr : Int64) (zp0 zp1 zp2 : Int32) (hI : KM I) : Ct l E 3 yX10_treaty cX10_treaty 9 (some .int) [.ref (a 0), .int (zp0), .int (zp1), .int (zp2)] (WM E a I tr) (some (.int (r_treaty (I 2 0) (shM I) zp0 zp1 zp2))) (WM E a I tr) := by
  refine Ct_of (plainFor_of_name (by decide)) (Nat.le_of_ble_eq_true rfl) ?_
  intro p e s m args below meth c A ls hE hP hD hS hl
  have hE : cEnv p s m args meth c E RX10 cX10_treaty 9 (some .int) A := hE
  have hx := hE.1
  have hb := hE.2.1
  have hl : lv_has ls 9 [(0, .ref (a 0)), (1, .int (zp0)), (2, .int (zp1)), (3, .int (zp2))] := hl
  have hP : va_P E.1 vwCl (WM E a I tr) s.heap := hP
  generalize hH : s.heap = H at hP hS ⊢
  have hS : va_S A s.heap H [] := by rw [hH]; exact hS
  clear hH
  have hc6 := hI.1
  refine lv_aload_n hx hb dX10_treaty_0 rfl (lv_at hl 0 rfl) ?_
  refine lv_iload_n hx hb dX10_treaty_1 rfl (lv_at hl 1 rfl) ?_
  refine call_V (As := [.int (zp0)]) (rest := []) hE (ct_X10_isHouse l E a I tr ((zp0)) hI.1) cm_X10_isHouse (uw mt_L_X10_125 rfl) (gM_0 E a I tr) rfl rfl hP hD hS hl.1 rfl rfl (Nat.le_of_ble_eq_true rfl) ⟨by decide, by decide⟩ dX10_treaty_2 (fun H locs hP hD hS => ?_)
  refine W.eq (g2 := F0 m 5 ls [.int (bB (inB ((zp0)) (I 2 0)))]) rfl ?_
  refine bB_eq (tgt := 30) hx hb dX10_treaty_5 (by decide) (fun c5 => ?_) (fun c5 => ?_)
  · have hh2 : hb2 (I 2 0) zp0 zp1 = false := by rw [hb2, c5]; rfl
    refine lv_iconst (v := (-1)) hx hb dX10_treaty_30 (by decide) ?_
    exact ret_i hE (r := (-1)) (by first | (simp only [r_treaty, hh2, cond_false]; done)) hP hD hS dX10_treaty_31
  · obtain ⟨x, qx, rfl⟩ := inB_t (by omega) c5
    have kx : tn (nI x) = x := tn_nI (by omega)
    refine lv_aload_n hx hb dX10_treaty_8 rfl (lv_at hl 0 rfl) ?_
    refine lv_iload_n hx hb dX10_treaty_9 rfl (lv_at hl 2 rfl) ?_
    refine call_V (As := [.int (zp1)]) (rest := []) hE (ct_X10_isHouse l E a I tr ((zp1)) hI.1) cm_X10_isHouse (uw mt_L_X10_125 rfl) (gM_0 E a I tr) rfl rfl hP hD hS hl.1 rfl rfl (Nat.le_of_ble_eq_true rfl) ⟨by decide, by decide⟩ dX10_treaty_10 (fun H locs hP hD hS => ?_)
    refine W.eq (g2 := F0 m 13 ls [.int (bB (inB ((zp1)) (I 2 0)))]) rfl ?_
    refine bB_eq (tgt := 30) hx hb dX10_treaty_13 (by decide) (fun c13 => ?_) (fun c13 => ?_)
    · have hh2 : hb2 (I 2 0) (nI x) zp1 = false := by rw [hb2, c5, c13]; rfl
      refine lv_iconst (v := (-1)) hx hb dX10_treaty_30 (by decide) ?_
      exact ret_i hE (r := (-1)) (by first | (simp only [r_treaty, hh2, cond_false]; done)) hP hD hS dX10_treaty_31
    · obtain ⟨y, qy, rfl⟩ := inB_t (by omega) c13
      have ky : tn (nI y) = y := tn_nI (by omega)
      refine lv_iload_n hx hb dX10_treaty_16 rfl (lv_at hl 1 rfl) ?_
      refine lv_iload_n hx hb dX10_treaty_17 rfl (lv_at hl 2 rfl) ?_
      refine bN_eq (tgt := 30) hx hb (by omega) (by omega) dX10_treaty_18 (by decide) (fun c18 => ?_) (fun c18 => ?_)
      · have hxe : nI x = nI y := by rw [c18]
        have hh2 : hb2 (I 2 0) (nI x) (nI y) = false := by rw [hb2, c5, c13, dt hxe]; rfl
        refine lv_iconst (v := (-1)) hx hb dX10_treaty_30 (by decide) ?_
        exact ret_i hE (r := (-1)) (by first | (simp only [r_treaty, hh2, cond_false]; done)) hP hD hS dX10_treaty_31
      · have hxn : ¬ nI x = nI y := fun z => c18 ((nI_eq (by omega) (by omega)).mp z)
        have hh2 : hb2 (I 2 0) (nI x) (nI y) = true := by rw [hb2, c5, c13, df hxn]; rfl
        refine lv_iload_n hx hb dX10_treaty_21 rfl (lv_at hl 3 rfl) ?_
        refine lv_iconst (v := nI (0)) hx hb dX10_treaty_22 (by decide) ?_
        refine lv_iconst (v := nI (1)) hx hb dX10_treaty_23 (by decide) ?_
        refine call_S (As := [.int (zp2), .int (nI (0)), .int (nI (1))]) (rest := []) hE (ct_X10_in l E (WM E a I tr) ((zp2)) (nI (0)) (nI (1))) cm_X10_in (uw mt_L_X10_63 rfl) hP hD hS hl.1 rfl rfl (Nat.le_of_ble_eq_true rfl) ⟨by decide, by decide⟩ dX10_treaty_24 (fun H locs hP hD hS => ?_)
        refine W.eq (g2 := F0 m 27 ls [.int (bB (wi ((zp2)) (nI (0)) (nI (1))))]) rfl ?_
        refine bB_ne (tgt := 32) hx hb dX10_treaty_27 (by decide) (fun c27 => ?_) (fun c27 => ?_)
        · obtain ⟨j, qj1, qj2, rfl⟩ := wi_of (by decide) (by decide) c27
          have kj : tn (nI j) = j := tn_nI (by omega)
          refine lv_iconst (v := nI (0)) hx hb dX10_treaty_32 (by decide) ?_
          refine lv_istore (lv' := [(4, .int (nI (0))), (0, .ref (a 0)), (1, .int (nI (x))), (2, .int (nI (y))), (3, .int (nI (j)))]) hx hb dX10_treaty_33 hl (by decide) rfl (fun ls hl => ?_)
          refine lv_iconst (v := (-1)) hx hb dX10_treaty_35 (by decide) ?_
          refine tp (show (-1 : Int32) = rN 8 by decide) ?_
          refine lv_istore (lv' := [(5, .int (rN (8))), (4, .int (nI (0))), (0, .ref (a 0)), (1, .int (nI (x))), (2, .int (nI (y))), (3, .int (nI (j)))]) hx hb dX10_treaty_36 hl (by decide) rfl (fun ls hl => ?_)
          refine lv_iconst (v := nI (0)) hx hb dX10_treaty_38 (by decide) ?_
          refine lv_istore (lv' := [(6, .int (nI (0))), (5, .int (rN (8))), (4, .int (nI (0))), (0, .ref (a 0)), (1, .int (nI (x))), (2, .int (nI (y))), (3, .int (nI (j)))]) hx hb dX10_treaty_39 hl (by decide) rfl (fun ls hl => ?_)
          have loop41 : ∀ (fu41 : Nat) (b : Nat) (mo : Nat) (v : Nat), 48 - v < fu41 → (v ≤ 48) → (b = am (trT (shM I) x y) v) → (mo = if v = 0 then 8 else (trT (shM I) x y) (am (trT (shM I) x y) v) + 9) → (mo ≤ 105) → ∀ (ls : Array Slot) (H : Heap) (locs : List Loc), lv_has ls 9 [(0, .ref (a 0)), (1, .int (nI (x))), (2, .int (nI (y))), (3, .int (nI (j))), (4, .int (nI (b))), (5, .int (rN (mo))), (6, .int (nI (v)))] → va_P E.1 vwCl (WM E a I tr) H → va_D A (WM E a I tr) → va_S A s.heap H locs → W p l e (rmL 3) s m args below meth c H locs 0 0 (RQ E below args s A (some (.int (r_treaty (I 2 0) (shM I) (nI x) (nI y) (nI j)))) (WM E a I tr)) (F0 m 41 ls []) := by
            intro fu41
            induction fu41 with
            | zero => intro b mo v h; exact absurd h (Nat.not_lt_zero _)
            | succ fu41 ih41 =>
              intro b mo v hfu41 hv hbb hm hm3 ls H locs hl hP hD hS
              have hb48 := am_lt (trT (shM I) x y) v
              refine lv_iload hx hb dX10_treaty_41 (lv_at hl 6 rfl) ?_
              refine lv_bipush (v := nI (48)) hx hb dX10_treaty_43 (by decide) ?_
              refine bN_ge (tgt := 138) hx hb (by omega) (by omega) dX10_treaty_45 (by decide) (fun c45 => ?_) (fun c45 => ?_)
              · refine lv_iload_n hx hb dX10_treaty_138 rfl (lv_at hl 3 rfl) ?_
                refine bZ_ne (tgt := 147) hx hb (by omega) dX10_treaty_139 (by decide) (fun c139 => ?_) (fun c139 => ?_)
                · refine lv_iload hx hb dX10_treaty_147 (lv_at hl 5 rfl) ?_
                  exact ret_i hE (r := rN (mo)) (by have h48 : v = 48 := (by omega); simp only [r_treaty, hh2, c27, kx, ky, cond_true]; rw [if_neg (fun z => absurd ((nI_eq (by omega) (by decide)).mp z) (by omega)), hm, h48, if_neg (by decide), rN_9]) hP hD hS dX10_treaty_149
                · refine lv_iload hx hb dX10_treaty_142 (lv_at hl 4 rfl) ?_
                  refine lv_goto (tgt := 149) hx hb dX10_treaty_144 (by decide) ?_
                  exact ret_i hE (r := nI (b)) (by have h48 : v = 48 := (by omega); simp only [r_treaty, hh2, c27, kx, ky, cond_true]; rw [if_pos (show nI j = nI 0 by rw [c139]), hbb, h48]) hP hD hS dX10_treaty_149
              · refine lv_iconst (v := nI (0)) hx hb dX10_treaty_48 (by decide) ?_
                refine lv_istore (lv' := [(7, .int (nI (0))), (0, .ref (a 0)), (1, .int (nI (x))), (2, .int (nI (y))), (3, .int (nI (j))), (4, .int (nI (b))), (5, .int (rN (mo))), (6, .int (nI (v)))]) hx hb dX10_treaty_49 hl (by decide) rfl (fun ls hl => ?_)
                refine lv_iconst (v := nI (0)) hx hb dX10_treaty_51 (by decide) ?_
                refine lv_istore (lv' := [(8, .int (nI (0))), (7, .int (nI (0))), (0, .ref (a 0)), (1, .int (nI (x))), (2, .int (nI (y))), (3, .int (nI (j))), (4, .int (nI (b))), (5, .int (rN (mo))), (6, .int (nI (v)))]) hx hb dX10_treaty_52 hl (by decide) rfl (fun ls hl => ?_)
                have loop54 : ∀ (fu54 : Nat) (k : Nat) (t : Nat), 96 - t < fu54 → (t ≤ 96) → (k = cnt (fun u => decide (fm (shM I x u) (shM I y u) = v)) t) → ∀ (ls : Array Slot) (H : Heap) (locs : List Loc), lv_has ls 9 [(0, .ref (a 0)), (1, .int (nI (x))), (2, .int (nI (y))), (3, .int (nI (j))), (4, .int (nI (b))), (5, .int (rN (mo))), (6, .int (nI (v))), (7, .int (nI (k))), (8, .int (nI (t)))] → va_P E.1 vwCl (WM E a I tr) H → va_D A (WM E a I tr) → va_S A s.heap H locs → W p l e (rmL 3) s m args below meth c H locs 0 0 (RQ E below args s A (some (.int (r_treaty (I 2 0) (shM I) (nI x) (nI y) (nI j)))) (WM E a I tr)) (F0 m 54 ls []) := by
                  intro fu54
                  induction fu54 with
                  | zero => intro k t h; exact absurd h (Nat.not_lt_zero _)
                  | succ fu54 ih54 =>
                    intro k t hfu54 ht hk ls H locs hl hP hD hS
                    have hkl := cnt_le (fun u => decide (fm (shM I x u) (shM I y u) = v)) t
                    refine lv_iload hx hb dX10_treaty_54 (lv_at hl 8 rfl) ?_
                    refine lv_bipush (v := nI (95)) hx hb dX10_treaty_56 (by decide) ?_
                    refine bN_gt (tgt := 100) hx hb (by omega) (by omega) dX10_treaty_58 (by decide) (fun c58 => ?_) (fun c58 => ?_)
                    · have h96 : t = 96 := by omega
                      have hkT : k = (trT (shM I) x y) v := by rw [hk, h96]; rfl
                      refine lv_iload hx hb dX10_treaty_100 (lv_at hl 7 rfl) ?_
                      refine lv_iload hx hb dX10_treaty_102 (lv_at hl 5 rfl) ?_
                      refine tp2 (rN_9 (k)).symm ?_
                      refine bQ_le (tgt := 112) hx hb (by omega) (by omega) dX10_treaty_104 (by decide) (fun c104 => ?_) (fun c104 => ?_)
                      · refine lv_iload hx hb dX10_treaty_112 (lv_at hl 4 rfl) ?_
                        refine lv_istore (lv' := [(4, .int (nI (b))), (0, .ref (a 0)), (1, .int (nI (x))), (2, .int (nI (y))), (3, .int (nI (j))), (5, .int (rN (mo))), (6, .int (nI (v))), (7, .int (nI (k))), (8, .int (nI (t)))]) hx hb dX10_treaty_114 hl (by decide) rfl (fun ls hl => ?_)
                        refine lv_iload hx hb dX10_treaty_116 (lv_at hl 7 rfl) ?_
                        refine lv_iload hx hb dX10_treaty_118 (lv_at hl 5 rfl) ?_
                        refine tp2 (rN_9 (k)).symm ?_
                        refine bQ_le (tgt := 128) hx hb (by omega) (by omega) dX10_treaty_120 (by decide) (fun c120 => ?_) (fun c120 => ?_)
                        · refine lv_iload hx hb dX10_treaty_128 (lv_at hl 5 rfl) ?_
                          refine lv_istore (lv' := [(5, .int (rN (mo))), (4, .int (nI (b))), (0, .ref (a 0)), (1, .int (nI (x))), (2, .int (nI (y))), (3, .int (nI (j))), (6, .int (nI (v))), (7, .int (nI (k))), (8, .int (nI (t)))]) hx hb dX10_treaty_130 hl (by decide) rfl (fun ls hl => ?_)
                          refine lv_iinc (v := nI (v + 1)) (lv' := [(6, .int (nI (v + 1))), (5, .int (rN (mo))), (4, .int (nI (b))), (0, .ref (a 0)), (1, .int (nI (x))), (2, .int (nI (y))), (3, .int (nI (j))), (7, .int (nI (k))), (8, .int (nI (t)))]) hx hb dX10_treaty_132 hl (k := 6) rfl (ii1_N _) (by decide) rfl (fun ls hl => ?_)
                          refine lv_goto (tgt := 41) hx hb dX10_treaty_135 (by decide) ?_
                          exact ih41 (b) (mo) (v + 1) (by omega) (by omega) (by first | exact ((am_k hm hkT).1 c104).1 | exact hbb.trans ((am_k hm hkT).2 c104).1) (by rw [if_neg (Nat.succ_ne_zero v)]; first | exact ((am_k hm hkT).1 c120).2 | exact ((am_k hm hkT).2 c120).2) (by omega) ls _ _ (lv_sub hl [3, 4, 5, 6, 2, 1, 0] rfl) hP hD hS
                        · refine lv_iload hx hb dX10_treaty_123 (lv_at hl 7 rfl) ?_
                          refine tp (rN_9 (k)).symm ?_
                          refine lv_goto (tgt := 130) hx hb dX10_treaty_125 (by decide) ?_
                          refine lv_istore (lv' := [(5, .int (rN (k + 9))), (4, .int (nI (b))), (0, .ref (a 0)), (1, .int (nI (x))), (2, .int (nI (y))), (3, .int (nI (j))), (6, .int (nI (v))), (7, .int (nI (k))), (8, .int (nI (t)))]) hx hb dX10_treaty_130 hl (by decide) rfl (fun ls hl => ?_)
                          refine lv_iinc (v := nI (v + 1)) (lv' := [(6, .int (nI (v + 1))), (5, .int (rN (k + 9))), (4, .int (nI (b))), (0, .ref (a 0)), (1, .int (nI (x))), (2, .int (nI (y))), (3, .int (nI (j))), (7, .int (nI (k))), (8, .int (nI (t)))]) hx hb dX10_treaty_132 hl (k := 6) rfl (ii1_N _) (by decide) rfl (fun ls hl => ?_)
                          refine lv_goto (tgt := 41) hx hb dX10_treaty_135 (by decide) ?_
                          exact ih41 (b) (k + 9) (v + 1) (by omega) (by omega) (by first | exact ((am_k hm hkT).1 c104).1 | exact hbb.trans ((am_k hm hkT).2 c104).1) (by rw [if_neg (Nat.succ_ne_zero v)]; first | exact ((am_k hm hkT).1 c120).2 | exact ((am_k hm hkT).2 c120).2) (by omega) ls _ _ (lv_sub hl [3, 4, 5, 6, 2, 1, 0] rfl) hP hD hS
                      · refine lv_iload hx hb dX10_treaty_107 (lv_at hl 6 rfl) ?_
                        refine lv_goto (tgt := 114) hx hb dX10_treaty_109 (by decide) ?_
                        refine lv_istore (lv' := [(4, .int (nI (v))), (0, .ref (a 0)), (1, .int (nI (x))), (2, .int (nI (y))), (3, .int (nI (j))), (5, .int (rN (mo))), (6, .int (nI (v))), (7, .int (nI (k))), (8, .int (nI (t)))]) hx hb dX10_treaty_114 hl (by decide) rfl (fun ls hl => ?_)
                        refine lv_iload hx hb dX10_treaty_116 (lv_at hl 7 rfl) ?_
                        refine lv_iload hx hb dX10_treaty_118 (lv_at hl 5 rfl) ?_
                        refine tp2 (rN_9 (k)).symm ?_
                        refine bQ_le (tgt := 128) hx hb (by omega) (by omega) dX10_treaty_120 (by decide) (fun c120 => ?_) (fun c120 => ?_)
                        · refine lv_iload hx hb dX10_treaty_128 (lv_at hl 5 rfl) ?_
                          refine lv_istore (lv' := [(5, .int (rN (mo))), (4, .int (nI (v))), (0, .ref (a 0)), (1, .int (nI (x))), (2, .int (nI (y))), (3, .int (nI (j))), (6, .int (nI (v))), (7, .int (nI (k))), (8, .int (nI (t)))]) hx hb dX10_treaty_130 hl (by decide) rfl (fun ls hl => ?_)
                          refine lv_iinc (v := nI (v + 1)) (lv' := [(6, .int (nI (v + 1))), (5, .int (rN (mo))), (4, .int (nI (v))), (0, .ref (a 0)), (1, .int (nI (x))), (2, .int (nI (y))), (3, .int (nI (j))), (7, .int (nI (k))), (8, .int (nI (t)))]) hx hb dX10_treaty_132 hl (k := 6) rfl (ii1_N _) (by decide) rfl (fun ls hl => ?_)
                          refine lv_goto (tgt := 41) hx hb dX10_treaty_135 (by decide) ?_
                          exact ih41 (v) (mo) (v + 1) (by omega) (by omega) (by first | exact ((am_k hm hkT).1 c104).1 | exact hbb.trans ((am_k hm hkT).2 c104).1) (by rw [if_neg (Nat.succ_ne_zero v)]; first | exact ((am_k hm hkT).1 c120).2 | exact ((am_k hm hkT).2 c120).2) (by omega) ls _ _ (lv_sub hl [3, 4, 5, 6, 2, 1, 0] rfl) hP hD hS
                        · refine lv_iload hx hb dX10_treaty_123 (lv_at hl 7 rfl) ?_
                          refine tp (rN_9 (k)).symm ?_
                          refine lv_goto (tgt := 130) hx hb dX10_treaty_125 (by decide) ?_
                          refine lv_istore (lv' := [(5, .int (rN (k + 9))), (4, .int (nI (v))), (0, .ref (a 0)), (1, .int (nI (x))), (2, .int (nI (y))), (3, .int (nI (j))), (6, .int (nI (v))), (7, .int (nI (k))), (8, .int (nI (t)))]) hx hb dX10_treaty_130 hl (by decide) rfl (fun ls hl => ?_)
                          refine lv_iinc (v := nI (v + 1)) (lv' := [(6, .int (nI (v + 1))), (5, .int (rN (k + 9))), (4, .int (nI (v))), (0, .ref (a 0)), (1, .int (nI (x))), (2, .int (nI (y))), (3, .int (nI (j))), (7, .int (nI (k))), (8, .int (nI (t)))]) hx hb dX10_treaty_132 hl (k := 6) rfl (ii1_N _) (by decide) rfl (fun ls hl => ?_)
                          refine lv_goto (tgt := 41) hx hb dX10_treaty_135 (by decide) ?_
                          exact ih41 (v) (k + 9) (v + 1) (by omega) (by omega) (by first | exact ((am_k hm hkT).1 c104).1 | exact hbb.trans ((am_k hm hkT).2 c104).1) (by rw [if_neg (Nat.succ_ne_zero v)]; first | exact ((am_k hm hkT).1 c120).2 | exact ((am_k hm hkT).2 c120).2) (by omega) ls _ _ (lv_sub hl [3, 4, 5, 6, 2, 1, 0] rfl) hP hD hS
                    · refine lv_iload hx hb dX10_treaty_61 (lv_at hl 7 rfl) ?_
                      refine lv_aload_n hx hb dX10_treaty_63 rfl (lv_at hl 0 rfl) ?_
                      refine lv_iload_n hx hb dX10_treaty_64 rfl (lv_at hl 1 rfl) ?_
                      refine lv_iload hx hb dX10_treaty_65 (lv_at hl 8 rfl) ?_
                      refine call_V (As := [.int (nI (x)), .int (nI (t))]) (rest := [.int (nI (k))]) hE (ct_X10_shown l E a I tr (x) (t) hI (by omega) (by omega)) cm_X10_shown (uw mt_L_X10_135 rfl) (gM_0 E a I tr) rfl rfl hP hD hS hl.1 rfl rfl (Nat.le_of_ble_eq_true rfl) ⟨by decide, by decide⟩ dX10_treaty_67 (fun H locs hP hD hS => ?_)
                      refine W.eq (g2 := F0 m 70 ls [.int (nI (shM I (x) (t))), .int (nI (k))]) rfl ?_
                      have hs1 := shM_lt I (x) (t)
                      refine lv_aload_n hx hb dX10_treaty_70 rfl (lv_at hl 0 rfl) ?_
                      refine lv_iload_n hx hb dX10_treaty_71 rfl (lv_at hl 2 rfl) ?_
                      refine lv_iload hx hb dX10_treaty_72 (lv_at hl 8 rfl) ?_
                      refine call_V (As := [.int (nI (y)), .int (nI (t))]) (rest := [.int (nI (shM I (x) (t))), .int (nI (k))]) hE (ct_X10_shown l E a I tr (y) (t) hI (by omega) (by omega)) cm_X10_shown (uw mt_L_X10_135 rfl) (gM_0 E a I tr) rfl rfl hP hD hS hl.1 rfl rfl (Nat.le_of_ble_eq_true rfl) ⟨by decide, by decide⟩ dX10_treaty_74 (fun H locs hP hD hS => ?_)
                      refine W.eq (g2 := F0 m 77 ls [.int (nI (shM I (y) (t))), .int (nI (shM I (x) (t))), .int (nI (k))]) rfl ?_
                      have hs2 := shM_lt I (y) (t)
                      refine lv_iload hx hb dX10_treaty_77 (lv_at hl 6 rfl) ?_
                      refine lv_iadd hx hb dX10_treaty_79 ?_
                      refine tp (nI_add _ _) ?_
                      refine lv_bipush (v := nI (48)) hx hb dX10_treaty_80 (by decide) ?_
                      refine lv_irem hx hb dX10_treaty_82 (nI_ne0 (by omega) (by omega)) ?_
                      refine tp (pk_rem (by omega) (by omega) (by omega)) ?_
                      refine bN_ne (tgt := 90) hx hb (by omega) (by omega) dX10_treaty_83 (by decide) (fun c83 => ?_) (fun c83 => ?_)
                      · refine lv_iconst (v := nI (0)) hx hb dX10_treaty_90 (by decide) ?_
                        refine lv_iadd hx hb dX10_treaty_91 ?_
                        refine tp (y := nI (k)) (nI_add _ _) ?_
                        refine lv_istore (lv' := [(7, .int (nI (k))), (0, .ref (a 0)), (1, .int (nI (x))), (2, .int (nI (y))), (3, .int (nI (j))), (4, .int (nI (b))), (5, .int (rN (mo))), (6, .int (nI (v))), (8, .int (nI (t)))]) hx hb dX10_treaty_92 hl (by decide) rfl (fun ls hl => ?_)
                        refine lv_iinc (v := nI (t + 1)) (lv' := [(8, .int (nI (t + 1))), (7, .int (nI (k))), (0, .ref (a 0)), (1, .int (nI (x))), (2, .int (nI (y))), (3, .int (nI (j))), (4, .int (nI (b))), (5, .int (rN (mo))), (6, .int (nI (v)))]) hx hb dX10_treaty_94 hl (k := 8) rfl (ii1_N _) (by decide) rfl (fun ls hl => ?_)
                        refine lv_goto (tgt := 54) hx hb dX10_treaty_97 (by decide) ?_
                        exact ih54 (k) (t + 1) (by omega) (by omega) (by first | rw [cnt_t (P := (fun u => decide (fm (shM I x u) (shM I y u) = v))) (dt ((fm_iff (shM_lt I x t) (shM_lt I y t) c45).mpr c83)), hk] | rw [cnt_f (P := (fun u => decide (fm (shM I x u) (shM I y u) = v))) (df (fun z => c83 ((fm_iff (shM_lt I x t) (shM_lt I y t) c45).mp z))), hk]) ls _ _ (lv_sub hl [2, 3, 4, 5, 6, 7, 8, 1, 0] rfl) hP hD hS
                      · refine lv_iconst (v := nI (1)) hx hb dX10_treaty_86 (by decide) ?_
                        refine lv_goto (tgt := 91) hx hb dX10_treaty_87 (by decide) ?_
                        refine lv_iadd hx hb dX10_treaty_91 ?_
                        refine tp (nI_add _ _) ?_
                        refine lv_istore (lv' := [(7, .int (nI (k + 1))), (0, .ref (a 0)), (1, .int (nI (x))), (2, .int (nI (y))), (3, .int (nI (j))), (4, .int (nI (b))), (5, .int (rN (mo))), (6, .int (nI (v))), (8, .int (nI (t)))]) hx hb dX10_treaty_92 hl (by decide) rfl (fun ls hl => ?_)
                        refine lv_iinc (v := nI (t + 1)) (lv' := [(8, .int (nI (t + 1))), (7, .int (nI (k + 1))), (0, .ref (a 0)), (1, .int (nI (x))), (2, .int (nI (y))), (3, .int (nI (j))), (4, .int (nI (b))), (5, .int (rN (mo))), (6, .int (nI (v)))]) hx hb dX10_treaty_94 hl (k := 8) rfl (ii1_N _) (by decide) rfl (fun ls hl => ?_)
                        refine lv_goto (tgt := 54) hx hb dX10_treaty_97 (by decide) ?_
                        exact ih54 (k + 1) (t + 1) (by omega) (by omega) (by first | rw [cnt_t (P := (fun u => decide (fm (shM I x u) (shM I y u) = v))) (dt ((fm_iff (shM_lt I x t) (shM_lt I y t) c45).mpr c83)), hk] | rw [cnt_f (P := (fun u => decide (fm (shM I x u) (shM I y u) = v))) (df (fun z => c83 ((fm_iff (shM_lt I x t) (shM_lt I y t) c45).mp z))), hk]) ls _ _ (lv_sub hl [2, 3, 4, 5, 6, 7, 8, 1, 0] rfl) hP hD hS
                exact loop54 (_ + 1) (0) (0) (Nat.lt_succ_self _) (by omega) rfl ls _ _ (lv_sub hl [2, 3, 4, 5, 6, 7, 8, 1, 0] rfl) hP hD hS
          exact loop41 (_ + 1) (0) (8) (0) (Nat.lt_succ_self _) (by omega) rfl rfl (by omega) ls _ _ (lv_sub hl [3, 4, 5, 6, 2, 1, 0] rfl) hP hD hS
        · refine lv_iconst (v := (-1)) hx hb dX10_treaty_30 (by decide) ?_
          exact ret_i hE (r := (-1)) (by first | (simp only [r_treaty, hh2, cond_false]; done) | (simp only [r_treaty, hh2, c27, cond_true, cond_false]; done)) hP hD hS dX10_treaty_31

set_option maxHeartbeats 4000000 in
set_option maxRecDepth 100000 in
theorem ct_X10_couldBe (l : Launch) (E : cE) (a : Nat → Nat) (I : Nat → Nat → Nat) (tr : Int64) (h : Nat) (hI : KM I) (hW : WKJ I) (hh : h < I 2 0) : Ct l E 2 yX10_couldBe cX10_couldBe 4 (some .boolean) [.ref (a 0), .int (nI (h))] (WM E a I tr) (some (.int (bB (cdB (shM I h) (I 22) (I 23) (I 24 0))))) (WM E a I tr) := by
  refine Ct_of (plainFor_of_name (by decide)) (Nat.le_of_ble_eq_true rfl) ?_
  intro p e s m args below meth c A ls hE hP hD hS hl
  have hE : cEnv p s m args meth c E RX10 cX10_couldBe 4 (some .boolean) A := hE
  have hx := hE.1
  have hb := hE.2.1
  have hl : lv_has ls 4 [(0, .ref (a 0)), (1, .int (nI (h)))] := hl
  have hP : va_P E.1 vwCl (WM E a I tr) s.heap := hP
  generalize hH : s.heap = H at hP hS ⊢
  have hS : va_S A s.heap H [] := by rw [hH]; exact hS
  clear hH
  have hw8 := hW.1
  refine lv_iconst (v := nI (1)) hx hb dX10_couldBe_0 (by decide) ?_
  refine lv_istore_n (lv' := [(2, .int (nI (1))), (0, .ref (a 0)), (1, .int (nI (h)))]) hx hb dX10_couldBe_1 rfl hl (by decide) rfl (fun ls hl => ?_)
  refine lv_iconst (v := nI (0)) hx hb dX10_couldBe_2 (by decide) ?_
  refine lv_istore_n (lv' := [(3, .int (nI (0))), (2, .int (nI (1))), (0, .ref (a 0)), (1, .int (nI (h)))]) hx hb dX10_couldBe_3 rfl hl (by decide) rfl (fun ls hl => ?_)
  have loop4 : ∀ (fu4 : Nat) (b : Nat) (k : Nat), I 24 0 - k < fu4 → (k ≤ I 24 0) → (b = bN1 (al (fun k => decide (shM I h (I 22 k) = I 23 k)) k)) → ∀ (ls : Array Slot) (H : Heap) (locs : List Loc), lv_has ls 4 [(0, .ref (a 0)), (1, .int (nI (h))), (2, .int (nI (b))), (3, .int (nI (k)))] → va_P E.1 vwCl (WM E a I tr) H → va_D A (WM E a I tr) → va_S A s.heap H locs → W p l e (rmL 2) s m args below meth c H locs 0 0 (RQ E below args s A (some (.int (bB (cdB (shM I h) (I 22) (I 23) (I 24 0))))) (WM E a I tr)) (F0 m 4 ls []) := by
    intro fu4
    induction fu4 with
    | zero => intro b k h; exact absurd h (Nat.not_lt_zero _)
    | succ fu4 ih4 =>
      intro b k hfu4 hk hbb ls H locs hl hP hD hS
      have hb1 := bN1_le (al (fun k => decide (shM I h (I 22 k) = I 23 k)) k)
      rw [← hbb] at hb1
      refine lv_iload_n hx hb dX10_couldBe_4 rfl (lv_at hl 3 rfl) ?_
      refine lv_aload_n hx hb dX10_couldBe_5 rfl (lv_at hl 0 rfl) ?_
      refine gf_X10_119 hE hP (0) (gM_0 E a I tr) (v := .int (nI (I (24) (0)))) rfl dX10_couldBe_6 ?_
      refine bN_ge (tgt := 48) hx hb (by omega) (by omega) dX10_couldBe_9 (by decide) (fun c9 => ?_) (fun c9 => ?_)
      · refine lv_iload_n hx hb dX10_couldBe_48 rfl (lv_at hl 2 rfl) ?_
        refine tp (show nI b = bB (cdB (shM I h) (I 22) (I 23) (I 24 0)) by rw [hbb, bN1_B, show k = I 24 0 by omega]; rfl) ?_
        exact ret_z hE (r := bB (cdB (shM I h) (I 22) (I 23) (I 24 0))) (bB_nar _) (rfl) hP hD hS dX10_couldBe_49
      · have hwk := hW.2 k c9
        refine lv_iload_n hx hb dX10_couldBe_12 rfl (lv_at hl 2 rfl) ?_
        refine bZ_eq (tgt := 40) hx hb (by omega) dX10_couldBe_13 (by decide) (fun c13 => ?_) (fun c13 => ?_)
        · refine lv_iconst (v := nI (0)) hx hb dX10_couldBe_40 (by decide) ?_
          refine lv_istore_n (lv' := [(2, .int (nI (0))), (0, .ref (a 0)), (1, .int (nI (h))), (3, .int (nI (k)))]) hx hb dX10_couldBe_41 rfl hl (by decide) rfl (fun ls hl => ?_)
          refine lv_iinc (v := nI (k + 1)) (lv' := [(3, .int (nI (k + 1))), (2, .int (nI (0))), (0, .ref (a 0)), (1, .int (nI (h)))]) hx hb dX10_couldBe_42 hl (k := 3) rfl (ii1_N _) (by decide) rfl (fun ls hl => ?_)
          refine lv_goto (tgt := 4) hx hb dX10_couldBe_45 (by decide) ?_
          exact ih4 (0) (k + 1) (by omega) (by omega) (by first | exact cb_0 (P := (fun k => decide (shM I h (I 22 k) = I 23 k))) hbb c13) ls _ _ (lv_sub hl [2, 3, 1, 0] rfl) hP hD hS
        · refine lv_aload_n hx hb dX10_couldBe_16 rfl (lv_at hl 0 rfl) ?_
          refine lv_iload_n hx hb dX10_couldBe_17 rfl (lv_at hl 1 rfl) ?_
          refine lv_aload_n hx hb dX10_couldBe_18 rfl (lv_at hl 0 rfl) ?_
          refine gf_X10_54 hE hP (0) (gM_0 E a I tr) (v := .ref (a 15)) rfl dX10_couldBe_19 ?_
          refine lv_iload_n hx hb dX10_couldBe_22 rfl (lv_at hl 3 rfl) ?_
          refine ald_i hE hP (15) (gM_15 E a I tr) (by omega) (by decide) (r := nI (I (22) (k))) rfl dX10_couldBe_23 ?_
          refine call_V (As := [.int (nI (h)), .int (nI (I (22) (k)))]) (rest := []) hE (ct_X10_shown l E a I tr (h) (I (22) (k)) hI (by omega) (by omega)) cm_X10_shown (uw mt_L_X10_135 rfl) (gM_0 E a I tr) rfl rfl hP hD hS hl.1 rfl rfl (Nat.le_of_ble_eq_true rfl) ⟨by decide, by decide⟩ dX10_couldBe_24 (fun H locs hP hD hS => ?_)
          refine W.eq (g2 := F0 m 27 ls [.int (nI (shM I (h) (I (22) (k))))]) rfl ?_
          have hs1 := shM_lt I (h) (I (22) (k))
          refine lv_aload_n hx hb dX10_couldBe_27 rfl (lv_at hl 0 rfl) ?_
          refine gf_X10_57 hE hP (0) (gM_0 E a I tr) (v := .ref (a 16)) rfl dX10_couldBe_28 ?_
          refine lv_iload_n hx hb dX10_couldBe_31 rfl (lv_at hl 3 rfl) ?_
          refine ald_i hE hP (16) (gM_16 E a I tr) (by omega) (by decide) (r := nI (I (23) (k))) rfl dX10_couldBe_32 ?_
          refine bN_ne (tgt := 40) hx hb (by omega) (by omega) dX10_couldBe_33 (by decide) (fun c33 => ?_) (fun c33 => ?_)
          · refine lv_iconst (v := nI (0)) hx hb dX10_couldBe_40 (by decide) ?_
            refine lv_istore_n (lv' := [(2, .int (nI (0))), (0, .ref (a 0)), (1, .int (nI (h))), (3, .int (nI (k)))]) hx hb dX10_couldBe_41 rfl hl (by decide) rfl (fun ls hl => ?_)
            refine lv_iinc (v := nI (k + 1)) (lv' := [(3, .int (nI (k + 1))), (2, .int (nI (0))), (0, .ref (a 0)), (1, .int (nI (h)))]) hx hb dX10_couldBe_42 hl (k := 3) rfl (ii1_N _) (by decide) rfl (fun ls hl => ?_)
            refine lv_goto (tgt := 4) hx hb dX10_couldBe_45 (by decide) ?_
            exact ih4 (0) (k + 1) (by omega) (by omega) (by first | exact cb_0 (P := (fun k => decide (shM I h (I 22 k) = I 23 k))) hbb c13 | exact cb_1 (P := (fun k => decide (shM I h (I 22 k) = I 23 k))) (df c33) | exact cb_2 (P := (fun k => decide (shM I h (I 22 k) = I 23 k))) hbb c13 (dt c33)) ls _ _ (lv_sub hl [2, 3, 1, 0] rfl) hP hD hS
          · refine lv_iconst (v := nI (1)) hx hb dX10_couldBe_36 (by decide) ?_
            refine lv_goto (tgt := 41) hx hb dX10_couldBe_37 (by decide) ?_
            refine lv_istore_n (lv' := [(2, .int (nI (1))), (0, .ref (a 0)), (1, .int (nI (h))), (3, .int (nI (k)))]) hx hb dX10_couldBe_41 rfl hl (by decide) rfl (fun ls hl => ?_)
            refine lv_iinc (v := nI (k + 1)) (lv' := [(3, .int (nI (k + 1))), (2, .int (nI (1))), (0, .ref (a 0)), (1, .int (nI (h)))]) hx hb dX10_couldBe_42 hl (k := 3) rfl (ii1_N _) (by decide) rfl (fun ls hl => ?_)
            refine lv_goto (tgt := 4) hx hb dX10_couldBe_45 (by decide) ?_
            exact ih4 (1) (k + 1) (by omega) (by omega) (by first | exact cb_0 (P := (fun k => decide (shM I h (I 22 k) = I 23 k))) hbb c13 | exact cb_1 (P := (fun k => decide (shM I h (I 22 k) = I 23 k))) (df c33) | exact cb_2 (P := (fun k => decide (shM I h (I 22 k) = I 23 k))) hbb c13 (dt c33)) ls _ _ (lv_sub hl [2, 3, 1, 0] rfl) hP hD hS
  exact loop4 (_ + 1) (1) (0) (Nat.lt_succ_self _) (by omega) rfl ls _ _ (lv_sub hl [2, 3, 1, 0] rfl) hP hD hS

set_option maxHeartbeats 4000000 in
set_option maxRecDepth 100000 in
theorem ct_X10_unlike (l : Launch) (E : cE) (a : Nat → Nat) (I : Nat → Nat → Nat) (tr : Int64) (w t : Nat) (hI : KM I) (hm64 : w < 64) (ht : t < 96) : Ct l E 2 yX10_unlike cX10_unlike 7 (some .int) [.ref (a 0), .int (nI (w)), .int (nI (t))] (WM E a I tr) (some (.int (nI (ulM (fun u => shM I u t) w (I 2 0))))) (WM E a I tr) := by
  refine Ct_of (plainFor_of_name (by decide)) (Nat.le_of_ble_eq_true rfl) ?_
  intro p e s m args below meth c A ls hE hP hD hS hl
  have hE : cEnv p s m args meth c E RX10 cX10_unlike 7 (some .int) A := hE
  have hx := hE.1
  have hb := hE.2.1
  have hl : lv_has ls 7 [(0, .ref (a 0)), (1, .int (nI (w))), (2, .int (nI (t)))] := hl
  have hP : va_P E.1 vwCl (WM E a I tr) s.heap := hP
  generalize hH : s.heap = H at hP hS ⊢
  have hS : va_S A s.heap H [] := by rw [hH]; exact hS
  clear hH
  have hc6 := hI.1
  refine lv_iconst (v := nI (0)) hx hb dX10_unlike_0 (by decide) ?_
  refine lv_istore_n (lv' := [(3, .int (nI (0))), (0, .ref (a 0)), (1, .int (nI (w))), (2, .int (nI (t)))]) hx hb dX10_unlike_1 rfl hl (by decide) rfl (fun ls hl => ?_)
  refine lv_iconst (v := nI (0)) hx hb dX10_unlike_2 (by decide) ?_
  refine lv_istore (lv' := [(4, .int (nI (0))), (3, .int (nI (0))), (0, .ref (a 0)), (1, .int (nI (w))), (2, .int (nI (t)))]) hx hb dX10_unlike_3 hl (by decide) rfl (fun ls hl => ?_)
  have loop5 : ∀ (fu5 : Nat) (k : Nat) (h : Nat), I 2 0 - h < fu5 → (h ≤ I 2 0) → (k = ulM (fun u => shM I u t) w h) → ∀ (ls : Array Slot) (H : Heap) (locs : List Loc), lv_has ls 7 [(0, .ref (a 0)), (1, .int (nI (w))), (2, .int (nI (t))), (3, .int (nI (k))), (4, .int (nI (h)))] → va_P E.1 vwCl (WM E a I tr) H → va_D A (WM E a I tr) → va_S A s.heap H locs → W p l e (rmL 2) s m args below meth c H locs 0 0 (RQ E below args s A (some (.int (nI (ulM (fun u => shM I u t) w (I 2 0))))) (WM E a I tr)) (F0 m 5 ls []) := by
    intro fu5
    induction fu5 with
    | zero => intro k h h; exact absurd h (Nat.not_lt_zero _)
    | succ fu5 ih5 =>
      intro k h hfu5 hh hk ls H locs hl hP hD hS
      have hul := ulM_le (fun u => shM I u t) w h
      have hsd : w / 2 ^ h ≤ w := Nat.div_le_self _ _
      refine lv_iload hx hb dX10_unlike_5 (lv_at hl 4 rfl) ?_
      refine lv_aload_n hx hb dX10_unlike_7 rfl (lv_at hl 0 rfl) ?_
      refine gf_X10_13 hE hP (0) (gM_0 E a I tr) (v := .ref (a 2)) rfl dX10_unlike_8 ?_
      refine lv_iconst (v := nI (0)) hx hb dX10_unlike_11 (by decide) ?_
      refine ald_i hE hP (2) (gM_2 E a I tr) (by omega) (by decide) (r := nI (I (2) (0))) rfl dX10_unlike_12 ?_
      refine bN_ge (tgt := 106) hx hb (by omega) (by omega) dX10_unlike_13 (by decide) (fun c13 => ?_) (fun c13 => ?_)
      · refine lv_iload_n hx hb dX10_unlike_106 rfl (lv_at hl 3 rfl) ?_
        exact ret_i hE (r := nI (k)) (by rw [hk, show h = I 2 0 by omega]) hP hD hS dX10_unlike_107
      · refine lv_iload_n hx hb dX10_unlike_16 rfl (lv_at hl 1 rfl) ?_
        refine lv_iload hx hb dX10_unlike_17 (lv_at hl 4 rfl) ?_
        refine lv_ishr hx hb dX10_unlike_19 ?_
        refine tp (nI_shr (by omega) (by omega)) ?_
        refine lv_iconst (v := nI (1)) hx hb dX10_unlike_20 (by decide) ?_
        refine lv_iand hx hb dX10_unlike_21 ?_
        refine tp (nI_and1 (by omega)) ?_
        refine lv_iconst (v := nI (1)) hx hb dX10_unlike_22 (by decide) ?_
        refine bN_ne (tgt := 30) hx hb (by omega) (by omega) dX10_unlike_23 (by decide) (fun c23 => ?_) (fun c23 => ?_)
        · refine lv_iconst (v := nI (0)) hx hb dX10_unlike_30 (by decide) ?_
          refine lv_istore (lv' := [(5, .int (nI (0))), (0, .ref (a 0)), (1, .int (nI (w))), (2, .int (nI (t))), (3, .int (nI (k))), (4, .int (nI (h)))]) hx hb dX10_unlike_31 hl (by decide) rfl (fun ls hl => ?_)
          refine lv_iconst (v := nI (0)) hx hb dX10_unlike_33 (by decide) ?_
          refine lv_istore (lv' := [(6, .int (nI (0))), (5, .int (nI (0))), (0, .ref (a 0)), (1, .int (nI (w))), (2, .int (nI (t))), (3, .int (nI (k))), (4, .int (nI (h)))]) hx hb dX10_unlike_34 hl (by decide) rfl (fun ls hl => ?_)
          have loop36 : ∀ (fu36 : Nat) (b : Nat) (o : Nat), h - o < fu36 → (o ≤ h) → (b = bN1 (fsB (fun u => shM I u t) w h o)) → ∀ (ls : Array Slot) (H : Heap) (locs : List Loc), lv_has ls 7 [(0, .ref (a 0)), (1, .int (nI (w))), (2, .int (nI (t))), (3, .int (nI (k))), (4, .int (nI (h))), (5, .int (nI (b))), (6, .int (nI (o)))] → va_P E.1 vwCl (WM E a I tr) H → va_D A (WM E a I tr) → va_S A s.heap H locs → W p l e (rmL 2) s m args below meth c H locs 0 0 (RQ E below args s A (some (.int (nI (ulM (fun u => shM I u t) w (I 2 0))))) (WM E a I tr)) (F0 m 36 ls []) := by
            intro fu36
            induction fu36 with
            | zero => intro b o h; exact absurd h (Nat.not_lt_zero _)
            | succ fu36 ih36 =>
              intro b o hfu36 ho hbb ls H locs hl hP hD hS
              have hsd2 : w / 2 ^ o ≤ w := Nat.div_le_self _ _
              have hb1 := bN1_le (fsB (fun u => shM I u t) w h o)
              rw [← hbb] at hb1
              refine lv_iload hx hb dX10_unlike_36 (lv_at hl 6 rfl) ?_
              refine lv_iload hx hb dX10_unlike_38 (lv_at hl 4 rfl) ?_
              refine bN_ge (tgt := 87) hx hb (by omega) (by omega) dX10_unlike_40 (by decide) (fun c40 => ?_) (fun c40 => ?_)
              · refine lv_iload_n hx hb dX10_unlike_87 rfl (lv_at hl 3 rfl) ?_
                refine lv_iload hx hb dX10_unlike_88 (lv_at hl 5 rfl) ?_
                refine bZ_eq (tgt := 97) hx hb (by omega) dX10_unlike_90 (by decide) (fun c90 => ?_) (fun c90 => ?_)
                · refine lv_iconst (v := nI (0)) hx hb dX10_unlike_97 (by decide) ?_
                  refine lv_iadd hx hb dX10_unlike_98 ?_
                  refine tp (y := nI (k)) (nI_add _ _) ?_
                  refine lv_istore_n (lv' := [(3, .int (nI (k))), (0, .ref (a 0)), (1, .int (nI (w))), (2, .int (nI (t))), (4, .int (nI (h))), (5, .int (nI (b))), (6, .int (nI (o)))]) hx hb dX10_unlike_99 rfl hl (by decide) rfl (fun ls hl => ?_)
                  refine lv_iinc (v := nI (h + 1)) (lv' := [(4, .int (nI (h + 1))), (3, .int (nI (k))), (0, .ref (a 0)), (1, .int (nI (w))), (2, .int (nI (t))), (5, .int (nI (b))), (6, .int (nI (o)))]) hx hb dX10_unlike_100 hl (k := 4) rfl (ii1_N _) (by decide) rfl (fun ls hl => ?_)
                  refine lv_goto (tgt := 5) hx hb dX10_unlike_103 (by decide) ?_
                  exact ih5 (k) (h + 1) (by omega) (by omega) (by have ho2 : o = h := (by omega); rw [ho2] at hbb; rw [ulM, ← hk, ← hbb]; omega) ls _ _ (lv_sub hl [2, 3, 4, 1, 0] rfl) hP hD hS
                · refine lv_iconst (v := nI (1)) hx hb dX10_unlike_93 (by decide) ?_
                  refine lv_goto (tgt := 98) hx hb dX10_unlike_94 (by decide) ?_
                  refine lv_iadd hx hb dX10_unlike_98 ?_
                  refine tp (nI_add _ _) ?_
                  refine lv_istore_n (lv' := [(3, .int (nI (k + 1))), (0, .ref (a 0)), (1, .int (nI (w))), (2, .int (nI (t))), (4, .int (nI (h))), (5, .int (nI (b))), (6, .int (nI (o)))]) hx hb dX10_unlike_99 rfl hl (by decide) rfl (fun ls hl => ?_)
                  refine lv_iinc (v := nI (h + 1)) (lv' := [(4, .int (nI (h + 1))), (3, .int (nI (k + 1))), (0, .ref (a 0)), (1, .int (nI (w))), (2, .int (nI (t))), (5, .int (nI (b))), (6, .int (nI (o)))]) hx hb dX10_unlike_100 hl (k := 4) rfl (ii1_N _) (by decide) rfl (fun ls hl => ?_)
                  refine lv_goto (tgt := 5) hx hb dX10_unlike_103 (by decide) ?_
                  exact ih5 (k + 1) (h + 1) (by omega) (by omega) (by have ho2 : o = h := (by omega); rw [ho2] at hbb; rw [ulM, ← hk, ← hbb]; omega) ls _ _ (lv_sub hl [2, 3, 4, 1, 0] rfl) hP hD hS
              · refine lv_iload hx hb dX10_unlike_43 (lv_at hl 5 rfl) ?_
                refine bZ_eq (tgt := 78) hx hb (by omega) dX10_unlike_45 (by decide) (fun c45 => ?_) (fun c45 => ?_)
                · refine lv_iconst (v := nI (0)) hx hb dX10_unlike_78 (by decide) ?_
                  refine lv_istore (lv' := [(5, .int (nI (0))), (0, .ref (a 0)), (1, .int (nI (w))), (2, .int (nI (t))), (3, .int (nI (k))), (4, .int (nI (h))), (6, .int (nI (o)))]) hx hb dX10_unlike_79 hl (by decide) rfl (fun ls hl => ?_)
                  refine lv_iinc (v := nI (o + 1)) (lv' := [(6, .int (nI (o + 1))), (5, .int (nI (0))), (0, .ref (a 0)), (1, .int (nI (w))), (2, .int (nI (t))), (3, .int (nI (k))), (4, .int (nI (h)))]) hx hb dX10_unlike_81 hl (k := 6) rfl (ii1_N _) (by decide) rfl (fun ls hl => ?_)
                  refine lv_goto (tgt := 36) hx hb dX10_unlike_84 (by decide) ?_
                  exact ih36 (0) (o + 1) (by omega) (by omega) (by first | exact fs_0 hbb c45 | exact fs_1 hbb c45 (fun z => by omega)) ls _ _ (lv_sub hl [2, 3, 4, 5, 6, 1, 0] rfl) hP hD hS
                · refine lv_iload_n hx hb dX10_unlike_48 rfl (lv_at hl 1 rfl) ?_
                  refine lv_iload hx hb dX10_unlike_49 (lv_at hl 6 rfl) ?_
                  refine lv_ishr hx hb dX10_unlike_51 ?_
                  refine tp (nI_shr (by omega) (by omega)) ?_
                  refine lv_iconst (v := nI (1)) hx hb dX10_unlike_52 (by decide) ?_
                  refine lv_iand hx hb dX10_unlike_53 ?_
                  refine tp (nI_and1 (by omega)) ?_
                  refine bZ_eq (tgt := 74) hx hb (by omega) dX10_unlike_54 (by decide) (fun c54 => ?_) (fun c54 => ?_)
                  · refine lv_iconst (v := nI (1)) hx hb dX10_unlike_74 (by decide) ?_
                    refine lv_goto (tgt := 79) hx hb dX10_unlike_75 (by decide) ?_
                    refine lv_istore (lv' := [(5, .int (nI (1))), (0, .ref (a 0)), (1, .int (nI (w))), (2, .int (nI (t))), (3, .int (nI (k))), (4, .int (nI (h))), (6, .int (nI (o)))]) hx hb dX10_unlike_79 hl (by decide) rfl (fun ls hl => ?_)
                    refine lv_iinc (v := nI (o + 1)) (lv' := [(6, .int (nI (o + 1))), (5, .int (nI (1))), (0, .ref (a 0)), (1, .int (nI (w))), (2, .int (nI (t))), (3, .int (nI (k))), (4, .int (nI (h)))]) hx hb dX10_unlike_81 hl (k := 6) rfl (ii1_N _) (by decide) rfl (fun ls hl => ?_)
                    refine lv_goto (tgt := 36) hx hb dX10_unlike_84 (by decide) ?_
                    exact ih36 (1) (o + 1) (by omega) (by omega) (by first | exact fs_0 hbb c45 | exact fs_1 hbb c45 (fun z => by omega)) ls _ _ (lv_sub hl [2, 3, 4, 5, 6, 1, 0] rfl) hP hD hS
                  · refine lv_aload_n hx hb dX10_unlike_57 rfl (lv_at hl 0 rfl) ?_
                    refine lv_iload hx hb dX10_unlike_58 (lv_at hl 6 rfl) ?_
                    refine lv_iload_n hx hb dX10_unlike_60 rfl (lv_at hl 2 rfl) ?_
                    refine call_V (As := [.int (nI (o)), .int (nI (t))]) (rest := []) hE (ct_X10_shown l E a I tr (o) (t) hI (by omega) (by omega)) cm_X10_shown (uw mt_L_X10_135 rfl) (gM_0 E a I tr) rfl rfl hP hD hS hl.1 rfl rfl (Nat.le_of_ble_eq_true rfl) ⟨by decide, by decide⟩ dX10_unlike_61 (fun H locs hP hD hS => ?_)
                    refine W.eq (g2 := F0 m 64 ls [.int (nI (shM I (o) (t)))]) rfl ?_
                    have hs1 := shM_lt I (o) (t)
                    refine lv_aload_n hx hb dX10_unlike_64 rfl (lv_at hl 0 rfl) ?_
                    refine lv_iload hx hb dX10_unlike_65 (lv_at hl 4 rfl) ?_
                    refine lv_iload_n hx hb dX10_unlike_67 rfl (lv_at hl 2 rfl) ?_
                    refine call_V (As := [.int (nI (h)), .int (nI (t))]) (rest := [.int (nI (shM I (o) (t)))]) hE (ct_X10_shown l E a I tr (h) (t) hI (by omega) (by omega)) cm_X10_shown (uw mt_L_X10_135 rfl) (gM_0 E a I tr) rfl rfl hP hD hS hl.1 rfl rfl (Nat.le_of_ble_eq_true rfl) ⟨by decide, by decide⟩ dX10_unlike_68 (fun H locs hP hD hS => ?_)
                    refine W.eq (g2 := F0 m 71 ls [.int (nI (shM I (h) (t))), .int (nI (shM I (o) (t)))]) rfl ?_
                    have hs2 := shM_lt I (h) (t)
                    refine bN_eq (tgt := 78) hx hb (by omega) (by omega) dX10_unlike_71 (by decide) (fun c71 => ?_) (fun c71 => ?_)
                    · refine lv_iconst (v := nI (0)) hx hb dX10_unlike_78 (by decide) ?_
                      refine lv_istore (lv' := [(5, .int (nI (0))), (0, .ref (a 0)), (1, .int (nI (w))), (2, .int (nI (t))), (3, .int (nI (k))), (4, .int (nI (h))), (6, .int (nI (o)))]) hx hb dX10_unlike_79 hl (by decide) rfl (fun ls hl => ?_)
                      refine lv_iinc (v := nI (o + 1)) (lv' := [(6, .int (nI (o + 1))), (5, .int (nI (0))), (0, .ref (a 0)), (1, .int (nI (w))), (2, .int (nI (t))), (3, .int (nI (k))), (4, .int (nI (h)))]) hx hb dX10_unlike_81 hl (k := 6) rfl (ii1_N _) (by decide) rfl (fun ls hl => ?_)
                      refine lv_goto (tgt := 36) hx hb dX10_unlike_84 (by decide) ?_
                      exact ih36 (0) (o + 1) (by omega) (by omega) (by first | exact fs_0 hbb c45 | exact fs_1 hbb c45 (fun z => by omega) | exact fs_1 hbb c45 (fun z => c71 z.2) | exact fs_2 (by omega) c71) ls _ _ (lv_sub hl [2, 3, 4, 5, 6, 1, 0] rfl) hP hD hS
                    · refine lv_iconst (v := nI (1)) hx hb dX10_unlike_74 (by decide) ?_
                      refine lv_goto (tgt := 79) hx hb dX10_unlike_75 (by decide) ?_
                      refine lv_istore (lv' := [(5, .int (nI (1))), (0, .ref (a 0)), (1, .int (nI (w))), (2, .int (nI (t))), (3, .int (nI (k))), (4, .int (nI (h))), (6, .int (nI (o)))]) hx hb dX10_unlike_79 hl (by decide) rfl (fun ls hl => ?_)
                      refine lv_iinc (v := nI (o + 1)) (lv' := [(6, .int (nI (o + 1))), (5, .int (nI (1))), (0, .ref (a 0)), (1, .int (nI (w))), (2, .int (nI (t))), (3, .int (nI (k))), (4, .int (nI (h)))]) hx hb dX10_unlike_81 hl (k := 6) rfl (ii1_N _) (by decide) rfl (fun ls hl => ?_)
                      refine lv_goto (tgt := 36) hx hb dX10_unlike_84 (by decide) ?_
                      exact ih36 (1) (o + 1) (by omega) (by omega) (by first | exact fs_0 hbb c45 | exact fs_1 hbb c45 (fun z => by omega) | exact fs_1 hbb c45 (fun z => c71 z.2) | exact fs_2 (by omega) c71) ls _ _ (lv_sub hl [2, 3, 4, 5, 6, 1, 0] rfl) hP hD hS
          exact loop36 (_ + 1) (0) (0) (Nat.lt_succ_self _) (by omega) (by first | exact fs_t c23 | exact fs_f c23) ls _ _ (lv_sub hl [2, 3, 4, 5, 6, 1, 0] rfl) hP hD hS
        · refine lv_iconst (v := nI (1)) hx hb dX10_unlike_26 (by decide) ?_
          refine lv_goto (tgt := 31) hx hb dX10_unlike_27 (by decide) ?_
          refine lv_istore (lv' := [(5, .int (nI (1))), (0, .ref (a 0)), (1, .int (nI (w))), (2, .int (nI (t))), (3, .int (nI (k))), (4, .int (nI (h)))]) hx hb dX10_unlike_31 hl (by decide) rfl (fun ls hl => ?_)
          refine lv_iconst (v := nI (0)) hx hb dX10_unlike_33 (by decide) ?_
          refine lv_istore (lv' := [(6, .int (nI (0))), (5, .int (nI (1))), (0, .ref (a 0)), (1, .int (nI (w))), (2, .int (nI (t))), (3, .int (nI (k))), (4, .int (nI (h)))]) hx hb dX10_unlike_34 hl (by decide) rfl (fun ls hl => ?_)
          have loop36 : ∀ (fu36 : Nat) (b : Nat) (o : Nat), h - o < fu36 → (o ≤ h) → (b = bN1 (fsB (fun u => shM I u t) w h o)) → ∀ (ls : Array Slot) (H : Heap) (locs : List Loc), lv_has ls 7 [(0, .ref (a 0)), (1, .int (nI (w))), (2, .int (nI (t))), (3, .int (nI (k))), (4, .int (nI (h))), (5, .int (nI (b))), (6, .int (nI (o)))] → va_P E.1 vwCl (WM E a I tr) H → va_D A (WM E a I tr) → va_S A s.heap H locs → W p l e (rmL 2) s m args below meth c H locs 0 0 (RQ E below args s A (some (.int (nI (ulM (fun u => shM I u t) w (I 2 0))))) (WM E a I tr)) (F0 m 36 ls []) := by
            intro fu36
            induction fu36 with
            | zero => intro b o h; exact absurd h (Nat.not_lt_zero _)
            | succ fu36 ih36 =>
              intro b o hfu36 ho hbb ls H locs hl hP hD hS
              have hsd2 : w / 2 ^ o ≤ w := Nat.div_le_self _ _
              have hb1 := bN1_le (fsB (fun u => shM I u t) w h o)
              rw [← hbb] at hb1
              refine lv_iload hx hb dX10_unlike_36 (lv_at hl 6 rfl) ?_
              refine lv_iload hx hb dX10_unlike_38 (lv_at hl 4 rfl) ?_
              refine bN_ge (tgt := 87) hx hb (by omega) (by omega) dX10_unlike_40 (by decide) (fun c40 => ?_) (fun c40 => ?_)
              · refine lv_iload_n hx hb dX10_unlike_87 rfl (lv_at hl 3 rfl) ?_
                refine lv_iload hx hb dX10_unlike_88 (lv_at hl 5 rfl) ?_
                refine bZ_eq (tgt := 97) hx hb (by omega) dX10_unlike_90 (by decide) (fun c90 => ?_) (fun c90 => ?_)
                · refine lv_iconst (v := nI (0)) hx hb dX10_unlike_97 (by decide) ?_
                  refine lv_iadd hx hb dX10_unlike_98 ?_
                  refine tp (y := nI (k)) (nI_add _ _) ?_
                  refine lv_istore_n (lv' := [(3, .int (nI (k))), (0, .ref (a 0)), (1, .int (nI (w))), (2, .int (nI (t))), (4, .int (nI (h))), (5, .int (nI (b))), (6, .int (nI (o)))]) hx hb dX10_unlike_99 rfl hl (by decide) rfl (fun ls hl => ?_)
                  refine lv_iinc (v := nI (h + 1)) (lv' := [(4, .int (nI (h + 1))), (3, .int (nI (k))), (0, .ref (a 0)), (1, .int (nI (w))), (2, .int (nI (t))), (5, .int (nI (b))), (6, .int (nI (o)))]) hx hb dX10_unlike_100 hl (k := 4) rfl (ii1_N _) (by decide) rfl (fun ls hl => ?_)
                  refine lv_goto (tgt := 5) hx hb dX10_unlike_103 (by decide) ?_
                  exact ih5 (k) (h + 1) (by omega) (by omega) (by have ho2 : o = h := (by omega); rw [ho2] at hbb; rw [ulM, ← hk, ← hbb]; omega) ls _ _ (lv_sub hl [2, 3, 4, 1, 0] rfl) hP hD hS
                · refine lv_iconst (v := nI (1)) hx hb dX10_unlike_93 (by decide) ?_
                  refine lv_goto (tgt := 98) hx hb dX10_unlike_94 (by decide) ?_
                  refine lv_iadd hx hb dX10_unlike_98 ?_
                  refine tp (nI_add _ _) ?_
                  refine lv_istore_n (lv' := [(3, .int (nI (k + 1))), (0, .ref (a 0)), (1, .int (nI (w))), (2, .int (nI (t))), (4, .int (nI (h))), (5, .int (nI (b))), (6, .int (nI (o)))]) hx hb dX10_unlike_99 rfl hl (by decide) rfl (fun ls hl => ?_)
                  refine lv_iinc (v := nI (h + 1)) (lv' := [(4, .int (nI (h + 1))), (3, .int (nI (k + 1))), (0, .ref (a 0)), (1, .int (nI (w))), (2, .int (nI (t))), (5, .int (nI (b))), (6, .int (nI (o)))]) hx hb dX10_unlike_100 hl (k := 4) rfl (ii1_N _) (by decide) rfl (fun ls hl => ?_)
                  refine lv_goto (tgt := 5) hx hb dX10_unlike_103 (by decide) ?_
                  exact ih5 (k + 1) (h + 1) (by omega) (by omega) (by have ho2 : o = h := (by omega); rw [ho2] at hbb; rw [ulM, ← hk, ← hbb]; omega) ls _ _ (lv_sub hl [2, 3, 4, 1, 0] rfl) hP hD hS
              · refine lv_iload hx hb dX10_unlike_43 (lv_at hl 5 rfl) ?_
                refine bZ_eq (tgt := 78) hx hb (by omega) dX10_unlike_45 (by decide) (fun c45 => ?_) (fun c45 => ?_)
                · refine lv_iconst (v := nI (0)) hx hb dX10_unlike_78 (by decide) ?_
                  refine lv_istore (lv' := [(5, .int (nI (0))), (0, .ref (a 0)), (1, .int (nI (w))), (2, .int (nI (t))), (3, .int (nI (k))), (4, .int (nI (h))), (6, .int (nI (o)))]) hx hb dX10_unlike_79 hl (by decide) rfl (fun ls hl => ?_)
                  refine lv_iinc (v := nI (o + 1)) (lv' := [(6, .int (nI (o + 1))), (5, .int (nI (0))), (0, .ref (a 0)), (1, .int (nI (w))), (2, .int (nI (t))), (3, .int (nI (k))), (4, .int (nI (h)))]) hx hb dX10_unlike_81 hl (k := 6) rfl (ii1_N _) (by decide) rfl (fun ls hl => ?_)
                  refine lv_goto (tgt := 36) hx hb dX10_unlike_84 (by decide) ?_
                  exact ih36 (0) (o + 1) (by omega) (by omega) (by first | exact fs_0 hbb c45 | exact fs_1 hbb c45 (fun z => by omega)) ls _ _ (lv_sub hl [2, 3, 4, 5, 6, 1, 0] rfl) hP hD hS
                · refine lv_iload_n hx hb dX10_unlike_48 rfl (lv_at hl 1 rfl) ?_
                  refine lv_iload hx hb dX10_unlike_49 (lv_at hl 6 rfl) ?_
                  refine lv_ishr hx hb dX10_unlike_51 ?_
                  refine tp (nI_shr (by omega) (by omega)) ?_
                  refine lv_iconst (v := nI (1)) hx hb dX10_unlike_52 (by decide) ?_
                  refine lv_iand hx hb dX10_unlike_53 ?_
                  refine tp (nI_and1 (by omega)) ?_
                  refine bZ_eq (tgt := 74) hx hb (by omega) dX10_unlike_54 (by decide) (fun c54 => ?_) (fun c54 => ?_)
                  · refine lv_iconst (v := nI (1)) hx hb dX10_unlike_74 (by decide) ?_
                    refine lv_goto (tgt := 79) hx hb dX10_unlike_75 (by decide) ?_
                    refine lv_istore (lv' := [(5, .int (nI (1))), (0, .ref (a 0)), (1, .int (nI (w))), (2, .int (nI (t))), (3, .int (nI (k))), (4, .int (nI (h))), (6, .int (nI (o)))]) hx hb dX10_unlike_79 hl (by decide) rfl (fun ls hl => ?_)
                    refine lv_iinc (v := nI (o + 1)) (lv' := [(6, .int (nI (o + 1))), (5, .int (nI (1))), (0, .ref (a 0)), (1, .int (nI (w))), (2, .int (nI (t))), (3, .int (nI (k))), (4, .int (nI (h)))]) hx hb dX10_unlike_81 hl (k := 6) rfl (ii1_N _) (by decide) rfl (fun ls hl => ?_)
                    refine lv_goto (tgt := 36) hx hb dX10_unlike_84 (by decide) ?_
                    exact ih36 (1) (o + 1) (by omega) (by omega) (by first | exact fs_0 hbb c45 | exact fs_1 hbb c45 (fun z => by omega)) ls _ _ (lv_sub hl [2, 3, 4, 5, 6, 1, 0] rfl) hP hD hS
                  · refine lv_aload_n hx hb dX10_unlike_57 rfl (lv_at hl 0 rfl) ?_
                    refine lv_iload hx hb dX10_unlike_58 (lv_at hl 6 rfl) ?_
                    refine lv_iload_n hx hb dX10_unlike_60 rfl (lv_at hl 2 rfl) ?_
                    refine call_V (As := [.int (nI (o)), .int (nI (t))]) (rest := []) hE (ct_X10_shown l E a I tr (o) (t) hI (by omega) (by omega)) cm_X10_shown (uw mt_L_X10_135 rfl) (gM_0 E a I tr) rfl rfl hP hD hS hl.1 rfl rfl (Nat.le_of_ble_eq_true rfl) ⟨by decide, by decide⟩ dX10_unlike_61 (fun H locs hP hD hS => ?_)
                    refine W.eq (g2 := F0 m 64 ls [.int (nI (shM I (o) (t)))]) rfl ?_
                    have hs3 := shM_lt I (o) (t)
                    refine lv_aload_n hx hb dX10_unlike_64 rfl (lv_at hl 0 rfl) ?_
                    refine lv_iload hx hb dX10_unlike_65 (lv_at hl 4 rfl) ?_
                    refine lv_iload_n hx hb dX10_unlike_67 rfl (lv_at hl 2 rfl) ?_
                    refine call_V (As := [.int (nI (h)), .int (nI (t))]) (rest := [.int (nI (shM I (o) (t)))]) hE (ct_X10_shown l E a I tr (h) (t) hI (by omega) (by omega)) cm_X10_shown (uw mt_L_X10_135 rfl) (gM_0 E a I tr) rfl rfl hP hD hS hl.1 rfl rfl (Nat.le_of_ble_eq_true rfl) ⟨by decide, by decide⟩ dX10_unlike_68 (fun H locs hP hD hS => ?_)
                    refine W.eq (g2 := F0 m 71 ls [.int (nI (shM I (h) (t))), .int (nI (shM I (o) (t)))]) rfl ?_
                    have hs4 := shM_lt I (h) (t)
                    refine bN_eq (tgt := 78) hx hb (by omega) (by omega) dX10_unlike_71 (by decide) (fun c71 => ?_) (fun c71 => ?_)
                    · refine lv_iconst (v := nI (0)) hx hb dX10_unlike_78 (by decide) ?_
                      refine lv_istore (lv' := [(5, .int (nI (0))), (0, .ref (a 0)), (1, .int (nI (w))), (2, .int (nI (t))), (3, .int (nI (k))), (4, .int (nI (h))), (6, .int (nI (o)))]) hx hb dX10_unlike_79 hl (by decide) rfl (fun ls hl => ?_)
                      refine lv_iinc (v := nI (o + 1)) (lv' := [(6, .int (nI (o + 1))), (5, .int (nI (0))), (0, .ref (a 0)), (1, .int (nI (w))), (2, .int (nI (t))), (3, .int (nI (k))), (4, .int (nI (h)))]) hx hb dX10_unlike_81 hl (k := 6) rfl (ii1_N _) (by decide) rfl (fun ls hl => ?_)
                      refine lv_goto (tgt := 36) hx hb dX10_unlike_84 (by decide) ?_
                      exact ih36 (0) (o + 1) (by omega) (by omega) (by first | exact fs_0 hbb c45 | exact fs_1 hbb c45 (fun z => by omega) | exact fs_1 hbb c45 (fun z => c71 z.2) | exact fs_2 (by omega) c71) ls _ _ (lv_sub hl [2, 3, 4, 5, 6, 1, 0] rfl) hP hD hS
                    · refine lv_iconst (v := nI (1)) hx hb dX10_unlike_74 (by decide) ?_
                      refine lv_goto (tgt := 79) hx hb dX10_unlike_75 (by decide) ?_
                      refine lv_istore (lv' := [(5, .int (nI (1))), (0, .ref (a 0)), (1, .int (nI (w))), (2, .int (nI (t))), (3, .int (nI (k))), (4, .int (nI (h))), (6, .int (nI (o)))]) hx hb dX10_unlike_79 hl (by decide) rfl (fun ls hl => ?_)
                      refine lv_iinc (v := nI (o + 1)) (lv' := [(6, .int (nI (o + 1))), (5, .int (nI (1))), (0, .ref (a 0)), (1, .int (nI (w))), (2, .int (nI (t))), (3, .int (nI (k))), (4, .int (nI (h)))]) hx hb dX10_unlike_81 hl (k := 6) rfl (ii1_N _) (by decide) rfl (fun ls hl => ?_)
                      refine lv_goto (tgt := 36) hx hb dX10_unlike_84 (by decide) ?_
                      exact ih36 (1) (o + 1) (by omega) (by omega) (by first | exact fs_0 hbb c45 | exact fs_1 hbb c45 (fun z => by omega) | exact fs_1 hbb c45 (fun z => c71 z.2) | exact fs_2 (by omega) c71) ls _ _ (lv_sub hl [2, 3, 4, 5, 6, 1, 0] rfl) hP hD hS
          exact loop36 (_ + 1) (1) (0) (Nat.lt_succ_self _) (by omega) (by first | exact fs_t c23 | exact fs_f c23) ls _ _ (lv_sub hl [2, 3, 4, 5, 6, 1, 0] rfl) hP hD hS
  exact loop5 (_ + 1) (0) (0) (Nat.lt_succ_self _) (by omega) rfl ls _ _ (lv_sub hl [2, 3, 4, 1, 0] rfl) hP hD hS

set_option maxHeartbeats 4000000 in
set_option maxRecDepth 100000 in
theorem ct_X10_whose (l : Launch) (E : cE) (a : Nat → Nat) (I : Nat → Nat → Nat) (tr : Int64) (zp0 : Int32) (hI : KM I) (hW : WKJ I) : Ct l E 3 yX10_whose cX10_whose 7 (some .int) [.ref (a 0), .int (zp0)] (WM E a I tr) (some (.int (r_whose (btU (fun h => cdB (shM I h) (I 22) (I 23) (I 24 0)) (I 2 0)) (fun t => ulM (fun u => shM I u t) (btU (fun h => cdB (shM I h) (I 22) (I 23) (I 24 0)) (I 2 0)) (I 2 0)) zp0))) (WM E a I tr) := by
  refine Ct_of (plainFor_of_name (by decide)) (Nat.le_of_ble_eq_true rfl) ?_
  intro p e s m args below meth c A ls hE hP hD hS hl
  have hE : cEnv p s m args meth c E RX10 cX10_whose 7 (some .int) A := hE
  have hx := hE.1
  have hb := hE.2.1
  have hl : lv_has ls 7 [(0, .ref (a 0)), (1, .int (zp0))] := hl
  have hP : va_P E.1 vwCl (WM E a I tr) s.heap := hP
  generalize hH : s.heap = H at hP hS ⊢
  have hS : va_S A s.heap H [] := by rw [hH]; exact hS
  clear hH
  have hc6 := hI.1
  refine lv_iload_n hx hb dX10_whose_0 rfl (lv_at hl 1 rfl) ?_
  refine lv_iconst (v := nI (0)) hx hb dX10_whose_1 (by decide) ?_
  refine lv_iconst (v := nI (2)) hx hb dX10_whose_2 (by decide) ?_
  refine call_S (As := [.int (zp0), .int (nI (0)), .int (nI (2))]) (rest := []) hE (ct_X10_in l E (WM E a I tr) ((zp0)) (nI (0)) (nI (2))) cm_X10_in (uw mt_L_X10_63 rfl) hP hD hS hl.1 rfl rfl (Nat.le_of_ble_eq_true rfl) ⟨by decide, by decide⟩ dX10_whose_3 (fun H locs hP hD hS => ?_)
  refine W.eq (g2 := F0 m 6 ls [.int (bB (wi ((zp0)) (nI (0)) (nI (2))))]) rfl ?_
  refine bB_ne (tgt := 11) hx hb dX10_whose_6 (by decide) (fun c6 => ?_) (fun c6 => ?_)
  · obtain ⟨j, qj1, qj2, rfl⟩ := wi_of (by decide) (by decide) c6
    have kj : tn (nI j) = j := tn_nI (by omega)
    refine lv_iconst (v := nI (0)) hx hb dX10_whose_11 (by decide) ?_
    refine lv_istore_n (lv' := [(2, .int (nI (0))), (0, .ref (a 0)), (1, .int (nI (j)))]) hx hb dX10_whose_12 rfl hl (by decide) rfl (fun ls hl => ?_)
    refine lv_iconst (v := nI (0)) hx hb dX10_whose_13 (by decide) ?_
    refine lv_istore_n (lv' := [(3, .int (nI (0))), (2, .int (nI (0))), (0, .ref (a 0)), (1, .int (nI (j)))]) hx hb dX10_whose_14 rfl hl (by decide) rfl (fun ls hl => ?_)
    have loop15 : ∀ (fu15 : Nat) (w : Nat) (h : Nat), I 2 0 - h < fu15 → (h ≤ I 2 0) → (w = btU (fun h => cdB (shM I h) (I 22) (I 23) (I 24 0)) h) → (w < 64) → ∀ (ls : Array Slot) (H : Heap) (locs : List Loc), lv_has ls 7 [(0, .ref (a 0)), (1, .int (nI (j))), (2, .int (nI (w))), (3, .int (nI (h)))] → va_P E.1 vwCl (WM E a I tr) H → va_D A (WM E a I tr) → va_S A s.heap H locs → W p l e (rmL 3) s m args below meth c H locs 0 0 (RQ E below args s A (some (.int (r_whose (btU (fun h => cdB (shM I h) (I 22) (I 23) (I 24 0)) (I 2 0)) (fun t => ulM (fun u => shM I u t) (btU (fun h => cdB (shM I h) (I 22) (I 23) (I 24 0)) (I 2 0)) (I 2 0)) (nI j)))) (WM E a I tr)) (F0 m 15 ls []) := by
      intro fu15
      induction fu15 with
      | zero => intro w h h; exact absurd h (Nat.not_lt_zero _)
      | succ fu15 ih15 =>
        intro w h hfu15 hh hs hm64 ls H locs hl hP hD hS
        refine lv_iload_n hx hb dX10_whose_15 rfl (lv_at hl 3 rfl) ?_
        refine lv_aload_n hx hb dX10_whose_16 rfl (lv_at hl 0 rfl) ?_
        refine gf_X10_13 hE hP (0) (gM_0 E a I tr) (v := .ref (a 2)) rfl dX10_whose_17 ?_
        refine lv_iconst (v := nI (0)) hx hb dX10_whose_20 (by decide) ?_
        refine ald_i hE hP (2) (gM_2 E a I tr) (by omega) (by decide) (r := nI (I (2) (0))) rfl dX10_whose_21 ?_
        refine bN_ge (tgt := 49) hx hb (by omega) (by omega) dX10_whose_22 (by decide) (fun c22 => ?_) (fun c22 => ?_)
        · have hmW : w = (btU (fun h => cdB (shM I h) (I 22) (I 23) (I 24 0)) (I 2 0)) := by rw [hs, show h = I 2 0 by omega]
          refine lv_iload_n hx hb dX10_whose_49 rfl (lv_at hl 1 rfl) ?_
          refine bZ_ne (tgt := 55) hx hb (by omega) dX10_whose_50 (by decide) (fun c50 => ?_) (fun c50 => ?_)
          · refine lv_iload_n hx hb dX10_whose_55 rfl (lv_at hl 2 rfl) ?_
            refine lv_iload_n hx hb dX10_whose_56 rfl (lv_at hl 2 rfl) ?_
            refine lv_iconst (v := nI (1)) hx hb dX10_whose_57 (by decide) ?_
            refine lv_isub hx hb dX10_whose_58 ?_
            refine lv_iand hx hb dX10_whose_59 ?_
            refine lv_if_ne (tgt := 66) hx hb dX10_whose_60 (by decide) (fun c60 => ?_) (fun c60 => ?_)
            · have hp2 : ¬ pc w < 2 := fun z => c60 ((pc2I w hm64).mpr z)
              have hU0 : 0 < (fun t => ulM (fun u => shM I u t) w (I 2 0)) 0 := ul_pos (s := w) (by rw [hmW]; exact btU_lt _ _) hp2
              refine lv_bipush (v := (-9)) hx hb dX10_whose_66 (by decide) ?_
              refine tp (show (-9 : Int32) = rN 0 by decide) ?_
              refine lv_istore_n (lv' := [(3, .int (rN (0))), (0, .ref (a 0)), (1, .int (nI (j))), (2, .int (nI (w)))]) hx hb dX10_whose_68 rfl hl (by decide) rfl (fun ls hl => ?_)
              refine lv_iconst (v := nI (0)) hx hb dX10_whose_69 (by decide) ?_
              refine lv_istore (lv' := [(4, .int (nI (0))), (3, .int (rN (0))), (0, .ref (a 0)), (1, .int (nI (j))), (2, .int (nI (w)))]) hx hb dX10_whose_70 hl (by decide) rfl (fun ls hl => ?_)
              refine lv_iconst (v := nI (0)) hx hb dX10_whose_72 (by decide) ?_
              refine lv_istore (lv' := [(5, .int (nI (0))), (4, .int (nI (0))), (3, .int (rN (0))), (0, .ref (a 0)), (1, .int (nI (j))), (2, .int (nI (w)))]) hx hb dX10_whose_73 hl (by decide) rfl (fun ls hl => ?_)
              have loop75 : ∀ (fu75 : Nat) (q : Nat) (k : Nat) (t : Nat), 96 - t < fu75 → (t ≤ 96) → (q = if t = 0 then 0 else (mq (fun t => ulM (fun u => shM I u t) w (I 2 0)) t).1 + 9) → (k = (mq (fun t => ulM (fun u => shM I u t) w (I 2 0)) t).2) → (q ≤ 105) → (k ≤ 6) → ∀ (ls : Array Slot) (H : Heap) (locs : List Loc), lv_has ls 7 [(0, .ref (a 0)), (1, .int (nI (j))), (2, .int (nI (w))), (3, .int (rN (q))), (4, .int (nI (k))), (5, .int (nI (t)))] → va_P E.1 vwCl (WM E a I tr) H → va_D A (WM E a I tr) → va_S A s.heap H locs → W p l e (rmL 3) s m args below meth c H locs 0 0 (RQ E below args s A (some (.int (r_whose (btU (fun h => cdB (shM I h) (I 22) (I 23) (I 24 0)) (I 2 0)) (fun t => ulM (fun u => shM I u t) (btU (fun h => cdB (shM I h) (I 22) (I 23) (I 24 0)) (I 2 0)) (I 2 0)) (nI j)))) (WM E a I tr)) (F0 m 75 ls []) := by
                intro fu75
                induction fu75 with
                | zero => intro q k t h; exact absurd h (Nat.not_lt_zero _)
                | succ fu75 ih75 =>
                  intro q k t hfu75 ht hq hk hq2 hk2 ls H locs hl hP hD hS
                  refine lv_iload hx hb dX10_whose_75 (lv_at hl 5 rfl) ?_
                  refine lv_bipush (v := nI (95)) hx hb dX10_whose_77 (by decide) ?_
                  refine bN_gt (tgt := 127) hx hb (by omega) (by omega) dX10_whose_79 (by decide) (fun c79 => ?_) (fun c79 => ?_)
                  · refine lv_iload_n hx hb dX10_whose_127 rfl (lv_at hl 1 rfl) ?_
                    refine lv_iconst (v := nI (1)) hx hb dX10_whose_128 (by decide) ?_
                    refine bN_ne (tgt := 136) hx hb (by omega) (by omega) dX10_whose_129 (by decide) (fun c129 => ?_) (fun c129 => ?_)
                    · refine lv_iload hx hb dX10_whose_136 (lv_at hl 4 rfl) ?_
                      exact ret_i hE (r := nI (k)) (by have h96 : t = 96 := (by omega); rw [h96] at hq hk; simp only [r_whose, c6, cond_true]; rw [if_neg (fun z => absurd ((nI_eq (by omega) (by decide)).mp z) (by omega)), ← hmW, if_neg hp2, if_neg (fun z => absurd ((nI_eq (by omega) (by decide)).mp z) (by omega)), hk, mq_2 96 (mq_pos hU0 95)]) hP hD hS dX10_whose_138
                    · refine lv_iload_n hx hb dX10_whose_132 rfl (lv_at hl 3 rfl) ?_
                      refine lv_goto (tgt := 138) hx hb dX10_whose_133 (by decide) ?_
                      exact ret_i hE (r := rN (q)) (by have h96 : t = 96 := (by omega); rw [h96] at hq hk; simp only [r_whose, c6, cond_true]; rw [if_neg (fun z => absurd ((nI_eq (by omega) (by decide)).mp z) (by omega)), ← hmW, if_neg hp2, if_pos (show nI j = nI 1 by rw [c129]), hq, if_neg (by decide), rN_9]) hP hD hS dX10_whose_138
                  · refine lv_aload_n hx hb dX10_whose_82 rfl (lv_at hl 0 rfl) ?_
                    refine lv_iload_n hx hb dX10_whose_83 rfl (lv_at hl 2 rfl) ?_
                    refine lv_iload hx hb dX10_whose_84 (lv_at hl 5 rfl) ?_
                    refine call_V (As := [.int (nI (w)), .int (nI (t))]) (rest := []) hE (ct_X10_unlike l E a I tr (w) (t) hI (by omega) (by omega)) cm_X10_unlike (uw mt_L_X10_161 rfl) (gM_0 E a I tr) rfl rfl hP hD hS hl.1 rfl rfl (Nat.le_of_ble_eq_true rfl) ⟨by decide, by decide⟩ dX10_whose_86 (fun H locs hP hD hS => ?_)
                    refine W.eq (g2 := F0 m 89 ls [.int (nI (ulM (fun u => shM I u (t)) (w) (I 2 0)))]) rfl ?_
                    have hu1 := ulM_le (fun u => shM I u (t)) (w) (I 2 0)
                    refine lv_istore (lv' := [(6, .int (nI (ulM (fun u => shM I u (t)) (w) (I 2 0)))), (0, .ref (a 0)), (1, .int (nI (j))), (2, .int (nI (w))), (3, .int (rN (q))), (4, .int (nI (k))), (5, .int (nI (t)))]) hx hb dX10_whose_89 hl (by decide) rfl (fun ls hl => ?_)
                    refine lv_iload hx hb dX10_whose_91 (lv_at hl 0 rfl) ?_
                    refine lv_iload hx hb dX10_whose_93 (lv_at hl 5 rfl) ?_
                    refine bN_le (tgt := 103) hx hb (by omega) (by omega) dX10_whose_95 (by decide) (fun c95 => ?_) (fun c95 => ?_)
                    · refine lv_iload_n hx hb dX10_whose_103 rfl (lv_at hl 4 rfl) ?_
                      refine lv_istore_n (lv' := [(3, .int (rN (q))), (6, .int (nI (ulM (fun u => shM I u (t)) (w) (I 2 0)))), (0, .ref (a 0)), (1, .int (nI (j))), (2, .int (nI (w))), (4, .int (nI (k))), (5, .int (nI (t)))]) hx hb dX10_whose_104 rfl hl (by decide) rfl (fun ls hl => ?_)
                      refine lv_iload hx hb dX10_whose_105 (lv_at hl 1 rfl) ?_
                      refine lv_iload hx hb dX10_whose_107 (lv_at hl 5 rfl) ?_
                      refine bN_le (tgt := 117) hx hb (by omega) (by omega) dX10_whose_109 (by decide) (fun c109 => ?_) (fun c109 => ?_)
                      · refine lv_iload hx hb dX10_whose_117 (lv_at hl 5 rfl) ?_
                        refine lv_istore (lv' := [(4, .int (nI (k))), (3, .int (rN (q))), (6, .int (nI (ulM (fun u => shM I u (t)) (w) (I 2 0)))), (0, .ref (a 0)), (1, .int (nI (j))), (2, .int (nI (w))), (5, .int (nI (t)))]) hx hb dX10_whose_119 hl (by decide) rfl (fun ls hl => ?_)
                        refine lv_iinc (v := nI (t + 1)) (lv' := [(5, .int (nI (t + 1))), (4, .int (nI (k))), (3, .int (rN (q))), (6, .int (nI (ulM (fun u => shM I u (t)) (w) (I 2 0)))), (0, .ref (a 0)), (1, .int (nI (j))), (2, .int (nI (w)))]) hx hb dX10_whose_121 hl (k := 6) rfl (ii1_N _) (by decide) rfl (fun ls hl => ?_)
                        refine lv_goto (tgt := 75) hx hb dX10_whose_124 (by decide) ?_
                        exact ih75 (q) (k) (t + 1) (by omega) (by omega) (by rw [if_neg (Nat.succ_ne_zero t)]; first | exact ((mq_k hU0 hq hk).1 c95).1 | exact ((mq_k hU0 hq hk).2 c95).1) (by first | exact ((mq_k hU0 hq hk).1 c109).2 | exact ((mq_k hU0 hq hk).2 c109).2) (by omega) (by omega) ls _ _ (lv_sub hl [4, 5, 6, 2, 1, 0] rfl) hP hD hS
                      · refine lv_iload hx hb dX10_whose_112 (lv_at hl 1 rfl) ?_
                        refine lv_goto (tgt := 119) hx hb dX10_whose_114 (by decide) ?_
                        refine lv_istore (lv' := [(4, .int (nI (ulM (fun u => shM I u (t)) (w) (I 2 0)))), (3, .int (rN (q))), (6, .int (nI (ulM (fun u => shM I u (t)) (w) (I 2 0)))), (0, .ref (a 0)), (1, .int (nI (j))), (2, .int (nI (w))), (5, .int (nI (t)))]) hx hb dX10_whose_119 hl (by decide) rfl (fun ls hl => ?_)
                        refine lv_iinc (v := nI (t + 1)) (lv' := [(5, .int (nI (t + 1))), (4, .int (nI (ulM (fun u => shM I u (t)) (w) (I 2 0)))), (3, .int (rN (q))), (6, .int (nI (ulM (fun u => shM I u (t)) (w) (I 2 0)))), (0, .ref (a 0)), (1, .int (nI (j))), (2, .int (nI (w)))]) hx hb dX10_whose_121 hl (k := 6) rfl (ii1_N _) (by decide) rfl (fun ls hl => ?_)
                        refine lv_goto (tgt := 75) hx hb dX10_whose_124 (by decide) ?_
                        exact ih75 (q) (ulM (fun u => shM I u (t)) (w) (I 2 0)) (t + 1) (by omega) (by omega) (by rw [if_neg (Nat.succ_ne_zero t)]; first | exact ((mq_k hU0 hq hk).1 c95).1 | exact ((mq_k hU0 hq hk).2 c95).1) (by first | exact ((mq_k hU0 hq hk).1 c109).2 | exact ((mq_k hU0 hq hk).2 c109).2) (by omega) (by omega) ls _ _ (lv_sub hl [4, 5, 6, 2, 1, 0] rfl) hP hD hS
                    · refine lv_iload hx hb dX10_whose_98 (lv_at hl 6 rfl) ?_
                      refine tp (rN_9 (t)).symm ?_
                      refine lv_goto (tgt := 104) hx hb dX10_whose_100 (by decide) ?_
                      refine lv_istore_n (lv' := [(3, .int (rN (t + 9))), (6, .int (nI (ulM (fun u => shM I u (t)) (w) (I 2 0)))), (0, .ref (a 0)), (1, .int (nI (j))), (2, .int (nI (w))), (4, .int (nI (k))), (5, .int (nI (t)))]) hx hb dX10_whose_104 rfl hl (by decide) rfl (fun ls hl => ?_)
                      refine lv_iload hx hb dX10_whose_105 (lv_at hl 1 rfl) ?_
                      refine lv_iload hx hb dX10_whose_107 (lv_at hl 5 rfl) ?_
                      refine bN_le (tgt := 117) hx hb (by omega) (by omega) dX10_whose_109 (by decide) (fun c109 => ?_) (fun c109 => ?_)
                      · refine lv_iload hx hb dX10_whose_117 (lv_at hl 5 rfl) ?_
                        refine lv_istore (lv' := [(4, .int (nI (k))), (3, .int (rN (t + 9))), (6, .int (nI (ulM (fun u => shM I u (t)) (w) (I 2 0)))), (0, .ref (a 0)), (1, .int (nI (j))), (2, .int (nI (w))), (5, .int (nI (t)))]) hx hb dX10_whose_119 hl (by decide) rfl (fun ls hl => ?_)
                        refine lv_iinc (v := nI (t + 1)) (lv' := [(5, .int (nI (t + 1))), (4, .int (nI (k))), (3, .int (rN (t + 9))), (6, .int (nI (ulM (fun u => shM I u (t)) (w) (I 2 0)))), (0, .ref (a 0)), (1, .int (nI (j))), (2, .int (nI (w)))]) hx hb dX10_whose_121 hl (k := 6) rfl (ii1_N _) (by decide) rfl (fun ls hl => ?_)
                        refine lv_goto (tgt := 75) hx hb dX10_whose_124 (by decide) ?_
                        exact ih75 (t + 9) (k) (t + 1) (by omega) (by omega) (by rw [if_neg (Nat.succ_ne_zero t)]; first | exact ((mq_k hU0 hq hk).1 c95).1 | exact ((mq_k hU0 hq hk).2 c95).1) (by first | exact ((mq_k hU0 hq hk).1 c109).2 | exact ((mq_k hU0 hq hk).2 c109).2) (by omega) (by omega) ls _ _ (lv_sub hl [4, 5, 6, 2, 1, 0] rfl) hP hD hS
                      · refine lv_iload hx hb dX10_whose_112 (lv_at hl 1 rfl) ?_
                        refine lv_goto (tgt := 119) hx hb dX10_whose_114 (by decide) ?_
                        refine lv_istore (lv' := [(4, .int (nI (ulM (fun u => shM I u (t)) (w) (I 2 0)))), (3, .int (rN (t + 9))), (6, .int (nI (ulM (fun u => shM I u (t)) (w) (I 2 0)))), (0, .ref (a 0)), (1, .int (nI (j))), (2, .int (nI (w))), (5, .int (nI (t)))]) hx hb dX10_whose_119 hl (by decide) rfl (fun ls hl => ?_)
                        refine lv_iinc (v := nI (t + 1)) (lv' := [(5, .int (nI (t + 1))), (4, .int (nI (ulM (fun u => shM I u (t)) (w) (I 2 0)))), (3, .int (rN (t + 9))), (6, .int (nI (ulM (fun u => shM I u (t)) (w) (I 2 0)))), (0, .ref (a 0)), (1, .int (nI (j))), (2, .int (nI (w)))]) hx hb dX10_whose_121 hl (k := 6) rfl (ii1_N _) (by decide) rfl (fun ls hl => ?_)
                        refine lv_goto (tgt := 75) hx hb dX10_whose_124 (by decide) ?_
                        exact ih75 (t + 9) (ulM (fun u => shM I u (t)) (w) (I 2 0)) (t + 1) (by omega) (by omega) (by rw [if_neg (Nat.succ_ne_zero t)]; first | exact ((mq_k hU0 hq hk).1 c95).1 | exact ((mq_k hU0 hq hk).2 c95).1) (by first | exact ((mq_k hU0 hq hk).1 c109).2 | exact ((mq_k hU0 hq hk).2 c109).2) (by omega) (by omega) ls _ _ (lv_sub hl [4, 5, 6, 2, 1, 0] rfl) hP hD hS
              exact loop75 (_ + 1) (0) (0) (0) (Nat.lt_succ_self _) (by omega) rfl rfl (by omega) (by omega) ls _ _ (lv_sub hl [3, 4, 5, 2, 1, 0] rfl) hP hD hS
            · refine lv_bipush (v := (-9)) hx hb dX10_whose_63 (by decide) ?_
              exact ret_i hE (r := (-9)) (by simp only [r_whose, c6, cond_true]; rw [if_neg (fun z => absurd ((nI_eq (by omega) (by decide)).mp z) (by omega)), ← hmW, if_pos ((pc2I w hm64).mp c60)]) hP hD hS dX10_whose_65
          · refine lv_iload_n hx hb dX10_whose_53 rfl (lv_at hl 2 rfl) ?_
            exact ret_i hE (r := nI (w)) (by simp only [r_whose, c6, cond_true]; rw [if_pos (show nI j = nI 0 by rw [c50]), hmW]) hP hD hS dX10_whose_54
        · refine lv_iload_n hx hb dX10_whose_25 rfl (lv_at hl 2 rfl) ?_
          refine lv_aload_n hx hb dX10_whose_26 rfl (lv_at hl 0 rfl) ?_
          refine lv_iload_n hx hb dX10_whose_27 rfl (lv_at hl 3 rfl) ?_
          refine call_V (As := [.int (nI (h))]) (rest := [.int (nI (w))]) hE (ct_X10_couldBe l E a I tr (h) hI hW (by omega)) cm_X10_couldBe (uw mt_L_X10_158 rfl) (gM_0 E a I tr) rfl rfl hP hD hS hl.1 rfl rfl (Nat.le_of_ble_eq_true rfl) ⟨by decide, by decide⟩ dX10_whose_28 (fun H locs hP hD hS => ?_)
          refine W.eq (g2 := F0 m 31 ls [.int (bB (cdB (shM I (h)) (I 22) (I 23) (I 24 0))), .int (nI (w))]) rfl ?_
          refine bB_eq (tgt := 40) hx hb dX10_whose_31 (by decide) (fun c31 => ?_) (fun c31 => ?_)
          · refine lv_iconst (v := nI (0)) hx hb dX10_whose_40 (by decide) ?_
            refine lv_ior hx hb dX10_whose_41 ?_
            refine tp nI_or ?_
            refine lv_istore_n (lv' := [(2, .int (nI ((w) ||| (0)))), (0, .ref (a 0)), (1, .int (nI (j))), (3, .int (nI (h)))]) hx hb dX10_whose_42 rfl hl (by decide) rfl (fun ls hl => ?_)
            refine lv_iinc (v := nI (h + 1)) (lv' := [(3, .int (nI (h + 1))), (2, .int (nI ((w) ||| (0)))), (0, .ref (a 0)), (1, .int (nI (j)))]) hx hb dX10_whose_43 hl (k := 3) rfl (ii1_N _) (by decide) rfl (fun ls hl => ?_)
            refine lv_goto (tgt := 15) hx hb dX10_whose_46 (by decide) ?_
            exact ih15 ((w) ||| (0)) (h + 1) (by omega) (by omega) (by first | rw [btU_t (P := (fun h => cdB (shM I h) (I 22) (I 23) (I 24 0))) c31, ← hs] | rw [btU_f (P := (fun h => cdB (shM I h) (I 22) (I 23) (I 24 0))) c31, ← hs, Nat.or_zero]) (by first | exact or_lt (k := 6) hm64 (pow_lt6 h (by omega)) | (rw [Nat.or_zero]; exact hm64)) ls _ _ (lv_sub hl [2, 3, 1, 0] rfl) hP hD hS
          · refine lv_iconst (v := nI (1)) hx hb dX10_whose_34 (by decide) ?_
            refine lv_iload_n hx hb dX10_whose_35 rfl (lv_at hl 3 rfl) ?_
            refine lv_ishl hx hb dX10_whose_36 ?_
            refine tp (nI_pow (k := h) (by omega)) ?_
            refine lv_goto (tgt := 41) hx hb dX10_whose_37 (by decide) ?_
            refine lv_ior hx hb dX10_whose_41 ?_
            refine tp nI_or ?_
            refine lv_istore_n (lv' := [(2, .int (nI ((w) ||| (2 ^ (h))))), (0, .ref (a 0)), (1, .int (nI (j))), (3, .int (nI (h)))]) hx hb dX10_whose_42 rfl hl (by decide) rfl (fun ls hl => ?_)
            refine lv_iinc (v := nI (h + 1)) (lv' := [(3, .int (nI (h + 1))), (2, .int (nI ((w) ||| (2 ^ (h))))), (0, .ref (a 0)), (1, .int (nI (j)))]) hx hb dX10_whose_43 hl (k := 3) rfl (ii1_N _) (by decide) rfl (fun ls hl => ?_)
            refine lv_goto (tgt := 15) hx hb dX10_whose_46 (by decide) ?_
            exact ih15 ((w) ||| (2 ^ (h))) (h + 1) (by omega) (by omega) (by first | rw [btU_t (P := (fun h => cdB (shM I h) (I 22) (I 23) (I 24 0))) c31, ← hs] | rw [btU_f (P := (fun h => cdB (shM I h) (I 22) (I 23) (I 24 0))) c31, ← hs, Nat.or_zero]) (by first | exact or_lt (k := 6) hm64 (pow_lt6 h (by omega)) | (rw [Nat.or_zero]; exact hm64)) ls _ _ (lv_sub hl [2, 3, 1, 0] rfl) hP hD hS
    exact loop15 (_ + 1) (0) (0) (Nat.lt_succ_self _) (by omega) rfl (by omega) ls _ _ (lv_sub hl [2, 3, 1, 0] rfl) hP hD hS
  · refine lv_iconst (v := (-1)) hx hb dX10_whose_9 (by decide) ?_
    exact ret_i hE (r := (-1)) (by simp only [r_whose, c6, cond_false]) hP hD hS dX10_whose_10

set_option maxHeartbeats 4000000 in
set_option maxRecDepth 100000 in
theorem ct_X10_aged (l : Launch) (E : cE) (a : Nat → Nat) (I : Nat → Nat → Nat) (tr : Int64) (zp0 zp1 zp2 : Int32) (hI : KM I) : Ct l E 2 yX10_aged cX10_aged 8 (some .int) [.ref (a 0), .int (zp0), .int (zp1), .int (zp2)] (WM E a I tr) (some (.int (r_aged (I 2 0) (fun u t => t * I 5 u / I 6 u) zp0 zp1 zp2))) (WM E a I tr) := by
  refine Ct_of (plainFor_of_name (by decide)) (Nat.le_of_ble_eq_true rfl) ?_
  intro p e s m args below meth c A ls hE hP hD hS hl
  have hE : cEnv p s m args meth c E RX10 cX10_aged 8 (some .int) A := hE
  have hx := hE.1
  have hb := hE.2.1
  have hl : lv_has ls 8 [(0, .ref (a 0)), (1, .int (zp0)), (2, .int (zp1)), (3, .int (zp2))] := hl
  have hP : va_P E.1 vwCl (WM E a I tr) s.heap := hP
  generalize hH : s.heap = H at hP hS ⊢
  have hS : va_S A s.heap H [] := by rw [hH]; exact hS
  clear hH
  have hc6 := hI.1
  refine lv_iload_n hx hb dX10_aged_0 rfl (lv_at hl 1 rfl) ?_
  refine lv_iconst (v := (-1)) hx hb dX10_aged_1 (by decide) ?_
  refine lv_icmp_eq (tgt := 13) hx hb dX10_aged_2 (by decide) (fun c2 => ?_) (fun c2 => ?_)
  · subst c2
    refine lv_iload_n hx hb dX10_aged_13 rfl (lv_at hl 2 rfl) ?_
    refine call_S (As := [.int (zp1)]) (rest := []) hE (ct_X10_isQuarter l E (WM E a I tr) ((zp1))) cm_X10_isQuarter (uw mt_L_X10_132 rfl) hP hD hS hl.1 rfl rfl (Nat.le_of_ble_eq_true rfl) ⟨by decide, by decide⟩ dX10_aged_14 (fun H locs hP hD hS => ?_)
    refine W.eq (g2 := F0 m 17 ls [.int (bB (inB ((zp1)) 96))]) rfl ?_
    refine bB_eq (tgt := 30) hx hb dX10_aged_17 (by decide) (fun c17 => ?_) (fun c17 => ?_)
    · refine lv_iconst (v := (-1)) hx hb dX10_aged_30 (by decide) ?_
      exact ret_i hE (r := (-1)) (by first | (exact congrArg (fun x => some (Value.int x)) (r_aged_b1 c17); done)) hP hD hS dX10_aged_31
    · obtain ⟨x, qx, rfl⟩ := inB_t (by omega) c17
      have kx : tn (nI x) = x := tn_nI (by omega)
      refine lv_iload_n hx hb dX10_aged_20 rfl (lv_at hl 3 rfl) ?_
      refine lv_iload_n hx hb dX10_aged_21 rfl (lv_at hl 2 rfl) ?_
      refine lv_bipush (v := nI (95)) hx hb dX10_aged_22 (by decide) ?_
      refine call_S (As := [.int (zp2), .int (nI (x)), .int (nI (95))]) (rest := []) hE (ct_X10_in l E (WM E a I tr) ((zp2)) (nI (x)) (nI (95))) cm_X10_in (uw mt_L_X10_63 rfl) hP hD hS hl.1 rfl rfl (Nat.le_of_ble_eq_true rfl) ⟨by decide, by decide⟩ dX10_aged_24 (fun H locs hP hD hS => ?_)
      refine W.eq (g2 := F0 m 27 ls [.int (bB (wi ((zp2)) (nI (x)) (nI (95))))]) rfl ?_
      refine bB_ne (tgt := 32) hx hb dX10_aged_27 (by decide) (fun c27 => ?_) (fun c27 => ?_)
      · have hyy : ∃ y, x ≤ y ∧ y ≤ 95 ∧ zp2 = nI y := wi_of (by omega) (by decide) c27
        obtain ⟨y, hxy, hy95, rfl⟩ := hyy
        have ky : tn (nI y) = y := tn_nI (by omega)
        have iy : inB (nI y) 96 = true := inB_nI (by omega) (by decide)
        refine lv_iload_n hx hb dX10_aged_32 rfl (lv_at hl 1 rfl) ?_
        refine lv_if_lt (tgt := 50) hx hb dX10_aged_33 (by decide) (fun c33 => ?_) (fun c33 => ?_)
        · refine lv_bipush (v := (-9)) hx hb dX10_aged_50 (by decide) ?_
          refine tp (show (-9 : Int32) = rN 0 by decide) ?_
          refine lv_istore (lv' := [(4, .int (rN (0))), (0, .ref (a 0)), (1, .int (-1)), (2, .int (nI (x))), (3, .int (nI (y)))]) hx hb dX10_aged_52 hl (by decide) rfl (fun ls hl => ?_)
          refine lv_iconst (v := (-1)) hx hb dX10_aged_54 (by decide) ?_
          refine tp (show (-1 : Int32) = rN 8 by decide) ?_
          refine lv_istore (lv' := [(5, .int (rN (8))), (4, .int (rN (0))), (0, .ref (a 0)), (1, .int (-1)), (2, .int (nI (x))), (3, .int (nI (y)))]) hx hb dX10_aged_55 hl (by decide) rfl (fun ls hl => ?_)
          refine lv_iconst (v := nI (0)) hx hb dX10_aged_57 (by decide) ?_
          refine lv_istore (lv' := [(6, .int (nI (0))), (5, .int (rN (8))), (4, .int (rN (0))), (0, .ref (a 0)), (1, .int (-1)), (2, .int (nI (x))), (3, .int (nI (y)))]) hx hb dX10_aged_58 hl (by decide) rfl (fun ls hl => ?_)
          have loop60 : ∀ (fu60 : Nat) (be : Nat) (k : Nat) (h : Nat), I 2 0 - h < fu60 → (h ≤ I 2 0) → (be = (eld (fun u => y * I 5 u / I 6 u - x * I 5 u / I 6 u) h).1) → (k = (eld (fun u => y * I 5 u / I 6 u - x * I 5 u / I 6 u) h).2 + 8) → (be ≤ 20) → (k ≤ 1000) → ∀ (ls : Array Slot) (H : Heap) (locs : List Loc), lv_has ls 8 [(0, .ref (a 0)), (2, .int (nI (x))), (3, .int (nI (y))), (4, .int (rN (be))), (5, .int (rN (k))), (6, .int (nI (h)))] → va_P E.1 vwCl (WM E a I tr) H → va_D A (WM E a I tr) → va_S A s.heap H locs → W p l e (rmL 2) s m args below meth c H locs 0 0 (RQ E below args s A (some (.int (r_aged (I 2 0) (fun u t => t * I 5 u / I 6 u) (-1) (nI x) (nI y)))) (WM E a I tr)) (F0 m 60 ls []) := by
            intro fu60
            induction fu60 with
            | zero => intro be k h h; exact absurd h (Nat.not_lt_zero _)
            | succ fu60 ih60 =>
              intro be k h hfu60 hh hbb hk hbe hk2 ls H locs hl hP hD hS
              refine lv_iload hx hb dX10_aged_60 (lv_at hl 5 rfl) ?_
              refine lv_aload_n hx hb dX10_aged_62 rfl (lv_at hl 0 rfl) ?_
              refine gf_X10_13 hE hP (0) (gM_0 E a I tr) (v := .ref (a 2)) rfl dX10_aged_63 ?_
              refine lv_iconst (v := nI (0)) hx hb dX10_aged_66 (by decide) ?_
              refine ald_i hE hP (2) (gM_2 E a I tr) (by omega) (by decide) (r := nI (I (2) (0))) rfl dX10_aged_67 ?_
              refine bN_ge (tgt := 126) hx hb (by omega) (by omega) dX10_aged_68 (by decide) (fun c68 => ?_) (fun c68 => ?_)
              · refine lv_iload hx hb dX10_aged_126 (lv_at hl 3 rfl) ?_
                exact ret_i hE (r := rN (be)) (by simp only [r_aged, c17, iy, kx, ky, cond_true]; rw [if_pos hxy, if_pos trivial, hbb, show h = I 2 0 by omega]) hP hD hS dX10_aged_128
              · have hmn : x * I 5 h / I 6 h ≤ y * I 5 h / I 6 h := Nat.div_le_div_right (Nat.mul_le_mul_right _ hxy)
                refine lv_aload_n hx hb dX10_aged_71 rfl (lv_at hl 0 rfl) ?_
                refine lv_iload hx hb dX10_aged_72 (lv_at hl 5 rfl) ?_
                refine lv_iload_n hx hb dX10_aged_74 rfl (lv_at hl 2 rfl) ?_
                refine call_V (As := [.int (nI (h)), .int (nI (y))]) (rest := []) hE (ct_X10_lived l E a I tr (h) (y) hI (by omega) (by omega)) cm_X10_lived (uw mt_L_X10_129 rfl) (gM_0 E a I tr) rfl rfl hP hD hS hl.1 rfl rfl (Nat.le_of_ble_eq_true rfl) ⟨by decide, by decide⟩ dX10_aged_75 (fun H locs hP hD hS => ?_)
                refine W.eq (g2 := F0 m 78 ls [.int (nI ((y) * I 5 (h) / I 6 (h)))]) rfl ?_
                have hl1q : (y) * I 5 (h) ≤ 95 * 9 := Nat.mul_le_mul (show (y) ≤ 95 by omega) (hI.2.2.2.1 (h) (by omega)).2.1
                have hl1 : (y) * I 5 (h) / I 6 (h) ≤ 855 := Nat.le_trans (Nat.div_le_self _ _) hl1q
                refine lv_aload_n hx hb dX10_aged_78 rfl (lv_at hl 0 rfl) ?_
                refine lv_iload hx hb dX10_aged_79 (lv_at hl 5 rfl) ?_
                refine lv_iload_n hx hb dX10_aged_81 rfl (lv_at hl 1 rfl) ?_
                refine call_V (As := [.int (nI (h)), .int (nI (x))]) (rest := [.int (nI ((y) * I 5 (h) / I 6 (h)))]) hE (ct_X10_lived l E a I tr (h) (x) hI (by omega) (by omega)) cm_X10_lived (uw mt_L_X10_129 rfl) (gM_0 E a I tr) rfl rfl hP hD hS hl.1 rfl rfl (Nat.le_of_ble_eq_true rfl) ⟨by decide, by decide⟩ dX10_aged_82 (fun H locs hP hD hS => ?_)
                refine W.eq (g2 := F0 m 85 ls [.int (nI ((x) * I 5 (h) / I 6 (h))), .int (nI ((y) * I 5 (h) / I 6 (h)))]) rfl ?_
                have hl2q : (x) * I 5 (h) ≤ 95 * 9 := Nat.mul_le_mul (show (x) ≤ 95 by omega) (hI.2.2.2.1 (h) (by omega)).2.1
                have hl2 : (x) * I 5 (h) / I 6 (h) ≤ 855 := Nat.le_trans (Nat.div_le_self _ _) hl2q
                refine lv_isub hx hb dX10_aged_85 ?_
                refine tp (pk_sub (by omega)) ?_
                have hgl : y * I 5 h / I 6 h - x * I 5 h / I 6 h ≤ 855 := Nat.le_trans (Nat.sub_le _ _) (Nat.le_trans (Nat.div_le_self _ _) (Nat.mul_le_mul hy95 (hI.2.2.2.1 h (by omega)).2.1))
                refine lv_istore (lv' := [(7, .int (nI ((y) * I 5 (h) / I 6 (h) - ((x) * I 5 (h) / I 6 (h))))), (0, .ref (a 0)), (2, .int (nI (x))), (3, .int (nI (y))), (4, .int (rN (be))), (5, .int (rN (k))), (6, .int (nI (h)))]) hx hb dX10_aged_86 hl (by decide) rfl (fun ls hl => ?_)
                refine lv_iload hx hb dX10_aged_88 (lv_at hl 0 rfl) ?_
                refine lv_iload hx hb dX10_aged_90 (lv_at hl 5 rfl) ?_
                refine tp2 (rN_9 ((y) * I 5 (h) / I 6 (h) - ((x) * I 5 (h) / I 6 (h)))).symm ?_
                refine bQ_le (tgt := 100) hx hb (by omega) (by omega) dX10_aged_92 (by decide) (fun c92 => ?_) (fun c92 => ?_)
                · refine lv_iload hx hb dX10_aged_100 (lv_at hl 4 rfl) ?_
                  refine lv_istore (lv' := [(4, .int (rN (be))), (7, .int (nI ((y) * I 5 (h) / I 6 (h) - ((x) * I 5 (h) / I 6 (h))))), (0, .ref (a 0)), (2, .int (nI (x))), (3, .int (nI (y))), (5, .int (rN (k))), (6, .int (nI (h)))]) hx hb dX10_aged_102 hl (by decide) rfl (fun ls hl => ?_)
                  refine lv_iload hx hb dX10_aged_104 (lv_at hl 1 rfl) ?_
                  refine lv_iload hx hb dX10_aged_106 (lv_at hl 5 rfl) ?_
                  refine tp2 (rN_9 ((y) * I 5 (h) / I 6 (h) - ((x) * I 5 (h) / I 6 (h)))).symm ?_
                  refine bQ_le (tgt := 116) hx hb (by omega) (by omega) dX10_aged_108 (by decide) (fun c108 => ?_) (fun c108 => ?_)
                  · refine lv_iload hx hb dX10_aged_116 (lv_at hl 5 rfl) ?_
                    refine lv_istore (lv' := [(5, .int (rN (k))), (4, .int (rN (be))), (7, .int (nI ((y) * I 5 (h) / I 6 (h) - ((x) * I 5 (h) / I 6 (h))))), (0, .ref (a 0)), (2, .int (nI (x))), (3, .int (nI (y))), (6, .int (nI (h)))]) hx hb dX10_aged_118 hl (by decide) rfl (fun ls hl => ?_)
                    refine lv_iinc (v := nI (h + 1)) (lv' := [(6, .int (nI (h + 1))), (5, .int (rN (k))), (4, .int (rN (be))), (7, .int (nI ((y) * I 5 (h) / I 6 (h) - ((x) * I 5 (h) / I 6 (h))))), (0, .ref (a 0)), (2, .int (nI (x))), (3, .int (nI (y)))]) hx hb dX10_aged_120 hl (k := 6) rfl (ii1_N _) (by decide) rfl (fun ls hl => ?_)
                    refine lv_goto (tgt := 60) hx hb dX10_aged_123 (by decide) ?_
                    exact ih60 (be) (k) (h + 1) (by omega) (by omega) (by first | exact ((eld_k hbb hk).1 c92).1 | exact ((eld_k hbb hk).2 c92).1) (by first | exact ((eld_k hbb hk).1 c108).2 | exact ((eld_k hbb hk).2 c108).2) (by omega) (by omega) ls _ _ (lv_sub hl [4, 5, 6, 2, 1, 0] rfl) hP hD hS
                  · refine lv_iload hx hb dX10_aged_111 (lv_at hl 1 rfl) ?_
                    refine tp (rN_9 ((y) * I 5 (h) / I 6 (h) - ((x) * I 5 (h) / I 6 (h)))).symm ?_
                    refine lv_goto (tgt := 118) hx hb dX10_aged_113 (by decide) ?_
                    refine lv_istore (lv' := [(5, .int (rN ((y) * I 5 (h) / I 6 (h) - ((x) * I 5 (h) / I 6 (h)) + 9))), (4, .int (rN (be))), (7, .int (nI ((y) * I 5 (h) / I 6 (h) - ((x) * I 5 (h) / I 6 (h))))), (0, .ref (a 0)), (2, .int (nI (x))), (3, .int (nI (y))), (6, .int (nI (h)))]) hx hb dX10_aged_118 hl (by decide) rfl (fun ls hl => ?_)
                    refine lv_iinc (v := nI (h + 1)) (lv' := [(6, .int (nI (h + 1))), (5, .int (rN ((y) * I 5 (h) / I 6 (h) - ((x) * I 5 (h) / I 6 (h)) + 9))), (4, .int (rN (be))), (7, .int (nI ((y) * I 5 (h) / I 6 (h) - ((x) * I 5 (h) / I 6 (h))))), (0, .ref (a 0)), (2, .int (nI (x))), (3, .int (nI (y)))]) hx hb dX10_aged_120 hl (k := 6) rfl (ii1_N _) (by decide) rfl (fun ls hl => ?_)
                    refine lv_goto (tgt := 60) hx hb dX10_aged_123 (by decide) ?_
                    exact ih60 (be) ((y) * I 5 (h) / I 6 (h) - ((x) * I 5 (h) / I 6 (h)) + 9) (h + 1) (by omega) (by omega) (by first | exact ((eld_k hbb hk).1 c92).1 | exact ((eld_k hbb hk).2 c92).1) (by first | exact ((eld_k hbb hk).1 c108).2 | exact ((eld_k hbb hk).2 c108).2) (by omega) (by omega) ls _ _ (lv_sub hl [4, 5, 6, 2, 1, 0] rfl) hP hD hS
                · refine lv_iload hx hb dX10_aged_95 (lv_at hl 6 rfl) ?_
                  refine tp (rN_9 (h)).symm ?_
                  refine lv_goto (tgt := 102) hx hb dX10_aged_97 (by decide) ?_
                  refine lv_istore (lv' := [(4, .int (rN (h + 9))), (7, .int (nI ((y) * I 5 (h) / I 6 (h) - ((x) * I 5 (h) / I 6 (h))))), (0, .ref (a 0)), (2, .int (nI (x))), (3, .int (nI (y))), (5, .int (rN (k))), (6, .int (nI (h)))]) hx hb dX10_aged_102 hl (by decide) rfl (fun ls hl => ?_)
                  refine lv_iload hx hb dX10_aged_104 (lv_at hl 1 rfl) ?_
                  refine lv_iload hx hb dX10_aged_106 (lv_at hl 5 rfl) ?_
                  refine tp2 (rN_9 ((y) * I 5 (h) / I 6 (h) - ((x) * I 5 (h) / I 6 (h)))).symm ?_
                  refine bQ_le (tgt := 116) hx hb (by omega) (by omega) dX10_aged_108 (by decide) (fun c108 => ?_) (fun c108 => ?_)
                  · refine lv_iload hx hb dX10_aged_116 (lv_at hl 5 rfl) ?_
                    refine lv_istore (lv' := [(5, .int (rN (k))), (4, .int (rN (h + 9))), (7, .int (nI ((y) * I 5 (h) / I 6 (h) - ((x) * I 5 (h) / I 6 (h))))), (0, .ref (a 0)), (2, .int (nI (x))), (3, .int (nI (y))), (6, .int (nI (h)))]) hx hb dX10_aged_118 hl (by decide) rfl (fun ls hl => ?_)
                    refine lv_iinc (v := nI (h + 1)) (lv' := [(6, .int (nI (h + 1))), (5, .int (rN (k))), (4, .int (rN (h + 9))), (7, .int (nI ((y) * I 5 (h) / I 6 (h) - ((x) * I 5 (h) / I 6 (h))))), (0, .ref (a 0)), (2, .int (nI (x))), (3, .int (nI (y)))]) hx hb dX10_aged_120 hl (k := 6) rfl (ii1_N _) (by decide) rfl (fun ls hl => ?_)
                    refine lv_goto (tgt := 60) hx hb dX10_aged_123 (by decide) ?_
                    exact ih60 (h + 9) (k) (h + 1) (by omega) (by omega) (by first | exact ((eld_k hbb hk).1 c92).1 | exact ((eld_k hbb hk).2 c92).1) (by first | exact ((eld_k hbb hk).1 c108).2 | exact ((eld_k hbb hk).2 c108).2) (by omega) (by omega) ls _ _ (lv_sub hl [4, 5, 6, 2, 1, 0] rfl) hP hD hS
                  · refine lv_iload hx hb dX10_aged_111 (lv_at hl 1 rfl) ?_
                    refine tp (rN_9 ((y) * I 5 (h) / I 6 (h) - ((x) * I 5 (h) / I 6 (h)))).symm ?_
                    refine lv_goto (tgt := 118) hx hb dX10_aged_113 (by decide) ?_
                    refine lv_istore (lv' := [(5, .int (rN ((y) * I 5 (h) / I 6 (h) - ((x) * I 5 (h) / I 6 (h)) + 9))), (4, .int (rN (h + 9))), (7, .int (nI ((y) * I 5 (h) / I 6 (h) - ((x) * I 5 (h) / I 6 (h))))), (0, .ref (a 0)), (2, .int (nI (x))), (3, .int (nI (y))), (6, .int (nI (h)))]) hx hb dX10_aged_118 hl (by decide) rfl (fun ls hl => ?_)
                    refine lv_iinc (v := nI (h + 1)) (lv' := [(6, .int (nI (h + 1))), (5, .int (rN ((y) * I 5 (h) / I 6 (h) - ((x) * I 5 (h) / I 6 (h)) + 9))), (4, .int (rN (h + 9))), (7, .int (nI ((y) * I 5 (h) / I 6 (h) - ((x) * I 5 (h) / I 6 (h))))), (0, .ref (a 0)), (2, .int (nI (x))), (3, .int (nI (y)))]) hx hb dX10_aged_120 hl (k := 6) rfl (ii1_N _) (by decide) rfl (fun ls hl => ?_)
                    refine lv_goto (tgt := 60) hx hb dX10_aged_123 (by decide) ?_
                    exact ih60 (h + 9) ((y) * I 5 (h) / I 6 (h) - ((x) * I 5 (h) / I 6 (h)) + 9) (h + 1) (by omega) (by omega) (by first | exact ((eld_k hbb hk).1 c92).1 | exact ((eld_k hbb hk).2 c92).1) (by first | exact ((eld_k hbb hk).1 c108).2 | exact ((eld_k hbb hk).2 c108).2) (by omega) (by omega) ls _ _ (lv_sub hl [4, 5, 6, 2, 1, 0] rfl) hP hD hS
          exact loop60 (_ + 1) (0) (8) (0) (Nat.lt_succ_self _) (by omega) rfl rfl (by omega) (by omega) ls _ _ (lv_sub hl [3, 5, 6, 2, 1, 0] rfl) hP hD hS
        · exact absurd (show ((-1 : Int32)) < 0 by decide) c33
      · refine lv_iconst (v := (-1)) hx hb dX10_aged_30 (by decide) ?_
        exact ret_i hE (r := (-1)) (by first | (exact congrArg (fun x => some (Value.int x)) (r_aged_b1 c17); done) | (exact congrArg (fun x => some (Value.int x)) (r_aged_b2 qx c27); done)) hP hD hS dX10_aged_31
  · refine lv_aload_n hx hb dX10_aged_5 rfl (lv_at hl 0 rfl) ?_
    refine lv_iload_n hx hb dX10_aged_6 rfl (lv_at hl 1 rfl) ?_
    refine call_V (As := [.int (zp0)]) (rest := []) hE (ct_X10_isHouse l E a I tr ((zp0)) hI.1) cm_X10_isHouse (uw mt_L_X10_125 rfl) (gM_0 E a I tr) rfl rfl hP hD hS hl.1 rfl rfl (Nat.le_of_ble_eq_true rfl) ⟨by decide, by decide⟩ dX10_aged_7 (fun H locs hP hD hS => ?_)
    refine W.eq (g2 := F0 m 10 ls [.int (bB (inB ((zp0)) (I 2 0)))]) rfl ?_
    refine bB_eq (tgt := 30) hx hb dX10_aged_10 (by decide) (fun c10 => ?_) (fun c10 => ?_)
    · refine lv_iconst (v := (-1)) hx hb dX10_aged_30 (by decide) ?_
      exact ret_i hE (r := (-1)) (by first | (exact congrArg (fun x => some (Value.int x)) (r_aged_b0 c2 c10); done)) hP hD hS dX10_aged_31
    · obtain ⟨h, qh, rfl⟩ := inB_t (by omega) c10
      have kh : tn (nI h) = h := tn_nI (by omega)
      refine lv_iload_n hx hb dX10_aged_13 rfl (lv_at hl 2 rfl) ?_
      refine call_S (As := [.int (zp1)]) (rest := []) hE (ct_X10_isQuarter l E (WM E a I tr) ((zp1))) cm_X10_isQuarter (uw mt_L_X10_132 rfl) hP hD hS hl.1 rfl rfl (Nat.le_of_ble_eq_true rfl) ⟨by decide, by decide⟩ dX10_aged_14 (fun H locs hP hD hS => ?_)
      refine W.eq (g2 := F0 m 17 ls [.int (bB (inB ((zp1)) 96))]) rfl ?_
      refine bB_eq (tgt := 30) hx hb dX10_aged_17 (by decide) (fun c17 => ?_) (fun c17 => ?_)
      · refine lv_iconst (v := (-1)) hx hb dX10_aged_30 (by decide) ?_
        exact ret_i hE (r := (-1)) (by first | (exact congrArg (fun x => some (Value.int x)) (r_aged_b0 c2 c10); done) | (exact congrArg (fun x => some (Value.int x)) (r_aged_b1 c17); done)) hP hD hS dX10_aged_31
      · obtain ⟨x, qx, rfl⟩ := inB_t (by omega) c17
        have kx : tn (nI x) = x := tn_nI (by omega)
        refine lv_iload_n hx hb dX10_aged_20 rfl (lv_at hl 3 rfl) ?_
        refine lv_iload_n hx hb dX10_aged_21 rfl (lv_at hl 2 rfl) ?_
        refine lv_bipush (v := nI (95)) hx hb dX10_aged_22 (by decide) ?_
        refine call_S (As := [.int (zp2), .int (nI (x)), .int (nI (95))]) (rest := []) hE (ct_X10_in l E (WM E a I tr) ((zp2)) (nI (x)) (nI (95))) cm_X10_in (uw mt_L_X10_63 rfl) hP hD hS hl.1 rfl rfl (Nat.le_of_ble_eq_true rfl) ⟨by decide, by decide⟩ dX10_aged_24 (fun H locs hP hD hS => ?_)
        refine W.eq (g2 := F0 m 27 ls [.int (bB (wi ((zp2)) (nI (x)) (nI (95))))]) rfl ?_
        refine bB_ne (tgt := 32) hx hb dX10_aged_27 (by decide) (fun c27 => ?_) (fun c27 => ?_)
        · have hyy : ∃ y, x ≤ y ∧ y ≤ 95 ∧ zp2 = nI y := wi_of (by omega) (by decide) c27
          obtain ⟨y, hxy, hy95, rfl⟩ := hyy
          have ky : tn (nI y) = y := tn_nI (by omega)
          have iy : inB (nI y) 96 = true := inB_nI (by omega) (by decide)
          refine lv_iload_n hx hb dX10_aged_32 rfl (lv_at hl 1 rfl) ?_
          refine bZ_lt (tgt := 50) hx hb (by omega) dX10_aged_33 (by decide) (fun c33 => c33.elim) (fun c33 => ?_)
          have hmn : x * I 5 h / I 6 h ≤ y * I 5 h / I 6 h := Nat.div_le_div_right (Nat.mul_le_mul_right _ hxy)
          refine lv_aload_n hx hb dX10_aged_36 rfl (lv_at hl 0 rfl) ?_
          refine lv_iload_n hx hb dX10_aged_37 rfl (lv_at hl 1 rfl) ?_
          refine lv_iload_n hx hb dX10_aged_38 rfl (lv_at hl 3 rfl) ?_
          refine call_V (As := [.int (nI (h)), .int (nI (y))]) (rest := []) hE (ct_X10_lived l E a I tr (h) (y) hI (by omega) (by omega)) cm_X10_lived (uw mt_L_X10_129 rfl) (gM_0 E a I tr) rfl rfl hP hD hS hl.1 rfl rfl (Nat.le_of_ble_eq_true rfl) ⟨by decide, by decide⟩ dX10_aged_39 (fun H locs hP hD hS => ?_)
          refine W.eq (g2 := F0 m 42 ls [.int (nI ((y) * I 5 (h) / I 6 (h)))]) rfl ?_
          have hl3q : (y) * I 5 (h) ≤ 95 * 9 := Nat.mul_le_mul (show (y) ≤ 95 by omega) (hI.2.2.2.1 (h) (by omega)).2.1
          have hl3 : (y) * I 5 (h) / I 6 (h) ≤ 855 := Nat.le_trans (Nat.div_le_self _ _) hl3q
          refine lv_aload_n hx hb dX10_aged_42 rfl (lv_at hl 0 rfl) ?_
          refine lv_iload_n hx hb dX10_aged_43 rfl (lv_at hl 1 rfl) ?_
          refine lv_iload_n hx hb dX10_aged_44 rfl (lv_at hl 2 rfl) ?_
          refine call_V (As := [.int (nI (h)), .int (nI (x))]) (rest := [.int (nI ((y) * I 5 (h) / I 6 (h)))]) hE (ct_X10_lived l E a I tr (h) (x) hI (by omega) (by omega)) cm_X10_lived (uw mt_L_X10_129 rfl) (gM_0 E a I tr) rfl rfl hP hD hS hl.1 rfl rfl (Nat.le_of_ble_eq_true rfl) ⟨by decide, by decide⟩ dX10_aged_45 (fun H locs hP hD hS => ?_)
          refine W.eq (g2 := F0 m 48 ls [.int (nI ((x) * I 5 (h) / I 6 (h))), .int (nI ((y) * I 5 (h) / I 6 (h)))]) rfl ?_
          have hl4q : (x) * I 5 (h) ≤ 95 * 9 := Nat.mul_le_mul (show (x) ≤ 95 by omega) (hI.2.2.2.1 (h) (by omega)).2.1
          have hl4 : (x) * I 5 (h) / I 6 (h) ≤ 855 := Nat.le_trans (Nat.div_le_self _ _) hl4q
          refine lv_isub hx hb dX10_aged_48 ?_
          refine tp (pk_sub (by omega)) ?_
          exact ret_i hE (r := nI ((y) * I 5 (h) / I 6 (h) - ((x) * I 5 (h) / I 6 (h)))) (by have c2n : ¬ nI h = -1 := c2; simp only [r_aged, c17, iy, kx, ky, cond_true]; rw [if_pos hxy, if_neg c2n]; simp only [c10, kh, cond_true]) hP hD hS dX10_aged_49
        · refine lv_iconst (v := (-1)) hx hb dX10_aged_30 (by decide) ?_
          exact ret_i hE (r := (-1)) (by first | (exact congrArg (fun x => some (Value.int x)) (r_aged_b0 c2 c10); done) | (exact congrArg (fun x => some (Value.int x)) (r_aged_b1 c17); done) | (exact congrArg (fun x => some (Value.int x)) (r_aged_b2 qx c27); done)) hP hD hS dX10_aged_31

set_option maxHeartbeats 4000000 in
set_option maxRecDepth 100000 in
theorem ct_X10_dueOf (l : Launch) (E : cE) (a : Nat → Nat) (I : Nat → Nat → Nat) (tr : Int64) (k : Nat) (hI : KM I) (hD7 : DKJ I) (hk : k < I 26 0) : Ct l E 3 yX10_dueOf cX10_dueOf 2 (some .int) [.ref (a 0), .int (nI (k))] (WM E a I tr) (some (.int (rN (quJ I k)))) (WM E a I tr) := by
  refine Ct_of (plainFor_of_name (by decide)) (Nat.le_of_ble_eq_true rfl) ?_
  intro p e s m args below meth c A ls hE hP hD hS hl
  have hE : cEnv p s m args meth c E RX10 cX10_dueOf 2 (some .int) A := hE
  have hx := hE.1
  have hb := hE.2.1
  have hl : lv_has ls 2 [(0, .ref (a 0)), (1, .int (nI (k)))] := hl
  have hP : va_P E.1 vwCl (WM E a I tr) s.heap := hP
  generalize hH : s.heap = H at hP hS ⊢
  have hS : va_S A s.heap H [] := by rw [hH]; exact hS
  clear hH
  have hd := hD7.2 k hk
  have hd8 := hD7.1
  refine lv_aload_n hx hb dX10_dueOf_0 rfl (lv_at hl 0 rfl) ?_
  refine lv_aload_n hx hb dX10_dueOf_1 rfl (lv_at hl 0 rfl) ?_
  refine gf_X10_60 hE hP (0) (gM_0 E a I tr) (v := .ref (a 17)) rfl dX10_dueOf_2 ?_
  refine lv_iconst (v := nI (3)) hx hb dX10_dueOf_5 (by decide) ?_
  refine lv_iload_n hx hb dX10_dueOf_6 rfl (lv_at hl 1 rfl) ?_
  refine lv_imul hx hb dX10_dueOf_7 ?_
  refine tp (pk_mul _ _) ?_
  refine lv_iconst (v := nI (1)) hx hb dX10_dueOf_8 (by decide) ?_
  refine lv_iadd hx hb dX10_dueOf_9 ?_
  refine tp (nI_add _ _) ?_
  refine ald_i hE hP (17) (gM_17 E a I tr) (by omega) (by decide) (r := nI (I (25) ((3) * (k) + 1))) rfl dX10_dueOf_10 ?_
  refine lv_aload_n hx hb dX10_dueOf_11 rfl (lv_at hl 0 rfl) ?_
  refine gf_X10_60 hE hP (0) (gM_0 E a I tr) (v := .ref (a 17)) rfl dX10_dueOf_12 ?_
  refine lv_iconst (v := nI (3)) hx hb dX10_dueOf_15 (by decide) ?_
  refine lv_iload_n hx hb dX10_dueOf_16 rfl (lv_at hl 1 rfl) ?_
  refine lv_imul hx hb dX10_dueOf_17 ?_
  refine tp (pk_mul _ _) ?_
  refine lv_iconst (v := nI (2)) hx hb dX10_dueOf_18 (by decide) ?_
  refine lv_iadd hx hb dX10_dueOf_19 ?_
  refine tp (nI_add _ _) ?_
  refine ald_i hE hP (17) (gM_17 E a I tr) (by omega) (by decide) (r := nI (I (25) ((3) * (k) + 2))) rfl dX10_dueOf_20 ?_
  refine lv_iconst (v := nI (0)) hx hb dX10_dueOf_21 (by decide) ?_
  refine call_V (As := [.int (nI (I (25) ((3) * (k) + 1))), .int (nI (I (25) ((3) * (k) + 2))), .int (nI (0))]) (rest := []) hE (ct_X10_firstOf l E a I tr (I (25) ((3) * (k) + 1)) (I (25) ((3) * (k) + 2)) (0) hI (by omega) (by omega) (by omega)) cm_X10_firstOf (uw mt_L_X10_141 rfl) (gM_0 E a I tr) rfl rfl hP hD hS hl.1 rfl rfl (Nat.le_of_ble_eq_true rfl) ⟨by decide, by decide⟩ dX10_dueOf_22 (fun H locs hP hD hS => ?_)
  refine W.eq (g2 := F0 m 25 ls [.int (rN (fst (shM I (I (25) ((3) * (k) + 1))) (I (25) ((3) * (k) + 2)) (0)))]) rfl ?_
  have hf1 := fst_le (shM I (I (25) ((3) * (k) + 1))) (I (25) ((3) * (k) + 2)) (0)
  exact ret_i hE (r := rN (fst (shM I (I (25) ((3) * (k) + 1))) (I (25) ((3) * (k) + 2)) (0))) (rfl) hP hD hS dX10_dueOf_25
