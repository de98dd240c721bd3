set_option maxHeartbeats 4000000 in
set_option maxRecDepth 100000 in
theorem ct_X10_town (l : Launch) (E : cE) (a : Nat → Nat) (I : Nat → Nat → Nat) (tr : Int64) (hT : TK I) (h11 : I 11 0 ≤ 300) (h12 : I 12 0 ≤ 6) (h13 : I 13 0 ≤ 999) (hL2 : ∀ x, x < 12 → I 7 x ≤ 2) : Ct l E 7 yX10_town cX10_town 3 (some .int) [.ref (a 0)] (WM E a I tr) (some (.int (r_town I))) (WM E a (toJ I) tr) := by
  refine Ct_of (plainFor_of_name (by decide)) (Nat.le_of_ble_eq_true rfl) ?_
  intro p e s m args below meth c A ls hE hP hD hS hl
  have hE : cEnv p s m args meth c E RX10 cX10_town 3 (some .int) A := hE
  have hx := hE.1
  have hb := hE.2.1
  have hl : lv_has ls 3 [(0, .ref (a 0))] := hl
  have hP : va_P E.1 vwCl (WM E a I tr) s.heap := hP
  generalize hH : s.heap = H at hP hS ⊢
  have hS : va_S A s.heap H [] := by rw [hH]; exact hS
  clear hH
  have hR0 : RJ (up2 (up2 (up2 (up2 (up2 I 10 0 0) 14 0 0) 15 0 0) 2 1 0) 3 1 1) := ⟨hT, Nat.zero_le _, h11, h12, h13, Nat.zero_le _⟩
  have hTN0 : TN (tw0 I) := (nx_tok hR0).1
  have hS0 : SJ (tw0 I) := by have e : ∀ k, (k ≠ 10 ∧ k ≠ 11 ∧ k ≠ 12 ∧ k ≠ 13) → tw0 I k = (up2 (up2 (up2 (up2 (up2 I 10 0 0) 14 0 0) 15 0 0) 2 1 0) 3 1 1) k := fun k hk => nxJ_off _ hk; unfold SJ; rw [e 2 (by decide), e 7 (by decide), e 15 (by decide)]; exact ⟨Nat.zero_le _, hL2, (show 0 < 2 by decide)⟩
  have hm0 : ms (tw0 I) < 1000 := by unfold ms; split <;> omega
  refine lv_aload_n hx hb dX10_town_0 rfl (lv_at hl 0 rfl) ?_
  refine lv_iconst (v := nI (0)) hx hb dX10_town_1 (by decide) ?_
  refine pf_X10_73 hE hP hD hS (0) (gM_0 E a I tr) rfl rfl (Nat.le_of_ble_eq_true rfl) (sM_0_11 E a I tr (0)) dX10_town_2 (fun H locs hP hD hS => ?_)
  refine lv_aload_n hx hb dX10_town_5 rfl (lv_at hl 0 rfl) ?_
  refine lv_bipush (v := (-9)) hx hb dX10_town_6 (by decide) ?_
  refine tp rN_0.symm ?_
  refine pf_X10_92 hE hP hD hS (0) (gM_0 E a (up2 I (10) (0) (0)) tr) rfl rfl (Nat.le_of_ble_eq_true rfl) (sM_0_15 E a (up2 I (10) (0) (0)) tr (0)) dX10_town_8 (fun H locs hP hD hS => ?_)
  refine lv_aload_n hx hb dX10_town_11 rfl (lv_at hl 0 rfl) ?_
  refine lv_iconst (v := nI (0)) hx hb dX10_town_12 (by decide) ?_
  refine pf_X10_106 hE hP hD hS (0) (gM_0 E a (up2 (up2 I (10) (0) (0)) (14) (0) (0)) tr) (by decide) (by decide) (Nat.le_of_ble_eq_true rfl) (sM_0_16 E a (up2 (up2 I (10) (0) (0)) (14) (0) (0)) tr (0)) dX10_town_13 (fun H locs hP hD hS => ?_)
  refine lv_aload_n hx hb dX10_town_16 rfl (lv_at hl 0 rfl) ?_
  refine gf_X10_13 hE hP (0) (gM_0 E a (up2 (up2 (up2 I (10) (0) (0)) (14) (0) (0)) (15) (0) (0)) tr) (v := .ref (a 2)) rfl dX10_town_17 ?_
  refine lv_iconst (v := nI (1)) hx hb dX10_town_20 (by decide) ?_
  refine lv_iconst (v := nI (0)) hx hb dX10_town_21 (by decide) ?_
  refine ast_i hE hP hD hS (2) (gM_2 E a (up2 (up2 (up2 I (10) (0) (0)) (14) (0) (0)) (15) (0) (0)) tr) (by omega) (by decide) (sM_2 E a (up2 (up2 (up2 I (10) (0) (0)) (14) (0) (0)) (15) (0) (0)) tr (1) (0)) dX10_town_22 (fun H locs hP hD hS => ?_)
  refine lv_aload_n hx hb dX10_town_23 rfl (lv_at hl 0 rfl) ?_
  refine gf_X10_17 hE hP (0) (gM_0 E a (up2 (up2 (up2 (up2 I (10) (0) (0)) (14) (0) (0)) (15) (0) (0)) (2) (1) (0)) tr) (v := .ref (a 3)) rfl dX10_town_24 ?_
  refine lv_iconst (v := nI (1)) hx hb dX10_town_27 (by decide) ?_
  refine lv_iconst (v := nI (1)) hx hb dX10_town_28 (by decide) ?_
  refine ast_i hE hP hD hS (3) (gM_3 E a (up2 (up2 (up2 (up2 I (10) (0) (0)) (14) (0) (0)) (15) (0) (0)) (2) (1) (0)) tr) (by omega) (by decide) (sM_3 E a (up2 (up2 (up2 (up2 I (10) (0) (0)) (14) (0) (0)) (15) (0) (0)) (2) (1) (0)) tr (1) (1)) dX10_town_29 (fun H locs hP hD hS => ?_)
  refine lv_iconst (v := nI (0)) hx hb dX10_town_30 (by decide) ?_
  refine lv_istore_n (lv' := [(1, .int (nI (0))), (0, .ref (a 0))]) hx hb dX10_town_31 rfl hl (by decide) rfl (fun ls hl => ?_)
  refine lv_aload_n hx hb dX10_town_32 rfl (lv_at hl 1 rfl) ?_
  refine call_V (As := []) (rest := []) hE (ct_X10_next l E a (up2 (up2 (up2 (up2 (up2 I (10) (0) (0)) (14) (0) (0)) (15) (0) (0)) (2) (1) (0)) (3) (1) (1)) tr hT (Nat.zero_le _)) cm_X10_next (uw mt_L_X10_95 rfl) (gM_0 E a (up2 (up2 (up2 (up2 (up2 I (10) (0) (0)) (14) (0) (0)) (15) (0) (0)) (2) (1) (0)) (3) (1) (1)) tr) rfl rfl hP hD hS hl.1 rfl rfl (Nat.le_of_ble_eq_true rfl) ⟨by decide, by decide⟩ dX10_town_33 (fun H locs hP hD hS => ?_)
  refine W.eq (g2 := F0 m 36 ls []) rfl ?_
  have loop36 : ∀ (fu36 : Nat) (X : Nat → Nat → Nat) (i : Nat) (f : Nat), f < fu36 → (TN X) → (SJ X) → (ms X < f) → (twK f X i = twJ I) → (i + f = 1000) → ∀ (ls : Array Slot) (H : Heap) (locs : List Loc), lv_has ls 3 [(0, .ref (a 0)), (1, .int (nI (i)))] → va_P E.1 vwCl (WM E a X tr) H → va_D A (WM E a X tr) → va_S A s.heap H locs → W p l e (rmL 7) s m args below meth c H locs 0 0 (RQ E below args s A (some (.int (r_town I))) (WM E a (toJ I) tr)) (F0 m 36 ls []) := by
    intro fu36
    induction fu36 with
    | zero => intro X i f h; exact absurd h (Nat.not_lt_zero _)
    | succ fu36 ih36 =>
      intro X i f hfu36 hTN hSJ hmf htw hix ls H locs hl hP hD hS
      obtain ⟨f1, rfl⟩ : ∃ f1, f = f1 + 1 := ⟨f - 1, by omega⟩
      have h12x := hTN.1.2.2.2.1
      have h14x := hTN.1.2.2.2.2.2
      have hX6 := hSJ.1
      refine lv_aload_n hx hb dX10_town_36 rfl (lv_at hl 0 rfl) ?_
      refine gf_X10_92 hE hP (0) (gM_0 E a X tr) (v := .int (rN (X (14) (0)))) rfl dX10_town_37 ?_
      refine lv_bipush (v := (-9)) hx hb dX10_town_40 (by decide) ?_
      refine bQ9_ne (tgt := 63) hx hb (by omega) dX10_town_42 (by decide) (fun c42 => ?_) (fun c42 => ?_)
      · refine lv_aload_n hx hb dX10_town_63 rfl (lv_at hl 0 rfl) ?_
        refine gf_X10_92 hE hP (0) (gM_0 E a X tr) (v := .int (rN (X (14) (0)))) rfl dX10_town_64 ?_
        refine lv_bipush (v := (-9)) hx hb dX10_town_67 (by decide) ?_
        refine bQ9_eq (tgt := 80) hx hb (by omega) dX10_town_69 (by decide) (fun c69 => ?_) (fun c69 => ?_)
        · have htX : (X, i) = twJ I := (tw_e (fun z => by omega)).symm.trans htw
          refine lv_aload_n hx hb dX10_town_80 rfl (lv_at hl 0 rfl) ?_
          refine gf_X10_13 hE hP (0) (gM_0 E a X tr) (v := .ref (a 2)) rfl dX10_town_81 ?_
          refine lv_iconst (v := nI (0)) hx hb dX10_town_84 (by decide) ?_
          refine lv_aload_n hx hb dX10_town_85 rfl (lv_at hl 0 rfl) ?_
          refine gf_X10_13 hE hP (0) (gM_0 E a X tr) (v := .ref (a 2)) rfl dX10_town_86 ?_
          refine lv_iconst (v := nI (1)) hx hb dX10_town_89 (by decide) ?_
          refine ald_i hE hP (2) (gM_2 E a X tr) (by omega) (by decide) (r := nI (X (2) (1))) rfl dX10_town_90 ?_
          refine ast_i hE hP hD hS (2) (gM_2 E a X tr) (by omega) (by decide) (sM_2 E a X tr (0) (X (2) (1))) dX10_town_91 (fun H locs hP hD hS => ?_)
          refine lv_aload_n hx hb dX10_town_92 rfl (lv_at hl 0 rfl) ?_
          refine gf_X10_17 hE hP (0) (gM_0 E a (up2 X (2) (0) (X (2) (1))) tr) (v := .ref (a 3)) rfl dX10_town_93 ?_
          refine lv_iconst (v := nI (0)) hx hb dX10_town_96 (by decide) ?_
          refine lv_aload_n hx hb dX10_town_97 rfl (lv_at hl 0 rfl) ?_
          refine gf_X10_17 hE hP (0) (gM_0 E a (up2 X (2) (0) (X (2) (1))) tr) (v := .ref (a 3)) rfl dX10_town_98 ?_
          refine lv_iconst (v := nI (1)) hx hb dX10_town_101 (by decide) ?_
          refine ald_i hE hP (3) (gM_3 E a (up2 X (2) (0) (X (2) (1))) tr) (by omega) (by decide) (r := nI (X (3) (1))) rfl dX10_town_102 ?_
          refine ast_i hE hP hD hS (3) (gM_3 E a (up2 X (2) (0) (X (2) (1))) tr) (by omega) (by decide) (sM_3 E a (up2 X (2) (0) (X (2) (1))) tr (0) (X (3) (1))) dX10_town_103 (fun H locs hP hD hS => ?_)
          refine lv_iconst (v := nI (0)) hx hb dX10_town_104 (by decide) ?_
          refine lv_istore_n (lv' := [(2, .int (nI (0))), (0, .ref (a 0)), (1, .int (nI (i)))]) hx hb dX10_town_105 rfl hl (by decide) rfl (fun ls hl => ?_)
          have loop106 : ∀ (fu106 : Nat) (h : Nat), 6 - h < fu106 → (h ≤ 6) → ∀ (ls : Array Slot) (H : Heap) (locs : List Loc), lv_has ls 3 [(0, .ref (a 0)), (1, .int (nI (i))), (2, .int (nI (h)))] → va_P E.1 vwCl (WM E a (upA (upA (upA (upA (up2 (up2 X (2) (0) (X 2 1)) (3) (0) (X 3 1)) (4) (cqF (X 4) 6 (h))) (5) (cqF (X 5) 6 (h))) (6) (cqF (X 6) 6 (h))) (7) (cqF (X 7) 6 (h))) tr) H → va_D A (WM E a (upA (upA (upA (upA (up2 (up2 X (2) (0) (X 2 1)) (3) (0) (X 3 1)) (4) (cqF (X 4) 6 (h))) (5) (cqF (X 5) 6 (h))) (6) (cqF (X 6) 6 (h))) (7) (cqF (X 7) 6 (h))) tr) → va_S A s.heap H locs → W p l e (rmL 7) s m args below meth c H locs 0 0 (RQ E below args s A (some (.int (r_town I))) (WM E a (toJ I) tr)) (F0 m 106 ls []) := by
            intro fu106
            induction fu106 with
            | zero => intro h h; exact absurd h (Nat.not_lt_zero _)
            | succ fu106 ih106 =>
              intro h hfu106 hh ls H locs hl hP hD hS
              refine lv_iload_n hx hb dX10_town_106 rfl (lv_at hl 2 rfl) ?_
              refine lv_bipush (v := nI (6)) hx hb dX10_town_107 (by decide) ?_
              refine bN_ge (tgt := 178) hx hb (by omega) (by omega) dX10_town_109 (by decide) (fun c109 => ?_) (fun c109 => ?_)
              · refine lv_iconst (v := nI (0)) hx hb dX10_town_178 (by decide) ?_
                refine lv_istore_n (lv' := [(2, .int (nI (0))), (0, .ref (a 0)), (1, .int (nI (i)))]) hx hb dX10_town_179 rfl hl (by decide) rfl (fun ls hl => ?_)
                have loop180 : ∀ (fu180 : Nat) (h : Nat), 12 - h < fu180 → (h ≤ 12) → ∀ (ls : Array Slot) (H : Heap) (locs : List Loc), lv_has ls 3 [(0, .ref (a 0)), (1, .int (nI (i))), (2, .int (nI (h)))] → va_P E.1 vwCl (WM E a (upA (upA (upA (upA (upA (upA (up2 (up2 X (2) (0) (X 2 1)) (3) (0) (X 3 1)) (4) (cqF (X 4) 6 (6))) (5) (cqF (X 5) 6 (6))) (6) (cqF (X 6) 6 (6))) (7) (cqF (X 7) 6 (6))) (8) (cqF (X 8) 12 (h))) (9) (cqF (X 9) 12 (h))) tr) H → va_D A (WM E a (upA (upA (upA (upA (upA (upA (up2 (up2 X (2) (0) (X 2 1)) (3) (0) (X 3 1)) (4) (cqF (X 4) 6 (6))) (5) (cqF (X 5) 6 (6))) (6) (cqF (X 6) 6 (6))) (7) (cqF (X 7) 6 (6))) (8) (cqF (X 8) 12 (h))) (9) (cqF (X 9) 12 (h))) tr) → va_S A s.heap H locs → W p l e (rmL 7) s m args below meth c H locs 0 0 (RQ E below args s A (some (.int (r_town I))) (WM E a (toJ I) tr)) (F0 m 180 ls []) := by
                  intro fu180
                  induction fu180 with
                  | zero => intro h h; exact absurd h (Nat.not_lt_zero _)
                  | succ fu180 ih180 =>
                    intro h hfu180 hh ls H locs hl hP hD hS
                    refine lv_iload_n hx hb dX10_town_180 rfl (lv_at hl 2 rfl) ?_
                    refine lv_bipush (v := nI (12)) hx hb dX10_town_181 (by decide) ?_
                    refine bN_ge (tgt := 222) hx hb (by omega) (by omega) dX10_town_183 (by decide) (fun c183 => ?_) (fun c183 => ?_)
                    · refine lv_iconst (v := nI (0)) hx hb dX10_town_222 (by decide) ?_
                      refine lv_istore_n (lv' := [(2, .int (nI (0))), (0, .ref (a 0)), (1, .int (nI (i)))]) hx hb dX10_town_223 rfl hl (by decide) rfl (fun ls hl => ?_)
                      have loop224 : ∀ (fu224 : Nat) (h : Nat), 28 - h < fu224 → (h ≤ 28) → ∀ (ls : Array Slot) (H : Heap) (locs : List Loc), lv_has ls 3 [(0, .ref (a 0)), (1, .int (nI (i))), (2, .int (nI (h)))] → va_P E.1 vwCl (WM E a (upA (upA (upA (upA (upA (upA (upA (up2 (up2 X (2) (0) (X 2 1)) (3) (0) (X 3 1)) (4) (cqF (X 4) 6 (6))) (5) (cqF (X 5) 6 (6))) (6) (cqF (X 6) 6 (6))) (7) (cqF (X 7) 6 (6))) (8) (cqF (X 8) 12 (12))) (9) (cqF (X 9) 12 (12))) (16) (flN (X 16) (h) 0)) tr) H → va_D A (WM E a (upA (upA (upA (upA (upA (upA (upA (up2 (up2 X (2) (0) (X 2 1)) (3) (0) (X 3 1)) (4) (cqF (X 4) 6 (6))) (5) (cqF (X 5) 6 (6))) (6) (cqF (X 6) 6 (6))) (7) (cqF (X 7) 6 (6))) (8) (cqF (X 8) 12 (12))) (9) (cqF (X 9) 12 (12))) (16) (flN (X 16) (h) 0)) tr) → va_S A s.heap H locs → W p l e (rmL 7) s m args below meth c H locs 0 0 (RQ E below args s A (some (.int (r_town I))) (WM E a (toJ I) tr)) (F0 m 224 ls []) := by
                        intro fu224
                        induction fu224 with
                        | zero => intro h h; exact absurd h (Nat.not_lt_zero _)
                        | succ fu224 ih224 =>
                          intro h hfu224 hh ls H locs hl hP hD hS
                          refine lv_iload_n hx hb dX10_town_224 rfl (lv_at hl 2 rfl) ?_
                          refine lv_bipush (v := nI (28)) hx hb dX10_town_225 (by decide) ?_
                          refine bN_ge (tgt := 243) hx hb (by omega) (by omega) dX10_town_227 (by decide) (fun c227 => ?_) (fun c227 => ?_)
                          · refine lv_aload_n hx hb dX10_town_243 rfl (lv_at hl 0 rfl) ?_
                            refine lv_iconst (v := nI (0)) hx hb dX10_town_244 (by decide) ?_
                            refine pf_X10_116 hE hP hD hS (0) (gM_0 E a (upA (upA (upA (upA (upA (upA (upA (up2 (up2 X (2) (0) (X 2 1)) (3) (0) (X 3 1)) (4) (cqF (X 4) 6 (6))) (5) (cqF (X 5) 6 (6))) (6) (cqF (X 6) 6 (6))) (7) (cqF (X 7) 6 (6))) (8) (cqF (X 8) 12 (12))) (9) (cqF (X 9) 12 (12))) (16) (flN (X 16) (h) 0)) tr) rfl rfl (Nat.le_of_ble_eq_true rfl) (sM_0_20 E a (upA (upA (upA (upA (upA (upA (upA (up2 (up2 X (2) (0) (X 2 1)) (3) (0) (X 3 1)) (4) (cqF (X 4) 6 (6))) (5) (cqF (X 5) 6 (6))) (6) (cqF (X 6) 6 (6))) (7) (cqF (X 7) 6 (6))) (8) (cqF (X 8) 12 (12))) (9) (cqF (X 9) 12 (12))) (16) (flN (X 16) (h) 0)) tr (0)) dX10_town_245 (fun H locs hP hD hS => ?_)
                            refine lv_aload_n hx hb dX10_town_248 rfl (lv_at hl 0 rfl) ?_
                            refine lv_iconst (v := nI (0)) hx hb dX10_town_249 (by decide) ?_
                            refine pf_X10_119 hE hP hD hS (0) (gM_0 E a (up2 (upA (upA (upA (upA (upA (upA (upA (up2 (up2 X (2) (0) (X 2 1)) (3) (0) (X 3 1)) (4) (cqF (X 4) 6 (6))) (5) (cqF (X 5) 6 (6))) (6) (cqF (X 6) 6 (6))) (7) (cqF (X 7) 6 (6))) (8) (cqF (X 8) 12 (12))) (9) (cqF (X 9) 12 (12))) (16) (flN (X 16) (h) 0)) (19) (0) (0)) tr) rfl rfl (Nat.le_of_ble_eq_true rfl) (sM_0_25 E a (up2 (upA (upA (upA (upA (upA (upA (upA (up2 (up2 X (2) (0) (X 2 1)) (3) (0) (X 3 1)) (4) (cqF (X 4) 6 (6))) (5) (cqF (X 5) 6 (6))) (6) (cqF (X 6) 6 (6))) (7) (cqF (X 7) 6 (6))) (8) (cqF (X 8) 12 (12))) (9) (cqF (X 9) 12 (12))) (16) (flN (X 16) (h) 0)) (19) (0) (0)) tr (0)) dX10_town_250 (fun H locs hP hD hS => ?_)
                            refine lv_aload_n hx hb dX10_town_253 rfl (lv_at hl 0 rfl) ?_
                            refine lv_iconst (v := nI (0)) hx hb dX10_town_254 (by decide) ?_
                            refine pf_X10_122 hE hP hD hS (0) (gM_0 E a (up2 (up2 (upA (upA (upA (upA (upA (upA (upA (up2 (up2 X (2) (0) (X 2 1)) (3) (0) (X 3 1)) (4) (cqF (X 4) 6 (6))) (5) (cqF (X 5) 6 (6))) (6) (cqF (X 6) 6 (6))) (7) (cqF (X 7) 6 (6))) (8) (cqF (X 8) 12 (12))) (9) (cqF (X 9) 12 (12))) (16) (flN (X 16) (h) 0)) (19) (0) (0)) (24) (0) (0)) tr) rfl rfl (Nat.le_of_ble_eq_true rfl) (sM_0_27 E a (up2 (up2 (upA (upA (upA (upA (upA (upA (upA (up2 (up2 X (2) (0) (X 2 1)) (3) (0) (X 3 1)) (4) (cqF (X 4) 6 (6))) (5) (cqF (X 5) 6 (6))) (6) (cqF (X 6) 6 (6))) (7) (cqF (X 7) 6 (6))) (8) (cqF (X 8) 12 (12))) (9) (cqF (X 9) 12 (12))) (16) (flN (X 16) (h) 0)) (19) (0) (0)) (24) (0) (0)) tr (0)) dX10_town_255 (fun H locs hP hD hS => ?_)
                            refine lv_aload_n hx hb dX10_town_258 rfl (lv_at hl 0 rfl) ?_
                            refine gf_X10_41 hE hP (0) (gM_0 E a (up2 (up2 (up2 (upA (upA (upA (upA (upA (upA (upA (up2 (up2 X (2) (0) (X 2 1)) (3) (0) (X 3 1)) (4) (cqF (X 4) 6 (6))) (5) (cqF (X 5) 6 (6))) (6) (cqF (X 6) 6 (6))) (7) (cqF (X 7) 6 (6))) (8) (cqF (X 8) 12 (12))) (9) (cqF (X 9) 12 (12))) (16) (flN (X 16) (h) 0)) (19) (0) (0)) (24) (0) (0)) (26) (0) (0)) tr) (v := .ref (a 11)) rfl dX10_town_259 ?_
                            refine lv_iconst (v := nI (0)) hx hb dX10_town_262 (by decide) ?_
                            refine lv_iconst (v := nI (0)) hx hb dX10_town_263 (by decide) ?_
                            refine ast_z hE hP hD hS (11) (gM_11 E a (up2 (up2 (up2 (upA (upA (upA (upA (upA (upA (upA (up2 (up2 X (2) (0) (X 2 1)) (3) (0) (X 3 1)) (4) (cqF (X 4) 6 (6))) (5) (cqF (X 5) 6 (6))) (6) (cqF (X 6) 6 (6))) (7) (cqF (X 7) 6 (6))) (8) (cqF (X 8) 12 (12))) (9) (cqF (X 9) 12 (12))) (16) (flN (X 16) (h) 0)) (19) (0) (0)) (24) (0) (0)) (26) (0) (0)) tr) (by omega) (by decide) (sM_11 E a (up2 (up2 (up2 (upA (upA (upA (upA (upA (upA (upA (up2 (up2 X (2) (0) (X 2 1)) (3) (0) (X 3 1)) (4) (cqF (X 4) 6 (6))) (5) (cqF (X 5) 6 (6))) (6) (cqF (X 6) 6 (6))) (7) (cqF (X 7) 6 (6))) (8) (cqF (X 8) 12 (12))) (9) (cqF (X 9) 12 (12))) (16) (flN (X 16) (h) 0)) (19) (0) (0)) (24) (0) (0)) (26) (0) (0)) tr (0) (0) (by omega)) dX10_town_264 (fun H locs hP hD hS => ?_)
                            refine lv_aload_n hx hb dX10_town_265 rfl (lv_at hl 0 rfl) ?_
                            refine gf_X10_41 hE hP (0) (gM_0 E a (up2 (up2 (up2 (up2 (upA (upA (upA (upA (upA (upA (upA (up2 (up2 X (2) (0) (X 2 1)) (3) (0) (X 3 1)) (4) (cqF (X 4) 6 (6))) (5) (cqF (X 5) 6 (6))) (6) (cqF (X 6) 6 (6))) (7) (cqF (X 7) 6 (6))) (8) (cqF (X 8) 12 (12))) (9) (cqF (X 9) 12 (12))) (16) (flN (X 16) (h) 0)) (19) (0) (0)) (24) (0) (0)) (26) (0) (0)) (17) (0) (0)) tr) (v := .ref (a 11)) rfl dX10_town_266 ?_
                            refine lv_iconst (v := nI (1)) hx hb dX10_town_269 (by decide) ?_
                            refine lv_iconst (v := nI (0)) hx hb dX10_town_270 (by decide) ?_
                            refine ast_z hE hP hD hS (11) (gM_11 E a (up2 (up2 (up2 (up2 (upA (upA (upA (upA (upA (upA (upA (up2 (up2 X (2) (0) (X 2 1)) (3) (0) (X 3 1)) (4) (cqF (X 4) 6 (6))) (5) (cqF (X 5) 6 (6))) (6) (cqF (X 6) 6 (6))) (7) (cqF (X 7) 6 (6))) (8) (cqF (X 8) 12 (12))) (9) (cqF (X 9) 12 (12))) (16) (flN (X 16) (h) 0)) (19) (0) (0)) (24) (0) (0)) (26) (0) (0)) (17) (0) (0)) tr) (by omega) (by decide) (sM_11 E a (up2 (up2 (up2 (up2 (upA (upA (upA (upA (upA (upA (upA (up2 (up2 X (2) (0) (X 2 1)) (3) (0) (X 3 1)) (4) (cqF (X 4) 6 (6))) (5) (cqF (X 5) 6 (6))) (6) (cqF (X 6) 6 (6))) (7) (cqF (X 7) 6 (6))) (8) (cqF (X 8) 12 (12))) (9) (cqF (X 9) 12 (12))) (16) (flN (X 16) (h) 0)) (19) (0) (0)) (24) (0) (0)) (26) (0) (0)) (17) (0) (0)) tr (1) (0) (by omega)) dX10_town_271 (fun H locs hP hD hS => ?_)
                            refine lv_aload_n hx hb dX10_town_272 rfl (lv_at hl 0 rfl) ?_
                            refine lv_iconst (v := nI (0)) hx hb dX10_town_273 (by decide) ?_
                            refine pf_X10_67 hE hP hD hS (0) (gM_0 E a (up2 (up2 (up2 (up2 (up2 (upA (upA (upA (upA (upA (upA (upA (up2 (up2 X (2) (0) (X 2 1)) (3) (0) (X 3 1)) (4) (cqF (X 4) 6 (6))) (5) (cqF (X 5) 6 (6))) (6) (cqF (X 6) 6 (6))) (7) (cqF (X 7) 6 (6))) (8) (cqF (X 8) 12 (12))) (9) (cqF (X 9) 12 (12))) (16) (flN (X 16) (h) 0)) (19) (0) (0)) (24) (0) (0)) (26) (0) (0)) (17) (0) (0)) (17) (1) (0)) tr) rfl rfl (Nat.le_of_ble_eq_true rfl) (sM_0_2 E a (up2 (up2 (up2 (up2 (up2 (upA (upA (upA (upA (upA (upA (upA (up2 (up2 X (2) (0) (X 2 1)) (3) (0) (X 3 1)) (4) (cqF (X 4) 6 (6))) (5) (cqF (X 5) 6 (6))) (6) (cqF (X 6) 6 (6))) (7) (cqF (X 7) 6 (6))) (8) (cqF (X 8) 12 (12))) (9) (cqF (X 9) 12 (12))) (16) (flN (X 16) (h) 0)) (19) (0) (0)) (24) (0) (0)) (26) (0) (0)) (17) (0) (0)) (17) (1) (0)) tr (0)) dX10_town_274 (fun H locs hP hD hS => ?_)
                            refine lv_iload_n hx hb dX10_town_277 rfl (lv_at hl 1 rfl) ?_
                            have hw : (up2 (up2 (up2 (up2 (up2 (up2 (upA (upA (upA (upA (upA (upA (upA (up2 (up2 X (2) (0) (X 2 1)) (3) (0) (X 3 1)) (4) (cqF (X 4) 6 (6))) (5) (cqF (X 5) 6 (6))) (6) (cqF (X 6) 6 (6))) (7) (cqF (X 7) 6 (6))) (8) (cqF (X 8) 12 (12))) (9) (cqF (X 9) 12 (12))) (16) (flN (X 16) (h) 0)) (19) (0) (0)) (24) (0) (0)) (26) (0) (0)) (17) (0) (0)) (17) (1) (0)) (1) (0) (0)) = (toJ I) := by rw [show h = 28 by omega]; unfold toJ; rw [← htX]; exact (if_pos (show X 14 0 = 0 by omega)).symm
                            have hP := Eq.mp (congrArg (fun q => va_P E.1 vwCl (WM E a q tr) H) hw) hP
                            have hD := Eq.mp (congrArg (fun q => va_D A (WM E a q tr)) hw) hD
                            exact ret_i hE (r := nI (i)) (by unfold r_town; rw [← htX, if_pos (show X 14 0 = 0 by omega)]) hP hD hS dX10_town_278
                          · refine lv_aload_n hx hb dX10_town_230 rfl (lv_at hl 0 rfl) ?_
                            refine gf_X10_38 hE hP (0) (gM_0 E a (upA (upA (upA (upA (upA (upA (upA (up2 (up2 X (2) (0) (X 2 1)) (3) (0) (X 3 1)) (4) (cqF (X 4) 6 (6))) (5) (cqF (X 5) 6 (6))) (6) (cqF (X 6) 6 (6))) (7) (cqF (X 7) 6 (6))) (8) (cqF (X 8) 12 (12))) (9) (cqF (X 9) 12 (12))) (16) (flN (X 16) (h) 0)) tr) (v := .ref (a 10)) rfl dX10_town_231 ?_
                            refine lv_iload_n hx hb dX10_town_234 rfl (lv_at hl 2 rfl) ?_
                            refine lv_iconst (v := nI (0)) hx hb dX10_town_235 (by decide) ?_
                            refine ast_i hE hP hD hS (10) (gM_10 E a (upA (upA (upA (upA (upA (upA (upA (up2 (up2 X (2) (0) (X 2 1)) (3) (0) (X 3 1)) (4) (cqF (X 4) 6 (6))) (5) (cqF (X 5) 6 (6))) (6) (cqF (X 6) 6 (6))) (7) (cqF (X 7) 6 (6))) (8) (cqF (X 8) 12 (12))) (9) (cqF (X 9) 12 (12))) (16) (flN (X 16) (h) 0)) tr) (by omega) (by decide) (sM_10 E a (upA (upA (upA (upA (upA (upA (upA (up2 (up2 X (2) (0) (X 2 1)) (3) (0) (X 3 1)) (4) (cqF (X 4) 6 (6))) (5) (cqF (X 5) 6 (6))) (6) (cqF (X 6) 6 (6))) (7) (cqF (X 7) 6 (6))) (8) (cqF (X 8) 12 (12))) (9) (cqF (X 9) 12 (12))) (16) (flN (X 16) (h) 0)) tr (h) (0)) dX10_town_236 (fun H locs hP hD hS => ?_)
                            refine lv_iinc (v := nI (h + 1)) (lv' := [(2, .int (nI (h + 1))), (0, .ref (a 0)), (1, .int (nI (i)))]) hx hb dX10_town_237 hl (k := 2) rfl (ii1_N _) (by decide) rfl (fun ls hl => ?_)
                            refine lv_goto (tgt := 224) hx hb dX10_town_240 (by decide) ?_
                            exact ih224 (h + 1) (by omega) (by omega) ls _ _ (lv_sub hl [1, 2, 0] rfl) (by have hw : (up2 (upA (upA (upA (upA (upA (upA (upA (up2 (up2 X (2) (0) (X 2 1)) (3) (0) (X 3 1)) (4) (cqF (X 4) 6 (6))) (5) (cqF (X 5) 6 (6))) (6) (cqF (X 6) 6 (6))) (7) (cqF (X 7) 6 (6))) (8) (cqF (X 8) 12 (12))) (9) (cqF (X 9) 12 (12))) (16) (flN (X 16) (h) 0)) (16) (h) (0)) = (upA (upA (upA (upA (upA (upA (upA (up2 (up2 X (2) (0) (X 2 1)) (3) (0) (X 3 1)) (4) (cqF (X 4) 6 (6))) (5) (cqF (X 5) 6 (6))) (6) (cqF (X 6) 6 (6))) (7) (cqF (X 7) 6 (6))) (8) (cqF (X 8) 12 (12))) (9) (cqF (X 9) 12 (12))) (16) (flN (X 16) ((h + 1)) 0)) := (by rw [up2_upA, flN_s0]); rw [hw] at hP; exact hP) (by have hw : (up2 (upA (upA (upA (upA (upA (upA (upA (up2 (up2 X (2) (0) (X 2 1)) (3) (0) (X 3 1)) (4) (cqF (X 4) 6 (6))) (5) (cqF (X 5) 6 (6))) (6) (cqF (X 6) 6 (6))) (7) (cqF (X 7) 6 (6))) (8) (cqF (X 8) 12 (12))) (9) (cqF (X 9) 12 (12))) (16) (flN (X 16) (h) 0)) (16) (h) (0)) = (upA (upA (upA (upA (upA (upA (upA (up2 (up2 X (2) (0) (X 2 1)) (3) (0) (X 3 1)) (4) (cqF (X 4) 6 (6))) (5) (cqF (X 5) 6 (6))) (6) (cqF (X 6) 6 (6))) (7) (cqF (X 7) 6 (6))) (8) (cqF (X 8) 12 (12))) (9) (cqF (X 9) 12 (12))) (16) (flN (X 16) ((h + 1)) 0)) := (by rw [up2_upA, flN_s0]); rw [hw] at hD; exact hD) hS
                      exact loop224 (_ + 1) (0) (Nat.lt_succ_self _) (by omega) ls _ _ (lv_sub hl [1, 2, 0] rfl) (by have hw : (upA (upA (upA (upA (upA (upA (up2 (up2 X (2) (0) (X 2 1)) (3) (0) (X 3 1)) (4) (cqF (X 4) 6 (6))) (5) (cqF (X 5) 6 (6))) (6) (cqF (X 6) 6 (6))) (7) (cqF (X 7) 6 (6))) (8) (cqF (X 8) 12 (h))) (9) (cqF (X 9) 12 (h))) = (upA (upA (upA (upA (upA (upA (upA (up2 (up2 X (2) (0) (X 2 1)) (3) (0) (X 3 1)) (4) (cqF (X 4) 6 (6))) (5) (cqF (X 5) 6 (6))) (6) (cqF (X 6) 6 (6))) (7) (cqF (X 7) 6 (6))) (8) (cqF (X 8) 12 (12))) (9) (cqF (X 9) 12 (12))) (16) (flN (X 16) ((0)) 0)) := (by rw [show h = 12 by omega]; exact okN_0 X); rw [hw] at hP; exact hP) (by have hw : (upA (upA (upA (upA (upA (upA (up2 (up2 X (2) (0) (X 2 1)) (3) (0) (X 3 1)) (4) (cqF (X 4) 6 (6))) (5) (cqF (X 5) 6 (6))) (6) (cqF (X 6) 6 (6))) (7) (cqF (X 7) 6 (6))) (8) (cqF (X 8) 12 (h))) (9) (cqF (X 9) 12 (h))) = (upA (upA (upA (upA (upA (upA (upA (up2 (up2 X (2) (0) (X 2 1)) (3) (0) (X 3 1)) (4) (cqF (X 4) 6 (6))) (5) (cqF (X 5) 6 (6))) (6) (cqF (X 6) 6 (6))) (7) (cqF (X 7) 6 (6))) (8) (cqF (X 8) 12 (12))) (9) (cqF (X 9) 12 (12))) (16) (flN (X 16) ((0)) 0)) := (by rw [show h = 12 by omega]; exact okN_0 X); rw [hw] at hD; exact hD) hS
                    · refine lv_aload_n hx hb dX10_town_186 rfl (lv_at hl 0 rfl) ?_
                      refine gf_X10_32 hE hP (0) (gM_0 E a (upA (upA (upA (upA (upA (upA (up2 (up2 X (2) (0) (X 2 1)) (3) (0) (X 3 1)) (4) (cqF (X 4) 6 (6))) (5) (cqF (X 5) 6 (6))) (6) (cqF (X 6) 6 (6))) (7) (cqF (X 7) 6 (6))) (8) (cqF (X 8) 12 (h))) (9) (cqF (X 9) 12 (h))) tr) (v := .ref (a 8)) rfl dX10_town_187 ?_
                      refine lv_iload_n hx hb dX10_town_190 rfl (lv_at hl 2 rfl) ?_
                      refine lv_aload_n hx hb dX10_town_191 rfl (lv_at hl 0 rfl) ?_
                      refine gf_X10_32 hE hP (0) (gM_0 E a (upA (upA (upA (upA (upA (upA (up2 (up2 X (2) (0) (X 2 1)) (3) (0) (X 3 1)) (4) (cqF (X 4) 6 (6))) (5) (cqF (X 5) 6 (6))) (6) (cqF (X 6) 6 (6))) (7) (cqF (X 7) 6 (6))) (8) (cqF (X 8) 12 (h))) (9) (cqF (X 9) 12 (h))) tr) (v := .ref (a 8)) rfl dX10_town_192 ?_
                      refine lv_bipush (v := nI (12)) hx hb dX10_town_195 (by decide) ?_
                      refine lv_iload_n hx hb dX10_town_197 rfl (lv_at hl 2 rfl) ?_
                      refine lv_iadd hx hb dX10_town_198 ?_
                      refine tp (nI_add _ _) ?_
                      refine ald_i hE hP (8) (gM_8 E a (upA (upA (upA (upA (upA (upA (up2 (up2 X (2) (0) (X 2 1)) (3) (0) (X 3 1)) (4) (cqF (X 4) 6 (6))) (5) (cqF (X 5) 6 (6))) (6) (cqF (X 6) 6 (6))) (7) (cqF (X 7) 6 (6))) (8) (cqF (X 8) 12 (h))) (9) (cqF (X 9) 12 (h))) tr) (by omega) (by decide) (r := nI ((cqF (X 8) 12 (h)) (12 + h))) rfl dX10_town_199 ?_
                      refine tp (show nI ((cqF (X 8) 12 (h)) (12 + h)) = nI (X 8 (12 + h)) by exact congrArg nI (cqF_at (X 8) (by omega) (by decide))) ?_
                      refine ast_i hE hP hD hS (8) (gM_8 E a (upA (upA (upA (upA (upA (upA (up2 (up2 X (2) (0) (X 2 1)) (3) (0) (X 3 1)) (4) (cqF (X 4) 6 (6))) (5) (cqF (X 5) 6 (6))) (6) (cqF (X 6) 6 (6))) (7) (cqF (X 7) 6 (6))) (8) (cqF (X 8) 12 (h))) (9) (cqF (X 9) 12 (h))) tr) (by omega) (by decide) (sM_8 E a (upA (upA (upA (upA (upA (upA (up2 (up2 X (2) (0) (X 2 1)) (3) (0) (X 3 1)) (4) (cqF (X 4) 6 (6))) (5) (cqF (X 5) 6 (6))) (6) (cqF (X 6) 6 (6))) (7) (cqF (X 7) 6 (6))) (8) (cqF (X 8) 12 (h))) (9) (cqF (X 9) 12 (h))) tr (h) (X 8 (12 + h))) dX10_town_200 (fun H locs hP hD hS => ?_)
                      refine lv_aload_n hx hb dX10_town_201 rfl (lv_at hl 0 rfl) ?_
                      refine gf_X10_35 hE hP (0) (gM_0 E a (up2 (upA (upA (upA (upA (upA (upA (up2 (up2 X (2) (0) (X 2 1)) (3) (0) (X 3 1)) (4) (cqF (X 4) 6 (6))) (5) (cqF (X 5) 6 (6))) (6) (cqF (X 6) 6 (6))) (7) (cqF (X 7) 6 (6))) (8) (cqF (X 8) 12 (h))) (9) (cqF (X 9) 12 (h))) (8) (h) (X 8 (12 + h))) tr) (v := .ref (a 9)) rfl dX10_town_202 ?_
                      refine lv_iload_n hx hb dX10_town_205 rfl (lv_at hl 2 rfl) ?_
                      refine lv_aload_n hx hb dX10_town_206 rfl (lv_at hl 0 rfl) ?_
                      refine gf_X10_35 hE hP (0) (gM_0 E a (up2 (upA (upA (upA (upA (upA (upA (up2 (up2 X (2) (0) (X 2 1)) (3) (0) (X 3 1)) (4) (cqF (X 4) 6 (6))) (5) (cqF (X 5) 6 (6))) (6) (cqF (X 6) 6 (6))) (7) (cqF (X 7) 6 (6))) (8) (cqF (X 8) 12 (h))) (9) (cqF (X 9) 12 (h))) (8) (h) (X 8 (12 + h))) tr) (v := .ref (a 9)) rfl dX10_town_207 ?_
                      refine lv_bipush (v := nI (12)) hx hb dX10_town_210 (by decide) ?_
                      refine lv_iload_n hx hb dX10_town_212 rfl (lv_at hl 2 rfl) ?_
                      refine lv_iadd hx hb dX10_town_213 ?_
                      refine tp (nI_add _ _) ?_
                      refine ald_i hE hP (9) (gM_9 E a (up2 (upA (upA (upA (upA (upA (upA (up2 (up2 X (2) (0) (X 2 1)) (3) (0) (X 3 1)) (4) (cqF (X 4) 6 (6))) (5) (cqF (X 5) 6 (6))) (6) (cqF (X 6) 6 (6))) (7) (cqF (X 7) 6 (6))) (8) (cqF (X 8) 12 (h))) (9) (cqF (X 9) 12 (h))) (8) (h) (X 8 (12 + h))) tr) (by omega) (by decide) (r := nI ((cqF (X 9) 12 (h)) (12 + h))) rfl dX10_town_214 ?_
                      refine tp (show nI ((cqF (X 9) 12 (h)) (12 + h)) = nI (X 9 (12 + h)) by exact congrArg nI (cqF_at (X 9) (by omega) (by decide))) ?_
                      refine ast_i hE hP hD hS (9) (gM_9 E a (up2 (upA (upA (upA (upA (upA (upA (up2 (up2 X (2) (0) (X 2 1)) (3) (0) (X 3 1)) (4) (cqF (X 4) 6 (6))) (5) (cqF (X 5) 6 (6))) (6) (cqF (X 6) 6 (6))) (7) (cqF (X 7) 6 (6))) (8) (cqF (X 8) 12 (h))) (9) (cqF (X 9) 12 (h))) (8) (h) (X 8 (12 + h))) tr) (by omega) (by decide) (sM_9 E a (up2 (upA (upA (upA (upA (upA (upA (up2 (up2 X (2) (0) (X 2 1)) (3) (0) (X 3 1)) (4) (cqF (X 4) 6 (6))) (5) (cqF (X 5) 6 (6))) (6) (cqF (X 6) 6 (6))) (7) (cqF (X 7) 6 (6))) (8) (cqF (X 8) 12 (h))) (9) (cqF (X 9) 12 (h))) (8) (h) (X 8 (12 + h))) tr (h) (X 9 (12 + h))) dX10_town_215 (fun H locs hP hD hS => ?_)
                      refine lv_iinc (v := nI (h + 1)) (lv' := [(2, .int (nI (h + 1))), (0, .ref (a 0)), (1, .int (nI (i)))]) hx hb dX10_town_216 hl (k := 2) rfl (ii1_N _) (by decide) rfl (fun ls hl => ?_)
                      refine lv_goto (tgt := 180) hx hb dX10_town_219 (by decide) ?_
                      exact ih180 (h + 1) (by omega) (by omega) ls _ _ (lv_sub hl [1, 2, 0] rfl) (by have hw : (up2 (up2 (upA (upA (upA (upA (upA (upA (up2 (up2 X (2) (0) (X 2 1)) (3) (0) (X 3 1)) (4) (cqF (X 4) 6 (6))) (5) (cqF (X 5) 6 (6))) (6) (cqF (X 6) 6 (6))) (7) (cqF (X 7) 6 (6))) (8) (cqF (X 8) 12 (h))) (9) (cqF (X 9) 12 (h))) (8) (h) (X 8 (12 + h))) (9) (h) (X 9 (12 + h))) = (upA (upA (upA (upA (upA (upA (up2 (up2 X (2) (0) (X 2 1)) (3) (0) (X 3 1)) (4) (cqF (X 4) 6 (6))) (5) (cqF (X 5) 6 (6))) (6) (cqF (X 6) 6 (6))) (7) (cqF (X 7) 6 (6))) (8) (cqF (X 8) 12 ((h + 1)))) (9) (cqF (X 9) 12 ((h + 1)))) := (ok8_s X h); rw [hw] at hP; exact hP) (by have hw : (up2 (up2 (upA (upA (upA (upA (upA (upA (up2 (up2 X (2) (0) (X 2 1)) (3) (0) (X 3 1)) (4) (cqF (X 4) 6 (6))) (5) (cqF (X 5) 6 (6))) (6) (cqF (X 6) 6 (6))) (7) (cqF (X 7) 6 (6))) (8) (cqF (X 8) 12 (h))) (9) (cqF (X 9) 12 (h))) (8) (h) (X 8 (12 + h))) (9) (h) (X 9 (12 + h))) = (upA (upA (upA (upA (upA (upA (up2 (up2 X (2) (0) (X 2 1)) (3) (0) (X 3 1)) (4) (cqF (X 4) 6 (6))) (5) (cqF (X 5) 6 (6))) (6) (cqF (X 6) 6 (6))) (7) (cqF (X 7) 6 (6))) (8) (cqF (X 8) 12 ((h + 1)))) (9) (cqF (X 9) 12 ((h + 1)))) := (ok8_s X h); rw [hw] at hD; exact hD) hS
                exact loop180 (_ + 1) (0) (Nat.lt_succ_self _) (by omega) ls _ _ (lv_sub hl [1, 2, 0] rfl) (by have hw : (upA (upA (upA (upA (up2 (up2 X (2) (0) (X 2 1)) (3) (0) (X 3 1)) (4) (cqF (X 4) 6 (h))) (5) (cqF (X 5) 6 (h))) (6) (cqF (X 6) 6 (h))) (7) (cqF (X 7) 6 (h))) = (upA (upA (upA (upA (upA (upA (up2 (up2 X (2) (0) (X 2 1)) (3) (0) (X 3 1)) (4) (cqF (X 4) 6 (6))) (5) (cqF (X 5) 6 (6))) (6) (cqF (X 6) 6 (6))) (7) (cqF (X 7) 6 (6))) (8) (cqF (X 8) 12 ((0)))) (9) (cqF (X 9) 12 ((0)))) := (by rw [show h = 6 by omega]; exact ok8_0 X); rw [hw] at hP; exact hP) (by have hw : (upA (upA (upA (upA (up2 (up2 X (2) (0) (X 2 1)) (3) (0) (X 3 1)) (4) (cqF (X 4) 6 (h))) (5) (cqF (X 5) 6 (h))) (6) (cqF (X 6) 6 (h))) (7) (cqF (X 7) 6 (h))) = (upA (upA (upA (upA (upA (upA (up2 (up2 X (2) (0) (X 2 1)) (3) (0) (X 3 1)) (4) (cqF (X 4) 6 (6))) (5) (cqF (X 5) 6 (6))) (6) (cqF (X 6) 6 (6))) (7) (cqF (X 7) 6 (6))) (8) (cqF (X 8) 12 ((0)))) (9) (cqF (X 9) 12 ((0)))) := (by rw [show h = 6 by omega]; exact ok8_0 X); rw [hw] at hD; exact hD) hS
              · refine lv_aload_n hx hb dX10_town_112 rfl (lv_at hl 0 rfl) ?_
                refine gf_X10_20 hE hP (0) (gM_0 E a (upA (upA (upA (upA (up2 (up2 X (2) (0) (X 2 1)) (3) (0) (X 3 1)) (4) (cqF (X 4) 6 (h))) (5) (cqF (X 5) 6 (h))) (6) (cqF (X 6) 6 (h))) (7) (cqF (X 7) 6 (h))) tr) (v := .ref (a 4)) rfl dX10_town_113 ?_
                refine lv_iload_n hx hb dX10_town_116 rfl (lv_at hl 2 rfl) ?_
                refine lv_aload_n hx hb dX10_town_117 rfl (lv_at hl 0 rfl) ?_
                refine gf_X10_20 hE hP (0) (gM_0 E a (upA (upA (upA (upA (up2 (up2 X (2) (0) (X 2 1)) (3) (0) (X 3 1)) (4) (cqF (X 4) 6 (h))) (5) (cqF (X 5) 6 (h))) (6) (cqF (X 6) 6 (h))) (7) (cqF (X 7) 6 (h))) tr) (v := .ref (a 4)) rfl dX10_town_118 ?_
                refine lv_bipush (v := nI (6)) hx hb dX10_town_121 (by decide) ?_
                refine lv_iload_n hx hb dX10_town_123 rfl (lv_at hl 2 rfl) ?_
                refine lv_iadd hx hb dX10_town_124 ?_
                refine tp (nI_add _ _) ?_
                refine ald_i hE hP (4) (gM_4 E a (upA (upA (upA (upA (up2 (up2 X (2) (0) (X 2 1)) (3) (0) (X 3 1)) (4) (cqF (X 4) 6 (h))) (5) (cqF (X 5) 6 (h))) (6) (cqF (X 6) 6 (h))) (7) (cqF (X 7) 6 (h))) tr) (by omega) (by decide) (r := nI ((cqF (X 4) 6 (h)) (6 + h))) rfl dX10_town_125 ?_
                refine tp (show nI ((cqF (X 4) 6 (h)) (6 + h)) = nI (X 4 (6 + h)) by exact congrArg nI (cqF_at (X 4) (by omega) (by decide))) ?_
                refine ast_i hE hP hD hS (4) (gM_4 E a (upA (upA (upA (upA (up2 (up2 X (2) (0) (X 2 1)) (3) (0) (X 3 1)) (4) (cqF (X 4) 6 (h))) (5) (cqF (X 5) 6 (h))) (6) (cqF (X 6) 6 (h))) (7) (cqF (X 7) 6 (h))) tr) (by omega) (by decide) (sM_4 E a (upA (upA (upA (upA (up2 (up2 X (2) (0) (X 2 1)) (3) (0) (X 3 1)) (4) (cqF (X 4) 6 (h))) (5) (cqF (X 5) 6 (h))) (6) (cqF (X 6) 6 (h))) (7) (cqF (X 7) 6 (h))) tr (h) (X 4 (6 + h))) dX10_town_126 (fun H locs hP hD hS => ?_)
                refine lv_aload_n hx hb dX10_town_127 rfl (lv_at hl 0 rfl) ?_
                refine gf_X10_23 hE hP (0) (gM_0 E a (up2 (upA (upA (upA (upA (up2 (up2 X (2) (0) (X 2 1)) (3) (0) (X 3 1)) (4) (cqF (X 4) 6 (h))) (5) (cqF (X 5) 6 (h))) (6) (cqF (X 6) 6 (h))) (7) (cqF (X 7) 6 (h))) (4) (h) (X 4 (6 + h))) tr) (v := .ref (a 5)) rfl dX10_town_128 ?_
                refine lv_iload_n hx hb dX10_town_131 rfl (lv_at hl 2 rfl) ?_
                refine lv_aload_n hx hb dX10_town_132 rfl (lv_at hl 0 rfl) ?_
                refine gf_X10_23 hE hP (0) (gM_0 E a (up2 (upA (upA (upA (upA (up2 (up2 X (2) (0) (X 2 1)) (3) (0) (X 3 1)) (4) (cqF (X 4) 6 (h))) (5) (cqF (X 5) 6 (h))) (6) (cqF (X 6) 6 (h))) (7) (cqF (X 7) 6 (h))) (4) (h) (X 4 (6 + h))) tr) (v := .ref (a 5)) rfl dX10_town_133 ?_
                refine lv_bipush (v := nI (6)) hx hb dX10_town_136 (by decide) ?_
                refine lv_iload_n hx hb dX10_town_138 rfl (lv_at hl 2 rfl) ?_
                refine lv_iadd hx hb dX10_town_139 ?_
                refine tp (nI_add _ _) ?_
                refine ald_i hE hP (5) (gM_5 E a (up2 (upA (upA (upA (upA (up2 (up2 X (2) (0) (X 2 1)) (3) (0) (X 3 1)) (4) (cqF (X 4) 6 (h))) (5) (cqF (X 5) 6 (h))) (6) (cqF (X 6) 6 (h))) (7) (cqF (X 7) 6 (h))) (4) (h) (X 4 (6 + h))) tr) (by omega) (by decide) (r := nI ((cqF (X 5) 6 (h)) (6 + h))) rfl dX10_town_140 ?_
                refine tp (show nI ((cqF (X 5) 6 (h)) (6 + h)) = nI (X 5 (6 + h)) by exact congrArg nI (cqF_at (X 5) (by omega) (by decide))) ?_
                refine ast_i hE hP hD hS (5) (gM_5 E a (up2 (upA (upA (upA (upA (up2 (up2 X (2) (0) (X 2 1)) (3) (0) (X 3 1)) (4) (cqF (X 4) 6 (h))) (5) (cqF (X 5) 6 (h))) (6) (cqF (X 6) 6 (h))) (7) (cqF (X 7) 6 (h))) (4) (h) (X 4 (6 + h))) tr) (by omega) (by decide) (sM_5 E a (up2 (upA (upA (upA (upA (up2 (up2 X (2) (0) (X 2 1)) (3) (0) (X 3 1)) (4) (cqF (X 4) 6 (h))) (5) (cqF (X 5) 6 (h))) (6) (cqF (X 6) 6 (h))) (7) (cqF (X 7) 6 (h))) (4) (h) (X 4 (6 + h))) tr (h) (X 5 (6 + h))) dX10_town_141 (fun H locs hP hD hS => ?_)
                refine lv_aload_n hx hb dX10_town_142 rfl (lv_at hl 0 rfl) ?_
                refine gf_X10_26 hE hP (0) (gM_0 E a (up2 (up2 (upA (upA (upA (upA (up2 (up2 X (2) (0) (X 2 1)) (3) (0) (X 3 1)) (4) (cqF (X 4) 6 (h))) (5) (cqF (X 5) 6 (h))) (6) (cqF (X 6) 6 (h))) (7) (cqF (X 7) 6 (h))) (4) (h) (X 4 (6 + h))) (5) (h) (X 5 (6 + h))) tr) (v := .ref (a 6)) rfl dX10_town_143 ?_
                refine lv_iload_n hx hb dX10_town_146 rfl (lv_at hl 2 rfl) ?_
                refine lv_aload_n hx hb dX10_town_147 rfl (lv_at hl 0 rfl) ?_
                refine gf_X10_26 hE hP (0) (gM_0 E a (up2 (up2 (upA (upA (upA (upA (up2 (up2 X (2) (0) (X 2 1)) (3) (0) (X 3 1)) (4) (cqF (X 4) 6 (h))) (5) (cqF (X 5) 6 (h))) (6) (cqF (X 6) 6 (h))) (7) (cqF (X 7) 6 (h))) (4) (h) (X 4 (6 + h))) (5) (h) (X 5 (6 + h))) tr) (v := .ref (a 6)) rfl dX10_town_148 ?_
                refine lv_bipush (v := nI (6)) hx hb dX10_town_151 (by decide) ?_
                refine lv_iload_n hx hb dX10_town_153 rfl (lv_at hl 2 rfl) ?_
                refine lv_iadd hx hb dX10_town_154 ?_
                refine tp (nI_add _ _) ?_
                refine ald_i hE hP (6) (gM_6 E a (up2 (up2 (upA (upA (upA (upA (up2 (up2 X (2) (0) (X 2 1)) (3) (0) (X 3 1)) (4) (cqF (X 4) 6 (h))) (5) (cqF (X 5) 6 (h))) (6) (cqF (X 6) 6 (h))) (7) (cqF (X 7) 6 (h))) (4) (h) (X 4 (6 + h))) (5) (h) (X 5 (6 + h))) tr) (by omega) (by decide) (r := nI ((cqF (X 6) 6 (h)) (6 + h))) rfl dX10_town_155 ?_
                refine tp (show nI ((cqF (X 6) 6 (h)) (6 + h)) = nI (X 6 (6 + h)) by exact congrArg nI (cqF_at (X 6) (by omega) (by decide))) ?_
                refine ast_i hE hP hD hS (6) (gM_6 E a (up2 (up2 (upA (upA (upA (upA (up2 (up2 X (2) (0) (X 2 1)) (3) (0) (X 3 1)) (4) (cqF (X 4) 6 (h))) (5) (cqF (X 5) 6 (h))) (6) (cqF (X 6) 6 (h))) (7) (cqF (X 7) 6 (h))) (4) (h) (X 4 (6 + h))) (5) (h) (X 5 (6 + h))) tr) (by omega) (by decide) (sM_6 E a (up2 (up2 (upA (upA (upA (upA (up2 (up2 X (2) (0) (X 2 1)) (3) (0) (X 3 1)) (4) (cqF (X 4) 6 (h))) (5) (cqF (X 5) 6 (h))) (6) (cqF (X 6) 6 (h))) (7) (cqF (X 7) 6 (h))) (4) (h) (X 4 (6 + h))) (5) (h) (X 5 (6 + h))) tr (h) (X 6 (6 + h))) dX10_town_156 (fun H locs hP hD hS => ?_)
                refine lv_aload_n hx hb dX10_town_157 rfl (lv_at hl 0 rfl) ?_
                refine gf_X10_29 hE hP (0) (gM_0 E a (up2 (up2 (up2 (upA (upA (upA (upA (up2 (up2 X (2) (0) (X 2 1)) (3) (0) (X 3 1)) (4) (cqF (X 4) 6 (h))) (5) (cqF (X 5) 6 (h))) (6) (cqF (X 6) 6 (h))) (7) (cqF (X 7) 6 (h))) (4) (h) (X 4 (6 + h))) (5) (h) (X 5 (6 + h))) (6) (h) (X 6 (6 + h))) tr) (v := .ref (a 7)) rfl dX10_town_158 ?_
                refine lv_iload_n hx hb dX10_town_161 rfl (lv_at hl 2 rfl) ?_
                refine lv_aload_n hx hb dX10_town_162 rfl (lv_at hl 0 rfl) ?_
                refine gf_X10_29 hE hP (0) (gM_0 E a (up2 (up2 (up2 (upA (upA (upA (upA (up2 (up2 X (2) (0) (X 2 1)) (3) (0) (X 3 1)) (4) (cqF (X 4) 6 (h))) (5) (cqF (X 5) 6 (h))) (6) (cqF (X 6) 6 (h))) (7) (cqF (X 7) 6 (h))) (4) (h) (X 4 (6 + h))) (5) (h) (X 5 (6 + h))) (6) (h) (X 6 (6 + h))) tr) (v := .ref (a 7)) rfl dX10_town_163 ?_
                refine lv_bipush (v := nI (6)) hx hb dX10_town_166 (by decide) ?_
                refine lv_iload_n hx hb dX10_town_168 rfl (lv_at hl 2 rfl) ?_
                refine lv_iadd hx hb dX10_town_169 ?_
                refine tp (nI_add _ _) ?_
                refine ald_i hE hP (7) (gM_7 E a (up2 (up2 (up2 (upA (upA (upA (upA (up2 (up2 X (2) (0) (X 2 1)) (3) (0) (X 3 1)) (4) (cqF (X 4) 6 (h))) (5) (cqF (X 5) 6 (h))) (6) (cqF (X 6) 6 (h))) (7) (cqF (X 7) 6 (h))) (4) (h) (X 4 (6 + h))) (5) (h) (X 5 (6 + h))) (6) (h) (X 6 (6 + h))) tr) (by omega) (by decide) (r := nI ((cqF (X 7) 6 (h)) (6 + h))) rfl dX10_town_170 ?_
                refine tp (show nI ((cqF (X 7) 6 (h)) (6 + h)) = nI (X 7 (6 + h)) by exact congrArg nI (cqF_at (X 7) (by omega) (by decide))) ?_
                refine ast_i hE hP hD hS (7) (gM_7 E a (up2 (up2 (up2 (upA (upA (upA (upA (up2 (up2 X (2) (0) (X 2 1)) (3) (0) (X 3 1)) (4) (cqF (X 4) 6 (h))) (5) (cqF (X 5) 6 (h))) (6) (cqF (X 6) 6 (h))) (7) (cqF (X 7) 6 (h))) (4) (h) (X 4 (6 + h))) (5) (h) (X 5 (6 + h))) (6) (h) (X 6 (6 + h))) tr) (by omega) (by decide) (sM_7 E a (up2 (up2 (up2 (upA (upA (upA (upA (up2 (up2 X (2) (0) (X 2 1)) (3) (0) (X 3 1)) (4) (cqF (X 4) 6 (h))) (5) (cqF (X 5) 6 (h))) (6) (cqF (X 6) 6 (h))) (7) (cqF (X 7) 6 (h))) (4) (h) (X 4 (6 + h))) (5) (h) (X 5 (6 + h))) (6) (h) (X 6 (6 + h))) tr (h) (X 7 (6 + h))) dX10_town_171 (fun H locs hP hD hS => ?_)
                refine lv_iinc (v := nI (h + 1)) (lv' := [(2, .int (nI (h + 1))), (0, .ref (a 0)), (1, .int (nI (i)))]) hx hb dX10_town_172 hl (k := 2) rfl (ii1_N _) (by decide) rfl (fun ls hl => ?_)
                refine lv_goto (tgt := 106) hx hb dX10_town_175 (by decide) ?_
                exact ih106 (h + 1) (by omega) (by omega) ls _ _ (lv_sub hl [1, 2, 0] rfl) (by have hw : (up2 (up2 (up2 (up2 (upA (upA (upA (upA (up2 (up2 X (2) (0) (X 2 1)) (3) (0) (X 3 1)) (4) (cqF (X 4) 6 (h))) (5) (cqF (X 5) 6 (h))) (6) (cqF (X 6) 6 (h))) (7) (cqF (X 7) 6 (h))) (4) (h) (X 4 (6 + h))) (5) (h) (X 5 (6 + h))) (6) (h) (X 6 (6 + h))) (7) (h) (X 7 (6 + h))) = (upA (upA (upA (upA (up2 (up2 X (2) (0) (X 2 1)) (3) (0) (X 3 1)) (4) (cqF (X 4) 6 ((h + 1)))) (5) (cqF (X 5) 6 ((h + 1)))) (6) (cqF (X 6) 6 ((h + 1)))) (7) (cqF (X 7) 6 ((h + 1)))) := (ok4_s X h); rw [hw] at hP; exact hP) (by have hw : (up2 (up2 (up2 (up2 (upA (upA (upA (upA (up2 (up2 X (2) (0) (X 2 1)) (3) (0) (X 3 1)) (4) (cqF (X 4) 6 (h))) (5) (cqF (X 5) 6 (h))) (6) (cqF (X 6) 6 (h))) (7) (cqF (X 7) 6 (h))) (4) (h) (X 4 (6 + h))) (5) (h) (X 5 (6 + h))) (6) (h) (X 6 (6 + h))) (7) (h) (X 7 (6 + h))) = (upA (upA (upA (upA (up2 (up2 X (2) (0) (X 2 1)) (3) (0) (X 3 1)) (4) (cqF (X 4) 6 ((h + 1)))) (5) (cqF (X 5) 6 ((h + 1)))) (6) (cqF (X 6) 6 ((h + 1)))) (7) (cqF (X 7) 6 ((h + 1)))) := (ok4_s X h); rw [hw] at hD; exact hD) hS
          exact loop106 (_ + 1) (0) (Nat.lt_succ_self _) (by omega) ls _ _ (lv_sub hl [1, 2, 0] rfl) (by have hw : (up2 (up2 X (2) (0) (X (2) (1))) (3) (0) (X (3) (1))) = (upA (upA (upA (upA (up2 (up2 X (2) (0) (X 2 1)) (3) (0) (X 3 1)) (4) (cqF (X 4) 6 ((0)))) (5) (cqF (X 5) 6 ((0)))) (6) (cqF (X 6) 6 ((0)))) (7) (cqF (X 7) 6 ((0)))) := (by rw [cqF_0, cqF_0, cqF_0, cqF_0]; exact ok4_0 X); rw [hw] at hP; exact hP) (by have hw : (up2 (up2 X (2) (0) (X (2) (1))) (3) (0) (X (3) (1))) = (upA (upA (upA (upA (up2 (up2 X (2) (0) (X 2 1)) (3) (0) (X 3 1)) (4) (cqF (X 4) 6 ((0)))) (5) (cqF (X 5) 6 ((0)))) (6) (cqF (X 6) 6 ((0)))) (7) (cqF (X 7) 6 ((0)))) := (by rw [cqF_0, cqF_0, cqF_0, cqF_0]; exact ok4_0 X); rw [hw] at hD; exact hD) hS
        · have htX : (X, i) = twJ I := (tw_e (fun z => by omega)).symm.trans htw
          refine lv_bipush (v := (-10)) hx hb dX10_town_72 (by decide) ?_
          refine lv_aload_n hx hb dX10_town_74 rfl (lv_at hl 0 rfl) ?_
          refine gf_X10_92 hE hP (0) (gM_0 E a X tr) (v := .int (rN (X (14) (0)))) rfl dX10_town_75 ?_
          refine lv_isub hx hb dX10_town_78 ?_
          have hw : X = (toJ I) := by unfold toJ; rw [← htX]; exact (if_neg (show ¬ X 14 0 = 0 by omega)).symm
          have hP := Eq.mp (congrArg (fun q => va_P E.1 vwCl (WM E a q tr) H) hw) hP
          have hD := Eq.mp (congrArg (fun q => va_D A (WM E a q tr)) hw) hD
          exact ret_i hE (r := (((-10)) - (rN (X (14) (0))))) (by unfold r_town; rw [← htX, if_neg (show ¬ X 14 0 = 0 by omega)]) hP hD hS dX10_town_79
      · skip
        refine lv_aload_n hx hb dX10_town_45 rfl (lv_at hl 0 rfl) ?_
        refine gf_X10_86 hE hP (0) (gM_0 E a X tr) (v := .int (nI (X (12) (0)))) rfl dX10_town_46 ?_
        refine lv_iconst (v := nI (3)) hx hb dX10_town_49 (by decide) ?_
        refine bN_eq (tgt := 63) hx hb (by omega) (by omega) dX10_town_50 (by decide) (fun c50 => ?_) (fun c50 => ?_)
        · refine lv_aload_n hx hb dX10_town_63 rfl (lv_at hl 0 rfl) ?_
          refine gf_X10_92 hE hP (0) (gM_0 E a X tr) (v := .int (rN (X (14) (0)))) rfl dX10_town_64 ?_
          refine lv_bipush (v := (-9)) hx hb dX10_town_67 (by decide) ?_
          refine bQ9_eq (tgt := 80) hx hb (by omega) dX10_town_69 (by decide) (fun c69 => ?_) (fun c69 => ?_)
          · have htX : (X, i) = twJ I := (tw_e (fun z => by omega)).symm.trans htw
            refine lv_aload_n hx hb dX10_town_80 rfl (lv_at hl 0 rfl) ?_
            refine gf_X10_13 hE hP (0) (gM_0 E a X tr) (v := .ref (a 2)) rfl dX10_town_81 ?_
            refine lv_iconst (v := nI (0)) hx hb dX10_town_84 (by decide) ?_
            refine lv_aload_n hx hb dX10_town_85 rfl (lv_at hl 0 rfl) ?_
            refine gf_X10_13 hE hP (0) (gM_0 E a X tr) (v := .ref (a 2)) rfl dX10_town_86 ?_
            refine lv_iconst (v := nI (1)) hx hb dX10_town_89 (by decide) ?_
            refine ald_i hE hP (2) (gM_2 E a X tr) (by omega) (by decide) (r := nI (X (2) (1))) rfl dX10_town_90 ?_
            refine ast_i hE hP hD hS (2) (gM_2 E a X tr) (by omega) (by decide) (sM_2 E a X tr (0) (X (2) (1))) dX10_town_91 (fun H locs hP hD hS => ?_)
            refine lv_aload_n hx hb dX10_town_92 rfl (lv_at hl 0 rfl) ?_
            refine gf_X10_17 hE hP (0) (gM_0 E a (up2 X (2) (0) (X (2) (1))) tr) (v := .ref (a 3)) rfl dX10_town_93 ?_
            refine lv_iconst (v := nI (0)) hx hb dX10_town_96 (by decide) ?_
            refine lv_aload_n hx hb dX10_town_97 rfl (lv_at hl 0 rfl) ?_
            refine gf_X10_17 hE hP (0) (gM_0 E a (up2 X (2) (0) (X (2) (1))) tr) (v := .ref (a 3)) rfl dX10_town_98 ?_
            refine lv_iconst (v := nI (1)) hx hb dX10_town_101 (by decide) ?_
            refine ald_i hE hP (3) (gM_3 E a (up2 X (2) (0) (X (2) (1))) tr) (by omega) (by decide) (r := nI (X (3) (1))) rfl dX10_town_102 ?_
            refine ast_i hE hP hD hS (3) (gM_3 E a (up2 X (2) (0) (X (2) (1))) tr) (by omega) (by decide) (sM_3 E a (up2 X (2) (0) (X (2) (1))) tr (0) (X (3) (1))) dX10_town_103 (fun H locs hP hD hS => ?_)
            refine lv_iconst (v := nI (0)) hx hb dX10_town_104 (by decide) ?_
            refine lv_istore_n (lv' := [(2, .int (nI (0))), (0, .ref (a 0)), (1, .int (nI (i)))]) hx hb dX10_town_105 rfl hl (by decide) rfl (fun ls hl => ?_)
            have loop106 : ∀ (fu106 : Nat) (h : Nat), 6 - h < fu106 → (h ≤ 6) → ∀ (ls : Array Slot) (H : Heap) (locs : List Loc), lv_has ls 3 [(0, .ref (a 0)), (1, .int (nI (i))), (2, .int (nI (h)))] → va_P E.1 vwCl (WM E a (upA (upA (upA (upA (up2 (up2 X (2) (0) (X 2 1)) (3) (0) (X 3 1)) (4) (cqF (X 4) 6 (h))) (5) (cqF (X 5) 6 (h))) (6) (cqF (X 6) 6 (h))) (7) (cqF (X 7) 6 (h))) tr) H → va_D A (WM E a (upA (upA (upA (upA (up2 (up2 X (2) (0) (X 2 1)) (3) (0) (X 3 1)) (4) (cqF (X 4) 6 (h))) (5) (cqF (X 5) 6 (h))) (6) (cqF (X 6) 6 (h))) (7) (cqF (X 7) 6 (h))) tr) → va_S A s.heap H locs → W p l e (rmL 7) s m args below meth c H locs 0 0 (RQ E below args s A (some (.int (r_town I))) (WM E a (toJ I) tr)) (F0 m 106 ls []) := by
              intro fu106
              induction fu106 with
              | zero => intro h h; exact absurd h (Nat.not_lt_zero _)
              | succ fu106 ih106 =>
                intro h hfu106 hh ls H locs hl hP hD hS
                refine lv_iload_n hx hb dX10_town_106 rfl (lv_at hl 2 rfl) ?_
                refine lv_bipush (v := nI (6)) hx hb dX10_town_107 (by decide) ?_
                refine bN_ge (tgt := 178) hx hb (by omega) (by omega) dX10_town_109 (by decide) (fun c109 => ?_) (fun c109 => ?_)
                · refine lv_iconst (v := nI (0)) hx hb dX10_town_178 (by decide) ?_
                  refine lv_istore_n (lv' := [(2, .int (nI (0))), (0, .ref (a 0)), (1, .int (nI (i)))]) hx hb dX10_town_179 rfl hl (by decide) rfl (fun ls hl => ?_)
                  have loop180 : ∀ (fu180 : Nat) (h : Nat), 12 - h < fu180 → (h ≤ 12) → ∀ (ls : Array Slot) (H : Heap) (locs : List Loc), lv_has ls 3 [(0, .ref (a 0)), (1, .int (nI (i))), (2, .int (nI (h)))] → va_P E.1 vwCl (WM E a (upA (upA (upA (upA (upA (upA (up2 (up2 X (2) (0) (X 2 1)) (3) (0) (X 3 1)) (4) (cqF (X 4) 6 (6))) (5) (cqF (X 5) 6 (6))) (6) (cqF (X 6) 6 (6))) (7) (cqF (X 7) 6 (6))) (8) (cqF (X 8) 12 (h))) (9) (cqF (X 9) 12 (h))) tr) H → va_D A (WM E a (upA (upA (upA (upA (upA (upA (up2 (up2 X (2) (0) (X 2 1)) (3) (0) (X 3 1)) (4) (cqF (X 4) 6 (6))) (5) (cqF (X 5) 6 (6))) (6) (cqF (X 6) 6 (6))) (7) (cqF (X 7) 6 (6))) (8) (cqF (X 8) 12 (h))) (9) (cqF (X 9) 12 (h))) tr) → va_S A s.heap H locs → W p l e (rmL 7) s m args below meth c H locs 0 0 (RQ E below args s A (some (.int (r_town I))) (WM E a (toJ I) tr)) (F0 m 180 ls []) := by
                    intro fu180
                    induction fu180 with
                    | zero => intro h h; exact absurd h (Nat.not_lt_zero _)
                    | succ fu180 ih180 =>
                      intro h hfu180 hh ls H locs hl hP hD hS
                      refine lv_iload_n hx hb dX10_town_180 rfl (lv_at hl 2 rfl) ?_
                      refine lv_bipush (v := nI (12)) hx hb dX10_town_181 (by decide) ?_
                      refine bN_ge (tgt := 222) hx hb (by omega) (by omega) dX10_town_183 (by decide) (fun c183 => ?_) (fun c183 => ?_)
                      · refine lv_iconst (v := nI (0)) hx hb dX10_town_222 (by decide) ?_
                        refine lv_istore_n (lv' := [(2, .int (nI (0))), (0, .ref (a 0)), (1, .int (nI (i)))]) hx hb dX10_town_223 rfl hl (by decide) rfl (fun ls hl => ?_)
                        have loop224 : ∀ (fu224 : Nat) (h : Nat), 28 - h < fu224 → (h ≤ 28) → ∀ (ls : Array Slot) (H : Heap) (locs : List Loc), lv_has ls 3 [(0, .ref (a 0)), (1, .int (nI (i))), (2, .int (nI (h)))] → va_P E.1 vwCl (WM E a (upA (upA (upA (upA (upA (upA (upA (up2 (up2 X (2) (0) (X 2 1)) (3) (0) (X 3 1)) (4) (cqF (X 4) 6 (6))) (5) (cqF (X 5) 6 (6))) (6) (cqF (X 6) 6 (6))) (7) (cqF (X 7) 6 (6))) (8) (cqF (X 8) 12 (12))) (9) (cqF (X 9) 12 (12))) (16) (flN (X 16) (h) 0)) tr) H → va_D A (WM E a (upA (upA (upA (upA (upA (upA (upA (up2 (up2 X (2) (0) (X 2 1)) (3) (0) (X 3 1)) (4) (cqF (X 4) 6 (6))) (5) (cqF (X 5) 6 (6))) (6) (cqF (X 6) 6 (6))) (7) (cqF (X 7) 6 (6))) (8) (cqF (X 8) 12 (12))) (9) (cqF (X 9) 12 (12))) (16) (flN (X 16) (h) 0)) tr) → va_S A s.heap H locs → W p l e (rmL 7) s m args below meth c H locs 0 0 (RQ E below args s A (some (.int (r_town I))) (WM E a (toJ I) tr)) (F0 m 224 ls []) := by
                          intro fu224
                          induction fu224 with
                          | zero => intro h h; exact absurd h (Nat.not_lt_zero _)
                          | succ fu224 ih224 =>
                            intro h hfu224 hh ls H locs hl hP hD hS
                            refine lv_iload_n hx hb dX10_town_224 rfl (lv_at hl 2 rfl) ?_
                            refine lv_bipush (v := nI (28)) hx hb dX10_town_225 (by decide) ?_
                            refine bN_ge (tgt := 243) hx hb (by omega) (by omega) dX10_town_227 (by decide) (fun c227 => ?_) (fun c227 => ?_)
                            · refine lv_aload_n hx hb dX10_town_243 rfl (lv_at hl 0 rfl) ?_
                              refine lv_iconst (v := nI (0)) hx hb dX10_town_244 (by decide) ?_
                              refine pf_X10_116 hE hP hD hS (0) (gM_0 E a (upA (upA (upA (upA (upA (upA (upA (up2 (up2 X (2) (0) (X 2 1)) (3) (0) (X 3 1)) (4) (cqF (X 4) 6 (6))) (5) (cqF (X 5) 6 (6))) (6) (cqF (X 6) 6 (6))) (7) (cqF (X 7) 6 (6))) (8) (cqF (X 8) 12 (12))) (9) (cqF (X 9) 12 (12))) (16) (flN (X 16) (h) 0)) tr) rfl rfl (Nat.le_of_ble_eq_true rfl) (sM_0_20 E a (upA (upA (upA (upA (upA (upA (upA (up2 (up2 X (2) (0) (X 2 1)) (3) (0) (X 3 1)) (4) (cqF (X 4) 6 (6))) (5) (cqF (X 5) 6 (6))) (6) (cqF (X 6) 6 (6))) (7) (cqF (X 7) 6 (6))) (8) (cqF (X 8) 12 (12))) (9) (cqF (X 9) 12 (12))) (16) (flN (X 16) (h) 0)) tr (0)) dX10_town_245 (fun H locs hP hD hS => ?_)
                              refine lv_aload_n hx hb dX10_town_248 rfl (lv_at hl 0 rfl) ?_
                              refine lv_iconst (v := nI (0)) hx hb dX10_town_249 (by decide) ?_
                              refine pf_X10_119 hE hP hD hS (0) (gM_0 E a (up2 (upA (upA (upA (upA (upA (upA (upA (up2 (up2 X (2) (0) (X 2 1)) (3) (0) (X 3 1)) (4) (cqF (X 4) 6 (6))) (5) (cqF (X 5) 6 (6))) (6) (cqF (X 6) 6 (6))) (7) (cqF (X 7) 6 (6))) (8) (cqF (X 8) 12 (12))) (9) (cqF (X 9) 12 (12))) (16) (flN (X 16) (h) 0)) (19) (0) (0)) tr) rfl rfl (Nat.le_of_ble_eq_true rfl) (sM_0_25 E a (up2 (upA (upA (upA (upA (upA (upA (upA (up2 (up2 X (2) (0) (X 2 1)) (3) (0) (X 3 1)) (4) (cqF (X 4) 6 (6))) (5) (cqF (X 5) 6 (6))) (6) (cqF (X 6) 6 (6))) (7) (cqF (X 7) 6 (6))) (8) (cqF (X 8) 12 (12))) (9) (cqF (X 9) 12 (12))) (16) (flN (X 16) (h) 0)) (19) (0) (0)) tr (0)) dX10_town_250 (fun H locs hP hD hS => ?_)
                              refine lv_aload_n hx hb dX10_town_253 rfl (lv_at hl 0 rfl) ?_
                              refine lv_iconst (v := nI (0)) hx hb dX10_town_254 (by decide) ?_
                              refine pf_X10_122 hE hP hD hS (0) (gM_0 E a (up2 (up2 (upA (upA (upA (upA (upA (upA (upA (up2 (up2 X (2) (0) (X 2 1)) (3) (0) (X 3 1)) (4) (cqF (X 4) 6 (6))) (5) (cqF (X 5) 6 (6))) (6) (cqF (X 6) 6 (6))) (7) (cqF (X 7) 6 (6))) (8) (cqF (X 8) 12 (12))) (9) (cqF (X 9) 12 (12))) (16) (flN (X 16) (h) 0)) (19) (0) (0)) (24) (0) (0)) tr) rfl rfl (Nat.le_of_ble_eq_true rfl) (sM_0_27 E a (up2 (up2 (upA (upA (upA (upA (upA (upA (upA (up2 (up2 X (2) (0) (X 2 1)) (3) (0) (X 3 1)) (4) (cqF (X 4) 6 (6))) (5) (cqF (X 5) 6 (6))) (6) (cqF (X 6) 6 (6))) (7) (cqF (X 7) 6 (6))) (8) (cqF (X 8) 12 (12))) (9) (cqF (X 9) 12 (12))) (16) (flN (X 16) (h) 0)) (19) (0) (0)) (24) (0) (0)) tr (0)) dX10_town_255 (fun H locs hP hD hS => ?_)
                              refine lv_aload_n hx hb dX10_town_258 rfl (lv_at hl 0 rfl) ?_
                              refine gf_X10_41 hE hP (0) (gM_0 E a (up2 (up2 (up2 (upA (upA (upA (upA (upA (upA (upA (up2 (up2 X (2) (0) (X 2 1)) (3) (0) (X 3 1)) (4) (cqF (X 4) 6 (6))) (5) (cqF (X 5) 6 (6))) (6) (cqF (X 6) 6 (6))) (7) (cqF (X 7) 6 (6))) (8) (cqF (X 8) 12 (12))) (9) (cqF (X 9) 12 (12))) (16) (flN (X 16) (h) 0)) (19) (0) (0)) (24) (0) (0)) (26) (0) (0)) tr) (v := .ref (a 11)) rfl dX10_town_259 ?_
                              refine lv_iconst (v := nI (0)) hx hb dX10_town_262 (by decide) ?_
                              refine lv_iconst (v := nI (0)) hx hb dX10_town_263 (by decide) ?_
                              refine ast_z hE hP hD hS (11) (gM_11 E a (up2 (up2 (up2 (upA (upA (upA (upA (upA (upA (upA (up2 (up2 X (2) (0) (X 2 1)) (3) (0) (X 3 1)) (4) (cqF (X 4) 6 (6))) (5) (cqF (X 5) 6 (6))) (6) (cqF (X 6) 6 (6))) (7) (cqF (X 7) 6 (6))) (8) (cqF (X 8) 12 (12))) (9) (cqF (X 9) 12 (12))) (16) (flN (X 16) (h) 0)) (19) (0) (0)) (24) (0) (0)) (26) (0) (0)) tr) (by omega) (by decide) (sM_11 E a (up2 (up2 (up2 (upA (upA (upA (upA (upA (upA (upA (up2 (up2 X (2) (0) (X 2 1)) (3) (0) (X 3 1)) (4) (cqF (X 4) 6 (6))) (5) (cqF (X 5) 6 (6))) (6) (cqF (X 6) 6 (6))) (7) (cqF (X 7) 6 (6))) (8) (cqF (X 8) 12 (12))) (9) (cqF (X 9) 12 (12))) (16) (flN (X 16) (h) 0)) (19) (0) (0)) (24) (0) (0)) (26) (0) (0)) tr (0) (0) (by omega)) dX10_town_264 (fun H locs hP hD hS => ?_)
                              refine lv_aload_n hx hb dX10_town_265 rfl (lv_at hl 0 rfl) ?_
                              refine gf_X10_41 hE hP (0) (gM_0 E a (up2 (up2 (up2 (up2 (upA (upA (upA (upA (upA (upA (upA (up2 (up2 X (2) (0) (X 2 1)) (3) (0) (X 3 1)) (4) (cqF (X 4) 6 (6))) (5) (cqF (X 5) 6 (6))) (6) (cqF (X 6) 6 (6))) (7) (cqF (X 7) 6 (6))) (8) (cqF (X 8) 12 (12))) (9) (cqF (X 9) 12 (12))) (16) (flN (X 16) (h) 0)) (19) (0) (0)) (24) (0) (0)) (26) (0) (0)) (17) (0) (0)) tr) (v := .ref (a 11)) rfl dX10_town_266 ?_
                              refine lv_iconst (v := nI (1)) hx hb dX10_town_269 (by decide) ?_
                              refine lv_iconst (v := nI (0)) hx hb dX10_town_270 (by decide) ?_
                              refine ast_z hE hP hD hS (11) (gM_11 E a (up2 (up2 (up2 (up2 (upA (upA (upA (upA (upA (upA (upA (up2 (up2 X (2) (0) (X 2 1)) (3) (0) (X 3 1)) (4) (cqF (X 4) 6 (6))) (5) (cqF (X 5) 6 (6))) (6) (cqF (X 6) 6 (6))) (7) (cqF (X 7) 6 (6))) (8) (cqF (X 8) 12 (12))) (9) (cqF (X 9) 12 (12))) (16) (flN (X 16) (h) 0)) (19) (0) (0)) (24) (0) (0)) (26) (0) (0)) (17) (0) (0)) tr) (by omega) (by decide) (sM_11 E a (up2 (up2 (up2 (up2 (upA (upA (upA (upA (upA (upA (upA (up2 (up2 X (2) (0) (X 2 1)) (3) (0) (X 3 1)) (4) (cqF (X 4) 6 (6))) (5) (cqF (X 5) 6 (6))) (6) (cqF (X 6) 6 (6))) (7) (cqF (X 7) 6 (6))) (8) (cqF (X 8) 12 (12))) (9) (cqF (X 9) 12 (12))) (16) (flN (X 16) (h) 0)) (19) (0) (0)) (24) (0) (0)) (26) (0) (0)) (17) (0) (0)) tr (1) (0) (by omega)) dX10_town_271 (fun H locs hP hD hS => ?_)
                              refine lv_aload_n hx hb dX10_town_272 rfl (lv_at hl 0 rfl) ?_
                              refine lv_iconst (v := nI (0)) hx hb dX10_town_273 (by decide) ?_
                              refine pf_X10_67 hE hP hD hS (0) (gM_0 E a (up2 (up2 (up2 (up2 (up2 (upA (upA (upA (upA (upA (upA (upA (up2 (up2 X (2) (0) (X 2 1)) (3) (0) (X 3 1)) (4) (cqF (X 4) 6 (6))) (5) (cqF (X 5) 6 (6))) (6) (cqF (X 6) 6 (6))) (7) (cqF (X 7) 6 (6))) (8) (cqF (X 8) 12 (12))) (9) (cqF (X 9) 12 (12))) (16) (flN (X 16) (h) 0)) (19) (0) (0)) (24) (0) (0)) (26) (0) (0)) (17) (0) (0)) (17) (1) (0)) tr) rfl rfl (Nat.le_of_ble_eq_true rfl) (sM_0_2 E a (up2 (up2 (up2 (up2 (up2 (upA (upA (upA (upA (upA (upA (upA (up2 (up2 X (2) (0) (X 2 1)) (3) (0) (X 3 1)) (4) (cqF (X 4) 6 (6))) (5) (cqF (X 5) 6 (6))) (6) (cqF (X 6) 6 (6))) (7) (cqF (X 7) 6 (6))) (8) (cqF (X 8) 12 (12))) (9) (cqF (X 9) 12 (12))) (16) (flN (X 16) (h) 0)) (19) (0) (0)) (24) (0) (0)) (26) (0) (0)) (17) (0) (0)) (17) (1) (0)) tr (0)) dX10_town_274 (fun H locs hP hD hS => ?_)
                              refine lv_iload_n hx hb dX10_town_277 rfl (lv_at hl 1 rfl) ?_
                              have hw : (up2 (up2 (up2 (up2 (up2 (up2 (upA (upA (upA (upA (upA (upA (upA (up2 (up2 X (2) (0) (X 2 1)) (3) (0) (X 3 1)) (4) (cqF (X 4) 6 (6))) (5) (cqF (X 5) 6 (6))) (6) (cqF (X 6) 6 (6))) (7) (cqF (X 7) 6 (6))) (8) (cqF (X 8) 12 (12))) (9) (cqF (X 9) 12 (12))) (16) (flN (X 16) (h) 0)) (19) (0) (0)) (24) (0) (0)) (26) (0) (0)) (17) (0) (0)) (17) (1) (0)) (1) (0) (0)) = (toJ I) := by rw [show h = 28 by omega]; unfold toJ; rw [← htX]; exact (if_pos (show X 14 0 = 0 by omega)).symm
                              have hP := Eq.mp (congrArg (fun q => va_P E.1 vwCl (WM E a q tr) H) hw) hP
                              have hD := Eq.mp (congrArg (fun q => va_D A (WM E a q tr)) hw) hD
                              exact ret_i hE (r := nI (i)) (by unfold r_town; rw [← htX, if_pos (show X 14 0 = 0 by omega)]) hP hD hS dX10_town_278
                            · refine lv_aload_n hx hb dX10_town_230 rfl (lv_at hl 0 rfl) ?_
                              refine gf_X10_38 hE hP (0) (gM_0 E a (upA (upA (upA (upA (upA (upA (upA (up2 (up2 X (2) (0) (X 2 1)) (3) (0) (X 3 1)) (4) (cqF (X 4) 6 (6))) (5) (cqF (X 5) 6 (6))) (6) (cqF (X 6) 6 (6))) (7) (cqF (X 7) 6 (6))) (8) (cqF (X 8) 12 (12))) (9) (cqF (X 9) 12 (12))) (16) (flN (X 16) (h) 0)) tr) (v := .ref (a 10)) rfl dX10_town_231 ?_
                              refine lv_iload_n hx hb dX10_town_234 rfl (lv_at hl 2 rfl) ?_
                              refine lv_iconst (v := nI (0)) hx hb dX10_town_235 (by decide) ?_
                              refine ast_i hE hP hD hS (10) (gM_10 E a (upA (upA (upA (upA (upA (upA (upA (up2 (up2 X (2) (0) (X 2 1)) (3) (0) (X 3 1)) (4) (cqF (X 4) 6 (6))) (5) (cqF (X 5) 6 (6))) (6) (cqF (X 6) 6 (6))) (7) (cqF (X 7) 6 (6))) (8) (cqF (X 8) 12 (12))) (9) (cqF (X 9) 12 (12))) (16) (flN (X 16) (h) 0)) tr) (by omega) (by decide) (sM_10 E a (upA (upA (upA (upA (upA (upA (upA (up2 (up2 X (2) (0) (X 2 1)) (3) (0) (X 3 1)) (4) (cqF (X 4) 6 (6))) (5) (cqF (X 5) 6 (6))) (6) (cqF (X 6) 6 (6))) (7) (cqF (X 7) 6 (6))) (8) (cqF (X 8) 12 (12))) (9) (cqF (X 9) 12 (12))) (16) (flN (X 16) (h) 0)) tr (h) (0)) dX10_town_236 (fun H locs hP hD hS => ?_)
                              refine lv_iinc (v := nI (h + 1)) (lv' := [(2, .int (nI (h + 1))), (0, .ref (a 0)), (1, .int (nI (i)))]) hx hb dX10_town_237 hl (k := 2) rfl (ii1_N _) (by decide) rfl (fun ls hl => ?_)
                              refine lv_goto (tgt := 224) hx hb dX10_town_240 (by decide) ?_
                              exact ih224 (h + 1) (by omega) (by omega) ls _ _ (lv_sub hl [1, 2, 0] rfl) (by have hw : (up2 (upA (upA (upA (upA (upA (upA (upA (up2 (up2 X (2) (0) (X 2 1)) (3) (0) (X 3 1)) (4) (cqF (X 4) 6 (6))) (5) (cqF (X 5) 6 (6))) (6) (cqF (X 6) 6 (6))) (7) (cqF (X 7) 6 (6))) (8) (cqF (X 8) 12 (12))) (9) (cqF (X 9) 12 (12))) (16) (flN (X 16) (h) 0)) (16) (h) (0)) = (upA (upA (upA (upA (upA (upA (upA (up2 (up2 X (2) (0) (X 2 1)) (3) (0) (X 3 1)) (4) (cqF (X 4) 6 (6))) (5) (cqF (X 5) 6 (6))) (6) (cqF (X 6) 6 (6))) (7) (cqF (X 7) 6 (6))) (8) (cqF (X 8) 12 (12))) (9) (cqF (X 9) 12 (12))) (16) (flN (X 16) ((h + 1)) 0)) := (by rw [up2_upA, flN_s0]); rw [hw] at hP; exact hP) (by have hw : (up2 (upA (upA (upA (upA (upA (upA (upA (up2 (up2 X (2) (0) (X 2 1)) (3) (0) (X 3 1)) (4) (cqF (X 4) 6 (6))) (5) (cqF (X 5) 6 (6))) (6) (cqF (X 6) 6 (6))) (7) (cqF (X 7) 6 (6))) (8) (cqF (X 8) 12 (12))) (9) (cqF (X 9) 12 (12))) (16) (flN (X 16) (h) 0)) (16) (h) (0)) = (upA (upA (upA (upA (upA (upA (upA (up2 (up2 X (2) (0) (X 2 1)) (3) (0) (X 3 1)) (4) (cqF (X 4) 6 (6))) (5) (cqF (X 5) 6 (6))) (6) (cqF (X 6) 6 (6))) (7) (cqF (X 7) 6 (6))) (8) (cqF (X 8) 12 (12))) (9) (cqF (X 9) 12 (12))) (16) (flN (X 16) ((h + 1)) 0)) := (by rw [up2_upA, flN_s0]); rw [hw] at hD; exact hD) hS
                        exact loop224 (_ + 1) (0) (Nat.lt_succ_self _) (by omega) ls _ _ (lv_sub hl [1, 2, 0] rfl) (by have hw : (upA (upA (upA (upA (upA (upA (up2 (up2 X (2) (0) (X 2 1)) (3) (0) (X 3 1)) (4) (cqF (X 4) 6 (6))) (5) (cqF (X 5) 6 (6))) (6) (cqF (X 6) 6 (6))) (7) (cqF (X 7) 6 (6))) (8) (cqF (X 8) 12 (h))) (9) (cqF (X 9) 12 (h))) = (upA (upA (upA (upA (upA (upA (upA (up2 (up2 X (2) (0) (X 2 1)) (3) (0) (X 3 1)) (4) (cqF (X 4) 6 (6))) (5) (cqF (X 5) 6 (6))) (6) (cqF (X 6) 6 (6))) (7) (cqF (X 7) 6 (6))) (8) (cqF (X 8) 12 (12))) (9) (cqF (X 9) 12 (12))) (16) (flN (X 16) ((0)) 0)) := (by rw [show h = 12 by omega]; exact okN_0 X); rw [hw] at hP; exact hP) (by have hw : (upA (upA (upA (upA (upA (upA (up2 (up2 X (2) (0) (X 2 1)) (3) (0) (X 3 1)) (4) (cqF (X 4) 6 (6))) (5) (cqF (X 5) 6 (6))) (6) (cqF (X 6) 6 (6))) (7) (cqF (X 7) 6 (6))) (8) (cqF (X 8) 12 (h))) (9) (cqF (X 9) 12 (h))) = (upA (upA (upA (upA (upA (upA (upA (up2 (up2 X (2) (0) (X 2 1)) (3) (0) (X 3 1)) (4) (cqF (X 4) 6 (6))) (5) (cqF (X 5) 6 (6))) (6) (cqF (X 6) 6 (6))) (7) (cqF (X 7) 6 (6))) (8) (cqF (X 8) 12 (12))) (9) (cqF (X 9) 12 (12))) (16) (flN (X 16) ((0)) 0)) := (by rw [show h = 12 by omega]; exact okN_0 X); rw [hw] at hD; exact hD) hS
                      · refine lv_aload_n hx hb dX10_town_186 rfl (lv_at hl 0 rfl) ?_
                        refine gf_X10_32 hE hP (0) (gM_0 E a (upA (upA (upA (upA (upA (upA (up2 (up2 X (2) (0) (X 2 1)) (3) (0) (X 3 1)) (4) (cqF (X 4) 6 (6))) (5) (cqF (X 5) 6 (6))) (6) (cqF (X 6) 6 (6))) (7) (cqF (X 7) 6 (6))) (8) (cqF (X 8) 12 (h))) (9) (cqF (X 9) 12 (h))) tr) (v := .ref (a 8)) rfl dX10_town_187 ?_
                        refine lv_iload_n hx hb dX10_town_190 rfl (lv_at hl 2 rfl) ?_
                        refine lv_aload_n hx hb dX10_town_191 rfl (lv_at hl 0 rfl) ?_
                        refine gf_X10_32 hE hP (0) (gM_0 E a (upA (upA (upA (upA (upA (upA (up2 (up2 X (2) (0) (X 2 1)) (3) (0) (X 3 1)) (4) (cqF (X 4) 6 (6))) (5) (cqF (X 5) 6 (6))) (6) (cqF (X 6) 6 (6))) (7) (cqF (X 7) 6 (6))) (8) (cqF (X 8) 12 (h))) (9) (cqF (X 9) 12 (h))) tr) (v := .ref (a 8)) rfl dX10_town_192 ?_
                        refine lv_bipush (v := nI (12)) hx hb dX10_town_195 (by decide) ?_
                        refine lv_iload_n hx hb dX10_town_197 rfl (lv_at hl 2 rfl) ?_
                        refine lv_iadd hx hb dX10_town_198 ?_
                        refine tp (nI_add _ _) ?_
                        refine ald_i hE hP (8) (gM_8 E a (upA (upA (upA (upA (upA (upA (up2 (up2 X (2) (0) (X 2 1)) (3) (0) (X 3 1)) (4) (cqF (X 4) 6 (6))) (5) (cqF (X 5) 6 (6))) (6) (cqF (X 6) 6 (6))) (7) (cqF (X 7) 6 (6))) (8) (cqF (X 8) 12 (h))) (9) (cqF (X 9) 12 (h))) tr) (by omega) (by decide) (r := nI ((cqF (X 8) 12 (h)) (12 + h))) rfl dX10_town_199 ?_
                        refine tp (show nI ((cqF (X 8) 12 (h)) (12 + h)) = nI (X 8 (12 + h)) by exact congrArg nI (cqF_at (X 8) (by omega) (by decide))) ?_
                        refine ast_i hE hP hD hS (8) (gM_8 E a (upA (upA (upA (upA (upA (upA (up2 (up2 X (2) (0) (X 2 1)) (3) (0) (X 3 1)) (4) (cqF (X 4) 6 (6))) (5) (cqF (X 5) 6 (6))) (6) (cqF (X 6) 6 (6))) (7) (cqF (X 7) 6 (6))) (8) (cqF (X 8) 12 (h))) (9) (cqF (X 9) 12 (h))) tr) (by omega) (by decide) (sM_8 E a (upA (upA (upA (upA (upA (upA (up2 (up2 X (2) (0) (X 2 1)) (3) (0) (X 3 1)) (4) (cqF (X 4) 6 (6))) (5) (cqF (X 5) 6 (6))) (6) (cqF (X 6) 6 (6))) (7) (cqF (X 7) 6 (6))) (8) (cqF (X 8) 12 (h))) (9) (cqF (X 9) 12 (h))) tr (h) (X 8 (12 + h))) dX10_town_200 (fun H locs hP hD hS => ?_)
                        refine lv_aload_n hx hb dX10_town_201 rfl (lv_at hl 0 rfl) ?_
                        refine gf_X10_35 hE hP (0) (gM_0 E a (up2 (upA (upA (upA (upA (upA (upA (up2 (up2 X (2) (0) (X 2 1)) (3) (0) (X 3 1)) (4) (cqF (X 4) 6 (6))) (5) (cqF (X 5) 6 (6))) (6) (cqF (X 6) 6 (6))) (7) (cqF (X 7) 6 (6))) (8) (cqF (X 8) 12 (h))) (9) (cqF (X 9) 12 (h))) (8) (h) (X 8 (12 + h))) tr) (v := .ref (a 9)) rfl dX10_town_202 ?_
                        refine lv_iload_n hx hb dX10_town_205 rfl (lv_at hl 2 rfl) ?_
                        refine lv_aload_n hx hb dX10_town_206 rfl (lv_at hl 0 rfl) ?_
                        refine gf_X10_35 hE hP (0) (gM_0 E a (up2 (upA (upA (upA (upA (upA (upA (up2 (up2 X (2) (0) (X 2 1)) (3) (0) (X 3 1)) (4) (cqF (X 4) 6 (6))) (5) (cqF (X 5) 6 (6))) (6) (cqF (X 6) 6 (6))) (7) (cqF (X 7) 6 (6))) (8) (cqF (X 8) 12 (h))) (9) (cqF (X 9) 12 (h))) (8) (h) (X 8 (12 + h))) tr) (v := .ref (a 9)) rfl dX10_town_207 ?_
                        refine lv_bipush (v := nI (12)) hx hb dX10_town_210 (by decide) ?_
                        refine lv_iload_n hx hb dX10_town_212 rfl (lv_at hl 2 rfl) ?_
                        refine lv_iadd hx hb dX10_town_213 ?_
                        refine tp (nI_add _ _) ?_
                        refine ald_i hE hP (9) (gM_9 E a (up2 (upA (upA (upA (upA (upA (upA (up2 (up2 X (2) (0) (X 2 1)) (3) (0) (X 3 1)) (4) (cqF (X 4) 6 (6))) (5) (cqF (X 5) 6 (6))) (6) (cqF (X 6) 6 (6))) (7) (cqF (X 7) 6 (6))) (8) (cqF (X 8) 12 (h))) (9) (cqF (X 9) 12 (h))) (8) (h) (X 8 (12 + h))) tr) (by omega) (by decide) (r := nI ((cqF (X 9) 12 (h)) (12 + h))) rfl dX10_town_214 ?_
                        refine tp (show nI ((cqF (X 9) 12 (h)) (12 + h)) = nI (X 9 (12 + h)) by exact congrArg nI (cqF_at (X 9) (by omega) (by decide))) ?_
                        refine ast_i hE hP hD hS (9) (gM_9 E a (up2 (upA (upA (upA (upA (upA (upA (up2 (up2 X (2) (0) (X 2 1)) (3) (0) (X 3 1)) (4) (cqF (X 4) 6 (6))) (5) (cqF (X 5) 6 (6))) (6) (cqF (X 6) 6 (6))) (7) (cqF (X 7) 6 (6))) (8) (cqF (X 8) 12 (h))) (9) (cqF (X 9) 12 (h))) (8) (h) (X 8 (12 + h))) tr) (by omega) (by decide) (sM_9 E a (up2 (upA (upA (upA (upA (upA (upA (up2 (up2 X (2) (0) (X 2 1)) (3) (0) (X 3 1)) (4) (cqF (X 4) 6 (6))) (5) (cqF (X 5) 6 (6))) (6) (cqF (X 6) 6 (6))) (7) (cqF (X 7) 6 (6))) (8) (cqF (X 8) 12 (h))) (9) (cqF (X 9) 12 (h))) (8) (h) (X 8 (12 + h))) tr (h) (X 9 (12 + h))) dX10_town_215 (fun H locs hP hD hS => ?_)
                        refine lv_iinc (v := nI (h + 1)) (lv' := [(2, .int (nI (h + 1))), (0, .ref (a 0)), (1, .int (nI (i)))]) hx hb dX10_town_216 hl (k := 2) rfl (ii1_N _) (by decide) rfl (fun ls hl => ?_)
                        refine lv_goto (tgt := 180) hx hb dX10_town_219 (by decide) ?_
                        exact ih180 (h + 1) (by omega) (by omega) ls _ _ (lv_sub hl [1, 2, 0] rfl) (by have hw : (up2 (up2 (upA (upA (upA (upA (upA (upA (up2 (up2 X (2) (0) (X 2 1)) (3) (0) (X 3 1)) (4) (cqF (X 4) 6 (6))) (5) (cqF (X 5) 6 (6))) (6) (cqF (X 6) 6 (6))) (7) (cqF (X 7) 6 (6))) (8) (cqF (X 8) 12 (h))) (9) (cqF (X 9) 12 (h))) (8) (h) (X 8 (12 + h))) (9) (h) (X 9 (12 + h))) = (upA (upA (upA (upA (upA (upA (up2 (up2 X (2) (0) (X 2 1)) (3) (0) (X 3 1)) (4) (cqF (X 4) 6 (6))) (5) (cqF (X 5) 6 (6))) (6) (cqF (X 6) 6 (6))) (7) (cqF (X 7) 6 (6))) (8) (cqF (X 8) 12 ((h + 1)))) (9) (cqF (X 9) 12 ((h + 1)))) := (ok8_s X h); rw [hw] at hP; exact hP) (by have hw : (up2 (up2 (upA (upA (upA (upA (upA (upA (up2 (up2 X (2) (0) (X 2 1)) (3) (0) (X 3 1)) (4) (cqF (X 4) 6 (6))) (5) (cqF (X 5) 6 (6))) (6) (cqF (X 6) 6 (6))) (7) (cqF (X 7) 6 (6))) (8) (cqF (X 8) 12 (h))) (9) (cqF (X 9) 12 (h))) (8) (h) (X 8 (12 + h))) (9) (h) (X 9 (12 + h))) = (upA (upA (upA (upA (upA (upA (up2 (up2 X (2) (0) (X 2 1)) (3) (0) (X 3 1)) (4) (cqF (X 4) 6 (6))) (5) (cqF (X 5) 6 (6))) (6) (cqF (X 6) 6 (6))) (7) (cqF (X 7) 6 (6))) (8) (cqF (X 8) 12 ((h + 1)))) (9) (cqF (X 9) 12 ((h + 1)))) := (ok8_s X h); rw [hw] at hD; exact hD) hS
                  exact loop180 (_ + 1) (0) (Nat.lt_succ_self _) (by omega) ls _ _ (lv_sub hl [1, 2, 0] rfl) (by have hw : (upA (upA (upA (upA (up2 (up2 X (2) (0) (X 2 1)) (3) (0) (X 3 1)) (4) (cqF (X 4) 6 (h))) (5) (cqF (X 5) 6 (h))) (6) (cqF (X 6) 6 (h))) (7) (cqF (X 7) 6 (h))) = (upA (upA (upA (upA (upA (upA (up2 (up2 X (2) (0) (X 2 1)) (3) (0) (X 3 1)) (4) (cqF (X 4) 6 (6))) (5) (cqF (X 5) 6 (6))) (6) (cqF (X 6) 6 (6))) (7) (cqF (X 7) 6 (6))) (8) (cqF (X 8) 12 ((0)))) (9) (cqF (X 9) 12 ((0)))) := (by rw [show h = 6 by omega]; exact ok8_0 X); rw [hw] at hP; exact hP) (by have hw : (upA (upA (upA (upA (up2 (up2 X (2) (0) (X 2 1)) (3) (0) (X 3 1)) (4) (cqF (X 4) 6 (h))) (5) (cqF (X 5) 6 (h))) (6) (cqF (X 6) 6 (h))) (7) (cqF (X 7) 6 (h))) = (upA (upA (upA (upA (upA (upA (up2 (up2 X (2) (0) (X 2 1)) (3) (0) (X 3 1)) (4) (cqF (X 4) 6 (6))) (5) (cqF (X 5) 6 (6))) (6) (cqF (X 6) 6 (6))) (7) (cqF (X 7) 6 (6))) (8) (cqF (X 8) 12 ((0)))) (9) (cqF (X 9) 12 ((0)))) := (by rw [show h = 6 by omega]; exact ok8_0 X); rw [hw] at hD; exact hD) hS
                · refine lv_aload_n hx hb dX10_town_112 rfl (lv_at hl 0 rfl) ?_
                  refine gf_X10_20 hE hP (0) (gM_0 E a (upA (upA (upA (upA (up2 (up2 X (2) (0) (X 2 1)) (3) (0) (X 3 1)) (4) (cqF (X 4) 6 (h))) (5) (cqF (X 5) 6 (h))) (6) (cqF (X 6) 6 (h))) (7) (cqF (X 7) 6 (h))) tr) (v := .ref (a 4)) rfl dX10_town_113 ?_
                  refine lv_iload_n hx hb dX10_town_116 rfl (lv_at hl 2 rfl) ?_
                  refine lv_aload_n hx hb dX10_town_117 rfl (lv_at hl 0 rfl) ?_
                  refine gf_X10_20 hE hP (0) (gM_0 E a (upA (upA (upA (upA (up2 (up2 X (2) (0) (X 2 1)) (3) (0) (X 3 1)) (4) (cqF (X 4) 6 (h))) (5) (cqF (X 5) 6 (h))) (6) (cqF (X 6) 6 (h))) (7) (cqF (X 7) 6 (h))) tr) (v := .ref (a 4)) rfl dX10_town_118 ?_
                  refine lv_bipush (v := nI (6)) hx hb dX10_town_121 (by decide) ?_
                  refine lv_iload_n hx hb dX10_town_123 rfl (lv_at hl 2 rfl) ?_
                  refine lv_iadd hx hb dX10_town_124 ?_
                  refine tp (nI_add _ _) ?_
                  refine ald_i hE hP (4) (gM_4 E a (upA (upA (upA (upA (up2 (up2 X (2) (0) (X 2 1)) (3) (0) (X 3 1)) (4) (cqF (X 4) 6 (h))) (5) (cqF (X 5) 6 (h))) (6) (cqF (X 6) 6 (h))) (7) (cqF (X 7) 6 (h))) tr) (by omega) (by decide) (r := nI ((cqF (X 4) 6 (h)) (6 + h))) rfl dX10_town_125 ?_
                  refine tp (show nI ((cqF (X 4) 6 (h)) (6 + h)) = nI (X 4 (6 + h)) by exact congrArg nI (cqF_at (X 4) (by omega) (by decide))) ?_
                  refine ast_i hE hP hD hS (4) (gM_4 E a (upA (upA (upA (upA (up2 (up2 X (2) (0) (X 2 1)) (3) (0) (X 3 1)) (4) (cqF (X 4) 6 (h))) (5) (cqF (X 5) 6 (h))) (6) (cqF (X 6) 6 (h))) (7) (cqF (X 7) 6 (h))) tr) (by omega) (by decide) (sM_4 E a (upA (upA (upA (upA (up2 (up2 X (2) (0) (X 2 1)) (3) (0) (X 3 1)) (4) (cqF (X 4) 6 (h))) (5) (cqF (X 5) 6 (h))) (6) (cqF (X 6) 6 (h))) (7) (cqF (X 7) 6 (h))) tr (h) (X 4 (6 + h))) dX10_town_126 (fun H locs hP hD hS => ?_)
                  refine lv_aload_n hx hb dX10_town_127 rfl (lv_at hl 0 rfl) ?_
                  refine gf_X10_23 hE hP (0) (gM_0 E a (up2 (upA (upA (upA (upA (up2 (up2 X (2) (0) (X 2 1)) (3) (0) (X 3 1)) (4) (cqF (X 4) 6 (h))) (5) (cqF (X 5) 6 (h))) (6) (cqF (X 6) 6 (h))) (7) (cqF (X 7) 6 (h))) (4) (h) (X 4 (6 + h))) tr) (v := .ref (a 5)) rfl dX10_town_128 ?_
                  refine lv_iload_n hx hb dX10_town_131 rfl (lv_at hl 2 rfl) ?_
                  refine lv_aload_n hx hb dX10_town_132 rfl (lv_at hl 0 rfl) ?_
                  refine gf_X10_23 hE hP (0) (gM_0 E a (up2 (upA (upA (upA (upA (up2 (up2 X (2) (0) (X 2 1)) (3) (0) (X 3 1)) (4) (cqF (X 4) 6 (h))) (5) (cqF (X 5) 6 (h))) (6) (cqF (X 6) 6 (h))) (7) (cqF (X 7) 6 (h))) (4) (h) (X 4 (6 + h))) tr) (v := .ref (a 5)) rfl dX10_town_133 ?_
                  refine lv_bipush (v := nI (6)) hx hb dX10_town_136 (by decide) ?_
                  refine lv_iload_n hx hb dX10_town_138 rfl (lv_at hl 2 rfl) ?_
                  refine lv_iadd hx hb dX10_town_139 ?_
                  refine tp (nI_add _ _) ?_
                  refine ald_i hE hP (5) (gM_5 E a (up2 (upA (upA (upA (upA (up2 (up2 X (2) (0) (X 2 1)) (3) (0) (X 3 1)) (4) (cqF (X 4) 6 (h))) (5) (cqF (X 5) 6 (h))) (6) (cqF (X 6) 6 (h))) (7) (cqF (X 7) 6 (h))) (4) (h) (X 4 (6 + h))) tr) (by omega) (by decide) (r := nI ((cqF (X 5) 6 (h)) (6 + h))) rfl dX10_town_140 ?_
                  refine tp (show nI ((cqF (X 5) 6 (h)) (6 + h)) = nI (X 5 (6 + h)) by exact congrArg nI (cqF_at (X 5) (by omega) (by decide))) ?_
                  refine ast_i hE hP hD hS (5) (gM_5 E a (up2 (upA (upA (upA (upA (up2 (up2 X (2) (0) (X 2 1)) (3) (0) (X 3 1)) (4) (cqF (X 4) 6 (h))) (5) (cqF (X 5) 6 (h))) (6) (cqF (X 6) 6 (h))) (7) (cqF (X 7) 6 (h))) (4) (h) (X 4 (6 + h))) tr) (by omega) (by decide) (sM_5 E a (up2 (upA (upA (upA (upA (up2 (up2 X (2) (0) (X 2 1)) (3) (0) (X 3 1)) (4) (cqF (X 4) 6 (h))) (5) (cqF (X 5) 6 (h))) (6) (cqF (X 6) 6 (h))) (7) (cqF (X 7) 6 (h))) (4) (h) (X 4 (6 + h))) tr (h) (X 5 (6 + h))) dX10_town_141 (fun H locs hP hD hS => ?_)
                  refine lv_aload_n hx hb dX10_town_142 rfl (lv_at hl 0 rfl) ?_
                  refine gf_X10_26 hE hP (0) (gM_0 E a (up2 (up2 (upA (upA (upA (upA (up2 (up2 X (2) (0) (X 2 1)) (3) (0) (X 3 1)) (4) (cqF (X 4) 6 (h))) (5) (cqF (X 5) 6 (h))) (6) (cqF (X 6) 6 (h))) (7) (cqF (X 7) 6 (h))) (4) (h) (X 4 (6 + h))) (5) (h) (X 5 (6 + h))) tr) (v := .ref (a 6)) rfl dX10_town_143 ?_
                  refine lv_iload_n hx hb dX10_town_146 rfl (lv_at hl 2 rfl) ?_
                  refine lv_aload_n hx hb dX10_town_147 rfl (lv_at hl 0 rfl) ?_
                  refine gf_X10_26 hE hP (0) (gM_0 E a (up2 (up2 (upA (upA (upA (upA (up2 (up2 X (2) (0) (X 2 1)) (3) (0) (X 3 1)) (4) (cqF (X 4) 6 (h))) (5) (cqF (X 5) 6 (h))) (6) (cqF (X 6) 6 (h))) (7) (cqF (X 7) 6 (h))) (4) (h) (X 4 (6 + h))) (5) (h) (X 5 (6 + h))) tr) (v := .ref (a 6)) rfl dX10_town_148 ?_
                  refine lv_bipush (v := nI (6)) hx hb dX10_town_151 (by decide) ?_
                  refine lv_iload_n hx hb dX10_town_153 rfl (lv_at hl 2 rfl) ?_
                  refine lv_iadd hx hb dX10_town_154 ?_
                  refine tp (nI_add _ _) ?_
                  refine ald_i hE hP (6) (gM_6 E a (up2 (up2 (upA (upA (upA (upA (up2 (up2 X (2) (0) (X 2 1)) (3) (0) (X 3 1)) (4) (cqF (X 4) 6 (h))) (5) (cqF (X 5) 6 (h))) (6) (cqF (X 6) 6 (h))) (7) (cqF (X 7) 6 (h))) (4) (h) (X 4 (6 + h))) (5) (h) (X 5 (6 + h))) tr) (by omega) (by decide) (r := nI ((cqF (X 6) 6 (h)) (6 + h))) rfl dX10_town_155 ?_
                  refine tp (show nI ((cqF (X 6) 6 (h)) (6 + h)) = nI (X 6 (6 + h)) by exact congrArg nI (cqF_at (X 6) (by omega) (by decide))) ?_
                  refine ast_i hE hP hD hS (6) (gM_6 E a (up2 (up2 (upA (upA (upA (upA (up2 (up2 X (2) (0) (X 2 1)) (3) (0) (X 3 1)) (4) (cqF (X 4) 6 (h))) (5) (cqF (X 5) 6 (h))) (6) (cqF (X 6) 6 (h))) (7) (cqF (X 7) 6 (h))) (4) (h) (X 4 (6 + h))) (5) (h) (X 5 (6 + h))) tr) (by omega) (by decide) (sM_6 E a (up2 (up2 (upA (upA (upA (upA (up2 (up2 X (2) (0) (X 2 1)) (3) (0) (X 3 1)) (4) (cqF (X 4) 6 (h))) (5) (cqF (X 5) 6 (h))) (6) (cqF (X 6) 6 (h))) (7) (cqF (X 7) 6 (h))) (4) (h) (X 4 (6 + h))) (5) (h) (X 5 (6 + h))) tr (h) (X 6 (6 + h))) dX10_town_156 (fun H locs hP hD hS => ?_)
                  refine lv_aload_n hx hb dX10_town_157 rfl (lv_at hl 0 rfl) ?_
                  refine gf_X10_29 hE hP (0) (gM_0 E a (up2 (up2 (up2 (upA (upA (upA (upA (up2 (up2 X (2) (0) (X 2 1)) (3) (0) (X 3 1)) (4) (cqF (X 4) 6 (h))) (5) (cqF (X 5) 6 (h))) (6) (cqF (X 6) 6 (h))) (7) (cqF (X 7) 6 (h))) (4) (h) (X 4 (6 + h))) (5) (h) (X 5 (6 + h))) (6) (h) (X 6 (6 + h))) tr) (v := .ref (a 7)) rfl dX10_town_158 ?_
                  refine lv_iload_n hx hb dX10_town_161 rfl (lv_at hl 2 rfl) ?_
                  refine lv_aload_n hx hb dX10_town_162 rfl (lv_at hl 0 rfl) ?_
                  refine gf_X10_29 hE hP (0) (gM_0 E a (up2 (up2 (up2 (upA (upA (upA (upA (up2 (up2 X (2) (0) (X 2 1)) (3) (0) (X 3 1)) (4) (cqF (X 4) 6 (h))) (5) (cqF (X 5) 6 (h))) (6) (cqF (X 6) 6 (h))) (7) (cqF (X 7) 6 (h))) (4) (h) (X 4 (6 + h))) (5) (h) (X 5 (6 + h))) (6) (h) (X 6 (6 + h))) tr) (v := .ref (a 7)) rfl dX10_town_163 ?_
                  refine lv_bipush (v := nI (6)) hx hb dX10_town_166 (by decide) ?_
                  refine lv_iload_n hx hb dX10_town_168 rfl (lv_at hl 2 rfl) ?_
                  refine lv_iadd hx hb dX10_town_169 ?_
                  refine tp (nI_add _ _) ?_
                  refine ald_i hE hP (7) (gM_7 E a (up2 (up2 (up2 (upA (upA (upA (upA (up2 (up2 X (2) (0) (X 2 1)) (3) (0) (X 3 1)) (4) (cqF (X 4) 6 (h))) (5) (cqF (X 5) 6 (h))) (6) (cqF (X 6) 6 (h))) (7) (cqF (X 7) 6 (h))) (4) (h) (X 4 (6 + h))) (5) (h) (X 5 (6 + h))) (6) (h) (X 6 (6 + h))) tr) (by omega) (by decide) (r := nI ((cqF (X 7) 6 (h)) (6 + h))) rfl dX10_town_170 ?_
                  refine tp (show nI ((cqF (X 7) 6 (h)) (6 + h)) = nI (X 7 (6 + h)) by exact congrArg nI (cqF_at (X 7) (by omega) (by decide))) ?_
                  refine ast_i hE hP hD hS (7) (gM_7 E a (up2 (up2 (up2 (upA (upA (upA (upA (up2 (up2 X (2) (0) (X 2 1)) (3) (0) (X 3 1)) (4) (cqF (X 4) 6 (h))) (5) (cqF (X 5) 6 (h))) (6) (cqF (X 6) 6 (h))) (7) (cqF (X 7) 6 (h))) (4) (h) (X 4 (6 + h))) (5) (h) (X 5 (6 + h))) (6) (h) (X 6 (6 + h))) tr) (by omega) (by decide) (sM_7 E a (up2 (up2 (up2 (upA (upA (upA (upA (up2 (up2 X (2) (0) (X 2 1)) (3) (0) (X 3 1)) (4) (cqF (X 4) 6 (h))) (5) (cqF (X 5) 6 (h))) (6) (cqF (X 6) 6 (h))) (7) (cqF (X 7) 6 (h))) (4) (h) (X 4 (6 + h))) (5) (h) (X 5 (6 + h))) (6) (h) (X 6 (6 + h))) tr (h) (X 7 (6 + h))) dX10_town_171 (fun H locs hP hD hS => ?_)
                  refine lv_iinc (v := nI (h + 1)) (lv' := [(2, .int (nI (h + 1))), (0, .ref (a 0)), (1, .int (nI (i)))]) hx hb dX10_town_172 hl (k := 2) rfl (ii1_N _) (by decide) rfl (fun ls hl => ?_)
                  refine lv_goto (tgt := 106) hx hb dX10_town_175 (by decide) ?_
                  exact ih106 (h + 1) (by omega) (by omega) ls _ _ (lv_sub hl [1, 2, 0] rfl) (by have hw : (up2 (up2 (up2 (up2 (upA (upA (upA (upA (up2 (up2 X (2) (0) (X 2 1)) (3) (0) (X 3 1)) (4) (cqF (X 4) 6 (h))) (5) (cqF (X 5) 6 (h))) (6) (cqF (X 6) 6 (h))) (7) (cqF (X 7) 6 (h))) (4) (h) (X 4 (6 + h))) (5) (h) (X 5 (6 + h))) (6) (h) (X 6 (6 + h))) (7) (h) (X 7 (6 + h))) = (upA (upA (upA (upA (up2 (up2 X (2) (0) (X 2 1)) (3) (0) (X 3 1)) (4) (cqF (X 4) 6 ((h + 1)))) (5) (cqF (X 5) 6 ((h + 1)))) (6) (cqF (X 6) 6 ((h + 1)))) (7) (cqF (X 7) 6 ((h + 1)))) := (ok4_s X h); rw [hw] at hP; exact hP) (by have hw : (up2 (up2 (up2 (up2 (upA (upA (upA (upA (up2 (up2 X (2) (0) (X 2 1)) (3) (0) (X 3 1)) (4) (cqF (X 4) 6 (h))) (5) (cqF (X 5) 6 (h))) (6) (cqF (X 6) 6 (h))) (7) (cqF (X 7) 6 (h))) (4) (h) (X 4 (6 + h))) (5) (h) (X 5 (6 + h))) (6) (h) (X 6 (6 + h))) (7) (h) (X 7 (6 + h))) = (upA (upA (upA (upA (up2 (up2 X (2) (0) (X 2 1)) (3) (0) (X 3 1)) (4) (cqF (X 4) 6 ((h + 1)))) (5) (cqF (X 5) 6 ((h + 1)))) (6) (cqF (X 6) 6 ((h + 1)))) (7) (cqF (X 7) 6 ((h + 1)))) := (ok4_s X h); rw [hw] at hD; exact hD) hS
            exact loop106 (_ + 1) (0) (Nat.lt_succ_self _) (by omega) ls _ _ (lv_sub hl [1, 2, 0] rfl) (by have hw : (up2 (up2 X (2) (0) (X (2) (1))) (3) (0) (X (3) (1))) = (upA (upA (upA (upA (up2 (up2 X (2) (0) (X 2 1)) (3) (0) (X 3 1)) (4) (cqF (X 4) 6 ((0)))) (5) (cqF (X 5) 6 ((0)))) (6) (cqF (X 6) 6 ((0)))) (7) (cqF (X 7) 6 ((0)))) := (by rw [cqF_0, cqF_0, cqF_0, cqF_0]; exact ok4_0 X); rw [hw] at hP; exact hP) (by have hw : (up2 (up2 X (2) (0) (X (2) (1))) (3) (0) (X (3) (1))) = (upA (upA (upA (upA (up2 (up2 X (2) (0) (X 2 1)) (3) (0) (X 3 1)) (4) (cqF (X 4) 6 ((0)))) (5) (cqF (X 5) 6 ((0)))) (6) (cqF (X 6) 6 ((0)))) (7) (cqF (X 7) 6 ((0)))) := (by rw [cqF_0, cqF_0, cqF_0, cqF_0]; exact ok4_0 X); rw [hw] at hD; exact hD) hS
          · have htX : (X, i) = twJ I := (tw_e (fun z => by omega)).symm.trans htw
            refine lv_bipush (v := (-10)) hx hb dX10_town_72 (by decide) ?_
            refine lv_aload_n hx hb dX10_town_74 rfl (lv_at hl 0 rfl) ?_
            refine gf_X10_92 hE hP (0) (gM_0 E a X tr) (v := .int (rN (X (14) (0)))) rfl dX10_town_75 ?_
            refine lv_isub hx hb dX10_town_78 ?_
            have hw : X = (toJ I) := by unfold toJ; rw [← htX]; exact (if_neg (show ¬ X 14 0 = 0 by omega)).symm
            have hP := Eq.mp (congrArg (fun q => va_P E.1 vwCl (WM E a q tr) H) hw) hP
            have hD := Eq.mp (congrArg (fun q => va_D A (WM E a q tr)) hw) hD
            exact ret_i hE (r := (((-10)) - (rN (X (14) (0))))) (by unfold r_town; rw [← htX, if_neg (show ¬ X 14 0 = 0 by omega)]) hP hD hS dX10_town_79
        · refine lv_aload_n hx hb dX10_town_53 rfl (lv_at hl 0 rfl) ?_
          refine call_V (As := []) (rest := []) hE (ct_X10_readItem l E a X tr hTN.1 hSJ.1 hSJ.2.1 hSJ.2.2) cm_X10_readItem (uw mt_L_X10_113 rfl) (gM_0 E a X tr) rfl rfl hP hD hS hl.1 rfl rfl (Nat.le_of_ble_eq_true rfl) ⟨by decide, by decide⟩ dX10_town_54 (fun H locs hP hD hS => ?_)
          refine W.eq (g2 := F0 m 57 ls []) rfl ?_
          refine lv_iinc (v := nI (i + 1)) (lv' := [(1, .int (nI (i + 1))), (0, .ref (a 0))]) hx hb dX10_town_57 hl (k := 1) rfl (ii1_N _) (by decide) rfl (fun ls hl => ?_)
          refine lv_goto (tgt := 36) hx hb dX10_town_60 (by decide) ?_
          exact ih36 (riJ X) (i + 1) (f1) (by omega) (ri_tok hTN c50).1 (SJ_ri hSJ hTN.1) (by have := ms_dec hTN c42 c50; omega) ((tw_s c42 c50).symm.trans htw) (by omega) ls _ _ (lv_sub hl [1, 0] rfl) hP hD hS
  exact loop36 (_ + 1) (tw0 I) (0) (1000) (Nat.lt_succ_self _) hTN0 hS0 hm0 rfl (by omega) ls _ _ (lv_sub hl [1, 0] rfl) hP hD hS
