set_option maxHeartbeats 4000000 in
set_option maxRecDepth 100000 in
theorem ct_X10_comesBack (l : Launch) (E : cE) (a : Nat → Nat) (I : Nat → Nat → Nat) (tr : Int64) (k : Nat) (hI : KM I) (hD7 : DKJ I) (hk : k < I 26 0) : Ct l E 4 yX10_comesBack cX10_comesBack 7 (some .boolean) [.ref (a 0), .int (nI (k))] (WM E a I tr) (some (.int (bB (cmB I k)))) (WM E a I tr) := by
  refine Ct_of (plainFor_of_name (by decide)) (Nat.le_of_ble_eq_true rfl) ?_
  intro p e s m args below meth c A ls hE hP hD hS hl
  have hE : cEnv p s m args meth c E RX10 cX10_comesBack 7 (some .boolean) A := hE
  have hx := hE.1
  have hb := hE.2.1
  have hl : lv_has ls 7 [(0, .ref (a 0)), (1, .int (nI (k)))] := hl
  have hP : va_P E.1 vwCl (WM E a I tr) s.heap := hP
  generalize hH : s.heap = H at hP hS ⊢
  have hS : va_S A s.heap H [] := by rw [hH]; exact hS
  clear hH
  have hd8 := hD7.1
  refine lv_aload_n hx hb dX10_comesBack_0 rfl (lv_at hl 0 rfl) ?_
  refine lv_iload_n hx hb dX10_comesBack_1 rfl (lv_at hl 1 rfl) ?_
  refine call_V (As := [.int (nI (k))]) (rest := []) hE (ct_X10_dueOf l E a I tr (k) hI hD7 (by omega)) cm_X10_dueOf (uw mt_L_X10_164 rfl) (gM_0 E a I tr) rfl rfl hP hD hS hl.1 rfl rfl (Nat.le_of_ble_eq_true rfl) ⟨by decide, by decide⟩ dX10_comesBack_2 (fun H locs hP hD hS => ?_)
  refine W.eq (g2 := F0 m 5 ls [.int (rN (quJ I (k)))]) rfl ?_
  have hq1 := quJ_le I (k)
  refine lv_bipush (v := (-9)) hx hb dX10_comesBack_5 (by decide) ?_
  refine bQ9_ne (tgt := 14) hx hb (by omega) dX10_comesBack_7 (by decide) (fun c7 => ?_) (fun c7 => ?_)
  · refine lv_iconst (v := nI (1)) hx hb dX10_comesBack_14 (by decide) ?_
    refine lv_iload_n hx hb dX10_comesBack_15 rfl (lv_at hl 1 rfl) ?_
    refine lv_ishl hx hb dX10_comesBack_16 ?_
    refine tp (nI_pow (k := k) (by omega)) ?_
    refine lv_istore_n (lv' := [(2, .int (nI (2 ^ (k)))), (0, .ref (a 0)), (1, .int (nI (k)))]) hx hb dX10_comesBack_17 rfl hl (by decide) rfl (fun ls hl => ?_)
    refine lv_iconst (v := nI (0)) hx hb dX10_comesBack_18 (by decide) ?_
    refine lv_istore_n (lv' := [(3, .int (nI (0))), (2, .int (nI (2 ^ (k)))), (0, .ref (a 0)), (1, .int (nI (k)))]) hx hb dX10_comesBack_19 rfl hl (by decide) rfl (fun ls hl => ?_)
    have loop20 : ∀ (fu20 : Nat) (u : Nat) (w : Nat), 512 - (u + w) < fu20 → (cbI I k u w) → (clI I u w) → ∀ (ls : Array Slot) (H : Heap) (locs : List Loc), lv_has ls 7 [(0, .ref (a 0)), (1, .int (nI (k))), (2, .int (nI (u))), (3, .int (nI (w)))] → va_P E.1 vwCl (WM E a I tr) H → va_D A (WM E a I tr) → va_S A s.heap H locs → W p l e (rmL 4) s m args below meth c H locs 0 0 (RQ E below args s A (some (.int (bB (cmB I k)))) (WM E a I tr)) (F0 m 20 ls []) := by
      intro fu20
      induction fu20 with
      | zero => intro u w h; exact absurd h (Nat.not_lt_zero _)
      | succ fu20 ih20 =>
        intro u w hfu20 hcb hcl ls H locs hl hP hD hS
        have hu256 := hcb.1
        have hwu := cb_le hcb
        refine lv_iload_n hx hb dX10_comesBack_20 rfl (lv_at hl 2 rfl) ?_
        refine lv_iload_n hx hb dX10_comesBack_21 rfl (lv_at hl 3 rfl) ?_
        refine bN_eq (tgt := 137) hx hb (by omega) (by omega) dX10_comesBack_22 (by decide) (fun c22 => ?_) (fun c22 => ?_)
        · have hall := cb_all hcb hcl c22
          refine lv_iconst (v := nI (0)) hx hb dX10_comesBack_137 (by decide) ?_
          refine lv_istore (lv' := [(4, .int (nI (0))), (0, .ref (a 0)), (1, .int (nI (k))), (2, .int (nI (u))), (3, .int (nI (w)))]) hx hb dX10_comesBack_138 hl (by decide) rfl (fun ls hl => ?_)
          refine lv_iconst (v := nI (0)) hx hb dX10_comesBack_140 (by decide) ?_
          refine lv_istore (lv' := [(5, .int (nI (0))), (4, .int (nI (0))), (0, .ref (a 0)), (1, .int (nI (k))), (2, .int (nI (u))), (3, .int (nI (w)))]) hx hb dX10_comesBack_141 hl (by decide) rfl (fun ls hl => ?_)
          have loop143 : ∀ (fu143 : Nat) (f : Nat) (q : Nat), I 26 0 - q < fu143 → (q ≤ I 26 0) → (f = bN1 (ex (cmQ I k) q)) → ∀ (ls : Array Slot) (H : Heap) (locs : List Loc), lv_has ls 7 [(0, .ref (a 0)), (1, .int (nI (k))), (2, .int (nI (u))), (4, .int (nI (f))), (5, .int (nI (q)))] → va_P E.1 vwCl (WM E a I tr) H → va_D A (WM E a I tr) → va_S A s.heap H locs → W p l e (rmL 4) s m args below meth c H locs 0 0 (RQ E below args s A (some (.int (bB (cmB I k)))) (WM E a I tr)) (F0 m 143 ls []) := by
            intro fu143
            induction fu143 with
            | zero => intro f q h; exact absurd h (Nat.not_lt_zero _)
            | succ fu143 ih143 =>
              intro f q hfu143 hq hf ls H locs hl hP hD hS
              have hsq : u / 2 ^ q ≤ u := Nat.div_le_self _ _
              have hf1 := bN1_le (ex (cmQ I k) q)
              rw [← hf] at hf1
              refine lv_iload hx hb dX10_comesBack_143 (lv_at hl 4 rfl) ?_
              refine lv_aload_n hx hb dX10_comesBack_145 rfl (lv_at hl 0 rfl) ?_
              refine gf_X10_122 hE hP (0) (gM_0 E a I tr) (v := .int (nI (I (26) (0)))) rfl dX10_comesBack_146 ?_
              refine bN_ge (tgt := 208) hx hb (by omega) (by omega) dX10_comesBack_149 (by decide) (fun c149 => ?_) (fun c149 => ?_)
              · refine lv_iload hx hb dX10_comesBack_208 (lv_at hl 3 rfl) ?_
                refine tp (show nI f = bB (cmB I k) by rw [hf, bN1_B, show q = I 26 0 by omega]; rfl) ?_
                exact ret_z hE (r := bB (cmB I k)) (bB_nar _) (rfl) hP hD hS dX10_comesBack_210
              · refine lv_iload hx hb dX10_comesBack_152 (lv_at hl 3 rfl) ?_
                refine bZ_ne (tgt := 195) hx hb (by omega) dX10_comesBack_154 (by decide) (fun c154 => ?_) (fun c154 => ?_)
                · refine lv_iconst (v := nI (1)) hx hb dX10_comesBack_195 (by decide) ?_
                  refine lv_goto (tgt := 200) hx hb dX10_comesBack_196 (by decide) ?_
                  refine lv_istore (lv' := [(4, .int (nI (1))), (0, .ref (a 0)), (1, .int (nI (k))), (2, .int (nI (u))), (5, .int (nI (q)))]) hx hb dX10_comesBack_200 hl (by decide) rfl (fun ls hl => ?_)
                  refine lv_iinc (v := nI (q + 1)) (lv' := [(5, .int (nI (q + 1))), (4, .int (nI (1))), (0, .ref (a 0)), (1, .int (nI (k))), (2, .int (nI (u)))]) hx hb dX10_comesBack_202 hl (k := 4) rfl (ii1_N _) (by decide) rfl (fun ls hl => ?_)
                  refine lv_goto (tgt := 143) hx hb dX10_comesBack_205 (by decide) ?_
                  exact ih143 (1) (q + 1) (by omega) (by omega) (by first | exact ex_1 hf c154) ls _ _ (lv_sub hl [2, 3, 4, 1, 0] rfl) hP hD hS
                · refine lv_iload hx hb dX10_comesBack_157 (lv_at hl 4 rfl) ?_
                  refine lv_iload_n hx hb dX10_comesBack_159 rfl (lv_at hl 1 rfl) ?_
                  refine bN_eq (tgt := 199) hx hb (by omega) (by omega) dX10_comesBack_160 (by decide) (fun c160 => ?_) (fun c160 => ?_)
                  · refine lv_iconst (v := nI (0)) hx hb dX10_comesBack_199 (by decide) ?_
                    refine lv_istore (lv' := [(4, .int (nI (0))), (0, .ref (a 0)), (1, .int (nI (k))), (2, .int (nI (u))), (5, .int (nI (q)))]) hx hb dX10_comesBack_200 hl (by decide) rfl (fun ls hl => ?_)
                    refine lv_iinc (v := nI (q + 1)) (lv' := [(5, .int (nI (q + 1))), (4, .int (nI (0))), (0, .ref (a 0)), (1, .int (nI (k))), (2, .int (nI (u)))]) hx hb dX10_comesBack_202 hl (k := 4) rfl (ii1_N _) (by decide) rfl (fun ls hl => ?_)
                    refine lv_goto (tgt := 143) hx hb dX10_comesBack_205 (by decide) ?_
                    exact ih143 (0) (q + 1) (by omega) (by omega) (by first | exact ex_1 hf c154 | exact ex_0 hf c154 (cmQ_f (fun z => z.1 c160))) ls _ _ (lv_sub hl [2, 3, 4, 1, 0] rfl) hP hD hS
                  · refine lv_iload_n hx hb dX10_comesBack_163 rfl (lv_at hl 2 rfl) ?_
                    refine lv_iload hx hb dX10_comesBack_164 (lv_at hl 4 rfl) ?_
                    refine lv_ishr hx hb dX10_comesBack_166 ?_
                    refine tp (nI_shr (by omega) (by omega)) ?_
                    refine lv_iconst (v := nI (1)) hx hb dX10_comesBack_167 (by decide) ?_
                    refine lv_iand hx hb dX10_comesBack_168 ?_
                    refine tp (nI_and1 (by omega)) ?_
                    refine lv_iconst (v := nI (1)) hx hb dX10_comesBack_169 (by decide) ?_
                    refine bN_ne (tgt := 199) hx hb (by omega) (by omega) dX10_comesBack_170 (by decide) (fun c170 => ?_) (fun c170 => ?_)
                    · refine lv_iconst (v := nI (0)) hx hb dX10_comesBack_199 (by decide) ?_
                      refine lv_istore (lv' := [(4, .int (nI (0))), (0, .ref (a 0)), (1, .int (nI (k))), (2, .int (nI (u))), (5, .int (nI (q)))]) hx hb dX10_comesBack_200 hl (by decide) rfl (fun ls hl => ?_)
                      refine lv_iinc (v := nI (q + 1)) (lv' := [(5, .int (nI (q + 1))), (4, .int (nI (0))), (0, .ref (a 0)), (1, .int (nI (k))), (2, .int (nI (u)))]) hx hb dX10_comesBack_202 hl (k := 4) rfl (ii1_N _) (by decide) rfl (fun ls hl => ?_)
                      refine lv_goto (tgt := 143) hx hb dX10_comesBack_205 (by decide) ?_
                      exact ih143 (0) (q + 1) (by omega) (by omega) (by first | exact ex_1 hf c154 | exact ex_0 hf c154 (cmQ_f (fun z => z.1 c160)) | exact ex_0 hf c154 (cmQ_f (fun z => by have q1 := hall _ z.2.1; rw [tb_f c170] at q1; cases q1))) ls _ _ (lv_sub hl [2, 3, 4, 1, 0] rfl) hP hD hS
                    · have hdq := hD7.2 q (by omega)
                      have hdk := hD7.2 k (by omega)
                      have hc6 := hI.1
                      refine lv_aload_n hx hb dX10_comesBack_173 rfl (lv_at hl 0 rfl) ?_
                      refine gf_X10_60 hE hP (0) (gM_0 E a I tr) (v := .ref (a 17)) rfl dX10_comesBack_174 ?_
                      refine lv_iconst (v := nI (3)) hx hb dX10_comesBack_177 (by decide) ?_
                      refine lv_iload hx hb dX10_comesBack_178 (lv_at hl 4 rfl) ?_
                      refine lv_imul hx hb dX10_comesBack_180 ?_
                      refine tp (pk_mul _ _) ?_
                      refine lv_iconst (v := nI (1)) hx hb dX10_comesBack_181 (by decide) ?_
                      refine lv_iadd hx hb dX10_comesBack_182 ?_
                      refine tp (nI_add _ _) ?_
                      refine ald_i hE hP (17) (gM_17 E a I tr) (by omega) (by decide) (r := nI (I (25) ((3) * (q) + 1))) rfl dX10_comesBack_183 ?_
                      refine lv_aload_n hx hb dX10_comesBack_184 rfl (lv_at hl 0 rfl) ?_
                      refine gf_X10_60 hE hP (0) (gM_0 E a I tr) (v := .ref (a 17)) rfl dX10_comesBack_185 ?_
                      refine lv_iconst (v := nI (3)) hx hb dX10_comesBack_188 (by decide) ?_
                      refine lv_iload_n hx hb dX10_comesBack_189 rfl (lv_at hl 1 rfl) ?_
                      refine lv_imul hx hb dX10_comesBack_190 ?_
                      refine tp (pk_mul _ _) ?_
                      refine ald_i hE hP (17) (gM_17 E a I tr) (by omega) (by decide) (r := nI (I (25) ((3) * (k)))) rfl dX10_comesBack_191 ?_
                      refine bN_ne (tgt := 199) hx hb (by omega) (by omega) dX10_comesBack_192 (by decide) (fun c192 => ?_) (fun c192 => ?_)
                      · refine lv_iconst (v := nI (0)) hx hb dX10_comesBack_199 (by decide) ?_
                        refine lv_istore (lv' := [(4, .int (nI (0))), (0, .ref (a 0)), (1, .int (nI (k))), (2, .int (nI (u))), (5, .int (nI (q)))]) hx hb dX10_comesBack_200 hl (by decide) rfl (fun ls hl => ?_)
                        refine lv_iinc (v := nI (q + 1)) (lv' := [(5, .int (nI (q + 1))), (4, .int (nI (0))), (0, .ref (a 0)), (1, .int (nI (k))), (2, .int (nI (u)))]) hx hb dX10_comesBack_202 hl (k := 4) rfl (ii1_N _) (by decide) rfl (fun ls hl => ?_)
                        refine lv_goto (tgt := 143) hx hb dX10_comesBack_205 (by decide) ?_
                        exact ih143 (0) (q + 1) (by omega) (by omega) (by first | exact ex_1 hf c154 | exact ex_0 hf c154 (cmQ_f (fun z => z.1 c160)) | exact ex_0 hf c154 (cmQ_f (fun z => by have q1 := hall _ z.2.1; rw [tb_f c170] at q1; cases q1)) | exact ex_0 hf c154 (cmQ_f (fun z => c192 z.2.2)) | exact ex_t (cmQ_t ⟨c160, (hcb.2.2.1 q (tb_t c170)).2, c192⟩)) ls _ _ (lv_sub hl [2, 3, 4, 1, 0] rfl) hP hD hS
                      · refine lv_iconst (v := nI (1)) hx hb dX10_comesBack_195 (by decide) ?_
                        refine lv_goto (tgt := 200) hx hb dX10_comesBack_196 (by decide) ?_
                        refine lv_istore (lv' := [(4, .int (nI (1))), (0, .ref (a 0)), (1, .int (nI (k))), (2, .int (nI (u))), (5, .int (nI (q)))]) hx hb dX10_comesBack_200 hl (by decide) rfl (fun ls hl => ?_)
                        refine lv_iinc (v := nI (q + 1)) (lv' := [(5, .int (nI (q + 1))), (4, .int (nI (1))), (0, .ref (a 0)), (1, .int (nI (k))), (2, .int (nI (u)))]) hx hb dX10_comesBack_202 hl (k := 4) rfl (ii1_N _) (by decide) rfl (fun ls hl => ?_)
                        refine lv_goto (tgt := 143) hx hb dX10_comesBack_205 (by decide) ?_
                        exact ih143 (1) (q + 1) (by omega) (by omega) (by first | exact ex_1 hf c154 | exact ex_0 hf c154 (cmQ_f (fun z => z.1 c160)) | exact ex_0 hf c154 (cmQ_f (fun z => by have q1 := hall _ z.2.1; rw [tb_f c170] at q1; cases q1)) | exact ex_0 hf c154 (cmQ_f (fun z => c192 z.2.2)) | exact ex_t (cmQ_t ⟨c160, (hcb.2.2.1 q (tb_t c170)).2, c192⟩)) ls _ _ (lv_sub hl [2, 3, 4, 1, 0] rfl) hP hD hS
          exact loop143 (_ + 1) (0) (0) (Nat.lt_succ_self _) (by omega) rfl ls _ _ (lv_sub hl [2, 3, 4, 1, 0] rfl) hP hD hS
        · refine lv_iload_n hx hb dX10_comesBack_25 rfl (lv_at hl 2 rfl) ?_
          refine lv_istore_n (lv' := [(3, .int (nI (u))), (0, .ref (a 0)), (1, .int (nI (k))), (2, .int (nI (u)))]) hx hb dX10_comesBack_26 rfl hl (by decide) rfl (fun ls hl => ?_)
          refine lv_iconst (v := nI (0)) hx hb dX10_comesBack_27 (by decide) ?_
          refine lv_istore (lv' := [(4, .int (nI (0))), (3, .int (nI (u))), (0, .ref (a 0)), (1, .int (nI (k))), (2, .int (nI (u)))]) hx hb dX10_comesBack_28 hl (by decide) rfl (fun ls hl => ?_)
          have loop30 : ∀ (fu30 : Nat) (v : Nat) (i : Nat), I 26 0 - i < fu30 → (i ≤ I 26 0) → (cbI I k v u) → (dnI I v u i) → ∀ (ls : Array Slot) (H : Heap) (locs : List Loc), lv_has ls 7 [(0, .ref (a 0)), (1, .int (nI (k))), (2, .int (nI (v))), (3, .int (nI (u))), (4, .int (nI (i)))] → va_P E.1 vwCl (WM E a I tr) H → va_D A (WM E a I tr) → va_S A s.heap H locs → W p l e (rmL 4) s m args below meth c H locs 0 0 (RQ E below args s A (some (.int (bB (cmB I k)))) (WM E a I tr)) (F0 m 30 ls []) := by
            intro fu30
            induction fu30 with
            | zero => intro v i h; exact absurd h (Nat.not_lt_zero _)
            | succ fu30 ih30 =>
              intro v i hfu30 hi hcv hdv ls H locs hl hP hD hS
              have hv256 := hcv.1
              have huv := cb_le hcv
              have hsd : u / 2 ^ i ≤ u := Nat.div_le_self _ _
              refine lv_iload hx hb dX10_comesBack_30 (lv_at hl 4 rfl) ?_
              refine lv_aload_n hx hb dX10_comesBack_32 rfl (lv_at hl 0 rfl) ?_
              refine gf_X10_122 hE hP (0) (gM_0 E a I tr) (v := .int (nI (I (26) (0)))) rfl dX10_comesBack_33 ?_
              refine bN_ge (tgt := 134) hx hb (by omega) (by omega) dX10_comesBack_36 (by decide) (fun c36 => ?_) (fun c36 => ?_)
              · refine lv_goto (tgt := 20) hx hb dX10_comesBack_134 (by decide) ?_
                exact ih20 (v) (u) (by omega) hcv (clI_s hcv hdv c36) ls _ _ (lv_sub hl [0, 1, 2, 3] rfl) hP hD hS
              · refine lv_iconst (v := nI (0)) hx hb dX10_comesBack_39 (by decide) ?_
                refine lv_istore (lv' := [(5, .int (nI (0))), (0, .ref (a 0)), (1, .int (nI (k))), (2, .int (nI (v))), (3, .int (nI (u))), (4, .int (nI (i)))]) hx hb dX10_comesBack_40 hl (by decide) rfl (fun ls hl => ?_)
                have loop42 : ∀ (fu42 : Nat) (x : Nat) (j : Nat), I 26 0 - j < fu42 → (j ≤ I 26 0) → (cbI I k x u) → (dnI I x u i) → (dnJ I x u i j) → ∀ (ls : Array Slot) (H : Heap) (locs : List Loc), lv_has ls 7 [(0, .ref (a 0)), (1, .int (nI (k))), (2, .int (nI (x))), (3, .int (nI (u))), (4, .int (nI (i))), (5, .int (nI (j)))] → va_P E.1 vwCl (WM E a I tr) H → va_D A (WM E a I tr) → va_S A s.heap H locs → W p l e (rmL 4) s m args below meth c H locs 0 0 (RQ E below args s A (some (.int (bB (cmB I k)))) (WM E a I tr)) (F0 m 42 ls []) := by
                  intro fu42
                  induction fu42 with
                  | zero => intro x j h; exact absurd h (Nat.not_lt_zero _)
                  | succ fu42 ih42 =>
                    intro x j hfu42 hj hcx hdx hjx ls H locs hl hP hD hS
                    have hx256 := hcx.1
                    refine lv_iload hx hb dX10_comesBack_42 (lv_at hl 5 rfl) ?_
                    refine lv_aload_n hx hb dX10_comesBack_44 rfl (lv_at hl 0 rfl) ?_
                    refine gf_X10_122 hE hP (0) (gM_0 E a I tr) (v := .int (nI (I (26) (0)))) rfl dX10_comesBack_45 ?_
                    refine bN_ge (tgt := 128) hx hb (by omega) (by omega) dX10_comesBack_48 (by decide) (fun c48 => ?_) (fun c48 => ?_)
                    · refine lv_iinc (v := nI (i + 1)) (lv' := [(4, .int (nI (i + 1))), (0, .ref (a 0)), (1, .int (nI (k))), (2, .int (nI (x))), (3, .int (nI (u))), (5, .int (nI (j)))]) hx hb dX10_comesBack_128 hl (k := 4) rfl (ii1_N _) (by decide) rfl (fun ls hl => ?_)
                      refine lv_goto (tgt := 30) hx hb dX10_comesBack_131 (by decide) ?_
                      exact ih30 (x) (i + 1) (by omega) (by omega) hcx (dnI_s hdx hjx c48) ls _ _ (lv_sub hl [1, 2, 3, 4, 0] rfl) hP hD hS
                    · refine lv_iload_n hx hb dX10_comesBack_51 rfl (lv_at hl 3 rfl) ?_
                      refine lv_iload hx hb dX10_comesBack_52 (lv_at hl 4 rfl) ?_
                      refine lv_ishr hx hb dX10_comesBack_54 ?_
                      refine tp (nI_shr (by omega) (by omega)) ?_
                      refine lv_iconst (v := nI (1)) hx hb dX10_comesBack_55 (by decide) ?_
                      refine lv_iand hx hb dX10_comesBack_56 ?_
                      refine tp (nI_and1 (by omega)) ?_
                      refine lv_iconst (v := nI (1)) hx hb dX10_comesBack_57 (by decide) ?_
                      refine bN_ne (tgt := 103) hx hb (by omega) (by omega) dX10_comesBack_58 (by decide) (fun c58 => ?_) (fun c58 => ?_)
                      · refine lv_iconst (v := nI (0)) hx hb dX10_comesBack_103 (by decide) ?_
                        refine lv_istore (lv' := [(6, .int (nI (0))), (0, .ref (a 0)), (1, .int (nI (k))), (2, .int (nI (x))), (3, .int (nI (u))), (4, .int (nI (i))), (5, .int (nI (j)))]) hx hb dX10_comesBack_104 hl (by decide) rfl (fun ls hl => ?_)
                        refine lv_iload_n hx hb dX10_comesBack_106 rfl (lv_at hl 3 rfl) ?_
                        refine lv_iload hx hb dX10_comesBack_107 (lv_at hl 0 rfl) ?_
                        refine bZ_eq (tgt := 119) hx hb (by omega) dX10_comesBack_109 (by decide) (fun c109 => ?_) (fun c109 => absurd c109 (by omega))
                        refine lv_iconst (v := nI (0)) hx hb dX10_comesBack_119 (by decide) ?_
                        refine lv_ior hx hb dX10_comesBack_120 ?_
                        refine tp nI_or ?_
                        refine tp (show nI ((x) ||| (0)) = nI ((x)) by rw [Nat.or_zero]) ?_
                        refine lv_istore_n (lv' := [(2, .int (nI (x))), (6, .int (nI (0))), (0, .ref (a 0)), (1, .int (nI (k))), (3, .int (nI (u))), (4, .int (nI (i))), (5, .int (nI (j)))]) hx hb dX10_comesBack_121 rfl hl (by decide) rfl (fun ls hl => ?_)
                        refine lv_iinc (v := nI (j + 1)) (lv' := [(5, .int (nI (j + 1))), (2, .int (nI (x))), (6, .int (nI (0))), (0, .ref (a 0)), (1, .int (nI (k))), (3, .int (nI (u))), (4, .int (nI (i)))]) hx hb dX10_comesBack_122 hl (k := 6) rfl (ii1_N _) (by decide) rfl (fun ls hl => ?_)
                        refine lv_goto (tgt := 42) hx hb dX10_comesBack_125 (by decide) ?_
                        exact ih42 (x) (j + 1) (by omega) (by omega) (by first | exact hcx) (by first | exact hdx | exact dnI_a hdx) (by first | exact dnJ_k hjx (fun z => by rw [tb_f c58] at z; exact absurd z.1 (by decide)) | exact dnJ_k hjx (fun z => by have := z.2.2; omega) | exact dnJ_a hjx) ls _ _ (lv_sub hl [3, 4, 1, 5, 6, 0] rfl) hP hD hS
                      · have hdi := hD7.2 i (by omega)
                        have hdj := hD7.2 j (by omega)
                        have hc6 := hI.1
                        refine lv_aload_n hx hb dX10_comesBack_61 rfl (lv_at hl 0 rfl) ?_
                        refine gf_X10_60 hE hP (0) (gM_0 E a I tr) (v := .ref (a 17)) rfl dX10_comesBack_62 ?_
                        refine lv_iconst (v := nI (3)) hx hb dX10_comesBack_65 (by decide) ?_
                        refine lv_iload hx hb dX10_comesBack_66 (lv_at hl 4 rfl) ?_
                        refine lv_imul hx hb dX10_comesBack_68 ?_
                        refine tp (pk_mul _ _) ?_
                        refine lv_iconst (v := nI (1)) hx hb dX10_comesBack_69 (by decide) ?_
                        refine lv_iadd hx hb dX10_comesBack_70 ?_
                        refine tp (nI_add _ _) ?_
                        refine ald_i hE hP (17) (gM_17 E a I tr) (by omega) (by decide) (r := nI (I (25) ((3) * (i) + 1))) rfl dX10_comesBack_71 ?_
                        refine lv_aload_n hx hb dX10_comesBack_72 rfl (lv_at hl 0 rfl) ?_
                        refine gf_X10_60 hE hP (0) (gM_0 E a I tr) (v := .ref (a 17)) rfl dX10_comesBack_73 ?_
                        refine lv_iconst (v := nI (3)) hx hb dX10_comesBack_76 (by decide) ?_
                        refine lv_iload hx hb dX10_comesBack_77 (lv_at hl 5 rfl) ?_
                        refine lv_imul hx hb dX10_comesBack_79 ?_
                        refine tp (pk_mul _ _) ?_
                        refine ald_i hE hP (17) (gM_17 E a I tr) (by omega) (by decide) (r := nI (I (25) ((3) * (j)))) rfl dX10_comesBack_80 ?_
                        refine bN_ne (tgt := 103) hx hb (by omega) (by omega) dX10_comesBack_81 (by decide) (fun c81 => ?_) (fun c81 => ?_)
                        · refine lv_iconst (v := nI (0)) hx hb dX10_comesBack_103 (by decide) ?_
                          refine lv_istore (lv' := [(6, .int (nI (0))), (0, .ref (a 0)), (1, .int (nI (k))), (2, .int (nI (x))), (3, .int (nI (u))), (4, .int (nI (i))), (5, .int (nI (j)))]) hx hb dX10_comesBack_104 hl (by decide) rfl (fun ls hl => ?_)
                          refine lv_iload_n hx hb dX10_comesBack_106 rfl (lv_at hl 3 rfl) ?_
                          refine lv_iload hx hb dX10_comesBack_107 (lv_at hl 0 rfl) ?_
                          refine bZ_eq (tgt := 119) hx hb (by omega) dX10_comesBack_109 (by decide) (fun c109 => ?_) (fun c109 => absurd c109 (by omega))
                          refine lv_iconst (v := nI (0)) hx hb dX10_comesBack_119 (by decide) ?_
                          refine lv_ior hx hb dX10_comesBack_120 ?_
                          refine tp nI_or ?_
                          refine tp (show nI ((x) ||| (0)) = nI ((x)) by rw [Nat.or_zero]) ?_
                          refine lv_istore_n (lv' := [(2, .int (nI (x))), (6, .int (nI (0))), (0, .ref (a 0)), (1, .int (nI (k))), (3, .int (nI (u))), (4, .int (nI (i))), (5, .int (nI (j)))]) hx hb dX10_comesBack_121 rfl hl (by decide) rfl (fun ls hl => ?_)
                          refine lv_iinc (v := nI (j + 1)) (lv' := [(5, .int (nI (j + 1))), (2, .int (nI (x))), (6, .int (nI (0))), (0, .ref (a 0)), (1, .int (nI (k))), (3, .int (nI (u))), (4, .int (nI (i)))]) hx hb dX10_comesBack_122 hl (k := 6) rfl (ii1_N _) (by decide) rfl (fun ls hl => ?_)
                          refine lv_goto (tgt := 42) hx hb dX10_comesBack_125 (by decide) ?_
                          exact ih42 (x) (j + 1) (by omega) (by omega) (by first | exact hcx) (by first | exact hdx | exact dnI_a hdx) (by first | exact dnJ_k hjx (fun z => by rw [tb_f c58] at z; exact absurd z.1 (by decide)) | exact dnJ_k hjx (fun z => c81 z.2.1) | exact dnJ_k hjx (fun z => by have := z.2.2; omega) | exact dnJ_a hjx) ls _ _ (lv_sub hl [3, 4, 1, 5, 6, 0] rfl) hP hD hS
                        · refine lv_aload_n hx hb dX10_comesBack_84 rfl (lv_at hl 0 rfl) ?_
                          refine lv_iload hx hb dX10_comesBack_85 (lv_at hl 5 rfl) ?_
                          refine call_V (As := [.int (nI (j))]) (rest := []) hE (ct_X10_dueOf l E a I tr (j) hI hD7 (by omega)) cm_X10_dueOf (uw mt_L_X10_164 rfl) (gM_0 E a I tr) rfl rfl hP hD hS hl.1 rfl rfl (Nat.le_of_ble_eq_true rfl) ⟨by decide, by decide⟩ dX10_comesBack_87 (fun H locs hP hD hS => ?_)
                          refine W.eq (g2 := F0 m 90 ls [.int (rN (quJ I (j)))]) rfl ?_
                          have hq2 := quJ_le I (j)
                          refine lv_aload_n hx hb dX10_comesBack_90 rfl (lv_at hl 0 rfl) ?_
                          refine lv_iload hx hb dX10_comesBack_91 (lv_at hl 4 rfl) ?_
                          refine call_V (As := [.int (nI (i))]) (rest := [.int (rN (quJ I (j)))]) hE (ct_X10_dueOf l E a I tr (i) hI hD7 (by omega)) cm_X10_dueOf (uw mt_L_X10_164 rfl) (gM_0 E a I tr) rfl rfl hP hD hS hl.1 rfl rfl (Nat.le_of_ble_eq_true rfl) ⟨by decide, by decide⟩ dX10_comesBack_93 (fun H locs hP hD hS => ?_)
                          refine W.eq (g2 := F0 m 96 ls [.int (rN (quJ I (i))), .int (rN (quJ I (j)))]) rfl ?_
                          have hq3 := quJ_le I (i)
                          refine bQ_le (tgt := 103) hx hb (by omega) (by omega) dX10_comesBack_96 (by decide) (fun c96 => ?_) (fun c96 => ?_)
                          · refine lv_iconst (v := nI (0)) hx hb dX10_comesBack_103 (by decide) ?_
                            refine lv_istore (lv' := [(6, .int (nI (0))), (0, .ref (a 0)), (1, .int (nI (k))), (2, .int (nI (x))), (3, .int (nI (u))), (4, .int (nI (i))), (5, .int (nI (j)))]) hx hb dX10_comesBack_104 hl (by decide) rfl (fun ls hl => ?_)
                            refine lv_iload_n hx hb dX10_comesBack_106 rfl (lv_at hl 3 rfl) ?_
                            refine lv_iload hx hb dX10_comesBack_107 (lv_at hl 0 rfl) ?_
                            refine bZ_eq (tgt := 119) hx hb (by omega) dX10_comesBack_109 (by decide) (fun c109 => ?_) (fun c109 => absurd c109 (by omega))
                            refine lv_iconst (v := nI (0)) hx hb dX10_comesBack_119 (by decide) ?_
                            refine lv_ior hx hb dX10_comesBack_120 ?_
                            refine tp nI_or ?_
                            refine tp (show nI ((x) ||| (0)) = nI ((x)) by rw [Nat.or_zero]) ?_
                            refine lv_istore_n (lv' := [(2, .int (nI (x))), (6, .int (nI (0))), (0, .ref (a 0)), (1, .int (nI (k))), (3, .int (nI (u))), (4, .int (nI (i))), (5, .int (nI (j)))]) hx hb dX10_comesBack_121 rfl hl (by decide) rfl (fun ls hl => ?_)
                            refine lv_iinc (v := nI (j + 1)) (lv' := [(5, .int (nI (j + 1))), (2, .int (nI (x))), (6, .int (nI (0))), (0, .ref (a 0)), (1, .int (nI (k))), (3, .int (nI (u))), (4, .int (nI (i)))]) hx hb dX10_comesBack_122 hl (k := 6) rfl (ii1_N _) (by decide) rfl (fun ls hl => ?_)
                            refine lv_goto (tgt := 42) hx hb dX10_comesBack_125 (by decide) ?_
                            exact ih42 (x) (j + 1) (by omega) (by omega) (by first | exact hcx | exact cbI_a hD7 hcx (tb_t c58) ⟨c81, c96⟩ (by omega)) (by first | exact hdx | exact dnI_a hdx) (by first | exact dnJ_k hjx (fun z => by rw [tb_f c58] at z; exact absurd z.1 (by decide)) | exact dnJ_k hjx (fun z => c81 z.2.1) | exact dnJ_k hjx (fun z => by have := z.2.2; omega) | exact dnJ_a hjx) ls _ _ (lv_sub hl [3, 4, 1, 5, 6, 0] rfl) hP hD hS
                          · refine lv_iconst (v := nI (1)) hx hb dX10_comesBack_99 (by decide) ?_
                            refine lv_goto (tgt := 104) hx hb dX10_comesBack_100 (by decide) ?_
                            refine lv_istore (lv' := [(6, .int (nI (1))), (0, .ref (a 0)), (1, .int (nI (k))), (2, .int (nI (x))), (3, .int (nI (u))), (4, .int (nI (i))), (5, .int (nI (j)))]) hx hb dX10_comesBack_104 hl (by decide) rfl (fun ls hl => ?_)
                            refine lv_iload_n hx hb dX10_comesBack_106 rfl (lv_at hl 3 rfl) ?_
                            refine lv_iload hx hb dX10_comesBack_107 (lv_at hl 0 rfl) ?_
                            refine bZ_eq (tgt := 119) hx hb (by omega) dX10_comesBack_109 (by decide) (fun c109 => absurd c109 (by omega)) (fun c109 => ?_)
                            refine lv_iconst (v := nI (1)) hx hb dX10_comesBack_112 (by decide) ?_
                            refine lv_iload hx hb dX10_comesBack_113 (lv_at hl 6 rfl) ?_
                            refine lv_ishl hx hb dX10_comesBack_115 ?_
                            refine tp (nI_pow (k := j) (by omega)) ?_
                            refine lv_goto (tgt := 120) hx hb dX10_comesBack_116 (by decide) ?_
                            refine lv_ior hx hb dX10_comesBack_120 ?_
                            refine tp nI_or ?_
                            refine lv_istore_n (lv' := [(2, .int (nI ((x) ||| (2 ^ (j))))), (6, .int (nI (1))), (0, .ref (a 0)), (1, .int (nI (k))), (3, .int (nI (u))), (4, .int (nI (i))), (5, .int (nI (j)))]) hx hb dX10_comesBack_121 rfl hl (by decide) rfl (fun ls hl => ?_)
                            refine lv_iinc (v := nI (j + 1)) (lv' := [(5, .int (nI (j + 1))), (2, .int (nI ((x) ||| (2 ^ (j))))), (6, .int (nI (1))), (0, .ref (a 0)), (1, .int (nI (k))), (3, .int (nI (u))), (4, .int (nI (i)))]) hx hb dX10_comesBack_122 hl (k := 6) rfl (ii1_N _) (by decide) rfl (fun ls hl => ?_)
                            refine lv_goto (tgt := 42) hx hb dX10_comesBack_125 (by decide) ?_
                            exact ih42 ((x) ||| (2 ^ (j))) (j + 1) (by omega) (by omega) (by first | exact hcx | exact cbI_a hD7 hcx (tb_t c58) ⟨c81, c96⟩ (by omega)) (by first | exact hdx | exact dnI_a hdx) (by first | exact dnJ_k hjx (fun z => by rw [tb_f c58] at z; exact absurd z.1 (by decide)) | exact dnJ_k hjx (fun z => c81 z.2.1) | exact dnJ_k hjx (fun z => by have := z.2.2; omega) | exact dnJ_a hjx) ls _ _ (lv_sub hl [3, 4, 1, 5, 6, 0] rfl) hP hD hS
                exact loop42 (_ + 1) (v) (0) (Nat.lt_succ_self _) (by omega) hcv hdv dnJ_0 ls _ _ (lv_sub hl [1, 2, 3, 4, 5, 0] rfl) hP hD hS
          exact loop30 (_ + 1) (u) (0) (Nat.lt_succ_self _) (by omega) (cbI_w hcb) dnI_0 ls _ _ (lv_sub hl [2, 3, 4, 1, 0] rfl) hP hD hS
    exact loop20 (_ + 1) (2 ^ (k)) (0) (Nat.lt_succ_self _) (by first | exact cbI_0 c7 | exact cbI_1 hD7 hk c7) clI_0 ls _ _ (lv_sub hl [2, 3, 1, 0] rfl) hP hD hS
  · refine lv_iconst (v := nI (0)) hx hb dX10_comesBack_10 (by decide) ?_
    refine lv_goto (tgt := 17) hx hb dX10_comesBack_11 (by decide) ?_
    refine lv_istore_n (lv' := [(2, .int (nI (0))), (0, .ref (a 0)), (1, .int (nI (k)))]) hx hb dX10_comesBack_17 rfl hl (by decide) rfl (fun ls hl => ?_)
    refine lv_iconst (v := nI (0)) hx hb dX10_comesBack_18 (by decide) ?_
    refine lv_istore_n (lv' := [(3, .int (nI (0))), (2, .int (nI (0))), (0, .ref (a 0)), (1, .int (nI (k)))]) hx hb dX10_comesBack_19 rfl hl (by decide) rfl (fun ls hl => ?_)
    have loop20 : ∀ (fu20 : Nat) (u : Nat) (w : Nat), 512 - (u + w) < fu20 → (cbI I k u w) → (clI I u w) → ∀ (ls : Array Slot) (H : Heap) (locs : List Loc), lv_has ls 7 [(0, .ref (a 0)), (1, .int (nI (k))), (2, .int (nI (u))), (3, .int (nI (w)))] → va_P E.1 vwCl (WM E a I tr) H → va_D A (WM E a I tr) → va_S A s.heap H locs → W p l e (rmL 4) s m args below meth c H locs 0 0 (RQ E below args s A (some (.int (bB (cmB I k)))) (WM E a I tr)) (F0 m 20 ls []) := by
      intro fu20
      induction fu20 with
      | zero => intro u w h; exact absurd h (Nat.not_lt_zero _)
      | succ fu20 ih20 =>
        intro u w hfu20 hcb hcl ls H locs hl hP hD hS
        have hu256 := hcb.1
        have hwu := cb_le hcb
        refine lv_iload_n hx hb dX10_comesBack_20 rfl (lv_at hl 2 rfl) ?_
        refine lv_iload_n hx hb dX10_comesBack_21 rfl (lv_at hl 3 rfl) ?_
        refine bN_eq (tgt := 137) hx hb (by omega) (by omega) dX10_comesBack_22 (by decide) (fun c22 => ?_) (fun c22 => ?_)
        · have hall := cb_all hcb hcl c22
          refine lv_iconst (v := nI (0)) hx hb dX10_comesBack_137 (by decide) ?_
          refine lv_istore (lv' := [(4, .int (nI (0))), (0, .ref (a 0)), (1, .int (nI (k))), (2, .int (nI (u))), (3, .int (nI (w)))]) hx hb dX10_comesBack_138 hl (by decide) rfl (fun ls hl => ?_)
          refine lv_iconst (v := nI (0)) hx hb dX10_comesBack_140 (by decide) ?_
          refine lv_istore (lv' := [(5, .int (nI (0))), (4, .int (nI (0))), (0, .ref (a 0)), (1, .int (nI (k))), (2, .int (nI (u))), (3, .int (nI (w)))]) hx hb dX10_comesBack_141 hl (by decide) rfl (fun ls hl => ?_)
          have loop143 : ∀ (fu143 : Nat) (f : Nat) (q : Nat), I 26 0 - q < fu143 → (q ≤ I 26 0) → (f = bN1 (ex (cmQ I k) q)) → ∀ (ls : Array Slot) (H : Heap) (locs : List Loc), lv_has ls 7 [(0, .ref (a 0)), (1, .int (nI (k))), (2, .int (nI (u))), (4, .int (nI (f))), (5, .int (nI (q)))] → va_P E.1 vwCl (WM E a I tr) H → va_D A (WM E a I tr) → va_S A s.heap H locs → W p l e (rmL 4) s m args below meth c H locs 0 0 (RQ E below args s A (some (.int (bB (cmB I k)))) (WM E a I tr)) (F0 m 143 ls []) := by
            intro fu143
            induction fu143 with
            | zero => intro f q h; exact absurd h (Nat.not_lt_zero _)
            | succ fu143 ih143 =>
              intro f q hfu143 hq hf ls H locs hl hP hD hS
              have hsq : u / 2 ^ q ≤ u := Nat.div_le_self _ _
              have hf1 := bN1_le (ex (cmQ I k) q)
              rw [← hf] at hf1
              refine lv_iload hx hb dX10_comesBack_143 (lv_at hl 4 rfl) ?_
              refine lv_aload_n hx hb dX10_comesBack_145 rfl (lv_at hl 0 rfl) ?_
              refine gf_X10_122 hE hP (0) (gM_0 E a I tr) (v := .int (nI (I (26) (0)))) rfl dX10_comesBack_146 ?_
              refine bN_ge (tgt := 208) hx hb (by omega) (by omega) dX10_comesBack_149 (by decide) (fun c149 => ?_) (fun c149 => ?_)
              · refine lv_iload hx hb dX10_comesBack_208 (lv_at hl 3 rfl) ?_
                refine tp (show nI f = bB (cmB I k) by rw [hf, bN1_B, show q = I 26 0 by omega]; rfl) ?_
                exact ret_z hE (r := bB (cmB I k)) (bB_nar _) (rfl) hP hD hS dX10_comesBack_210
              · refine lv_iload hx hb dX10_comesBack_152 (lv_at hl 3 rfl) ?_
                refine bZ_ne (tgt := 195) hx hb (by omega) dX10_comesBack_154 (by decide) (fun c154 => ?_) (fun c154 => ?_)
                · refine lv_iconst (v := nI (1)) hx hb dX10_comesBack_195 (by decide) ?_
                  refine lv_goto (tgt := 200) hx hb dX10_comesBack_196 (by decide) ?_
                  refine lv_istore (lv' := [(4, .int (nI (1))), (0, .ref (a 0)), (1, .int (nI (k))), (2, .int (nI (u))), (5, .int (nI (q)))]) hx hb dX10_comesBack_200 hl (by decide) rfl (fun ls hl => ?_)
                  refine lv_iinc (v := nI (q + 1)) (lv' := [(5, .int (nI (q + 1))), (4, .int (nI (1))), (0, .ref (a 0)), (1, .int (nI (k))), (2, .int (nI (u)))]) hx hb dX10_comesBack_202 hl (k := 4) rfl (ii1_N _) (by decide) rfl (fun ls hl => ?_)
                  refine lv_goto (tgt := 143) hx hb dX10_comesBack_205 (by decide) ?_
                  exact ih143 (1) (q + 1) (by omega) (by omega) (by first | exact ex_1 hf c154) ls _ _ (lv_sub hl [2, 3, 4, 1, 0] rfl) hP hD hS
                · refine lv_iload hx hb dX10_comesBack_157 (lv_at hl 4 rfl) ?_
                  refine lv_iload_n hx hb dX10_comesBack_159 rfl (lv_at hl 1 rfl) ?_
                  refine bN_eq (tgt := 199) hx hb (by omega) (by omega) dX10_comesBack_160 (by decide) (fun c160 => ?_) (fun c160 => ?_)
                  · refine lv_iconst (v := nI (0)) hx hb dX10_comesBack_199 (by decide) ?_
                    refine lv_istore (lv' := [(4, .int (nI (0))), (0, .ref (a 0)), (1, .int (nI (k))), (2, .int (nI (u))), (5, .int (nI (q)))]) hx hb dX10_comesBack_200 hl (by decide) rfl (fun ls hl => ?_)
                    refine lv_iinc (v := nI (q + 1)) (lv' := [(5, .int (nI (q + 1))), (4, .int (nI (0))), (0, .ref (a 0)), (1, .int (nI (k))), (2, .int (nI (u)))]) hx hb dX10_comesBack_202 hl (k := 4) rfl (ii1_N _) (by decide) rfl (fun ls hl => ?_)
                    refine lv_goto (tgt := 143) hx hb dX10_comesBack_205 (by decide) ?_
                    exact ih143 (0) (q + 1) (by omega) (by omega) (by first | exact ex_1 hf c154 | exact ex_0 hf c154 (cmQ_f (fun z => z.1 c160))) ls _ _ (lv_sub hl [2, 3, 4, 1, 0] rfl) hP hD hS
                  · refine lv_iload_n hx hb dX10_comesBack_163 rfl (lv_at hl 2 rfl) ?_
                    refine lv_iload hx hb dX10_comesBack_164 (lv_at hl 4 rfl) ?_
                    refine lv_ishr hx hb dX10_comesBack_166 ?_
                    refine tp (nI_shr (by omega) (by omega)) ?_
                    refine lv_iconst (v := nI (1)) hx hb dX10_comesBack_167 (by decide) ?_
                    refine lv_iand hx hb dX10_comesBack_168 ?_
                    refine tp (nI_and1 (by omega)) ?_
                    refine lv_iconst (v := nI (1)) hx hb dX10_comesBack_169 (by decide) ?_
                    refine bN_ne (tgt := 199) hx hb (by omega) (by omega) dX10_comesBack_170 (by decide) (fun c170 => ?_) (fun c170 => ?_)
                    · refine lv_iconst (v := nI (0)) hx hb dX10_comesBack_199 (by decide) ?_
                      refine lv_istore (lv' := [(4, .int (nI (0))), (0, .ref (a 0)), (1, .int (nI (k))), (2, .int (nI (u))), (5, .int (nI (q)))]) hx hb dX10_comesBack_200 hl (by decide) rfl (fun ls hl => ?_)
                      refine lv_iinc (v := nI (q + 1)) (lv' := [(5, .int (nI (q + 1))), (4, .int (nI (0))), (0, .ref (a 0)), (1, .int (nI (k))), (2, .int (nI (u)))]) hx hb dX10_comesBack_202 hl (k := 4) rfl (ii1_N _) (by decide) rfl (fun ls hl => ?_)
                      refine lv_goto (tgt := 143) hx hb dX10_comesBack_205 (by decide) ?_
                      exact ih143 (0) (q + 1) (by omega) (by omega) (by first | exact ex_1 hf c154 | exact ex_0 hf c154 (cmQ_f (fun z => z.1 c160)) | exact ex_0 hf c154 (cmQ_f (fun z => by have q1 := hall _ z.2.1; rw [tb_f c170] at q1; cases q1))) ls _ _ (lv_sub hl [2, 3, 4, 1, 0] rfl) hP hD hS
                    · have hdq := hD7.2 q (by omega)
                      have hdk := hD7.2 k (by omega)
                      have hc6 := hI.1
                      refine lv_aload_n hx hb dX10_comesBack_173 rfl (lv_at hl 0 rfl) ?_
                      refine gf_X10_60 hE hP (0) (gM_0 E a I tr) (v := .ref (a 17)) rfl dX10_comesBack_174 ?_
                      refine lv_iconst (v := nI (3)) hx hb dX10_comesBack_177 (by decide) ?_
                      refine lv_iload hx hb dX10_comesBack_178 (lv_at hl 4 rfl) ?_
                      refine lv_imul hx hb dX10_comesBack_180 ?_
                      refine tp (pk_mul _ _) ?_
                      refine lv_iconst (v := nI (1)) hx hb dX10_comesBack_181 (by decide) ?_
                      refine lv_iadd hx hb dX10_comesBack_182 ?_
                      refine tp (nI_add _ _) ?_
                      refine ald_i hE hP (17) (gM_17 E a I tr) (by omega) (by decide) (r := nI (I (25) ((3) * (q) + 1))) rfl dX10_comesBack_183 ?_
                      refine lv_aload_n hx hb dX10_comesBack_184 rfl (lv_at hl 0 rfl) ?_
                      refine gf_X10_60 hE hP (0) (gM_0 E a I tr) (v := .ref (a 17)) rfl dX10_comesBack_185 ?_
                      refine lv_iconst (v := nI (3)) hx hb dX10_comesBack_188 (by decide) ?_
                      refine lv_iload_n hx hb dX10_comesBack_189 rfl (lv_at hl 1 rfl) ?_
                      refine lv_imul hx hb dX10_comesBack_190 ?_
                      refine tp (pk_mul _ _) ?_
                      refine ald_i hE hP (17) (gM_17 E a I tr) (by omega) (by decide) (r := nI (I (25) ((3) * (k)))) rfl dX10_comesBack_191 ?_
                      refine bN_ne (tgt := 199) hx hb (by omega) (by omega) dX10_comesBack_192 (by decide) (fun c192 => ?_) (fun c192 => ?_)
                      · refine lv_iconst (v := nI (0)) hx hb dX10_comesBack_199 (by decide) ?_
                        refine lv_istore (lv' := [(4, .int (nI (0))), (0, .ref (a 0)), (1, .int (nI (k))), (2, .int (nI (u))), (5, .int (nI (q)))]) hx hb dX10_comesBack_200 hl (by decide) rfl (fun ls hl => ?_)
                        refine lv_iinc (v := nI (q + 1)) (lv' := [(5, .int (nI (q + 1))), (4, .int (nI (0))), (0, .ref (a 0)), (1, .int (nI (k))), (2, .int (nI (u)))]) hx hb dX10_comesBack_202 hl (k := 4) rfl (ii1_N _) (by decide) rfl (fun ls hl => ?_)
                        refine lv_goto (tgt := 143) hx hb dX10_comesBack_205 (by decide) ?_
                        exact ih143 (0) (q + 1) (by omega) (by omega) (by first | exact ex_1 hf c154 | exact ex_0 hf c154 (cmQ_f (fun z => z.1 c160)) | exact ex_0 hf c154 (cmQ_f (fun z => by have q1 := hall _ z.2.1; rw [tb_f c170] at q1; cases q1)) | exact ex_0 hf c154 (cmQ_f (fun z => c192 z.2.2)) | exact ex_t (cmQ_t ⟨c160, (hcb.2.2.1 q (tb_t c170)).2, c192⟩)) ls _ _ (lv_sub hl [2, 3, 4, 1, 0] rfl) hP hD hS
                      · refine lv_iconst (v := nI (1)) hx hb dX10_comesBack_195 (by decide) ?_
                        refine lv_goto (tgt := 200) hx hb dX10_comesBack_196 (by decide) ?_
                        refine lv_istore (lv' := [(4, .int (nI (1))), (0, .ref (a 0)), (1, .int (nI (k))), (2, .int (nI (u))), (5, .int (nI (q)))]) hx hb dX10_comesBack_200 hl (by decide) rfl (fun ls hl => ?_)
                        refine lv_iinc (v := nI (q + 1)) (lv' := [(5, .int (nI (q + 1))), (4, .int (nI (1))), (0, .ref (a 0)), (1, .int (nI (k))), (2, .int (nI (u)))]) hx hb dX10_comesBack_202 hl (k := 4) rfl (ii1_N _) (by decide) rfl (fun ls hl => ?_)
                        refine lv_goto (tgt := 143) hx hb dX10_comesBack_205 (by decide) ?_
                        exact ih143 (1) (q + 1) (by omega) (by omega) (by first | exact ex_1 hf c154 | exact ex_0 hf c154 (cmQ_f (fun z => z.1 c160)) | exact ex_0 hf c154 (cmQ_f (fun z => by have q1 := hall _ z.2.1; rw [tb_f c170] at q1; cases q1)) | exact ex_0 hf c154 (cmQ_f (fun z => c192 z.2.2)) | exact ex_t (cmQ_t ⟨c160, (hcb.2.2.1 q (tb_t c170)).2, c192⟩)) ls _ _ (lv_sub hl [2, 3, 4, 1, 0] rfl) hP hD hS
          exact loop143 (_ + 1) (0) (0) (Nat.lt_succ_self _) (by omega) rfl ls _ _ (lv_sub hl [2, 3, 4, 1, 0] rfl) hP hD hS
        · refine lv_iload_n hx hb dX10_comesBack_25 rfl (lv_at hl 2 rfl) ?_
          refine lv_istore_n (lv' := [(3, .int (nI (u))), (0, .ref (a 0)), (1, .int (nI (k))), (2, .int (nI (u)))]) hx hb dX10_comesBack_26 rfl hl (by decide) rfl (fun ls hl => ?_)
          refine lv_iconst (v := nI (0)) hx hb dX10_comesBack_27 (by decide) ?_
          refine lv_istore (lv' := [(4, .int (nI (0))), (3, .int (nI (u))), (0, .ref (a 0)), (1, .int (nI (k))), (2, .int (nI (u)))]) hx hb dX10_comesBack_28 hl (by decide) rfl (fun ls hl => ?_)
          have loop30 : ∀ (fu30 : Nat) (v : Nat) (i : Nat), I 26 0 - i < fu30 → (i ≤ I 26 0) → (cbI I k v u) → (dnI I v u i) → ∀ (ls : Array Slot) (H : Heap) (locs : List Loc), lv_has ls 7 [(0, .ref (a 0)), (1, .int (nI (k))), (2, .int (nI (v))), (3, .int (nI (u))), (4, .int (nI (i)))] → va_P E.1 vwCl (WM E a I tr) H → va_D A (WM E a I tr) → va_S A s.heap H locs → W p l e (rmL 4) s m args below meth c H locs 0 0 (RQ E below args s A (some (.int (bB (cmB I k)))) (WM E a I tr)) (F0 m 30 ls []) := by
            intro fu30
            induction fu30 with
            | zero => intro v i h; exact absurd h (Nat.not_lt_zero _)
            | succ fu30 ih30 =>
              intro v i hfu30 hi hcv hdv ls H locs hl hP hD hS
              have hv256 := hcv.1
              have huv := cb_le hcv
              have hsd : u / 2 ^ i ≤ u := Nat.div_le_self _ _
              refine lv_iload hx hb dX10_comesBack_30 (lv_at hl 4 rfl) ?_
              refine lv_aload_n hx hb dX10_comesBack_32 rfl (lv_at hl 0 rfl) ?_
              refine gf_X10_122 hE hP (0) (gM_0 E a I tr) (v := .int (nI (I (26) (0)))) rfl dX10_comesBack_33 ?_
              refine bN_ge (tgt := 134) hx hb (by omega) (by omega) dX10_comesBack_36 (by decide) (fun c36 => ?_) (fun c36 => ?_)
              · refine lv_goto (tgt := 20) hx hb dX10_comesBack_134 (by decide) ?_
                exact ih20 (v) (u) (by omega) hcv (clI_s hcv hdv c36) ls _ _ (lv_sub hl [0, 1, 2, 3] rfl) hP hD hS
              · refine lv_iconst (v := nI (0)) hx hb dX10_comesBack_39 (by decide) ?_
                refine lv_istore (lv' := [(5, .int (nI (0))), (0, .ref (a 0)), (1, .int (nI (k))), (2, .int (nI (v))), (3, .int (nI (u))), (4, .int (nI (i)))]) hx hb dX10_comesBack_40 hl (by decide) rfl (fun ls hl => ?_)
                have loop42 : ∀ (fu42 : Nat) (x : Nat) (j : Nat), I 26 0 - j < fu42 → (j ≤ I 26 0) → (cbI I k x u) → (dnI I x u i) → (dnJ I x u i j) → ∀ (ls : Array Slot) (H : Heap) (locs : List Loc), lv_has ls 7 [(0, .ref (a 0)), (1, .int (nI (k))), (2, .int (nI (x))), (3, .int (nI (u))), (4, .int (nI (i))), (5, .int (nI (j)))] → va_P E.1 vwCl (WM E a I tr) H → va_D A (WM E a I tr) → va_S A s.heap H locs → W p l e (rmL 4) s m args below meth c H locs 0 0 (RQ E below args s A (some (.int (bB (cmB I k)))) (WM E a I tr)) (F0 m 42 ls []) := by
                  intro fu42
                  induction fu42 with
                  | zero => intro x j h; exact absurd h (Nat.not_lt_zero _)
                  | succ fu42 ih42 =>
                    intro x j hfu42 hj hcx hdx hjx ls H locs hl hP hD hS
                    have hx256 := hcx.1
                    refine lv_iload hx hb dX10_comesBack_42 (lv_at hl 5 rfl) ?_
                    refine lv_aload_n hx hb dX10_comesBack_44 rfl (lv_at hl 0 rfl) ?_
                    refine gf_X10_122 hE hP (0) (gM_0 E a I tr) (v := .int (nI (I (26) (0)))) rfl dX10_comesBack_45 ?_
                    refine bN_ge (tgt := 128) hx hb (by omega) (by omega) dX10_comesBack_48 (by decide) (fun c48 => ?_) (fun c48 => ?_)
                    · refine lv_iinc (v := nI (i + 1)) (lv' := [(4, .int (nI (i + 1))), (0, .ref (a 0)), (1, .int (nI (k))), (2, .int (nI (x))), (3, .int (nI (u))), (5, .int (nI (j)))]) hx hb dX10_comesBack_128 hl (k := 4) rfl (ii1_N _) (by decide) rfl (fun ls hl => ?_)
                      refine lv_goto (tgt := 30) hx hb dX10_comesBack_131 (by decide) ?_
                      exact ih30 (x) (i + 1) (by omega) (by omega) hcx (dnI_s hdx hjx c48) ls _ _ (lv_sub hl [1, 2, 3, 4, 0] rfl) hP hD hS
                    · refine lv_iload_n hx hb dX10_comesBack_51 rfl (lv_at hl 3 rfl) ?_
                      refine lv_iload hx hb dX10_comesBack_52 (lv_at hl 4 rfl) ?_
                      refine lv_ishr hx hb dX10_comesBack_54 ?_
                      refine tp (nI_shr (by omega) (by omega)) ?_
                      refine lv_iconst (v := nI (1)) hx hb dX10_comesBack_55 (by decide) ?_
                      refine lv_iand hx hb dX10_comesBack_56 ?_
                      refine tp (nI_and1 (by omega)) ?_
                      refine lv_iconst (v := nI (1)) hx hb dX10_comesBack_57 (by decide) ?_
                      refine bN_ne (tgt := 103) hx hb (by omega) (by omega) dX10_comesBack_58 (by decide) (fun c58 => ?_) (fun c58 => ?_)
                      · refine lv_iconst (v := nI (0)) hx hb dX10_comesBack_103 (by decide) ?_
                        refine lv_istore (lv' := [(6, .int (nI (0))), (0, .ref (a 0)), (1, .int (nI (k))), (2, .int (nI (x))), (3, .int (nI (u))), (4, .int (nI (i))), (5, .int (nI (j)))]) hx hb dX10_comesBack_104 hl (by decide) rfl (fun ls hl => ?_)
                        refine lv_iload_n hx hb dX10_comesBack_106 rfl (lv_at hl 3 rfl) ?_
                        refine lv_iload hx hb dX10_comesBack_107 (lv_at hl 0 rfl) ?_
                        refine bZ_eq (tgt := 119) hx hb (by omega) dX10_comesBack_109 (by decide) (fun c109 => ?_) (fun c109 => absurd c109 (by omega))
                        refine lv_iconst (v := nI (0)) hx hb dX10_comesBack_119 (by decide) ?_
                        refine lv_ior hx hb dX10_comesBack_120 ?_
                        refine tp nI_or ?_
                        refine tp (show nI ((x) ||| (0)) = nI ((x)) by rw [Nat.or_zero]) ?_
                        refine lv_istore_n (lv' := [(2, .int (nI (x))), (6, .int (nI (0))), (0, .ref (a 0)), (1, .int (nI (k))), (3, .int (nI (u))), (4, .int (nI (i))), (5, .int (nI (j)))]) hx hb dX10_comesBack_121 rfl hl (by decide) rfl (fun ls hl => ?_)
                        refine lv_iinc (v := nI (j + 1)) (lv' := [(5, .int (nI (j + 1))), (2, .int (nI (x))), (6, .int (nI (0))), (0, .ref (a 0)), (1, .int (nI (k))), (3, .int (nI (u))), (4, .int (nI (i)))]) hx hb dX10_comesBack_122 hl (k := 6) rfl (ii1_N _) (by decide) rfl (fun ls hl => ?_)
                        refine lv_goto (tgt := 42) hx hb dX10_comesBack_125 (by decide) ?_
                        exact ih42 (x) (j + 1) (by omega) (by omega) (by first | exact hcx) (by first | exact hdx | exact dnI_a hdx) (by first | exact dnJ_k hjx (fun z => by rw [tb_f c58] at z; exact absurd z.1 (by decide)) | exact dnJ_k hjx (fun z => by have := z.2.2; omega) | exact dnJ_a hjx) ls _ _ (lv_sub hl [3, 4, 1, 5, 6, 0] rfl) hP hD hS
                      · have hdi := hD7.2 i (by omega)
                        have hdj := hD7.2 j (by omega)
                        have hc6 := hI.1
                        refine lv_aload_n hx hb dX10_comesBack_61 rfl (lv_at hl 0 rfl) ?_
                        refine gf_X10_60 hE hP (0) (gM_0 E a I tr) (v := .ref (a 17)) rfl dX10_comesBack_62 ?_
                        refine lv_iconst (v := nI (3)) hx hb dX10_comesBack_65 (by decide) ?_
                        refine lv_iload hx hb dX10_comesBack_66 (lv_at hl 4 rfl) ?_
                        refine lv_imul hx hb dX10_comesBack_68 ?_
                        refine tp (pk_mul _ _) ?_
                        refine lv_iconst (v := nI (1)) hx hb dX10_comesBack_69 (by decide) ?_
                        refine lv_iadd hx hb dX10_comesBack_70 ?_
                        refine tp (nI_add _ _) ?_
                        refine ald_i hE hP (17) (gM_17 E a I tr) (by omega) (by decide) (r := nI (I (25) ((3) * (i) + 1))) rfl dX10_comesBack_71 ?_
                        refine lv_aload_n hx hb dX10_comesBack_72 rfl (lv_at hl 0 rfl) ?_
                        refine gf_X10_60 hE hP (0) (gM_0 E a I tr) (v := .ref (a 17)) rfl dX10_comesBack_73 ?_
                        refine lv_iconst (v := nI (3)) hx hb dX10_comesBack_76 (by decide) ?_
                        refine lv_iload hx hb dX10_comesBack_77 (lv_at hl 5 rfl) ?_
                        refine lv_imul hx hb dX10_comesBack_79 ?_
                        refine tp (pk_mul _ _) ?_
                        refine ald_i hE hP (17) (gM_17 E a I tr) (by omega) (by decide) (r := nI (I (25) ((3) * (j)))) rfl dX10_comesBack_80 ?_
                        refine bN_ne (tgt := 103) hx hb (by omega) (by omega) dX10_comesBack_81 (by decide) (fun c81 => ?_) (fun c81 => ?_)
                        · refine lv_iconst (v := nI (0)) hx hb dX10_comesBack_103 (by decide) ?_
                          refine lv_istore (lv' := [(6, .int (nI (0))), (0, .ref (a 0)), (1, .int (nI (k))), (2, .int (nI (x))), (3, .int (nI (u))), (4, .int (nI (i))), (5, .int (nI (j)))]) hx hb dX10_comesBack_104 hl (by decide) rfl (fun ls hl => ?_)
                          refine lv_iload_n hx hb dX10_comesBack_106 rfl (lv_at hl 3 rfl) ?_
                          refine lv_iload hx hb dX10_comesBack_107 (lv_at hl 0 rfl) ?_
                          refine bZ_eq (tgt := 119) hx hb (by omega) dX10_comesBack_109 (by decide) (fun c109 => ?_) (fun c109 => absurd c109 (by omega))
                          refine lv_iconst (v := nI (0)) hx hb dX10_comesBack_119 (by decide) ?_
                          refine lv_ior hx hb dX10_comesBack_120 ?_
                          refine tp nI_or ?_
                          refine tp (show nI ((x) ||| (0)) = nI ((x)) by rw [Nat.or_zero]) ?_
                          refine lv_istore_n (lv' := [(2, .int (nI (x))), (6, .int (nI (0))), (0, .ref (a 0)), (1, .int (nI (k))), (3, .int (nI (u))), (4, .int (nI (i))), (5, .int (nI (j)))]) hx hb dX10_comesBack_121 rfl hl (by decide) rfl (fun ls hl => ?_)
                          refine lv_iinc (v := nI (j + 1)) (lv' := [(5, .int (nI (j + 1))), (2, .int (nI (x))), (6, .int (nI (0))), (0, .ref (a 0)), (1, .int (nI (k))), (3, .int (nI (u))), (4, .int (nI (i)))]) hx hb dX10_comesBack_122 hl (k := 6) rfl (ii1_N _) (by decide) rfl (fun ls hl => ?_)
                          refine lv_goto (tgt := 42) hx hb dX10_comesBack_125 (by decide) ?_
                          exact ih42 (x) (j + 1) (by omega) (by omega) (by first | exact hcx) (by first | exact hdx | exact dnI_a hdx) (by first | exact dnJ_k hjx (fun z => by rw [tb_f c58] at z; exact absurd z.1 (by decide)) | exact dnJ_k hjx (fun z => c81 z.2.1) | exact dnJ_k hjx (fun z => by have := z.2.2; omega) | exact dnJ_a hjx) ls _ _ (lv_sub hl [3, 4, 1, 5, 6, 0] rfl) hP hD hS
                        · refine lv_aload_n hx hb dX10_comesBack_84 rfl (lv_at hl 0 rfl) ?_
                          refine lv_iload hx hb dX10_comesBack_85 (lv_at hl 5 rfl) ?_
                          refine call_V (As := [.int (nI (j))]) (rest := []) hE (ct_X10_dueOf l E a I tr (j) hI hD7 (by omega)) cm_X10_dueOf (uw mt_L_X10_164 rfl) (gM_0 E a I tr) rfl rfl hP hD hS hl.1 rfl rfl (Nat.le_of_ble_eq_true rfl) ⟨by decide, by decide⟩ dX10_comesBack_87 (fun H locs hP hD hS => ?_)
                          refine W.eq (g2 := F0 m 90 ls [.int (rN (quJ I (j)))]) rfl ?_
                          have hq4 := quJ_le I (j)
                          refine lv_aload_n hx hb dX10_comesBack_90 rfl (lv_at hl 0 rfl) ?_
                          refine lv_iload hx hb dX10_comesBack_91 (lv_at hl 4 rfl) ?_
                          refine call_V (As := [.int (nI (i))]) (rest := [.int (rN (quJ I (j)))]) hE (ct_X10_dueOf l E a I tr (i) hI hD7 (by omega)) cm_X10_dueOf (uw mt_L_X10_164 rfl) (gM_0 E a I tr) rfl rfl hP hD hS hl.1 rfl rfl (Nat.le_of_ble_eq_true rfl) ⟨by decide, by decide⟩ dX10_comesBack_93 (fun H locs hP hD hS => ?_)
                          refine W.eq (g2 := F0 m 96 ls [.int (rN (quJ I (i))), .int (rN (quJ I (j)))]) rfl ?_
                          have hq5 := quJ_le I (i)
                          refine bQ_le (tgt := 103) hx hb (by omega) (by omega) dX10_comesBack_96 (by decide) (fun c96 => ?_) (fun c96 => ?_)
                          · refine lv_iconst (v := nI (0)) hx hb dX10_comesBack_103 (by decide) ?_
                            refine lv_istore (lv' := [(6, .int (nI (0))), (0, .ref (a 0)), (1, .int (nI (k))), (2, .int (nI (x))), (3, .int (nI (u))), (4, .int (nI (i))), (5, .int (nI (j)))]) hx hb dX10_comesBack_104 hl (by decide) rfl (fun ls hl => ?_)
                            refine lv_iload_n hx hb dX10_comesBack_106 rfl (lv_at hl 3 rfl) ?_
                            refine lv_iload hx hb dX10_comesBack_107 (lv_at hl 0 rfl) ?_
                            refine bZ_eq (tgt := 119) hx hb (by omega) dX10_comesBack_109 (by decide) (fun c109 => ?_) (fun c109 => absurd c109 (by omega))
                            refine lv_iconst (v := nI (0)) hx hb dX10_comesBack_119 (by decide) ?_
                            refine lv_ior hx hb dX10_comesBack_120 ?_
                            refine tp nI_or ?_
                            refine tp (show nI ((x) ||| (0)) = nI ((x)) by rw [Nat.or_zero]) ?_
                            refine lv_istore_n (lv' := [(2, .int (nI (x))), (6, .int (nI (0))), (0, .ref (a 0)), (1, .int (nI (k))), (3, .int (nI (u))), (4, .int (nI (i))), (5, .int (nI (j)))]) hx hb dX10_comesBack_121 rfl hl (by decide) rfl (fun ls hl => ?_)
                            refine lv_iinc (v := nI (j + 1)) (lv' := [(5, .int (nI (j + 1))), (2, .int (nI (x))), (6, .int (nI (0))), (0, .ref (a 0)), (1, .int (nI (k))), (3, .int (nI (u))), (4, .int (nI (i)))]) hx hb dX10_comesBack_122 hl (k := 6) rfl (ii1_N _) (by decide) rfl (fun ls hl => ?_)
                            refine lv_goto (tgt := 42) hx hb dX10_comesBack_125 (by decide) ?_
                            exact ih42 (x) (j + 1) (by omega) (by omega) (by first | exact hcx | exact cbI_a hD7 hcx (tb_t c58) ⟨c81, c96⟩ (by omega)) (by first | exact hdx | exact dnI_a hdx) (by first | exact dnJ_k hjx (fun z => by rw [tb_f c58] at z; exact absurd z.1 (by decide)) | exact dnJ_k hjx (fun z => c81 z.2.1) | exact dnJ_k hjx (fun z => by have := z.2.2; omega) | exact dnJ_a hjx) ls _ _ (lv_sub hl [3, 4, 1, 5, 6, 0] rfl) hP hD hS
                          · refine lv_iconst (v := nI (1)) hx hb dX10_comesBack_99 (by decide) ?_
                            refine lv_goto (tgt := 104) hx hb dX10_comesBack_100 (by decide) ?_
                            refine lv_istore (lv' := [(6, .int (nI (1))), (0, .ref (a 0)), (1, .int (nI (k))), (2, .int (nI (x))), (3, .int (nI (u))), (4, .int (nI (i))), (5, .int (nI (j)))]) hx hb dX10_comesBack_104 hl (by decide) rfl (fun ls hl => ?_)
                            refine lv_iload_n hx hb dX10_comesBack_106 rfl (lv_at hl 3 rfl) ?_
                            refine lv_iload hx hb dX10_comesBack_107 (lv_at hl 0 rfl) ?_
                            refine bZ_eq (tgt := 119) hx hb (by omega) dX10_comesBack_109 (by decide) (fun c109 => absurd c109 (by omega)) (fun c109 => ?_)
                            refine lv_iconst (v := nI (1)) hx hb dX10_comesBack_112 (by decide) ?_
                            refine lv_iload hx hb dX10_comesBack_113 (lv_at hl 6 rfl) ?_
                            refine lv_ishl hx hb dX10_comesBack_115 ?_
                            refine tp (nI_pow (k := j) (by omega)) ?_
                            refine lv_goto (tgt := 120) hx hb dX10_comesBack_116 (by decide) ?_
                            refine lv_ior hx hb dX10_comesBack_120 ?_
                            refine tp nI_or ?_
                            refine lv_istore_n (lv' := [(2, .int (nI ((x) ||| (2 ^ (j))))), (6, .int (nI (1))), (0, .ref (a 0)), (1, .int (nI (k))), (3, .int (nI (u))), (4, .int (nI (i))), (5, .int (nI (j)))]) hx hb dX10_comesBack_121 rfl hl (by decide) rfl (fun ls hl => ?_)
                            refine lv_iinc (v := nI (j + 1)) (lv' := [(5, .int (nI (j + 1))), (2, .int (nI ((x) ||| (2 ^ (j))))), (6, .int (nI (1))), (0, .ref (a 0)), (1, .int (nI (k))), (3, .int (nI (u))), (4, .int (nI (i)))]) hx hb dX10_comesBack_122 hl (k := 6) rfl (ii1_N _) (by decide) rfl (fun ls hl => ?_)
                            refine lv_goto (tgt := 42) hx hb dX10_comesBack_125 (by decide) ?_
                            exact ih42 ((x) ||| (2 ^ (j))) (j + 1) (by omega) (by omega) (by first | exact hcx | exact cbI_a hD7 hcx (tb_t c58) ⟨c81, c96⟩ (by omega)) (by first | exact hdx | exact dnI_a hdx) (by first | exact dnJ_k hjx (fun z => by rw [tb_f c58] at z; exact absurd z.1 (by decide)) | exact dnJ_k hjx (fun z => c81 z.2.1) | exact dnJ_k hjx (fun z => by have := z.2.2; omega) | exact dnJ_a hjx) ls _ _ (lv_sub hl [3, 4, 1, 5, 6, 0] rfl) hP hD hS
                exact loop42 (_ + 1) (v) (0) (Nat.lt_succ_self _) (by omega) hcv hdv dnJ_0 ls _ _ (lv_sub hl [1, 2, 3, 4, 5, 0] rfl) hP hD hS
          exact loop30 (_ + 1) (u) (0) (Nat.lt_succ_self _) (by omega) (cbI_w hcb) dnI_0 ls _ _ (lv_sub hl [2, 3, 4, 1, 0] rfl) hP hD hS
    exact loop20 (_ + 1) (0) (0) (Nat.lt_succ_self _) (by first | exact cbI_0 c7 | exact cbI_1 hD7 hk c7) clI_0 ls _ _ (lv_sub hl [2, 3, 1, 0] rfl) hP hD hS

set_option maxHeartbeats 4000000 in
set_option maxRecDepth 100000 in
theorem ct_X10_due (l : Launch) (E : cE) (a : Nat → Nat) (I : Nat → Nat → Nat) (tr : Int64) (zp0 : Int32) (hI : KM I) (hD7 : DKJ I) : Ct l E 5 yX10_due cX10_due 4 (some .int) [.ref (a 0), .int (zp0)] (WM E a I tr) (some (.int (r_due (I 26 0) (quJ I) (ex (cmB I) (I 26 0)) zp0))) (WM E a I tr) := by
  refine Ct_of (plainFor_of_name (by decide)) (Nat.le_of_ble_eq_true rfl) ?_
  intro p e s m args below meth c A ls hE hP hD hS hl
  have hE : cEnv p s m args meth c E RX10 cX10_due 4 (some .int) A := hE
  have hx := hE.1
  have hb := hE.2.1
  have hl : lv_has ls 4 [(0, .ref (a 0)), (1, .int (zp0))] := hl
  have hP : va_P E.1 vwCl (WM E a I tr) s.heap := hP
  generalize hH : s.heap = H at hP hS ⊢
  have hS : va_S A s.heap H [] := by rw [hH]; exact hS
  clear hH
  have hd8 := hD7.1
  refine lv_iload_n hx hb dX10_due_0 rfl (lv_at hl 1 rfl) ?_
  refine lv_iconst (v := (-1)) hx hb dX10_due_1 (by decide) ?_
  refine lv_aload_n hx hb dX10_due_2 rfl (lv_at hl 0 rfl) ?_
  refine gf_X10_122 hE hP (0) (gM_0 E a I tr) (v := .int (nI (I (26) (0)))) rfl dX10_due_3 ?_
  refine lv_iconst (v := nI (1)) hx hb dX10_due_6 (by decide) ?_
  refine lv_isub hx hb dX10_due_7 ?_
  refine call_S (As := [.int (zp0), .int (-1), .int (nI (I (26) (0)) - nI (1))]) (rest := []) hE (ct_X10_in l E (WM E a I tr) ((zp0)) ((-1)) ((nI (I (26) (0)) - nI (1)))) cm_X10_in (uw mt_L_X10_63 rfl) hP hD hS hl.1 rfl rfl (Nat.le_of_ble_eq_true rfl) ⟨by decide, by decide⟩ dX10_due_8 (fun H locs hP hD hS => ?_)
  refine W.eq (g2 := F0 m 11 ls [.int (bB (wi ((zp0)) ((-1)) ((nI (I (26) (0)) - nI (1)))))]) rfl ?_
  refine bB_ne (tgt := 16) hx hb dX10_due_11 (by decide) (fun c11 => ?_) (fun c11 => ?_)
  · refine lv_iload_n hx hb dX10_due_16 rfl (lv_at hl 1 rfl) ?_
    refine lv_if_lt (tgt := 26) hx hb dX10_due_17 (by decide) (fun c17 => ?_) (fun c17 => ?_)
    · have hm1 : zp0 = -1 := wn_n (by omega) c11 c17
      subst hm1
      refine lv_iconst (v := nI (0)) hx hb dX10_due_26 (by decide) ?_
      refine lv_istore_n (lv' := [(2, .int (nI (0))), (0, .ref (a 0)), (1, .int (-1))]) hx hb dX10_due_27 rfl hl (by decide) rfl (fun ls hl => ?_)
      refine lv_iconst (v := nI (0)) hx hb dX10_due_28 (by decide) ?_
      refine lv_istore_n (lv' := [(3, .int (nI (0))), (2, .int (nI (0))), (0, .ref (a 0)), (1, .int (-1))]) hx hb dX10_due_29 rfl hl (by decide) rfl (fun ls hl => ?_)
      have loop30 : ∀ (fu30 : Nat) (f : Nat) (k : Nat), I 26 0 - k < fu30 → (k ≤ I 26 0) → (f = bN1 (ex (cmB I) k)) → ∀ (ls : Array Slot) (H : Heap) (locs : List Loc), lv_has ls 4 [(0, .ref (a 0)), (2, .int (nI (f))), (3, .int (nI (k)))] → va_P E.1 vwCl (WM E a I tr) H → va_D A (WM E a I tr) → va_S A s.heap H locs → W p l e (rmL 5) s m args below meth c H locs 0 0 (RQ E below args s A (some (.int (r_due (I 26 0) (quJ I) (ex (cmB I) (I 26 0)) (-1)))) (WM E a I tr)) (F0 m 30 ls []) := by
        intro fu30
        induction fu30 with
        | zero => intro f k h; exact absurd h (Nat.not_lt_zero _)
        | succ fu30 ih30 =>
          intro f k hfu30 hk hf ls H locs hl hP hD hS
          have hf1 := bN1_le (ex (cmB I) k)
          rw [← hf] at hf1
          refine lv_iload_n hx hb dX10_due_30 rfl (lv_at hl 2 rfl) ?_
          refine lv_aload_n hx hb dX10_due_31 rfl (lv_at hl 0 rfl) ?_
          refine gf_X10_122 hE hP (0) (gM_0 E a I tr) (v := .int (nI (I (26) (0)))) rfl dX10_due_32 ?_
          refine bN_ge (tgt := 62) hx hb (by omega) (by omega) dX10_due_35 (by decide) (fun c35 => ?_) (fun c35 => ?_)
          · refine lv_iload_n hx hb dX10_due_62 rfl (lv_at hl 1 rfl) ?_
            refine bZ_eq (tgt := 70) hx hb (by omega) dX10_due_63 (by decide) (fun c63 => ?_) (fun c63 => ?_)
            · refine lv_iconst (v := nI (0)) hx hb dX10_due_70 (by decide) ?_
              exact ret_i hE (r := nI (0)) (by rw [r_due, if_pos rfl, ← bN1_B, show I 26 0 = k by omega, ← hf, c63]) hP hD hS dX10_due_71
            · refine lv_iconst (v := nI (1)) hx hb dX10_due_66 (by decide) ?_
              refine lv_goto (tgt := 71) hx hb dX10_due_67 (by decide) ?_
              exact ret_i hE (r := nI (1)) (by rw [r_due, if_pos rfl, ← bN1_B, show I 26 0 = k by omega, ← hf, show f = 1 by omega]) hP hD hS dX10_due_71
          · refine lv_iload_n hx hb dX10_due_38 rfl (lv_at hl 1 rfl) ?_
            refine bZ_ne (tgt := 50) hx hb (by omega) dX10_due_39 (by decide) (fun c39 => ?_) (fun c39 => ?_)
            · refine lv_iconst (v := nI (1)) hx hb dX10_due_50 (by decide) ?_
              refine lv_goto (tgt := 55) hx hb dX10_due_51 (by decide) ?_
              refine lv_istore_n (lv' := [(2, .int (nI (1))), (0, .ref (a 0)), (3, .int (nI (k)))]) hx hb dX10_due_55 rfl hl (by decide) rfl (fun ls hl => ?_)
              refine lv_iinc (v := nI (k + 1)) (lv' := [(3, .int (nI (k + 1))), (2, .int (nI (1))), (0, .ref (a 0))]) hx hb dX10_due_56 hl (k := 2) rfl (ii1_N _) (by decide) rfl (fun ls hl => ?_)
              refine lv_goto (tgt := 30) hx hb dX10_due_59 (by decide) ?_
              exact ih30 (1) (k + 1) (by omega) (by omega) (by first | exact ex_1 hf c39) ls _ _ (lv_sub hl [2, 1, 0] rfl) hP hD hS
            · refine lv_aload_n hx hb dX10_due_42 rfl (lv_at hl 0 rfl) ?_
              refine lv_iload_n hx hb dX10_due_43 rfl (lv_at hl 2 rfl) ?_
              refine call_V (As := [.int (nI (k))]) (rest := []) hE (ct_X10_comesBack l E a I tr (k) hI hD7 (by omega)) cm_X10_comesBack (uw mt_L_X10_167 rfl) (gM_0 E a I tr) rfl rfl hP hD hS hl.1 rfl rfl (Nat.le_of_ble_eq_true rfl) ⟨by decide, by decide⟩ dX10_due_44 (fun H locs hP hD hS => ?_)
              refine W.eq (g2 := F0 m 47 ls [.int (bB (cmB I (k)))]) rfl ?_
              refine bB_eq (tgt := 54) hx hb dX10_due_47 (by decide) (fun c47 => ?_) (fun c47 => ?_)
              · refine lv_iconst (v := nI (0)) hx hb dX10_due_54 (by decide) ?_
                refine lv_istore_n (lv' := [(2, .int (nI (0))), (0, .ref (a 0)), (3, .int (nI (k)))]) hx hb dX10_due_55 rfl hl (by decide) rfl (fun ls hl => ?_)
                refine lv_iinc (v := nI (k + 1)) (lv' := [(3, .int (nI (k + 1))), (2, .int (nI (0))), (0, .ref (a 0))]) hx hb dX10_due_56 hl (k := 2) rfl (ii1_N _) (by decide) rfl (fun ls hl => ?_)
                refine lv_goto (tgt := 30) hx hb dX10_due_59 (by decide) ?_
                exact ih30 (0) (k + 1) (by omega) (by omega) (by first | exact ex_1 hf c39 | exact ex_0 hf c39 c47 | exact ex_t c47) ls _ _ (lv_sub hl [2, 1, 0] rfl) hP hD hS
              · refine lv_iconst (v := nI (1)) hx hb dX10_due_50 (by decide) ?_
                refine lv_goto (tgt := 55) hx hb dX10_due_51 (by decide) ?_
                refine lv_istore_n (lv' := [(2, .int (nI (1))), (0, .ref (a 0)), (3, .int (nI (k)))]) hx hb dX10_due_55 rfl hl (by decide) rfl (fun ls hl => ?_)
                refine lv_iinc (v := nI (k + 1)) (lv' := [(3, .int (nI (k + 1))), (2, .int (nI (1))), (0, .ref (a 0))]) hx hb dX10_due_56 hl (k := 2) rfl (ii1_N _) (by decide) rfl (fun ls hl => ?_)
                refine lv_goto (tgt := 30) hx hb dX10_due_59 (by decide) ?_
                exact ih30 (1) (k + 1) (by omega) (by omega) (by first | exact ex_1 hf c39 | exact ex_0 hf c39 c47 | exact ex_t c47) ls _ _ (lv_sub hl [2, 1, 0] rfl) hP hD hS
      exact loop30 (_ + 1) (0) (0) (Nat.lt_succ_self _) (by omega) rfl ls _ _ (lv_sub hl [2, 1, 0] rfl) hP hD hS
    · obtain ⟨n, qn, rfl⟩ := wn_t (by omega) c11 c17
      have kn : tn (nI n) = n := tn_nI (by omega)
      refine lv_aload_n hx hb dX10_due_20 rfl (lv_at hl 0 rfl) ?_
      refine lv_iload_n hx hb dX10_due_21 rfl (lv_at hl 1 rfl) ?_
      refine call_V (As := [.int (nI (n))]) (rest := []) hE (ct_X10_dueOf l E a I tr (n) hI hD7 (by omega)) cm_X10_dueOf (uw mt_L_X10_164 rfl) (gM_0 E a I tr) rfl rfl hP hD hS hl.1 rfl rfl (Nat.le_of_ble_eq_true rfl) ⟨by decide, by decide⟩ dX10_due_22 (fun H locs hP hD hS => ?_)
      refine W.eq (g2 := F0 m 25 ls [.int (rN (quJ I (n)))]) rfl ?_
      have hq1 := quJ_le I (n)
      exact ret_i hE (r := rN (quJ I (n))) (by rw [r_due, if_neg (fun z => by rw [z] at c17; exact c17 (by decide))]; simp only [inB_nI qn (show I 26 0 < 2 ^ 31 by omega), kn, cond_true]) hP hD hS dX10_due_25
  · refine lv_iconst (v := (-1)) hx hb dX10_due_14 (by decide) ?_
    exact ret_i hE (r := (-1)) (by rw [r_due, if_neg (wn_f (by omega) c11).1]; simp only [(wn_f (show I 26 0 < 2 ^ 30 by omega) c11).2, cond_false]) hP hD hS dX10_due_15

set_option maxHeartbeats 4000000 in
set_option maxRecDepth 100000 in
theorem ct_X10_isOrder (l : Launch) (E : cE) (a : Nat → Nat) (I : Nat → Nat → Nat) (tr : Int64) (o : Nat) (hc4 : I 19 0 ≤ 4) (ho : o < 2 ^ 20) : Ct l E 0 yX10_isOrder cX10_isOrder 5 (some .boolean) [.ref (a 0), .int (nI (o))] (WM E a I tr) (some (.int (bB (oJ (I 19 0) o)))) (WM E a (upA I 20 (flD (I 20) (ioJ (I 19 0) o) (I 19 0) 0)) tr) := by
  refine Ct_of (plainFor_of_name (by decide)) (Nat.le_of_ble_eq_true rfl) ?_
  intro p e s m args below meth c A ls hE hP hD hS hl
  have hE : cEnv p s m args meth c E RX10 cX10_isOrder 5 (some .boolean) A := hE
  have hx := hE.1
  have hb := hE.2.1
  have hl : lv_has ls 5 [(0, .ref (a 0)), (1, .int (nI (o)))] := hl
  have hP : va_P E.1 vwCl (WM E a I tr) s.heap := hP
  generalize hH : s.heap = H at hP hS ⊢
  have hS : va_S A s.heap H [] := by rw [hH]; exact hS
  clear hH
  refine lv_iload_n hx hb dX10_isOrder_0 rfl (lv_at hl 1 rfl) ?_
  refine lv_istore_n (lv' := [(2, .int (nI (o))), (0, .ref (a 0)), (1, .int (nI (o)))]) hx hb dX10_isOrder_1 rfl hl (by decide) rfl (fun ls hl => ?_)
  refine lv_iconst (v := nI (0)) hx hb dX10_isOrder_2 (by decide) ?_
  refine lv_istore_n (lv' := [(3, .int (nI (0))), (2, .int (nI (o))), (0, .ref (a 0)), (1, .int (nI (o)))]) hx hb dX10_isOrder_3 rfl hl (by decide) rfl (fun ls hl => ?_)
  refine lv_aload_n hx hb dX10_isOrder_4 rfl (lv_at hl 2 rfl) ?_
  refine gf_X10_116 hE hP (0) (gM_0 E a I tr) (v := .int (nI (I (19) (0)))) rfl dX10_isOrder_5 ?_
  refine lv_iconst (v := nI (1)) hx hb dX10_isOrder_8 (by decide) ?_
  refine lv_isub hx hb dX10_isOrder_9 ?_
  refine tp (cm1 (by omega)) ?_
  refine lv_istore (lv' := [(4, .int (rN (I 19 0 + 8))), (3, .int (nI (0))), (2, .int (nI (o))), (0, .ref (a 0)), (1, .int (nI (o)))]) hx hb dX10_isOrder_10 hl (by decide) rfl (fun ls hl => ?_)
  have loop12 : ∀ (fu12 : Nat) (rr : Nat) (mm : Nat) (k : Nat), k < fu12 → (k ≤ I 19 0) → (rr = o / I 19 0 ^ (I 19 0 - k)) → (rr ≤ o) → (mm = dmJ (ioJ (I 19 0) o) (I 19 0) (I 19 0 - k)) → (mm < 16) → ∀ (ls : Array Slot) (H : Heap) (locs : List Loc), lv_has ls 5 [(0, .ref (a 0)), (1, .int (nI (o))), (2, .int (nI (rr))), (3, .int (nI (mm))), (4, .int (rN (k + 8)))] → va_P E.1 vwCl (WM E a (upA I (20) (flD (I 20) (ioJ (I 19 0) o) (I 19 0) (k))) tr) H → va_D A (WM E a (upA I (20) (flD (I 20) (ioJ (I 19 0) o) (I 19 0) (k))) tr) → va_S A s.heap H locs → W p l e (rmL 0) s m args below meth c H locs 0 0 (RQ E below args s A (some (.int (bB (oJ (I 19 0) o)))) (WM E a (upA I 20 (flD (I 20) (ioJ (I 19 0) o) (I 19 0) 0)) tr)) (F0 m 12 ls []) := by
    intro fu12
    induction fu12 with
    | zero => intro rr mm k h; exact absurd h (Nat.not_lt_zero _)
    | succ fu12 ih12 =>
      intro rr mm k hfu12 hk hr hrr hm hmm ls H locs hl hP hD hS
      refine lv_iload hx hb dX10_isOrder_12 (lv_at hl 4 rfl) ?_
      refine bQz_lt (tgt := 55) hx hb (by omega) dX10_isOrder_14 (by decide) (fun c14 => ?_) (fun c14 => ?_)
      · have hk0 : k = 0 := by omega
        rw [hk0] at hP hD
        rw [hk0, Nat.sub_zero, dm_mk hc4] at hm
        have h2c := p4 (I 19 0) hc4
        refine lv_iload_n hx hb dX10_isOrder_55 rfl (lv_at hl 3 rfl) ?_
        refine lv_iconst (v := nI (1)) hx hb dX10_isOrder_56 (by decide) ?_
        refine lv_aload_n hx hb dX10_isOrder_57 rfl (lv_at hl 0 rfl) ?_
        refine gf_X10_116 hE hP (0) (gM_0 E a (upA I (20) (flD (I 20) (ioJ (I 19 0) o) (I 19 0) 0)) tr) (v := .int (nI (I (19) (0)))) rfl dX10_isOrder_58 ?_
        refine lv_ishl hx hb dX10_isOrder_61 ?_
        refine tp (nI_pow (k := I (19) (0)) (by omega)) ?_
        refine lv_iconst (v := nI (1)) hx hb dX10_isOrder_62 (by decide) ?_
        refine lv_isub hx hb dX10_isOrder_63 ?_
        refine tp (pk_sub (by omega)) ?_
        refine bN_ne (tgt := 71) hx hb (by omega) (by omega) dX10_isOrder_64 (by decide) (fun c64 => ?_) (fun c64 => ?_)
        · refine lv_iconst (v := nI (0)) hx hb dX10_isOrder_71 (by decide) ?_
          exact ret_z hE (r := nI (0)) (by decide) (by rw [show oJ (I 19 0) o = false from df (fun z => c64 (hm.trans z))]; rfl) hP hD hS dX10_isOrder_72
        · refine lv_iconst (v := nI (1)) hx hb dX10_isOrder_67 (by decide) ?_
          refine lv_goto (tgt := 72) hx hb dX10_isOrder_68 (by decide) ?_
          exact ret_z hE (r := nI (1)) (by decide) (by rw [show oJ (I 19 0) o = true from dt (hm.symm.trans c64)]; rfl) hP hD hS dX10_isOrder_72
      · obtain ⟨t, rfl⟩ : ∃ t, k = t + 1 := ⟨k - 1, by omega⟩
        rw [show rN (t + 1 + 8) = nI t from rN_9 t] at hl
        have hdl : rr % I 19 0 < I 19 0 := Nat.mod_lt _ (by omega)
        have hdv : rr / I 19 0 ≤ rr := Nat.div_le_self _ _
        have hdig : rr % I 19 0 = ioJ (I 19 0) o t := by rw [hr]; unfold ioJ; rw [show I 19 0 - (t + 1) = I 19 0 - 1 - t by omega]
        have c14i : t < I 19 0 := by omega
        refine lv_aload_n hx hb dX10_isOrder_17 rfl (lv_at hl 0 rfl) ?_
        refine gf_X10_48 hE hP (0) (gM_0 E a (upA I (20) (flD (I 20) (ioJ (I 19 0) o) (I 19 0) (t + 1))) tr) (v := .ref (a 13)) rfl dX10_isOrder_18 ?_
        refine lv_iload hx hb dX10_isOrder_21 (lv_at hl 4 rfl) ?_
        refine lv_iload_n hx hb dX10_isOrder_23 rfl (lv_at hl 2 rfl) ?_
        refine lv_aload_n hx hb dX10_isOrder_24 rfl (lv_at hl 0 rfl) ?_
        refine gf_X10_116 hE hP (0) (gM_0 E a (upA I (20) (flD (I 20) (ioJ (I 19 0) o) (I 19 0) (t + 1))) tr) (v := .int (nI (I (19) (0)))) rfl dX10_isOrder_25 ?_
        refine lv_irem hx hb dX10_isOrder_28 (nI_ne0 (by omega) (by omega)) ?_
        refine tp (pk_rem (by omega) (by omega) (by omega)) ?_
        refine ast_i hE hP hD hS (13) (gM_13 E a (upA I (20) (flD (I 20) (ioJ (I 19 0) o) (I 19 0) (t + 1))) tr) (by omega) (by decide) (sM_13 E a (upA I (20) (flD (I 20) (ioJ (I 19 0) o) (I 19 0) (t + 1))) tr (t) ((rr) % (I (19) (0)))) dX10_isOrder_29 (fun H locs hP hD hS => ?_)
        refine lv_iload_n hx hb dX10_isOrder_30 rfl (lv_at hl 2 rfl) ?_
        refine lv_aload_n hx hb dX10_isOrder_31 rfl (lv_at hl 0 rfl) ?_
        refine gf_X10_116 hE hP (0) (gM_0 E a (up2 (upA I (20) (flD (I 20) (ioJ (I 19 0) o) (I 19 0) (t + 1))) (20) (t) ((rr) % (I (19) (0)))) tr) (v := .int (nI (I (19) (0)))) rfl dX10_isOrder_32 ?_
        refine lv_idiv hx hb dX10_isOrder_35 (nI_ne0 (by omega) (by omega)) ?_
        refine tp (pk_div (by omega) (by omega) (by omega)) ?_
        refine lv_istore_n (lv' := [(2, .int (nI ((rr) / (I (19) (0))))), (0, .ref (a 0)), (1, .int (nI (o))), (3, .int (nI (mm))), (4, .int (nI (t)))]) hx hb dX10_isOrder_36 rfl hl (by decide) rfl (fun ls hl => ?_)
        refine lv_iload_n hx hb dX10_isOrder_37 rfl (lv_at hl 3 rfl) ?_
        refine lv_iconst (v := nI (1)) hx hb dX10_isOrder_38 (by decide) ?_
        refine lv_aload_n hx hb dX10_isOrder_39 rfl (lv_at hl 1 rfl) ?_
        refine gf_X10_48 hE hP (0) (gM_0 E a (up2 (upA I (20) (flD (I 20) (ioJ (I 19 0) o) (I 19 0) (t + 1))) (20) (t) ((rr) % (I (19) (0)))) tr) (v := .ref (a 13)) rfl dX10_isOrder_40 ?_
        refine lv_iload hx hb dX10_isOrder_43 (lv_at hl 4 rfl) ?_
        refine ald_i hE hP (13) (gM_13 E a (up2 (upA I (20) (flD (I 20) (ioJ (I 19 0) o) (I 19 0) (t + 1))) (20) (t) ((rr) % (I (19) (0)))) tr) (by omega) (by decide) (r := nI ((rr) % (I (19) (0)))) (congrArg nI (up2_at _ _ _ _)) dX10_isOrder_45 ?_
        refine lv_ishl hx hb dX10_isOrder_46 ?_
        refine tp (nI_pow (k := (rr) % (I (19) (0))) (by omega)) ?_
        refine lv_ior hx hb dX10_isOrder_47 ?_
        refine tp nI_or ?_
        refine lv_istore_n (lv' := [(3, .int (nI ((mm) ||| (2 ^ ((rr) % (I (19) (0))))))), (2, .int (nI ((rr) / (I (19) (0))))), (0, .ref (a 0)), (1, .int (nI (o))), (4, .int (nI (t)))]) hx hb dX10_isOrder_48 rfl hl (by decide) rfl (fun ls hl => ?_)
        refine lv_iinc (v := rN (t + 8)) (lv' := [(4, .int (rN (t + 8))), (3, .int (nI ((mm) ||| (2 ^ ((rr) % (I (19) (0))))))), (2, .int (nI ((rr) / (I (19) (0))))), (0, .ref (a 0)), (1, .int (nI (o)))]) hx hb dX10_isOrder_49 hl (k := 4) rfl (iim1_NQ t) (by decide) rfl (fun ls hl => ?_)
        refine lv_goto (tgt := 12) hx hb dX10_isOrder_52 (by decide) ?_
        exact ih12 ((rr) / (I (19) (0))) ((mm) ||| (2 ^ ((rr) % (I (19) (0))))) (t) (by omega) (by omega) (by rw [hr, Nat.div_div_eq_div_mul, ← Nat.pow_succ, show I 19 0 - t = (I 19 0 - (t + 1)).succ by omega]) (by omega) (by rw [hm, hdig, show I 19 0 - t = (I 19 0 - (t + 1)) + 1 by omega, dmJ, show I 19 0 - 1 - (I 19 0 - (t + 1)) = t by omega]) (or_lt (k := 4) hmm (Nat.pow_lt_pow_right (by decide) (by omega))) ls _ _ (lv_sub hl [3, 4, 2, 1, 0] rfl) (by have hw : (up2 (upA I (20) (flD (I 20) (ioJ (I 19 0) o) (I 19 0) (t + 1))) (20) (t) ((rr) % (I (19) (0)))) = (upA I (20) (flD (I 20) (ioJ (I 19 0) o) (I 19 0) ((t)))) := (by rw [hdig, up2_upA]; exact congrArg (upA I 20) (flD_s c14i)); rw [hw] at hP; exact hP) (by have hw : (up2 (upA I (20) (flD (I 20) (ioJ (I 19 0) o) (I 19 0) (t + 1))) (20) (t) ((rr) % (I (19) (0)))) = (upA I (20) (flD (I 20) (ioJ (I 19 0) o) (I 19 0) ((t)))) := (by rw [hdig, up2_upA]; exact congrArg (upA I 20) (flD_s c14i)); rw [hw] at hD; exact hD) hS
  exact loop12 (_ + 1) (o) (0) (I 19 0) (Nat.lt_succ_self _) (by omega) (by rw [Nat.sub_self, Nat.pow_zero, Nat.div_one]) (by omega) (by rw [Nat.sub_self]; rfl) (by omega) ls _ _ (lv_sub hl [3, 4, 2, 1, 0] rfl) (by have hw : I = (upA I (20) (flD (I 20) (ioJ (I 19 0) o) (I 19 0) ((I 19 0)))) := (by rw [flD_0, upA_self]); rw [hw] at hP; exact hP) (by have hw : I = (upA I (20) (flD (I 20) (ioJ (I 19 0) o) (I 19 0) ((I 19 0)))) := (by rw [flD_0, upA_self]); rw [hw] at hD; exact hD) hS

set_option maxHeartbeats 4000000 in
set_option maxRecDepth 100000 in
theorem ct_X10_endOf (l : Launch) (E : cE) (a : Nat → Nat) (I : Nat → Nat → Nat) (tr : Int64) (h : Nat) (hI : KM I) (hE7 : EKJ I) (hr : ∀ i, i < I 19 0 → I 20 i < I 19 0) (hh : h < 6) : Ct l E 2 yX10_endOf cX10_endOf 7 (some .int) [.ref (a 0), .int (nI (h))] (WM E a I tr) (some (.int (rN (enJ I (I 20) h)))) (WM E a I tr) := by
  refine Ct_of (plainFor_of_name (by decide)) (Nat.le_of_ble_eq_true rfl) ?_
  intro p e s m args below meth c A ls hE hP hD hS hl
  have hE : cEnv p s m args meth c E RX10 cX10_endOf 7 (some .int) A := hE
  have hx := hE.1
  have hb := hE.2.1
  have hl : lv_has ls 7 [(0, .ref (a 0)), (1, .int (nI (h)))] := hl
  have hP : va_P E.1 vwCl (WM E a I tr) s.heap := hP
  generalize hH : s.heap = H at hP hS ⊢
  have hS : va_S A s.heap H [] := by rw [hH]; exact hS
  clear hH
  have hc4 := hE7.1
  have hw9 := hI.2.1
  have hn95 := hI.2.2.1
  have hc6 := hI.1
  refine lv_aload_n hx hb dX10_endOf_0 rfl (lv_at hl 0 rfl) ?_
  refine gf_X10_38 hE hP (0) (gM_0 E a I tr) (v := .ref (a 10)) rfl dX10_endOf_1 ?_
  refine lv_iconst (v := nI (0)) hx hb dX10_endOf_4 (by decide) ?_
  refine ald_i hE hP (10) (gM_10 E a I tr) (by omega) (by decide) (r := nI (I (16) (0))) rfl dX10_endOf_5 ?_
  refine lv_istore_n (lv' := [(2, .int (nI (I (16) (0)))), (0, .ref (a 0)), (1, .int (nI (h)))]) hx hb dX10_endOf_6 rfl hl (by decide) rfl (fun ls hl => ?_)
  refine lv_iload_n hx hb dX10_endOf_7 rfl (lv_at hl 2 rfl) ?_
  refine lv_istore_n (lv' := [(3, .int (nI (h))), (2, .int (nI (I (16) (0)))), (0, .ref (a 0)), (1, .int (nI (h)))]) hx hb dX10_endOf_8 rfl hl (by decide) rfl (fun ls hl => ?_)
  refine lv_iconst (v := nI (0)) hx hb dX10_endOf_9 (by decide) ?_
  refine lv_istore (lv' := [(4, .int (nI (0))), (3, .int (nI (h))), (2, .int (nI (I (16) (0)))), (0, .ref (a 0)), (1, .int (nI (h)))]) hx hb dX10_endOf_10 hl (by decide) rfl (fun ls hl => ?_)
  have loop12 : ∀ (fu12 : Nat) (t : Nat) (q : Nat) (i : Nat), I 19 0 - i < fu12 → (i ≤ I 19 0) → (t ≤ 95) → (q < 6) → (enJ I (I 20) h = enK (shM I) (I 3 0) (fun k => I 18 (4 * k)) (fun k => I 18 (4 * k + 1)) (fun k => I 18 (4 * k + 2)) (fun k => I 18 (4 * k + 3)) (I 20) (I 19 0 - i) i q t) → ∀ (ls : Array Slot) (H : Heap) (locs : List Loc), lv_has ls 7 [(0, .ref (a 0)), (1, .int (nI (h))), (2, .int (nI (t))), (3, .int (nI (q))), (4, .int (nI (i)))] → va_P E.1 vwCl (WM E a I tr) H → va_D A (WM E a I tr) → va_S A s.heap H locs → W p l e (rmL 2) s m args below meth c H locs 0 0 (RQ E below args s A (some (.int (rN (enJ I (I 20) h)))) (WM E a I tr)) (F0 m 12 ls []) := by
    intro fu12
    induction fu12 with
    | zero => intro t q i h; exact absurd h (Nat.not_lt_zero _)
    | succ fu12 ih12 =>
      intro t q i hfu12 hi ht hq6 he ls H locs hl hP hD hS
      refine lv_iload hx hb dX10_endOf_12 (lv_at hl 4 rfl) ?_
      refine lv_aload_n hx hb dX10_endOf_14 rfl (lv_at hl 0 rfl) ?_
      refine gf_X10_116 hE hP (0) (gM_0 E a I tr) (v := .int (nI (I (19) (0)))) rfl dX10_endOf_15 ?_
      refine bN_ge (tgt := 157) hx hb (by omega) (by omega) dX10_endOf_18 (by decide) (fun c18 => ?_) (fun c18 => ?_)
      · refine lv_iload_n hx hb dX10_endOf_157 rfl (lv_at hl 2 rfl) ?_
        exact ret_i hE (r := nI (t)) (by rw [he, show I 19 0 - i = 0 by omega]; exact congrArg (fun x => some (Value.int x)) (rN_9 t)) hP hD hS dX10_endOf_158
      · have hri := hr i c18
        have hek := hE7.2 _ hri
        refine lv_iconst (v := nI (4)) hx hb dX10_endOf_21 (by decide) ?_
        refine lv_aload_n hx hb dX10_endOf_22 rfl (lv_at hl 0 rfl) ?_
        refine gf_X10_48 hE hP (0) (gM_0 E a I tr) (v := .ref (a 13)) rfl dX10_endOf_23 ?_
        refine lv_iload hx hb dX10_endOf_26 (lv_at hl 4 rfl) ?_
        refine ald_i hE hP (13) (gM_13 E a I tr) (by omega) (by decide) (r := nI (I (20) (i))) rfl dX10_endOf_28 ?_
        refine lv_imul hx hb dX10_endOf_29 ?_
        refine tp (pk_mul _ _) ?_
        refine lv_istore (lv' := [(5, .int (nI ((4) * (I (20) (i))))), (0, .ref (a 0)), (1, .int (nI (h))), (2, .int (nI (t))), (3, .int (nI (q))), (4, .int (nI (i)))]) hx hb dX10_endOf_30 hl (by decide) rfl (fun ls hl => ?_)
        refine lv_iload_n hx hb dX10_endOf_32 rfl (lv_at hl 3 rfl) ?_
        refine lv_aload_n hx hb dX10_endOf_33 rfl (lv_at hl 1 rfl) ?_
        refine gf_X10_45 hE hP (0) (gM_0 E a I tr) (v := .ref (a 12)) rfl dX10_endOf_34 ?_
        refine lv_iload hx hb dX10_endOf_37 (lv_at hl 0 rfl) ?_
        refine ald_i hE hP (12) (gM_12 E a I tr) (by omega) (by decide) (r := nI (I (18) ((4) * (I (20) (i))))) rfl dX10_endOf_39 ?_
        refine lv_iload_n hx hb dX10_endOf_40 rfl (lv_at hl 4 rfl) ?_
        refine bN_ne (tgt := 48) hx hb (by omega) (by omega) dX10_endOf_41 (by decide) (fun c41 => ?_) (fun c41 => ?_)
        · refine lv_aload_n hx hb dX10_endOf_48 rfl (lv_at hl 1 rfl) ?_
          refine gf_X10_17 hE hP (0) (gM_0 E a I tr) (v := .ref (a 3)) rfl dX10_endOf_49 ?_
          refine lv_iconst (v := nI (0)) hx hb dX10_endOf_52 (by decide) ?_
          refine ald_i hE hP (3) (gM_3 E a I tr) (by omega) (by decide) (r := nI (I (3) (0))) rfl dX10_endOf_53 ?_
          refine lv_iadd hx hb dX10_endOf_54 ?_
          refine tp (nI_add _ _) ?_
          refine lv_istore_n (lv' := [(2, .int (nI (t + (I (3) (0))))), (5, .int (nI ((4) * (I (20) (i))))), (0, .ref (a 0)), (1, .int (nI (h))), (3, .int (nI (q))), (4, .int (nI (i)))]) hx hb dX10_endOf_55 rfl hl (by decide) rfl (fun ls hl => ?_)
          refine lv_aload_n hx hb dX10_endOf_56 rfl (lv_at hl 2 rfl) ?_
          refine gf_X10_45 hE hP (0) (gM_0 E a I tr) (v := .ref (a 12)) rfl dX10_endOf_57 ?_
          refine lv_iload hx hb dX10_endOf_60 (lv_at hl 1 rfl) ?_
          refine ald_i hE hP (12) (gM_12 E a I tr) (by omega) (by decide) (r := nI (I (18) ((4) * (I (20) (i))))) rfl dX10_endOf_62 ?_
          refine lv_istore_n (lv' := [(3, .int (nI (I (18) ((4) * (I (20) (i)))))), (2, .int (nI (t + (I (3) (0))))), (5, .int (nI ((4) * (I (20) (i))))), (0, .ref (a 0)), (1, .int (nI (h))), (4, .int (nI (i)))]) hx hb dX10_endOf_63 rfl hl (by decide) rfl (fun ls hl => ?_)
          refine lv_aload_n hx hb dX10_endOf_64 rfl (lv_at hl 3 rfl) ?_
          refine gf_X10_45 hE hP (0) (gM_0 E a I tr) (v := .ref (a 12)) rfl dX10_endOf_65 ?_
          refine lv_iload hx hb dX10_endOf_68 (lv_at hl 2 rfl) ?_
          refine lv_iconst (v := nI (2)) hx hb dX10_endOf_70 (by decide) ?_
          refine lv_iadd hx hb dX10_endOf_71 ?_
          refine tp (nI_add _ _) ?_
          refine ald_i hE hP (12) (gM_12 E a I tr) (by omega) (by decide) (r := nI (I (18) ((4) * (I (20) (i)) + 2))) rfl dX10_endOf_72 ?_
          refine lv_aload_n hx hb dX10_endOf_73 rfl (lv_at hl 3 rfl) ?_
          refine gf_X10_45 hE hP (0) (gM_0 E a I tr) (v := .ref (a 12)) rfl dX10_endOf_74 ?_
          refine lv_iload hx hb dX10_endOf_77 (lv_at hl 2 rfl) ?_
          refine lv_iconst (v := nI (1)) hx hb dX10_endOf_79 (by decide) ?_
          refine lv_iadd hx hb dX10_endOf_80 ?_
          refine tp (nI_add _ _) ?_
          refine ald_i hE hP (12) (gM_12 E a I tr) (by omega) (by decide) (r := nI (I (18) ((4) * (I (20) (i)) + 1))) rfl dX10_endOf_81 ?_
          refine lv_isub hx hb dX10_endOf_82 ?_
          refine lv_bipush (v := nI (48)) hx hb dX10_endOf_83 (by decide) ?_
          refine lv_iadd hx hb dX10_endOf_85 ?_
          refine tp (fm_p (a := I (18) ((4) * (I (20) (i)) + 2)) (b := I (18) ((4) * (I (20) (i)) + 1)) (by omega)) ?_
          refine lv_bipush (v := nI (48)) hx hb dX10_endOf_86 (by decide) ?_
          refine lv_irem hx hb dX10_endOf_88 (nI_ne0 (by omega) (by omega)) ?_
          refine tp (pk_rem (by omega) (by omega) (by omega)) ?_
          refine lv_istore (lv' := [(6, .int (nI ((I (18) ((4) * (I (20) (i)) + 2) + 48 - (I (18) ((4) * (I (20) (i)) + 1))) % (48)))), (3, .int (nI (I (18) ((4) * (I (20) (i)))))), (2, .int (nI (t + (I (3) (0))))), (5, .int (nI ((4) * (I (20) (i))))), (0, .ref (a 0)), (1, .int (nI (h))), (4, .int (nI (i)))]) hx hb dX10_endOf_89 hl (by decide) rfl (fun ls hl => ?_)
          have loop91 : ∀ (fu91 : Nat) (t2 : Nat), 200 - t2 < fu91 → (t2 ≤ 105) → (btC (shM I (I 18 (4 * I 20 i))) (I 18 (4 * I 20 i + 1)) (I 18 (4 * I 20 i + 2)) (if I 18 (4 * I 20 i) = q then t else t + I 3 0) = btC (shM I (I 18 (4 * I 20 i))) (I 18 (4 * I 20 i + 1)) (I 18 (4 * I 20 i + 2)) t2) → ∀ (ls : Array Slot) (H : Heap) (locs : List Loc), lv_has ls 7 [(0, .ref (a 0)), (1, .int (nI (h))), (2, .int (nI (t2))), (3, .int (nI (I 18 (4 * I 20 i)))), (4, .int (nI (i))), (5, .int (nI (4 * I 20 i))), (6, .int (nI (((I 18 (4 * I 20 i + 2)) + 48 - (I 18 (4 * I 20 i + 1))) % 48)))] → va_P E.1 vwCl (WM E a I tr) H → va_D A (WM E a I tr) → va_S A s.heap H locs → W p l e (rmL 2) s m args below meth c H locs 0 0 (RQ E below args s A (some (.int (rN (enJ I (I 20) h)))) (WM E a I tr)) (F0 m 91 ls []) := by
            intro fu91
            induction fu91 with
            | zero => intro t2 h; exact absurd h (Nat.not_lt_zero _)
            | succ fu91 ih91 =>
              intro t2 hfu91 ht2 hbc ls H locs hl hP hD hS
              refine lv_iload_n hx hb dX10_endOf_91 rfl (lv_at hl 2 rfl) ?_
              refine lv_bipush (v := nI (95)) hx hb dX10_endOf_92 (by decide) ?_
              refine bN_gt (tgt := 130) hx hb (by omega) (by omega) dX10_endOf_94 (by decide) (fun c94 => ?_) (fun c94 => ?_)
              · have hbt : btC (shM I (I 18 (4 * I 20 i))) (I 18 (4 * I 20 i + 1)) (I 18 (4 * I 20 i + 2)) t2 = 0 := bt_end c94
                refine lv_iload_n hx hb dX10_endOf_130 rfl (lv_at hl 2 rfl) ?_
                refine lv_aload_n hx hb dX10_endOf_131 rfl (lv_at hl 0 rfl) ?_
                refine gf_X10_45 hE hP (0) (gM_0 E a I tr) (v := .ref (a 12)) rfl dX10_endOf_132 ?_
                refine lv_iload hx hb dX10_endOf_135 (lv_at hl 5 rfl) ?_
                refine lv_iconst (v := nI (3)) hx hb dX10_endOf_137 (by decide) ?_
                refine lv_iadd hx hb dX10_endOf_138 ?_
                refine tp (nI_add _ _) ?_
                refine ald_i hE hP (12) (gM_12 E a I tr) (by omega) (by decide) (r := nI (I (18) (4 * I 20 i + 3))) rfl dX10_endOf_139 ?_
                refine lv_iadd hx hb dX10_endOf_140 ?_
                refine tp (nI_add _ _) ?_
                refine lv_istore_n (lv' := [(2, .int (nI (t2 + (I (18) (4 * I 20 i + 3))))), (0, .ref (a 0)), (1, .int (nI (h))), (3, .int (nI (I 18 (4 * I 20 i)))), (4, .int (nI (i))), (5, .int (nI (4 * I 20 i))), (6, .int (nI (((I 18 (4 * I 20 i + 2)) + 48 - (I 18 (4 * I 20 i + 1))) % 48)))]) hx hb dX10_endOf_141 rfl hl (by decide) rfl (fun ls hl => ?_)
                refine lv_iload_n hx hb dX10_endOf_142 rfl (lv_at hl 0 rfl) ?_
                refine lv_bipush (v := nI (95)) hx hb dX10_endOf_143 (by decide) ?_
                refine bN_le (tgt := 151) hx hb (by omega) (by omega) dX10_endOf_145 (by decide) (fun c145 => ?_) (fun c145 => ?_)
                · refine lv_iinc (v := nI (i + 1)) (lv' := [(4, .int (nI (i + 1))), (2, .int (nI (t2 + (I (18) (4 * I 20 i + 3))))), (0, .ref (a 0)), (1, .int (nI (h))), (3, .int (nI (I 18 (4 * I 20 i)))), (5, .int (nI (4 * I 20 i))), (6, .int (nI (((I 18 (4 * I 20 i + 2)) + 48 - (I 18 (4 * I 20 i + 1))) % 48)))]) hx hb dX10_endOf_151 hl (k := 4) rfl (ii1_N _) (by decide) rfl (fun ls hl => ?_)
                  refine lv_goto (tgt := 12) hx hb dX10_endOf_154 (by decide) ?_
                  exact ih12 (t2 + (I (18) (4 * I 20 i + 3))) (I 18 (4 * I 20 i)) (i + 1) (by omega) (by omega) (by omega) (by omega) (by omega) ls _ _ (lv_sub hl [2, 3, 1, 4, 0] rfl) hP hD hS
                · refine lv_bipush (v := (-9)) hx hb dX10_endOf_148 (by decide) ?_
                  refine tp (show (-9 : Int32) = rN 0 by decide) ?_
                  exact ret_i hE (r := rN (0)) (by obtain ⟨k, hk⟩ : ∃ k, I 19 0 - i = k + 1 := ⟨I 19 0 - i - 1, by omega⟩; rw [he, hk]; rw [enK_0 (f := shM I) (w := I 3 0) (hs := fun k => I 18 (4 * k)) (fr := fun k => I 18 (4 * k + 1)) (to := fun k => I 18 (4 * k + 2)) (st := fun k => I 18 (4 * k + 3)) (r := I 20) (k := k) (t1 := (if I 18 (4 * I 20 i) = q then t else t + I 3 0)) rfl (by rw [hbc, hbt]), rN_0]) hP hD hS dX10_endOf_150
              · refine lv_aload_n hx hb dX10_endOf_97 rfl (lv_at hl 0 rfl) ?_
                refine lv_iload_n hx hb dX10_endOf_98 rfl (lv_at hl 3 rfl) ?_
                refine lv_iload_n hx hb dX10_endOf_99 rfl (lv_at hl 2 rfl) ?_
                refine call_V (As := [.int (nI (I 18 (4 * I 20 i))), .int (nI (t2))]) (rest := []) hE (ct_X10_shown l E a I tr (I 18 (4 * I 20 i)) (t2) hI (by omega) (by omega)) cm_X10_shown (uw mt_L_X10_135 rfl) (gM_0 E a I tr) rfl rfl hP hD hS hl.1 rfl rfl (Nat.le_of_ble_eq_true rfl) ⟨by decide, by decide⟩ dX10_endOf_100 (fun H locs hP hD hS => ?_)
                refine W.eq (g2 := F0 m 103 ls [.int (nI (shM I (I 18 (4 * I 20 i)) (t2)))]) rfl ?_
                have hs1 := shM_lt I (I 18 (4 * I 20 i)) (t2)
                refine lv_aload_n hx hb dX10_endOf_103 rfl (lv_at hl 0 rfl) ?_
                refine gf_X10_45 hE hP (0) (gM_0 E a I tr) (v := .ref (a 12)) rfl dX10_endOf_104 ?_
                refine lv_iload hx hb dX10_endOf_107 (lv_at hl 5 rfl) ?_
                refine lv_iconst (v := nI (1)) hx hb dX10_endOf_109 (by decide) ?_
                refine lv_iadd hx hb dX10_endOf_110 ?_
                refine tp (nI_add _ _) ?_
                refine ald_i hE hP (12) (gM_12 E a I tr) (by omega) (by decide) (r := nI (I (18) (4 * I 20 i + 1))) rfl dX10_endOf_111 ?_
                refine lv_isub hx hb dX10_endOf_112 ?_
                refine lv_bipush (v := nI (48)) hx hb dX10_endOf_113 (by decide) ?_
                refine lv_iadd hx hb dX10_endOf_115 ?_
                refine tp (fm_p (a := shM I (I 18 (4 * I 20 i)) (t2)) (b := I (18) (4 * I 20 i + 1)) (by omega)) ?_
                refine lv_bipush (v := nI (48)) hx hb dX10_endOf_116 (by decide) ?_
                refine lv_irem hx hb dX10_endOf_118 (nI_ne0 (by omega) (by omega)) ?_
                refine tp (pk_rem (by omega) (by omega) (by omega)) ?_
                refine lv_iload hx hb dX10_endOf_119 (lv_at hl 6 rfl) ?_
                refine bN_le (tgt := 130) hx hb (by omega) (by omega) dX10_endOf_121 (by decide) (fun c121 => ?_) (fun c121 => ?_)
                · have hbt : btC (shM I (I 18 (4 * I 20 i))) (I 18 (4 * I 20 i + 1)) (I 18 (4 * I 20 i + 2)) t2 = t2 + 9 := bt_hit c94 c121
                  refine lv_iload_n hx hb dX10_endOf_130 rfl (lv_at hl 2 rfl) ?_
                  refine lv_aload_n hx hb dX10_endOf_131 rfl (lv_at hl 0 rfl) ?_
                  refine gf_X10_45 hE hP (0) (gM_0 E a I tr) (v := .ref (a 12)) rfl dX10_endOf_132 ?_
                  refine lv_iload hx hb dX10_endOf_135 (lv_at hl 5 rfl) ?_
                  refine lv_iconst (v := nI (3)) hx hb dX10_endOf_137 (by decide) ?_
                  refine lv_iadd hx hb dX10_endOf_138 ?_
                  refine tp (nI_add _ _) ?_
                  refine ald_i hE hP (12) (gM_12 E a I tr) (by omega) (by decide) (r := nI (I (18) (4 * I 20 i + 3))) rfl dX10_endOf_139 ?_
                  refine lv_iadd hx hb dX10_endOf_140 ?_
                  refine tp (nI_add _ _) ?_
                  refine lv_istore_n (lv' := [(2, .int (nI (t2 + (I (18) (4 * I 20 i + 3))))), (0, .ref (a 0)), (1, .int (nI (h))), (3, .int (nI (I 18 (4 * I 20 i)))), (4, .int (nI (i))), (5, .int (nI (4 * I 20 i))), (6, .int (nI (((I 18 (4 * I 20 i + 2)) + 48 - (I 18 (4 * I 20 i + 1))) % 48)))]) hx hb dX10_endOf_141 rfl hl (by decide) rfl (fun ls hl => ?_)
                  refine lv_iload_n hx hb dX10_endOf_142 rfl (lv_at hl 0 rfl) ?_
                  refine lv_bipush (v := nI (95)) hx hb dX10_endOf_143 (by decide) ?_
                  refine bN_le (tgt := 151) hx hb (by omega) (by omega) dX10_endOf_145 (by decide) (fun c145 => ?_) (fun c145 => ?_)
                  · refine lv_iinc (v := nI (i + 1)) (lv' := [(4, .int (nI (i + 1))), (2, .int (nI (t2 + (I (18) (4 * I 20 i + 3))))), (0, .ref (a 0)), (1, .int (nI (h))), (3, .int (nI (I 18 (4 * I 20 i)))), (5, .int (nI (4 * I 20 i))), (6, .int (nI (((I 18 (4 * I 20 i + 2)) + 48 - (I 18 (4 * I 20 i + 1))) % 48)))]) hx hb dX10_endOf_151 hl (k := 4) rfl (ii1_N _) (by decide) rfl (fun ls hl => ?_)
                    refine lv_goto (tgt := 12) hx hb dX10_endOf_154 (by decide) ?_
                    exact ih12 (t2 + (I (18) (4 * I 20 i + 3))) (I 18 (4 * I 20 i)) (i + 1) (by omega) (by omega) (by omega) (by omega) (by obtain ⟨k, hk⟩ : ∃ k, I 19 0 - i = k + 1 := ⟨I 19 0 - i - 1, by omega⟩; rw [he, hk, show I 19 0 - (i + 1) = k by omega]; have z := enK_2 (f := shM I) (w := I 3 0) (hs := fun k => I 18 (4 * k)) (fr := fun k => I 18 (4 * k + 1)) (to := fun k => I 18 (4 * k + 2)) (st := fun k => I 18 (4 * k + 3)) (r := I 20) (k := k) (t1 := (if I 18 (4 * I 20 i) = q then t else t + I 3 0)) rfl (by rw [hbc, hbt]; omega) (by rw [hbc, hbt]; omega); rw [z, hbc, hbt, Nat.add_sub_cancel]) ls _ _ (lv_sub hl [2, 3, 1, 4, 0] rfl) hP hD hS
                  · refine lv_bipush (v := (-9)) hx hb dX10_endOf_148 (by decide) ?_
                    refine tp (show (-9 : Int32) = rN 0 by decide) ?_
                    exact ret_i hE (r := rN (0)) (by obtain ⟨k, hk⟩ : ∃ k, I 19 0 - i = k + 1 := ⟨I 19 0 - i - 1, by omega⟩; rw [he, hk]; rw [enK_1 (f := shM I) (w := I 3 0) (hs := fun k => I 18 (4 * k)) (fr := fun k => I 18 (4 * k + 1)) (to := fun k => I 18 (4 * k + 2)) (st := fun k => I 18 (4 * k + 3)) (r := I 20) (k := k) (t1 := (if I 18 (4 * I 20 i) = q then t else t + I 3 0)) rfl (by rw [hbc, hbt]; omega), rN_0]) hP hD hS dX10_endOf_150
                · refine lv_iinc (v := nI (t2 + 1)) (lv' := [(2, .int (nI (t2 + 1))), (0, .ref (a 0)), (1, .int (nI (h))), (3, .int (nI (I 18 (4 * I 20 i)))), (4, .int (nI (i))), (5, .int (nI (4 * I 20 i))), (6, .int (nI (((I 18 (4 * I 20 i + 2)) + 48 - (I 18 (4 * I 20 i + 1))) % 48)))]) hx hb dX10_endOf_124 hl (k := 2) rfl (ii1_N _) (by decide) rfl (fun ls hl => ?_)
                  refine lv_goto (tgt := 91) hx hb dX10_endOf_127 (by decide) ?_
                  exact ih91 (t2 + 1) (by omega) (by omega) (hbc.trans (bt_miss c94 c121)) ls _ _ (lv_sub hl [1, 2, 0, 3, 4, 5, 6] rfl) hP hD hS
          exact loop91 (_ + 1) (t + (I (3) (0))) (Nat.lt_succ_self _) (by omega) (by first | rw [if_pos c41] | rw [if_neg c41]) ls _ _ (lv_sub hl [4, 5, 2, 1, 6, 3, 0] rfl) hP hD hS
        · refine lv_iconst (v := nI (0)) hx hb dX10_endOf_44 (by decide) ?_
          refine lv_goto (tgt := 54) hx hb dX10_endOf_45 (by decide) ?_
          refine lv_iadd hx hb dX10_endOf_54 ?_
          refine tp (y := nI (t)) (nI_add _ _) ?_
          refine lv_istore_n (lv' := [(2, .int (nI (t))), (5, .int (nI ((4) * (I (20) (i))))), (0, .ref (a 0)), (1, .int (nI (h))), (3, .int (nI (q))), (4, .int (nI (i)))]) hx hb dX10_endOf_55 rfl hl (by decide) rfl (fun ls hl => ?_)
          refine lv_aload_n hx hb dX10_endOf_56 rfl (lv_at hl 2 rfl) ?_
          refine gf_X10_45 hE hP (0) (gM_0 E a I tr) (v := .ref (a 12)) rfl dX10_endOf_57 ?_
          refine lv_iload hx hb dX10_endOf_60 (lv_at hl 1 rfl) ?_
          refine ald_i hE hP (12) (gM_12 E a I tr) (by omega) (by decide) (r := nI (I (18) ((4) * (I (20) (i))))) rfl dX10_endOf_62 ?_
          refine lv_istore_n (lv' := [(3, .int (nI (I (18) ((4) * (I (20) (i)))))), (2, .int (nI (t))), (5, .int (nI ((4) * (I (20) (i))))), (0, .ref (a 0)), (1, .int (nI (h))), (4, .int (nI (i)))]) hx hb dX10_endOf_63 rfl hl (by decide) rfl (fun ls hl => ?_)
          refine lv_aload_n hx hb dX10_endOf_64 rfl (lv_at hl 3 rfl) ?_
          refine gf_X10_45 hE hP (0) (gM_0 E a I tr) (v := .ref (a 12)) rfl dX10_endOf_65 ?_
          refine lv_iload hx hb dX10_endOf_68 (lv_at hl 2 rfl) ?_
          refine lv_iconst (v := nI (2)) hx hb dX10_endOf_70 (by decide) ?_
          refine lv_iadd hx hb dX10_endOf_71 ?_
          refine tp (nI_add _ _) ?_
          refine ald_i hE hP (12) (gM_12 E a I tr) (by omega) (by decide) (r := nI (I (18) ((4) * (I (20) (i)) + 2))) rfl dX10_endOf_72 ?_
          refine lv_aload_n hx hb dX10_endOf_73 rfl (lv_at hl 3 rfl) ?_
          refine gf_X10_45 hE hP (0) (gM_0 E a I tr) (v := .ref (a 12)) rfl dX10_endOf_74 ?_
          refine lv_iload hx hb dX10_endOf_77 (lv_at hl 2 rfl) ?_
          refine lv_iconst (v := nI (1)) hx hb dX10_endOf_79 (by decide) ?_
          refine lv_iadd hx hb dX10_endOf_80 ?_
          refine tp (nI_add _ _) ?_
          refine ald_i hE hP (12) (gM_12 E a I tr) (by omega) (by decide) (r := nI (I (18) ((4) * (I (20) (i)) + 1))) rfl dX10_endOf_81 ?_
          refine lv_isub hx hb dX10_endOf_82 ?_
          refine lv_bipush (v := nI (48)) hx hb dX10_endOf_83 (by decide) ?_
          refine lv_iadd hx hb dX10_endOf_85 ?_
          refine tp (fm_p (a := I (18) ((4) * (I (20) (i)) + 2)) (b := I (18) ((4) * (I (20) (i)) + 1)) (by omega)) ?_
          refine lv_bipush (v := nI (48)) hx hb dX10_endOf_86 (by decide) ?_
          refine lv_irem hx hb dX10_endOf_88 (nI_ne0 (by omega) (by omega)) ?_
          refine tp (pk_rem (by omega) (by omega) (by omega)) ?_
          refine lv_istore (lv' := [(6, .int (nI ((I (18) ((4) * (I (20) (i)) + 2) + 48 - (I (18) ((4) * (I (20) (i)) + 1))) % (48)))), (3, .int (nI (I (18) ((4) * (I (20) (i)))))), (2, .int (nI (t))), (5, .int (nI ((4) * (I (20) (i))))), (0, .ref (a 0)), (1, .int (nI (h))), (4, .int (nI (i)))]) hx hb dX10_endOf_89 hl (by decide) rfl (fun ls hl => ?_)
          have loop91 : ∀ (fu91 : Nat) (t2 : Nat), 200 - t2 < fu91 → (t2 ≤ 105) → (btC (shM I (I 18 (4 * I 20 i))) (I 18 (4 * I 20 i + 1)) (I 18 (4 * I 20 i + 2)) (if I 18 (4 * I 20 i) = q then t else t + I 3 0) = btC (shM I (I 18 (4 * I 20 i))) (I 18 (4 * I 20 i + 1)) (I 18 (4 * I 20 i + 2)) t2) → ∀ (ls : Array Slot) (H : Heap) (locs : List Loc), lv_has ls 7 [(0, .ref (a 0)), (1, .int (nI (h))), (2, .int (nI (t2))), (3, .int (nI (I 18 (4 * I 20 i)))), (4, .int (nI (i))), (5, .int (nI (4 * I 20 i))), (6, .int (nI (((I 18 (4 * I 20 i + 2)) + 48 - (I 18 (4 * I 20 i + 1))) % 48)))] → va_P E.1 vwCl (WM E a I tr) H → va_D A (WM E a I tr) → va_S A s.heap H locs → W p l e (rmL 2) s m args below meth c H locs 0 0 (RQ E below args s A (some (.int (rN (enJ I (I 20) h)))) (WM E a I tr)) (F0 m 91 ls []) := by
            intro fu91
            induction fu91 with
            | zero => intro t2 h; exact absurd h (Nat.not_lt_zero _)
            | succ fu91 ih91 =>
              intro t2 hfu91 ht2 hbc ls H locs hl hP hD hS
              refine lv_iload_n hx hb dX10_endOf_91 rfl (lv_at hl 2 rfl) ?_
              refine lv_bipush (v := nI (95)) hx hb dX10_endOf_92 (by decide) ?_
              refine bN_gt (tgt := 130) hx hb (by omega) (by omega) dX10_endOf_94 (by decide) (fun c94 => ?_) (fun c94 => ?_)
              · have hbt : btC (shM I (I 18 (4 * I 20 i))) (I 18 (4 * I 20 i + 1)) (I 18 (4 * I 20 i + 2)) t2 = 0 := bt_end c94
                refine lv_iload_n hx hb dX10_endOf_130 rfl (lv_at hl 2 rfl) ?_
                refine lv_aload_n hx hb dX10_endOf_131 rfl (lv_at hl 0 rfl) ?_
                refine gf_X10_45 hE hP (0) (gM_0 E a I tr) (v := .ref (a 12)) rfl dX10_endOf_132 ?_
                refine lv_iload hx hb dX10_endOf_135 (lv_at hl 5 rfl) ?_
                refine lv_iconst (v := nI (3)) hx hb dX10_endOf_137 (by decide) ?_
                refine lv_iadd hx hb dX10_endOf_138 ?_
                refine tp (nI_add _ _) ?_
                refine ald_i hE hP (12) (gM_12 E a I tr) (by omega) (by decide) (r := nI (I (18) (4 * I 20 i + 3))) rfl dX10_endOf_139 ?_
                refine lv_iadd hx hb dX10_endOf_140 ?_
                refine tp (nI_add _ _) ?_
                refine lv_istore_n (lv' := [(2, .int (nI (t2 + (I (18) (4 * I 20 i + 3))))), (0, .ref (a 0)), (1, .int (nI (h))), (3, .int (nI (I 18 (4 * I 20 i)))), (4, .int (nI (i))), (5, .int (nI (4 * I 20 i))), (6, .int (nI (((I 18 (4 * I 20 i + 2)) + 48 - (I 18 (4 * I 20 i + 1))) % 48)))]) hx hb dX10_endOf_141 rfl hl (by decide) rfl (fun ls hl => ?_)
                refine lv_iload_n hx hb dX10_endOf_142 rfl (lv_at hl 0 rfl) ?_
                refine lv_bipush (v := nI (95)) hx hb dX10_endOf_143 (by decide) ?_
                refine bN_le (tgt := 151) hx hb (by omega) (by omega) dX10_endOf_145 (by decide) (fun c145 => ?_) (fun c145 => ?_)
                · refine lv_iinc (v := nI (i + 1)) (lv' := [(4, .int (nI (i + 1))), (2, .int (nI (t2 + (I (18) (4 * I 20 i + 3))))), (0, .ref (a 0)), (1, .int (nI (h))), (3, .int (nI (I 18 (4 * I 20 i)))), (5, .int (nI (4 * I 20 i))), (6, .int (nI (((I 18 (4 * I 20 i + 2)) + 48 - (I 18 (4 * I 20 i + 1))) % 48)))]) hx hb dX10_endOf_151 hl (k := 4) rfl (ii1_N _) (by decide) rfl (fun ls hl => ?_)
                  refine lv_goto (tgt := 12) hx hb dX10_endOf_154 (by decide) ?_
                  exact ih12 (t2 + (I (18) (4 * I 20 i + 3))) (I 18 (4 * I 20 i)) (i + 1) (by omega) (by omega) (by omega) (by omega) (by omega) ls _ _ (lv_sub hl [2, 3, 1, 4, 0] rfl) hP hD hS
                · refine lv_bipush (v := (-9)) hx hb dX10_endOf_148 (by decide) ?_
                  refine tp (show (-9 : Int32) = rN 0 by decide) ?_
                  exact ret_i hE (r := rN (0)) (by obtain ⟨k, hk⟩ : ∃ k, I 19 0 - i = k + 1 := ⟨I 19 0 - i - 1, by omega⟩; rw [he, hk]; rw [enK_0 (f := shM I) (w := I 3 0) (hs := fun k => I 18 (4 * k)) (fr := fun k => I 18 (4 * k + 1)) (to := fun k => I 18 (4 * k + 2)) (st := fun k => I 18 (4 * k + 3)) (r := I 20) (k := k) (t1 := (if I 18 (4 * I 20 i) = q then t else t + I 3 0)) rfl (by rw [hbc, hbt]), rN_0]) hP hD hS dX10_endOf_150
              · refine lv_aload_n hx hb dX10_endOf_97 rfl (lv_at hl 0 rfl) ?_
                refine lv_iload_n hx hb dX10_endOf_98 rfl (lv_at hl 3 rfl) ?_
                refine lv_iload_n hx hb dX10_endOf_99 rfl (lv_at hl 2 rfl) ?_
                refine call_V (As := [.int (nI (I 18 (4 * I 20 i))), .int (nI (t2))]) (rest := []) hE (ct_X10_shown l E a I tr (I 18 (4 * I 20 i)) (t2) hI (by omega) (by omega)) cm_X10_shown (uw mt_L_X10_135 rfl) (gM_0 E a I tr) rfl rfl hP hD hS hl.1 rfl rfl (Nat.le_of_ble_eq_true rfl) ⟨by decide, by decide⟩ dX10_endOf_100 (fun H locs hP hD hS => ?_)
                refine W.eq (g2 := F0 m 103 ls [.int (nI (shM I (I 18 (4 * I 20 i)) (t2)))]) rfl ?_
                have hs2 := shM_lt I (I 18 (4 * I 20 i)) (t2)
                refine lv_aload_n hx hb dX10_endOf_103 rfl (lv_at hl 0 rfl) ?_
                refine gf_X10_45 hE hP (0) (gM_0 E a I tr) (v := .ref (a 12)) rfl dX10_endOf_104 ?_
                refine lv_iload hx hb dX10_endOf_107 (lv_at hl 5 rfl) ?_
                refine lv_iconst (v := nI (1)) hx hb dX10_endOf_109 (by decide) ?_
                refine lv_iadd hx hb dX10_endOf_110 ?_
                refine tp (nI_add _ _) ?_
                refine ald_i hE hP (12) (gM_12 E a I tr) (by omega) (by decide) (r := nI (I (18) (4 * I 20 i + 1))) rfl dX10_endOf_111 ?_
                refine lv_isub hx hb dX10_endOf_112 ?_
                refine lv_bipush (v := nI (48)) hx hb dX10_endOf_113 (by decide) ?_
                refine lv_iadd hx hb dX10_endOf_115 ?_
                refine tp (fm_p (a := shM I (I 18 (4 * I 20 i)) (t2)) (b := I (18) (4 * I 20 i + 1)) (by omega)) ?_
                refine lv_bipush (v := nI (48)) hx hb dX10_endOf_116 (by decide) ?_
                refine lv_irem hx hb dX10_endOf_118 (nI_ne0 (by omega) (by omega)) ?_
                refine tp (pk_rem (by omega) (by omega) (by omega)) ?_
                refine lv_iload hx hb dX10_endOf_119 (lv_at hl 6 rfl) ?_
                refine bN_le (tgt := 130) hx hb (by omega) (by omega) dX10_endOf_121 (by decide) (fun c121 => ?_) (fun c121 => ?_)
                · have hbt : btC (shM I (I 18 (4 * I 20 i))) (I 18 (4 * I 20 i + 1)) (I 18 (4 * I 20 i + 2)) t2 = t2 + 9 := bt_hit c94 c121
                  refine lv_iload_n hx hb dX10_endOf_130 rfl (lv_at hl 2 rfl) ?_
                  refine lv_aload_n hx hb dX10_endOf_131 rfl (lv_at hl 0 rfl) ?_
                  refine gf_X10_45 hE hP (0) (gM_0 E a I tr) (v := .ref (a 12)) rfl dX10_endOf_132 ?_
                  refine lv_iload hx hb dX10_endOf_135 (lv_at hl 5 rfl) ?_
                  refine lv_iconst (v := nI (3)) hx hb dX10_endOf_137 (by decide) ?_
                  refine lv_iadd hx hb dX10_endOf_138 ?_
                  refine tp (nI_add _ _) ?_
                  refine ald_i hE hP (12) (gM_12 E a I tr) (by omega) (by decide) (r := nI (I (18) (4 * I 20 i + 3))) rfl dX10_endOf_139 ?_
                  refine lv_iadd hx hb dX10_endOf_140 ?_
                  refine tp (nI_add _ _) ?_
                  refine lv_istore_n (lv' := [(2, .int (nI (t2 + (I (18) (4 * I 20 i + 3))))), (0, .ref (a 0)), (1, .int (nI (h))), (3, .int (nI (I 18 (4 * I 20 i)))), (4, .int (nI (i))), (5, .int (nI (4 * I 20 i))), (6, .int (nI (((I 18 (4 * I 20 i + 2)) + 48 - (I 18 (4 * I 20 i + 1))) % 48)))]) hx hb dX10_endOf_141 rfl hl (by decide) rfl (fun ls hl => ?_)
                  refine lv_iload_n hx hb dX10_endOf_142 rfl (lv_at hl 0 rfl) ?_
                  refine lv_bipush (v := nI (95)) hx hb dX10_endOf_143 (by decide) ?_
                  refine bN_le (tgt := 151) hx hb (by omega) (by omega) dX10_endOf_145 (by decide) (fun c145 => ?_) (fun c145 => ?_)
                  · refine lv_iinc (v := nI (i + 1)) (lv' := [(4, .int (nI (i + 1))), (2, .int (nI (t2 + (I (18) (4 * I 20 i + 3))))), (0, .ref (a 0)), (1, .int (nI (h))), (3, .int (nI (I 18 (4 * I 20 i)))), (5, .int (nI (4 * I 20 i))), (6, .int (nI (((I 18 (4 * I 20 i + 2)) + 48 - (I 18 (4 * I 20 i + 1))) % 48)))]) hx hb dX10_endOf_151 hl (k := 4) rfl (ii1_N _) (by decide) rfl (fun ls hl => ?_)
                    refine lv_goto (tgt := 12) hx hb dX10_endOf_154 (by decide) ?_
                    exact ih12 (t2 + (I (18) (4 * I 20 i + 3))) (I 18 (4 * I 20 i)) (i + 1) (by omega) (by omega) (by omega) (by omega) (by obtain ⟨k, hk⟩ : ∃ k, I 19 0 - i = k + 1 := ⟨I 19 0 - i - 1, by omega⟩; rw [he, hk, show I 19 0 - (i + 1) = k by omega]; have z := enK_2 (f := shM I) (w := I 3 0) (hs := fun k => I 18 (4 * k)) (fr := fun k => I 18 (4 * k + 1)) (to := fun k => I 18 (4 * k + 2)) (st := fun k => I 18 (4 * k + 3)) (r := I 20) (k := k) (t1 := (if I 18 (4 * I 20 i) = q then t else t + I 3 0)) rfl (by rw [hbc, hbt]; omega) (by rw [hbc, hbt]; omega); rw [z, hbc, hbt, Nat.add_sub_cancel]) ls _ _ (lv_sub hl [2, 3, 1, 4, 0] rfl) hP hD hS
                  · refine lv_bipush (v := (-9)) hx hb dX10_endOf_148 (by decide) ?_
                    refine tp (show (-9 : Int32) = rN 0 by decide) ?_
                    exact ret_i hE (r := rN (0)) (by obtain ⟨k, hk⟩ : ∃ k, I 19 0 - i = k + 1 := ⟨I 19 0 - i - 1, by omega⟩; rw [he, hk]; rw [enK_1 (f := shM I) (w := I 3 0) (hs := fun k => I 18 (4 * k)) (fr := fun k => I 18 (4 * k + 1)) (to := fun k => I 18 (4 * k + 2)) (st := fun k => I 18 (4 * k + 3)) (r := I 20) (k := k) (t1 := (if I 18 (4 * I 20 i) = q then t else t + I 3 0)) rfl (by rw [hbc, hbt]; omega), rN_0]) hP hD hS dX10_endOf_150
                · refine lv_iinc (v := nI (t2 + 1)) (lv' := [(2, .int (nI (t2 + 1))), (0, .ref (a 0)), (1, .int (nI (h))), (3, .int (nI (I 18 (4 * I 20 i)))), (4, .int (nI (i))), (5, .int (nI (4 * I 20 i))), (6, .int (nI (((I 18 (4 * I 20 i + 2)) + 48 - (I 18 (4 * I 20 i + 1))) % 48)))]) hx hb dX10_endOf_124 hl (k := 2) rfl (ii1_N _) (by decide) rfl (fun ls hl => ?_)
                  refine lv_goto (tgt := 91) hx hb dX10_endOf_127 (by decide) ?_
                  exact ih91 (t2 + 1) (by omega) (by omega) (hbc.trans (bt_miss c94 c121)) ls _ _ (lv_sub hl [1, 2, 0, 3, 4, 5, 6] rfl) hP hD hS
          exact loop91 (_ + 1) (t) (Nat.lt_succ_self _) (by omega) (by first | rw [if_pos c41] | rw [if_neg c41]) ls _ _ (lv_sub hl [4, 5, 2, 1, 6, 3, 0] rfl) hP hD hS
  exact loop12 (_ + 1) (I 16 0) (h) (0) (Nat.lt_succ_self _) (by omega) (by omega) (by omega) rfl ls _ _ (lv_sub hl [3, 4, 2, 1, 0] rfl) hP hD hS

set_option maxHeartbeats 4000000 in
set_option maxRecDepth 100000 in
theorem ct_X10_soonest (l : Launch) (E : cE) (a : Nat → Nat) (I : Nat → Nat → Nat) (tr : Int64) (zp0 zp1 : Int32) (hI : KM I) (hE7 : EKJ I) : Ct l E 4 yX10_soonest cX10_soonest 8 (some .int) [.ref (a 0), .int (zp0), .int (zp1)] (WM E a I tr) (some (.int (r_soonest (I 2 0) (seJ I) (sxJ I) (I 19 0) zp0 zp1))) (WM E a (sooJ I zp0 zp1) tr) := by
  refine Ct_of (plainFor_of_name (by decide)) (Nat.le_of_ble_eq_true rfl) ?_
  intro p e s m args below meth c A ls hE hP hD hS hl
  have hE : cEnv p s m args meth c E RX10 cX10_soonest 8 (some .int) A := hE
  have hx := hE.1
  have hb := hE.2.1
  have hl : lv_has ls 8 [(0, .ref (a 0)), (1, .int (zp0)), (2, .int (zp1))] := hl
  have hP : va_P E.1 vwCl (WM E a I tr) s.heap := hP
  generalize hH : s.heap = H at hP hS ⊢
  have hS : va_S A s.heap H [] := by rw [hH]; exact hS
  clear hH
  have hc6 := hI.1
  have hc4 := hE7.1
  have hn95 := hI.2.2.1
  have hcc := cc4 (I 19 0) hc4 (I 19 0) hc4
  refine lv_aload_n hx hb dX10_soonest_0 rfl (lv_at hl 0 rfl) ?_
  refine lv_iload_n hx hb dX10_soonest_1 rfl (lv_at hl 1 rfl) ?_
  refine call_V (As := [.int (zp0)]) (rest := []) hE (ct_X10_isHouse l E a I tr ((zp0)) hI.1) cm_X10_isHouse (uw mt_L_X10_125 rfl) (gM_0 E a I tr) rfl rfl hP hD hS hl.1 rfl rfl (Nat.le_of_ble_eq_true rfl) ⟨by decide, by decide⟩ dX10_soonest_2 (fun H locs hP hD hS => ?_)
  refine W.eq (g2 := F0 m 5 ls [.int (bB (inB ((zp0)) (I 2 0)))]) rfl ?_
  refine bB_eq (tgt := 13) hx hb dX10_soonest_5 (by decide) (fun c5 => ?_) (fun c5 => ?_)
  · refine lv_iconst (v := (-1)) hx hb dX10_soonest_13 (by decide) ?_
    have hw : I = (sooJ I zp0 zp1) := by first | (simp only [sooJ, c5, cond_false]; done)
    have hP := Eq.mp (congrArg (fun q => va_P E.1 vwCl (WM E a q tr) H) hw) hP
    have hD := Eq.mp (congrArg (fun q => va_D A (WM E a q tr)) hw) hD
    exact ret_i hE (r := (-1)) (by first | (simp only [r_soonest, c5, cond_false]; done)) hP hD hS dX10_soonest_14
  · obtain ⟨h, qh, rfl⟩ := inB_t (by omega) c5
    have kh : tn (nI h) = h := tn_nI (by omega)
    refine lv_iload_n hx hb dX10_soonest_8 rfl (lv_at hl 2 rfl) ?_
    refine lv_iconst (v := (-1)) hx hb dX10_soonest_9 (by decide) ?_
    refine lv_icmp_ge (tgt := 15) hx hb dX10_soonest_10 (by decide) (fun c10 => ?_) (fun c10 => ?_)
    · refine lv_iconst (v := nI (1)) hx hb dX10_soonest_15 (by decide) ?_
      refine lv_istore_n (lv' := [(3, .int (nI (1))), (0, .ref (a 0)), (1, .int (nI (h))), (2, .int (zp1))]) hx hb dX10_soonest_16 rfl hl (by decide) rfl (fun ls hl => ?_)
      refine lv_iconst (v := nI (0)) hx hb dX10_soonest_17 (by decide) ?_
      refine lv_istore (lv' := [(4, .int (nI (0))), (3, .int (nI (1))), (0, .ref (a 0)), (1, .int (nI (h))), (2, .int (zp1))]) hx hb dX10_soonest_18 hl (by decide) rfl (fun ls hl => ?_)
      have loop20 : ∀ (fu20 : Nat) (w : Nat) (i : Nat), I 19 0 - i < fu20 → (i ≤ I 19 0) → (w = I 19 0 ^ i) → (w ≤ 256) → ∀ (ls : Array Slot) (H : Heap) (locs : List Loc), lv_has ls 8 [(0, .ref (a 0)), (1, .int (nI (h))), (2, .int (zp1)), (3, .int (nI (w))), (4, .int (nI (i)))] → va_P E.1 vwCl (WM E a I tr) H → va_D A (WM E a I tr) → va_S A s.heap H locs → W p l e (rmL 4) s m args below meth c H locs 0 0 (RQ E below args s A (some (.int (r_soonest (I 2 0) (seJ I) (sxJ I) (I 19 0) (nI h) zp1))) (WM E a (sooJ I (nI h) zp1) tr)) (F0 m 20 ls []) := by
        intro fu20
        induction fu20 with
        | zero => intro w i h; exact absurd h (Nat.not_lt_zero _)
        | succ fu20 ih20 =>
          intro w i hfu20 hi hw hw2 ls H locs hl hP hD hS
          have hwm : w * I 19 0 ≤ 256 * 4 := Nat.mul_le_mul hw2 hc4
          refine lv_iload hx hb dX10_soonest_20 (lv_at hl 4 rfl) ?_
          refine lv_aload_n hx hb dX10_soonest_22 rfl (lv_at hl 0 rfl) ?_
          refine gf_X10_116 hE hP (0) (gM_0 E a I tr) (v := .int (nI (I (19) (0)))) rfl dX10_soonest_23 ?_
          refine bN_ge (tgt := 42) hx hb (by omega) (by omega) dX10_soonest_26 (by decide) (fun c26 => ?_) (fun c26 => ?_)
          · have hwc : w = I 19 0 ^ I 19 0 := by rw [hw, show i = I 19 0 by omega]
            rw [hwc] at hl
            refine lv_bipush (v := (-9)) hx hb dX10_soonest_42 (by decide) ?_
            refine tp (show (-9 : Int32) = rN 0 by decide) ?_
            refine lv_istore (lv' := [(4, .int (rN (0))), (0, .ref (a 0)), (1, .int (nI (h))), (2, .int (zp1)), (3, .int (nI ((I 19 0 ^ I 19 0))))]) hx hb dX10_soonest_44 hl (by decide) rfl (fun ls hl => ?_)
            refine lv_iconst (v := nI (0)) hx hb dX10_soonest_46 (by decide) ?_
            refine lv_istore (lv' := [(5, .int (nI (0))), (4, .int (rN (0))), (0, .ref (a 0)), (1, .int (nI (h))), (2, .int (zp1)), (3, .int (nI ((I 19 0 ^ I 19 0))))]) hx hb dX10_soonest_47 hl (by decide) rfl (fun ls hl => ?_)
            have loop49 : ∀ (fu49 : Nat) (be : Nat) (o : Nat), (I 19 0 ^ I 19 0) - o < fu49 → (o ≤ (I 19 0 ^ I 19 0)) → (be = (pb (soJ I h) o).2) → (be ≤ 104) → ∀ (ls : Array Slot) (H : Heap) (locs : List Loc), lv_has ls 8 [(0, .ref (a 0)), (1, .int (nI (h))), (2, .int (zp1)), (3, .int (nI ((I 19 0 ^ I 19 0)))), (4, .int (rN (be))), (5, .int (nI (o)))] → va_P E.1 vwCl (WM E a (upA (upA I (20) (ordA (I 20) (I 19 0) (o))) (21) (bstA (I 21) (I 19 0) (soJ I h) (o))) tr) H → va_D A (WM E a (upA (upA I (20) (ordA (I 20) (I 19 0) (o))) (21) (bstA (I 21) (I 19 0) (soJ I h) (o))) tr) → va_S A s.heap H locs → W p l e (rmL 4) s m args below meth c H locs 0 0 (RQ E below args s A (some (.int (r_soonest (I 2 0) (seJ I) (sxJ I) (I 19 0) (nI h) zp1))) (WM E a (sooJ I (nI h) zp1) tr)) (F0 m 49 ls []) := by
              intro fu49
              induction fu49 with
              | zero => intro be o h; exact absurd h (Nat.not_lt_zero _)
              | succ fu49 ih49 =>
                intro be o hfu49 ho hbe hbl ls H locs hl hP hD hS
                refine lv_iload hx hb dX10_soonest_49 (lv_at hl 5 rfl) ?_
                refine lv_iload_n hx hb dX10_soonest_51 rfl (lv_at hl 3 rfl) ?_
                refine bN_ge (tgt := 139) hx hb (by omega) (by omega) dX10_soonest_52 (by decide) (fun c52 => ?_) (fun c52 => ?_)
                · have hoc : o = I 19 0 ^ I 19 0 := by omega
                  have hbe2 : be = seJ I h := by rw [hbe, hoc]; rfl
                  refine lv_iload hx hb dX10_soonest_139 (lv_at hl 4 rfl) ?_
                  refine lv_bipush (v := (-9)) hx hb dX10_soonest_141 (by decide) ?_
                  refine bQ9_eq (tgt := 151) hx hb (by omega) dX10_soonest_143 (by decide) (fun c143 => ?_) (fun c143 => ?_)
                  · refine lv_iload hx hb dX10_soonest_151 (lv_at hl 4 rfl) ?_
                    refine lv_goto (tgt := 175) hx hb dX10_soonest_153 (by decide) ?_
                    have hw : (upA (upA I (20) (ordA (I 20) (I 19 0) (o))) (21) (bstA (I 21) (I 19 0) (soJ I h) (o))) = (sooJ I (nI h) zp1) := by simp only [sooJ, c5, kh, cond_true]; rw [if_neg (Int32.not_lt.mpr c10), hoc]; rfl
                    have hP := Eq.mp (congrArg (fun q => va_P E.1 vwCl (WM E a q tr) H) hw) hP
                    have hD := Eq.mp (congrArg (fun q => va_D A (WM E a q tr)) hw) hD
                    exact ret_i hE (r := rN (be)) (by simp only [r_soonest, c5, kh, cond_true]; rw [if_neg (Int32.not_lt.mpr c10), if_pos (hbe2.symm.trans c143), c143]; rfl) hP hD hS dX10_soonest_175
                  · refine lv_iload_n hx hb dX10_soonest_146 rfl (lv_at hl 2 rfl) ?_
                    refine lv_iconst (v := (-1)) hx hb dX10_soonest_147 (by decide) ?_
                    refine lv_icmp_ne (tgt := 156) hx hb dX10_soonest_148 (by decide) (fun c148 => ?_) (fun c148 => ?_)
                    · refine lv_iload_n hx hb dX10_soonest_156 rfl (lv_at hl 2 rfl) ?_
                      refine lv_aload_n hx hb dX10_soonest_157 rfl (lv_at hl 0 rfl) ?_
                      refine gf_X10_116 hE hP (0) (gM_0 E a (upA (upA I (20) (ordA (I 20) (I 19 0) (o))) (21) (bstA (I 21) (I 19 0) (soJ I h) (o))) tr) (v := .int (nI (I (19) (0)))) rfl dX10_soonest_158 ?_
                      refine lv_icmp_ge (tgt := 173) hx hb dX10_soonest_161 (by decide) (fun c161 => ?_) (fun c161 => ?_)
                      · refine lv_bipush (v := (-5)) hx hb dX10_soonest_173 (by decide) ?_
                        have hw : (upA (upA I (20) (ordA (I 20) (I 19 0) (o))) (21) (bstA (I 21) (I 19 0) (soJ I h) (o))) = (sooJ I (nI h) zp1) := by simp only [sooJ, c5, kh, cond_true]; rw [if_neg (Int32.not_lt.mpr c10), hoc]; rfl
                        have hP := Eq.mp (congrArg (fun q => va_P E.1 vwCl (WM E a q tr) H) hw) hP
                        have hD := Eq.mp (congrArg (fun q => va_D A (WM E a q tr)) hw) hD
                        exact ret_i hE (r := (-5)) (by simp only [r_soonest, c5, kh, cond_true]; rw [if_neg (Int32.not_lt.mpr c10), if_neg (show ¬ seJ I h = 0 by omega), if_neg c148, if_neg (Int32.not_lt.mpr c161)]) hP hD hS dX10_soonest_175
                      · have hi0 : ∃ i : Nat, i < I 19 0 ∧ zp1 = nI i := sn_i hc4 c10 c148 c161
                        obtain ⟨i, qi, rfl⟩ := hi0
                        have ki : tn (nI i) = i := tn_nI (by omega)
                        refine lv_aload_n hx hb dX10_soonest_164 rfl (lv_at hl 0 rfl) ?_
                        refine gf_X10_51 hE hP (0) (gM_0 E a (upA (upA I (20) (ordA (I 20) (I 19 0) (o))) (21) (bstA (I 21) (I 19 0) (soJ I h) (o))) tr) (v := .ref (a 14)) rfl dX10_soonest_165 ?_
                        refine lv_iload_n hx hb dX10_soonest_168 rfl (lv_at hl 2 rfl) ?_
                        refine ald_i hE hP (14) (gM_14 E a (upA (upA I (20) (ordA (I 20) (I 19 0) (o))) (21) (bstA (I 21) (I 19 0) (soJ I h) (o))) tr) (by omega) (by decide) (r := nI ((bstA (I 21) (I 19 0) (soJ I h) (o)) (i))) rfl dX10_soonest_169 ?_
                        refine lv_goto (tgt := 175) hx hb dX10_soonest_170 (by decide) ?_
                        have hw : (upA (upA I (20) (ordA (I 20) (I 19 0) (o))) (21) (bstA (I 21) (I 19 0) (soJ I h) (o))) = (sooJ I (nI h) (nI i)) := by simp only [sooJ, c5, kh, cond_true]; rw [if_neg (Int32.not_lt.mpr c10), hoc]; rfl
                        have hP := Eq.mp (congrArg (fun q => va_P E.1 vwCl (WM E a q tr) H) hw) hP
                        have hD := Eq.mp (congrArg (fun q => va_D A (WM E a q tr)) hw) hD
                        exact ret_i hE (r := nI ((bstA (I 21) (I 19 0) (soJ I h) (o)) (i))) (by simp only [r_soonest, c5, kh, ki, cond_true]; rw [if_neg (Int32.not_lt.mpr c10), if_neg (show ¬ seJ I h = 0 by omega), if_neg c148, if_pos (Int32.not_le.mp c161), bstA_at qi (fun z => by rw [pb_z.mp z] at hbe; omega), hoc]; rfl) hP hD hS dX10_soonest_175
                    · refine lv_iload hx hb dX10_soonest_151 (lv_at hl 4 rfl) ?_
                      refine lv_goto (tgt := 175) hx hb dX10_soonest_153 (by decide) ?_
                      have hw : (upA (upA I (20) (ordA (I 20) (I 19 0) (o))) (21) (bstA (I 21) (I 19 0) (soJ I h) (o))) = (sooJ I (nI h) zp1) := by simp only [sooJ, c5, kh, cond_true]; rw [if_neg (Int32.not_lt.mpr c10), hoc]; rfl
                      have hP := Eq.mp (congrArg (fun q => va_P E.1 vwCl (WM E a q tr) H) hw) hP
                      have hD := Eq.mp (congrArg (fun q => va_D A (WM E a q tr)) hw) hD
                      exact ret_i hE (r := rN (be)) (by simp only [r_soonest, c5, kh, cond_true]; rw [if_neg (Int32.not_lt.mpr c10), if_neg (show ¬ seJ I h = 0 by omega), if_pos c148, hbe2]) hP hD hS dX10_soonest_175
                · refine lv_aload_n hx hb dX10_soonest_55 rfl (lv_at hl 0 rfl) ?_
                  refine lv_iload hx hb dX10_soonest_56 (lv_at hl 5 rfl) ?_
                  refine call_V (As := [.int (nI (o))]) (rest := []) hE (ct_X10_isOrder l E a (upA (upA I (20) (ordA (I 20) (I 19 0) (o))) (21) (bstA (I 21) (I 19 0) (soJ I h) (o))) tr (o) hc4 (by omega)) cm_X10_isOrder (uw mt_L_X10_148 rfl) (gM_0 E a (upA (upA I (20) (ordA (I 20) (I 19 0) (o))) (21) (bstA (I 21) (I 19 0) (soJ I h) (o))) tr) rfl rfl hP hD hS hl.1 rfl rfl (Nat.le_of_ble_eq_true rfl) ⟨by decide, by decide⟩ dX10_soonest_58 (fun H locs hP hD hS => ?_)
                  refine W.eq (g2 := F0 m 61 ls [.int (bB (oJ (I 19 0) (o)))]) rfl ?_
                  have hwf : (upA (upA (upA I (20) (ordA (I 20) (I 19 0) (o))) (21) (bstA (I 21) (I 19 0) (soJ I h) (o))) (20) (flD ((upA (upA I (20) (ordA (I 20) (I 19 0) (o))) (21) (bstA (I 21) (I 19 0) (soJ I h) (o))) 20) (ioJ ((upA (upA I (20) (ordA (I 20) (I 19 0) (o))) (21) (bstA (I 21) (I 19 0) (soJ I h) (o))) 19 0) (o)) ((upA (upA I (20) (ordA (I 20) (I 19 0) (o))) (21) (bstA (I 21) (I 19 0) (soJ I h) (o))) 19 0) 0)) = (upA (upA I 20 (ordA (I 20) (I 19 0) (o + 1))) 21 (bstA (I 21) (I 19 0) (soJ I h) (o))) := (by show upA (upA (upA I 20 _) 21 _) 20 (flD (ordA (I 20) (I 19 0) o) (ioJ (I 19 0) o) (I 19 0) 0) = _; rw [ordA_s, upA3])
                  have hP := Eq.mp (congrArg (fun q => va_P E.1 vwCl (WM E a q tr) H) hwf) hP
                  have hD := Eq.mp (congrArg (fun q => va_D A (WM E a q tr)) hwf) hD
                  refine bB_eq (tgt := 72) hx hb dX10_soonest_61 (by decide) (fun c61 => ?_) (fun c61 => ?_)
                  · refine lv_bipush (v := (-9)) hx hb dX10_soonest_72 (by decide) ?_
                    refine tp (show (-9 : Int32) = rN 0 by decide) ?_
                    refine lv_istore (lv' := [(6, .int (rN (0))), (0, .ref (a 0)), (1, .int (nI (h))), (2, .int (zp1)), (3, .int (nI ((I 19 0 ^ I 19 0)))), (4, .int (rN (be))), (5, .int (nI (o)))]) hx hb dX10_soonest_74 hl (by decide) rfl (fun ls hl => ?_)
                    refine lv_iload hx hb dX10_soonest_76 (lv_at hl 0 rfl) ?_
                    refine lv_bipush (v := (-9)) hx hb dX10_soonest_78 (by decide) ?_
                    refine bQ9_eq (tgt := 133) hx hb (by omega) dX10_soonest_80 (by decide) (fun c80 => ?_) (fun c80 => absurd c80 (by omega))
                    have hpb : pb (soJ I h) (o + 1) = pb (soJ I h) o := pb_f0 (soJ_f c61)
                    refine lv_iinc (v := nI (o + 1)) (lv' := [(5, .int (nI (o + 1))), (6, .int (rN (0))), (0, .ref (a 0)), (1, .int (nI (h))), (2, .int (zp1)), (3, .int (nI ((I 19 0 ^ I 19 0)))), (4, .int (rN (be)))]) hx hb dX10_soonest_133 hl (k := 6) rfl (ii1_N _) (by decide) rfl (fun ls hl => ?_)
                    refine lv_goto (tgt := 49) hx hb dX10_soonest_136 (by decide) ?_
                    exact ih49 (be) (o + 1) (by omega) (by omega) (by rw [hpb]; exact hbe) (by omega) ls _ _ (lv_sub hl [2, 3, 4, 5, 6, 0] rfl) (by have hw : (upA (upA I (20) (ordA (I 20) (I 19 0) (o + 1))) (21) (bstA (I 21) (I 19 0) (soJ I h) (o))) = (upA (upA I (20) (ordA (I 20) (I 19 0) ((o + 1)))) (21) (bstA (I 21) (I 19 0) (soJ I h) ((o + 1)))) := (by rw [bstA_s hpb]); rw [hw] at hP; exact hP) (by have hw : (upA (upA I (20) (ordA (I 20) (I 19 0) (o + 1))) (21) (bstA (I 21) (I 19 0) (soJ I h) (o))) = (upA (upA I (20) (ordA (I 20) (I 19 0) ((o + 1)))) (21) (bstA (I 21) (I 19 0) (soJ I h) ((o + 1)))) := (by rw [bstA_s hpb]); rw [hw] at hD; exact hD) hS
                  · have horv : ∀ i, i < I 19 0 → ordA (I 20) (I 19 0) (o + 1) i = ioJ (I 19 0) o i := fun i hi => ordA_at hi
                    have hor : ∀ i, i < I 19 0 → ordA (I 20) (I 19 0) (o + 1) i < I 19 0 := fun i hi => by rw [horv i hi]; exact ioJ_lt (by omega)
                    refine lv_aload_n hx hb dX10_soonest_64 rfl (lv_at hl 0 rfl) ?_
                    refine lv_iload_n hx hb dX10_soonest_65 rfl (lv_at hl 1 rfl) ?_
                    refine call_V (As := [.int (nI (h))]) (rest := []) hE (ct_X10_endOf l E a (upA (upA I (20) (ordA (I 20) (I 19 0) (o + 1))) (21) (bstA (I 21) (I 19 0) (soJ I h) (o))) tr h (KM_A _ (by decide) (KM_A _ (by decide) hI)) hE7 hor (by omega)) cm_X10_endOf (uw mt_L_X10_151 rfl) (gM_0 E a (upA (upA I (20) (ordA (I 20) (I 19 0) (o + 1))) (21) (bstA (I 21) (I 19 0) (soJ I h) (o))) tr) rfl rfl hP hD hS hl.1 rfl rfl (Nat.le_of_ble_eq_true rfl) ⟨by decide, by decide⟩ dX10_soonest_66 (fun H locs hP hD hS => ?_)
                    refine W.eq (g2 := F0 m 69 ls [.int (rN (enJ (upA (upA I (20) (ordA (I 20) (I 19 0) (o + 1))) (21) (bstA (I 21) (I 19 0) (soJ I h) (o))) ((upA (upA I (20) (ordA (I 20) (I 19 0) (o + 1))) (21) (bstA (I 21) (I 19 0) (soJ I h) (o))) 20) h))]) rfl ?_
                    refine tp (congrArg rN (enJ_w (z := bstA (I 21) (I 19 0) (soJ I h) (o)) horv)) ?_
                    have hso := soJ_t (J := I) (h := h) c61
                    have hsl := soJ_le (J := I) (h := h) (o := o) hn95
                    rw [hso] at hsl
                    refine lv_goto (tgt := 74) hx hb dX10_soonest_69 (by decide) ?_
                    refine lv_istore (lv' := [(6, .int (rN (enJ I (ioJ (I 19 0) o) h))), (0, .ref (a 0)), (1, .int (nI (h))), (2, .int (zp1)), (3, .int (nI ((I 19 0 ^ I 19 0)))), (4, .int (rN (be))), (5, .int (nI (o)))]) hx hb dX10_soonest_74 hl (by decide) rfl (fun ls hl => ?_)
                    refine lv_iload hx hb dX10_soonest_76 (lv_at hl 0 rfl) ?_
                    refine lv_bipush (v := (-9)) hx hb dX10_soonest_78 (by decide) ?_
                    refine bQ9_eq (tgt := 133) hx hb (by omega) dX10_soonest_80 (by decide) (fun c80 => ?_) (fun c80 => ?_)
                    · have hpb : pb (soJ I h) (o + 1) = pb (soJ I h) o := pb_f0 (by rw [hso]; exact c80)
                      refine lv_iinc (v := nI (o + 1)) (lv' := [(5, .int (nI (o + 1))), (6, .int (rN (enJ I (ioJ (I 19 0) o) h))), (0, .ref (a 0)), (1, .int (nI (h))), (2, .int (zp1)), (3, .int (nI ((I 19 0 ^ I 19 0)))), (4, .int (rN (be)))]) hx hb dX10_soonest_133 hl (k := 6) rfl (ii1_N _) (by decide) rfl (fun ls hl => ?_)
                      refine lv_goto (tgt := 49) hx hb dX10_soonest_136 (by decide) ?_
                      exact ih49 (be) (o + 1) (by omega) (by omega) (by rw [hpb]; exact hbe) (by omega) ls _ _ (lv_sub hl [2, 3, 4, 5, 6, 0] rfl) (by have hw : (upA (upA I (20) (ordA (I 20) (I 19 0) (o + 1))) (21) (bstA (I 21) (I 19 0) (soJ I h) (o))) = (upA (upA I (20) (ordA (I 20) (I 19 0) ((o + 1)))) (21) (bstA (I 21) (I 19 0) (soJ I h) ((o + 1)))) := (by rw [bstA_s hpb]); rw [hw] at hP; exact hP) (by have hw : (upA (upA I (20) (ordA (I 20) (I 19 0) (o + 1))) (21) (bstA (I 21) (I 19 0) (soJ I h) (o))) = (upA (upA I (20) (ordA (I 20) (I 19 0) ((o + 1)))) (21) (bstA (I 21) (I 19 0) (soJ I h) ((o + 1)))) := (by rw [bstA_s hpb]); rw [hw] at hD; exact hD) hS
                    · refine lv_iload hx hb dX10_soonest_83 (lv_at hl 5 rfl) ?_
                      refine lv_bipush (v := (-9)) hx hb dX10_soonest_85 (by decide) ?_
                      refine bQ9_eq (tgt := 97) hx hb (by omega) dX10_soonest_87 (by decide) (fun c87 => ?_) (fun c87 => ?_)
                      · refine lv_iload hx hb dX10_soonest_97 (lv_at hl 0 rfl) ?_
                        refine lv_istore (lv' := [(4, .int (rN (enJ I (ioJ (I 19 0) o) h))), (6, .int (rN (enJ I (ioJ (I 19 0) o) h))), (0, .ref (a 0)), (1, .int (nI (h))), (2, .int (zp1)), (3, .int (nI ((I 19 0 ^ I 19 0)))), (5, .int (nI (o)))]) hx hb dX10_soonest_99 hl (by decide) rfl (fun ls hl => ?_)
                        refine lv_iconst (v := nI (0)) hx hb dX10_soonest_101 (by decide) ?_
                        refine lv_istore (lv' := [(7, .int (nI (0))), (4, .int (rN (enJ I (ioJ (I 19 0) o) h))), (6, .int (rN (enJ I (ioJ (I 19 0) o) h))), (0, .ref (a 0)), (1, .int (nI (h))), (2, .int (zp1)), (3, .int (nI ((I 19 0 ^ I 19 0)))), (5, .int (nI (o)))]) hx hb dX10_soonest_102 hl (by decide) rfl (fun ls hl => ?_)
                        have loop104 : ∀ (fu104 : Nat) (i : Nat), I 19 0 - i < fu104 → (i ≤ I 19 0) → ∀ (ls : Array Slot) (H : Heap) (locs : List Loc), lv_has ls 8 [(0, .ref (a 0)), (1, .int (nI (h))), (2, .int (zp1)), (3, .int (nI ((I 19 0 ^ I 19 0)))), (4, .int (rN (enJ I (ioJ (I 19 0) o) h))), (5, .int (nI (o))), (7, .int (nI (i)))] → va_P E.1 vwCl (WM E a (upA (upA I (20) (ordA (I 20) (I 19 0) (o + 1))) (21) (flF (bstA (I 21) (I 19 0) (soJ I h) (o)) (ordA (I 20) (I 19 0) (o + 1)) (i))) tr) H → va_D A (WM E a (upA (upA I (20) (ordA (I 20) (I 19 0) (o + 1))) (21) (flF (bstA (I 21) (I 19 0) (soJ I h) (o)) (ordA (I 20) (I 19 0) (o + 1)) (i))) tr) → va_S A s.heap H locs → W p l e (rmL 4) s m args below meth c H locs 0 0 (RQ E below args s A (some (.int (r_soonest (I 2 0) (seJ I) (sxJ I) (I 19 0) (nI h) zp1))) (WM E a (sooJ I (nI h) zp1) tr)) (F0 m 104 ls []) := by
                          intro fu104
                          induction fu104 with
                          | zero => intro i h; exact absurd h (Nat.not_lt_zero _)
                          | succ fu104 ih104 =>
                            intro i hfu104 hi ls H locs hl hP hD hS
                            refine lv_iload hx hb dX10_soonest_104 (lv_at hl 6 rfl) ?_
                            refine lv_aload_n hx hb dX10_soonest_106 rfl (lv_at hl 0 rfl) ?_
                            refine gf_X10_116 hE hP (0) (gM_0 E a (upA (upA I (20) (ordA (I 20) (I 19 0) (o + 1))) (21) (flF (bstA (I 21) (I 19 0) (soJ I h) (o)) (ordA (I 20) (I 19 0) (o + 1)) (i))) tr) (v := .int (nI (I (19) (0)))) rfl dX10_soonest_107 ?_
                            refine bN_ge (tgt := 133) hx hb (by omega) (by omega) dX10_soonest_110 (by decide) (fun c110 => ?_) (fun c110 => ?_)
                            · have hpb : pb (soJ I h) (o + 1) = (o + 9, soJ I h o) := pb_t (by omega) (by exact Or.inl (pb_z.mpr (hbe.symm.trans c87)))
                              refine lv_iinc (v := nI (o + 1)) (lv' := [(5, .int (nI (o + 1))), (0, .ref (a 0)), (1, .int (nI (h))), (2, .int (zp1)), (3, .int (nI ((I 19 0 ^ I 19 0)))), (4, .int (rN (enJ I (ioJ (I 19 0) o) h))), (7, .int (nI (i)))]) hx hb dX10_soonest_133 hl (k := 5) rfl (ii1_N _) (by decide) rfl (fun ls hl => ?_)
                              refine lv_goto (tgt := 49) hx hb dX10_soonest_136 (by decide) ?_
                              exact ih49 (enJ I (ioJ (I 19 0) o) h) (o + 1) (by omega) (by omega) (by rw [hpb]; exact hso.symm) (by omega) ls _ _ (lv_sub hl [1, 2, 3, 4, 5, 0] rfl) (by have hw : (upA (upA I (20) (ordA (I 20) (I 19 0) (o + 1))) (21) (flF (bstA (I 21) (I 19 0) (soJ I h) (o)) (ordA (I 20) (I 19 0) (o + 1)) (i))) = (upA (upA I (20) (ordA (I 20) (I 19 0) ((o + 1)))) (21) (bstA (I 21) (I 19 0) (soJ I h) ((o + 1)))) := (by rw [show i = I 19 0 by omega, bstA_u hpb]); rw [hw] at hP; exact hP) (by have hw : (upA (upA I (20) (ordA (I 20) (I 19 0) (o + 1))) (21) (flF (bstA (I 21) (I 19 0) (soJ I h) (o)) (ordA (I 20) (I 19 0) (o + 1)) (i))) = (upA (upA I (20) (ordA (I 20) (I 19 0) ((o + 1)))) (21) (bstA (I 21) (I 19 0) (soJ I h) ((o + 1)))) := (by rw [show i = I 19 0 by omega, bstA_u hpb]); rw [hw] at hD; exact hD) hS
                            · refine lv_aload_n hx hb dX10_soonest_113 rfl (lv_at hl 0 rfl) ?_
                              refine gf_X10_51 hE hP (0) (gM_0 E a (upA (upA I (20) (ordA (I 20) (I 19 0) (o + 1))) (21) (flF (bstA (I 21) (I 19 0) (soJ I h) (o)) (ordA (I 20) (I 19 0) (o + 1)) (i))) tr) (v := .ref (a 14)) rfl dX10_soonest_114 ?_
                              refine lv_iload hx hb dX10_soonest_117 (lv_at hl 6 rfl) ?_
                              refine lv_aload_n hx hb dX10_soonest_119 rfl (lv_at hl 0 rfl) ?_
                              refine gf_X10_48 hE hP (0) (gM_0 E a (upA (upA I (20) (ordA (I 20) (I 19 0) (o + 1))) (21) (flF (bstA (I 21) (I 19 0) (soJ I h) (o)) (ordA (I 20) (I 19 0) (o + 1)) (i))) tr) (v := .ref (a 13)) rfl dX10_soonest_120 ?_
                              refine lv_iload hx hb dX10_soonest_123 (lv_at hl 6 rfl) ?_
                              refine ald_i hE hP (13) (gM_13 E a (upA (upA I (20) (ordA (I 20) (I 19 0) (o + 1))) (21) (flF (bstA (I 21) (I 19 0) (soJ I h) (o)) (ordA (I 20) (I 19 0) (o + 1)) (i))) tr) (by omega) (by decide) (r := nI ((ordA (I 20) (I 19 0) (o + 1)) (i))) rfl dX10_soonest_125 ?_
                              refine ast_i hE hP hD hS (14) (gM_14 E a (upA (upA I (20) (ordA (I 20) (I 19 0) (o + 1))) (21) (flF (bstA (I 21) (I 19 0) (soJ I h) (o)) (ordA (I 20) (I 19 0) (o + 1)) (i))) tr) (by omega) (by decide) (sM_14 E a (upA (upA I (20) (ordA (I 20) (I 19 0) (o + 1))) (21) (flF (bstA (I 21) (I 19 0) (soJ I h) (o)) (ordA (I 20) (I 19 0) (o + 1)) (i))) tr (i) ((ordA (I 20) (I 19 0) (o + 1)) (i))) dX10_soonest_126 (fun H locs hP hD hS => ?_)
                              refine lv_iinc (v := nI (i + 1)) (lv' := [(7, .int (nI (i + 1))), (0, .ref (a 0)), (1, .int (nI (h))), (2, .int (zp1)), (3, .int (nI ((I 19 0 ^ I 19 0)))), (4, .int (rN (enJ I (ioJ (I 19 0) o) h))), (5, .int (nI (o)))]) hx hb dX10_soonest_127 hl (k := 6) rfl (ii1_N _) (by decide) rfl (fun ls hl => ?_)
                              refine lv_goto (tgt := 104) hx hb dX10_soonest_130 (by decide) ?_
                              exact ih104 (i + 1) (by omega) (by omega) ls _ _ (lv_sub hl [1, 2, 3, 4, 5, 6, 0] rfl) (by have hw : (up2 (upA (upA I (20) (ordA (I 20) (I 19 0) (o + 1))) (21) (flF (bstA (I 21) (I 19 0) (soJ I h) (o)) (ordA (I 20) (I 19 0) (o + 1)) (i))) (21) (i) ((ordA (I 20) (I 19 0) (o + 1)) (i))) = (upA (upA I (20) (ordA (I 20) (I 19 0) (o + 1))) (21) (flF (bstA (I 21) (I 19 0) (soJ I h) (o)) (ordA (I 20) (I 19 0) (o + 1)) ((i + 1)))) := (by rw [up2_upA]; exact congrArg (upA (upA I 20 _) 21) (flF_s _ _ _)); rw [hw] at hP; exact hP) (by have hw : (up2 (upA (upA I (20) (ordA (I 20) (I 19 0) (o + 1))) (21) (flF (bstA (I 21) (I 19 0) (soJ I h) (o)) (ordA (I 20) (I 19 0) (o + 1)) (i))) (21) (i) ((ordA (I 20) (I 19 0) (o + 1)) (i))) = (upA (upA I (20) (ordA (I 20) (I 19 0) (o + 1))) (21) (flF (bstA (I 21) (I 19 0) (soJ I h) (o)) (ordA (I 20) (I 19 0) (o + 1)) ((i + 1)))) := (by rw [up2_upA]; exact congrArg (upA (upA I 20 _) 21) (flF_s _ _ _)); rw [hw] at hD; exact hD) hS
                        exact loop104 (_ + 1) (0) (Nat.lt_succ_self _) (by omega) ls _ _ (lv_sub hl [3, 4, 5, 6, 1, 7, 0] rfl) (by have hw : (upA (upA I (20) (ordA (I 20) (I 19 0) (o + 1))) (21) (bstA (I 21) (I 19 0) (soJ I h) (o))) = (upA (upA I (20) (ordA (I 20) (I 19 0) (o + 1))) (21) (flF (bstA (I 21) (I 19 0) (soJ I h) (o)) (ordA (I 20) (I 19 0) (o + 1)) ((0)))) := (by rw [flF_0]); rw [hw] at hP; exact hP) (by have hw : (upA (upA I (20) (ordA (I 20) (I 19 0) (o + 1))) (21) (bstA (I 21) (I 19 0) (soJ I h) (o))) = (upA (upA I (20) (ordA (I 20) (I 19 0) (o + 1))) (21) (flF (bstA (I 21) (I 19 0) (soJ I h) (o)) (ordA (I 20) (I 19 0) (o + 1)) ((0)))) := (by rw [flF_0]); rw [hw] at hD; exact hD) hS
                      · refine lv_iload hx hb dX10_soonest_90 (lv_at hl 0 rfl) ?_
                        refine lv_iload hx hb dX10_soonest_92 (lv_at hl 5 rfl) ?_
                        refine bQ_ge (tgt := 133) hx hb (by omega) (by omega) dX10_soonest_94 (by decide) (fun c94 => ?_) (fun c94 => ?_)
                        · have hpb : pb (soJ I h) (o + 1) = pb (soJ I h) o := pb_f (Nat.pos_of_ne_zero (fun z => by rw [pb_z.mp z] at hbe; omega)) (by rw [← hbe, hso]; exact c94)
                          refine lv_iinc (v := nI (o + 1)) (lv' := [(5, .int (nI (o + 1))), (6, .int (rN (enJ I (ioJ (I 19 0) o) h))), (0, .ref (a 0)), (1, .int (nI (h))), (2, .int (zp1)), (3, .int (nI ((I 19 0 ^ I 19 0)))), (4, .int (rN (be)))]) hx hb dX10_soonest_133 hl (k := 6) rfl (ii1_N _) (by decide) rfl (fun ls hl => ?_)
                          refine lv_goto (tgt := 49) hx hb dX10_soonest_136 (by decide) ?_
                          exact ih49 (be) (o + 1) (by omega) (by omega) (by rw [hpb]; exact hbe) (by omega) ls _ _ (lv_sub hl [2, 3, 4, 5, 6, 0] rfl) (by have hw : (upA (upA I (20) (ordA (I 20) (I 19 0) (o + 1))) (21) (bstA (I 21) (I 19 0) (soJ I h) (o))) = (upA (upA I (20) (ordA (I 20) (I 19 0) ((o + 1)))) (21) (bstA (I 21) (I 19 0) (soJ I h) ((o + 1)))) := (by rw [bstA_s hpb]); rw [hw] at hP; exact hP) (by have hw : (upA (upA I (20) (ordA (I 20) (I 19 0) (o + 1))) (21) (bstA (I 21) (I 19 0) (soJ I h) (o))) = (upA (upA I (20) (ordA (I 20) (I 19 0) ((o + 1)))) (21) (bstA (I 21) (I 19 0) (soJ I h) ((o + 1)))) := (by rw [bstA_s hpb]); rw [hw] at hD; exact hD) hS
                        · refine lv_iload hx hb dX10_soonest_97 (lv_at hl 0 rfl) ?_
                          refine lv_istore (lv' := [(4, .int (rN (enJ I (ioJ (I 19 0) o) h))), (6, .int (rN (enJ I (ioJ (I 19 0) o) h))), (0, .ref (a 0)), (1, .int (nI (h))), (2, .int (zp1)), (3, .int (nI ((I 19 0 ^ I 19 0)))), (5, .int (nI (o)))]) hx hb dX10_soonest_99 hl (by decide) rfl (fun ls hl => ?_)
                          refine lv_iconst (v := nI (0)) hx hb dX10_soonest_101 (by decide) ?_
                          refine lv_istore (lv' := [(7, .int (nI (0))), (4, .int (rN (enJ I (ioJ (I 19 0) o) h))), (6, .int (rN (enJ I (ioJ (I 19 0) o) h))), (0, .ref (a 0)), (1, .int (nI (h))), (2, .int (zp1)), (3, .int (nI ((I 19 0 ^ I 19 0)))), (5, .int (nI (o)))]) hx hb dX10_soonest_102 hl (by decide) rfl (fun ls hl => ?_)
                          have loop104 : ∀ (fu104 : Nat) (i : Nat), I 19 0 - i < fu104 → (i ≤ I 19 0) → ∀ (ls : Array Slot) (H : Heap) (locs : List Loc), lv_has ls 8 [(0, .ref (a 0)), (1, .int (nI (h))), (2, .int (zp1)), (3, .int (nI ((I 19 0 ^ I 19 0)))), (4, .int (rN (enJ I (ioJ (I 19 0) o) h))), (5, .int (nI (o))), (7, .int (nI (i)))] → va_P E.1 vwCl (WM E a (upA (upA I (20) (ordA (I 20) (I 19 0) (o + 1))) (21) (flF (bstA (I 21) (I 19 0) (soJ I h) (o)) (ordA (I 20) (I 19 0) (o + 1)) (i))) tr) H → va_D A (WM E a (upA (upA I (20) (ordA (I 20) (I 19 0) (o + 1))) (21) (flF (bstA (I 21) (I 19 0) (soJ I h) (o)) (ordA (I 20) (I 19 0) (o + 1)) (i))) tr) → va_S A s.heap H locs → W p l e (rmL 4) s m args below meth c H locs 0 0 (RQ E below args s A (some (.int (r_soonest (I 2 0) (seJ I) (sxJ I) (I 19 0) (nI h) zp1))) (WM E a (sooJ I (nI h) zp1) tr)) (F0 m 104 ls []) := by
                            intro fu104
                            induction fu104 with
                            | zero => intro i h; exact absurd h (Nat.not_lt_zero _)
                            | succ fu104 ih104 =>
                              intro i hfu104 hi ls H locs hl hP hD hS
                              refine lv_iload hx hb dX10_soonest_104 (lv_at hl 6 rfl) ?_
                              refine lv_aload_n hx hb dX10_soonest_106 rfl (lv_at hl 0 rfl) ?_
                              refine gf_X10_116 hE hP (0) (gM_0 E a (upA (upA I (20) (ordA (I 20) (I 19 0) (o + 1))) (21) (flF (bstA (I 21) (I 19 0) (soJ I h) (o)) (ordA (I 20) (I 19 0) (o + 1)) (i))) tr) (v := .int (nI (I (19) (0)))) rfl dX10_soonest_107 ?_
                              refine bN_ge (tgt := 133) hx hb (by omega) (by omega) dX10_soonest_110 (by decide) (fun c110 => ?_) (fun c110 => ?_)
                              · have hpb : pb (soJ I h) (o + 1) = (o + 9, soJ I h o) := pb_t (by omega) (by exact Or.inr (by rw [← hbe, hso]; exact c94))
                                refine lv_iinc (v := nI (o + 1)) (lv' := [(5, .int (nI (o + 1))), (0, .ref (a 0)), (1, .int (nI (h))), (2, .int (zp1)), (3, .int (nI ((I 19 0 ^ I 19 0)))), (4, .int (rN (enJ I (ioJ (I 19 0) o) h))), (7, .int (nI (i)))]) hx hb dX10_soonest_133 hl (k := 5) rfl (ii1_N _) (by decide) rfl (fun ls hl => ?_)
                                refine lv_goto (tgt := 49) hx hb dX10_soonest_136 (by decide) ?_
                                exact ih49 (enJ I (ioJ (I 19 0) o) h) (o + 1) (by omega) (by omega) (by rw [hpb]; exact hso.symm) (by omega) ls _ _ (lv_sub hl [1, 2, 3, 4, 5, 0] rfl) (by have hw : (upA (upA I (20) (ordA (I 20) (I 19 0) (o + 1))) (21) (flF (bstA (I 21) (I 19 0) (soJ I h) (o)) (ordA (I 20) (I 19 0) (o + 1)) (i))) = (upA (upA I (20) (ordA (I 20) (I 19 0) ((o + 1)))) (21) (bstA (I 21) (I 19 0) (soJ I h) ((o + 1)))) := (by rw [show i = I 19 0 by omega, bstA_u hpb]); rw [hw] at hP; exact hP) (by have hw : (upA (upA I (20) (ordA (I 20) (I 19 0) (o + 1))) (21) (flF (bstA (I 21) (I 19 0) (soJ I h) (o)) (ordA (I 20) (I 19 0) (o + 1)) (i))) = (upA (upA I (20) (ordA (I 20) (I 19 0) ((o + 1)))) (21) (bstA (I 21) (I 19 0) (soJ I h) ((o + 1)))) := (by rw [show i = I 19 0 by omega, bstA_u hpb]); rw [hw] at hD; exact hD) hS
                              · refine lv_aload_n hx hb dX10_soonest_113 rfl (lv_at hl 0 rfl) ?_
                                refine gf_X10_51 hE hP (0) (gM_0 E a (upA (upA I (20) (ordA (I 20) (I 19 0) (o + 1))) (21) (flF (bstA (I 21) (I 19 0) (soJ I h) (o)) (ordA (I 20) (I 19 0) (o + 1)) (i))) tr) (v := .ref (a 14)) rfl dX10_soonest_114 ?_
                                refine lv_iload hx hb dX10_soonest_117 (lv_at hl 6 rfl) ?_
                                refine lv_aload_n hx hb dX10_soonest_119 rfl (lv_at hl 0 rfl) ?_
                                refine gf_X10_48 hE hP (0) (gM_0 E a (upA (upA I (20) (ordA (I 20) (I 19 0) (o + 1))) (21) (flF (bstA (I 21) (I 19 0) (soJ I h) (o)) (ordA (I 20) (I 19 0) (o + 1)) (i))) tr) (v := .ref (a 13)) rfl dX10_soonest_120 ?_
                                refine lv_iload hx hb dX10_soonest_123 (lv_at hl 6 rfl) ?_
                                refine ald_i hE hP (13) (gM_13 E a (upA (upA I (20) (ordA (I 20) (I 19 0) (o + 1))) (21) (flF (bstA (I 21) (I 19 0) (soJ I h) (o)) (ordA (I 20) (I 19 0) (o + 1)) (i))) tr) (by omega) (by decide) (r := nI ((ordA (I 20) (I 19 0) (o + 1)) (i))) rfl dX10_soonest_125 ?_
                                refine ast_i hE hP hD hS (14) (gM_14 E a (upA (upA I (20) (ordA (I 20) (I 19 0) (o + 1))) (21) (flF (bstA (I 21) (I 19 0) (soJ I h) (o)) (ordA (I 20) (I 19 0) (o + 1)) (i))) tr) (by omega) (by decide) (sM_14 E a (upA (upA I (20) (ordA (I 20) (I 19 0) (o + 1))) (21) (flF (bstA (I 21) (I 19 0) (soJ I h) (o)) (ordA (I 20) (I 19 0) (o + 1)) (i))) tr (i) ((ordA (I 20) (I 19 0) (o + 1)) (i))) dX10_soonest_126 (fun H locs hP hD hS => ?_)
                                refine lv_iinc (v := nI (i + 1)) (lv' := [(7, .int (nI (i + 1))), (0, .ref (a 0)), (1, .int (nI (h))), (2, .int (zp1)), (3, .int (nI ((I 19 0 ^ I 19 0)))), (4, .int (rN (enJ I (ioJ (I 19 0) o) h))), (5, .int (nI (o)))]) hx hb dX10_soonest_127 hl (k := 6) rfl (ii1_N _) (by decide) rfl (fun ls hl => ?_)
                                refine lv_goto (tgt := 104) hx hb dX10_soonest_130 (by decide) ?_
                                exact ih104 (i + 1) (by omega) (by omega) ls _ _ (lv_sub hl [1, 2, 3, 4, 5, 6, 0] rfl) (by have hw : (up2 (upA (upA I (20) (ordA (I 20) (I 19 0) (o + 1))) (21) (flF (bstA (I 21) (I 19 0) (soJ I h) (o)) (ordA (I 20) (I 19 0) (o + 1)) (i))) (21) (i) ((ordA (I 20) (I 19 0) (o + 1)) (i))) = (upA (upA I (20) (ordA (I 20) (I 19 0) (o + 1))) (21) (flF (bstA (I 21) (I 19 0) (soJ I h) (o)) (ordA (I 20) (I 19 0) (o + 1)) ((i + 1)))) := (by rw [up2_upA]; exact congrArg (upA (upA I 20 _) 21) (flF_s _ _ _)); rw [hw] at hP; exact hP) (by have hw : (up2 (upA (upA I (20) (ordA (I 20) (I 19 0) (o + 1))) (21) (flF (bstA (I 21) (I 19 0) (soJ I h) (o)) (ordA (I 20) (I 19 0) (o + 1)) (i))) (21) (i) ((ordA (I 20) (I 19 0) (o + 1)) (i))) = (upA (upA I (20) (ordA (I 20) (I 19 0) (o + 1))) (21) (flF (bstA (I 21) (I 19 0) (soJ I h) (o)) (ordA (I 20) (I 19 0) (o + 1)) ((i + 1)))) := (by rw [up2_upA]; exact congrArg (upA (upA I 20 _) 21) (flF_s _ _ _)); rw [hw] at hD; exact hD) hS
                          exact loop104 (_ + 1) (0) (Nat.lt_succ_self _) (by omega) ls _ _ (lv_sub hl [3, 4, 5, 6, 1, 7, 0] rfl) (by have hw : (upA (upA I (20) (ordA (I 20) (I 19 0) (o + 1))) (21) (bstA (I 21) (I 19 0) (soJ I h) (o))) = (upA (upA I (20) (ordA (I 20) (I 19 0) (o + 1))) (21) (flF (bstA (I 21) (I 19 0) (soJ I h) (o)) (ordA (I 20) (I 19 0) (o + 1)) ((0)))) := (by rw [flF_0]); rw [hw] at hP; exact hP) (by have hw : (upA (upA I (20) (ordA (I 20) (I 19 0) (o + 1))) (21) (bstA (I 21) (I 19 0) (soJ I h) (o))) = (upA (upA I (20) (ordA (I 20) (I 19 0) (o + 1))) (21) (flF (bstA (I 21) (I 19 0) (soJ I h) (o)) (ordA (I 20) (I 19 0) (o + 1)) ((0)))) := (by rw [flF_0]); rw [hw] at hD; exact hD) hS
            exact loop49 (_ + 1) (0) (0) (Nat.lt_succ_self _) (by omega) rfl (by omega) ls _ _ (lv_sub hl [2, 3, 4, 5, 1, 0] rfl) (by have hw : I = (upA (upA I (20) (ordA (I 20) (I 19 0) ((0)))) (21) (bstA (I 21) (I 19 0) (soJ I h) ((0)))) := (by unfold ordA bstA; rw [if_pos rfl, if_pos (show (pb (soJ I h) 0).1 = 0 from rfl), upA_self, upA_self]); rw [hw] at hP; exact hP) (by have hw : I = (upA (upA I (20) (ordA (I 20) (I 19 0) ((0)))) (21) (bstA (I 21) (I 19 0) (soJ I h) ((0)))) := (by unfold ordA bstA; rw [if_pos rfl, if_pos (show (pb (soJ I h) 0).1 = 0 from rfl), upA_self, upA_self]); rw [hw] at hD; exact hD) hS
          · refine lv_iload_n hx hb dX10_soonest_29 rfl (lv_at hl 3 rfl) ?_
            refine lv_aload_n hx hb dX10_soonest_30 rfl (lv_at hl 0 rfl) ?_
            refine gf_X10_116 hE hP (0) (gM_0 E a I tr) (v := .int (nI (I (19) (0)))) rfl dX10_soonest_31 ?_
            refine lv_imul hx hb dX10_soonest_34 ?_
            refine tp (pk_mul _ _) ?_
            refine lv_istore_n (lv' := [(3, .int (nI ((w) * (I (19) (0))))), (0, .ref (a 0)), (1, .int (nI (h))), (2, .int (zp1)), (4, .int (nI (i)))]) hx hb dX10_soonest_35 rfl hl (by decide) rfl (fun ls hl => ?_)
            refine lv_iinc (v := nI (i + 1)) (lv' := [(4, .int (nI (i + 1))), (3, .int (nI ((w) * (I (19) (0))))), (0, .ref (a 0)), (1, .int (nI (h))), (2, .int (zp1))]) hx hb dX10_soonest_36 hl (k := 4) rfl (ii1_N _) (by decide) rfl (fun ls hl => ?_)
            refine lv_goto (tgt := 20) hx hb dX10_soonest_39 (by decide) ?_
            exact ih20 ((w) * (I (19) (0))) (i + 1) (by omega) (by omega) (by rw [hw, Nat.pow_succ]) (by rw [hw, ← Nat.pow_succ]; exact cc4 _ hc4 _ (by omega)) ls _ _ (lv_sub hl [2, 3, 4, 1, 0] rfl) hP hD hS
      exact loop20 (_ + 1) (1) (0) (Nat.lt_succ_self _) (by omega) rfl (by omega) ls _ _ (lv_sub hl [2, 3, 4, 1, 0] rfl) hP hD hS
    · refine lv_iconst (v := (-1)) hx hb dX10_soonest_13 (by decide) ?_
      have hw : I = (sooJ I (nI h) zp1) := by first | (simp only [sooJ, c5, cond_false]; done) | (simp only [sooJ, c5, cond_true]; rw [if_pos (Int32.not_le.mp c10)]; done)
      have hP := Eq.mp (congrArg (fun q => va_P E.1 vwCl (WM E a q tr) H) hw) hP
      have hD := Eq.mp (congrArg (fun q => va_D A (WM E a q tr)) hw) hD
      exact ret_i hE (r := (-1)) (by first | (simp only [r_soonest, c5, cond_false]; done) | (simp only [r_soonest, c5, kh, cond_true]; rw [if_pos (Int32.not_le.mp c10)]; done)) hP hD hS dX10_soonest_14
