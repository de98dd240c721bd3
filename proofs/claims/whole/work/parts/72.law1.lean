/-! THE LAW: its cases -/
/-- case 0: type -/
theorem lc_0 {l : Launch} {p : Program} {e : Env} {s : State} {m : MethodId} {below : List Frame} {meth : Method} {c : Code} {E : cE} {b L : Nat} {xs : Nat → Int32} {Q : State → Prop} {cells slots i : Nat} (hE : cEnv p s m #[Value.ref b] meth c E RL cL_law 4 (some .boolean) (lwA s)) (hX : va_X b L xs s s.heap) (hbl : b < s.heap.size) (hL : L ≤ 2560) (hcs : cells ≤ room_1.cells ∧ slots ≤ room_1.slots)
    (kk : ∀ (a a' : Nat → Nat) (I J : Nat → Nat → Nat) (tr : Int64) (H : Heap) (locs : List Loc) (ls : Array Slot), Rel I J → lv_has ls 4 [(3, .int (nI i)), (2, .ref (a' 0)), (1, .ref (a 0)), (0, .ref b)] → va_P E.1 vwCl (WC E a I tr ++ WM E a' J tr) H → va_D (lwA s) (WC E a I tr ++ WM E a' J tr) → va_S (lwA s) s.heap H locs → W p l e room_1 s m #[Value.ref b] below meth c H locs cells slots Q (F0 m 1005 ls []))
    {a a' : Nat → Nat} {I J : Nat → Nat → Nat} {tr : Int64} {H : Heap} {locs : List Loc} {ls : Array Slot} (hi : i + 5 ≤ L) (hR : Rel I J) (hl : lv_has ls 4 [(3, .int (nI i)), (2, .ref (a' 0)), (1, .ref (a 0)), (0, .ref b)]) (hP : va_P E.1 vwCl (WC E a I tr ++ WM E a' J tr) H) (hD : va_D (lwA s) (WC E a I tr ++ WM E a' J tr)) (hS : va_S (lwA s) s.heap H locs) : W p l e room_1 s m #[Value.ref b] below meth c H locs cells slots Q (F0 m 160 ls []) := by
  have hx := hE.1
  have hb := hE.2.1
  have hbA : ¬ lwA s b := Nat.not_le.mpr hbl
  refine lv_aload_n hx hb dL_law_160 rfl (lv_at hl 2 rfl) ?_
  refine lv_aload_n hx hb dL_law_161 rfl (lv_at hl 3 rfl) ?_
  refine lv_iload_n hx hb dL_law_162 rfl (lv_at hl 0 rfl) ?_
  refine lv_iconst (v := nI 1) hx hb dL_law_163 (by decide) ?_
  refine lv_iadd hx hb dL_law_164 ?_
  refine lw_ld hE hX hbl hbA hS (i := i + 1) (nI_add i 1) (by omega) hL dL_law_165 ?_
  refine lv_i2l (v := (xs (i + 1)).toInt64) hx hb dL_law_166 rfl ?_
  refine lv_bipush (v := nI 32) hx hb dL_law_167 (by decide) ?_
  refine lv_lshl (v := ((xs (i + 1)).toInt64) <<< ((nI 32).toInt64 &&& 63)) hx hb dL_law_169 rfl ?_
  refine lv_aload_n hx hb dL_law_170 rfl (lv_at hl 3 rfl) ?_
  refine lv_iload_n hx hb dL_law_171 rfl (lv_at hl 0 rfl) ?_
  refine lv_iconst (v := nI 2) hx hb dL_law_172 (by decide) ?_
  refine lv_iadd hx hb dL_law_173 ?_
  refine lw_ld hE hX hbl hbA hS (i := i + 2) (nI_add i 2) (by omega) hL dL_law_174 ?_
  refine lv_i2l (v := (xs (i + 2)).toInt64) hx hb dL_law_175 rfl ?_
  refine lv_ldc2 (v := 4294967295) hx hb hE.2.2.2.2.1 (hE.2.2.2.1 _ (uw mt_K_L_13 rfl)) dL_law_176 ?_
  refine lv_land hx hb dL_law_179 ?_
  refine lv_lor hx hb dL_law_180 ?_
  refine lv_aload_n hx hb dL_law_181 rfl (lv_at hl 3 rfl) ?_
  refine lv_iload_n hx hb dL_law_182 rfl (lv_at hl 0 rfl) ?_
  refine lv_iconst (v := nI 3) hx hb dL_law_183 (by decide) ?_
  refine lv_iadd hx hb dL_law_184 ?_
  refine lw_ld hE hX hbl hbA hS (i := i + 3) (nI_add i 3) (by omega) hL dL_law_185 ?_
  refine lw_C (R := room_1) (As := [.long ((((xs (i + 1)).toInt64) <<< ((nI 32).toInt64 &&& 63)) ||| (((xs (i + 2)).toInt64) &&& (4294967295))), .int (xs (i + 3))]) (rest := []) hE (ct_X9_type l E a I tr ((((xs (i + 1)).toInt64) <<< ((nI 32).toInt64 &&& 63)) ||| (((xs (i + 2)).toInt64) &&& (4294967295))) (xs (i + 3)) ((rl_TK hR).1)) cm_X9_type (uw mt_L_L_15 rfl) (gC_0 E a I tr) rfl rfl hP hD hS hl.1 rfl rfl (Nat.le_of_ble_eq_true rfl) ⟨Nat.le_of_ble_eq_true rfl, Nat.le_of_ble_eq_true rfl⟩ hcs dL_law_186 (fun H locs hP hD hS => ?_)
  refine W.eq (g2 := F0 m 189 ls [.int ((r_type (I 1 0) (xs (i + 3))))]) rfl ?_
  refine lv_aload_n hx hb dL_law_189 rfl (lv_at hl 1 rfl) ?_
  refine lv_aload_n hx hb dL_law_190 rfl (lv_at hl 3 rfl) ?_
  refine lv_iload_n hx hb dL_law_191 rfl (lv_at hl 0 rfl) ?_
  refine lv_iconst (v := nI 1) hx hb dL_law_192 (by decide) ?_
  refine lv_iadd hx hb dL_law_193 ?_
  refine lw_ld hE hX hbl hbA hS (i := i + 1) (nI_add i 1) (by omega) hL dL_law_194 ?_
  refine lv_i2l (v := (xs (i + 1)).toInt64) hx hb dL_law_195 rfl ?_
  refine lv_bipush (v := nI 32) hx hb dL_law_196 (by decide) ?_
  refine lv_lshl (v := ((xs (i + 1)).toInt64) <<< ((nI 32).toInt64 &&& 63)) hx hb dL_law_198 rfl ?_
  refine lv_aload_n hx hb dL_law_199 rfl (lv_at hl 3 rfl) ?_
  refine lv_iload_n hx hb dL_law_200 rfl (lv_at hl 0 rfl) ?_
  refine lv_iconst (v := nI 2) hx hb dL_law_201 (by decide) ?_
  refine lv_iadd hx hb dL_law_202 ?_
  refine lw_ld hE hX hbl hbA hS (i := i + 2) (nI_add i 2) (by omega) hL dL_law_203 ?_
  refine lv_i2l (v := (xs (i + 2)).toInt64) hx hb dL_law_204 rfl ?_
  refine lv_ldc2 (v := 4294967295) hx hb hE.2.2.2.2.1 (hE.2.2.2.1 _ (uw mt_K_L_13 rfl)) dL_law_205 ?_
  refine lv_land hx hb dL_law_208 ?_
  refine lv_lor hx hb dL_law_209 ?_
  refine lv_aload_n hx hb dL_law_210 rfl (lv_at hl 3 rfl) ?_
  refine lv_iload_n hx hb dL_law_211 rfl (lv_at hl 0 rfl) ?_
  refine lv_iconst (v := nI 3) hx hb dL_law_212 (by decide) ?_
  refine lv_iadd hx hb dL_law_213 ?_
  refine lw_ld hE hX hbl hbA hS (i := i + 3) (nI_add i 3) (by omega) hL dL_law_214 ?_
  refine lw_M (R := room_1) (As := [.long ((((xs (i + 1)).toInt64) <<< ((nI 32).toInt64 &&& 63)) ||| (((xs (i + 2)).toInt64) &&& (4294967295))), .int (xs (i + 3))]) (rest := [.int ((r_type (I 1 0) (xs (i + 3))))]) hE (ct_X10_type l E a' J tr ((((xs (i + 1)).toInt64) <<< ((nI 32).toInt64 &&& 63)) ||| (((xs (i + 2)).toInt64) &&& (4294967295))) (xs (i + 3)) ((rl_TKJ hR).1)) cm_X10_type (uw mt_L_L_19 rfl) (gM_0 E a' J tr) rfl rfl hP hD hS hl.1 rfl rfl (Nat.le_of_ble_eq_true rfl) ⟨Nat.le_of_ble_eq_true rfl, Nat.le_of_ble_eq_true rfl⟩ hcs dL_law_215 (fun H locs hP hD hS => ?_)
  refine W.eq (g2 := F0 m 218 ls [.int ((r_type (J 1 0) (xs (i + 3)))), .int ((r_type (I 1 0) (xs (i + 3))))]) rfl ?_
  refine lv_icmp_eq (tgt := 1005) hx hb dL_law_218 (by decide) (fun _ => ?_) (fun z => absurd (an_type hR (xs (i + 3))) z)
  exact kk a a' _ _ _ H locs ls (kp_type hR ((((xs (i + 1)).toInt64) <<< ((nI 32).toInt64 &&& 63)) ||| (((xs (i + 2)).toInt64) &&& (4294967295))) (xs (i + 3))) hl hP hD hS
/-- case 1: clear -/
theorem lc_1 {l : Launch} {p : Program} {e : Env} {s : State} {m : MethodId} {below : List Frame} {meth : Method} {c : Code} {E : cE} {b L : Nat} {xs : Nat → Int32} {Q : State → Prop} {cells slots i : Nat} (hE : cEnv p s m #[Value.ref b] meth c E RL cL_law 4 (some .boolean) (lwA s)) (hX : va_X b L xs s s.heap) (hbl : b < s.heap.size) (hL : L ≤ 2560) (hcs : cells ≤ room_1.cells ∧ slots ≤ room_1.slots)
    (kk : ∀ (a a' : Nat → Nat) (I J : Nat → Nat → Nat) (tr : Int64) (H : Heap) (locs : List Loc) (ls : Array Slot), Rel I J → lv_has ls 4 [(3, .int (nI i)), (2, .ref (a' 0)), (1, .ref (a 0)), (0, .ref b)] → va_P E.1 vwCl (WC E a I tr ++ WM E a' J tr) H → va_D (lwA s) (WC E a I tr ++ WM E a' J tr) → va_S (lwA s) s.heap H locs → W p l e room_1 s m #[Value.ref b] below meth c H locs cells slots Q (F0 m 1005 ls []))
    {a a' : Nat → Nat} {I J : Nat → Nat → Nat} {tr : Int64} {H : Heap} {locs : List Loc} {ls : Array Slot} (hi : i + 5 ≤ L) (hR : Rel I J) (hl : lv_has ls 4 [(3, .int (nI i)), (2, .ref (a' 0)), (1, .ref (a 0)), (0, .ref b)]) (hP : va_P E.1 vwCl (WC E a I tr ++ WM E a' J tr) H) (hD : va_D (lwA s) (WC E a I tr ++ WM E a' J tr)) (hS : va_S (lwA s) s.heap H locs) : W p l e room_1 s m #[Value.ref b] below meth c H locs cells slots Q (F0 m 223 ls []) := by
  have hx := hE.1
  have hb := hE.2.1
  have hbA : ¬ lwA s b := Nat.not_le.mpr hbl
  refine lv_aload_n hx hb dL_law_223 rfl (lv_at hl 2 rfl) ?_
  refine lw_C (R := room_1) (As := []) (rest := []) hE (ct_X9_clear l E a I tr  ((rl_TK hR).1)) cm_X9_clear (uw mt_L_L_20 rfl) (gC_0 E a I tr) rfl rfl hP hD hS hl.1 rfl rfl (Nat.le_of_ble_eq_true rfl) ⟨Nat.le_of_ble_eq_true rfl, Nat.le_of_ble_eq_true rfl⟩ hcs dL_law_224 (fun H locs hP hD hS => ?_)
  refine W.eq (g2 := F0 m 227 ls [.int ((nI (I 1 0)))]) rfl ?_
  refine lv_aload_n hx hb dL_law_227 rfl (lv_at hl 1 rfl) ?_
  refine lw_M (R := room_1) (As := []) (rest := [.int ((nI (I 1 0)))]) hE (ct_X10_clear l E a' J tr  ((rl_TKJ hR).1)) cm_X10_clear (uw mt_L_L_24 rfl) (gM_0 E a' J tr) rfl rfl hP hD hS hl.1 rfl rfl (Nat.le_of_ble_eq_true rfl) ⟨Nat.le_of_ble_eq_true rfl, Nat.le_of_ble_eq_true rfl⟩ hcs dL_law_228 (fun H locs hP hD hS => ?_)
  refine W.eq (g2 := F0 m 231 ls [.int ((nI (J 1 0))), .int ((nI (I 1 0)))]) rfl ?_
  refine lv_icmp_eq (tgt := 1005) hx hb dL_law_231 (by decide) (fun _ => ?_) (fun z => absurd (congrArg nI hR.tx.1) z)
  exact kk a a' _ _ _ H locs ls (kp_clear hR) hl hP hD hS
/-- case 2: town -/
theorem lc_2 {l : Launch} {p : Program} {e : Env} {s : State} {m : MethodId} {below : List Frame} {meth : Method} {c : Code} {E : cE} {b L : Nat} {xs : Nat → Int32} {Q : State → Prop} {cells slots i : Nat} (hE : cEnv p s m #[Value.ref b] meth c E RL cL_law 4 (some .boolean) (lwA s)) (hX : va_X b L xs s s.heap) (hbl : b < s.heap.size) (hL : L ≤ 2560) (hcs : cells ≤ room_1.cells ∧ slots ≤ room_1.slots)
    (kk : ∀ (a a' : Nat → Nat) (I J : Nat → Nat → Nat) (tr : Int64) (H : Heap) (locs : List Loc) (ls : Array Slot), Rel I J → lv_has ls 4 [(3, .int (nI i)), (2, .ref (a' 0)), (1, .ref (a 0)), (0, .ref b)] → va_P E.1 vwCl (WC E a I tr ++ WM E a' J tr) H → va_D (lwA s) (WC E a I tr ++ WM E a' J tr) → va_S (lwA s) s.heap H locs → W p l e room_1 s m #[Value.ref b] below meth c H locs cells slots Q (F0 m 1005 ls []))
    {a a' : Nat → Nat} {I J : Nat → Nat → Nat} {tr : Int64} {H : Heap} {locs : List Loc} {ls : Array Slot} (hi : i + 5 ≤ L) (hR : Rel I J) (hl : lv_has ls 4 [(3, .int (nI i)), (2, .ref (a' 0)), (1, .ref (a 0)), (0, .ref b)]) (hP : va_P E.1 vwCl (WC E a I tr ++ WM E a' J tr) H) (hD : va_D (lwA s) (WC E a I tr ++ WM E a' J tr)) (hS : va_S (lwA s) s.heap H locs) : W p l e room_1 s m #[Value.ref b] below meth c H locs cells slots Q (F0 m 236 ls []) := by
  have hx := hE.1
  have hb := hE.2.1
  have hbA : ¬ lwA s b := Nat.not_le.mpr hbl
  refine lv_aload_n hx hb dL_law_236 rfl (lv_at hl 2 rfl) ?_
  refine lw_C (R := room_1) (As := []) (rest := []) hE (ct_X9_town l E a I tr  (rl_TK hR) (hR.rd.1) (hR.rd.2.1) (hR.rd.2.2.1) (rl_DKs hR)) cm_X9_town (uw mt_L_L_25 rfl) (gC_0 E a I tr) rfl rfl hP hD hS hl.1 rfl rfl (Nat.le_of_ble_eq_true rfl) ⟨Nat.le_of_ble_eq_true rfl, Nat.le_of_ble_eq_true rfl⟩ hcs dL_law_237 (fun H locs hP hD hS => ?_)
  refine W.eq (g2 := F0 m 240 ls [.int ((raI I).1)]) rfl ?_
  refine lv_aload_n hx hb dL_law_240 rfl (lv_at hl 1 rfl) ?_
  refine lw_M (R := room_1) (As := []) (rest := [.int ((raI I).1)]) hE (ct_X10_town l E a' J tr  (rl_TKJ hR) (hR.mr.2.2.1) (hR.mr.2.2.2.1) (hR.mr.2.2.2.2) (hR.mr.1)) cm_X10_town (uw mt_L_L_28 rfl) (gM_0 E a' J tr) rfl rfl hP hD hS hl.1 rfl rfl (Nat.le_of_ble_eq_true rfl) ⟨Nat.le_of_ble_eq_true rfl, Nat.le_of_ble_eq_true rfl⟩ hcs dL_law_241 (fun H locs hP hD hS => ?_)
  refine W.eq (g2 := F0 m 244 ls [.int ((r_town J)), .int ((raI I).1)]) rfl ?_
  have kt := kp_town hR
  refine lv_icmp_eq (tgt := 1005) hx hb dL_law_244 (by decide) (fun _ => ?_) (fun z => absurd kt.1 z)
  by_cases z : (raI I).1 < 0
  · rw [if_pos z] at hP hD
    exact kk a a' _ _ tr H locs ls (kt.2.1 z) hl hP hD hS
  · rw [if_neg z] at hP hD
    exact kk (sgA a) a' _ _ tr H locs ls (kt.2.2 z) hl hP hD hS
/-- case 3: house -/
theorem lc_3 {l : Launch} {p : Program} {e : Env} {s : State} {m : MethodId} {below : List Frame} {meth : Method} {c : Code} {E : cE} {b L : Nat} {xs : Nat → Int32} {Q : State → Prop} {cells slots i : Nat} (hE : cEnv p s m #[Value.ref b] meth c E RL cL_law 4 (some .boolean) (lwA s)) (hX : va_X b L xs s s.heap) (hbl : b < s.heap.size) (hL : L ≤ 2560) (hcs : cells ≤ room_1.cells ∧ slots ≤ room_1.slots)
    (kk : ∀ (a a' : Nat → Nat) (I J : Nat → Nat → Nat) (tr : Int64) (H : Heap) (locs : List Loc) (ls : Array Slot), Rel I J → lv_has ls 4 [(3, .int (nI i)), (2, .ref (a' 0)), (1, .ref (a 0)), (0, .ref b)] → va_P E.1 vwCl (WC E a I tr ++ WM E a' J tr) H → va_D (lwA s) (WC E a I tr ++ WM E a' J tr) → va_S (lwA s) s.heap H locs → W p l e room_1 s m #[Value.ref b] below meth c H locs cells slots Q (F0 m 1005 ls []))
    {a a' : Nat → Nat} {I J : Nat → Nat → Nat} {tr : Int64} {H : Heap} {locs : List Loc} {ls : Array Slot} (hi : i + 5 ≤ L) (hR : Rel I J) (hl : lv_has ls 4 [(3, .int (nI i)), (2, .ref (a' 0)), (1, .ref (a 0)), (0, .ref b)]) (hP : va_P E.1 vwCl (WC E a I tr ++ WM E a' J tr) H) (hD : va_D (lwA s) (WC E a I tr ++ WM E a' J tr)) (hS : va_S (lwA s) s.heap H locs) : W p l e room_1 s m #[Value.ref b] below meth c H locs cells slots Q (F0 m 249 ls []) := by
  have hx := hE.1
  have hb := hE.2.1
  have hbA : ¬ lwA s b := Nat.not_le.mpr hbl
  refine lv_aload_n hx hb dL_law_249 rfl (lv_at hl 2 rfl) ?_
  refine lv_aload_n hx hb dL_law_250 rfl (lv_at hl 3 rfl) ?_
  refine lv_iload_n hx hb dL_law_251 rfl (lv_at hl 0 rfl) ?_
  refine lv_iconst (v := nI 1) hx hb dL_law_252 (by decide) ?_
  refine lv_iadd hx hb dL_law_253 ?_
  refine lw_ld hE hX hbl hbA hS (i := i + 1) (nI_add i 1) (by omega) hL dL_law_254 ?_
  refine lv_aload_n hx hb dL_law_255 rfl (lv_at hl 3 rfl) ?_
  refine lv_iload_n hx hb dL_law_256 rfl (lv_at hl 0 rfl) ?_
  refine lv_iconst (v := nI 2) hx hb dL_law_257 (by decide) ?_
  refine lv_iadd hx hb dL_law_258 ?_
  refine lw_ld hE hX hbl hbA hS (i := i + 2) (nI_add i 2) (by omega) hL dL_law_259 ?_
  refine lw_C (R := room_1) (As := [.int (xs (i + 1)), .int (xs (i + 2))]) (rest := []) hE (ct_X9_house l E a I tr (xs (i + 1)) (xs (i + 2)) (rl_CK hR)) cm_X9_house (uw mt_L_L_29 rfl) (gC_0 E a I tr) rfl rfl hP hD hS hl.1 rfl rfl (Nat.le_of_ble_eq_true rfl) ⟨Nat.le_of_ble_eq_true rfl, Nat.le_of_ble_eq_true rfl⟩ hcs dL_law_260 (fun H locs hP hD hS => ?_)
  refine W.eq (g2 := F0 m 263 ls [.int ((r_house (I 13 0) (I 15) (I 16) (I 17) (I 18) (I 7) (xs (i + 1)) (xs (i + 2))))]) rfl ?_
  refine lv_aload_n hx hb dL_law_263 rfl (lv_at hl 1 rfl) ?_
  refine lv_aload_n hx hb dL_law_264 rfl (lv_at hl 3 rfl) ?_
  refine lv_iload_n hx hb dL_law_265 rfl (lv_at hl 0 rfl) ?_
  refine lv_iconst (v := nI 1) hx hb dL_law_266 (by decide) ?_
  refine lv_iadd hx hb dL_law_267 ?_
  refine lw_ld hE hX hbl hbA hS (i := i + 1) (nI_add i 1) (by omega) hL dL_law_268 ?_
  refine lv_aload_n hx hb dL_law_269 rfl (lv_at hl 3 rfl) ?_
  refine lv_iload_n hx hb dL_law_270 rfl (lv_at hl 0 rfl) ?_
  refine lv_iconst (v := nI 2) hx hb dL_law_271 (by decide) ?_
  refine lv_iadd hx hb dL_law_272 ?_
  refine lw_ld hE hX hbl hbA hS (i := i + 2) (nI_add i 2) (by omega) hL dL_law_273 ?_
  refine lw_M (R := room_1) (As := [.int (xs (i + 1)), .int (xs (i + 2))]) (rest := [.int ((r_house (I 13 0) (I 15) (I 16) (I 17) (I 18) (I 7) (xs (i + 1)) (xs (i + 2))))]) hE (ct_X10_house l E a' J tr (xs (i + 1)) (xs (i + 2)) (rl_KM hR)) cm_X10_house (uw mt_L_L_33 rfl) (gM_0 E a' J tr) rfl rfl hP hD hS hl.1 rfl rfl (Nat.le_of_ble_eq_true rfl) ⟨Nat.le_of_ble_eq_true rfl, Nat.le_of_ble_eq_true rfl⟩ hcs dL_law_274 (fun H locs hP hD hS => ?_)
  refine W.eq (g2 := F0 m 277 ls [.int ((r_house (J 2 0) (J 4) (J 5) (J 6) (J 7) (fun h => J 16 (1 + h)) (xs (i + 1)) (xs (i + 2)))), .int ((r_house (I 13 0) (I 15) (I 16) (I 17) (I 18) (I 7) (xs (i + 1)) (xs (i + 2))))]) rfl ?_
  refine lv_icmp_eq (tgt := 1005) hx hb dL_law_277 (by decide) (fun _ => ?_) (fun z => absurd (an_house hR (xs (i + 1)) (xs (i + 2))) z)
  exact kk a a' _ _ _ H locs ls (hR) hl hP hD hS
/-- case 4: shows -/
theorem lc_4 {l : Launch} {p : Program} {e : Env} {s : State} {m : MethodId} {below : List Frame} {meth : Method} {c : Code} {E : cE} {b L : Nat} {xs : Nat → Int32} {Q : State → Prop} {cells slots i : Nat} (hE : cEnv p s m #[Value.ref b] meth c E RL cL_law 4 (some .boolean) (lwA s)) (hX : va_X b L xs s s.heap) (hbl : b < s.heap.size) (hL : L ≤ 2560) (hcs : cells ≤ room_1.cells ∧ slots ≤ room_1.slots)
    (kk : ∀ (a a' : Nat → Nat) (I J : Nat → Nat → Nat) (tr : Int64) (H : Heap) (locs : List Loc) (ls : Array Slot), Rel I J → lv_has ls 4 [(3, .int (nI i)), (2, .ref (a' 0)), (1, .ref (a 0)), (0, .ref b)] → va_P E.1 vwCl (WC E a I tr ++ WM E a' J tr) H → va_D (lwA s) (WC E a I tr ++ WM E a' J tr) → va_S (lwA s) s.heap H locs → W p l e room_1 s m #[Value.ref b] below meth c H locs cells slots Q (F0 m 1005 ls []))
    {a a' : Nat → Nat} {I J : Nat → Nat → Nat} {tr : Int64} {H : Heap} {locs : List Loc} {ls : Array Slot} (hi : i + 5 ≤ L) (hR : Rel I J) (hl : lv_has ls 4 [(3, .int (nI i)), (2, .ref (a' 0)), (1, .ref (a 0)), (0, .ref b)]) (hP : va_P E.1 vwCl (WC E a I tr ++ WM E a' J tr) H) (hD : va_D (lwA s) (WC E a I tr ++ WM E a' J tr)) (hS : va_S (lwA s) s.heap H locs) : W p l e room_1 s m #[Value.ref b] below meth c H locs cells slots Q (F0 m 282 ls []) := by
  have hx := hE.1
  have hb := hE.2.1
  have hbA : ¬ lwA s b := Nat.not_le.mpr hbl
  refine lv_aload_n hx hb dL_law_282 rfl (lv_at hl 2 rfl) ?_
  refine lv_aload_n hx hb dL_law_283 rfl (lv_at hl 3 rfl) ?_
  refine lv_iload_n hx hb dL_law_284 rfl (lv_at hl 0 rfl) ?_
  refine lv_iconst (v := nI 1) hx hb dL_law_285 (by decide) ?_
  refine lv_iadd hx hb dL_law_286 ?_
  refine lw_ld hE hX hbl hbA hS (i := i + 1) (nI_add i 1) (by omega) hL dL_law_287 ?_
  refine lv_aload_n hx hb dL_law_288 rfl (lv_at hl 3 rfl) ?_
  refine lv_iload_n hx hb dL_law_289 rfl (lv_at hl 0 rfl) ?_
  refine lv_iconst (v := nI 2) hx hb dL_law_290 (by decide) ?_
  refine lv_iadd hx hb dL_law_291 ?_
  refine lw_ld hE hX hbl hbA hS (i := i + 2) (nI_add i 2) (by omega) hL dL_law_292 ?_
  refine lw_C (R := room_1) (As := [.int (xs (i + 1)), .int (xs (i + 2))]) (rest := []) hE (ct_X9_shows l E a I tr (xs (i + 1)) (xs (i + 2)) (rl_CK hR)) cm_X9_shows (uw mt_L_L_34 rfl) (gC_0 E a I tr) rfl rfl hP hD hS hl.1 rfl rfl (Nat.le_of_ble_eq_true rfl) ⟨Nat.le_of_ble_eq_true rfl, Nat.le_of_ble_eq_true rfl⟩ hcs dL_law_293 (fun H locs hP hD hS => ?_)
  refine W.eq (g2 := F0 m 296 ls [.int ((r_shows (I 13 0) (shC I) (xs (i + 1)) (xs (i + 2))))]) rfl ?_
  refine lv_aload_n hx hb dL_law_296 rfl (lv_at hl 1 rfl) ?_
  refine lv_aload_n hx hb dL_law_297 rfl (lv_at hl 3 rfl) ?_
  refine lv_iload_n hx hb dL_law_298 rfl (lv_at hl 0 rfl) ?_
  refine lv_iconst (v := nI 1) hx hb dL_law_299 (by decide) ?_
  refine lv_iadd hx hb dL_law_300 ?_
  refine lw_ld hE hX hbl hbA hS (i := i + 1) (nI_add i 1) (by omega) hL dL_law_301 ?_
  refine lv_aload_n hx hb dL_law_302 rfl (lv_at hl 3 rfl) ?_
  refine lv_iload_n hx hb dL_law_303 rfl (lv_at hl 0 rfl) ?_
  refine lv_iconst (v := nI 2) hx hb dL_law_304 (by decide) ?_
  refine lv_iadd hx hb dL_law_305 ?_
  refine lw_ld hE hX hbl hbA hS (i := i + 2) (nI_add i 2) (by omega) hL dL_law_306 ?_
  refine lw_M (R := room_1) (As := [.int (xs (i + 1)), .int (xs (i + 2))]) (rest := [.int ((r_shows (I 13 0) (shC I) (xs (i + 1)) (xs (i + 2))))]) hE (ct_X10_shows l E a' J tr (xs (i + 1)) (xs (i + 2)) (rl_KM hR)) cm_X10_shows (uw mt_L_L_37 rfl) (gM_0 E a' J tr) rfl rfl hP hD hS hl.1 rfl rfl (Nat.le_of_ble_eq_true rfl) ⟨Nat.le_of_ble_eq_true rfl, Nat.le_of_ble_eq_true rfl⟩ hcs dL_law_307 (fun H locs hP hD hS => ?_)
  refine W.eq (g2 := F0 m 310 ls [.int ((r_shows (J 2 0) (shM J) (xs (i + 1)) (xs (i + 2)))), .int ((r_shows (I 13 0) (shC I) (xs (i + 1)) (xs (i + 2))))]) rfl ?_
  refine lv_icmp_eq (tgt := 1005) hx hb dL_law_310 (by decide) (fun _ => ?_) (fun z => absurd (an_shows hR (xs (i + 1)) (xs (i + 2))) z)
  exact kk a a' _ _ _ H locs ls (hR) hl hP hD hS
/-- case 5: first -/
theorem lc_5 {l : Launch} {p : Program} {e : Env} {s : State} {m : MethodId} {below : List Frame} {meth : Method} {c : Code} {E : cE} {b L : Nat} {xs : Nat → Int32} {Q : State → Prop} {cells slots i : Nat} (hE : cEnv p s m #[Value.ref b] meth c E RL cL_law 4 (some .boolean) (lwA s)) (hX : va_X b L xs s s.heap) (hbl : b < s.heap.size) (hL : L ≤ 2560) (hcs : cells ≤ room_1.cells ∧ slots ≤ room_1.slots)
    (kk : ∀ (a a' : Nat → Nat) (I J : Nat → Nat → Nat) (tr : Int64) (H : Heap) (locs : List Loc) (ls : Array Slot), Rel I J → lv_has ls 4 [(3, .int (nI i)), (2, .ref (a' 0)), (1, .ref (a 0)), (0, .ref b)] → va_P E.1 vwCl (WC E a I tr ++ WM E a' J tr) H → va_D (lwA s) (WC E a I tr ++ WM E a' J tr) → va_S (lwA s) s.heap H locs → W p l e room_1 s m #[Value.ref b] below meth c H locs cells slots Q (F0 m 1005 ls []))
    {a a' : Nat → Nat} {I J : Nat → Nat → Nat} {tr : Int64} {H : Heap} {locs : List Loc} {ls : Array Slot} (hi : i + 5 ≤ L) (hR : Rel I J) (hl : lv_has ls 4 [(3, .int (nI i)), (2, .ref (a' 0)), (1, .ref (a 0)), (0, .ref b)]) (hP : va_P E.1 vwCl (WC E a I tr ++ WM E a' J tr) H) (hD : va_D (lwA s) (WC E a I tr ++ WM E a' J tr)) (hS : va_S (lwA s) s.heap H locs) : W p l e room_1 s m #[Value.ref b] below meth c H locs cells slots Q (F0 m 315 ls []) := by
  have hx := hE.1
  have hb := hE.2.1
  have hbA : ¬ lwA s b := Nat.not_le.mpr hbl
  refine lv_aload_n hx hb dL_law_315 rfl (lv_at hl 2 rfl) ?_
  refine lv_aload_n hx hb dL_law_316 rfl (lv_at hl 3 rfl) ?_
  refine lv_iload_n hx hb dL_law_317 rfl (lv_at hl 0 rfl) ?_
  refine lv_iconst (v := nI 1) hx hb dL_law_318 (by decide) ?_
  refine lv_iadd hx hb dL_law_319 ?_
  refine lw_ld hE hX hbl hbA hS (i := i + 1) (nI_add i 1) (by omega) hL dL_law_320 ?_
  refine lv_aload_n hx hb dL_law_321 rfl (lv_at hl 3 rfl) ?_
  refine lv_iload_n hx hb dL_law_322 rfl (lv_at hl 0 rfl) ?_
  refine lv_iconst (v := nI 2) hx hb dL_law_323 (by decide) ?_
  refine lv_iadd hx hb dL_law_324 ?_
  refine lw_ld hE hX hbl hbA hS (i := i + 2) (nI_add i 2) (by omega) hL dL_law_325 ?_
  refine lv_aload_n hx hb dL_law_326 rfl (lv_at hl 3 rfl) ?_
  refine lv_iload_n hx hb dL_law_327 rfl (lv_at hl 0 rfl) ?_
  refine lv_iconst (v := nI 3) hx hb dL_law_328 (by decide) ?_
  refine lv_iadd hx hb dL_law_329 ?_
  refine lw_ld hE hX hbl hbA hS (i := i + 3) (nI_add i 3) (by omega) hL dL_law_330 ?_
  refine lw_C (R := room_1) (As := [.int (xs (i + 1)), .int (xs (i + 2)), .int (xs (i + 3))]) (rest := []) hE (ct_X9_first l E a I tr (xs (i + 1)) (xs (i + 2)) (xs (i + 3)) (rl_CK hR)) cm_X9_first (uw mt_L_L_38 rfl) (gC_0 E a I tr) rfl rfl hP hD hS hl.1 rfl rfl (Nat.le_of_ble_eq_true rfl) ⟨Nat.le_of_ble_eq_true rfl, Nat.le_of_ble_eq_true rfl⟩ hcs dL_law_331 (fun H locs hP hD hS => ?_)
  refine W.eq (g2 := F0 m 334 ls [.int ((r_first (I 13 0) (shC I) (xs (i + 1)) (xs (i + 2)) (xs (i + 3))))]) rfl ?_
  refine lv_aload_n hx hb dL_law_334 rfl (lv_at hl 1 rfl) ?_
  refine lv_aload_n hx hb dL_law_335 rfl (lv_at hl 3 rfl) ?_
  refine lv_iload_n hx hb dL_law_336 rfl (lv_at hl 0 rfl) ?_
  refine lv_iconst (v := nI 1) hx hb dL_law_337 (by decide) ?_
  refine lv_iadd hx hb dL_law_338 ?_
  refine lw_ld hE hX hbl hbA hS (i := i + 1) (nI_add i 1) (by omega) hL dL_law_339 ?_
  refine lv_aload_n hx hb dL_law_340 rfl (lv_at hl 3 rfl) ?_
  refine lv_iload_n hx hb dL_law_341 rfl (lv_at hl 0 rfl) ?_
  refine lv_iconst (v := nI 2) hx hb dL_law_342 (by decide) ?_
  refine lv_iadd hx hb dL_law_343 ?_
  refine lw_ld hE hX hbl hbA hS (i := i + 2) (nI_add i 2) (by omega) hL dL_law_344 ?_
  refine lv_aload_n hx hb dL_law_345 rfl (lv_at hl 3 rfl) ?_
  refine lv_iload_n hx hb dL_law_346 rfl (lv_at hl 0 rfl) ?_
  refine lv_iconst (v := nI 3) hx hb dL_law_347 (by decide) ?_
  refine lv_iadd hx hb dL_law_348 ?_
  refine lw_ld hE hX hbl hbA hS (i := i + 3) (nI_add i 3) (by omega) hL dL_law_349 ?_
  refine lw_M (R := room_1) (As := [.int (xs (i + 1)), .int (xs (i + 2)), .int (xs (i + 3))]) (rest := [.int ((r_first (I 13 0) (shC I) (xs (i + 1)) (xs (i + 2)) (xs (i + 3))))]) hE (ct_X10_first l E a' J tr (xs (i + 1)) (xs (i + 2)) (xs (i + 3)) (rl_KM hR)) cm_X10_first (uw mt_L_L_42 rfl) (gM_0 E a' J tr) rfl rfl hP hD hS hl.1 rfl rfl (Nat.le_of_ble_eq_true rfl) ⟨Nat.le_of_ble_eq_true rfl, Nat.le_of_ble_eq_true rfl⟩ hcs dL_law_350 (fun H locs hP hD hS => ?_)
  refine W.eq (g2 := F0 m 353 ls [.int ((r_first (J 2 0) (shM J) (xs (i + 1)) (xs (i + 2)) (xs (i + 3)))), .int ((r_first (I 13 0) (shC I) (xs (i + 1)) (xs (i + 2)) (xs (i + 3))))]) rfl ?_
  refine lv_icmp_eq (tgt := 1005) hx hb dL_law_353 (by decide) (fun _ => ?_) (fun z => absurd (an_first hR (xs (i + 1)) (xs (i + 2)) (xs (i + 3))) z)
  exact kk a a' _ _ _ H locs ls (hR) hl hP hD hS
/-- case 6: many -/
theorem lc_6 {l : Launch} {p : Program} {e : Env} {s : State} {m : MethodId} {below : List Frame} {meth : Method} {c : Code} {E : cE} {b L : Nat} {xs : Nat → Int32} {Q : State → Prop} {cells slots i : Nat} (hE : cEnv p s m #[Value.ref b] meth c E RL cL_law 4 (some .boolean) (lwA s)) (hX : va_X b L xs s s.heap) (hbl : b < s.heap.size) (hL : L ≤ 2560) (hcs : cells ≤ room_1.cells ∧ slots ≤ room_1.slots)
    (kk : ∀ (a a' : Nat → Nat) (I J : Nat → Nat → Nat) (tr : Int64) (H : Heap) (locs : List Loc) (ls : Array Slot), Rel I J → lv_has ls 4 [(3, .int (nI i)), (2, .ref (a' 0)), (1, .ref (a 0)), (0, .ref b)] → va_P E.1 vwCl (WC E a I tr ++ WM E a' J tr) H → va_D (lwA s) (WC E a I tr ++ WM E a' J tr) → va_S (lwA s) s.heap H locs → W p l e room_1 s m #[Value.ref b] below meth c H locs cells slots Q (F0 m 1005 ls []))
    {a a' : Nat → Nat} {I J : Nat → Nat → Nat} {tr : Int64} {H : Heap} {locs : List Loc} {ls : Array Slot} (hi : i + 5 ≤ L) (hR : Rel I J) (hl : lv_has ls 4 [(3, .int (nI i)), (2, .ref (a' 0)), (1, .ref (a 0)), (0, .ref b)]) (hP : va_P E.1 vwCl (WC E a I tr ++ WM E a' J tr) H) (hD : va_D (lwA s) (WC E a I tr ++ WM E a' J tr)) (hS : va_S (lwA s) s.heap H locs) : W p l e room_1 s m #[Value.ref b] below meth c H locs cells slots Q (F0 m 358 ls []) := by
  have hx := hE.1
  have hb := hE.2.1
  have hbA : ¬ lwA s b := Nat.not_le.mpr hbl
  refine lv_aload_n hx hb dL_law_358 rfl (lv_at hl 2 rfl) ?_
  refine lv_aload_n hx hb dL_law_359 rfl (lv_at hl 3 rfl) ?_
  refine lv_iload_n hx hb dL_law_360 rfl (lv_at hl 0 rfl) ?_
  refine lv_iconst (v := nI 1) hx hb dL_law_361 (by decide) ?_
  refine lv_iadd hx hb dL_law_362 ?_
  refine lw_ld hE hX hbl hbA hS (i := i + 1) (nI_add i 1) (by omega) hL dL_law_363 ?_
  refine lv_aload_n hx hb dL_law_364 rfl (lv_at hl 3 rfl) ?_
  refine lv_iload_n hx hb dL_law_365 rfl (lv_at hl 0 rfl) ?_
  refine lv_iconst (v := nI 2) hx hb dL_law_366 (by decide) ?_
  refine lv_iadd hx hb dL_law_367 ?_
  refine lw_ld hE hX hbl hbA hS (i := i + 2) (nI_add i 2) (by omega) hL dL_law_368 ?_
  refine lw_C (R := room_1) (As := [.int (xs (i + 1)), .int (xs (i + 2))]) (rest := []) hE (ct_X9_many l E a I tr (xs (i + 1)) (xs (i + 2)) (rl_CK hR)) cm_X9_many (uw mt_L_L_43 rfl) (gC_0 E a I tr) rfl rfl hP hD hS hl.1 rfl rfl (Nat.le_of_ble_eq_true rfl) ⟨Nat.le_of_ble_eq_true rfl, Nat.le_of_ble_eq_true rfl⟩ hcs dL_law_369 (fun H locs hP hD hS => ?_)
  refine W.eq (g2 := F0 m 372 ls [.int ((r_many (I 13 0) (shC I) (xs (i + 1)) (xs (i + 2))))]) rfl ?_
  refine lv_aload_n hx hb dL_law_372 rfl (lv_at hl 1 rfl) ?_
  refine lv_aload_n hx hb dL_law_373 rfl (lv_at hl 3 rfl) ?_
  refine lv_iload_n hx hb dL_law_374 rfl (lv_at hl 0 rfl) ?_
  refine lv_iconst (v := nI 1) hx hb dL_law_375 (by decide) ?_
  refine lv_iadd hx hb dL_law_376 ?_
  refine lw_ld hE hX hbl hbA hS (i := i + 1) (nI_add i 1) (by omega) hL dL_law_377 ?_
  refine lv_aload_n hx hb dL_law_378 rfl (lv_at hl 3 rfl) ?_
  refine lv_iload_n hx hb dL_law_379 rfl (lv_at hl 0 rfl) ?_
  refine lv_iconst (v := nI 2) hx hb dL_law_380 (by decide) ?_
  refine lv_iadd hx hb dL_law_381 ?_
  refine lw_ld hE hX hbl hbA hS (i := i + 2) (nI_add i 2) (by omega) hL dL_law_382 ?_
  refine lw_M (R := room_1) (As := [.int (xs (i + 1)), .int (xs (i + 2))]) (rest := [.int ((r_many (I 13 0) (shC I) (xs (i + 1)) (xs (i + 2))))]) hE (ct_X10_many l E a' J tr (xs (i + 1)) (xs (i + 2)) (rl_KM hR)) cm_X10_many (uw mt_L_L_46 rfl) (gM_0 E a' J tr) rfl rfl hP hD hS hl.1 rfl rfl (Nat.le_of_ble_eq_true rfl) ⟨Nat.le_of_ble_eq_true rfl, Nat.le_of_ble_eq_true rfl⟩ hcs dL_law_383 (fun H locs hP hD hS => ?_)
  refine W.eq (g2 := F0 m 386 ls [.int ((r_many (J 2 0) (shM J) (xs (i + 1)) (xs (i + 2)))), .int ((r_many (I 13 0) (shC I) (xs (i + 1)) (xs (i + 2))))]) rfl ?_
  refine lv_icmp_eq (tgt := 1005) hx hb dL_law_386 (by decide) (fun _ => ?_) (fun z => absurd (an_many hR (xs (i + 1)) (xs (i + 2))) z)
  exact kk a a' _ _ _ H locs ls (hR) hl hP hD hS
/-- case 7: there -/
theorem lc_7 {l : Launch} {p : Program} {e : Env} {s : State} {m : MethodId} {below : List Frame} {meth : Method} {c : Code} {E : cE} {b L : Nat} {xs : Nat → Int32} {Q : State → Prop} {cells slots i : Nat} (hE : cEnv p s m #[Value.ref b] meth c E RL cL_law 4 (some .boolean) (lwA s)) (hX : va_X b L xs s s.heap) (hbl : b < s.heap.size) (hL : L ≤ 2560) (hcs : cells ≤ room_1.cells ∧ slots ≤ room_1.slots)
    (kk : ∀ (a a' : Nat → Nat) (I J : Nat → Nat → Nat) (tr : Int64) (H : Heap) (locs : List Loc) (ls : Array Slot), Rel I J → lv_has ls 4 [(3, .int (nI i)), (2, .ref (a' 0)), (1, .ref (a 0)), (0, .ref b)] → va_P E.1 vwCl (WC E a I tr ++ WM E a' J tr) H → va_D (lwA s) (WC E a I tr ++ WM E a' J tr) → va_S (lwA s) s.heap H locs → W p l e room_1 s m #[Value.ref b] below meth c H locs cells slots Q (F0 m 1005 ls []))
    {a a' : Nat → Nat} {I J : Nat → Nat → Nat} {tr : Int64} {H : Heap} {locs : List Loc} {ls : Array Slot} (hi : i + 5 ≤ L) (hR : Rel I J) (hl : lv_has ls 4 [(3, .int (nI i)), (2, .ref (a' 0)), (1, .ref (a 0)), (0, .ref b)]) (hP : va_P E.1 vwCl (WC E a I tr ++ WM E a' J tr) H) (hD : va_D (lwA s) (WC E a I tr ++ WM E a' J tr)) (hS : va_S (lwA s) s.heap H locs) : W p l e room_1 s m #[Value.ref b] below meth c H locs cells slots Q (F0 m 391 ls []) := by
  have hx := hE.1
  have hb := hE.2.1
  have hbA : ¬ lwA s b := Nat.not_le.mpr hbl
  refine lv_aload_n hx hb dL_law_391 rfl (lv_at hl 2 rfl) ?_
  refine lv_aload_n hx hb dL_law_392 rfl (lv_at hl 3 rfl) ?_
  refine lv_iload_n hx hb dL_law_393 rfl (lv_at hl 0 rfl) ?_
  refine lv_iconst (v := nI 1) hx hb dL_law_394 (by decide) ?_
  refine lv_iadd hx hb dL_law_395 ?_
  refine lw_ld hE hX hbl hbA hS (i := i + 1) (nI_add i 1) (by omega) hL dL_law_396 ?_
  refine lv_aload_n hx hb dL_law_397 rfl (lv_at hl 3 rfl) ?_
  refine lv_iload_n hx hb dL_law_398 rfl (lv_at hl 0 rfl) ?_
  refine lv_iconst (v := nI 2) hx hb dL_law_399 (by decide) ?_
  refine lv_iadd hx hb dL_law_400 ?_
  refine lw_ld hE hX hbl hbA hS (i := i + 2) (nI_add i 2) (by omega) hL dL_law_401 ?_
  refine lv_aload_n hx hb dL_law_402 rfl (lv_at hl 3 rfl) ?_
  refine lv_iload_n hx hb dL_law_403 rfl (lv_at hl 0 rfl) ?_
  refine lv_iconst (v := nI 3) hx hb dL_law_404 (by decide) ?_
  refine lv_iadd hx hb dL_law_405 ?_
  refine lw_ld hE hX hbl hbA hS (i := i + 3) (nI_add i 3) (by omega) hL dL_law_406 ?_
  refine lw_C (R := room_1) (As := [.int (xs (i + 1)), .int (xs (i + 2)), .int (xs (i + 3))]) (rest := []) hE (ct_X9_there l E a I tr (xs (i + 1)) (xs (i + 2)) (xs (i + 3)) (rl_CK hR)) cm_X9_there (uw mt_L_L_47 rfl) (gC_0 E a I tr) rfl rfl hP hD hS hl.1 rfl rfl (Nat.le_of_ble_eq_true rfl) ⟨Nat.le_of_ble_eq_true rfl, Nat.le_of_ble_eq_true rfl⟩ hcs dL_law_407 (fun H locs hP hD hS => ?_)
  refine W.eq (g2 := F0 m 410 ls [.int ((r_there (I 13 0) (shC I) (xs (i + 1)) (xs (i + 2)) (xs (i + 3))))]) rfl ?_
  refine lv_aload_n hx hb dL_law_410 rfl (lv_at hl 1 rfl) ?_
  refine lv_aload_n hx hb dL_law_411 rfl (lv_at hl 3 rfl) ?_
  refine lv_iload_n hx hb dL_law_412 rfl (lv_at hl 0 rfl) ?_
  refine lv_iconst (v := nI 1) hx hb dL_law_413 (by decide) ?_
  refine lv_iadd hx hb dL_law_414 ?_
  refine lw_ld hE hX hbl hbA hS (i := i + 1) (nI_add i 1) (by omega) hL dL_law_415 ?_
  refine lv_aload_n hx hb dL_law_416 rfl (lv_at hl 3 rfl) ?_
  refine lv_iload_n hx hb dL_law_417 rfl (lv_at hl 0 rfl) ?_
  refine lv_iconst (v := nI 2) hx hb dL_law_418 (by decide) ?_
  refine lv_iadd hx hb dL_law_419 ?_
  refine lw_ld hE hX hbl hbA hS (i := i + 2) (nI_add i 2) (by omega) hL dL_law_420 ?_
  refine lv_aload_n hx hb dL_law_421 rfl (lv_at hl 3 rfl) ?_
  refine lv_iload_n hx hb dL_law_422 rfl (lv_at hl 0 rfl) ?_
  refine lv_iconst (v := nI 3) hx hb dL_law_423 (by decide) ?_
  refine lv_iadd hx hb dL_law_424 ?_
  refine lw_ld hE hX hbl hbA hS (i := i + 3) (nI_add i 3) (by omega) hL dL_law_425 ?_
  refine lw_M (R := room_1) (As := [.int (xs (i + 1)), .int (xs (i + 2)), .int (xs (i + 3))]) (rest := [.int ((r_there (I 13 0) (shC I) (xs (i + 1)) (xs (i + 2)) (xs (i + 3))))]) hE (ct_X10_there l E a' J tr (xs (i + 1)) (xs (i + 2)) (xs (i + 3)) (rl_KM hR)) cm_X10_there (uw mt_L_L_50 rfl) (gM_0 E a' J tr) rfl rfl hP hD hS hl.1 rfl rfl (Nat.le_of_ble_eq_true rfl) ⟨Nat.le_of_ble_eq_true rfl, Nat.le_of_ble_eq_true rfl⟩ hcs dL_law_426 (fun H locs hP hD hS => ?_)
  refine W.eq (g2 := F0 m 429 ls [.int ((r_there (J 2 0) (shM J) (xs (i + 1)) (xs (i + 2)) (xs (i + 3)))), .int ((r_there (I 13 0) (shC I) (xs (i + 1)) (xs (i + 2)) (xs (i + 3))))]) rfl ?_
  refine lv_icmp_eq (tgt := 1005) hx hb dL_law_429 (by decide) (fun _ => ?_) (fun z => absurd (an_there hR (xs (i + 1)) (xs (i + 2)) (xs (i + 3))) z)
  exact kk a a' _ _ _ H locs ls (hR) hl hP hD hS
/-- case 8: early -/
theorem lc_8 {l : Launch} {p : Program} {e : Env} {s : State} {m : MethodId} {below : List Frame} {meth : Method} {c : Code} {E : cE} {b L : Nat} {xs : Nat → Int32} {Q : State → Prop} {cells slots i : Nat} (hE : cEnv p s m #[Value.ref b] meth c E RL cL_law 4 (some .boolean) (lwA s)) (hX : va_X b L xs s s.heap) (hbl : b < s.heap.size) (hL : L ≤ 2560) (hcs : cells ≤ room_1.cells ∧ slots ≤ room_1.slots)
    (kk : ∀ (a a' : Nat → Nat) (I J : Nat → Nat → Nat) (tr : Int64) (H : Heap) (locs : List Loc) (ls : Array Slot), Rel I J → lv_has ls 4 [(3, .int (nI i)), (2, .ref (a' 0)), (1, .ref (a 0)), (0, .ref b)] → va_P E.1 vwCl (WC E a I tr ++ WM E a' J tr) H → va_D (lwA s) (WC E a I tr ++ WM E a' J tr) → va_S (lwA s) s.heap H locs → W p l e room_1 s m #[Value.ref b] below meth c H locs cells slots Q (F0 m 1005 ls []))
    {a a' : Nat → Nat} {I J : Nat → Nat → Nat} {tr : Int64} {H : Heap} {locs : List Loc} {ls : Array Slot} (hi : i + 5 ≤ L) (hR : Rel I J) (hl : lv_has ls 4 [(3, .int (nI i)), (2, .ref (a' 0)), (1, .ref (a 0)), (0, .ref b)]) (hP : va_P E.1 vwCl (WC E a I tr ++ WM E a' J tr) H) (hD : va_D (lwA s) (WC E a I tr ++ WM E a' J tr)) (hS : va_S (lwA s) s.heap H locs) : W p l e room_1 s m #[Value.ref b] below meth c H locs cells slots Q (F0 m 434 ls []) := by
  have hx := hE.1
  have hb := hE.2.1
  have hbA : ¬ lwA s b := Nat.not_le.mpr hbl
  refine lv_aload_n hx hb dL_law_434 rfl (lv_at hl 2 rfl) ?_
  refine lv_aload_n hx hb dL_law_435 rfl (lv_at hl 3 rfl) ?_
  refine lv_iload_n hx hb dL_law_436 rfl (lv_at hl 0 rfl) ?_
  refine lv_iconst (v := nI 1) hx hb dL_law_437 (by decide) ?_
  refine lv_iadd hx hb dL_law_438 ?_
  refine lw_ld hE hX hbl hbA hS (i := i + 1) (nI_add i 1) (by omega) hL dL_law_439 ?_
  refine lv_aload_n hx hb dL_law_440 rfl (lv_at hl 3 rfl) ?_
  refine lv_iload_n hx hb dL_law_441 rfl (lv_at hl 0 rfl) ?_
  refine lv_iconst (v := nI 2) hx hb dL_law_442 (by decide) ?_
  refine lv_iadd hx hb dL_law_443 ?_
  refine lw_ld hE hX hbl hbA hS (i := i + 2) (nI_add i 2) (by omega) hL dL_law_444 ?_
  refine lv_aload_n hx hb dL_law_445 rfl (lv_at hl 3 rfl) ?_
  refine lv_iload_n hx hb dL_law_446 rfl (lv_at hl 0 rfl) ?_
  refine lv_iconst (v := nI 3) hx hb dL_law_447 (by decide) ?_
  refine lv_iadd hx hb dL_law_448 ?_
  refine lw_ld hE hX hbl hbA hS (i := i + 3) (nI_add i 3) (by omega) hL dL_law_449 ?_
  refine lw_C (R := room_1) (As := [.int (xs (i + 1)), .int (xs (i + 2)), .int (xs (i + 3))]) (rest := []) hE (ct_X9_early l E a I tr (xs (i + 1)) (xs (i + 2)) (xs (i + 3)) (rl_CK hR)) cm_X9_early (uw mt_L_L_51 rfl) (gC_0 E a I tr) rfl rfl hP hD hS hl.1 rfl rfl (Nat.le_of_ble_eq_true rfl) ⟨Nat.le_of_ble_eq_true rfl, Nat.le_of_ble_eq_true rfl⟩ hcs dL_law_450 (fun H locs hP hD hS => ?_)
  refine W.eq (g2 := F0 m 453 ls [.int ((r_early (I 13 0) (I 14 0) (shC I) (xs (i + 1)) (xs (i + 2)) (xs (i + 3))))]) rfl ?_
  refine lv_aload_n hx hb dL_law_453 rfl (lv_at hl 1 rfl) ?_
  refine lv_aload_n hx hb dL_law_454 rfl (lv_at hl 3 rfl) ?_
  refine lv_iload_n hx hb dL_law_455 rfl (lv_at hl 0 rfl) ?_
  refine lv_iconst (v := nI 1) hx hb dL_law_456 (by decide) ?_
  refine lv_iadd hx hb dL_law_457 ?_
  refine lw_ld hE hX hbl hbA hS (i := i + 1) (nI_add i 1) (by omega) hL dL_law_458 ?_
  refine lv_aload_n hx hb dL_law_459 rfl (lv_at hl 3 rfl) ?_
  refine lv_iload_n hx hb dL_law_460 rfl (lv_at hl 0 rfl) ?_
  refine lv_iconst (v := nI 2) hx hb dL_law_461 (by decide) ?_
  refine lv_iadd hx hb dL_law_462 ?_
  refine lw_ld hE hX hbl hbA hS (i := i + 2) (nI_add i 2) (by omega) hL dL_law_463 ?_
  refine lv_aload_n hx hb dL_law_464 rfl (lv_at hl 3 rfl) ?_
  refine lv_iload_n hx hb dL_law_465 rfl (lv_at hl 0 rfl) ?_
  refine lv_iconst (v := nI 3) hx hb dL_law_466 (by decide) ?_
  refine lv_iadd hx hb dL_law_467 ?_
  refine lw_ld hE hX hbl hbA hS (i := i + 3) (nI_add i 3) (by omega) hL dL_law_468 ?_
  refine lw_M (R := room_1) (As := [.int (xs (i + 1)), .int (xs (i + 2)), .int (xs (i + 3))]) (rest := [.int ((r_early (I 13 0) (I 14 0) (shC I) (xs (i + 1)) (xs (i + 2)) (xs (i + 3))))]) hE (ct_X10_early l E a' J tr (xs (i + 1)) (xs (i + 2)) (xs (i + 3)) (rl_KM hR)) cm_X10_early (uw mt_L_L_54 rfl) (gM_0 E a' J tr) rfl rfl hP hD hS hl.1 rfl rfl (Nat.le_of_ble_eq_true rfl) ⟨Nat.le_of_ble_eq_true rfl, Nat.le_of_ble_eq_true rfl⟩ hcs dL_law_469 (fun H locs hP hD hS => ?_)
  refine W.eq (g2 := F0 m 472 ls [.int ((r_early (J 2 0) (J 3 0) (shM J) (xs (i + 1)) (xs (i + 2)) (xs (i + 3)))), .int ((r_early (I 13 0) (I 14 0) (shC I) (xs (i + 1)) (xs (i + 2)) (xs (i + 3))))]) rfl ?_
  refine lv_icmp_eq (tgt := 1005) hx hb dL_law_472 (by decide) (fun _ => ?_) (fun z => absurd (an_early hR (xs (i + 1)) (xs (i + 2)) (xs (i + 3))) z)
  exact kk a a' _ _ _ H locs ls (hR) hl hP hD hS
/-- case 9: go -/
theorem lc_9 {l : Launch} {p : Program} {e : Env} {s : State} {m : MethodId} {below : List Frame} {meth : Method} {c : Code} {E : cE} {b L : Nat} {xs : Nat → Int32} {Q : State → Prop} {cells slots i : Nat} (hE : cEnv p s m #[Value.ref b] meth c E RL cL_law 4 (some .boolean) (lwA s)) (hX : va_X b L xs s s.heap) (hbl : b < s.heap.size) (hL : L ≤ 2560) (hcs : cells ≤ room_1.cells ∧ slots ≤ room_1.slots)
    (kk : ∀ (a a' : Nat → Nat) (I J : Nat → Nat → Nat) (tr : Int64) (H : Heap) (locs : List Loc) (ls : Array Slot), Rel I J → lv_has ls 4 [(3, .int (nI i)), (2, .ref (a' 0)), (1, .ref (a 0)), (0, .ref b)] → va_P E.1 vwCl (WC E a I tr ++ WM E a' J tr) H → va_D (lwA s) (WC E a I tr ++ WM E a' J tr) → va_S (lwA s) s.heap H locs → W p l e room_1 s m #[Value.ref b] below meth c H locs cells slots Q (F0 m 1005 ls []))
    {a a' : Nat → Nat} {I J : Nat → Nat → Nat} {tr : Int64} {H : Heap} {locs : List Loc} {ls : Array Slot} (hi : i + 5 ≤ L) (hR : Rel I J) (hl : lv_has ls 4 [(3, .int (nI i)), (2, .ref (a' 0)), (1, .ref (a 0)), (0, .ref b)]) (hP : va_P E.1 vwCl (WC E a I tr ++ WM E a' J tr) H) (hD : va_D (lwA s) (WC E a I tr ++ WM E a' J tr)) (hS : va_S (lwA s) s.heap H locs) : W p l e room_1 s m #[Value.ref b] below meth c H locs cells slots Q (F0 m 477 ls []) := by
  have hx := hE.1
  have hb := hE.2.1
  have hbA : ¬ lwA s b := Nat.not_le.mpr hbl
  refine lv_aload_n hx hb dL_law_477 rfl (lv_at hl 2 rfl) ?_
  refine lv_aload_n hx hb dL_law_478 rfl (lv_at hl 3 rfl) ?_
  refine lv_iload_n hx hb dL_law_479 rfl (lv_at hl 0 rfl) ?_
  refine lv_iconst (v := nI 1) hx hb dL_law_480 (by decide) ?_
  refine lv_iadd hx hb dL_law_481 ?_
  refine lw_ld hE hX hbl hbA hS (i := i + 1) (nI_add i 1) (by omega) hL dL_law_482 ?_
  refine lw_C (R := room_1) (As := [.int (xs (i + 1))]) (rest := []) hE (ct_X9_go l E a I tr (xs (i + 1)) (hR.mo.2.2.1)) cm_X9_go (uw mt_L_L_55 rfl) (gC_0 E a I tr) rfl rfl hP hD hS hl.1 rfl rfl (Nat.le_of_ble_eq_true rfl) ⟨Nat.le_of_ble_eq_true rfl, Nat.le_of_ble_eq_true rfl⟩ hcs dL_law_483 (fun H locs hP hD hS => ?_)
  refine W.eq (g2 := F0 m 486 ls [.int ((r_go (I 11 0) (xs (i + 1))))]) rfl ?_
  refine lv_aload_n hx hb dL_law_486 rfl (lv_at hl 1 rfl) ?_
  refine lv_aload_n hx hb dL_law_487 rfl (lv_at hl 3 rfl) ?_
  refine lv_iload_n hx hb dL_law_488 rfl (lv_at hl 0 rfl) ?_
  refine lv_iconst (v := nI 1) hx hb dL_law_489 (by decide) ?_
  refine lv_iadd hx hb dL_law_490 ?_
  refine lw_ld hE hX hbl hbA hS (i := i + 1) (nI_add i 1) (by omega) hL dL_law_491 ?_
  refine lw_M (R := room_1) (As := [.int (xs (i + 1))]) (rest := [.int ((r_go (I 11 0) (xs (i + 1))))]) hE (ct_X10_go l E a' J tr (xs (i + 1)) ((rl_KM hR).2.2.1)) cm_X10_go (uw mt_L_L_59 rfl) (gM_0 E a' J tr) rfl rfl hP hD hS hl.1 rfl rfl (Nat.le_of_ble_eq_true rfl) ⟨Nat.le_of_ble_eq_true rfl, Nat.le_of_ble_eq_true rfl⟩ hcs dL_law_492 (fun H locs hP hD hS => ?_)
  refine W.eq (g2 := F0 m 495 ls [.int ((r_go (J 16 0) (xs (i + 1)))), .int ((r_go (I 11 0) (xs (i + 1))))]) rfl ?_
  refine lv_icmp_eq (tgt := 1005) hx hb dL_law_495 (by decide) (fun _ => ?_) (fun z => absurd (an_go hR (xs (i + 1))) z)
  exact kk a a' _ _ _ H locs ls (kp_go hR (xs (i + 1))) hl hP hD hS
/-- case 10: turn -/
theorem lc_10 {l : Launch} {p : Program} {e : Env} {s : State} {m : MethodId} {below : List Frame} {meth : Method} {c : Code} {E : cE} {b L : Nat} {xs : Nat → Int32} {Q : State → Prop} {cells slots i : Nat} (hE : cEnv p s m #[Value.ref b] meth c E RL cL_law 4 (some .boolean) (lwA s)) (hX : va_X b L xs s s.heap) (hbl : b < s.heap.size) (hL : L ≤ 2560) (hcs : cells ≤ room_1.cells ∧ slots ≤ room_1.slots)
    (kk : ∀ (a a' : Nat → Nat) (I J : Nat → Nat → Nat) (tr : Int64) (H : Heap) (locs : List Loc) (ls : Array Slot), Rel I J → lv_has ls 4 [(3, .int (nI i)), (2, .ref (a' 0)), (1, .ref (a 0)), (0, .ref b)] → va_P E.1 vwCl (WC E a I tr ++ WM E a' J tr) H → va_D (lwA s) (WC E a I tr ++ WM E a' J tr) → va_S (lwA s) s.heap H locs → W p l e room_1 s m #[Value.ref b] below meth c H locs cells slots Q (F0 m 1005 ls []))
    {a a' : Nat → Nat} {I J : Nat → Nat → Nat} {tr : Int64} {H : Heap} {locs : List Loc} {ls : Array Slot} (hi : i + 5 ≤ L) (hR : Rel I J) (hl : lv_has ls 4 [(3, .int (nI i)), (2, .ref (a' 0)), (1, .ref (a 0)), (0, .ref b)]) (hP : va_P E.1 vwCl (WC E a I tr ++ WM E a' J tr) H) (hD : va_D (lwA s) (WC E a I tr ++ WM E a' J tr)) (hS : va_S (lwA s) s.heap H locs) : W p l e room_1 s m #[Value.ref b] below meth c H locs cells slots Q (F0 m 500 ls []) := by
  have hx := hE.1
  have hb := hE.2.1
  have hbA : ¬ lwA s b := Nat.not_le.mpr hbl
  refine lv_aload_n hx hb dL_law_500 rfl (lv_at hl 2 rfl) ?_
  refine lv_aload_n hx hb dL_law_501 rfl (lv_at hl 3 rfl) ?_
  refine lv_iload_n hx hb dL_law_502 rfl (lv_at hl 0 rfl) ?_
  refine lv_iconst (v := nI 1) hx hb dL_law_503 (by decide) ?_
  refine lv_iadd hx hb dL_law_504 ?_
  refine lw_ld hE hX hbl hbA hS (i := i + 1) (nI_add i 1) (by omega) hL dL_law_505 ?_
  refine lv_aload_n hx hb dL_law_506 rfl (lv_at hl 3 rfl) ?_
  refine lv_iload_n hx hb dL_law_507 rfl (lv_at hl 0 rfl) ?_
  refine lv_iconst (v := nI 2) hx hb dL_law_508 (by decide) ?_
  refine lv_iadd hx hb dL_law_509 ?_
  refine lw_ld hE hX hbl hbA hS (i := i + 2) (nI_add i 2) (by omega) hL dL_law_510 ?_
  refine lw_C (R := room_1) (As := [.int (xs (i + 1)), .int (xs (i + 2))]) (rest := []) hE (ct_X9_turn l E a I tr (xs (i + 1)) (xs (i + 2)) (rl_CK hR) (hR.mo.2.2.2.2.1)) cm_X9_turn (uw mt_L_L_60 rfl) (gC_0 E a I tr) rfl rfl hP hD hS hl.1 rfl rfl (Nat.le_of_ble_eq_true rfl) ⟨Nat.le_of_ble_eq_true rfl, Nat.le_of_ble_eq_true rfl⟩ hcs dL_law_511 (fun H locs hP hD hS => ?_)
  refine W.eq (g2 := F0 m 514 ls [.int ((r_turn (I 13 0) (I 11 0) (shC I) (xs (i + 1)) (xs (i + 2))))]) rfl ?_
  refine lv_aload_n hx hb dL_law_514 rfl (lv_at hl 1 rfl) ?_
  refine lv_aload_n hx hb dL_law_515 rfl (lv_at hl 3 rfl) ?_
  refine lv_iload_n hx hb dL_law_516 rfl (lv_at hl 0 rfl) ?_
  refine lv_iconst (v := nI 1) hx hb dL_law_517 (by decide) ?_
  refine lv_iadd hx hb dL_law_518 ?_
  refine lw_ld hE hX hbl hbA hS (i := i + 1) (nI_add i 1) (by omega) hL dL_law_519 ?_
  refine lv_aload_n hx hb dL_law_520 rfl (lv_at hl 3 rfl) ?_
  refine lv_iload_n hx hb dL_law_521 rfl (lv_at hl 0 rfl) ?_
  refine lv_iconst (v := nI 2) hx hb dL_law_522 (by decide) ?_
  refine lv_iadd hx hb dL_law_523 ?_
  refine lw_ld hE hX hbl hbA hS (i := i + 2) (nI_add i 2) (by omega) hL dL_law_524 ?_
  refine lw_M (R := room_1) (As := [.int (xs (i + 1)), .int (xs (i + 2))]) (rest := [.int ((r_turn (I 13 0) (I 11 0) (shC I) (xs (i + 1)) (xs (i + 2))))]) hE (ct_X10_turn l E a' J tr (xs (i + 1)) (xs (i + 2)) (rl_KM hR) ((rl_MKJ hR).1)) cm_X10_turn (uw mt_L_L_63 rfl) (gM_0 E a' J tr) rfl rfl hP hD hS hl.1 rfl rfl (Nat.le_of_ble_eq_true rfl) ⟨Nat.le_of_ble_eq_true rfl, Nat.le_of_ble_eq_true rfl⟩ hcs dL_law_525 (fun H locs hP hD hS => ?_)
  refine W.eq (g2 := F0 m 528 ls [.int ((r_turn (J 2 0) (J 16 0) (shM J) (xs (i + 1)) (xs (i + 2)))), .int ((r_turn (I 13 0) (I 11 0) (shC I) (xs (i + 1)) (xs (i + 2))))]) rfl ?_
  refine lv_icmp_eq (tgt := 1005) hx hb dL_law_528 (by decide) (fun _ => ?_) (fun z => absurd (an_turn hR (xs (i + 1)) (xs (i + 2))) z)
  exact kk a a' _ _ _ H locs ls (kp_turn hR (xs (i + 1)) (xs (i + 2))) hl hP hD hS
/-- case 11: undo -/
theorem lc_11 {l : Launch} {p : Program} {e : Env} {s : State} {m : MethodId} {below : List Frame} {meth : Method} {c : Code} {E : cE} {b L : Nat} {xs : Nat → Int32} {Q : State → Prop} {cells slots i : Nat} (hE : cEnv p s m #[Value.ref b] meth c E RL cL_law 4 (some .boolean) (lwA s)) (hX : va_X b L xs s s.heap) (hbl : b < s.heap.size) (hL : L ≤ 2560) (hcs : cells ≤ room_1.cells ∧ slots ≤ room_1.slots)
    (kk : ∀ (a a' : Nat → Nat) (I J : Nat → Nat → Nat) (tr : Int64) (H : Heap) (locs : List Loc) (ls : Array Slot), Rel I J → lv_has ls 4 [(3, .int (nI i)), (2, .ref (a' 0)), (1, .ref (a 0)), (0, .ref b)] → va_P E.1 vwCl (WC E a I tr ++ WM E a' J tr) H → va_D (lwA s) (WC E a I tr ++ WM E a' J tr) → va_S (lwA s) s.heap H locs → W p l e room_1 s m #[Value.ref b] below meth c H locs cells slots Q (F0 m 1005 ls []))
    {a a' : Nat → Nat} {I J : Nat → Nat → Nat} {tr : Int64} {H : Heap} {locs : List Loc} {ls : Array Slot} (hi : i + 5 ≤ L) (hR : Rel I J) (hl : lv_has ls 4 [(3, .int (nI i)), (2, .ref (a' 0)), (1, .ref (a 0)), (0, .ref b)]) (hP : va_P E.1 vwCl (WC E a I tr ++ WM E a' J tr) H) (hD : va_D (lwA s) (WC E a I tr ++ WM E a' J tr)) (hS : va_S (lwA s) s.heap H locs) : W p l e room_1 s m #[Value.ref b] below meth c H locs cells slots Q (F0 m 533 ls []) := by
  have hx := hE.1
  have hb := hE.2.1
  have hbA : ¬ lwA s b := Nat.not_le.mpr hbl
  refine lv_aload_n hx hb dL_law_533 rfl (lv_at hl 2 rfl) ?_
  refine lw_C (R := room_1) (As := []) (rest := []) hE (ct_X9_undo l E a I tr  (rl_MK hR) ((rl_CK hR).2.2.2.2)) cm_X9_undo (uw mt_L_L_64 rfl) (gC_0 E a I tr) rfl rfl hP hD hS hl.1 rfl rfl (Nat.le_of_ble_eq_true rfl) ⟨Nat.le_of_ble_eq_true rfl, Nat.le_of_ble_eq_true rfl⟩ hcs dL_law_534 (fun H locs hP hD hS => ?_)
  refine W.eq (g2 := F0 m 537 ls [.int ((r_undo (I 10 0) (I 8 (I 10 0 - 1))))]) rfl ?_
  refine lv_aload_n hx hb dL_law_537 rfl (lv_at hl 1 rfl) ?_
  refine lw_M (R := room_1) (As := []) (rest := [.int ((r_undo (I 10 0) (I 8 (I 10 0 - 1))))]) hE (ct_X10_undo l E a' J tr  (rl_MKJ hR) (rl_7J hR)) cm_X10_undo (uw mt_L_L_67 rfl) (gM_0 E a' J tr) rfl rfl hP hD hS hl.1 rfl rfl (Nat.le_of_ble_eq_true rfl) ⟨Nat.le_of_ble_eq_true rfl, Nat.le_of_ble_eq_true rfl⟩ hcs dL_law_538 (fun H locs hP hD hS => ?_)
  refine W.eq (g2 := F0 m 541 ls [.int ((r_undo (J 16 7) (J 16 (8 + (J 16 7 - 1))))), .int ((r_undo (I 10 0) (I 8 (I 10 0 - 1))))]) rfl ?_
  refine lv_icmp_eq (tgt := 1005) hx hb dL_law_541 (by decide) (fun _ => ?_) (fun z => absurd (an_undo hR) z)
  exact kk a a' _ _ _ H locs ls (kp_undo hR) hl hP hD hS
/-- case 12: errand -/
theorem lc_12 {l : Launch} {p : Program} {e : Env} {s : State} {m : MethodId} {below : List Frame} {meth : Method} {c : Code} {E : cE} {b L : Nat} {xs : Nat → Int32} {Q : State → Prop} {cells slots i : Nat} (hE : cEnv p s m #[Value.ref b] meth c E RL cL_law 4 (some .boolean) (lwA s)) (hX : va_X b L xs s s.heap) (hbl : b < s.heap.size) (hL : L ≤ 2560) (hcs : cells ≤ room_1.cells ∧ slots ≤ room_1.slots)
    (kk : ∀ (a a' : Nat → Nat) (I J : Nat → Nat → Nat) (tr : Int64) (H : Heap) (locs : List Loc) (ls : Array Slot), Rel I J → lv_has ls 4 [(3, .int (nI i)), (2, .ref (a' 0)), (1, .ref (a 0)), (0, .ref b)] → va_P E.1 vwCl (WC E a I tr ++ WM E a' J tr) H → va_D (lwA s) (WC E a I tr ++ WM E a' J tr) → va_S (lwA s) s.heap H locs → W p l e room_1 s m #[Value.ref b] below meth c H locs cells slots Q (F0 m 1005 ls []))
    {a a' : Nat → Nat} {I J : Nat → Nat → Nat} {tr : Int64} {H : Heap} {locs : List Loc} {ls : Array Slot} (hi : i + 5 ≤ L) (hR : Rel I J) (hl : lv_has ls 4 [(3, .int (nI i)), (2, .ref (a' 0)), (1, .ref (a 0)), (0, .ref b)]) (hP : va_P E.1 vwCl (WC E a I tr ++ WM E a' J tr) H) (hD : va_D (lwA s) (WC E a I tr ++ WM E a' J tr)) (hS : va_S (lwA s) s.heap H locs) : W p l e room_1 s m #[Value.ref b] below meth c H locs cells slots Q (F0 m 546 ls []) := by
  have hx := hE.1
  have hb := hE.2.1
  have hbA : ¬ lwA s b := Nat.not_le.mpr hbl
  refine lv_aload_n hx hb dL_law_546 rfl (lv_at hl 2 rfl) ?_
  refine lv_aload_n hx hb dL_law_547 rfl (lv_at hl 3 rfl) ?_
  refine lv_iload_n hx hb dL_law_548 rfl (lv_at hl 0 rfl) ?_
  refine lv_iconst (v := nI 1) hx hb dL_law_549 (by decide) ?_
  refine lv_iadd hx hb dL_law_550 ?_
  refine lw_ld hE hX hbl hbA hS (i := i + 1) (nI_add i 1) (by omega) hL dL_law_551 ?_
  refine lv_aload_n hx hb dL_law_552 rfl (lv_at hl 3 rfl) ?_
  refine lv_iload_n hx hb dL_law_553 rfl (lv_at hl 0 rfl) ?_
  refine lv_iconst (v := nI 2) hx hb dL_law_554 (by decide) ?_
  refine lv_iadd hx hb dL_law_555 ?_
  refine lw_ld hE hX hbl hbA hS (i := i + 2) (nI_add i 2) (by omega) hL dL_law_556 ?_
  refine lv_aload_n hx hb dL_law_557 rfl (lv_at hl 3 rfl) ?_
  refine lv_iload_n hx hb dL_law_558 rfl (lv_at hl 0 rfl) ?_
  refine lv_iconst (v := nI 3) hx hb dL_law_559 (by decide) ?_
  refine lv_iadd hx hb dL_law_560 ?_
  refine lw_ld hE hX hbl hbA hS (i := i + 3) (nI_add i 3) (by omega) hL dL_law_561 ?_
  refine lv_aload_n hx hb dL_law_562 rfl (lv_at hl 3 rfl) ?_
  refine lv_iload_n hx hb dL_law_563 rfl (lv_at hl 0 rfl) ?_
  refine lv_iconst (v := nI 4) hx hb dL_law_564 (by decide) ?_
  refine lv_iadd hx hb dL_law_565 ?_
  refine lw_ld hE hX hbl hbA hS (i := i + 4) (nI_add i 4) (by omega) hL dL_law_566 ?_
  refine lw_C (R := room_1) (As := [.int (xs (i + 1)), .int (xs (i + 2)), .int (xs (i + 3)), .int (xs (i + 4))]) (rest := []) hE (ct_X9_errand l E a I tr (xs (i + 1)) (xs (i + 2)) (xs (i + 3)) (xs (i + 4)) (rl_CK hR) ((rl_EK hR).1)) cm_X9_errand (uw mt_L_L_68 rfl) (gC_0 E a I tr) rfl rfl hP hD hS hl.1 rfl rfl (Nat.le_of_ble_eq_true rfl) ⟨Nat.le_of_ble_eq_true rfl, Nat.le_of_ble_eq_true rfl⟩ hcs dL_law_567 (fun H locs hP hD hS => ?_)
  refine W.eq (g2 := F0 m 570 ls [.int ((r_errand (I 13 0) (I 44 0) (xs (i + 1)) (xs (i + 2)) (xs (i + 3)) (xs (i + 4))))]) rfl ?_
  refine lv_aload_n hx hb dL_law_570 rfl (lv_at hl 1 rfl) ?_
  refine lv_aload_n hx hb dL_law_571 rfl (lv_at hl 3 rfl) ?_
  refine lv_iload_n hx hb dL_law_572 rfl (lv_at hl 0 rfl) ?_
  refine lv_iconst (v := nI 1) hx hb dL_law_573 (by decide) ?_
  refine lv_iadd hx hb dL_law_574 ?_
  refine lw_ld hE hX hbl hbA hS (i := i + 1) (nI_add i 1) (by omega) hL dL_law_575 ?_
  refine lv_aload_n hx hb dL_law_576 rfl (lv_at hl 3 rfl) ?_
  refine lv_iload_n hx hb dL_law_577 rfl (lv_at hl 0 rfl) ?_
  refine lv_iconst (v := nI 2) hx hb dL_law_578 (by decide) ?_
  refine lv_iadd hx hb dL_law_579 ?_
  refine lw_ld hE hX hbl hbA hS (i := i + 2) (nI_add i 2) (by omega) hL dL_law_580 ?_
  refine lv_aload_n hx hb dL_law_581 rfl (lv_at hl 3 rfl) ?_
  refine lv_iload_n hx hb dL_law_582 rfl (lv_at hl 0 rfl) ?_
  refine lv_iconst (v := nI 3) hx hb dL_law_583 (by decide) ?_
  refine lv_iadd hx hb dL_law_584 ?_
  refine lw_ld hE hX hbl hbA hS (i := i + 3) (nI_add i 3) (by omega) hL dL_law_585 ?_
  refine lv_aload_n hx hb dL_law_586 rfl (lv_at hl 3 rfl) ?_
  refine lv_iload_n hx hb dL_law_587 rfl (lv_at hl 0 rfl) ?_
  refine lv_iconst (v := nI 4) hx hb dL_law_588 (by decide) ?_
  refine lv_iadd hx hb dL_law_589 ?_
  refine lw_ld hE hX hbl hbA hS (i := i + 4) (nI_add i 4) (by omega) hL dL_law_590 ?_
  refine lw_M (R := room_1) (As := [.int (xs (i + 1)), .int (xs (i + 2)), .int (xs (i + 3)), .int (xs (i + 4))]) (rest := [.int ((r_errand (I 13 0) (I 44 0) (xs (i + 1)) (xs (i + 2)) (xs (i + 3)) (xs (i + 4))))]) hE (ct_X10_errand l E a' J tr (xs (i + 1)) (xs (i + 2)) (xs (i + 3)) (xs (i + 4)) (rl_KM hR) (hR.er.2.1)) cm_X10_errand (uw mt_L_L_72 rfl) (gM_0 E a' J tr) rfl rfl hP hD hS hl.1 rfl rfl (Nat.le_of_ble_eq_true rfl) ⟨Nat.le_of_ble_eq_true rfl, Nat.le_of_ble_eq_true rfl⟩ hcs dL_law_591 (fun H locs hP hD hS => ?_)
  refine W.eq (g2 := F0 m 594 ls [.int ((r_errand (J 2 0) (J 19 0) (xs (i + 1)) (xs (i + 2)) (xs (i + 3)) (xs (i + 4)))), .int ((r_errand (I 13 0) (I 44 0) (xs (i + 1)) (xs (i + 2)) (xs (i + 3)) (xs (i + 4))))]) rfl ?_
  refine lv_icmp_eq (tgt := 1005) hx hb dL_law_594 (by decide) (fun _ => ?_) (fun z => absurd (an_errand hR (xs (i + 1)) (xs (i + 2)) (xs (i + 3)) (xs (i + 4))) z)
  exact kk a a' _ _ _ H locs ls (kp_errand hR (xs (i + 1)) (xs (i + 2)) (xs (i + 3)) (xs (i + 4))) hl hP hD hS
/-- case 13: rests -/
theorem lc_13 {l : Launch} {p : Program} {e : Env} {s : State} {m : MethodId} {below : List Frame} {meth : Method} {c : Code} {E : cE} {b L : Nat} {xs : Nat → Int32} {Q : State → Prop} {cells slots i : Nat} (hE : cEnv p s m #[Value.ref b] meth c E RL cL_law 4 (some .boolean) (lwA s)) (hX : va_X b L xs s s.heap) (hbl : b < s.heap.size) (hL : L ≤ 2560) (hcs : cells ≤ room_1.cells ∧ slots ≤ room_1.slots)
    (kk : ∀ (a a' : Nat → Nat) (I J : Nat → Nat → Nat) (tr : Int64) (H : Heap) (locs : List Loc) (ls : Array Slot), Rel I J → lv_has ls 4 [(3, .int (nI i)), (2, .ref (a' 0)), (1, .ref (a 0)), (0, .ref b)] → va_P E.1 vwCl (WC E a I tr ++ WM E a' J tr) H → va_D (lwA s) (WC E a I tr ++ WM E a' J tr) → va_S (lwA s) s.heap H locs → W p l e room_1 s m #[Value.ref b] below meth c H locs cells slots Q (F0 m 1005 ls []))
    {a a' : Nat → Nat} {I J : Nat → Nat → Nat} {tr : Int64} {H : Heap} {locs : List Loc} {ls : Array Slot} (hi : i + 5 ≤ L) (hR : Rel I J) (hl : lv_has ls 4 [(3, .int (nI i)), (2, .ref (a' 0)), (1, .ref (a 0)), (0, .ref b)]) (hP : va_P E.1 vwCl (WC E a I tr ++ WM E a' J tr) H) (hD : va_D (lwA s) (WC E a I tr ++ WM E a' J tr)) (hS : va_S (lwA s) s.heap H locs) : W p l e room_1 s m #[Value.ref b] below meth c H locs cells slots Q (F0 m 599 ls []) := by
  have hx := hE.1
  have hb := hE.2.1
  have hbA : ¬ lwA s b := Nat.not_le.mpr hbl
  refine lv_aload_n hx hb dL_law_599 rfl (lv_at hl 2 rfl) ?_
  refine lw_C (R := room_1) (As := []) (rest := []) hE (ct_X9_rests l E a I tr  ((rl_EK hR).1)) cm_X9_rests (uw mt_L_L_73 rfl) (gC_0 E a I tr) rfl rfl hP hD hS hl.1 rfl rfl (Nat.le_of_ble_eq_true rfl) ⟨Nat.le_of_ble_eq_true rfl, Nat.le_of_ble_eq_true rfl⟩ hcs dL_law_600 (fun H locs hP hD hS => ?_)
  refine W.eq (g2 := F0 m 603 ls [.int ((nI (I 44 0)))]) rfl ?_
  refine lv_aload_n hx hb dL_law_603 rfl (lv_at hl 1 rfl) ?_
  refine lw_M (R := room_1) (As := []) (rest := [.int ((nI (I 44 0)))]) hE (ct_X10_rests l E a' J tr  (hR.er.2.1)) cm_X10_rests (uw mt_L_L_76 rfl) (gM_0 E a' J tr) rfl rfl hP hD hS hl.1 rfl rfl (Nat.le_of_ble_eq_true rfl) ⟨Nat.le_of_ble_eq_true rfl, Nat.le_of_ble_eq_true rfl⟩ hcs dL_law_604 (fun H locs hP hD hS => ?_)
  refine W.eq (g2 := F0 m 607 ls [.int ((nI (J 19 0))), .int ((nI (I 44 0)))]) rfl ?_
  refine lv_icmp_eq (tgt := 1005) hx hb dL_law_607 (by decide) (fun _ => ?_) (fun z => absurd (congrArg nI hR.er.1) z)
  exact kk a a' _ _ _ H locs ls (kp_rests hR) hl hP hD hS
