/-! STR: the three texts of the pool -/
def strN : List (List Nat) := [[104, 111, 117, 115, 101], [108, 101, 97, 112], [119, 97, 108, 107]]
def sLn (i : Nat) : Nat := lenS.getD i 0
def sCh (i j : Nat) : Nat := (strN.getD i []).getD j 0
theorem sCh_b : ∀ i, i < 3 → ∀ j, j < sLn i → (bytS.getD i []).getD j 0 = nI (sCh i j) ∧ sCh i j < 128 := by decide
theorem sLn_le : ∀ i, i < 3 → sLn i ≤ 5 := by decide
section CVK
variable {p : Program} {l : Launch} {e : Env} {s : State} {m : MethodId} {args : Array Value} {below : List Frame} {meth : Method} {c : Code} {H : Heap} {locs : List Loc} {E : cE} {own : String} {b : ByteArray} {n : Nat} {rt : Option FieldType} {A : Nat → Prop} {pc : Nat} {ls : Array Slot} {Q : State → Prop} {d d' : Nat} {yM : MethodName} {b' : ByteArray} {n' : Nat} {rt' : Option FieldType} {As rest st0 : List Value} {ws ws' : va_W} {rv : Option Value} {idx k : Nat}
theorem call_VK {o : Nat} (hE : cEnv p s m args meth c E own b n rt A) (cc : Ct l E d' yM b' n' rt' (.ref o :: As) ws rv ws') (hM : cMV yM b' n' rt' k) (hlink : Cond.methodLink own idx yM ∈ UW) (hr : ∃ cell : Cell, H[o]? = some cell ∧ cell.vm.isStatics = false ∧ s.vm.findClass yM.cls = some cell.cls)
    (hP : va_P E.1 vwCl ws H) (hD : va_D A ws) (hS : va_S A s.heap H locs) (hl : ls.size = n) (hn : As.length = k) (hst : st0 = As.reverse ++ .ref o :: rest) (hcat : (rest.map fun v => v.category).sum ≤ 8) (hd : d' + 1 ≤ d ∧ 8 + (n' + 11) + (40 * d' + 12) ≤ 40 * d + 12) (hdg : decode b pc = .ok (.invokevirtual idx, 3))
    (kk : ∀ (H1 : Heap) (locs1 : List Loc), va_P E.1 vwCl ws' H1 → va_D A ws' → va_S A s.heap H1 locs1 → W p l e (rmL d) s m args below meth c H1 locs1 0 0 Q (F0 m (pc + 3) ls (rv.toList ++ rest))) : W p l e (rmL d) s m args below meth c H locs 0 0 Q (F0 m pc ls st0) := by
  obtain ⟨hx, hb, hret, hts, hown, hml, hK, hlocks, hA, hZ⟩ := id hE
  obtain ⟨⟨w1, w2, w3, w4, w5⟩, w6, w7⟩ := hM
  refine go_on hD hS hA (a := (Value.ref o :: As).toArray) (va_runV (cc := b) (nL := n) (Ts := UW) (own := own) (C := yM.cls) (bytes := b') (maxL := n') (ret := rt') (n := k) ⟨hx, hb, hml, hown, hts⟩ (cc H.size) ?_ ?_ rfl hn hl hst (lv_room hcat) hdg ⟨Nat.zero_le _, Nat.zero_le _⟩) kk
  · refine cwV k hts ?_ rfl rfl rfl ⟨rfl, w3, w4, w5⟩ hd
    refine good_l ?_
    intro w hw
    rcases List.mem_append.mp hw with h | h
    · simp only [List.mem_cons, List.not_mem_nil, or_false] at h
      rcases h with rfl | rfl | rfl | rfl
      · exact hlink
      · exact w6
      · exact w7
      · exact w2
    · exact good_c w1 w h
  · exact ⟨cPre.blind, hr, fun U hU hW => ⟨rfl, cPre_at hE hP hD hS U hU hW⟩⟩
theorem eS (hE : cEnv p s m args meth c E own b n rt A) : vk_S 3 lenS bytS E.2.2.1 E.2.2.2 A s s.heap := hE.2.2.2.2.2.2.2.2.2.2.2.1
theorem eC (hE : cEnv p s m args meth c E own b n rt A) : va_Z "java/lang/String" "COMPACT_STRINGS" "Z" (.int 1) A s s.heap := hE.2.2.2.2.2.2.2.2.2.2.2.2.1
theorem eQ (hE : cEnv p s m args meth c E own b n rt A) : va_Zq "jdk/internal/util/Preconditions" "SIOOBE_FORMATTER" "Ljava/util/function/BiFunction;" A s s.heap := hE.2.2.2.2.2.2.2.2.2.2.2.2.2
end CVK
theorem ct_J0_coder (l : Launch) (E : cE) (ws : va_W) (i : Nat) (hi : i < 3) : Ct l E 0 yJ0_coder_7d493 cJ0_coder_7d493 1 (some .byte) [.ref (E.2.2.1 i)] ws (some (.int 0)) ws := by
  refine Ct_of (by decide +kernel) (Nat.le_of_ble_eq_true rfl) ?_
  intro p e s m args below meth c A ls hE hP hD hS hl
  have hE : cEnv p s m args meth c E RJ0 cJ0_coder_7d493 1 (some .byte) A := hE
  have hx := hE.1
  have hb := hE.2.1
  have hl : lv_has ls 1 [(0, .ref (E.2.2.1 i))] := hl
  refine va_gets hx hb (eC hE) hS hE.2.2.2.2.1 (hE.2.2.2.1 _ (uw mt_F_J0_38 rfl)) (fun _ h => h) dJ0_coder_7d493_0 ?_
  refine lv_if_eq (tgt := 13) hx hb dJ0_coder_7d493_3 (by decide) (fun h => absurd h (by decide)) (fun _ => ?_)
  refine lv_aload_n hx hb dJ0_coder_7d493_6 rfl (lv_at hl 0 rfl) ?_
  refine vk_getf hx hb ((eS hE).1 i hi).2.1 hS hE.2.2.2.2.1 (hE.2.2.2.1 _ (uw mt_F_J0_15 rfl)) (fun _ h => h) dJ0_coder_7d493_7 ?_
  refine lv_goto (tgt := 14) hx hb dJ0_coder_7d493_10 (by decide) ?_
  exact ret_z hE (r := 0) (by decide) rfl hP hD hS dJ0_coder_7d493_14
theorem ct_J0_isLatin1 (l : Launch) (E : cE) (ws : va_W) (i : Nat) (hi : i < 3) : Ct l E 0 yJ0_isLatin1_aae02 cJ0_isLatin1_aae02 1 (some .boolean) [.ref (E.2.2.1 i)] ws (some (.int 1)) ws := by
  refine Ct_of (by decide +kernel) (Nat.le_of_ble_eq_true rfl) ?_
  intro p e s m args below meth c A ls hE hP hD hS hl
  have hE : cEnv p s m args meth c E RJ0 cJ0_isLatin1_aae02 1 (some .boolean) A := hE
  have hx := hE.1
  have hb := hE.2.1
  have hl : lv_has ls 1 [(0, .ref (E.2.2.1 i))] := hl
  refine va_gets hx hb (eC hE) hS hE.2.2.2.2.1 (hE.2.2.2.1 _ (uw mt_F_J0_38 rfl)) (fun _ h => h) dJ0_isLatin1_aae02_0 ?_
  refine lv_if_eq (tgt := 17) hx hb dJ0_isLatin1_aae02_3 (by decide) (fun h => absurd h (by decide)) (fun _ => ?_)
  refine lv_aload_n hx hb dJ0_isLatin1_aae02_6 rfl (lv_at hl 0 rfl) ?_
  refine vk_getf hx hb ((eS hE).1 i hi).2.1 hS hE.2.2.2.2.1 (hE.2.2.2.1 _ (uw mt_F_J0_15 rfl)) (fun _ h => h) dJ0_isLatin1_aae02_7 ?_
  refine lv_if_ne (tgt := 17) hx hb dJ0_isLatin1_aae02_10 (by decide) (fun h => absurd rfl h) (fun _ => ?_)
  refine lv_iconst (v := 1) hx hb dJ0_isLatin1_aae02_13 (by decide) ?_
  refine lv_goto (tgt := 18) hx hb dJ0_isLatin1_aae02_14 (by decide) ?_
  exact ret_z hE (r := 1) (by decide) rfl hP hD hS dJ0_isLatin1_aae02_18
theorem sl_i : ∀ i, i < 3 → (Int32.ofNat (lenS.getD i 0)) >>> ((0 : Int32) &&& 31) = nI (sLn i) := by decide +kernel
theorem ct_J0_length (l : Launch) (E : cE) (ws : va_W) (i : Nat) (hi : i < 3) : Ct l E 1 yJ0_length_8abf5 cJ0_length_8abf5 1 (some .int) [.ref (E.2.2.1 i)] ws (some (.int (nI (sLn i)))) ws := by
  refine Ct_of (by decide +kernel) (Nat.le_of_ble_eq_true rfl) ?_
  intro p e s m args below meth c A ls hE hP hD hS hl
  have hE : cEnv p s m args meth c E RJ0 cJ0_length_8abf5 1 (some .int) A := hE
  have hx := hE.1
  have hb := hE.2.1
  have hl : lv_has ls 1 [(0, .ref (E.2.2.1 i))] := hl
  refine lv_aload_n hx hb dJ0_length_8abf5_0 rfl (lv_at hl 0 rfl) ?_
  refine vk_getf hx hb ((eS hE).1 i hi).2.2.1 hS hE.2.2.2.2.1 (hE.2.2.2.1 _ (uw mt_F_J0_9 rfl)) (fun _ h => h) dJ0_length_8abf5_1 ?_
  refine va_tlen hx hb ((eS hE).1 i hi).2.2.2 hS rfl dJ0_length_8abf5_4 ?_
  refine lv_aload_n hx hb dJ0_length_8abf5_5 rfl (lv_at hl 0 rfl) ?_
  refine call_VK (As := []) (rest := [.int (Int32.ofNat (lenS.getD i 0))]) hE (ct_J0_coder l E ws i hi) cm_J0_coder_7d493 (uw mt_L_J0_335 rfl) (vk_recv (eS hE) hi hS) hP hD hS hl.1 rfl rfl (Nat.le_of_ble_eq_true rfl) ⟨by decide, by decide⟩ dJ0_length_8abf5_6 (fun H locs hP hD hS => ?_)
  refine W.eq (g2 := F0 m 9 ls [.int 0, .int (Int32.ofNat (lenS.getD i 0))]) rfl ?_
  refine lv_ishr hx hb dJ0_length_8abf5_9 ?_
  exact ret_i hE (by rw [sl_i i hi]) hP hD hS dJ0_length_8abf5_10
theorem ct_J3_checkIndex (l : Launch) (E : cE) (ws : va_W) (x n : Nat) (v : Value) (hv : v = .null ∨ ∃ t, v = .ref t) (hx0 : x < n) (hn : n < 2 ^ 30) : Ct l E 0 yJ3_checkIndex_8e157 cJ3_checkIndex_8e157 3 (some .int) [.int (nI x), .int (nI n), v] ws (some (.int (nI x))) ws := by
  have hc1 : v.category = 1 := by rcases hv with rfl | ⟨t, rfl⟩ <;> rfl
  refine Ct_of (by decide +kernel) (by rcases hv with rfl | ⟨t, rfl⟩ <;> exact Nat.le_of_ble_eq_true rfl) ?_
  intro p e s m args below meth c A ls hE hP hD hS hl
  have hE : cEnv p s m args meth c E RJ3 cJ3_checkIndex_8e157 3 (some .int) A := hE
  have hx := hE.1
  have hb := hE.2.1
  have hl : lv_has ls 3 [(0, .int (nI x)), (1, .int (nI n)), (2, v)] := hl
  refine lv_iload_n hx hb dJ3_checkIndex_8e157_0 rfl (lv_at hl 0 rfl) ?_
  refine bZ_lt (tgt := 9) hx hb (by omega) dJ3_checkIndex_8e157_1 (by decide) (fun h => h.elim) (fun _ => ?_)
  refine lv_iload_n hx hb dJ3_checkIndex_8e157_4 rfl (lv_at hl 0 rfl) ?_
  refine lv_iload_n hx hb dJ3_checkIndex_8e157_5 rfl (lv_at hl 1 rfl) ?_
  refine bN_lt (tgt := 16) hx hb (by omega) (by omega) dJ3_checkIndex_8e157_6 (by decide) (fun _ => ?_) (fun h => absurd h (by omega))
  refine lv_iload_n hx hb dJ3_checkIndex_8e157_16 rfl (lv_at hl 0 rfl) ?_
  exact ret_i hE rfl hP hD hS dJ3_checkIndex_8e157_17
theorem ct_J0_checkIndex (l : Launch) (E : cE) (ws : va_W) (x n : Nat) (hx0 : x < n) (hn : n < 2 ^ 30) : Ct l E 1 yJ0_checkIndex_df160 cJ0_checkIndex_df160 2 none [.int (nI x), .int (nI n)] ws none ws := by
  refine Ct_of (by decide +kernel) (Nat.le_of_ble_eq_true rfl) ?_
  intro p e s m args below meth c A ls hE hP hD hS hl
  have hE : cEnv p s m args meth c E RJ0 cJ0_checkIndex_df160 2 none A := hE
  have hx := hE.1
  have hb := hE.2.1
  have hl : lv_has ls 2 [(0, .int (nI x)), (1, .int (nI n))] := hl
  refine lv_iload_n hx hb dJ0_checkIndex_df160_0 rfl (lv_at hl 0 rfl) ?_
  refine lv_iload_n hx hb dJ0_checkIndex_df160_1 rfl (lv_at hl 1 rfl) ?_
  have key : ∀ v : Value, (v = .null ∨ ∃ t, v = .ref t) → va_Z "jdk/internal/util/Preconditions" "SIOOBE_FORMATTER" "Ljava/util/function/BiFunction;" v A s s.heap → W p l e (rmL 1) s m args below meth c s.heap [] 0 0 (RQ E below args s A none ws) (F0 m 2 ls [.int (nI n), .int (nI x)]) := by
    intro v hv hz
    refine va_gets hx hb hz hS hE.2.2.2.2.1 (hE.2.2.2.1 _ (uw mt_F_J0_1053 rfl)) (fun _ h => h) dJ0_checkIndex_df160_2 ?_
    refine call_S (As := [.int (nI x), .int (nI n), v]) (rest := []) hE (ct_J3_checkIndex l E ws x n v hv hx0 hn) cm_J3_checkIndex_8e157 (uw mt_L_J0_1059 rfl) hP hD hS hl.1 rfl rfl (Nat.zero_le _) ⟨by decide, by decide⟩ dJ0_checkIndex_df160_5 (fun H locs hP hD hS => ?_)
    refine W.eq (g2 := F0 m 8 ls [.int (nI x)]) rfl ?_
    refine lv_pop hx hb dJ0_checkIndex_df160_8 rfl ?_
    exact ret_v hE rfl hP hD hS dJ0_checkIndex_df160_9
  rcases eQ hE with h | ⟨t, h⟩
  · exact key _ (Or.inl rfl) h
  · exact key _ (Or.inr ⟨t, rfl⟩) h
theorem sc_i : ∀ k, k < 128 → ((nI k &&& 255).toUInt32 % 65536).toInt32 = nI k := by decide +kernel
theorem sl_n : ∀ i, i < 3 → Int32.ofNat (lenS.getD i 0) = nI (sLn i) := by decide
theorem ct_J1_charAt (l : Launch) (E : cE) (ws : va_W) (i j : Nat) (hi : i < 3) (hj : j < sLn i) : Ct l E 2 yJ1_charAt_3b067 cJ1_charAt_3b067 2 (some .char) [.ref (E.2.2.2 i), .int (nI j)] ws (some (.int (nI (sCh i j)))) ws := by
  have h5 := sLn_le i hi
  have hch := sCh_b i hi j hj
  refine Ct_of (by decide +kernel) (Nat.le_of_ble_eq_true rfl) ?_
  intro p e s m args below meth c A ls hE hP hD hS hl
  have hE : cEnv p s m args meth c E RJ1 cJ1_charAt_3b067 2 (some .char) A := hE
  have hx := hE.1
  have hb := hE.2.1
  have hl : lv_has ls 2 [(0, .ref (E.2.2.2 i)), (1, .int (nI j))] := hl
  refine lv_iload_n hx hb dJ1_charAt_3b067_0 rfl (lv_at hl 1 rfl) ?_
  refine lv_aload_n hx hb dJ1_charAt_3b067_1 rfl (lv_at hl 0 rfl) ?_
  refine va_tlen hx hb ((eS hE).1 i hi).2.2.2 hS (sl_n i hi) dJ1_charAt_3b067_2 ?_
  refine call_S (As := [.int (nI j), .int (nI (sLn i))]) (rest := []) hE (ct_J0_checkIndex l E ws j (sLn i) hj (by omega)) cm_J0_checkIndex_df160 (uw mt_L_J1_9 rfl) hP hD hS hl.1 rfl rfl (Nat.zero_le _) ⟨by decide, by decide⟩ dJ1_charAt_3b067_3 (fun H locs hP hD hS => ?_)
  refine W.eq (g2 := F0 m 6 ls []) rfl ?_
  refine lv_aload_n hx hb dJ1_charAt_3b067_6 rfl (lv_at hl 0 rfl) ?_
  refine lv_iload_n hx hb dJ1_charAt_3b067_7 rfl (lv_at hl 1 rfl) ?_
  refine va_tb hx hb ((eS hE).1 i hi).2.2.2 hS (vp_in_nI (show j < lenS.getD i 0 from hj) (show lenS.getD i 0 < 2 ^ 31 by have : lenS.getD i 0 ≤ 5 := h5; omega)) (v := .int (nI (sCh i j))) (by rw [nI_clamp (by omega), hch.1]) dJ1_charAt_3b067_8 ?_
  refine lv_sipush (v := 255) hx hb dJ1_charAt_3b067_9 (by decide) ?_
  refine lv_iand hx hb dJ1_charAt_3b067_12 ?_
  refine lv_i2c hx hb dJ1_charAt_3b067_13 (sc_i _ hch.2) ?_
  have hnar : ∀ k, k < 128 → narrow .char (.int (nI k)) = .int (nI k) := by decide +kernel
  exact ret_z hE (hnar _ hch.2) rfl hP hD hS dJ1_charAt_3b067_14
theorem ct_J0_charAt (l : Launch) (E : cE) (ws : va_W) (i j : Nat) (hi : i < 3) (hj : j < sLn i) : Ct l E 3 yJ0_charAt_5068e cJ0_charAt_5068e 2 (some .char) [.ref (E.2.2.1 i), .int (nI j)] ws (some (.int (nI (sCh i j)))) ws := by
  have hch := sCh_b i hi j hj
  refine Ct_of (by decide +kernel) (Nat.le_of_ble_eq_true rfl) ?_
  intro p e s m args below meth c A ls hE hP hD hS hl
  have hE : cEnv p s m args meth c E RJ0 cJ0_charAt_5068e 2 (some .char) A := hE
  have hx := hE.1
  have hb := hE.2.1
  have hl : lv_has ls 2 [(0, .ref (E.2.2.1 i)), (1, .int (nI j))] := hl
  refine lv_aload_n hx hb dJ0_charAt_5068e_0 rfl (lv_at hl 0 rfl) ?_
  refine call_VK (As := []) (rest := []) hE (ct_J0_isLatin1 l E ws i hi) cm_J0_isLatin1_aae02 (uw mt_L_J0_492 rfl) (vk_recv (eS hE) hi hS) hP hD hS hl.1 rfl rfl (Nat.zero_le _) ⟨by decide, by decide⟩ dJ0_charAt_5068e_1 (fun H locs hP hD hS => ?_)
  refine W.eq (g2 := F0 m 4 ls [.int 1]) rfl ?_
  refine lv_if_eq (tgt := 16) hx hb dJ0_charAt_5068e_4 (by decide) (fun h => absurd h (by decide)) (fun _ => ?_)
  refine lv_aload_n hx hb dJ0_charAt_5068e_7 rfl (lv_at hl 0 rfl) ?_
  refine vk_getf hx hb ((eS hE).1 i hi).2.2.1 hS hE.2.2.2.2.1 (hE.2.2.2.1 _ (uw mt_F_J0_9 rfl)) (fun _ h => h) dJ0_charAt_5068e_8 ?_
  refine lv_iload_n hx hb dJ0_charAt_5068e_11 rfl (lv_at hl 1 rfl) ?_
  refine call_S (As := [.ref (E.2.2.2 i), .int (nI j)]) (rest := []) hE (ct_J1_charAt l E ws i j hi hj) cm_J1_charAt_3b067 (uw mt_L_J0_495 rfl) hP hD hS hl.1 rfl rfl (Nat.zero_le _) ⟨by decide, by decide⟩ dJ0_charAt_5068e_12 (fun H locs hP hD hS => ?_)
  refine W.eq (g2 := F0 m 15 ls [.int (nI (sCh i j))]) rfl ?_
  have hnar : ∀ k, k < 128 → narrow .char (.int (nI k)) = .int (nI k) := by decide +kernel
  exact ret_z hE (hnar _ hch.2) rfl hP hD hS dJ0_charAt_5068e_15
