/-! POP: Long.bitCount and Integer.bitCount count the bits -/
set_option maxRecDepth 100000 in
theorem and_cat (a c b d : Nat) (hb : b < 256) (hd : d < 256) : (a * 256 + b) &&& (c * 256 + d) = (a &&& c) * 256 + (b &&& d) := by
  have hx : b &&& d < 2 ^ 8 := Nat.and_lt_two_pow b (by omega : d < 2 ^ 8)
  have e1 : a * 256 + b = 2 ^ 8 * a + b := by omega
  have e2 : c * 256 + d = 2 ^ 8 * c + d := by omega
  have e3 : (a &&& c) * 256 + (b &&& d) = 2 ^ 8 * (a &&& c) + (b &&& d) := by omega
  rw [e1, e2, e3]
  apply Nat.eq_of_testBit_eq
  intro i
  rw [Nat.testBit_and, Nat.testBit_two_pow_mul_add a (by omega : b < 2 ^ 8), Nat.testBit_two_pow_mul_add c (by omega : d < 2 ^ 8), Nat.testBit_two_pow_mul_add (a &&& c) hx]
  split
  · rw [Nat.testBit_and]
  · rw [Nat.testBit_and]
theorem and_56 {x M : Nat} (h : x < 2 ^ 56) : x &&& M = x &&& (M % 2 ^ 56) := by
  have h1 : x &&& M < 2 ^ 56 := Nat.lt_of_le_of_lt Nat.and_le_left h
  have h2 := Nat.and_mod_two_pow (a := x) (b := M) (n := 56)
  rw [Nat.mod_eq_of_lt h1, Nat.mod_eq_of_lt h] at h2
  exact h2
def pM1 : Nat := 6148914691236517205
def pM2 : Nat := 3689348814741910323
def pM4 : Nat := 1085102592571150095
def ps1 (x : Nat) : Nat := x - ((x / 2) &&& pM1)
def ps2 (x : Nat) : Nat := (x &&& pM2) + ((x / 4) &&& pM2)
def ps3 (x : Nat) : Nat := (x + x / 16) &&& pM4
theorem ps1_le (x : Nat) : (x / 2) &&& pM1 ≤ x := Nat.le_trans Nat.and_le_left (Nat.div_le_self _ _)
theorem pd1 : ∀ r, r < 2 → ∀ b, b < 256 → ((r * 128 + b / 2) &&& 85) = ((b / 2) &&& pM1) := by decide +kernel
theorem pd2 : ∀ r, r < 4 → ∀ b, b < 256 → ((r * 64 + b / 4) &&& 51) = ((b / 4) &&& pM2) := by decide +kernel
theorem pd2b : ∀ b, b < 256 → (b &&& 51) = (b &&& pM2) := by decide +kernel
theorem pd3 : ∀ r, r < 5 → ∀ b, b < 69 → ((b + (r * 16 + b / 16)) &&& 15) = ((b + b / 16) &&& pM4) := by decide +kernel
set_option maxRecDepth 100000 in
theorem ps1_cat {a b : Nat} (ha : a < 2 ^ 56) (hb : b < 256) : ps1 (a * 256 + b) = ps1 a * 256 + ps1 b := by
  unfold ps1
  have e : (a * 256 + b) / 2 = (a / 2) * 256 + (a % 2 * 128 + b / 2) := by omega
  have hm : pM1 = (pM1 % 2 ^ 56) * 256 + 85 := by decide
  have h1 : (a / 2 * 256 + (a % 2 * 128 + b / 2)) &&& pM1 = (a / 2 &&& pM1) * 256 + (b / 2 &&& pM1) := by
    rw [hm, and_cat _ _ _ _ (by omega) (by decide), ← and_56 (by omega), pd1 (a % 2) (by omega) b hb, ← hm]
  rw [e, h1]
  have := ps1_le a
  have := ps1_le b
  omega
set_option maxRecDepth 100000 in
theorem ps2_cat {a b : Nat} (ha : a < 2 ^ 56) (hb : b < 256) : ps2 (a * 256 + b) = ps2 a * 256 + ps2 b := by
  unfold ps2
  have e : (a * 256 + b) / 4 = (a / 4) * 256 + (a % 4 * 64 + b / 4) := by omega
  have hm : pM2 = (pM2 % 2 ^ 56) * 256 + 51 := by decide
  have h1 : (a / 4 * 256 + (a % 4 * 64 + b / 4)) &&& pM2 = (a / 4 &&& pM2) * 256 + (b / 4 &&& pM2) := by
    rw [hm, and_cat _ _ _ _ (by omega) (by decide), ← and_56 (by omega), pd2 (a % 4) (by omega) b hb, ← hm]
  have h2 : (a * 256 + b) &&& pM2 = (a &&& pM2) * 256 + (b &&& pM2) := by
    rw [hm, and_cat _ _ _ _ (by omega) (by decide), ← and_56 (by omega), pd2b b hb, ← hm]
  rw [e, h1, h2]
  omega
set_option maxRecDepth 100000 in
theorem ps3_cat {a b : Nat} (ha : a < 2 ^ 54) (ha2 : a % 16 < 5) (hb : b < 69) : ps3 (a * 256 + b) = ps3 a * 256 + ps3 b := by
  unfold ps3
  have e : a * 256 + b + (a * 256 + b) / 16 = (a + a / 16) * 256 + (b + (a % 16 * 16 + b / 16)) := by omega
  have hm : pM4 = (pM4 % 2 ^ 56) * 256 + 15 := by decide
  rw [e]
  have h1 : ((a + a / 16) * 256 + (b + (a % 16 * 16 + b / 16))) &&& pM4 = (a + a / 16 &&& pM4) * 256 + (b + b / 16 &&& pM4) := by
    rw [hm, and_cat _ _ _ _ (by omega) (by decide), ← and_56 (by omega), pd3 (a % 16) (by omega) b hb, ← hm]
  exact h1
def pby (b : Nat) : Nat := ps3 (ps2 (ps1 b))
theorem pby_c : ∀ b, b < 256 → ps1 b < 256 ∧ ps2 (ps1 b) < 69 ∧ ps2 (ps1 b) % 16 < 5 ∧ pby b = cnt (fun v => b.testBit v) 8 ∧ pby b ≤ 8 := by decide +kernel
theorem cnt_shift (P : Nat → Bool) : ∀ n, cnt P (n + 8) = cnt P 8 + cnt (fun v => P (v + 8)) n := by
  intro n
  induction n with
  | zero => rfl
  | succ n ih =>
    have e1 : cnt P (n + 8 + 1) = cnt P (n + 8) + (if P (n + 8) = true then 1 else 0) := rfl
    have e2 : cnt (fun v => P (v + 8)) (n + 1) = cnt (fun v => P (v + 8)) n + (if P (n + 8) = true then 1 else 0) := rfl
    show cnt P (n + 8 + 1) = _
    rw [e1, e2, ih, Nat.add_assoc]
set_option maxRecDepth 100000 in
theorem cnt_cat (a b n : Nat) (hb : b < 256) : cnt (fun v => (a * 256 + b).testBit v) (n + 8) = cnt (fun v => b.testBit v) 8 + cnt (fun v => a.testBit v) n := by
  rw [cnt_shift]
  have e : a * 256 + b = 2 ^ 8 * a + b := by omega
  congr 1
  · exact cnt_congr 8 (fun u hu => by rw [e, Nat.testBit_two_pow_mul_add a (by omega : b < 2 ^ 8), if_pos hu])
  · exact cnt_congr n (fun u hu => by rw [e, Nat.testBit_two_pow_mul_add a (by omega : b < 2 ^ 8), if_neg (by omega), show u + 8 - 8 = u by omega])
theorem cnt_zero (n : Nat) : cnt (fun v => (0 : Nat).testBit v) n = 0 := by
  induction n with
  | zero => rfl
  | succ n ih => rw [cnt_f (Nat.zero_testBit n), ih]
/-- one byte more in front -/
def pok (a k : Nat) : Prop := a < 2 ^ 48 ∧ ps1 a ≤ a ∧ ps2 (ps1 a) < 2 ^ 50 ∧ ps2 (ps1 a) % 16 < 5
theorem ps1_le2 (x : Nat) : ps1 x ≤ x := Nat.sub_le _ _
theorem ps2_le (x : Nat) : ps2 x ≤ x + x / 4 := Nat.add_le_add Nat.and_le_left Nat.and_le_left
theorem ps3_le (x : Nat) : ps3 x ≤ x + x / 16 := Nat.and_le_left
set_option maxRecDepth 100000 in
theorem p_cat {a b : Nat} (ha : a < 2 ^ 48) (h16 : ps2 (ps1 a) % 16 < 5) (hb : b < 256) : ps3 (ps2 (ps1 (a * 256 + b))) = ps3 (ps2 (ps1 a)) * 256 + pby b ∧ ps2 (ps1 (a * 256 + b)) % 16 < 5 := by
  obtain ⟨c1, c2, c3, c4, c5⟩ := pby_c b hb
  have l1 := ps1_le2 a
  have l2 := ps2_le (ps1 a)
  rw [ps1_cat (by omega) hb, ps2_cat (by omega) c1]
  refine ⟨ps3_cat (by omega) h16 c2, by omega⟩
set_option maxRecDepth 100000 in
theorem p_all {m : Nat} (hm : m < 2 ^ 48) : ∃ b0 b1 b2 b3 b4 b5, b0 ≤ 8 ∧ b1 ≤ 8 ∧ b2 ≤ 8 ∧ b3 ≤ 8 ∧ b4 ≤ 8 ∧ b5 ≤ 8 ∧ ps3 (ps2 (ps1 m)) = ((((b5 * 256 + b4) * 256 + b3) * 256 + b2) * 256 + b1) * 256 + b0 ∧ pc m = b0 + b1 + b2 + b3 + b4 + b5 := by
  have e : m = ((((m / 1099511627776 * 256 + m / 4294967296 % 256) * 256 + m / 16777216 % 256) * 256 + m / 65536 % 256) * 256 + m / 256 % 256) * 256 + m % 256 := by omega
  have h5 : m / 1099511627776 < 256 := by omega
  have h4 : m / 4294967296 % 256 < 256 := by omega
  have h3 : m / 16777216 % 256 < 256 := by omega
  have h2 : m / 65536 % 256 < 256 := by omega
  have h1 : m / 256 % 256 < 256 := by omega
  have h0 : m % 256 < 256 := by omega
  generalize m / 1099511627776 = a5 at e h5
  generalize m / 4294967296 % 256 = a4 at e h4
  generalize m / 16777216 % 256 = a3 at e h3
  generalize m / 65536 % 256 = a2 at e h2
  generalize m / 256 % 256 = a1 at e h1
  generalize m % 256 = a0 at e h0
  subst e
  have q5 := pby_c a5 h5
  have q4 := p_cat (a := a5) (by omega) q5.2.2.1 h4
  have q3 := p_cat (a := a5 * 256 + a4) (by omega) q4.2 h3
  have q2 := p_cat (a := (a5 * 256 + a4) * 256 + a3) (by omega) q3.2 h2
  have q1 := p_cat (a := ((a5 * 256 + a4) * 256 + a3) * 256 + a2) (by omega) q2.2 h1
  have q0 := p_cat (a := (((a5 * 256 + a4) * 256 + a3) * 256 + a2) * 256 + a1) (by omega) q1.2 h0
  refine ⟨pby a0, pby a1, pby a2, pby a3, pby a4, pby a5, (pby_c a0 h0).2.2.2.2, (pby_c a1 h1).2.2.2.2, (pby_c a2 h2).2.2.2.2, (pby_c a3 h3).2.2.2.2, (pby_c a4 h4).2.2.2.2, q5.2.2.2.2, ?_, ?_⟩
  · rw [q0.1, q1.1, q2.1, q3.1, q4.1]
    rfl
  · unfold pc
    rw [cnt_cat _ a0 56 h0, cnt_cat _ a1 48 h1, cnt_cat _ a2 40 h2, cnt_cat _ a3 32 h3, cnt_cat _ a4 24 h4]
    have z := cnt_cat 0 a5 16 h5
    rw [Nat.zero_mul, Nat.zero_add, cnt_zero] at z
    show _ + (_ + (_ + (_ + (_ + cnt _ (16 + 8))))) = _
    rw [z, (pby_c a0 h0).2.2.2.1, (pby_c a1 h1).2.2.2.1, (pby_c a2 h2).2.2.2.1, (pby_c a3 h3).2.2.2.1, (pby_c a4 h4).2.2.2.1, q5.2.2.2.1]
    omega
set_option maxRecDepth 100000 in
theorem pop_ok {m x3 x4 x5 : Nat} (hm : m < 2 ^ 48) (h3 : x3 = ps3 (ps2 (ps1 m))) (h4 : x4 = x3 + x3 / 256) (h5 : x5 = x4 + x4 / 65536) : (x5 + x5 / 4294967296) % 128 = pc m := by
  obtain ⟨b0, b1, b2, b3, b4, b5, l0, l1, l2, l3, l4, l5, e, hp⟩ := p_all hm
  rw [e] at h3
  have e4 : x4 = (((((b5 * 256 + (b4 + b5)) * 256 + (b3 + b4)) * 256 + (b2 + b3)) * 256 + (b1 + b2)) * 256 + (b0 + b1)) := by omega
  have e5 : x5 = (((((b5 * 256 + (b4 + b5)) * 256 + (b3 + b4 + b5)) * 256 + (b2 + b3 + (b4 + b5))) * 256 + (b1 + b2 + (b3 + b4))) * 256 + (b0 + b1 + (b2 + b3))) := by omega
  have e6 : x5 / 4294967296 = b5 * 256 + (b4 + b5) := by omega
  rw [hp, e6, e5]
  omega
theorem nI_and127 (a : Nat) : nI a &&& nI 127 = nI (a % 128) := by
  rw [nI_and]
  congr 1
  exact Nat.and_two_pow_sub_one_eq_mod a 7
def ip (n : Nat) : Int32 :=
  let a := nI n - ((((nI n).toUInt32 >>> ((nI 1).toUInt32 &&& Int32.toUInt32 31)).toInt32) &&& 1431655765)
  let b := (a &&& 858993459) + ((((a).toUInt32 >>> ((nI 2).toUInt32 &&& Int32.toUInt32 31)).toInt32) &&& 858993459)
  let c := (b + (((b).toUInt32 >>> ((nI 4).toUInt32 &&& Int32.toUInt32 31)).toInt32)) &&& 252645135
  let d := c + (((c).toUInt32 >>> ((nI 8).toUInt32 &&& Int32.toUInt32 31)).toInt32)
  let f := d + (((d).toUInt32 >>> ((nI 16).toUInt32 &&& Int32.toUInt32 31)).toInt32)
  f &&& nI 63
set_option maxRecDepth 100000 in
theorem ip_ok : ∀ n, n < 64 → ip n = nI (pc n) := by decide +kernel

set_option maxHeartbeats 4000000 in
set_option maxRecDepth 100000 in
theorem ct_J9_floorMod_7cf53 (l : Launch) (E : cE) (ws : va_W) (x y : Nat) (hx0 : x < 48) (hy0 : y < 48) : Ct l E 0 yJ9_floorMod_7cf53 cJ9_floorMod_7cf53 3 (some .int) [.int (nI x - nI y), .int (nI (48))] ws (some (.int (nI (fm x y)))) ws := by
  refine Ct_of (by decide +kernel) (Nat.le_of_ble_eq_true rfl) ?_
  intro p e s m args below meth c A ls hE hP hD hS hl
  have hE : cEnv p s m args meth c E RJ9 cJ9_floorMod_7cf53 3 (some .int) A := hE
  have hx := hE.1
  have hb := hE.2.1
  have hl : lv_has ls 3 [(0, .int (nI x - nI y)), (1, .int (nI (48)))] := hl
  generalize hH : s.heap = H at hP hS ⊢
  have hS : va_S A s.heap H [] := by rw [hH]; exact hS
  clear hH
  refine lv_iload_n hx hb dJ9_floorMod_7cf53_0 rfl (lv_at hl 0 rfl) ?_
  refine lv_iload_n hx hb dJ9_floorMod_7cf53_1 rfl (lv_at hl 1 rfl) ?_
  refine lv_irem hx hb dJ9_floorMod_7cf53_2 (nI_ne0 (by omega) (by omega)) ?_
  refine tp (fm_rem x hx0 y hy0) ?_
  refine lv_istore_n (lv' := [(2, .int (nI x - nI y)), (0, .int (nI x - nI y)), (1, .int (nI (48)))]) hx hb dJ9_floorMod_7cf53_3 rfl hl (by decide) rfl (fun ls hl => ?_)
  refine lv_iload_n hx hb dJ9_floorMod_7cf53_4 rfl (lv_at hl 1 rfl) ?_
  refine lv_iload_n hx hb dJ9_floorMod_7cf53_5 rfl (lv_at hl 2 rfl) ?_
  refine lv_ixor hx hb dJ9_floorMod_7cf53_6 ?_
  refine lv_if_ge (tgt := 18) hx hb dJ9_floorMod_7cf53_7 (by decide) (fun c7 => ?_) (fun c7 => ?_)
  · refine lv_iload_n hx hb dJ9_floorMod_7cf53_18 rfl (lv_at hl 0 rfl) ?_
    exact ret_i hE (r := (nI x - nI y)) (by first | rw [fm_sub x hx0 y hy0 ((fm_xor x hx0 y hy0).mp c7)] | rw [fm_sub x hx0 y hy0 (Nat.le_of_eq ((fm_eq x hx0 y hy0).mp c11).symm)]) hP hD hS dJ9_floorMod_7cf53_19
  · refine lv_iload_n hx hb dJ9_floorMod_7cf53_10 rfl (lv_at hl 0 rfl) ?_
    refine lv_if_eq (tgt := 18) hx hb dJ9_floorMod_7cf53_11 (by decide) (fun c11 => ?_) (fun c11 => ?_)
    · refine lv_iload_n hx hb dJ9_floorMod_7cf53_18 rfl (lv_at hl 0 rfl) ?_
      exact ret_i hE (r := (nI x - nI y)) (by first | rw [fm_sub x hx0 y hy0 ((fm_xor x hx0 y hy0).mp c7)] | rw [fm_sub x hx0 y hy0 (Nat.le_of_eq ((fm_eq x hx0 y hy0).mp c11).symm)]) hP hD hS dJ9_floorMod_7cf53_19
    · refine lv_iload_n hx hb dJ9_floorMod_7cf53_14 rfl (lv_at hl 0 rfl) ?_
      refine lv_iload_n hx hb dJ9_floorMod_7cf53_15 rfl (lv_at hl 2 rfl) ?_
      refine lv_iadd hx hb dJ9_floorMod_7cf53_16 ?_
      exact ret_i hE (r := (((nI x - nI y)) + (nI (48)))) (by rw [fm_add x hx0 y hy0 (Nat.not_le.mp (fun z => c7 ((fm_xor x hx0 y hy0).mpr z)))]) hP hD hS dJ9_floorMod_7cf53_17

set_option maxHeartbeats 4000000 in
set_option maxRecDepth 100000 in
theorem ct_J7_fill (l : Launch) (E : cE) (ws : va_W) (q0 o n v : Nat) (g : Nat → Nat) (hq : ws[q0]? = some (o, .inl (E.2.1 1, n, .inl (fun j => nI (g j))))) (hn : n < 2 ^ 30) : Ct l E 0 yJ7_fill_53178 cJ7_fill_53178 4 none [.ref o, .int (nI v)] ws none (ws.set q0 (o, .inl (E.2.1 1, n, .inl (fun j => nI (flN g n v j))))) := by
  refine Ct_of (by decide +kernel) (Nat.le_of_ble_eq_true rfl) ?_
  intro p e s m args below meth c A ls hE hP hD hS hl
  have hE : cEnv p s m args meth c E RJ7 cJ7_fill_53178 4 none A := hE
  have hx := hE.1
  have hb := hE.2.1
  have hl : lv_has ls 4 [(0, .ref o), (1, .int (nI v))] := hl
  generalize hH : s.heap = H at hP hS ⊢
  have hS : va_S A s.heap H [] := by rw [hH]; exact hS
  clear hH
  have hlt : q0 < ws.length := (List.getElem?_eq_some_iff.mp hq).1
  have hset : ∀ k, (ws.set q0 (o, .inl (E.2.1 1, n, .inl (fun j => nI (flN g k v j)))))[q0]? = some (o, .inl (E.2.1 1, n, .inl (fun j => nI (flN g k v j)))) := fun k => List.getElem?_set_self hlt
  have h0 : ws.set q0 (o, .inl (E.2.1 1, n, .inl (fun j => nI (flN g 0 v j)))) = ws := by
    have e : (fun j => nI (flN g 0 v j)) = fun j => nI (g j) := by funext j; unfold flN; rw [if_neg (by omega)]
    rw [e]
    apply List.ext_getElem?
    intro i
    by_cases hi : q0 = i
    · subst hi; rw [List.getElem?_set_self hlt, hq]
    · rw [List.getElem?_set_ne hi]
  rw [← h0] at hP hD
  refine lv_iconst (v := nI 0) hx hb dJ7_fill_53178_0 (by decide) ?_
  refine lv_istore_n (lv' := [(2, .int (nI 0)), (0, .ref o), (1, .int (nI v))]) hx hb dJ7_fill_53178_1 rfl hl (by decide) rfl (fun ls hl => ?_)
  refine lv_aload_n hx hb dJ7_fill_53178_2 rfl (lv_at hl 1 rfl) ?_
  refine va_alen (v := nI n) hx hb hE.2.2.2.2.2.2.1 hP q0 1 (hset 0) rfl rfl dJ7_fill_53178_3 ?_
  refine lv_istore_n (lv' := [(3, .int (nI n)), (2, .int (nI 0)), (0, .ref o), (1, .int (nI v))]) hx hb dJ7_fill_53178_4 rfl hl (by decide) rfl (fun ls hl => ?_)
  have loop : ∀ (fu : Nat) (i : Nat), n - i < fu → i ≤ n → ∀ (ls : Array Slot) (H : Heap) (locs : List Loc), lv_has ls 4 [(0, .ref o), (1, .int (nI v)), (2, .int (nI i)), (3, .int (nI n))] → va_P E.1 vwCl (ws.set q0 (o, .inl (E.2.1 1, n, .inl (fun j => nI (flN g i v j))))) H → va_D A (ws.set q0 (o, .inl (E.2.1 1, n, .inl (fun j => nI (flN g i v j))))) → va_S A s.heap H locs → W p l e (rmL 0) s m args below meth c H locs 0 0 (RQ E below args s A none (ws.set q0 (o, .inl (E.2.1 1, n, .inl (fun j => nI (flN g n v j)))))) (F0 m 5 ls []) := by
    intro fu
    induction fu with
    | zero => intro i h; exact absurd h (Nat.not_lt_zero _)
    | succ fu ih =>
      intro i hfu hi ls H locs hl hP hD hS
      refine lv_iload_n hx hb dJ7_fill_53178_5 rfl (lv_at hl 2 rfl) ?_
      refine lv_iload_n hx hb dJ7_fill_53178_6 rfl (lv_at hl 3 rfl) ?_
      refine bN_ge (tgt := 20) hx hb (by omega) (by omega) dJ7_fill_53178_7 (by decide) (fun c7 => ?_) (fun c7 => ?_)
      · rw [show i = n by omega] at hP hD
        exact ret_v hE rfl hP hD hS dJ7_fill_53178_20
      · refine lv_aload_n hx hb dJ7_fill_53178_10 rfl (lv_at hl 0 rfl) ?_
        refine lv_iload_n hx hb dJ7_fill_53178_11 rfl (lv_at hl 2 rfl) ?_
        refine lv_iload_n hx hb dJ7_fill_53178_12 rfl (lv_at hl 1 rfl) ?_
        have hnext : (ws.set q0 (o, .inl (E.2.1 1, n, .inl (fun j => nI (flN g i v j))))).set q0 (o, .inl (E.2.1 1, n, .inl (upd (fun j => nI (flN g i v j)) i (nI v)))) = ws.set q0 (o, .inl (E.2.1 1, n, .inl (fun j => nI (flN g (i + 1) v j)))) := by
          rw [List.set_set, upd_nI]
          have e : upN (flN g i v) i v = flN g (i + 1) v := by
            funext j
            unfold upN flN
            by_cases h1 : j = i
            · rw [if_pos h1, if_pos (by omega)]
            · rw [if_neg h1]
              by_cases h2 : j < i
              · rw [if_pos h2, if_pos (by omega)]
              · rw [if_neg h2, if_neg (by omega)]
          rw [e]
        refine ast_i hE hP hD hS q0 (hset i) c7 (by omega) hnext dJ7_fill_53178_13 (fun H locs hP hD hS => ?_)
        refine lv_iinc (v := nI (i + 1)) (lv' := [(2, .int (nI (i + 1))), (0, .ref o), (1, .int (nI v)), (3, .int (nI n))]) hx hb dJ7_fill_53178_14 hl (k := 2) rfl (ii1_N _) (by decide) rfl (fun ls hl => ?_)
        refine lv_goto (tgt := 5) hx hb dJ7_fill_53178_17 (by decide) ?_
        exact ih (i + 1) (by omega) (by omega) ls _ _ (lv_sub hl [1, 2, 0, 3] rfl) hP hD hS
  exact loop (n + 1) 0 (by omega) (by omega) ls _ _ (lv_sub hl [2, 3, 1, 0] rfl) hP hD hS

set_option maxHeartbeats 4000000 in
set_option maxRecDepth 100000 in
theorem ct_J13_bitCount_95d88 (l : Launch) (E : cE) (ws : va_W) (mm : Nat) (hm : mm < 2 ^ 48) : Ct l E 0 yJ13_bitCount_95d88 cJ13_bitCount_95d88 2 (some .int) [.long (lN (mm))] ws (some (.int (nI (pc mm)))) ws := by
  refine Ct_of (by decide +kernel) (Nat.le_of_ble_eq_true rfl) ?_
  intro p e s m args below meth c A ls hE hP hD hS hl
  have hE : cEnv p s m args meth c E RJ13 cJ13_bitCount_95d88 2 (some .int) A := hE
  have hx := hE.1
  have hb := hE.2.1
  have hl : lv_has ls 2 [(0, .long (lN (mm)))] := hl
  generalize hH : s.heap = H at hP hS ⊢
  have hS : va_S A s.heap H [] := by rw [hH]; exact hS
  clear hH
  refine lv_lload_n hx hb dJ13_bitCount_95d88_0 rfl (lv_at hl 0 rfl) ?_
  refine lv_lload_n hx hb dJ13_bitCount_95d88_1 rfl (lv_at hl 0 rfl) ?_
  refine lv_iconst (v := nI (1)) hx hb dJ13_bitCount_95d88_2 (by decide) ?_
  refine lv_lushr (v := lN ((mm) / 2 ^ 1)) hx hb dJ13_bitCount_95d88_3 (wb_shr (by omega) (by omega)) ?_
  refine lv_ldc2 (v := lN 6148914691236517205) hx hb hE.2.2.2.2.1 (hE.2.2.2.1 _ (uw mt_K_J13_314 rfl)) dJ13_bitCount_95d88_4 ?_
  refine lv_land hx hb dJ13_bitCount_95d88_7 ?_
  refine tpl (wb_and (by omega) (by omega)) ?_
  refine lv_lsub hx hb dJ13_bitCount_95d88_8 ?_
  refine tpl (lN_sub (ps1_le mm)) ?_
  refine lv_lstore_n (lv' := [(0, .long (lN ((mm) - (((mm) / 2 ^ 1) &&& (6148914691236517205)))))]) hx hb dJ13_bitCount_95d88_9 rfl hl (by decide) rfl (fun ls hl => ?_)
  obtain ⟨x1, hx1⟩ : ∃ y : Nat, y = (mm) - (((mm) / 2 ^ 1) &&& (6148914691236517205)) := ⟨_, rfl⟩
  rw [← hx1] at hl
  have hx1 : x1 = ps1 mm := hx1
  have l1 := ps1_le2 mm
  refine lv_lload_n hx hb dJ13_bitCount_95d88_10 rfl (lv_at hl 0 rfl) ?_
  refine lv_ldc2 (v := lN 3689348814741910323) hx hb hE.2.2.2.2.1 (hE.2.2.2.1 _ (uw mt_K_J13_316 rfl)) dJ13_bitCount_95d88_11 ?_
  refine lv_land hx hb dJ13_bitCount_95d88_14 ?_
  refine tpl (wb_and (by omega) (by omega)) ?_
  refine lv_lload_n hx hb dJ13_bitCount_95d88_15 rfl (lv_at hl 0 rfl) ?_
  refine lv_iconst (v := nI (2)) hx hb dJ13_bitCount_95d88_16 (by decide) ?_
  refine lv_lushr (v := lN ((x1) / 2 ^ 2)) hx hb dJ13_bitCount_95d88_17 (wb_shr (by omega) (by omega)) ?_
  refine lv_ldc2 (v := lN 3689348814741910323) hx hb hE.2.2.2.2.1 (hE.2.2.2.1 _ (uw mt_K_J13_316 rfl)) dJ13_bitCount_95d88_18 ?_
  refine lv_land hx hb dJ13_bitCount_95d88_21 ?_
  refine tpl (wb_and (by omega) (by omega)) ?_
  refine lv_ladd hx hb dJ13_bitCount_95d88_22 ?_
  refine tpl (lN_add _ _) ?_
  refine lv_lstore_n (lv' := [(0, .long (lN (((x1) &&& (3689348814741910323)) + (((x1) / 2 ^ 2) &&& (3689348814741910323)))))]) hx hb dJ13_bitCount_95d88_23 rfl hl (by decide) rfl (fun ls hl => ?_)
  obtain ⟨x2, hx2⟩ : ∃ y : Nat, y = ((x1) &&& (3689348814741910323)) + (((x1) / 2 ^ 2) &&& (3689348814741910323)) := ⟨_, rfl⟩
  rw [← hx2] at hl
  have hx2 : x2 = ps2 (ps1 mm) := by rw [hx2, hx1]; rfl
  have l2 := ps2_le (ps1 mm)
  refine lv_lload_n hx hb dJ13_bitCount_95d88_24 rfl (lv_at hl 0 rfl) ?_
  refine lv_lload_n hx hb dJ13_bitCount_95d88_25 rfl (lv_at hl 0 rfl) ?_
  refine lv_iconst (v := nI (4)) hx hb dJ13_bitCount_95d88_26 (by decide) ?_
  refine lv_lushr (v := lN ((x2) / 2 ^ 4)) hx hb dJ13_bitCount_95d88_27 (wb_shr (by omega) (by omega)) ?_
  refine lv_ladd hx hb dJ13_bitCount_95d88_28 ?_
  refine tpl (lN_add _ _) ?_
  refine lv_ldc2 (v := lN 1085102592571150095) hx hb hE.2.2.2.2.1 (hE.2.2.2.1 _ (uw mt_K_J13_318 rfl)) dJ13_bitCount_95d88_29 ?_
  refine lv_land hx hb dJ13_bitCount_95d88_32 ?_
  refine tpl (wb_and (by omega) (by omega)) ?_
  refine lv_lstore_n (lv' := [(0, .long (lN (((x2) + ((x2) / 2 ^ 4)) &&& (1085102592571150095))))]) hx hb dJ13_bitCount_95d88_33 rfl hl (by decide) rfl (fun ls hl => ?_)
  obtain ⟨x3, hx3⟩ : ∃ y : Nat, y = ((x2) + ((x2) / 2 ^ 4)) &&& (1085102592571150095) := ⟨_, rfl⟩
  rw [← hx3] at hl
  have hx3 : x3 = ps3 (ps2 (ps1 mm)) := by rw [hx3, hx2]; rfl
  have l3 := ps3_le (ps2 (ps1 mm))
  refine lv_lload_n hx hb dJ13_bitCount_95d88_34 rfl (lv_at hl 0 rfl) ?_
  refine lv_lload_n hx hb dJ13_bitCount_95d88_35 rfl (lv_at hl 0 rfl) ?_
  refine lv_bipush (v := nI (8)) hx hb dJ13_bitCount_95d88_36 (by decide) ?_
  refine lv_lushr (v := lN ((x3) / 2 ^ 8)) hx hb dJ13_bitCount_95d88_38 (wb_shr (by omega) (by omega)) ?_
  refine lv_ladd hx hb dJ13_bitCount_95d88_39 ?_
  refine tpl (lN_add _ _) ?_
  refine lv_lstore_n (lv' := [(0, .long (lN ((x3) + ((x3) / 2 ^ 8))))]) hx hb dJ13_bitCount_95d88_40 rfl hl (by decide) rfl (fun ls hl => ?_)
  obtain ⟨x4, hx4⟩ : ∃ y : Nat, y = (x3) + ((x3) / 2 ^ 8) := ⟨_, rfl⟩
  rw [← hx4] at hl
  refine lv_lload_n hx hb dJ13_bitCount_95d88_41 rfl (lv_at hl 0 rfl) ?_
  refine lv_lload_n hx hb dJ13_bitCount_95d88_42 rfl (lv_at hl 0 rfl) ?_
  refine lv_bipush (v := nI (16)) hx hb dJ13_bitCount_95d88_43 (by decide) ?_
  refine lv_lushr (v := lN ((x4) / 2 ^ 16)) hx hb dJ13_bitCount_95d88_45 (wb_shr (by omega) (by omega)) ?_
  refine lv_ladd hx hb dJ13_bitCount_95d88_46 ?_
  refine tpl (lN_add _ _) ?_
  refine lv_lstore_n (lv' := [(0, .long (lN ((x4) + ((x4) / 2 ^ 16))))]) hx hb dJ13_bitCount_95d88_47 rfl hl (by decide) rfl (fun ls hl => ?_)
  obtain ⟨x5, hx5⟩ : ∃ y : Nat, y = (x4) + ((x4) / 2 ^ 16) := ⟨_, rfl⟩
  rw [← hx5] at hl
  refine lv_lload_n hx hb dJ13_bitCount_95d88_48 rfl (lv_at hl 0 rfl) ?_
  refine lv_lload_n hx hb dJ13_bitCount_95d88_49 rfl (lv_at hl 0 rfl) ?_
  refine lv_bipush (v := nI (32)) hx hb dJ13_bitCount_95d88_50 (by decide) ?_
  refine lv_lushr (v := lN ((x5) / 2 ^ 32)) hx hb dJ13_bitCount_95d88_52 (wb_shr (by omega) (by omega)) ?_
  refine lv_ladd hx hb dJ13_bitCount_95d88_53 ?_
  refine tpl (lN_add _ _) ?_
  refine lv_lstore_n (lv' := [(0, .long (lN ((x5) + ((x5) / 2 ^ 32))))]) hx hb dJ13_bitCount_95d88_54 rfl hl (by decide) rfl (fun ls hl => ?_)
  obtain ⟨x6, hx6⟩ : ∃ y : Nat, y = (x5) + ((x5) / 2 ^ 32) := ⟨_, rfl⟩
  rw [← hx6] at hl
  refine lv_lload_n hx hb dJ13_bitCount_95d88_55 rfl (lv_at hl 0 rfl) ?_
  refine lv_l2i (v := (lN (x6)).toInt32) hx hb dJ13_bitCount_95d88_56 rfl ?_
  refine tp (lN_i x6) ?_
  refine lv_bipush (v := nI (127)) hx hb dJ13_bitCount_95d88_57 (by decide) ?_
  refine lv_iand hx hb dJ13_bitCount_95d88_59 ?_
  refine tp (nI_and127 x6) ?_
  exact ret_i hE (r := nI ((x6) % (128))) (by rw [hx6, pop_ok hm hx3 hx4 hx5]) hP hD hS dJ13_bitCount_95d88_60

set_option maxHeartbeats 4000000 in
set_option maxRecDepth 100000 in
theorem ct_J6_bitCount_0f7a4 (l : Launch) (E : cE) (ws : va_W) (n : Nat) (hn : n < 64) : Ct l E 0 yJ6_bitCount_0f7a4 cJ6_bitCount_0f7a4 1 (some .int) [.int (nI (n))] ws (some (.int (nI (pc n)))) ws := by
  refine Ct_of (by decide +kernel) (Nat.le_of_ble_eq_true rfl) ?_
  intro p e s m args below meth c A ls hE hP hD hS hl
  have hE : cEnv p s m args meth c E RJ6 cJ6_bitCount_0f7a4 1 (some .int) A := hE
  have hx := hE.1
  have hb := hE.2.1
  have hl : lv_has ls 1 [(0, .int (nI (n)))] := hl
  generalize hH : s.heap = H at hP hS ⊢
  have hS : va_S A s.heap H [] := by rw [hH]; exact hS
  clear hH
  refine lv_iload_n hx hb dJ6_bitCount_0f7a4_0 rfl (lv_at hl 0 rfl) ?_
  refine lv_iload_n hx hb dJ6_bitCount_0f7a4_1 rfl (lv_at hl 0 rfl) ?_
  refine lv_iconst (v := nI (1)) hx hb dJ6_bitCount_0f7a4_2 (by decide) ?_
  refine lv_iushr (v := ((nI (n)).toUInt32 >>> ((nI (1)).toUInt32 &&& Int32.toUInt32 31)).toInt32) hx hb dJ6_bitCount_0f7a4_3 rfl ?_
  refine lv_ldcw (v := 1431655765) hx hb hE.2.2.2.2.1 (hE.2.2.2.1 _ (uw mt_K_J6_265 rfl)) dJ6_bitCount_0f7a4_4 ?_
  refine lv_iand hx hb dJ6_bitCount_0f7a4_7 ?_
  refine lv_isub hx hb dJ6_bitCount_0f7a4_8 ?_
  refine lv_istore_n (lv' := [(0, .int ((nI (n)) - ((((((nI (n)).toUInt32 >>> ((nI (1)).toUInt32 &&& Int32.toUInt32 31)).toInt32)) &&& ((1431655765))))))]) hx hb dJ6_bitCount_0f7a4_9 rfl hl (by decide) rfl (fun ls hl => ?_)
  refine lv_iload_n hx hb dJ6_bitCount_0f7a4_10 rfl (lv_at hl 0 rfl) ?_
  refine lv_ldcw (v := 858993459) hx hb hE.2.2.2.2.1 (hE.2.2.2.1 _ (uw mt_K_J6_266 rfl)) dJ6_bitCount_0f7a4_11 ?_
  refine lv_iand hx hb dJ6_bitCount_0f7a4_14 ?_
  refine lv_iload_n hx hb dJ6_bitCount_0f7a4_15 rfl (lv_at hl 0 rfl) ?_
  refine lv_iconst (v := nI (2)) hx hb dJ6_bitCount_0f7a4_16 (by decide) ?_
  refine lv_iushr (v := ((((nI (n)) - ((((((nI (n)).toUInt32 >>> ((nI (1)).toUInt32 &&& Int32.toUInt32 31)).toInt32)) &&& ((1431655765)))))).toUInt32 >>> ((nI (2)).toUInt32 &&& Int32.toUInt32 31)).toInt32) hx hb dJ6_bitCount_0f7a4_17 rfl ?_
  refine lv_ldcw (v := 858993459) hx hb hE.2.2.2.2.1 (hE.2.2.2.1 _ (uw mt_K_J6_266 rfl)) dJ6_bitCount_0f7a4_18 ?_
  refine lv_iand hx hb dJ6_bitCount_0f7a4_21 ?_
  refine lv_iadd hx hb dJ6_bitCount_0f7a4_22 ?_
  refine lv_istore_n (lv' := [(0, .int ((((((nI (n)) - ((((((nI (n)).toUInt32 >>> ((nI (1)).toUInt32 &&& Int32.toUInt32 31)).toInt32)) &&& ((1431655765)))))) &&& ((858993459)))) + ((((((((nI (n)) - ((((((nI (n)).toUInt32 >>> ((nI (1)).toUInt32 &&& Int32.toUInt32 31)).toInt32)) &&& ((1431655765)))))).toUInt32 >>> ((nI (2)).toUInt32 &&& Int32.toUInt32 31)).toInt32)) &&& ((858993459))))))]) hx hb dJ6_bitCount_0f7a4_23 rfl hl (by decide) rfl (fun ls hl => ?_)
  refine lv_iload_n hx hb dJ6_bitCount_0f7a4_24 rfl (lv_at hl 0 rfl) ?_
  refine lv_iload_n hx hb dJ6_bitCount_0f7a4_25 rfl (lv_at hl 0 rfl) ?_
  refine lv_iconst (v := nI (4)) hx hb dJ6_bitCount_0f7a4_26 (by decide) ?_
  refine lv_iushr (v := ((((((((nI (n)) - ((((((nI (n)).toUInt32 >>> ((nI (1)).toUInt32 &&& Int32.toUInt32 31)).toInt32)) &&& ((1431655765)))))) &&& ((858993459)))) + ((((((((nI (n)) - ((((((nI (n)).toUInt32 >>> ((nI (1)).toUInt32 &&& Int32.toUInt32 31)).toInt32)) &&& ((1431655765)))))).toUInt32 >>> ((nI (2)).toUInt32 &&& Int32.toUInt32 31)).toInt32)) &&& ((858993459)))))).toUInt32 >>> ((nI (4)).toUInt32 &&& Int32.toUInt32 31)).toInt32) hx hb dJ6_bitCount_0f7a4_27 rfl ?_
  refine lv_iadd hx hb dJ6_bitCount_0f7a4_28 ?_
  refine lv_ldcw (v := 252645135) hx hb hE.2.2.2.2.1 (hE.2.2.2.1 _ (uw mt_K_J6_267 rfl)) dJ6_bitCount_0f7a4_29 ?_
  refine lv_iand hx hb dJ6_bitCount_0f7a4_32 ?_
  refine lv_istore_n (lv' := [(0, .int ((((((((((nI (n)) - ((((((nI (n)).toUInt32 >>> ((nI (1)).toUInt32 &&& Int32.toUInt32 31)).toInt32)) &&& ((1431655765)))))) &&& ((858993459)))) + ((((((((nI (n)) - ((((((nI (n)).toUInt32 >>> ((nI (1)).toUInt32 &&& Int32.toUInt32 31)).toInt32)) &&& ((1431655765)))))).toUInt32 >>> ((nI (2)).toUInt32 &&& Int32.toUInt32 31)).toInt32)) &&& ((858993459)))))) + ((((((((((nI (n)) - ((((((nI (n)).toUInt32 >>> ((nI (1)).toUInt32 &&& Int32.toUInt32 31)).toInt32)) &&& ((1431655765)))))) &&& ((858993459)))) + ((((((((nI (n)) - ((((((nI (n)).toUInt32 >>> ((nI (1)).toUInt32 &&& Int32.toUInt32 31)).toInt32)) &&& ((1431655765)))))).toUInt32 >>> ((nI (2)).toUInt32 &&& Int32.toUInt32 31)).toInt32)) &&& ((858993459)))))).toUInt32 >>> ((nI (4)).toUInt32 &&& Int32.toUInt32 31)).toInt32)))) &&& ((252645135))))]) hx hb dJ6_bitCount_0f7a4_33 rfl hl (by decide) rfl (fun ls hl => ?_)
  refine lv_iload_n hx hb dJ6_bitCount_0f7a4_34 rfl (lv_at hl 0 rfl) ?_
  refine lv_iload_n hx hb dJ6_bitCount_0f7a4_35 rfl (lv_at hl 0 rfl) ?_
  refine lv_bipush (v := nI (8)) hx hb dJ6_bitCount_0f7a4_36 (by decide) ?_
  refine lv_iushr (v := ((((((((((((nI (n)) - ((((((nI (n)).toUInt32 >>> ((nI (1)).toUInt32 &&& Int32.toUInt32 31)).toInt32)) &&& ((1431655765)))))) &&& ((858993459)))) + ((((((((nI (n)) - ((((((nI (n)).toUInt32 >>> ((nI (1)).toUInt32 &&& Int32.toUInt32 31)).toInt32)) &&& ((1431655765)))))).toUInt32 >>> ((nI (2)).toUInt32 &&& Int32.toUInt32 31)).toInt32)) &&& ((858993459)))))) + ((((((((((nI (n)) - ((((((nI (n)).toUInt32 >>> ((nI (1)).toUInt32 &&& Int32.toUInt32 31)).toInt32)) &&& ((1431655765)))))) &&& ((858993459)))) + ((((((((nI (n)) - ((((((nI (n)).toUInt32 >>> ((nI (1)).toUInt32 &&& Int32.toUInt32 31)).toInt32)) &&& ((1431655765)))))).toUInt32 >>> ((nI (2)).toUInt32 &&& Int32.toUInt32 31)).toInt32)) &&& ((858993459)))))).toUInt32 >>> ((nI (4)).toUInt32 &&& Int32.toUInt32 31)).toInt32)))) &&& ((252645135)))).toUInt32 >>> ((nI (8)).toUInt32 &&& Int32.toUInt32 31)).toInt32) hx hb dJ6_bitCount_0f7a4_38 rfl ?_
  refine lv_iadd hx hb dJ6_bitCount_0f7a4_39 ?_
  refine lv_istore_n (lv' := [(0, .int ((((((((((((nI (n)) - ((((((nI (n)).toUInt32 >>> ((nI (1)).toUInt32 &&& Int32.toUInt32 31)).toInt32)) &&& ((1431655765)))))) &&& ((858993459)))) + ((((((((nI (n)) - ((((((nI (n)).toUInt32 >>> ((nI (1)).toUInt32 &&& Int32.toUInt32 31)).toInt32)) &&& ((1431655765)))))).toUInt32 >>> ((nI (2)).toUInt32 &&& Int32.toUInt32 31)).toInt32)) &&& ((858993459)))))) + ((((((((((nI (n)) - ((((((nI (n)).toUInt32 >>> ((nI (1)).toUInt32 &&& Int32.toUInt32 31)).toInt32)) &&& ((1431655765)))))) &&& ((858993459)))) + ((((((((nI (n)) - ((((((nI (n)).toUInt32 >>> ((nI (1)).toUInt32 &&& Int32.toUInt32 31)).toInt32)) &&& ((1431655765)))))).toUInt32 >>> ((nI (2)).toUInt32 &&& Int32.toUInt32 31)).toInt32)) &&& ((858993459)))))).toUInt32 >>> ((nI (4)).toUInt32 &&& Int32.toUInt32 31)).toInt32)))) &&& ((252645135)))) + ((((((((((((((nI (n)) - ((((((nI (n)).toUInt32 >>> ((nI (1)).toUInt32 &&& Int32.toUInt32 31)).toInt32)) &&& ((1431655765)))))) &&& ((858993459)))) + ((((((((nI (n)) - ((((((nI (n)).toUInt32 >>> ((nI (1)).toUInt32 &&& Int32.toUInt32 31)).toInt32)) &&& ((1431655765)))))).toUInt32 >>> ((nI (2)).toUInt32 &&& Int32.toUInt32 31)).toInt32)) &&& ((858993459)))))) + ((((((((((nI (n)) - ((((((nI (n)).toUInt32 >>> ((nI (1)).toUInt32 &&& Int32.toUInt32 31)).toInt32)) &&& ((1431655765)))))) &&& ((858993459)))) + ((((((((nI (n)) - ((((((nI (n)).toUInt32 >>> ((nI (1)).toUInt32 &&& Int32.toUInt32 31)).toInt32)) &&& ((1431655765)))))).toUInt32 >>> ((nI (2)).toUInt32 &&& Int32.toUInt32 31)).toInt32)) &&& ((858993459)))))).toUInt32 >>> ((nI (4)).toUInt32 &&& Int32.toUInt32 31)).toInt32)))) &&& ((252645135)))).toUInt32 >>> ((nI (8)).toUInt32 &&& Int32.toUInt32 31)).toInt32))))]) hx hb dJ6_bitCount_0f7a4_40 rfl hl (by decide) rfl (fun ls hl => ?_)
  refine lv_iload_n hx hb dJ6_bitCount_0f7a4_41 rfl (lv_at hl 0 rfl) ?_
  refine lv_iload_n hx hb dJ6_bitCount_0f7a4_42 rfl (lv_at hl 0 rfl) ?_
  refine lv_bipush (v := nI (16)) hx hb dJ6_bitCount_0f7a4_43 (by decide) ?_
  refine lv_iushr (v := ((((((((((((((nI (n)) - ((((((nI (n)).toUInt32 >>> ((nI (1)).toUInt32 &&& Int32.toUInt32 31)).toInt32)) &&& ((1431655765)))))) &&& ((858993459)))) + ((((((((nI (n)) - ((((((nI (n)).toUInt32 >>> ((nI (1)).toUInt32 &&& Int32.toUInt32 31)).toInt32)) &&& ((1431655765)))))).toUInt32 >>> ((nI (2)).toUInt32 &&& Int32.toUInt32 31)).toInt32)) &&& ((858993459)))))) + ((((((((((nI (n)) - ((((((nI (n)).toUInt32 >>> ((nI (1)).toUInt32 &&& Int32.toUInt32 31)).toInt32)) &&& ((1431655765)))))) &&& ((858993459)))) + ((((((((nI (n)) - ((((((nI (n)).toUInt32 >>> ((nI (1)).toUInt32 &&& Int32.toUInt32 31)).toInt32)) &&& ((1431655765)))))).toUInt32 >>> ((nI (2)).toUInt32 &&& Int32.toUInt32 31)).toInt32)) &&& ((858993459)))))).toUInt32 >>> ((nI (4)).toUInt32 &&& Int32.toUInt32 31)).toInt32)))) &&& ((252645135)))) + ((((((((((((((nI (n)) - ((((((nI (n)).toUInt32 >>> ((nI (1)).toUInt32 &&& Int32.toUInt32 31)).toInt32)) &&& ((1431655765)))))) &&& ((858993459)))) + ((((((((nI (n)) - ((((((nI (n)).toUInt32 >>> ((nI (1)).toUInt32 &&& Int32.toUInt32 31)).toInt32)) &&& ((1431655765)))))).toUInt32 >>> ((nI (2)).toUInt32 &&& Int32.toUInt32 31)).toInt32)) &&& ((858993459)))))) + ((((((((((nI (n)) - ((((((nI (n)).toUInt32 >>> ((nI (1)).toUInt32 &&& Int32.toUInt32 31)).toInt32)) &&& ((1431655765)))))) &&& ((858993459)))) + ((((((((nI (n)) - ((((((nI (n)).toUInt32 >>> ((nI (1)).toUInt32 &&& Int32.toUInt32 31)).toInt32)) &&& ((1431655765)))))).toUInt32 >>> ((nI (2)).toUInt32 &&& Int32.toUInt32 31)).toInt32)) &&& ((858993459)))))).toUInt32 >>> ((nI (4)).toUInt32 &&& Int32.toUInt32 31)).toInt32)))) &&& ((252645135)))).toUInt32 >>> ((nI (8)).toUInt32 &&& Int32.toUInt32 31)).toInt32)))).toUInt32 >>> ((nI (16)).toUInt32 &&& Int32.toUInt32 31)).toInt32) hx hb dJ6_bitCount_0f7a4_45 rfl ?_
  refine lv_iadd hx hb dJ6_bitCount_0f7a4_46 ?_
  refine lv_istore_n (lv' := [(0, .int ((((((((((((((nI (n)) - ((((((nI (n)).toUInt32 >>> ((nI (1)).toUInt32 &&& Int32.toUInt32 31)).toInt32)) &&& ((1431655765)))))) &&& ((858993459)))) + ((((((((nI (n)) - ((((((nI (n)).toUInt32 >>> ((nI (1)).toUInt32 &&& Int32.toUInt32 31)).toInt32)) &&& ((1431655765)))))).toUInt32 >>> ((nI (2)).toUInt32 &&& Int32.toUInt32 31)).toInt32)) &&& ((858993459)))))) + ((((((((((nI (n)) - ((((((nI (n)).toUInt32 >>> ((nI (1)).toUInt32 &&& Int32.toUInt32 31)).toInt32)) &&& ((1431655765)))))) &&& ((858993459)))) + ((((((((nI (n)) - ((((((nI (n)).toUInt32 >>> ((nI (1)).toUInt32 &&& Int32.toUInt32 31)).toInt32)) &&& ((1431655765)))))).toUInt32 >>> ((nI (2)).toUInt32 &&& Int32.toUInt32 31)).toInt32)) &&& ((858993459)))))).toUInt32 >>> ((nI (4)).toUInt32 &&& Int32.toUInt32 31)).toInt32)))) &&& ((252645135)))) + ((((((((((((((nI (n)) - ((((((nI (n)).toUInt32 >>> ((nI (1)).toUInt32 &&& Int32.toUInt32 31)).toInt32)) &&& ((1431655765)))))) &&& ((858993459)))) + ((((((((nI (n)) - ((((((nI (n)).toUInt32 >>> ((nI (1)).toUInt32 &&& Int32.toUInt32 31)).toInt32)) &&& ((1431655765)))))).toUInt32 >>> ((nI (2)).toUInt32 &&& Int32.toUInt32 31)).toInt32)) &&& ((858993459)))))) + ((((((((((nI (n)) - ((((((nI (n)).toUInt32 >>> ((nI (1)).toUInt32 &&& Int32.toUInt32 31)).toInt32)) &&& ((1431655765)))))) &&& ((858993459)))) + ((((((((nI (n)) - ((((((nI (n)).toUInt32 >>> ((nI (1)).toUInt32 &&& Int32.toUInt32 31)).toInt32)) &&& ((1431655765)))))).toUInt32 >>> ((nI (2)).toUInt32 &&& Int32.toUInt32 31)).toInt32)) &&& ((858993459)))))).toUInt32 >>> ((nI (4)).toUInt32 &&& Int32.toUInt32 31)).toInt32)))) &&& ((252645135)))).toUInt32 >>> ((nI (8)).toUInt32 &&& Int32.toUInt32 31)).toInt32)))) + ((((((((((((((((nI (n)) - ((((((nI (n)).toUInt32 >>> ((nI (1)).toUInt32 &&& Int32.toUInt32 31)).toInt32)) &&& ((1431655765)))))) &&& ((858993459)))) + ((((((((nI (n)) - ((((((nI (n)).toUInt32 >>> ((nI (1)).toUInt32 &&& Int32.toUInt32 31)).toInt32)) &&& ((1431655765)))))).toUInt32 >>> ((nI (2)).toUInt32 &&& Int32.toUInt32 31)).toInt32)) &&& ((858993459)))))) + ((((((((((nI (n)) - ((((((nI (n)).toUInt32 >>> ((nI (1)).toUInt32 &&& Int32.toUInt32 31)).toInt32)) &&& ((1431655765)))))) &&& ((858993459)))) + ((((((((nI (n)) - ((((((nI (n)).toUInt32 >>> ((nI (1)).toUInt32 &&& Int32.toUInt32 31)).toInt32)) &&& ((1431655765)))))).toUInt32 >>> ((nI (2)).toUInt32 &&& Int32.toUInt32 31)).toInt32)) &&& ((858993459)))))).toUInt32 >>> ((nI (4)).toUInt32 &&& Int32.toUInt32 31)).toInt32)))) &&& ((252645135)))) + ((((((((((((((nI (n)) - ((((((nI (n)).toUInt32 >>> ((nI (1)).toUInt32 &&& Int32.toUInt32 31)).toInt32)) &&& ((1431655765)))))) &&& ((858993459)))) + ((((((((nI (n)) - ((((((nI (n)).toUInt32 >>> ((nI (1)).toUInt32 &&& Int32.toUInt32 31)).toInt32)) &&& ((1431655765)))))).toUInt32 >>> ((nI (2)).toUInt32 &&& Int32.toUInt32 31)).toInt32)) &&& ((858993459)))))) + ((((((((((nI (n)) - ((((((nI (n)).toUInt32 >>> ((nI (1)).toUInt32 &&& Int32.toUInt32 31)).toInt32)) &&& ((1431655765)))))) &&& ((858993459)))) + ((((((((nI (n)) - ((((((nI (n)).toUInt32 >>> ((nI (1)).toUInt32 &&& Int32.toUInt32 31)).toInt32)) &&& ((1431655765)))))).toUInt32 >>> ((nI (2)).toUInt32 &&& Int32.toUInt32 31)).toInt32)) &&& ((858993459)))))).toUInt32 >>> ((nI (4)).toUInt32 &&& Int32.toUInt32 31)).toInt32)))) &&& ((252645135)))).toUInt32 >>> ((nI (8)).toUInt32 &&& Int32.toUInt32 31)).toInt32)))).toUInt32 >>> ((nI (16)).toUInt32 &&& Int32.toUInt32 31)).toInt32))))]) hx hb dJ6_bitCount_0f7a4_47 rfl hl (by decide) rfl (fun ls hl => ?_)
  refine lv_iload_n hx hb dJ6_bitCount_0f7a4_48 rfl (lv_at hl 0 rfl) ?_
  refine lv_bipush (v := nI (63)) hx hb dJ6_bitCount_0f7a4_49 (by decide) ?_
  refine lv_iand hx hb dJ6_bitCount_0f7a4_51 ?_
  exact ret_i hE (r := ((((((((((((((((nI (n)) - ((((((nI (n)).toUInt32 >>> ((nI (1)).toUInt32 &&& Int32.toUInt32 31)).toInt32)) &&& ((1431655765)))))) &&& ((858993459)))) + ((((((((nI (n)) - ((((((nI (n)).toUInt32 >>> ((nI (1)).toUInt32 &&& Int32.toUInt32 31)).toInt32)) &&& ((1431655765)))))).toUInt32 >>> ((nI (2)).toUInt32 &&& Int32.toUInt32 31)).toInt32)) &&& ((858993459)))))) + ((((((((((nI (n)) - ((((((nI (n)).toUInt32 >>> ((nI (1)).toUInt32 &&& Int32.toUInt32 31)).toInt32)) &&& ((1431655765)))))) &&& ((858993459)))) + ((((((((nI (n)) - ((((((nI (n)).toUInt32 >>> ((nI (1)).toUInt32 &&& Int32.toUInt32 31)).toInt32)) &&& ((1431655765)))))).toUInt32 >>> ((nI (2)).toUInt32 &&& Int32.toUInt32 31)).toInt32)) &&& ((858993459)))))).toUInt32 >>> ((nI (4)).toUInt32 &&& Int32.toUInt32 31)).toInt32)))) &&& ((252645135)))) + ((((((((((((((nI (n)) - ((((((nI (n)).toUInt32 >>> ((nI (1)).toUInt32 &&& Int32.toUInt32 31)).toInt32)) &&& ((1431655765)))))) &&& ((858993459)))) + ((((((((nI (n)) - ((((((nI (n)).toUInt32 >>> ((nI (1)).toUInt32 &&& Int32.toUInt32 31)).toInt32)) &&& ((1431655765)))))).toUInt32 >>> ((nI (2)).toUInt32 &&& Int32.toUInt32 31)).toInt32)) &&& ((858993459)))))) + ((((((((((nI (n)) - ((((((nI (n)).toUInt32 >>> ((nI (1)).toUInt32 &&& Int32.toUInt32 31)).toInt32)) &&& ((1431655765)))))) &&& ((858993459)))) + ((((((((nI (n)) - ((((((nI (n)).toUInt32 >>> ((nI (1)).toUInt32 &&& Int32.toUInt32 31)).toInt32)) &&& ((1431655765)))))).toUInt32 >>> ((nI (2)).toUInt32 &&& Int32.toUInt32 31)).toInt32)) &&& ((858993459)))))).toUInt32 >>> ((nI (4)).toUInt32 &&& Int32.toUInt32 31)).toInt32)))) &&& ((252645135)))).toUInt32 >>> ((nI (8)).toUInt32 &&& Int32.toUInt32 31)).toInt32)))) + ((((((((((((((((nI (n)) - ((((((nI (n)).toUInt32 >>> ((nI (1)).toUInt32 &&& Int32.toUInt32 31)).toInt32)) &&& ((1431655765)))))) &&& ((858993459)))) + ((((((((nI (n)) - ((((((nI (n)).toUInt32 >>> ((nI (1)).toUInt32 &&& Int32.toUInt32 31)).toInt32)) &&& ((1431655765)))))).toUInt32 >>> ((nI (2)).toUInt32 &&& Int32.toUInt32 31)).toInt32)) &&& ((858993459)))))) + ((((((((((nI (n)) - ((((((nI (n)).toUInt32 >>> ((nI (1)).toUInt32 &&& Int32.toUInt32 31)).toInt32)) &&& ((1431655765)))))) &&& ((858993459)))) + ((((((((nI (n)) - ((((((nI (n)).toUInt32 >>> ((nI (1)).toUInt32 &&& Int32.toUInt32 31)).toInt32)) &&& ((1431655765)))))).toUInt32 >>> ((nI (2)).toUInt32 &&& Int32.toUInt32 31)).toInt32)) &&& ((858993459)))))).toUInt32 >>> ((nI (4)).toUInt32 &&& Int32.toUInt32 31)).toInt32)))) &&& ((252645135)))) + ((((((((((((((nI (n)) - ((((((nI (n)).toUInt32 >>> ((nI (1)).toUInt32 &&& Int32.toUInt32 31)).toInt32)) &&& ((1431655765)))))) &&& ((858993459)))) + ((((((((nI (n)) - ((((((nI (n)).toUInt32 >>> ((nI (1)).toUInt32 &&& Int32.toUInt32 31)).toInt32)) &&& ((1431655765)))))).toUInt32 >>> ((nI (2)).toUInt32 &&& Int32.toUInt32 31)).toInt32)) &&& ((858993459)))))) + ((((((((((nI (n)) - ((((((nI (n)).toUInt32 >>> ((nI (1)).toUInt32 &&& Int32.toUInt32 31)).toInt32)) &&& ((1431655765)))))) &&& ((858993459)))) + ((((((((nI (n)) - ((((((nI (n)).toUInt32 >>> ((nI (1)).toUInt32 &&& Int32.toUInt32 31)).toInt32)) &&& ((1431655765)))))).toUInt32 >>> ((nI (2)).toUInt32 &&& Int32.toUInt32 31)).toInt32)) &&& ((858993459)))))).toUInt32 >>> ((nI (4)).toUInt32 &&& Int32.toUInt32 31)).toInt32)))) &&& ((252645135)))).toUInt32 >>> ((nI (8)).toUInt32 &&& Int32.toUInt32 31)).toInt32)))).toUInt32 >>> ((nI (16)).toUInt32 &&& Int32.toUInt32 31)).toInt32)))) &&& (nI (63)))) (by rw [← ip_ok n hn]; rfl) hP hD hS dJ6_bitCount_0f7a4_52
