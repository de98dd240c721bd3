/-! PURE 11: bytes and tokens -/
def byV (v : Int64) (i : Nat) : Nat := v.toBitVec.toNat / 2 ^ (8 * i) % 256
theorem byV_lt (v : Int64) (i : Nat) : byV v i < 256 := Nat.mod_lt _ (by decide)
theorem by_s : ∀ i, i < 8 → ((nI (8 * i)).toInt64.toUInt64 &&& Int64.toUInt64 63) = UInt64.ofNat (8 * i) := by decide
theorem by_s2 : ∀ i, i < 8 → ((nI (8 * i)).toInt64 &&& 63) = Int64.ofNat (8 * i) := by decide
theorem by_m {w : BitVec 64} {i : Nat} {v : Int64} (h : w.toNat % 256 = byV v i) : (Int64.ofBitVec w).toInt32 &&& nI 255 = nI (byV v i) := by
  apply Int32.toBitVec_inj.mp
  apply BitVec.eq_of_toNat_eq
  rw [Int32.toBitVec_and, BitVec.toNat_and, Int64.toBitVec_toInt32, BitVec.signExtend_eq_setWidth_of_le _ (by decide), BitVec.toNat_setWidth]
  show (w.toNat % 2 ^ 32) &&& (2 ^ 8 - 1) = byV v i % 2 ^ 32
  rw [Nat.and_two_pow_sub_one_eq_mod, Nat.mod_mod_of_dvd _ (by decide : 2 ^ 8 ∣ 2 ^ 32), Nat.mod_eq_of_lt (show byV v i < 2 ^ 32 by have := byV_lt v i; omega)]
  exact h
theorem byC (v : Int64) {i : Nat} (hi : i < 8) : (((v.toUInt64 >>> ((nI (8 * i)).toInt64.toUInt64 &&& Int64.toUInt64 63)).toInt64).toInt32 &&& nI 255) = nI (byV v i) := by
  rw [by_s i hi]
  refine by_m (w := (v.toUInt64 >>> UInt64.ofNat (8 * i)).toBitVec) ?_
  rw [UInt64.toBitVec_shiftRight]
  have e : (UInt64.ofNat (8 * i)).toBitVec % 64 = BitVec.ofNat 64 (8 * i) := by
    have : ∀ i, i < 8 → (UInt64.ofNat (8 * i)).toBitVec % 64 = BitVec.ofNat 64 (8 * i) := by decide
    exact this i hi
  rw [e]
  show (v.toBitVec >>> (BitVec.ofNat 64 (8 * i))).toNat % 256 = _
  rw [BitVec.ushiftRight_eq', BitVec.toNat_ushiftRight, BitVec.toNat_ofNat, Nat.mod_eq_of_lt (show 8 * i < 2 ^ 64 by omega), Nat.shiftRight_eq_div_pow]
  rfl
theorem byM (v : Int64) {i : Nat} (hi : i < 8) : ((v >>> ((nI (8 * i)).toInt64 &&& 63)) &&& 255).toInt32 = nI (byV v i) := by
  rw [by_s2 i hi]
  have e : (v >>> Int64.ofNat (8 * i)).toBitVec = v.toBitVec.sshiftRight (8 * i) := by
    rw [Int64.toBitVec_shiftRight]
    have : ∀ i, i < 8 → ((Int64.ofNat (8 * i)).toBitVec.smod 64).toNat = 8 * i := by decide
    rw [BitVec.sshiftRight_eq', this i hi]
  apply Int32.toBitVec_inj.mp
  rw [Int64.toBitVec_toInt32, Int64.toBitVec_and, e]
  apply BitVec.eq_of_getLsbD_eq
  intro j hj
  rw [BitVec.signExtend_eq_setWidth_of_le _ (by decide), BitVec.getLsbD_setWidth, BitVec.getLsbD_and, BitVec.getLsbD_sshiftRight]
  have h255 : ((255 : Int64).toBitVec).getLsbD j = decide (j < 8) := by
    have : ∀ j, j < 32 → ((255 : Int64).toBitVec).getLsbD j = decide (j < 8) := by decide
    exact this j hj
  have hr : (nI (byV v i)).toBitVec.getLsbD j = (byV v i).testBit j := by
    show (BitVec.ofNat 32 (byV v i)).getLsbD j = _
    rw [BitVec.getLsbD_ofNat, dt hj]
    rfl
  rw [h255, hr]
  unfold byV
  rw [show (256 : Nat) = 2 ^ 8 from rfl, Nat.testBit_mod_two_pow, ← Nat.shiftRight_eq_div_pow, Nat.testBit_shiftRight]
  by_cases q : j < 8
  · rw [dt q, dt (show j < 32 by omega), Bool.and_true, Bool.true_and, Bool.true_and]
    rw [if_pos (show 8 * i + j < 64 by omega)]
    rw [df (show ¬ 64 ≤ j by omega)]
    show _ = v.toBitVec.toNat.testBit (8 * i + j)
    rw [BitVec.testBit_toNat]
    rfl
  · rw [df q, Bool.and_false, Bool.and_false, Bool.false_and]
theorem sb_nar (c : Nat) : vp_nar .byte (sb_b c) = sb_b c := by
  show (sb_b c).toInt8.toInt32 = sb_b c
  unfold sb_b
  rw [Int8.toInt8_toInt32]
def tyB (g : Nat → Nat) (len : Nat) (v : Int64) (n k : Nat) : Nat → Nat := fun j => if len ≤ j ∧ j < len + (n - k) then byV v (n - 1 - (j - len)) else g j
theorem tyB_0 (g : Nat → Nat) (len : Nat) (v : Int64) (n : Nat) : tyB g len v n n = g := by
  funext j
  unfold tyB
  rw [if_neg (by omega)]
theorem tyB_s (g : Nat → Nat) (len : Nat) (v : Int64) {n k : Nat} (hk : k < n) : upN (tyB g len v n (k + 1)) (len + (n - (k + 1))) (byV v k) = tyB g len v n k := by
  funext j
  unfold upN tyB
  by_cases e : j = len + (n - (k + 1))
  · subst e
    rw [if_pos rfl, if_pos (by omega), show n - 1 - (len + (n - (k + 1)) - len) = k by omega]
  · rw [if_neg e]
    by_cases q : len ≤ j ∧ j < len + (n - (k + 1))
    · rw [if_pos q, if_pos (by omega)]
    · rw [if_neg q, if_neg (by omega)]
def rgB (lo hi : Nat) (B : Nat → Nat) (n k : Nat) : Bool := decide (k < n) && decide (lo ≤ B k ∧ B k ≤ hi)
theorem rgB_n {lo hi : Nat} {B : Nat → Nat} {n k : Nat} (h : n ≤ k) : rgB lo hi B n k = false := by
  unfold rgB
  rw [df (by omega)]
  rfl
theorem rgB_y {lo hi : Nat} {B : Nat → Nat} {n k : Nat} (h : k < n) : rgB lo hi B n k = decide (lo ≤ B k ∧ B k ≤ hi) := by
  unfold rgB
  rw [dt h]
  rfl
def hsB (i : Nat) (B : Nat → Nat) (f t : Nat) : Bool := decide (t - f = sLn i) && al (fun j => decide (B (f + j) = sCh i j)) (sLn i)
theorem hsB_n {i : Nat} {B : Nat → Nat} {f t : Nat} (h : ¬ t - f = sLn i) : hsB i B f t = false := by unfold hsB; rw [df h]; rfl
theorem hsB_f {i j : Nat} {B : Nat → Nat} {f t : Nat} (h : j < sLn i) (h2 : ¬ B (f + j) = sCh i j) : hsB i B f t = false := by
  unfold hsB
  rw [al_f (P := fun j => decide (B (f + j) = sCh i j)) (df h2) _ h, Bool.and_false]
theorem hsB_y {i : Nat} {B : Nat → Nat} {f t : Nat} (h : t - f = sLn i) (h2 : al (fun j => decide (B (f + j) = sCh i j)) (sLn i) = true) : hsB i B f t = true := by unfold hsB; rw [dt h, h2]; rfl
def skK (P : Nat → Bool) : Nat → Nat → Nat
  | 0, p => p
  | k + 1, p => if P p = true then skK P k (p + 1) else p
/-- the first place from p on, at most n, without P -/
def skp (P : Nat → Bool) (n p : Nat) : Nat := skK P (n - p) p
theorem skp_t {P : Nat → Bool} {n p : Nat} (h : p < n) (h2 : P p = true) : skp P n p = skp P n (p + 1) := by
  unfold skp
  rw [show n - p = (n - (p + 1)) + 1 by omega, skK, if_pos h2]
theorem skp_f {P : Nat → Bool} {n p : Nat} (h2 : n ≤ p ∨ P p = false) : skp P n p = p := by
  unfold skp
  rcases Nat.eq_zero_or_pos (n - p) with q | q
  · rw [q]; rfl
  · obtain ⟨k, hk⟩ : ∃ k, n - p = k + 1 := ⟨n - p - 1, by omega⟩
    rw [hk, skK]
    rcases h2 with z | z
    · omega
    · rw [if_neg (by rw [z]; decide)]
theorem skK_ge (P : Nat → Bool) : ∀ k p, p ≤ skK P k p ∧ skK P k p ≤ p + k := by
  intro k
  induction k with
  | zero => intro p; exact ⟨Nat.le_refl _, Nat.le_refl _⟩
  | succ k ih =>
    intro p
    rw [skK]
    split
    · have := ih (p + 1); omega
    · omega
theorem skp_ge (P : Nat → Bool) {n p : Nat} (h : p ≤ n) : p ≤ skp P n p ∧ skp P n p ≤ n := by
  have := skK_ge P (n - p) p
  unfold skp
  omega
theorem adW {I : Nat → Nat → Nat} {v : Int64} {n k : Nat} (hk : k < n) : up2 (up2 (up2 (upA I 0 (tyB (I 0) (I 1 0) v n (k + 1))) 1 0 (I 1 0 + (n - (k + 1)))) 0 (I 1 0 + (n - (k + 1))) (byV v k)) 1 0 (I 1 0 + (n - (k + 1)) + 1) = up2 (upA I 0 (tyB (I 0) (I 1 0) v n k)) 1 0 (I 1 0 + (n - k)) := by
  funext q j
  by_cases h1 : q = 1
  · subst h1
    show upN (upN (I 1) 0 (I 1 0 + (n - (k + 1)))) 0 (I 1 0 + (n - (k + 1)) + 1) j = upN (I 1) 0 (I 1 0 + (n - k)) j
    rw [upN_upN, show I 1 0 + (n - (k + 1)) + 1 = I 1 0 + (n - k) by omega]
  · by_cases h0 : q = 0
    · subst h0
      show upN (tyB (I 0) (I 1 0) v n (k + 1)) (I 1 0 + (n - (k + 1))) (byV v k) j = tyB (I 0) (I 1 0) v n k j
      rw [tyB_s _ _ _ hk]
    · rw [up2_off _ _ _ h1, up2_off _ _ _ h0, up2_off _ _ _ h1, upA_off _ _ h0, up2_off _ _ _ h1, upA_off _ _ h0]
