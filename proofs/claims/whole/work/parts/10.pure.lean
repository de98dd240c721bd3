/-! PURE: the functions that both sides answer by -/
def wi (x l m : Int32) : Bool := decide (l ≤ x ∧ x ≤ m)
theorem wi_t {x l m : Int32} (h1 : ¬ x < l) (h2 : ¬ m < x) : wi x l m = true := decide_eq_true ⟨Int32.not_lt.mp h1, Int32.not_lt.mp h2⟩
theorem wi_f1 {x l m : Int32} (h1 : x < l) : wi x l m = false := decide_eq_false (fun z => Int32.not_lt.mpr z.1 h1)
theorem wi_f2 {x l m : Int32} (h2 : m < x) : wi x l m = false := decide_eq_false (fun z => Int32.not_lt.mpr z.2 h2)
theorem wi_in (x : Int32) {k : Nat} (hk : k + 1 < 2 ^ 31) : wi x (nI 0) (nI k) = inB x (k + 1) := by
  unfold wi inB
  congr 1
  rw [Int32.le_iff_toInt_le, Int32.le_iff_toInt_le, nI_toInt (by decide), nI_toInt (by omega)]
  apply propext
  omega
theorem wi_in1 (x : Int32) {n : Nat} (hn : n < 2 ^ 30) : wi x (nI 0) (nI n - nI 1) = inB x n := by
  unfold wi inB
  congr 1
  rw [Int32.le_iff_toInt_le, Int32.le_iff_toInt_le, nI_toInt (by decide), pk_sub_toInt (by omega) (by decide)]
  apply propext
  omega
theorem wi_nat {a l m : Nat} (ha : a < 2 ^ 31) (hl : l < 2 ^ 31) (hm : m < 2 ^ 31) : wi (nI a) (nI l) (nI m) = decide (l ≤ a ∧ a ≤ m) := by
  unfold wi
  congr 1
  rw [nI_leI hl ha, nI_leI ha hm]
/-- a number between two bounds is one of these -/
theorem wi_of {x : Int32} {l m : Nat} (hl : l < 2 ^ 31) (hm : m < 2 ^ 31) (h : wi x (nI l) (nI m) = true) : ∃ j : Nat, l ≤ j ∧ j ≤ m ∧ x = nI j := by
  have h := of_decide_eq_true h
  obtain ⟨j, hj, rfl⟩ := nI_of (x := x) (fun z => by
    rw [Int32.lt_iff_toInt_lt] at z
    have h1 := Int32.le_iff_toInt_le.mp h.1
    rw [nI_toInt hl] at h1
    have : (0 : Int32).toInt = 0 := rfl
    omega)
  exact ⟨j, (nI_leI hl hj).mp h.1, (nI_leI hj hm).mp h.2, rfl⟩
/-- the first t from t on, below hi, with P: t + 9; none: 0 -/
def srK (P : Nat → Bool) : Nat → Nat → Nat
  | 0, _ => 0
  | k + 1, t => if P t = true then t + 9 else srK P k (t + 1)
def sr (P : Nat → Bool) (hi t : Nat) : Nat := srK P (hi - t) t
theorem sr_hit {P : Nat → Bool} {hi t : Nat} (h : t < hi) (hp : P t = true) : sr P hi t = t + 9 := by
  unfold sr
  obtain ⟨k, hk⟩ : ∃ k, hi - t = k + 1 := ⟨hi - t - 1, by omega⟩
  rw [hk, srK, if_pos hp]
theorem sr_miss {P : Nat → Bool} {hi t : Nat} (h : t < hi) (hp : P t = false) : sr P hi t = sr P hi (t + 1) := by
  unfold sr
  obtain ⟨k, hk⟩ : ∃ k, hi - t = k + 1 := ⟨hi - t - 1, by omega⟩
  rw [hk, srK, if_neg (by rw [hp]; decide), show hi - (t + 1) = k by omega]
theorem sr_end {P : Nat → Bool} {hi t : Nat} (h : hi ≤ t) : sr P hi t = 0 := by
  unfold sr
  rw [show hi - t = 0 by omega]
  rfl
theorem srK_le (P : Nat → Bool) : ∀ k t, srK P k t ≤ t + k + 8 := by
  intro k
  induction k with
  | zero => intro t; exact Nat.zero_le _
  | succ k ih =>
    intro t
    rw [srK]
    by_cases h : P t = true
    · rw [if_pos h]; omega
    · rw [if_neg h]
      have := ih (t + 1)
      omega
theorem sr_le (P : Nat → Bool) (hi t : Nat) : sr P hi t ≤ hi + t + 8 := by
  have := srK_le P (hi - t) t
  unfold sr
  omega
theorem srK_spec (P : Nat → Bool) : ∀ k t, srK P k t ≠ 0 → ∃ u, t ≤ u ∧ u < t + k ∧ P u = true ∧ srK P k t = u + 9 := by
  intro k
  induction k with
  | zero => intro t h; exact absurd rfl h
  | succ k ih =>
    intro t h
    rw [srK] at h ⊢
    by_cases hp : P t = true
    · rw [if_pos hp] at h ⊢
      exact ⟨t, Nat.le_refl _, by omega, hp, rfl⟩
    · rw [if_neg hp] at h ⊢
      obtain ⟨u, h1, h2, h3, h4⟩ := ih (t + 1) h
      exact ⟨u, by omega, by omega, h3, h4⟩
theorem sr_spec {P : Nat → Bool} {hi t : Nat} (h : sr P hi t ≠ 0) : ∃ u, t ≤ u ∧ u < hi ∧ P u = true ∧ sr P hi t = u + 9 := by
  obtain ⟨u, h1, h2, h3, h4⟩ := srK_spec P (hi - t) t h
  exact ⟨u, h1, by omega, h3, h4⟩
theorem srK_congr {P P' : Nat → Bool} : ∀ k t, (∀ u, t ≤ u → u < t + k → P u = P' u) → srK P k t = srK P' k t := by
  intro k
  induction k with
  | zero => intro t _; rfl
  | succ k ih =>
    intro t h
    rw [srK, srK, h t (Nat.le_refl _) (by omega), ih (t + 1) (fun u a b => h u (by omega) (by omega))]
theorem sr_congr {P P' : Nat → Bool} {hi t : Nat} (h : ∀ u, t ≤ u → u < hi → P u = P' u) : sr P hi t = sr P' hi t := srK_congr _ _ (fun u a b => h u a (by omega))
/-- how many of 0 .. t - 1 with P -/
def cnt (P : Nat → Bool) : Nat → Nat
  | 0 => 0
  | t + 1 => cnt P t + (if P t = true then 1 else 0)
theorem cnt_t {P : Nat → Bool} {t : Nat} (h : P t = true) : cnt P (t + 1) = cnt P t + 1 := by rw [cnt, if_pos h]
theorem cnt_f {P : Nat → Bool} {t : Nat} (h : P t = false) : cnt P (t + 1) = cnt P t := by rw [cnt, if_neg (by rw [h]; decide)]; rfl
theorem cnt_le (P : Nat → Bool) : ∀ t, cnt P t ≤ t := by
  intro t
  induction t with
  | zero => exact Nat.le_refl _
  | succ t ih => rw [cnt]; split <;> omega
theorem cnt_congr {P P' : Nat → Bool} : ∀ t, (∀ u, u < t → P u = P' u) → cnt P t = cnt P' t := by
  intro t
  induction t with
  | zero => intro _; rfl
  | succ t ih =>
    intro h
    rw [cnt, cnt, h t (by omega), ih (fun u a => h u (by omega))]
theorem dt {q : Prop} {i : Decidable q} (h : q) : decide q = true := decide_eq_true h
theorem df {q : Prop} {i : Decidable q} (h : ¬ q) : decide q = false := decide_eq_false h
/-- what a clock of the class shows -/
def shC (I : Nat → Nat → Nat) (h t : Nat) : Nat := (I (20 + h) t + I 7 h) % 48
theorem shC_lt (I : Nat → Nat → Nat) (h t : Nat) : shC I h t < 48 := Nat.mod_lt _ (by decide)
/-- FIRST: 0 none, else the quarter and 9 -/
def fst (f : Nat → Nat) (n t : Nat) : Nat := sr (fun u => decide (f u = n)) 96 t
theorem fst_le (f : Nat → Nat) (n t : Nat) : fst f n t ≤ 104 + t := by
  have := sr_le (fun u => decide (f u = n)) 96 t
  unfold fst
  omega
/-- what the class's clocks keep to -/
def CK (I : Nat → Nat → Nat) : Prop := I 13 0 ≤ 6 ∧ I 14 0 ≤ 9 ∧ I 11 0 ≤ 95 ∧ (∀ h, h < 6 → ∀ t, t < 96 → I (20 + h) t < 48) ∧ (∀ h, h < 6 → I 7 h < 48)
/-! ===== lN n to 2^64: shifts, and, or, masks, one bit ===== -/
theorem wb_tb (n : Nat) : (lN n).toBitVec = BitVec.ofNat 64 n := rfl
theorem wb_inj {a b : Int64} (h : a.toBitVec = b.toBitVec) : a = b := Int64.toBitVec_inj.mp h
theorem wb_tn {n : Nat} (h : n < 2 ^ 64) : (lN n).toBitVec.toNat = n := by rw [wb_tb, BitVec.toNat_ofNat, Nat.mod_eq_of_lt h]
theorem wb_of (x : Int64) : ∃ n, n < 2 ^ 64 ∧ x = lN n := ⟨x.toBitVec.toNat, x.toBitVec.isLt, wb_inj (by rw [wb_tb]; simp)⟩
theorem wb_of32 (x : Int32) : ∃ n, n < 2 ^ 32 ∧ x = nI n := ⟨x.toBitVec.toNat, x.toBitVec.isLt, Int32.toBitVec_inj.mp (by show _ = BitVec.ofNat 32 _; simp)⟩
theorem wb_c : ∀ k, k < 64 → ((nI k).toInt64 &&& 63) = lN k := by decide +kernel
theorem wb_cu : ∀ k, k < 64 → ((nI k).toInt64.toUInt64 &&& Int64.toUInt64 63) = UInt64.ofNat k := by decide +kernel
theorem wb_sm : ∀ k, k < 64 → (BitVec.ofNat 64 k).smod 64 = BitVec.ofNat 64 k := by decide +kernel
theorem wb_pw {a b : Nat} (h : a ≤ b) : 2 ^ b = 2 ^ a * 2 ^ (b - a) := by rw [← Nat.pow_add]; congr 1; omega
theorem wb_lt2 {a b : Nat} (h : a < b) : 2 ^ a < 2 ^ b := Nat.pow_lt_pow_right (by decide) h
theorem wb_mod (n : Nat) : lN n = lN (n % 2 ^ 64) := wb_inj (by rw [wb_tb, wb_tb]; apply BitVec.eq_of_toNat_eq; rw [BitVec.toNat_ofNat, BitVec.toNat_ofNat, Nat.mod_mod])
theorem wb_shr {n k : Nat} (hn : n < 2 ^ 64) (hk : k < 64) : ((lN n).toUInt64 >>> ((nI k).toInt64.toUInt64 &&& Int64.toUInt64 63)).toInt64 = lN (n / 2 ^ k) := by
  rw [wb_cu k hk]
  apply wb_inj
  apply BitVec.eq_of_toNat_eq
  show ((lN n).toUInt64 >>> UInt64.ofNat k).toNat = (BitVec.ofNat 64 _).toNat
  have h1 : (UInt64.ofNat k).toNat = k := by
    show (BitVec.ofNat 64 k).toNat = k
    rw [BitVec.toNat_ofNat, Nat.mod_eq_of_lt (by omega)]
  have h2 : (lN n).toUInt64.toNat = n := wb_tn hn
  rw [UInt64.toNat_shiftRight, h1, h2, Nat.mod_eq_of_lt hk, Nat.shiftRight_eq_div_pow, BitVec.toNat_ofNat, Nat.mod_eq_of_lt (Nat.lt_of_le_of_lt (Nat.div_le_self _ _) hn)]
theorem wb_shl (n : Nat) {k : Nat} (hk : k < 64) : lN n <<< ((nI k).toInt64 &&& 63) = lN (n * 2 ^ k) := by
  rw [wb_c k hk]
  apply wb_inj
  rw [Int64.toBitVec_shiftLeft, wb_tb, wb_tb, wb_tb, wb_sm k hk]
  apply BitVec.eq_of_toNat_eq
  rw [BitVec.shiftLeft_eq', BitVec.toNat_shiftLeft, BitVec.toNat_ofNat, BitVec.toNat_ofNat, BitVec.toNat_ofNat, Nat.mod_eq_of_lt (show k < 2 ^ 64 by omega), Nat.shiftLeft_eq, Nat.mul_mod, Nat.mod_mod, ← Nat.mul_mod]
theorem wb_and {a b : Nat} (ha : a < 2 ^ 64) (hb : b < 2 ^ 64) : lN a &&& lN b = lN (a &&& b) := by
  apply wb_inj
  rw [Int64.toBitVec_and, wb_tb, wb_tb, wb_tb]
  apply BitVec.eq_of_toNat_eq
  rw [BitVec.toNat_and, BitVec.toNat_ofNat, BitVec.toNat_ofNat, BitVec.toNat_ofNat, Nat.mod_eq_of_lt ha, Nat.mod_eq_of_lt hb, Nat.mod_eq_of_lt (Nat.and_lt_two_pow _ hb)]
theorem wb_or {a b : Nat} (ha : a < 2 ^ 64) (hb : b < 2 ^ 64) : lN a ||| lN b = lN (a ||| b) := by
  apply wb_inj
  rw [Int64.toBitVec_or, wb_tb, wb_tb, wb_tb]
  apply BitVec.eq_of_toNat_eq
  rw [BitVec.toNat_or, BitVec.toNat_ofNat, BitVec.toNat_ofNat, BitVec.toNat_ofNat, Nat.mod_eq_of_lt ha, Nat.mod_eq_of_lt hb, Nat.mod_eq_of_lt (Nat.or_lt_two_pow ha hb)]
theorem wb_mask {n k : Nat} (hn : n < 2 ^ 64) (hk : k < 64) : lN n &&& lN (2 ^ k - 1) = lN (n % 2 ^ k) := by
  rw [wb_and hn (by have := wb_lt2 hk; omega), Nat.and_two_pow_sub_one_eq_mod]
theorem wb_a1 {n : Nat} (hn : n < 2 ^ 64) : lN n &&& 1 = lN (n % 2) := wb_mask (k := 1) hn (by decide)
theorem wb_bit {n k : Nat} (hn : n < 2 ^ 64) (hk : k < 64) : ((lN n).toUInt64 >>> ((nI k).toInt64.toUInt64 &&& Int64.toUInt64 63)).toInt64 &&& 1 = lN (n / 2 ^ k % 2) := by
  rw [wb_shr hn hk, wb_a1 (Nat.lt_of_le_of_lt (Nat.div_le_self _ _) hn)]
theorem wb_xor {q k : Nat} (hk : k < 63) (h : 2 ^ k ≤ q) (h2 : q < 2 ^ (k + 1)) : lN q ^^^ lN (2 ^ k) = lN (q - 2 ^ k) := by
  obtain ⟨r, rfl⟩ : ∃ r, q = 2 ^ k + r := ⟨q - 2 ^ k, by omega⟩
  have hr : r < 2 ^ k := by rw [Nat.pow_succ] at h2; omega
  have hx : (2 ^ k + r) ^^^ 2 ^ k = r := by
    apply Nat.eq_of_testBit_eq
    intro i
    rw [Nat.testBit_xor, Nat.testBit_two_pow]
    rcases Nat.lt_trichotomy i k with h | h | h
    · rw [Nat.testBit_two_pow_add_gt h]
      simp [show ¬ k = i by omega]
    · subst h
      rw [Nat.testBit_two_pow_add_eq]
      simp
    · have a1 : 2 ^ (k + 1) ≤ 2 ^ i := Nat.pow_le_pow_right (by decide) h
      rw [Nat.testBit_lt_two_pow (show 2 ^ k + r < 2 ^ i by omega), Nat.testBit_lt_two_pow (show r < 2 ^ i by omega)]
      simp [show ¬ k = i by omega]
  have b1 := wb_lt2 (show k + 1 < 64 by omega)
  have b2 := wb_lt2 (show k < 64 by omega)
  apply wb_inj
  rw [Int64.toBitVec_xor, wb_tb, wb_tb, wb_tb]
  apply BitVec.eq_of_toNat_eq
  rw [BitVec.toNat_xor, BitVec.toNat_ofNat, BitVec.toNat_ofNat, BitVec.toNat_ofNat, Nat.mod_eq_of_lt (by omega : 2 ^ k + r < 2 ^ 64), Nat.mod_eq_of_lt b2, hx, Nat.add_sub_cancel_left, Nat.mod_eq_of_lt (by omega)]
/-! ===== own: bits of small ints ===== -/
theorem sl_c : ∀ n, n < 32 → ((nI n &&& 31).toBitVec.smod 32).toNat = n := by decide +kernel
theorem nI_shl {a k : Nat} (hk : k < 32) (h : a * 2 ^ k < 2 ^ 32) : nI a <<< (nI k &&& 31) = nI (a * 2 ^ k) := pk_shlN _ k (sl_c k hk) h
theorem nI_pow {k : Nat} (hk : k < 32) : nI 1 <<< (nI k &&& 31) = nI (2 ^ k) := by
  have h : 2 ^ k < 2 ^ 32 := Nat.pow_lt_pow_right (by decide) hk
  have := nI_shl (a := 1) hk (by omega)
  rw [Nat.one_mul] at this
  exact this
theorem nI_shr {a k : Nat} (ha : a < 2 ^ 31) (hk : k < 32) : nI a >>> (nI k &&& 31) = nI (a / 2 ^ k) := pk_shrN ha _ k (sl_c k hk)
theorem nI_and1 {a : Nat} (ha : a < 2 ^ 31) : nI a &&& nI 1 = nI (a % 2) := pk_andN (by omega) (m := nI 1) 1 (by decide)
theorem nI_and3 {a : Nat} (ha : a < 2 ^ 31) : nI a &&& nI 3 = nI (a % 4) := pk_andN (by omega) (m := nI 3) 2 (by decide)
theorem nI_and {a b : Nat} : nI a &&& nI b = nI (a &&& b) := by
  apply Int32.toBitVec_inj.mp
  apply BitVec.eq_of_toNat_eq
  rw [Int32.toBitVec_and, BitVec.toNat_and]
  show (BitVec.ofNat 32 a).toNat &&& (BitVec.ofNat 32 b).toNat = (BitVec.ofNat 32 (a &&& b)).toNat
  simp only [BitVec.toNat_ofNat]
  exact (Nat.and_mod_two_pow).symm
theorem nI_or {a b : Nat} : nI a ||| nI b = nI (a ||| b) := by
  apply Int32.toBitVec_inj.mp
  apply BitVec.eq_of_toNat_eq
  rw [Int32.toBitVec_or, BitVec.toNat_or]
  show (BitVec.ofNat 32 a).toNat ||| (BitVec.ofNat 32 b).toNat = (BitVec.ofNat 32 (a ||| b)).toNat
  simp only [BitVec.toNat_ofNat]
  exact (Nat.or_mod_two_pow).symm
theorem or_lt {a b k : Nat} (ha : a < 2 ^ k) (hb : b < 2 ^ k) : a ||| b < 2 ^ k := Nat.or_lt_two_pow ha hb
theorem pow_lt6 : ∀ h, h < 6 → 2 ^ h < 2 ^ 6 := by decide
theorem pow_lt8 : ∀ h, h < 8 → 2 ^ h < 2 ^ 8 := by decide
theorem rN_pos {e : Nat} (h : 9 ≤ e) : rN e = nI (e - 9) := by
  obtain ⟨t, rfl⟩ : ∃ t, e = t + 9 := ⟨e - 9, by omega⟩
  rw [rN_9]
  congr 1
/-- a mask of numbers -/
def mk (f : Nat → Nat) : Nat → Nat
  | 0 => 0
  | t + 1 => mk f t ||| 2 ^ f t
theorem mk_lt {f : Nat → Nat} : ∀ t, (∀ u, u < t → f u < 48) → mk f t < 2 ^ 48 := by
  intro t
  induction t with
  | zero => intro _; exact Nat.two_pow_pos 48
  | succ t ih =>
    intro h
    exact or_lt (ih (fun u hu => h u (by omega))) (Nat.pow_lt_pow_right (by decide) (h t (by omega)))
theorem mk_or {m s : Nat} (hm : m < 2 ^ 48) (hs : s < 48) : lN m ||| ((1 : Int64) <<< ((nI s).toInt64 &&& 63)) = lN (m ||| 2 ^ s) := by
  have h1 : ((1 : Int64) <<< ((nI s).toInt64 &&& 63)) = lN (2 ^ s) := by
    have := wb_shl 1 (k := s) (by omega)
    rw [Nat.one_mul] at this
    exact this
  rw [h1]
  have h2 : 2 ^ s < 2 ^ 48 := Nat.pow_lt_pow_right (by decide) hs
  exact wb_or (by omega) (by omega)
/-- how many bits -/
def pc (m : Nat) : Nat := cnt (fun v => m.testBit v) 64
/-- FIRST of all houses, for a number -/
theorem fst_pos {f : Nat → Nat} {n t : Nat} (h : 0 < fst f n t) : 9 ≤ fst f n t := by
  obtain ⟨u, h1, h2, h3, h4⟩ := sr_spec (P := fun u => decide (f u = n)) (hi := 96) (t := t) (by unfold fst at h; omega)
  unfold fst
  omega
def eaU (g : Nat → Nat) : Nat → Nat
  | 0 => 95
  | h + 1 => min (eaU g h) (g h - 9)
def laU (g : Nat → Nat) : Nat → Nat
  | 0 => 0
  | h + 1 => max (laU g h) (g h - 9)
def az (g : Nat → Nat) : Nat → Bool
  | 0 => true
  | h + 1 => az g h && decide (0 < g h)
theorem az_t {g : Nat → Nat} {h : Nat} (h1 : az g h = true) (h2 : 0 < g h) : az g (h + 1) = true := by rw [az, h1, dt h2]; rfl
theorem az_f {g : Nat → Nat} {h : Nat} (h2 : g h = 0) : ∀ n, h < n → az g n = false := by
  intro n
  induction n with
  | zero => intro q; omega
  | succ n ih =>
    intro q
    rw [az]
    by_cases e : h = n
    · subst e; rw [df (by omega)]; exact Bool.and_false _
    · rw [ih (by omega)]; rfl
theorem az_all {g : Nat → Nat} : ∀ n, az g n = true → ∀ u, u < n → 0 < g u := by
  intro n
  induction n with
  | zero => intro _ u hu; omega
  | succ n ih =>
    intro h u hu
    rw [az, Bool.and_eq_true] at h
    by_cases e : u = n
    · subst e; exact of_decide_eq_true h.2
    · exact ih h.1 u (by omega)
theorem ea_le {g : Nat → Nat} : ∀ n, 0 < n → (∀ u, u < n → g u ≤ 104) → eaU g n ≤ laU g n ∧ laU g n ≤ 95 := by
  intro n
  induction n with
  | zero => intro h; omega
  | succ n ih =>
    intro _ h
    rw [eaU, laU]
    have := h n (by omega)
    by_cases e : n = 0
    · subst e
      rw [eaU, laU]
      omega
    · have := ih (by omega) (fun u hu => h u (by omega))
      omega
theorem ea_95 (g : Nat → Nat) : ∀ n, eaU g n ≤ 95 := by
  intro n
  induction n with
  | zero => exact Nat.le_refl _
  | succ n ih => rw [eaU]; omega
theorem la_95 (g : Nat → Nat) : ∀ n, (∀ u, u < n → g u ≤ 104) → laU g n ≤ 95 := by
  intro n
  induction n with
  | zero => intro _; exact Nat.zero_le _
  | succ n ih =>
    intro h
    rw [laU]
    have := h n (by omega)
    have := ih (fun u hu => h u (by omega))
    omega
/-- SPREAD: 0 none, else the quarters and 9 -/
def sprE (g : Nat → Nat) (n : Nat) : Nat := if n = 0 then 0 else if az g n = true then (laU g n - eaU g n) + 9 else 0
theorem sprE_0 {g : Nat → Nat} {n : Nat} (h : n = 0) : sprE g n = 0 := if_pos h
theorem sprE_f {g : Nat → Nat} {n h : Nat} (h1 : h < n) (h2 : g h = 0) : sprE g n = 0 := by
  unfold sprE
  rw [if_neg (by omega), if_neg (by rw [az_f h2 n h1]; decide)]
theorem sprE_t {g : Nat → Nat} {n : Nat} (h1 : 0 < n) (h2 : az g n = true) : sprE g n = laU g n - eaU g n + 9 := by
  unfold sprE
  rw [if_neg (by omega), if_pos h2]
theorem sprE_ge {g : Nat → Nat} {n : Nat} (h : 0 < sprE g n) : 9 ≤ sprE g n := by
  unfold sprE at h ⊢
  split at h
  · omega
  · split at h
    · rename_i q1 q2; rw [if_neg q1, if_pos q2]; omega
    · omega
theorem sprE_le {g : Nat → Nat} {n : Nat} (h : ∀ u, u < n → g u ≤ 104) : sprE g n ≤ 104 := by
  unfold sprE
  split
  · omega
  · split
    · have := la_95 g n h
      omega
    · omega
/-- the best so far: (found, least), each 0 for none, else it and 9 -/
def pb (S : Nat → Nat) : Nat → Nat × Nat
  | 0 => (0, 0)
  | v + 1 => if 0 < S v ∧ ((pb S v).1 = 0 ∨ S v < (pb S v).2) then (v + 9, S v) else pb S v
def pbC (S : Nat → Nat) (v be le : Nat) : Prop := be = (pb S v).1 ∧ le = (if (pb S v).1 = 0 then 96 else (pb S v).2 - 9) ∧ ((pb S v).1 ≠ 0 → 9 ≤ (pb S v).2 ∧ (pb S v).2 ≤ 104) ∧ (pb S v).1 ≤ v + 9
theorem pbC_z (S : Nat → Nat) : pbC S 0 0 96 := ⟨rfl, rfl, fun h => absurd rfl h, Nat.zero_le _⟩
theorem pbC_0 {S : Nat → Nat} {v be le : Nat} (h : pbC S v be le) (h0 : S v = 0) : pbC S (v + 1) be le := by
  have e : pb S (v + 1) = pb S v := by rw [pb, if_neg (fun z => by omega)]
  unfold pbC
  rw [e]
  exact ⟨h.1, h.2.1, h.2.2.1, by have := h.2.2.2; omega⟩
theorem pbC_s {S : Nat → Nat} {v be le : Nat} (h : pbC S v be le) (hs : le + 9 ≤ S v) (hb : S v ≤ 104) : pbC S (v + 1) be le := by
  obtain ⟨h1, h2, h3, h4⟩ := h
  have e : pb S (v + 1) = pb S v := by
    rw [pb, if_neg]
    intro z
    rcases z.2 with q | q
    · rw [if_pos q] at h2; omega
    · by_cases q0 : (pb S v).1 = 0
      · rw [if_pos q0] at h2; omega
      · rw [if_neg q0] at h2; have := h3 q0; omega
  unfold pbC
  rw [e]
  exact ⟨h1, h2, h3, by omega⟩
theorem pbC_t {S : Nat → Nat} {v be le : Nat} (h : pbC S v be le) (hp : 9 ≤ S v) (hs : S v < le + 9) (hb : S v ≤ 104) : pbC S (v + 1) (v + 9) (S v - 9) := by
  obtain ⟨h1, h2, h3, h4⟩ := h
  have e : pb S (v + 1) = (v + 9, S v) := by
    rw [pb, if_pos]
    refine ⟨by omega, ?_⟩
    by_cases q0 : (pb S v).1 = 0
    · exact Or.inl q0
    · rw [if_neg q0] at h2
      have := h3 q0
      exact Or.inr (by omega)
  unfold pbC
  rw [e]
  exact ⟨rfl, (if_neg (by show ¬ v + 9 = 0; omega)).symm, fun _ => ⟨hp, hb⟩, by show v + 9 ≤ v + 1 + 9; omega⟩
/-- the first of the greatest -/
def am (T : Nat → Nat) : Nat → Nat
  | 0 => 0
  | k + 1 => if T (am T k) < T k then k else am T k
theorem am_lt (T : Nat → Nat) : ∀ k, am T k ≤ k := by
  intro k
  induction k with
  | zero => exact Nat.le_refl _
  | succ k ih => rw [am]; split <;> omega
theorem am_t {T : Nat → Nat} {k : Nat} (h : T (am T k) < T k) : am T (k + 1) = k := if_pos h
theorem am_f {T : Nat → Nat} {k : Nat} (h : T k ≤ T (am T k)) : am T (k + 1) = am T k := if_neg (by omega)
theorem am_1 (T : Nat → Nat) : am T 1 = 0 := by rw [am_f (Nat.le_refl _)]; rfl
theorem am_congr {T T' : Nat → Nat} : ∀ k, 0 < k → (∀ u, u < k → T u = T' u) → am T k = am T' k := by
  intro k
  induction k with
  | zero => intro h; omega
  | succ k ih =>
    intro _ h
    by_cases e : k = 0
    · subst e; rw [am_1, am_1]
    · have q := ih (by omega) (fun u hu => h u (by omega))
      have l := am_lt T' k
      rw [am, am, q, h k (by omega)]
      by_cases e2 : am T' k = k
      · rw [e2, h k (by omega)]
      · rw [h (am T' k) (by omega)]
/-- houses of a set of bits -/
def bit (s h : Nat) : Prop := (s / 2 ^ h) % 2 = 1
/-- the numbers that a set's houses show -/
def mh (f : Nat → Nat) (s : Nat) : Nat → Nat
  | 0 => 0
  | h + 1 => if (s / 2 ^ h) % 2 = 1 then mh f s h ||| 2 ^ f h else mh f s h
theorem mh_lt {f : Nat → Nat} {s : Nat} : ∀ h, (∀ u, u < h → f u < 48) → mh f s h < 2 ^ 48 := by
  intro h
  induction h with
  | zero => intro _; exact Nat.two_pow_pos 48
  | succ h ih =>
    intro q
    rw [mh]
    split
    · exact or_lt (ih (fun u hu => q u (by omega))) (Nat.pow_lt_pow_right (by decide) (q h (by omega)))
    · exact ih (fun u hu => q u (by omega))
theorem mh_t {f : Nat → Nat} {s h : Nat} (q : (s / 2 ^ h) % 2 = 1) : mh f s (h + 1) = mh f s h ||| 2 ^ f h := if_pos q
theorem mh_f {f : Nat → Nat} {s h : Nat} (q : (s / 2 ^ h) % 2 = 0) : mh f s (h + 1) = mh f s h := if_neg (by omega)
/-- how many unlike numbers the houses of a set show -/
def ulC (f : Nat → Nat) (s n : Nat) : Nat := pc (mh f s n)
/-- the first greatest of 96, above 0: (quarter, most) -/
def mq (U : Nat → Nat) : Nat → Nat × Nat
  | 0 => (0, 0)
  | t + 1 => if (mq U t).2 < U t then (t, U t) else mq U t
theorem mq_t {U : Nat → Nat} {t : Nat} (h : (mq U t).2 < U t) : mq U (t + 1) = (t, U t) := if_pos h
theorem mq_f {U : Nat → Nat} {t : Nat} (h : U t ≤ (mq U t).2) : mq U (t + 1) = mq U t := if_neg (by omega)
theorem mq_le (U : Nat → Nat) : ∀ t, (mq U t).1 ≤ t := by
  intro t
  induction t with
  | zero => exact Nat.le_refl _
  | succ t ih => rw [mq]; split <;> (try dsimp only) <;> omega
theorem mq_le2 {U : Nat → Nat} {B : Nat} (h : ∀ t, U t ≤ B) : ∀ t, (mq U t).2 ≤ B := by
  intro t
  induction t with
  | zero => exact Nat.zero_le _
  | succ t ih => rw [mq]; split; exact h t; exact ih
/-- ran till -/
def lv (p q t : Nat) : Nat := if q = 0 then 0 else t * p / q
/-- the eldest: (found 0 none else it and 9, most and 1) -/
def eld (G : Nat → Nat) : Nat → Nat × Nat
  | 0 => (0, 0)
  | h + 1 => if (eld G h).2 < G h + 1 then (h + 9, G h + 1) else eld G h
theorem eld_t {G : Nat → Nat} {h : Nat} (q : (eld G h).2 < G h + 1) : eld G (h + 1) = (h + 9, G h + 1) := if_pos q
theorem eld_f {G : Nat → Nat} {h : Nat} (q : G h + 1 ≤ (eld G h).2) : eld G (h + 1) = eld G h := if_neg (by omega)
theorem eld_le {G : Nat → Nat} {B : Nat} (q : ∀ h, G h ≤ B) : ∀ h, (eld G h).2 ≤ B + 1 ∧ (eld G h).1 ≤ h + 9 := by
  intro h
  induction h with
  | zero => exact ⟨Nat.zero_le _, Nat.zero_le _⟩
  | succ h ih => rw [eld]; have := q h; split <;> (try dsimp only) <;> omega
/-- what a TURN b makes of two clocks -/
def fm (a b : Nat) : Nat := (a + 48 - b) % 48
theorem fm_lt (a b : Nat) : fm a b < 48 := Nat.mod_lt _ (by decide)
theorem fm_rem : ∀ a, a < 48 → ∀ b, b < 48 → (nI a - nI b) - (nI a - nI b) / nI 48 * nI 48 = nI a - nI b := by decide +kernel
theorem fm_xor : ∀ a, a < 48 → ∀ b, b < 48 → (0 ≤ (nI a - nI b) ^^^ nI 48 ↔ b ≤ a) := by decide +kernel
theorem fm_eq : ∀ a, a < 48 → ∀ b, b < 48 → (nI a - nI b = 0 ↔ a = b) := by decide +kernel
theorem fm_add : ∀ a, a < 48 → ∀ b, b < 48 → a < b → nI a - nI b + nI 48 = nI (fm a b) := by decide +kernel
theorem fm_sub : ∀ a, a < 48 → ∀ b, b < 48 → b ≤ a → nI a - nI b = nI (fm a b) := by decide +kernel
/-- how often each TURN makes two clocks alike -/
def tlU (g : Nat → Nat) (d : Nat → Nat) : Nat → Nat → Nat
  | 0 => g
  | t + 1 => upN (tlU g d t) (d t) (tlU g d t (d t) + 1)
theorem tlU_eq (g d : Nat → Nat) : ∀ t v, tlU g d t v = g v + cnt (fun u => decide (d u = v)) t := by
  intro t
  induction t with
  | zero => intro v; rfl
  | succ t ih =>
    intro v
    show upN (tlU g d t) (d t) (tlU g d t (d t) + 1) v = _
    unfold upN
    rw [cnt]
    by_cases h : v = d t
    · subst h
      rw [if_pos rfl, ih, if_pos (dt rfl)]
      rfl
    · rw [if_neg h, ih, if_neg (by rw [df (fun z => h z.symm)]; decide)]
      rfl
theorem lv_n {p q t : Nat} (h : 0 < q) : lv p q t = t * p / q := if_neg (by omega)
theorem lv_mono {p q a b : Nat} (h : a ≤ b) : lv p q a ≤ lv p q b := by
  unfold lv
  split
  · exact Nat.le_refl _
  · exact Nat.div_le_div_right (Nat.mul_le_mul_right _ h)
theorem lv_le {p q t : Nat} (hp : p ≤ 9) (ht : t ≤ 95) : lv p q t ≤ 855 := by
  unfold lv
  split
  · omega
  · exact Nat.le_trans (Nat.div_le_self _ _) (Nat.mul_le_mul ht hp)
theorem pc_le (m : Nat) : pc m ≤ 64 := cnt_le _ _
def HK (I : Nat → Nat → Nat) : Prop := ∀ h, h < 6 → I 15 h < 48 ∧ I 16 h ≤ 9 ∧ I 17 h ≤ 9 ∧ I 18 h ≤ 2
/-- a TURN is made -/
def lsT (I : Nat → Nat → Nat) : Nat → Nat → Nat := up2 (upA (upA I 8 (cpN (I 8) (I 8) 1 0 9)) 9 (cpN (I 9) (I 9) 1 0 9)) 10 0 9
def adU (I : Nat → Nat → Nat) (h b : Nat) : Nat → Nat → Nat := up2 (up2 (up2 I 8 (I 10 0) h) 9 (I 10 0) b) 10 0 (I 10 0 + 1)
def adT (I : Nat → Nat → Nat) (h b : Nat) : Nat → Nat → Nat := adU (if I 10 0 < 10 then up2 I 7 h ((I 7 h + b) % 48) else lsT (up2 I 7 h ((I 7 h + b) % 48))) h b
/-- a TURN is taken back -/
def tkT (I : Nat → Nat → Nat) : Nat → Nat → Nat := up2 (up2 I 10 0 (I 10 0 - 1)) 7 (I 8 (I 10 0 - 1)) (fm (I 7 (I 8 (I 10 0 - 1))) (I 9 (I 10 0 - 1)))
/-- could a house's watch have been seen -/
def cdC (f : Nat → Nat) (w n : Nat → Nat) (c i : Nat) : Nat := sr (fun k => decide (¬ f (w k) = n k)) c i
def btU (P : Nat → Bool) : Nat → Nat
  | 0 => 0
  | h + 1 => if P h = true then btU P h ||| 2 ^ h else btU P h
theorem btU_lt (P : Nat → Bool) : ∀ h, btU P h < 2 ^ h := by
  intro h
  induction h with
  | zero => exact Nat.one_pos
  | succ h ih =>
    have q : 2 ^ h < 2 ^ (h + 1) := Nat.pow_lt_pow_right (by decide) (by omega)
    rw [btU]
    split
    · exact or_lt (by omega) q
    · omega
theorem btU_t {P : Nat → Bool} {h : Nat} (q : P h = true) : btU P (h + 1) = btU P h ||| 2 ^ h := if_pos q
theorem btU_f {P : Nat → Bool} {h : Nat} (q : P h = false) : btU P (h + 1) = btU P h := if_neg (by rw [q]; decide)
theorem btU_64 (P : Nat → Bool) {h : Nat} (q : h ≤ 6) : btU P h < 64 := Nat.lt_of_lt_of_le (btU_lt P h) (Nat.pow_le_pow_right (by decide) q : 2 ^ h ≤ 2 ^ 6)
theorem shC_12 (I : Nat → Nat → Nat) (g : Nat → Nat) (h t : Nat) : shC (upA I 12 g) h t = shC I h t := by
  unfold shC upA
  rw [if_neg (by omega), if_neg (by decide)]
theorem CK_12 {I : Nat → Nat → Nat} (g : Nat → Nat) (hI : CK I) : CK (upA I 12 g) := by
  refine ⟨hI.1, hI.2.1, hI.2.2.1, fun h hh t ht => ?_, hI.2.2.2.2⟩
  have e : upA I 12 g (20 + h) = I (20 + h) := if_neg (by omega)
  rw [e]
  exact hI.2.2.2.1 h hh t ht
