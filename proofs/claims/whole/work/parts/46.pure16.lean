/-! PURE 16: the reference's next token -/
theorem hr_eq {B : Nat → Nat} {n q c : Nat} (h : hrB B n q = c + 9) : q < n ∧ B q = c := by
  unfold hrB at h
  split at h
  · rename_i z; exact ⟨z, by omega⟩
  · omega
theorem hr_lt {B : Nat → Nat} {n q : Nat} (h : 9 ≤ hrB B n q) : q < n := by
  unfold hrB at h
  split at h
  · rename_i z; exact z
  · omega
theorem hr_ge {B : Nat → Nat} {n q : Nat} (h : hrB B n q < 9) : n ≤ q := by
  unfold hrB at h
  split at h
  · omega
  · omega
theorem hr_le {B : Nat → Nat} {n : Nat} (hB : ∀ k, k < n → B k < 256) (q : Nat) : hrB B n q ≤ 264 := by
  unfold hrB
  split
  · rename_i z; have := hB q z; omega
  · omega
theorem rgB_e {lo hi : Nat} {B : Nat → Nat} {n q : Nat} (h1 : q < n) (h2 : lo ≤ B q ∧ B q ≤ hi) : rgB lo hi B n q = true := by rw [rgB_y h1]; exact dt h2
theorem rgB_32 {B : Nat → Nat} {n q : Nat} (h : ¬ hrB B n q = 32 + 9) : rgB 32 32 B n q = false := by
  unfold rgB
  by_cases z : q < n
  · rw [hrB_y z] at h
    rw [df (show ¬ (32 ≤ B q ∧ B q ≤ 32) by omega), Bool.and_false]
  · rw [df z]; rfl
theorem wi_hr {lo hi : Nat} {B : Nat → Nat} {n q : Nat} (hB : ∀ k, k < n → B k < 256) (hl : lo < 2 ^ 20) (hh : hi < 2 ^ 20) : wi (rN (hrB B n q)) (nI lo) (nI hi) = rgB lo hi B n q := by
  by_cases z : q < n
  · have := hB q z
    rw [hrB_y z, rN_9, wi_nat (by omega) (by omega) (by omega), rgB_y z]
  · rw [hrB_n (by omega), rgB_n (by omega)]
    refine df (fun h => ?_)
    have h1 := Int32.le_iff_toInt_le.mp h.1
    rw [nI_toInt (by omega), rN_toInt (by decide)] at h1
    omega
def cdK (B : Nat → Nat) (s : Nat) : Nat → Nat
  | 0 => 0
  | k + 1 => if k < 5 then 27 * cdK B s k + B (s + k) - 96 else 0
def cdW (n c : Nat) : Nat := if 5 < n then 0 else c
def wdM (c : Nat) : Nat := if c = 4562600 then 0 else if c = 239884 then 1 else if c = 453773 then 2 else 6
def vmG (P : Nat → Bool) (B : Nat → Nat) : Nat → Nat → Nat → Nat
  | 0, _, w => w
  | k + 1, p, w => if P p = true then vmG P B k (p + 1) (if w ≤ 99 then 10 * w + B p - 48 else w) else w
def vmP (P : Nat → Bool) (B : Nat → Nat) (n p w : Nat) : Nat := vmG P B (n - p) p w
theorem vmP_t {P : Nat → Bool} {B : Nat → Nat} {n p w : Nat} (h : p < n) (h2 : P p = true) : vmP P B n p w = vmP P B n (p + 1) (if w ≤ 99 then 10 * w + B p - 48 else w) := by
  unfold vmP
  rw [show n - p = (n - (p + 1)) + 1 by omega, vmG, if_pos h2]
theorem vmP_f {P : Nat → Bool} {B : Nat → Nat} {n p w : Nat} (h2 : n ≤ p ∨ P p = false) : vmP P B n p w = w := by
  unfold vmP
  rcases Nat.eq_zero_or_pos (n - p) with q | q
  · rw [q]; rfl
  · obtain ⟨k, hk⟩ : ∃ k, n - p = k + 1 := ⟨n - p - 1, by omega⟩
    rw [hk, vmG]
    rcases h2 with z | z
    · omega
    · rw [if_neg (by rw [z]; decide)]
def nmM (b s e w : Nat) : Nat := if 99 < w ∨ (b = 48 ∧ 1 < e - s) then 6 else 4
def nxB (I : Nat → Nat → Nat) (e s v : Nat) : Nat → Nat → Nat := up2 (up2 (up2 I 10 0 e) 11 0 s) 13 0 v
theorem nxB_10 (I : Nat → Nat → Nat) (e s v e2 : Nat) : up2 (nxB I e s v) 10 0 e2 = nxB I e2 s v := by
  unfold nxB
  funext q j
  by_cases h0 : q = 10
  · subst h0
    show upN (upN (I 10) 0 e) 0 e2 j = upN (I 10) 0 e2 j
    rw [upN_upN]
  · rw [up2_off _ _ _ h0]
    by_cases h1 : q = 11
    · subst h1; rfl
    · by_cases h3 : q = 13
      · subst h3; rfl
      · rw [up2_off _ _ _ h3, up2_off _ _ _ h1, up2_off _ _ _ h0, up2_off _ _ _ h3, up2_off _ _ _ h1, up2_off _ _ _ h0]
theorem nxB_13 (I : Nat → Nat → Nat) (e s v v2 : Nat) : up2 (nxB I e s v) 13 0 v2 = nxB I e s v2 := up22 _ _ _ _ _
def nxS (I : Nat → Nat → Nat) : Nat := skp (rgB 32 32 (I 0) (I 1 0)) (I 1 0) (I 10 0)
def nxL (I : Nat → Nat → Nat) : Nat := skp (rgB 97 122 (I 0) (I 1 0)) (I 1 0) (nxS I)
def nxD (I : Nat → Nat → Nat) : Nat := skp (rgB 48 57 (I 0) (I 1 0)) (I 1 0) (nxS I)
def nxV (I : Nat → Nat → Nat) : Nat := vmP (rgB 48 57 (I 0) (I 1 0)) (I 0) (I 1 0) (nxS I) 0
def nxCd (I : Nat → Nat → Nat) : Nat := cdW (nxL I - nxS I) (cdK (I 0) (nxS I) (nxL I - nxS I))
def nxJ (I : Nat → Nat → Nat) : Nat → Nat → Nat := if I 1 0 ≤ nxS I then up2 (nxB I (nxS I) (nxS I) 0) 12 0 3 else if rgB 97 122 (I 0) (I 1 0) (nxS I) = true then up2 (nxB I (nxL I) (nxS I) 0) 12 0 (wdM (nxCd I)) else if rgB 48 57 (I 0) (I 1 0) (nxS I) = true then up2 (nxB I (nxD I) (nxS I) (nxV I)) 12 0 (nmM (I 0 (nxS I)) (nxS I) (nxD I) (nxV I)) else up2 (nxB I (nxS I + 1) (nxS I) 0) 12 0 (if I 0 (nxS I) = 59 then 5 else 6)
