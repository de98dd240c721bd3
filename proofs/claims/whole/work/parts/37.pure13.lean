/-! PURE 13: a town that is told -/
def bdI (I : Nat → Nat → Nat) (h s p q : Nat) : Nat → Nat → Nat := up2 (up2 (up2 (up2 I 28 h s) 29 h p) 30 h q) 31 h 0
def bdF (s p q : Nat) : Nat → Nat := fun t => (s + lv p q t) % 48
def buI (I : Nat → Nat → Nat) (h s p q : Nat) : Nat → Nat → Nat := upA (bdI I h s p q) (32 + h) (flF (I (32 + h)) (bdF s p q) 96)
theorem bd_28 (I : Nat → Nat → Nat) (g : Nat → Nat) (h s p q : Nat) : upA (bdI I h s p q) (32 + h) g 28 h = s := (congrFun (upA_off _ _ (by omega)) h).trans (up2_at I 28 h s)
theorem bd_29 (I : Nat → Nat → Nat) (g : Nat → Nat) (h s p q : Nat) : upA (bdI I h s p q) (32 + h) g 29 h = p := (congrFun (upA_off _ _ (by omega)) h).trans (up2_at (up2 I 28 h s) 29 h p)
theorem bd_30 (I : Nat → Nat → Nat) (g : Nat → Nat) (h s p q : Nat) : upA (bdI I h s p q) (32 + h) g 30 h = q := (congrFun (upA_off _ _ (by omega)) h).trans (up2_at (up2 (up2 I 28 h s) 29 h p) 30 h q)
theorem bd_d (I : Nat → Nat → Nat) (h s p q : Nat) : bdI I h s p q (32 + h) = I (32 + h) := by
  unfold bdI
  rw [up2_off _ _ _ (by omega), up2_off _ _ _ (by omega), up2_off _ _ _ (by omega), up2_off _ _ _ (by omega)]
theorem upA_at (I : Nat → Nat → Nat) (k : Nat) (g : Nat → Nat) : upA I k g k = g := if_pos rfl
def adF (g : Nat → Nat) (f b k : Nat) : Nat → Nat := fun t => if f ≤ t ∧ t < k then (g t + b) % 48 else g t
theorem adF_0 (g : Nat → Nat) (f b : Nat) : adF g f b f = g := by
  funext t
  unfold adF
  rw [if_neg (by omega)]
theorem adF_at (g : Nat → Nat) (f b k : Nat) : adF g f b k k = g k := by
  unfold adF
  rw [if_neg (by omega)]
theorem adF_s (g : Nat → Nat) {f b k : Nat} (h : f ≤ k) : upN (adF g f b k) k ((g k + b) % 48) = adF g f b (k + 1) := by
  funext t
  unfold upN adF
  by_cases e : t = k
  · subst e; rw [if_pos rfl, if_pos (by omega)]
  · rw [if_neg e]
    by_cases q : f ≤ t ∧ t < k
    · rw [if_pos q, if_pos (by omega)]
    · rw [if_neg q, if_neg (by omega)]
def lpI (I : Nat → Nat → Nat) (h f b : Nat) : Nat → Nat → Nat := upA (up2 I 31 h (I 31 h + 1)) (32 + h) (adF (I (32 + h)) f b 96)
def ahI (I : Nat → Nat → Nat) (s p q : Nat) : Nat → Nat → Nat := up2 (buI I (I 26 0) s p q) 26 0 (I 26 0 + 1)
theorem buI_off (I : Nat → Nat → Nat) (h s p q : Nat) {k : Nat} (hk : k < 28 ∨ 38 ≤ k) (hh : h < 6) : buI I h s p q k = I k := by
  unfold buI bdI
  rw [upA_off _ _ (by omega), up2_off _ _ _ (by omega), up2_off _ _ _ (by omega), up2_off _ _ _ (by omega), up2_off _ _ _ (by omega)]
theorem ahI_off (I : Nat → Nat → Nat) (s p q : Nat) {k : Nat} (hk : k < 26 ∨ k = 27 ∨ 38 ≤ k) (hh : I 26 0 < 6) : ahI I s p q k = I k := by
  unfold ahI
  rw [up2_off _ _ _ (by omega), buI_off _ _ _ _ _ (by omega) hh]
theorem lpI_off (I : Nat → Nat → Nat) (h f b : Nat) {k : Nat} (hk : k < 28 ∨ 38 ≤ k) (hh : h < 6) : lpI I h f b k = I k := by
  unfold lpI
  rw [upA_off _ _ (by omega), up2_off _ _ _ (by omega)]
theorem RK_of {I I2 : Nat → Nat → Nat} (h : RK I) (e : ∀ k, k < 6 → I2 k = I k) : RK I2 := by
  unfold RK TK
  rw [e 0 (by decide), e 1 (by decide), e 2 (by decide), e 3 (by decide), e 4 (by decide), e 5 (by decide)]
  exact h
/-- what the told town keeps to -/
def DKs (I : Nat → Nat → Nat) : Prop := I 26 0 ≤ 6 ∧ ∀ h, h < 6 → I 31 h ≤ 2 ∧ ∀ t, t < 96 → I (32 + h) t < 48
def wkI (I : Nat → Nat → Nat) (w : Nat) : Nat → Nat → Nat := up2 (up2 I 6 0 1) 27 0 w
/-- a HOUSE, a LEAP, a WALK read -/
def rhI (I : Nat → Nat → Nat) : Bool × (Nat → Nat → Nat) :=
  if 6 ≤ I 26 0 then (false, I) else if numB (stI I) (nI 0) (nI 47) = false then (false, stI I) else if numB (stI (stI I)) (nI 1) (nI 9) = false then (false, stI (stI I)) else if numB (stI (stI (stI I))) (nI 1) (nI 9) = false then (false, stI (stI (stI I)))
  else (decide (stI (ahI (stI (stI (stI I))) (stI I 5 0) (stI (stI I) 5 0) (stI (stI (stI I)) 5 0)) 4 0 = 3), stI (ahI (stI (stI (stI I))) (stI I 5 0) (stI (stI I) 5 0) (stI (stI (stI I)) 5 0)))
def rlI (I : Nat → Nat → Nat) : Bool × (Nat → Nat → Nat) :=
  if numB (stI I) (nI 0) (nI (I 26 0) - nI 1) = false then (false, stI I) else if 2 ≤ stI I 31 (stI I 5 0) then (false, stI I) else if numB (stI (stI I)) (nI 0) (nI 95) = false then (false, stI (stI I)) else if numB (stI (stI (stI I))) (nI 1) (nI 47) = false then (false, stI (stI (stI I)))
  else (decide (stI (lpI (stI (stI (stI I))) (stI I 5 0) (stI (stI I) 5 0) (stI (stI (stI I)) 5 0)) 4 0 = 3), stI (lpI (stI (stI (stI I))) (stI I 5 0) (stI (stI I) 5 0) (stI (stI (stI I)) 5 0)))
def rwI (I : Nat → Nat → Nat) : Bool × (Nat → Nat → Nat) :=
  if 0 < I 6 0 then (false, I) else if numB (stI I) (nI 0) (nI 9) = false then (false, stI I)
  else (decide (stI (wkI (stI I) (stI I 5 0)) 4 0 = 3), stI (wkI (stI I) (stI I 5 0)))
theorem numB_v {I : Nat → Nat → Nat} {lo hi : Nat} (h5 : I 5 0 ≤ 100) (hl : lo < 2 ^ 30) (hh : hi < 2 ^ 30) (h : numB I (nI lo) (nI hi) = true) : lo ≤ I 5 0 ∧ I 5 0 ≤ hi := by
  unfold numB at h
  rw [Bool.and_eq_true, wi_nat (by omega) (by omega) (by omega)] at h
  exact of_decide_eq_true h.2
theorem numB_h {I : Nat → Nat → Nat} {n : Nat} (h5 : I 5 0 ≤ 100) (hn : n ≤ 6) (h : numB I (nI 0) (nI n - nI 1) = true) : I 5 0 < n := by
  unfold numB at h
  rw [Bool.and_eq_true] at h
  have h2 := of_decide_eq_true h.2
  have h3 := Int32.le_iff_toInt_le.mp h2.2
  rw [nI_toInt (by omega), pk_sub_toInt (by omega) (by decide)] at h3
  omega
