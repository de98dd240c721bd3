/-! PURE: the functions that both sides answer by -/
def wi (x l m : Int32) : Bool := decide (l ≤ x ∧ x ≤ m)
theorem wi_t {x l m : Int32} (h1 : ¬ x < l) (h2 : ¬ m < x) : wi x l m = true := decide_eq_true ⟨Int32.not_lt.mp h1, Int32.not_lt.mp h2⟩
theorem wi_f1 {x l m : Int32} (h1 : x < l) : wi x l m = false := decide_eq_false (fun z => Int32.not_lt.mpr z.1 h1)
theorem wi_f2 {x l m : Int32} (h2 : m < x) : wi x l m = false := decide_eq_false (fun z => Int32.not_lt.mpr z.2 h2)
theorem wi_in (x : Int32) {k : Nat} (hk : k + 1 < 2 ^ 31) : wi x (nI 0) (nI k) = inB x (k + 1) := by
  unfold wi inB
  congr 1
  rw [Int32.le_iff_toInt_le, Int32.le_iff_toInt_le, nI_toInt (by decide), nI_toInt (by omega)]
  apply propext
  omega
theorem wi_in1 (x : Int32) {n : Nat} (hn : n < 2 ^ 30) : wi x (nI 0) (nI n - nI 1) = inB x n := by
  unfold wi inB
  congr 1
  rw [Int32.le_iff_toInt_le, Int32.le_iff_toInt_le, nI_toInt (by decide), pk_sub_toInt (by omega) (by decide)]
  apply propext
  omega
theorem wi_nat {a l m : Nat} (ha : a < 2 ^ 31) (hl : l < 2 ^ 31) (hm : m < 2 ^ 31) : wi (nI a) (nI l) (nI m) = decide (l ≤ a ∧ a ≤ m) := by
  unfold wi
  congr 1
  rw [nI_leI hl ha, nI_leI ha hm]
/-- a number between two bounds is one of these -/
theorem wi_of {x : Int32} {l m : Nat} (hl : l < 2 ^ 31) (hm : m < 2 ^ 31) (h : wi x (nI l) (nI m) = true) : ∃ j : Nat, l ≤ j ∧ j ≤ m ∧ x = nI j := by
  have h := of_decide_eq_true h
  obtain ⟨j, hj, rfl⟩ := nI_of (x := x) (fun z => by
    rw [Int32.lt_iff_toInt_lt] at z
    have h1 := Int32.le_iff_toInt_le.mp h.1
    rw [nI_toInt hl] at h1
    have : (0 : Int32).toInt = 0 := rfl
    omega)
  exact ⟨j, (nI_leI hl hj).mp h.1, (nI_leI hj hm).mp h.2, rfl⟩
/-- the first t from t on, below hi, with P: t + 9; none: 0 -/
def srK (P : Nat → Bool) : Nat → Nat → Nat
  | 0, _ => 0
  | k + 1, t => if P t = true then t + 9 else srK P k (t + 1)
def sr (P : Nat → Bool) (hi t : Nat) : Nat := srK P (hi - t) t
theorem sr_hit {P : Nat → Bool} {hi t : Nat} (h : t < hi) (hp : P t = true) : sr P hi t = t + 9 := by
  unfold sr
  obtain ⟨k, hk⟩ : ∃ k, hi - t = k + 1 := ⟨hi - t - 1, by omega⟩
  rw [hk, srK, if_pos hp]
theorem sr_miss {P : Nat → Bool} {hi t : Nat} (h : t < hi) (hp : P t = false) : sr P hi t = sr P hi (t + 1) := by
  unfold sr
  obtain ⟨k, hk⟩ : ∃ k, hi - t = k + 1 := ⟨hi - t - 1, by omega⟩
  rw [hk, srK, if_neg (by rw [hp]; decide), show hi - (t + 1) = k by omega]
theorem sr_end {P : Nat → Bool} {hi t : Nat} (h : hi ≤ t) : sr P hi t = 0 := by
  unfold sr
  rw [show hi - t = 0 by omega]
  rfl
theorem srK_le (P : Nat → Bool) : ∀ k t, srK P k t ≤ t + k + 8 := by
  intro k
  induction k with
  | zero => intro t; exact Nat.zero_le _
  | succ k ih =>
    intro t
    rw [srK]
    by_cases h : P t = true
    · rw [if_pos h]; omega
    · rw [if_neg h]
      have := ih (t + 1)
      omega
theorem sr_le (P : Nat → Bool) (hi t : Nat) : sr P hi t ≤ hi + t + 8 := by
  have := srK_le P (hi - t) t
  unfold sr
  omega
theorem srK_spec (P : Nat → Bool) : ∀ k t, srK P k t ≠ 0 → ∃ u, t ≤ u ∧ u < t + k ∧ P u = true ∧ srK P k t = u + 9 := by
  intro k
  induction k with
  | zero => intro t h; exact absurd rfl h
  | succ k ih =>
    intro t h
    rw [srK] at h ⊢
    by_cases hp : P t = true
    · rw [if_pos hp] at h ⊢
      exact ⟨t, Nat.le_refl _, by omega, hp, rfl⟩
    · rw [if_neg hp] at h ⊢
      obtain ⟨u, h1, h2, h3, h4⟩ := ih (t + 1) h
      exact ⟨u, by omega, by omega, h3, h4⟩
theorem sr_spec {P : Nat → Bool} {hi t : Nat} (h : sr P hi t ≠ 0) : ∃ u, t ≤ u ∧ u < hi ∧ P u = true ∧ sr P hi t = u + 9 := by
  obtain ⟨u, h1, h2, h3, h4⟩ := srK_spec P (hi - t) t h
  exact ⟨u, h1, by omega, h3, h4⟩
theorem srK_congr {P P' : Nat → Bool} : ∀ k t, (∀ u, t ≤ u → u < t + k → P u = P' u) → srK P k t = srK P' k t := by
  intro k
  induction k with
  | zero => intro t _; rfl
  | succ k ih =>
    intro t h
    rw [srK, srK, h t (Nat.le_refl _) (by omega), ih (t + 1) (fun u a b => h u (by omega) (by omega))]
theorem sr_congr {P P' : Nat → Bool} {hi t : Nat} (h : ∀ u, t ≤ u → u < hi → P u = P' u) : sr P hi t = sr P' hi t := srK_congr _ _ (fun u a b => h u a (by omega))
/-- how many of 0 .. t - 1 with P -/
def cnt (P : Nat → Bool) : Nat → Nat
  | 0 => 0
  | t + 1 => cnt P t + (if P t = true then 1 else 0)
theorem cnt_t {P : Nat → Bool} {t : Nat} (h : P t = true) : cnt P (t + 1) = cnt P t + 1 := by rw [cnt, if_pos h]
theorem cnt_f {P : Nat → Bool} {t : Nat} (h : P t = false) : cnt P (t + 1) = cnt P t := by rw [cnt, if_neg (by rw [h]; decide)]; rfl
theorem cnt_le (P : Nat → Bool) : ∀ t, cnt P t ≤ t := by
  intro t
  induction t with
  | zero => exact Nat.le_refl _
  | succ t ih => rw [cnt]; split <;> omega
theorem cnt_congr {P P' : Nat → Bool} : ∀ t, (∀ u, u < t → P u = P' u) → cnt P t = cnt P' t := by
  intro t
  induction t with
  | zero => intro _; rfl
  | succ t ih =>
    intro h
    rw [cnt, cnt, h t (by omega), ih (fun u a => h u (by omega))]
theorem dt {q : Prop} {i : Decidable q} (h : q) : decide q = true := decide_eq_true h
theorem df {q : Prop} {i : Decidable q} (h : ¬ q) : decide q = false := decide_eq_false h
/-- what a clock of the class shows -/
def shC (I : Nat → Nat → Nat) (h t : Nat) : Nat := (I (20 + h) t + I 7 h) % 48
theorem shC_lt (I : Nat → Nat → Nat) (h t : Nat) : shC I h t < 48 := Nat.mod_lt _ (by decide)
/-- FIRST: 0 none, else the quarter and 9 -/
def fst (f : Nat → Nat) (n t : Nat) : Nat := sr (fun u => decide (f u = n)) 96 t
theorem fst_le (f : Nat → Nat) (n t : Nat) : fst f n t ≤ 104 + t := by
  have := sr_le (fun u => decide (f u = n)) 96 t
  unfold fst
  omega
/-- what the class's clocks keep to -/
def CK (I : Nat → Nat → Nat) : Prop := I 13 0 ≤ 6 ∧ I 14 0 ≤ 9 ∧ I 11 0 ≤ 95 ∧ (∀ h, h < 6 → ∀ t, t < 96 → I (20 + h) t < 48) ∧ (∀ h, h < 6 → I 7 h < 48)
