/-! PURE 12: what a step reads -/
theorem rgB_in {lo hi : Nat} {B : Nat → Nat} {n k : Nat} (h : rgB lo hi B n k = true) : k < n ∧ lo ≤ B k ∧ B k ≤ hi := by
  unfold rgB at h
  rw [Bool.and_eq_true] at h
  exact ⟨of_decide_eq_true h.1, of_decide_eq_true h.2⟩
def wdK (B : Nat → Nat) (s e : Nat) : Nat := if hsB 0 B s e = true then 4 else if hsB 1 B s e = true then 5 else if hsB 2 B s e = true then 6 else 1
def swE (I : Nat → Nat → Nat) : Nat := skp (rgB 97 122 (I 0) (I 1 0)) (I 1 0) (I 2 0)
def swdI (I : Nat → Nat → Nat) : Nat → Nat → Nat := up2 (up2 I 2 0 (swE I)) 4 0 (wdK (I 0) (I 3 0) (swE I))
def vaG (P : Nat → Bool) (B : Nat → Nat) : Nat → Nat → Nat → Nat
  | 0, _, w => w
  | k + 1, p, w => if P p = true then vaG P B k (p + 1) (min (w * 10 + B p - 48) 100) else w
def vaP (P : Nat → Bool) (B : Nat → Nat) (n p w : Nat) : Nat := vaG P B (n - p) p w
theorem vaP_t {P : Nat → Bool} {B : Nat → Nat} {n p w : Nat} (h : p < n) (h2 : P p = true) : vaP P B n p w = vaP P B n (p + 1) (min (w * 10 + B p - 48) 100) := by
  unfold vaP
  rw [show n - p = (n - (p + 1)) + 1 by omega, vaG, if_pos h2]
theorem vaP_f {P : Nat → Bool} {B : Nat → Nat} {n p w : Nat} (h2 : n ≤ p ∨ P p = false) : vaP P B n p w = w := by
  unfold vaP
  rcases Nat.eq_zero_or_pos (n - p) with q | q
  · rw [q]; rfl
  · obtain ⟨k, hk⟩ : ∃ k, n - p = k + 1 := ⟨n - p - 1, by omega⟩
    rw [hk, vaG]
    rcases h2 with z | z
    · omega
    · rw [if_neg (by rw [z]; decide)]
theorem vaG_le (P : Nat → Bool) (B : Nat → Nat) : ∀ k p w, w ≤ 100 → vaG P B k p w ≤ 100 := by
  intro k
  induction k with
  | zero => intro p w h; exact h
  | succ k ih =>
    intro p w h
    rw [vaG]
    split
    · exact ih _ _ (Nat.min_le_right _ _)
    · exact h
def snE (I : Nat → Nat → Nat) : Nat := skp (rgB 48 57 (I 0) (I 1 0)) (I 1 0) (I 2 0)
def snV (I : Nat → Nat → Nat) : Nat := vaP (rgB 48 57 (I 0) (I 1 0)) (I 0) (I 1 0) (I 2 0) 0
theorem snV_le (I : Nat → Nat → Nat) : snV I ≤ 100 := vaG_le _ _ _ _ _ (by decide)
def nmK (B : Nat → Nat) (s e w : Nat) : Nat := if 99 < w ∨ (B s = 48 ∧ 1 < e - s) then 1 else 2
def snI (I : Nat → Nat → Nat) : Nat → Nat → Nat := up2 (up2 (up2 I 2 0 (snE I)) 5 0 (snV I)) 4 0 (nmK (I 0) (I 3 0) (snE I) (snV I))
theorem up25 (I : Nat → Nat → Nat) (a b c d : Nat) : up2 (up2 (up2 (up2 I 2 0 a) 5 0 b) 5 0 c) 2 0 d = up2 (up2 I 2 0 d) 5 0 c := by
  funext q j
  by_cases h1 : q = 2
  · subst h1
    show upN (upN (I 2) 0 a) 0 d j = upN (I 2) 0 d j
    rw [upN_upN]
  · by_cases h0 : q = 5
    · subst h0
      show upN (upN (I 5) 0 b) 0 c j = upN (I 5) 0 c j
      rw [upN_upN]
    · rw [up2_off _ _ _ h1, up2_off _ _ _ h0, up2_off _ _ _ h0, up2_off _ _ _ h1, up2_off _ _ _ h0, up2_off _ _ _ h1]
theorem up22 (I : Nat → Nat → Nat) (k i a b : Nat) : up2 (up2 I k i a) k i b = up2 I k i b := by
  funext q
  unfold up2
  by_cases h : q = k
  · rw [if_pos h, if_pos h, if_pos rfl, upN_upN]
  · rw [if_neg h, if_neg h, if_neg h]
def stS (I : Nat → Nat → Nat) : Nat := skp (rgB 32 32 (I 0) (I 1 0)) (I 1 0) (I 2 0)
def st0 (I : Nat → Nat → Nat) : Nat → Nat → Nat := up2 (up2 I 2 0 (stS I)) 3 0 (stS I)
def stI (I : Nat → Nat → Nat) : Nat → Nat → Nat := if I 1 0 ≤ stS I then up2 (st0 I) 4 0 0 else if rgB 97 122 (I 0) (I 1 0) (stS I) = true then swdI (st0 I) else if rgB 48 57 (I 0) (I 1 0) (stS I) = true then snI (st0 I) else up2 (up2 (st0 I) 4 0 (if I 0 (stS I) = 59 then 3 else 1)) 2 0 (stS I + 1)
theorem swdI_off (I : Nat → Nat → Nat) {k : Nat} (h : k ≠ 2 ∧ k ≠ 4) : swdI I k = I k := by unfold swdI; rw [up2_off _ _ _ h.2, up2_off _ _ _ h.1]
theorem snI_off (I : Nat → Nat → Nat) {k : Nat} (h : k ≠ 2 ∧ k ≠ 4 ∧ k ≠ 5) : snI I k = I k := by unfold snI; rw [up2_off _ _ _ h.2.1, up2_off _ _ _ h.2.2, up2_off _ _ _ h.1]
theorem st0_off (I : Nat → Nat → Nat) {k : Nat} (h : k ≠ 2 ∧ k ≠ 3) : st0 I k = I k := by unfold st0; rw [up2_off _ _ _ h.2, up2_off _ _ _ h.1]
theorem stI_off (I : Nat → Nat → Nat) {k : Nat} (h : k ≠ 2 ∧ k ≠ 3 ∧ k ≠ 4 ∧ k ≠ 5) : stI I k = I k := by
  unfold stI
  split
  · rw [up2_off _ _ _ h.2.2.1, st0_off _ ⟨h.1, h.2.1⟩]
  · split
    · rw [swdI_off _ ⟨h.1, h.2.2.1⟩, st0_off _ ⟨h.1, h.2.1⟩]
    · split
      · rw [snI_off _ ⟨h.1, h.2.2⟩, st0_off _ ⟨h.1, h.2.1⟩]
      · rw [up2_off _ _ _ h.1, up2_off _ _ _ h.2.2.1, st0_off _ ⟨h.1, h.2.1⟩]
theorem stS_ge {I : Nat → Nat → Nat} (h : I 2 0 ≤ I 1 0) : I 2 0 ≤ stS I ∧ stS I ≤ I 1 0 := skp_ge _ h
theorem stI_le {I : Nat → Nat → Nat} (h : I 2 0 ≤ I 1 0) (h5 : I 5 0 ≤ 100) : stI I 2 0 ≤ I 1 0 ∧ stI I 3 0 = stS I ∧ stI I 4 0 ≤ 6 ∧ stI I 5 0 ≤ 100 := by
  have hs := stS_ge h
  unfold stI
  split
  · exact ⟨hs.2, rfl, Nat.zero_le _, h5⟩
  · split
    · refine ⟨?_, rfl, ?_, h5⟩
      · exact (skp_ge (rgB 97 122 (I 0) (I 1 0)) (n := I 1 0) hs.2).2
      · show wdK _ _ _ ≤ 6
        unfold wdK
        split
        · decide
        · split
          · decide
          · split <;> decide
    · split
      · refine ⟨?_, rfl, ?_, snV_le _⟩
        · exact (skp_ge (rgB 48 57 (I 0) (I 1 0)) (n := I 1 0) hs.2).2
        · show nmK _ _ _ _ ≤ 6
          unfold nmK
          split <;> decide
      · refine ⟨?_, rfl, ?_, h5⟩
        · show stS I + 1 ≤ I 1 0; omega
        · show (if I 0 (stS I) = 59 then 3 else 1) ≤ 6
          split <;> decide
def RK (I : Nat → Nat → Nat) : Prop := TK I ∧ I 2 0 ≤ I 1 0 ∧ I 3 0 ≤ 300 ∧ I 4 0 ≤ 6 ∧ I 5 0 ≤ 100
theorem RK_st {I : Nat → Nat → Nat} (h : RK I) : RK (stI I) := by
  have q := stI_le h.2.1 h.2.2.2.2
  have e1 : stI I 1 = I 1 := stI_off I (by decide)
  have e0 : stI I 0 = I 0 := stI_off I (by decide)
  refine ⟨⟨by rw [e1]; exact h.1.1, fun k hk => ?_⟩, by rw [e1]; exact q.1, by rw [q.2.1]; exact Nat.le_trans (stS_ge h.2.1).2 h.1.1, q.2.2.1, q.2.2.2⟩
  rw [e1] at hk
  rw [e0]
  exact h.1.2 k hk
def numB (I : Nat → Nat → Nat) (lo hi : Int32) : Bool := decide (I 4 0 = 2) && wi (nI (I 5 0)) lo hi
