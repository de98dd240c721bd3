/-! PURE 17: what the reference wants -/
def RJ (J : Nat → Nat → Nat) : Prop := TK J ∧ J 10 0 ≤ J 1 0 ∧ J 11 0 ≤ 300 ∧ J 12 0 ≤ 6 ∧ J 13 0 ≤ 999 ∧ J 14 0 ≤ 309
theorem nxJ_off (I : Nat → Nat → Nat) {k : Nat} (h : k ≠ 10 ∧ k ≠ 11 ∧ k ≠ 12 ∧ k ≠ 13) : nxJ I k = I k := by
  have hb : ∀ e s v x, up2 (nxB I e s v) 12 0 x k = I k := fun e s v x => by
    unfold nxB
    rw [up2_off _ _ _ h.2.2.1, up2_off _ _ _ h.2.2.2, up2_off _ _ _ h.2.1, up2_off _ _ _ h.1]
  unfold nxJ
  split
  · exact hb _ _ _ _
  · split
    · exact hb _ _ _ _
    · split
      · exact hb _ _ _ _
      · exact hb _ _ _ _
theorem vmG_le {P : Nat → Bool} {B : Nat → Nat} (hP : ∀ p, P p = true → B p ≤ 57) : ∀ k p w, w ≤ 999 → vmG P B k p w ≤ 999 := by
  intro k
  induction k with
  | zero => intro p w h; exact h
  | succ k ih =>
    intro p w h
    rw [vmG]
    split
    · rename_i z
      have := hP p z
      refine ih _ _ ?_
      split <;> omega
    · exact h
theorem RJ_nx {J : Nat → Nat → Nat} (h : RJ J) : RJ (nxJ J) := by
  have hs := skp_ge (rgB 32 32 (J 0) (J 1 0)) h.2.1
  have hs2 : nxS J ≤ J 1 0 := hs.2
  have h3 := h.1.1
  have e : ∀ k, (k ≠ 10 ∧ k ≠ 11 ∧ k ≠ 12 ∧ k ≠ 13) → nxJ J k = J k := fun k hk => nxJ_off J hk
  have key : nxJ J 10 0 ≤ J 1 0 ∧ nxJ J 11 0 ≤ 300 ∧ nxJ J 12 0 ≤ 6 ∧ nxJ J 13 0 ≤ 999 := by
    unfold nxJ
    split
    · exact ⟨hs2, (show nxS J ≤ 300 by omega), (show 3 ≤ 6 by decide), (show 0 ≤ 999 by decide)⟩
    · split
      · refine ⟨(skp_ge (rgB 97 122 (J 0) (J 1 0)) hs2).2, (show nxS J ≤ 300 by omega), ?_, (show 0 ≤ 999 by decide)⟩
        show wdM _ ≤ 6
        unfold wdM
        split
        · decide
        · split
          · decide
          · split <;> decide
      · split
        · refine ⟨(skp_ge (rgB 48 57 (J 0) (J 1 0)) hs2).2, (show nxS J ≤ 300 by omega), ?_, ?_⟩
          · show nmM _ _ _ _ ≤ 6
            unfold nmM
            split <;> decide
          · exact vmG_le (fun p hp => (rgB_in hp).2.2) _ _ _ (by decide)
        · refine ⟨(show nxS J + 1 ≤ J 1 0 by omega), (show nxS J ≤ 300 by omega), ?_, (show 0 ≤ 999 by decide)⟩
          show (if _ then 5 else 6) ≤ 6
          split <;> decide
  refine ⟨⟨by rw [e 1 (by decide)]; exact h3, fun k hk => ?_⟩, by rw [e 1 (by decide)]; exact key.1, key.2.1, key.2.2.1, key.2.2.2, by rw [e 14 (by decide)]; exact h.2.2.2.2.2⟩
  rw [e 1 (by decide)] at hk
  rw [e 0 (by decide)]
  exact h.1.2 k hk
def waJ (J : Nat → Nat → Nat) (z : Nat) : Nat → Nat → Nat := if J 14 0 = 0 then (if z = 0 then up2 J 14 0 (J 11 0 + 9) else nxJ J) else J
theorem RJ_wa {J : Nat → Nat → Nat} {z : Nat} (h : RJ J) : RJ (waJ J z) := by
  unfold waJ
  split
  · split
    · exact ⟨h.1, h.2.1, h.2.2.1, h.2.2.2.1, h.2.2.2.2.1, (show J 11 0 + 9 ≤ 309 by have := h.2.2.1; omega)⟩
    · exact RJ_nx h
  · exact h
theorem waJ_off (J : Nat → Nat → Nat) (z : Nat) {k : Nat} (h : k ≠ 10 ∧ k ≠ 11 ∧ k ≠ 12 ∧ k ≠ 13 ∧ k ≠ 14) : waJ J z k = J k := by
  unfold waJ
  split
  · split
    · rw [up2_off _ _ _ h.2.2.2.2]
    · exact nxJ_off J ⟨h.1, h.2.1, h.2.2.1, h.2.2.2.1⟩
  · rfl
theorem wa_ok {J : Nat → Nat → Nat} {z : Nat} (h : waJ J z 14 0 = 0) : J 14 0 = 0 ∧ z ≠ 0 ∧ waJ J z = nxJ J := by
  unfold waJ at h ⊢
  by_cases q : J 14 0 = 0
  · rw [if_pos q] at h ⊢
    by_cases q2 : z = 0
    · rw [if_pos q2] at h
      have e : up2 J 14 0 (J 11 0 + 9) 14 0 = J 11 0 + 9 := rfl
      omega
    · rw [if_neg q2]
      exact ⟨q, q2, rfl⟩
  · rw [if_neg q] at h
    exact absurd h q
def nuZ (J : Nat → Nat → Nat) (lo hi : Int32) : Nat := if J 12 0 = 4 then bN1 (wi (nI (J 13 0)) lo hi) else 0
theorem nuZ_le (J : Nat → Nat → Nat) (lo hi : Int32) : nuZ J lo hi ≤ 1 := by
  unfold nuZ
  split
  · exact bN1_le _
  · omega
theorem nuZ_v {J : Nat → Nat → Nat} {lo hi : Nat} (h13 : J 13 0 ≤ 999) (hl : lo < 2 ^ 30) (hh : hi < 2 ^ 30) (h : nuZ J (nI lo) (nI hi) ≠ 0) : J 12 0 = 4 ∧ lo ≤ J 13 0 ∧ J 13 0 ≤ hi := by
  unfold nuZ at h
  split at h
  · rename_i q
    rw [wi_nat (by omega) (by omega) (by omega)] at h
    refine ⟨q, ?_⟩
    by_cases z : lo ≤ J 13 0 ∧ J 13 0 ≤ hi
    · exact z
    · rw [df z] at h; exact absurd rfl h
  · exact absurd rfl h
def leZ (J : Nat → Nat → Nat) : Nat := if J 12 0 = 4 ∧ J 13 0 < J 2 1 ∧ J 7 (6 + J 13 0) < 2 then 1 else 0
def le1 (J : Nat → Nat → Nat) : Nat → Nat → Nat := waJ J (leZ J)
def le2 (J : Nat → Nat → Nat) : Nat → Nat → Nat := waJ (le1 J) (nuZ (le1 J) (nI 0) (nI 95))
def le3 (J : Nat → Nat → Nat) : Nat → Nat → Nat := waJ (le2 J) (nuZ (le2 J) (nI 1) (nI 47))
def leW (J : Nat → Nat → Nat) (x f b : Nat) : Nat → Nat → Nat := up2 (up2 (up2 J 8 (2 * (6 + x) + J 7 (6 + x)) f) 9 (2 * (6 + x) + J 7 (6 + x)) b) 7 (6 + x) (J 7 (6 + x) + 1)
def leJ (J : Nat → Nat → Nat) : Nat → Nat → Nat := if le3 J 14 0 = 0 then leW (le3 J) (J 13 0) (le1 J 13 0) (le2 J 13 0) else le3 J
