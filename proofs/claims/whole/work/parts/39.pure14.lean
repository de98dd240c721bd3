/-! PURE 14: all items -/
theorem DKs_of {I I2 : Nat → Nat → Nat} (h : DKs I) (e26 : I2 26 0 ≤ 6) (e : ∀ x, x < 6 → I2 31 x ≤ 2 ∧ ∀ t, t < 96 → I2 (32 + x) t < 48) : DKs I2 := ⟨e26, e⟩
theorem DKs_st {I : Nat → Nat → Nat} (h : DKs I) : DKs (stI I) := by
  refine ⟨by rw [stI_off _ (by decide)]; exact h.1, fun x hx => ?_⟩
  rw [stI_off _ (by decide), stI_off _ (by omega)]
  exact h.2 x hx
theorem DKs_ah {I : Nat → Nat → Nat} {s p q : Nat} (h : DKs I) (hc : I 26 0 < 6) : DKs (ahI I s p q) := by
  refine ⟨?_, fun x hx => ?_⟩
  · unfold ahI
    rw [up2_at]
    omega
  · unfold ahI
    rw [up2_off _ _ _ (by decide), up2_off _ _ _ (by omega)]
    unfold buI
    rw [upA_off _ _ (by omega)]
    refine ⟨?_, ?_⟩
    · unfold bdI
      by_cases e : x = I 26 0
      · subst e; rw [up2_at]; exact Nat.zero_le _
      · rw [up2_ne _ _ e, up2_off _ _ _ (by decide), up2_off _ _ _ (by decide), up2_off _ _ _ (by decide)]; exact (h.2 x hx).1
    · intro t ht
      by_cases e : x = I 26 0
      · rw [e, upA_at]
        unfold flF
        rw [if_pos ht]
        exact Nat.mod_lt _ (by decide)
      · rw [upA_off _ _ (by omega)]
        unfold bdI
        rw [up2_off _ _ _ (by omega), up2_off _ _ _ (by omega), up2_off _ _ _ (by omega), up2_off _ _ _ (by omega)]
        exact (h.2 x hx).2 t ht
theorem DKs_lp {I : Nat → Nat → Nat} {v f b : Nat} (h : DKs I) (hl : I 31 v < 2) : DKs (lpI I v f b) := by
  unfold lpI
  refine ⟨by rw [upA_off _ _ (by omega), up2_off _ _ _ (by decide)]; exact h.1, fun x hx => ?_⟩
  rw [upA_off _ _ (by omega)]
  refine ⟨?_, fun t ht => ?_⟩
  · by_cases e : x = v
    · subst e; rw [up2_at]; omega
    · rw [up2_ne _ _ e]; exact (h.2 x hx).1
  · by_cases e : x = v
    · subst e
      rw [upA_at]
      unfold adF
      split
      · exact Nat.mod_lt _ (by decide)
      · exact (h.2 x hx).2 t ht
    · rw [upA_off _ _ (by omega), up2_off _ _ _ (by omega)]; exact (h.2 x hx).2 t ht
theorem DKs_wk {I : Nat → Nat → Nat} {w : Nat} (h : DKs I) : DKs (wkI I w) := by
  unfold wkI
  refine ⟨by rw [up2_off _ _ _ (by decide), up2_off _ _ _ (by decide)]; exact h.1, fun x hx => ?_⟩
  rw [up2_off _ _ _ (by decide), up2_off _ _ _ (by decide), up2_off _ _ _ (by omega), up2_off _ _ _ (by omega)]
  exact h.2 x hx
theorem RK_wk {I : Nat → Nat → Nat} {w : Nat} (h : RK I) : RK (wkI I w) := RK_of h (fun k hk => by unfold wkI; rw [up2_off _ _ _ (by omega)]; exact if_neg (by omega))
