/-! PURE 15: the whole text -/
def itI (J : Nat → Nat → Nat) : Bool × (Nat → Nat → Nat) := if J 4 0 = 4 then rhI J else if J 4 0 = 5 then rlI J else if J 4 0 = 6 then rwI J else (false, J)
theorem it_4 {J : Nat → Nat → Nat} (h : J 4 0 = 4) : itI J = rhI J := if_pos h
theorem it_5 {J : Nat → Nat → Nat} (h : J 4 0 = 5) : itI J = rlI J := by unfold itI; rw [if_neg (by omega), if_pos h]
theorem it_6 {J : Nat → Nat → Nat} (h : J 4 0 = 6) : itI J = rwI J := by unfold itI; rw [if_neg (by omega), if_neg (by omega), if_pos h]
theorem it_n {J : Nat → Nat → Nat} (h4 : ¬ J 4 0 = 4) (h5 : ¬ J 4 0 = 5) (h6 : ¬ J 4 0 = 6) : itI J = (false, J) := by unfold itI; rw [if_neg h4, if_neg h5, if_neg h6]
def BK (J : Nat → Nat → Nat) : Prop := RK J ∧ DKs J ∧ J 6 0 < 2
theorem BK_st {J : Nat → Nat → Nat} (h : BK J) : BK (stI J) := ⟨RK_st h.1, DKs_st h.2.1, by rw [stI_off _ (by decide)]; exact h.2.2⟩
theorem BK_it {J : Nat → Nat → Nat} (h : BK J) : BK (itI J).2 := by
  have c6 := h.2.1.1
  have h1 := BK_st h
  have h2 := BK_st h1
  have h3 := BK_st h2
  have e26 : stI (stI (stI J)) 26 = J 26 := by rw [stI_off _ (by decide), stI_off _ (by decide), stI_off _ (by decide)]
  have e31 : stI (stI (stI J)) 31 = J 31 := by rw [stI_off _ (by decide), stI_off _ (by decide), stI_off _ (by decide)]
  unfold itI
  split
  · unfold rhI
    split
    · exact h
    · rename_i q
      split
      · exact h1
      · split
        · exact h2
        · split
          · exact h3
          · have hc : stI (stI (stI J)) 26 0 < 6 := by rw [e26]; omega
            exact BK_st ⟨RK_of h3.1 (fun k hk => ahI_off _ _ _ _ (by omega) hc), DKs_ah h3.2.1 hc, by rw [ahI_off _ _ _ _ (by decide) hc]; exact h3.2.2⟩
  · split
    · unfold rlI
      split
      · exact h1
      · rename_i q
        have hv := numB_h h1.1.2.2.2.2 c6 (by rw [Bool.not_eq_false] at q; exact q)
        split
        · exact h1
        · rename_i q2
          split
          · exact h2
          · split
            · exact h3
            · have hl : stI (stI (stI J)) 31 (stI J 5 0) < 2 := by
                rw [e31]
                have e : stI J 31 = J 31 := stI_off _ (by decide)
                rw [e] at q2
                omega
              exact BK_st ⟨RK_of h3.1 (fun k hk => lpI_off _ _ _ _ (by omega) (by omega)), DKs_lp h3.2.1 hl, by rw [lpI_off _ _ _ _ (by decide) (by omega)]; exact h3.2.2⟩
    · split
      · unfold rwI
        split
        · exact h
        · split
          · exact h1
          · exact BK_st ⟨RK_wk h1.1, DKs_wk h1.2.1, by unfold wkI; rw [up2_off _ _ _ (by decide), up2_at]; decide⟩
      · exact h
def raK : Nat → (Nat → Nat → Nat) → Nat → Int32 × (Nat → Nat → Nat)
  | 0, X, _ => (-10 - nI (X 3 0), X)
  | k + 1, X, i => if stI X 4 0 = 0 then (nI i, stI X) else if (itI (stI X)).1 = true then raK k (itI (stI X)).2 (i + 1) else (-10 - nI ((itI (stI X)).2 3 0), (itI (stI X)).2)
theorem ra_0 {k i : Nat} {X : Nat → Nat → Nat} (h : stI X 4 0 = 0) : raK (k + 1) X i = (nI i, stI X) := by rw [raK]; exact if_pos h
theorem ra_f {k i : Nat} {X Y : Nat → Nat → Nat} {b : Bool} (h : 0 < stI X 4 0) (h2 : itI (stI X) = (b, Y)) (h3 : b = false) : raK (k + 1) X i = (-10 - nI (Y 3 0), Y) := by
  rw [raK, if_neg (by omega), h2, h3]
  rfl
theorem ra_t {k i : Nat} {X Y : Nat → Nat → Nat} {b : Bool} (h : 0 < stI X 4 0) (h2 : itI (stI X) = (b, Y)) (h3 : b = true) : raK (k + 1) X i = raK k Y (i + 1) := by
  rw [raK, if_neg (by omega), h2, h3]
  exact if_pos rfl
def ra0 (I : Nat → Nat → Nat) : Nat → Nat → Nat := up2 (up2 (up2 (up2 I 26 0 0) 27 0 1) 2 0 0) 6 0 0
def raI (I : Nat → Nat → Nat) : Int32 × (Nat → Nat → Nat) := raK 301 (ra0 I) 0
theorem BK_0 {I : Nat → Nat → Nat} (hT : TK I) (h3 : I 3 0 ≤ 300) (h4 : I 4 0 ≤ 6) (h5 : I 5 0 ≤ 100) (hD : DKs I) : BK (ra0 I) := ⟨⟨hT, Nat.zero_le _, h3, h4, h5⟩, ⟨Nat.zero_le _, fun x hx => by
  unfold ra0
  rw [up2_off _ _ _ (by decide), up2_off _ _ _ (by decide), up2_off _ _ _ (by decide), up2_off _ _ _ (by decide), up2_off _ _ _ (by omega), up2_off _ _ _ (by omega), up2_off _ _ _ (by omega), up2_off _ _ _ (by omega)]
  exact hD.2 x hx⟩, (show 0 < 2 by decide)⟩
