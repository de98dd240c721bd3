/-! PURE 21: the reference's town is taken -/
def SJ (X : Nat → Nat → Nat) : Prop := X 2 1 ≤ 6 ∧ (∀ x, x < 12 → X 7 x ≤ 2) ∧ X 15 0 < 2
theorem SJ_wa {J : Nat → Nat → Nat} {z : Nat} (h : SJ J) : SJ (waJ J z) := by
  unfold SJ
  rw [waJ_off J z (k := 2) (by decide), waJ_off J z (k := 7) (by decide), waJ_off J z (k := 15) (by decide)]
  exact h
theorem SJ_h3 {J : Nat → Nat → Nat} (h : SJ J) : SJ (ho3 J) := by
  have h1 : SJ (ho1 J) := (SJ_wa h : SJ (waJ J (nuZ J (nI 0) (nI 47))))
  have h2 : SJ (ho2 J) := (SJ_wa h1 : SJ (waJ (ho1 J) (nuZ (ho1 J) (nI 1) (nI 9))))
  exact (SJ_wa h2 : SJ (waJ (ho2 J) (nuZ (ho2 J) (nI 1) (nI 9))))
theorem SJ_ho {J : Nat → Nat → Nat} (h : SJ J) (hc : J 2 1 < 6) : SJ (hoJ J) := by
  have h3 := SJ_h3 h
  have e := ho3_2 J
  refine ⟨?_, fun x hx => ?_, h3.2.2⟩
  · show ho3 J 2 1 + 1 ≤ 6
    rw [e]
    omega
  · show upN (ho3 J 7) (6 + J 2 1) 0 x ≤ 2
    unfold upN
    split
    · omega
    · exact h3.2.1 x hx
theorem SJ_le {J : Nat → Nat → Nat} (h : SJ J) (hR : RJ J) : SJ (leJ J) := by
  have h3 : SJ (le3 J) := SJ_wa (SJ_wa (SJ_wa h))
  unfold leJ
  split
  · rename_i q
    have v := leZ_v (le3_v hR q).1
    have e7 : le3 J 7 = J 7 := le3_off J (by decide)
    refine ⟨h3.1, fun x hx => ?_, h3.2.2⟩
    show upN (le3 J 7) (6 + J 13 0) (le3 J 7 (6 + J 13 0) + 1) x ≤ 2
    unfold upN
    split
    · rw [e7]; omega
    · exact h3.2.1 x hx
  · exact h3
theorem SJ_wk {J : Nat → Nat → Nat} (h : SJ J) : SJ (wkJ J) := ⟨(SJ_wa (z := nuZ J (nI 0) (nI 9)) h).1, (SJ_wa (z := nuZ J (nI 0) (nI 9)) h).2.1, (show 1 < 2 by decide)⟩
theorem SJ_ri {J : Nat → Nat → Nat} (h : SJ J) (hR : RJ J) : SJ (riJ J) := by
  have h1 : SJ (ri1 J) := SJ_wa h
  unfold riJ
  split
  · rename_i q
    have ok := ri_ok q
    refine SJ_wa ?_
    unfold riK
    split
    · rename_i q2
      refine SJ_ho h1 ?_
      have e : ri1 J 2 = J 2 := waJ_off _ _ (by decide)
      rw [e]
      omega
    · split
      · exact SJ_le h1 (RJ_r1 hR)
      · exact SJ_wk h1
  · exact h1
def cqF (g : Nat → Nat) (o k : Nat) : Nat → Nat := fun j => if j < k then g (o + j) else g j
theorem cqF_0 (g : Nat → Nat) (o : Nat) : cqF g o 0 = g := by funext j; unfold cqF; rw [if_neg (by omega)]
theorem cqF_at (g : Nat → Nat) {o k : Nat} (h : k ≤ o) (h0 : 0 < o) : cqF g o k (o + k) = g (o + k) := by unfold cqF; rw [if_neg (by omega)]
theorem cqF_s (g : Nat → Nat) (o k : Nat) : upN (cqF g o k) k (g (o + k)) = cqF g o (k + 1) := by
  funext j
  unfold upN cqF
  by_cases h1 : j = k
  · subst h1; rw [if_pos rfl, if_pos (by omega)]
  · rw [if_neg h1]
    by_cases h2 : j < k
    · rw [if_pos h2, if_pos (by omega)]
    · rw [if_neg h2, if_neg (by omega)]
def ok4 (X : Nat → Nat → Nat) (h : Nat) : Nat → Nat → Nat := upA (upA (upA (upA (up2 (up2 X 2 0 (X 2 1)) 3 0 (X 3 1)) 4 (cqF (X 4) 6 h)) 5 (cqF (X 5) 6 h)) 6 (cqF (X 6) 6 h)) 7 (cqF (X 7) 6 h)
theorem ok4_s (X : Nat → Nat → Nat) (h : Nat) : up2 (up2 (up2 (up2 (ok4 X h) 4 h (X 4 (6 + h))) 5 h (X 5 (6 + h))) 6 h (X 6 (6 + h))) 7 h (X 7 (6 + h)) = ok4 X (h + 1) := by
  funext q
  by_cases e4 : q = 4
  · subst e4; exact cqF_s (X 4) 6 h
  · by_cases e5 : q = 5
    · subst e5; exact cqF_s (X 5) 6 h
    · by_cases e6 : q = 6
      · subst e6; exact cqF_s (X 6) 6 h
      · by_cases e7 : q = 7
        · subst e7; exact cqF_s (X 7) 6 h
        · rw [up2_off _ _ _ e7, up2_off _ _ _ e6, up2_off _ _ _ e5, up2_off _ _ _ e4]
          unfold ok4
          rw [upA_off _ _ e7, upA_off _ _ e6, upA_off _ _ e5, upA_off _ _ e4, upA_off _ _ e7, upA_off _ _ e6, upA_off _ _ e5, upA_off _ _ e4]
def ok8 (X : Nat → Nat → Nat) (k : Nat) : Nat → Nat → Nat := upA (upA (ok4 X 6) 8 (cqF (X 8) 12 k)) 9 (cqF (X 9) 12 k)
theorem ok8_s (X : Nat → Nat → Nat) (k : Nat) : up2 (up2 (ok8 X k) 8 k (X 8 (12 + k))) 9 k (X 9 (12 + k)) = ok8 X (k + 1) := by
  funext q
  by_cases e8 : q = 8
  · subst e8; exact cqF_s (X 8) 12 k
  · by_cases e9 : q = 9
    · subst e9; exact cqF_s (X 9) 12 k
    · rw [up2_off _ _ _ e9, up2_off _ _ _ e8]
      unfold ok8
      rw [upA_off _ _ e9, upA_off _ _ e8, upA_off _ _ e9, upA_off _ _ e8]
def okN (X : Nat → Nat → Nat) (k : Nat) : Nat → Nat → Nat := upA (ok8 X 12) 16 (flN (X 16) k 0)
def okJ (X : Nat → Nat → Nat) : Nat → Nat → Nat := up2 (up2 (up2 (up2 (up2 (up2 (okN X 28) 19 0 0) 24 0 0) 26 0 0) 17 0 0) 17 1 0) 1 0 0
def toJ (J : Nat → Nat → Nat) : Nat → Nat → Nat := if (twJ J).1 14 0 = 0 then okJ (twJ J).1 else (twJ J).1
def r_town (J : Nat → Nat → Nat) : Int32 := if (twJ J).1 14 0 = 0 then nI (twJ J).2 else -10 - rN ((twJ J).1 14 0)
theorem ok4_0 (X : Nat → Nat → Nat) : up2 (up2 X 2 0 (X 2 1)) 3 0 (X 3 1) = upA (upA (upA (upA (up2 (up2 X 2 0 (X 2 1)) 3 0 (X 3 1)) 4 (X 4)) 5 (X 5)) 6 (X 6)) 7 (X 7) := by
  funext q
  by_cases e4 : q = 4
  · subst e4; rfl
  · by_cases e5 : q = 5
    · subst e5; rfl
    · by_cases e6 : q = 6
      · subst e6; rfl
      · by_cases e7 : q = 7
        · subst e7; rfl
        · rw [upA_off _ _ e7, upA_off _ _ e6, upA_off _ _ e5, upA_off _ _ e4]
theorem ok8_0 (X : Nat → Nat → Nat) : ok4 X 6 = ok8 X 0 := by
  unfold ok8
  rw [cqF_0, cqF_0]
  funext q
  by_cases e8 : q = 8
  · subst e8; rfl
  · by_cases e9 : q = 9
    · subst e9; rfl
    · rw [upA_off _ _ e9, upA_off _ _ e8]
theorem okN_0 (X : Nat → Nat → Nat) : ok8 X 12 = okN X 0 := by
  unfold okN
  rw [flN_00]
  exact (upA_self (ok8 X 12) 16).symm
