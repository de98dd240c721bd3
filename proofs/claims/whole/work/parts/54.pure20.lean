/-! PURE 20: the reference's reading comes to an end -/
def TN (J : Nat → Nat → Nat) : Prop := RJ J ∧ J 11 0 ≤ J 10 0 ∧ (J 12 0 ≠ 3 → J 11 0 < J 10 0)
theorem nx_tok {J : Nat → Nat → Nat} (h : RJ J) : TN (nxJ J) ∧ J 10 0 ≤ nxJ J 11 0 := by
  have hr := RJ_nx h
  have hs := skp_ge (rgB 32 32 (J 0) (J 1 0)) h.2.1
  have key : J 10 0 ≤ nxJ J 11 0 ∧ nxJ J 11 0 ≤ nxJ J 10 0 ∧ (nxJ J 12 0 ≠ 3 → nxJ J 11 0 < nxJ J 10 0) := by
    unfold nxJ
    split
    · exact ⟨hs.1, Nat.le_refl (nxS J), fun z => absurd (show (3 : Nat) = 3 from rfl) z⟩
    · rename_i q
      have hq : nxS J < J 1 0 := Nat.not_le.mp q
      split
      · rename_i q2
        have e : nxL J = skp (rgB 97 122 (J 0) (J 1 0)) (J 1 0) (nxS J + 1) := skp_t hq q2
        have g := (skp_ge (rgB 97 122 (J 0) (J 1 0)) (show nxS J + 1 ≤ J 1 0 by omega)).1
        rw [← e] at g
        exact ⟨hs.1, (show nxS J ≤ nxL J by omega), fun _ => (show nxS J < nxL J by omega)⟩
      · split
        · rename_i q2
          have e : nxD J = skp (rgB 48 57 (J 0) (J 1 0)) (J 1 0) (nxS J + 1) := skp_t hq q2
          have g := (skp_ge (rgB 48 57 (J 0) (J 1 0)) (show nxS J + 1 ≤ J 1 0 by omega)).1
          rw [← e] at g
          exact ⟨hs.1, (show nxS J ≤ nxD J by omega), fun _ => (show nxS J < nxD J by omega)⟩
        · exact ⟨hs.1, (show nxS J ≤ nxS J + 1 by omega), fun _ => (show nxS J < nxS J + 1 by omega)⟩
  exact ⟨⟨hr, key.2.1, key.2.2⟩, key.1⟩
theorem wa_tok {J : Nat → Nat → Nat} {z : Nat} (h : TN J) : TN (waJ J z) ∧ J 11 0 ≤ waJ J z 11 0 := by
  have hr := RJ_wa (z := z) h.1
  have n := nx_tok h.1
  have key : waJ J z 11 0 ≤ waJ J z 10 0 ∧ (waJ J z 12 0 ≠ 3 → waJ J z 11 0 < waJ J z 10 0) ∧ J 11 0 ≤ waJ J z 11 0 := by
    unfold waJ
    split
    · split
      · exact ⟨h.2.1, h.2.2, Nat.le_refl _⟩
      · exact ⟨n.1.2.1, n.1.2.2, Nat.le_trans h.2.1 n.2⟩
    · exact ⟨h.2.1, h.2.2, Nat.le_refl _⟩
  exact ⟨⟨hr, key.1, key.2.1⟩, key.2.2⟩
theorem wa_dec {J : Nat → Nat → Nat} {z : Nat} (h : TN J) (h3 : J 12 0 ≠ 3) (h0 : waJ J z 14 0 = 0) : J 11 0 < waJ J z 11 0 := by
  rw [(wa_ok h0).2.2]
  exact Nat.lt_of_lt_of_le (h.2.2 h3) (nx_tok h.1).2
theorem ho_tok {J : Nat → Nat → Nat} (h : TN J) : TN (hoJ J) ∧ J 11 0 ≤ hoJ J 11 0 := by
  have h1 : TN (ho1 J) ∧ J 11 0 ≤ ho1 J 11 0 := (wa_tok h : TN (waJ J (nuZ J (nI 0) (nI 47))) ∧ J 11 0 ≤ waJ J (nuZ J (nI 0) (nI 47)) 11 0)
  have h2 : TN (ho2 J) ∧ ho1 J 11 0 ≤ ho2 J 11 0 := (wa_tok h1.1 : TN (waJ (ho1 J) (nuZ (ho1 J) (nI 1) (nI 9))) ∧ ho1 J 11 0 ≤ waJ (ho1 J) (nuZ (ho1 J) (nI 1) (nI 9)) 11 0)
  have h3 : TN (ho3 J) ∧ ho2 J 11 0 ≤ ho3 J 11 0 := (wa_tok h2.1 : TN (waJ (ho2 J) (nuZ (ho2 J) (nI 1) (nI 9))) ∧ ho2 J 11 0 ≤ waJ (ho2 J) (nuZ (ho2 J) (nI 1) (nI 9)) 11 0)
  have e : TN (hoJ J) ∧ ho3 J 11 0 ≤ hoJ J 11 0 := ⟨h3.1, Nat.le_refl _⟩
  exact ⟨e.1, by omega⟩
theorem le_tok {J : Nat → Nat → Nat} (h : TN J) : TN (leJ J) ∧ J 11 0 ≤ leJ J 11 0 := by
  have h1 : TN (le1 J) ∧ J 11 0 ≤ le1 J 11 0 := wa_tok h
  have h2 : TN (le2 J) ∧ le1 J 11 0 ≤ le2 J 11 0 := wa_tok h1.1
  have h3 : TN (le3 J) ∧ le2 J 11 0 ≤ le3 J 11 0 := wa_tok h2.1
  have e : TN (leJ J) ∧ le3 J 11 0 ≤ leJ J 11 0 := by
    unfold leJ
    split
    · exact ⟨h3.1, Nat.le_refl _⟩
    · exact ⟨h3.1, Nat.le_refl _⟩
  exact ⟨e.1, by omega⟩
theorem wk_tok {J : Nat → Nat → Nat} (h : TN J) : TN (wkJ J) ∧ J 11 0 ≤ wkJ J 11 0 := (wa_tok h : TN (waJ J (nuZ J (nI 0) (nI 9))) ∧ J 11 0 ≤ waJ J (nuZ J (nI 0) (nI 9)) 11 0)
theorem ri_tok {J : Nat → Nat → Nat} (h : TN J) (h3 : J 12 0 ≠ 3) : TN (riJ J) ∧ J 11 0 ≤ riJ J 11 0 ∧ (riJ J 14 0 = 0 → J 11 0 < riJ J 11 0) := by
  have h1 : TN (ri1 J) ∧ J 11 0 ≤ ri1 J 11 0 := wa_tok h
  have hK : TN (riK J) ∧ ri1 J 11 0 ≤ riK J 11 0 := by
    unfold riK
    split
    · exact ho_tok h1.1
    · split
      · exact le_tok h1.1
      · exact wk_tok h1.1
  unfold riJ
  split
  · rename_i q
    have hd : J 11 0 < ri1 J 11 0 := wa_dec h h3 q
    have hw := wa_tok (z := if riK J 12 0 = 5 then 1 else 0) hK.1
    exact ⟨hw.1, by omega, fun _ => by omega⟩
  · rename_i q
    exact ⟨h1.1, h1.2, fun z => absurd z q⟩
def ms (J : Nat → Nat → Nat) : Nat := 2 * (301 - J 11 0) + (if J 14 0 = 0 then 1 else 0)
theorem ms_dec {J : Nat → Nat → Nat} (h : TN J) (h0 : J 14 0 = 0) (h3 : J 12 0 ≠ 3) : ms (riJ J) < ms J := by
  have r := ri_tok h h3
  have b := r.1.1.2.2.1
  have b2 := h.1.2.2.1
  unfold ms
  rw [if_pos h0]
  by_cases q : riJ J 14 0 = 0
  · have := r.2.2 q
    rw [if_pos q]
    omega
  · rw [if_neg q]
    omega
def twK : Nat → (Nat → Nat → Nat) → Nat → (Nat → Nat → Nat) × Nat
  | 0, X, i => (X, i)
  | k + 1, X, i => if X 14 0 = 0 ∧ X 12 0 ≠ 3 then twK k (riJ X) (i + 1) else (X, i)
def tw0 (J : Nat → Nat → Nat) : Nat → Nat → Nat := nxJ (up2 (up2 (up2 (up2 (up2 J 10 0 0) 14 0 0) 15 0 0) 2 1 0) 3 1 1)
def twJ (J : Nat → Nat → Nat) : (Nat → Nat → Nat) × Nat := twK 1000 (tw0 J) 0
theorem tw_s {k i : Nat} {X : Nat → Nat → Nat} (h0 : X 14 0 = 0) (h3 : ¬ X 12 0 = 3) : twK (k + 1) X i = twK k (riJ X) (i + 1) := by rw [twK]; exact if_pos ⟨h0, h3⟩
theorem tw_e {k i : Nat} {X : Nat → Nat → Nat} (h : ¬ (X 14 0 = 0 ∧ X 12 0 ≠ 3)) : twK (k + 1) X i = (X, i) := by rw [twK]; exact if_neg h
