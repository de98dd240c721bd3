/-! PURE 18: an item of the reference -/
theorem leZ_v {J : Nat → Nat → Nat} (h : leZ J ≠ 0) : J 12 0 = 4 ∧ J 13 0 < J 2 1 ∧ J 7 (6 + J 13 0) < 2 := by
  unfold leZ at h
  split at h
  · rename_i z; exact z
  · exact absurd rfl h
theorem le3_off (J : Nat → Nat → Nat) {k : Nat} (h : k ≠ 10 ∧ k ≠ 11 ∧ k ≠ 12 ∧ k ≠ 13 ∧ k ≠ 14) : le3 J k = J k := by
  unfold le3 le2 le1
  rw [waJ_off _ _ h, waJ_off _ _ h, waJ_off _ _ h]
theorem RJ_l1 {J : Nat → Nat → Nat} (h : RJ J) : RJ (le1 J) := RJ_wa h
theorem RJ_l2 {J : Nat → Nat → Nat} (h : RJ J) : RJ (le2 J) := RJ_wa (RJ_l1 h)
theorem RJ_l3 {J : Nat → Nat → Nat} (h : RJ J) : RJ (le3 J) := RJ_wa (RJ_l2 h)
theorem RJ_le {J : Nat → Nat → Nat} (h : RJ J) : RJ (leJ J) := by
  unfold leJ
  split
  · exact RJ_l3 h
  · exact RJ_l3 h
theorem le3_v {J : Nat → Nat → Nat} (hR : RJ J) (h : le3 J 14 0 = 0) : leZ J ≠ 0 ∧ le1 J 13 0 ≤ 95 ∧ 1 ≤ le2 J 13 0 ∧ le2 J 13 0 ≤ 47 := by
  have h3 := wa_ok h
  have h2 := wa_ok h3.1
  have h1 := wa_ok h2.1
  have v3 := nuZ_v (lo := 1) (hi := 47) (RJ_l2 hR).2.2.2.2.1 (by decide) (by decide) h3.2.1
  have v2 := nuZ_v (lo := 0) (hi := 95) (RJ_l1 hR).2.2.2.2.1 (by decide) (by decide) h2.2.1
  exact ⟨h1.2.1, v2.2.2, v3.2.1, v3.2.2⟩
