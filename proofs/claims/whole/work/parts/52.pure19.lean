/-! PURE 19: an item of the reference, whole -/
def riZ (J : Nat → Nat → Nat) : Nat := if (J 12 0 = 0 ∧ J 2 1 < 6) ∨ J 12 0 = 1 ∨ (J 12 0 = 2 ∧ J 15 0 = 0) then 1 else 0
def ri1 (J : Nat → Nat → Nat) : Nat → Nat → Nat := waJ J (riZ J)
def ho1 (J : Nat → Nat → Nat) : Nat → Nat → Nat := up2 (waJ J (nuZ J (nI 0) (nI 47))) 4 (6 + J 2 1) (J 13 0)
def ho2 (J : Nat → Nat → Nat) : Nat → Nat → Nat := up2 (waJ (ho1 J) (nuZ (ho1 J) (nI 1) (nI 9))) 5 (6 + J 2 1) (ho1 J 13 0)
def ho3 (J : Nat → Nat → Nat) : Nat → Nat → Nat := up2 (waJ (ho2 J) (nuZ (ho2 J) (nI 1) (nI 9))) 6 (6 + J 2 1) (ho2 J 13 0)
def hoJ (J : Nat → Nat → Nat) : Nat → Nat → Nat := up2 (up2 (ho3 J) 7 (6 + J 2 1) 0) 2 1 (ho3 J 2 1 + 1)
def wkJ (J : Nat → Nat → Nat) : Nat → Nat → Nat := up2 (up2 (waJ J (nuZ J (nI 0) (nI 9))) 3 1 (J 13 0)) 15 0 1
def riK (J : Nat → Nat → Nat) : Nat → Nat → Nat := if J 12 0 = 0 then hoJ (ri1 J) else if J 12 0 = 1 then leJ (ri1 J) else wkJ (ri1 J)
def riJ (J : Nat → Nat → Nat) : Nat → Nat → Nat := if ri1 J 14 0 = 0 then waJ (riK J) (if riK J 12 0 = 5 then 1 else 0) else ri1 J
theorem RJ_r1 {J : Nat → Nat → Nat} (h : RJ J) : RJ (ri1 J) := RJ_wa h
theorem RJ_h1 {J : Nat → Nat → Nat} (h : RJ J) : RJ (ho1 J) := (RJ_wa h : RJ (waJ J (nuZ J (nI 0) (nI 47))))
theorem RJ_h2 {J : Nat → Nat → Nat} (h : RJ J) : RJ (ho2 J) := (RJ_wa (RJ_h1 h) : RJ (waJ (ho1 J) (nuZ (ho1 J) (nI 1) (nI 9))))
theorem RJ_h3 {J : Nat → Nat → Nat} (h : RJ J) : RJ (ho3 J) := (RJ_wa (RJ_h2 h) : RJ (waJ (ho2 J) (nuZ (ho2 J) (nI 1) (nI 9))))
theorem RJ_ho {J : Nat → Nat → Nat} (h : RJ J) : RJ (hoJ J) := (RJ_h3 h)
theorem RJ_wk {J : Nat → Nat → Nat} (h : RJ J) : RJ (wkJ J) := (RJ_wa h : RJ (waJ J (nuZ J (nI 0) (nI 9))))
theorem RJ_K {J : Nat → Nat → Nat} (h : RJ J) : RJ (riK J) := by
  unfold riK
  split
  · exact RJ_ho (RJ_r1 h)
  · split
    · exact RJ_le (RJ_r1 h)
    · exact RJ_wk (RJ_r1 h)
theorem RJ_ri {J : Nat → Nat → Nat} (h : RJ J) : RJ (riJ J) := by
  unfold riJ
  split
  · exact RJ_wa (RJ_K h)
  · exact RJ_r1 h
theorem ri_ok {J : Nat → Nat → Nat} (h : ri1 J 14 0 = 0) : (J 12 0 = 0 ∧ J 2 1 < 6) ∨ J 12 0 = 1 ∨ (J 12 0 = 2 ∧ J 15 0 = 0) := by
  have z := (wa_ok h).2.1
  unfold riZ at z
  split at z
  · rename_i q; exact q
  · exact absurd rfl z
theorem ho3_2 (J : Nat → Nat → Nat) : ho3 J 2 = J 2 := by
  have e1 : ho1 J 2 = J 2 := (show waJ J (nuZ J (nI 0) (nI 47)) 2 = J 2 from waJ_off _ _ (by decide))
  have e2 : ho2 J 2 = ho1 J 2 := (show waJ (ho1 J) (nuZ (ho1 J) (nI 1) (nI 9)) 2 = ho1 J 2 from waJ_off _ _ (by decide))
  exact (show waJ (ho2 J) (nuZ (ho2 J) (nI 1) (nI 9)) 2 = ho2 J 2 from waJ_off _ _ (by decide)).trans (e2.trans e1)
