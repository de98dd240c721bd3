/-! PURE 25: errands on equal clocks -/
theorem btC_c {n : Nat} {f g : Nat → Nat → Nat} (h : eqC n f g) {x : Nat} (hx : x < n) (lo hi c : Nat) : btC (f x) lo hi c = btC (g x) lo hi c := sr_congr (fun u _ hu => by rw [h x hx u hu])
theorem enK_c {n c w : Nat} {f g : Nat → Nat → Nat} {hs fr to st hs' fr' to' st' r r' : Nat → Nat} (h : eqC n f g) (hl : ∀ k, k < c → hs k = hs' k ∧ fr k = fr' k ∧ to k = to' k ∧ st k = st' k ∧ hs k < n) (hr : ∀ i, i < c → r i = r' i ∧ r i < c) : ∀ k i q t, i + k ≤ c → enK f w hs fr to st r k i q t = enK g w hs' fr' to' st' r' k i q t := by
  intro k
  induction k with
  | zero => intro i q t _; rfl
  | succ k ih =>
    intro i q t hi
    have a := hr i (by omega)
    have b := hl (r i) a.2
    have e : ∀ q2 t2, enK f w hs fr to st r k (i + 1) q2 t2 = enK g w hs' fr' to' st' r' k (i + 1) q2 t2 := fun q2 t2 => ih _ _ _ (by omega)
    rw [enK, enK, ← a.1, ← b.1, ← b.2.1, ← b.2.2.1, ← b.2.2.2.1, btC_c h b.2.2.2.2, e]
theorem r_soonest_c {n c : Nat} {e e' : Nat → Nat} {o o' : Nat → Nat → Nat} {p0 p1 : Int32} (hn : n ≤ 6) (hc : c ≤ 4) (h : ∀ x, x < n → e x = e' x ∧ (e x ≠ 0 → ∀ i, i < c → o x i = o' x i)) : r_soonest n e o c p0 p1 = r_soonest n e' o' c p0 p1 := by
  unfold r_soonest
  rcases q : inB p0 n with _ | _
  · rfl
  · obtain ⟨x, hx, rfl⟩ := inB_t (by omega) q
    have a := h x hx
    rw [tn_nI (by omega), ← a.1]
    simp only [cond_true]
    by_cases z1 : p1 < -1
    · rw [if_pos z1, if_pos z1]
    · rw [if_neg z1, if_neg z1]
      by_cases z2 : e x = 0
      · rw [if_pos z2, if_pos z2]
      · rw [if_neg z2, if_neg z2]
        by_cases z3 : p1 = -1
        · rw [if_pos z3, if_pos z3]
        · rw [if_neg z3, if_neg z3]
          by_cases z4 : p1 < nI c
          · rw [if_pos z4, if_pos z4]
            obtain ⟨i, hi, rfl⟩ := sn_i hc (Int32.not_lt.mp z1) z3 (Int32.not_le.mpr z4)
            rw [tn_nI (by omega), a.2 z2 i hi]
          · rw [if_neg z4, if_neg z4]
