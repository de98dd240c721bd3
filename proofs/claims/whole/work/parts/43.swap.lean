/-! SWAP: the two towns change places -/
def sgA (a : Nat → Nat) : Nat → Nat := fun k => if k = 11 then a 12 else if k = 12 then a 11 else if k = 17 then a 18 else if k = 18 then a 17 else if 40 ≤ k ∧ k < 46 then a (k + 20) else if 60 ≤ k ∧ k < 66 then a (k - 20) else if 50 ≤ k ∧ k < 56 then a (k + 20) else if 70 ≤ k ∧ k < 76 then a (k - 20) else a k
def sgI (I : Nat → Nat → Nat) : Nat → Nat → Nat := fun k => if 13 ≤ k ∧ k < 19 then I (k + 13) else if 26 ≤ k ∧ k < 32 then I (k - 13) else if 20 ≤ k ∧ k < 26 then I (k + 12) else if 32 ≤ k ∧ k < 38 then I (k - 12) else I k
def hoW (E : cE) (a : Nat → Nat) (I : Nat → Nat → Nat) (tr : Int64) : va_W := (WC E a I tr).set 3 (a 2, .inr (5, [.ref (a 1), .ref (a 11), .int (nI (I 2 0)), .int (nI (I 3 0)), .int (nI (I 4 0)), .int (nI (I 5 0)), .int (nI (I 6 0))]))
def swW (E : cE) (a : Nat → Nat) (I : Nat → Nat → Nat) (tr : Int64) : va_W := (hoW E a I tr).set 4 (a 3, .inr (0, [.ref (a 4), .ref (a 13), .ref (a 12)]))
def swN : List Nat := [0, 1, 2, 3, 4, 5, 6, 7, 8, 9, 24, 25, 26, 27, 28, 29, 30, 31, 32, 33, 34, 35, 36, 37, 10, 11, 12, 13, 14, 15, 16, 17, 18, 19, 20, 21, 22, 23, 38, 39, 40, 41, 42, 43, 44, 45, 46, 47, 48, 49, 50, 51, 52, 53, 54, 55, 56, 57, 58, 59, 60, 61]
/-- the same list, each array of houses by the old numbers -/
def swL (E : cE) (a : Nat → Nat) (I : Nat → Nat → Nat) (tr : Int64) : va_W := (((WC E (sgA a) (sgI I) tr).set 11 (a 18, .inl (E.2.1 3, 6, .inr (.inr (.inr (.inr (fun j => some (a (60 + j))))))))).set 25 (a 17, .inl (E.2.1 3, 6, .inr (.inr (.inr (.inr (fun j => some (a (40 + j))))))))).set 52 (a 8, .inl (E.2.1 4, 2, .inr (.inr (.inr (.inr (fun j => some (a (30 + j))))))))
theorem vp_cq {cA : ClassId} {n : Nat} {f g : Nat → Option Nat} (h : ∀ j, j < n → f j = g j) : vp_cell cA (n, .inr (.inr (.inr (.inr f)))) = vp_cell cA (n, .inr (.inr (.inr (.inr g)))) := by
  show arrV cA n (fun j => va_rf (f j)) = arrV cA n (fun j => va_rf (g j))
  unfold arrV
  congr 1
  apply Array.ext
  · simp
  · intro i h1 h2
    simp at h1
    simp [h i h1]
theorem sw_P {E : cE} {a : Nat → Nat} {I : Nat → Nat → Nat} {tr : Int64} {H : Heap} (h : va_P E.1 vwCl (swW E a I tr) H) : va_P E.1 vwCl (WC E (sgA a) (sgI I) tr) H := by
  have h2 : va_P E.1 vwCl (swL E a I tr) H := h.sub swN rfl
  intro k q hk
  by_cases e1 : k = 11
  · subst e1
    have e : q = (a 18, .inl (E.2.1 3, 6, .inr (.inr (.inr (.inr (fun j => some (sgA a (40 + j)))))))) := (Option.some.inj hk).symm
    rw [e]
    have z := h2 11 _ rfl
    show H[a 18]? = some (vp_cell (E.2.1 3) (6, .inr (.inr (.inr (.inr (fun j => some (sgA a (40 + j))))))))
    rw [vp_cq (g := fun j => some (a (60 + j))) (fun j hj => by unfold sgA; rw [if_neg (by omega), if_neg (by omega), if_neg (by omega), if_neg (by omega), if_pos (by omega), show 40 + j + 20 = 60 + j by omega])]
    exact z
  · by_cases e2 : k = 25
    · subst e2
      have e : q = (a 17, .inl (E.2.1 3, 6, .inr (.inr (.inr (.inr (fun j => some (sgA a (60 + j)))))))) := (Option.some.inj hk).symm
      rw [e]
      have z := h2 25 _ rfl
      show H[a 17]? = some (vp_cell (E.2.1 3) (6, .inr (.inr (.inr (.inr (fun j => some (sgA a (60 + j))))))))
      rw [vp_cq (g := fun j => some (a (40 + j))) (fun j hj => by unfold sgA; rw [if_neg (by omega), if_neg (by omega), if_neg (by omega), if_neg (by omega), if_neg (by omega), if_pos (by omega), show 60 + j - 20 = 40 + j by omega])]
      exact z
    · by_cases e3 : k = 52
      · subst e3
        have e : q = (a 8, .inl (E.2.1 4, 2, .inr (.inr (.inr (.inr (fun j => some (sgA a (30 + j)))))))) := (Option.some.inj hk).symm
        rw [e]
        have z := h2 52 _ rfl
        show H[a 8]? = some (vp_cell (E.2.1 4) (2, .inr (.inr (.inr (.inr (fun j => some (sgA a (30 + j))))))))
        rw [vp_cq (g := fun j => some (a (30 + j))) (fun j hj => by unfold sgA; rw [if_neg (by omega), if_neg (by omega), if_neg (by omega), if_neg (by omega), if_neg (by omega), if_neg (by omega), if_neg (by omega), if_neg (by omega)])]
        exact z
      refine h2 k q ?_
      unfold swL
      rw [List.getElem?_set_ne (Ne.symm e3), List.getElem?_set_ne (Ne.symm e2), List.getElem?_set_ne (Ne.symm e1)]
      exact hk
theorem sw_D {E : cE} {a : Nat → Nat} {I : Nat → Nat → Nat} {tr : Int64} {A : Nat → Prop} (h : va_D A (swW E a I tr)) : va_D A (WC E (sgA a) (sgI I) tr) := by
  have h2 : va_D A (swL E a I tr) := h.sub swN (by decide) rfl
  have e : WC E (sgA a) (sgI I) tr = (((swL E a I tr).set 11 (a 18, .inl (E.2.1 3, 6, .inr (.inr (.inr (.inr (fun j => some (sgA a (40 + j))))))))).set 25 (a 17, .inl (E.2.1 3, 6, .inr (.inr (.inr (.inr (fun j => some (sgA a (60 + j))))))))).set 52 (a 8, .inl (E.2.1 4, 2, .inr (.inr (.inr (.inr (fun j => some (sgA a (30 + j)))))))) := rfl
  rw [e]
  exact ((h2.set (p := 11) (e0 := .inl (E.2.1 3, 6, .inr (.inr (.inr (.inr (fun j => some (a (60 + j)))))))) rfl).set (p := 25) (e0 := .inl (E.2.1 3, 6, .inr (.inr (.inr (.inr (fun j => some (a (40 + j)))))))) rfl).set (p := 52) (e0 := .inl (E.2.1 4, 2, .inr (.inr (.inr (.inr (fun j => some (a (30 + j)))))))) rfl
theorem ct_X5_handOver (l : Launch) (E : cE) (a : Nat → Nat) (I : Nat → Nat → Nat) (tr : Int64) : Ct l E 0 yX5_handOver cX5_handOver 3 (some (.object "HouseHours$Town")) [.ref (a 2), .ref (a 11)] (WC E a I tr) (some (.ref (a 12))) (hoW E a I tr) := by
  refine Ct_of (plainFor_of_name (by decide)) (Nat.le_of_ble_eq_true rfl) ?_
  intro p e s m args below meth c A ls hE hP hD hS hl
  have hE : cEnv p s m args meth c E RX5 cX5_handOver 3 (some (.object "HouseHours$Town")) A := hE
  have hx := hE.1
  have hb := hE.2.1
  have hl : lv_has ls 3 [(0, .ref (a 2)), (1, .ref (a 11))] := hl
  refine lv_aload_n hx hb dX5_handOver_0 rfl (lv_at hl 0 rfl) ?_
  refine gf_X5_12 hE hP (3) (gC_3 E a I tr) (v := .ref (a 12)) rfl dX5_handOver_1 ?_
  refine lv_astore_n (lv' := [(2, .ref (a 12)), (0, .ref (a 2)), (1, .ref (a 11))]) hx hb dX5_handOver_4 rfl hl (by decide) rfl (fun ls hl => ?_)
  refine lv_aload_n hx hb dX5_handOver_5 rfl (lv_at hl 1 rfl) ?_
  refine lv_aload_n hx hb dX5_handOver_6 rfl (lv_at hl 2 rfl) ?_
  refine pf_X5_12 hE hP hD hS (3) (gC_3 E a I tr) rfl rfl (Nat.le_of_ble_eq_true rfl) (ws' := hoW E a I tr) rfl dX5_handOver_7 (fun H locs hP hD hS => ?_)
  refine lv_aload_n hx hb dX5_handOver_10 rfl (lv_at hl 0 rfl) ?_
  exact ret_a hE rfl hP hD hS dX5_handOver_11
