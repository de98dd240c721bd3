/-! WORLD: the cells of the class (WC) and of the reference (WM), every int by its field id -/
def upN (g : Nat → Nat) (i v : Nat) : Nat → Nat := fun j => if j = i then v else g j
def up2 (I : Nat → Nat → Nat) (k i v : Nat) : Nat → Nat → Nat := fun k2 => if k2 = k then upN (I k) i v else I k2
def upA (I : Nat → Nat → Nat) (k : Nat) (g : Nat → Nat) : Nat → Nat → Nat := fun k2 => if k2 = k then g else I k2
def cpN (f g : Nat → Nat) (sp dp n : Nat) : Nat → Nat := fun k => if dp ≤ k ∧ k < dp + n then f (sp + (k - dp)) else g k
def flN (g : Nat → Nat) (k v : Nat) : Nat → Nat := fun j => if j < k then v else g j
theorem cpN_I (f g : Nat → Nat) (sp dp n : Nat) : va_cpy (fun j => nI (f j)) (fun j => nI (g j)) sp dp n = fun j => nI (cpN f g sp dp n j) := by
  funext k
  unfold va_cpy cpN
  split <;> rfl
theorem up2_upA (I : Nat → Nat → Nat) (k : Nat) (g : Nat → Nat) (i v : Nat) : up2 (upA I k g) k i v = upA I k (upN g i v) := by
  funext q
  unfold up2 upA
  by_cases h : q = k
  · rw [if_pos h, if_pos h, if_pos rfl]
  · rw [if_neg h, if_neg h, if_neg h]
theorem upA_upA (I : Nat → Nat → Nat) (k : Nat) (g g2 : Nat → Nat) : upA (upA I k g) k g2 = upA I k g2 := by
  funext q
  unfold upA
  by_cases h : q = k
  · rw [if_pos h, if_pos h]
  · rw [if_neg h, if_neg h, if_neg h]
theorem upA_self (I : Nat → Nat → Nat) (k : Nat) : upA I k (I k) = I := by
  funext q
  unfold upA
  by_cases h : q = k
  · rw [if_pos h, h]
  · rw [if_neg h]
theorem up2_A (I : Nat → Nat → Nat) (k i v : Nat) : up2 I k i v = upA I k (upN (I k) i v) := by
  funext q
  unfold up2 upA
  rfl
theorem upd_nI (g : Nat → Nat) (i v : Nat) : upd (fun j => nI (g j)) i (nI v) = fun j => nI (upN g i v j) := by
  funext j
  unfold upd upN
  by_cases h : j = i
  · rw [if_pos h, if_pos h]
  · rw [if_neg h, if_neg h]
theorem upd_rN (g : Nat → Nat) (i v : Nat) : upd (fun j => rN (g j)) i (rN v) = fun j => rN (upN g i v j) := by
  funext j
  unfold upd upN
  by_cases h : j = i
  · rw [if_pos h, if_pos h]
  · rw [if_neg h, if_neg h]
theorem upd_b (g : Nat → Nat) (i v : Nat) {x : Int32} (h : vp_nar .byte x = sb_b v) : upd (fun j => sb_b (g j)) i (vp_nar .byte x) = fun j => sb_b (upN g i v j) := by
  funext j
  unfold upd upN
  by_cases q : j = i
  · rw [if_pos q, if_pos q]; exact h
  · rw [if_neg q, if_neg q]
theorem upd_z (g : Nat → Nat) (i v : Nat) (hv : v < 2) : upd (fun j => nI (g j)) i (vp_nar .boolean (nI v)) = fun j => nI (upN g i v j) := by
  have h : vp_nar .boolean (nI v) = nI v := by
    rcases (show v = 0 ∨ v = 1 by omega) with rfl | rfl <;> decide
  rw [h]
  exact upd_nI g i v
def WC (E : cE) (a : Nat → Nat) (I : Nat → Nat → Nat) (tr : Int64) : va_W := [
  (a 0, .inr (9, [.ref (a 1), .ref (a 2), .ref (a 3), .ref (a 4), .ref (a 5), .ref (a 6), .ref (a 7), .ref (a 8), .ref (a 9), .long tr])),
  (a 1, .inr (6, [.ref (a 10), .int (nI (I 1 0))])),
  (a 10, .inl (E.2.1 1, 300, .inl (fun j => nI (I 0 j)))),
  (a 2, .inr (5, [.ref (a 1), .ref (a 12), .int (nI (I 2 0)), .int (nI (I 3 0)), .int (nI (I 4 0)), .int (nI (I 5 0)), .int (nI (I 6 0))])),
  (a 3, .inr (0, [.ref (a 4), .ref (a 13), .ref (a 11)])),
  (a 4, .inr (4, [.ref (a 14), .ref (a 15), .ref (a 16), .int (nI (I 10 0)), .int (nI (I 11 0))])),
  (a 14, .inl (E.2.1 1, 6, .inl (fun j => nI (I 7 j)))),
  (a 15, .inl (E.2.1 1, 10, .inl (fun j => nI (I 8 j)))),
  (a 16, .inl (E.2.1 1, 10, .inl (fun j => nI (I 9 j)))),
  (a 13, .inl (E.2.1 1, 48, .inl (fun j => nI (I 12 j)))),
  (a 11, .inr (7, [.ref (a 17), .int (nI (I 13 0)), .int (nI (I 14 0))])),
  (a 17, .inl (E.2.1 3, 6, .inr (.inr (.inr (.inr (fun j => some (a (40 + j)))))))),
  (a 40, .inr (3, [.ref (a 50), .int (nI (I 15 0)), .int (nI (I 16 0)), .int (nI (I 17 0)), .int (nI (I 18 0))])),
  (a 41, .inr (3, [.ref (a 51), .int (nI (I 15 1)), .int (nI (I 16 1)), .int (nI (I 17 1)), .int (nI (I 18 1))])),
  (a 42, .inr (3, [.ref (a 52), .int (nI (I 15 2)), .int (nI (I 16 2)), .int (nI (I 17 2)), .int (nI (I 18 2))])),
  (a 43, .inr (3, [.ref (a 53), .int (nI (I 15 3)), .int (nI (I 16 3)), .int (nI (I 17 3)), .int (nI (I 18 3))])),
  (a 44, .inr (3, [.ref (a 54), .int (nI (I 15 4)), .int (nI (I 16 4)), .int (nI (I 17 4)), .int (nI (I 18 4))])),
  (a 45, .inr (3, [.ref (a 55), .int (nI (I 15 5)), .int (nI (I 16 5)), .int (nI (I 17 5)), .int (nI (I 18 5))])),
  (a 50, .inl (E.2.1 1, 96, .inl (fun j => nI (I 20 j)))),
  (a 51, .inl (E.2.1 1, 96, .inl (fun j => nI (I 21 j)))),
  (a 52, .inl (E.2.1 1, 96, .inl (fun j => nI (I 22 j)))),
  (a 53, .inl (E.2.1 1, 96, .inl (fun j => nI (I 23 j)))),
  (a 54, .inl (E.2.1 1, 96, .inl (fun j => nI (I 24 j)))),
  (a 55, .inl (E.2.1 1, 96, .inl (fun j => nI (I 25 j)))),
  (a 12, .inr (7, [.ref (a 18), .int (nI (I 26 0)), .int (nI (I 27 0))])),
  (a 18, .inl (E.2.1 3, 6, .inr (.inr (.inr (.inr (fun j => some (a (60 + j)))))))),
  (a 60, .inr (3, [.ref (a 70), .int (nI (I 28 0)), .int (nI (I 29 0)), .int (nI (I 30 0)), .int (nI (I 31 0))])),
  (a 61, .inr (3, [.ref (a 71), .int (nI (I 28 1)), .int (nI (I 29 1)), .int (nI (I 30 1)), .int (nI (I 31 1))])),
  (a 62, .inr (3, [.ref (a 72), .int (nI (I 28 2)), .int (nI (I 29 2)), .int (nI (I 30 2)), .int (nI (I 31 2))])),
  (a 63, .inr (3, [.ref (a 73), .int (nI (I 28 3)), .int (nI (I 29 3)), .int (nI (I 30 3)), .int (nI (I 31 3))])),
  (a 64, .inr (3, [.ref (a 74), .int (nI (I 28 4)), .int (nI (I 29 4)), .int (nI (I 30 4)), .int (nI (I 31 4))])),
  (a 65, .inr (3, [.ref (a 75), .int (nI (I 28 5)), .int (nI (I 29 5)), .int (nI (I 30 5)), .int (nI (I 31 5))])),
  (a 70, .inl (E.2.1 1, 96, .inl (fun j => nI (I 32 j)))),
  (a 71, .inl (E.2.1 1, 96, .inl (fun j => nI (I 33 j)))),
  (a 72, .inl (E.2.1 1, 96, .inl (fun j => nI (I 34 j)))),
  (a 73, .inl (E.2.1 1, 96, .inl (fun j => nI (I 35 j)))),
  (a 74, .inl (E.2.1 1, 96, .inl (fun j => nI (I 36 j)))),
  (a 75, .inl (E.2.1 1, 96, .inl (fun j => nI (I 37 j)))),
  (a 5, .inr (2, [.ref (a 3), .ref (a 19), .ref (a 20), .ref (a 21), .ref (a 22), .int (nI (I 44 0))])),
  (a 19, .inl (E.2.1 1, 4, .inl (fun j => nI (I 40 j)))),
  (a 20, .inl (E.2.1 1, 4, .inl (fun j => nI (I 41 j)))),
  (a 21, .inl (E.2.1 1, 4, .inl (fun j => nI (I 42 j)))),
  (a 22, .inl (E.2.1 1, 4, .inl (fun j => nI (I 43 j)))),
  (a 6, .inr (8, [.ref (a 3), .ref (a 23), .ref (a 24), .int (nI (I 47 0))])),
  (a 23, .inl (E.2.1 1, 8, .inl (fun j => nI (I 45 j)))),
  (a 24, .inl (E.2.1 1, 8, .inl (fun j => nI (I 46 j)))),
  (a 7, .inr (1, [.ref (a 3), .ref (a 25), .ref (a 26), .ref (a 27), .ref (a 28), .ref (a 29), .int (nI (I 55 0))])),
  (a 25, .inl (E.2.1 1, 8, .inl (fun j => nI (I 50 j)))),
  (a 26, .inl (E.2.1 1, 8, .inl (fun j => nI (I 51 j)))),
  (a 27, .inl (E.2.1 1, 8, .inl (fun j => nI (I 52 j)))),
  (a 28, .inl (E.2.1 1, 8, .inl (fun j => rN (I 53 j)))),
  (a 29, .inl (E.2.1 1, 8, .inl (fun j => nI (I 54 j)))),
  (a 8, .inl (E.2.1 4, 2, .inr (.inr (.inr (.inr (fun j => some (a (30 + j)))))))),
  (a 30, .inr (4, [.ref (a 32), .ref (a 33), .ref (a 34), .int (nI (I 63 0)), .int (nI (I 64 0))])),
  (a 32, .inl (E.2.1 1, 6, .inl (fun j => nI (I 60 j)))),
  (a 33, .inl (E.2.1 1, 10, .inl (fun j => nI (I 61 j)))),
  (a 34, .inl (E.2.1 1, 10, .inl (fun j => nI (I 62 j)))),
  (a 31, .inr (4, [.ref (a 35), .ref (a 36), .ref (a 37), .int (nI (I 68 0)), .int (nI (I 69 0))])),
  (a 35, .inl (E.2.1 1, 6, .inl (fun j => nI (I 65 j)))),
  (a 36, .inl (E.2.1 1, 10, .inl (fun j => nI (I 66 j)))),
  (a 37, .inl (E.2.1 1, 10, .inl (fun j => nI (I 67 j)))),
  (a 9, .inl (E.2.1 2, 2, .inl (fun j => nI (I 70 j))))]
theorem gC_0 (E : cE) (a : Nat → Nat) (I : Nat → Nat → Nat) (tr : Int64) : (WC E a I tr)[0]? = some (a 0, .inr (9, [.ref (a 1), .ref (a 2), .ref (a 3), .ref (a 4), .ref (a 5), .ref (a 6), .ref (a 7), .ref (a 8), .ref (a 9), .long tr])) := rfl
theorem gC_1 (E : cE) (a : Nat → Nat) (I : Nat → Nat → Nat) (tr : Int64) : (WC E a I tr)[1]? = some (a 1, .inr (6, [.ref (a 10), .int (nI (I 1 0))])) := rfl
theorem gC_2 (E : cE) (a : Nat → Nat) (I : Nat → Nat → Nat) (tr : Int64) : (WC E a I tr)[2]? = some (a 10, .inl (E.2.1 1, 300, .inl (fun j => nI (I 0 j)))) := rfl
theorem gC_3 (E : cE) (a : Nat → Nat) (I : Nat → Nat → Nat) (tr : Int64) : (WC E a I tr)[3]? = some (a 2, .inr (5, [.ref (a 1), .ref (a 12), .int (nI (I 2 0)), .int (nI (I 3 0)), .int (nI (I 4 0)), .int (nI (I 5 0)), .int (nI (I 6 0))])) := rfl
theorem gC_4 (E : cE) (a : Nat → Nat) (I : Nat → Nat → Nat) (tr : Int64) : (WC E a I tr)[4]? = some (a 3, .inr (0, [.ref (a 4), .ref (a 13), .ref (a 11)])) := rfl
theorem gC_5 (E : cE) (a : Nat → Nat) (I : Nat → Nat → Nat) (tr : Int64) : (WC E a I tr)[5]? = some (a 4, .inr (4, [.ref (a 14), .ref (a 15), .ref (a 16), .int (nI (I 10 0)), .int (nI (I 11 0))])) := rfl
theorem gC_6 (E : cE) (a : Nat → Nat) (I : Nat → Nat → Nat) (tr : Int64) : (WC E a I tr)[6]? = some (a 14, .inl (E.2.1 1, 6, .inl (fun j => nI (I 7 j)))) := rfl
theorem gC_7 (E : cE) (a : Nat → Nat) (I : Nat → Nat → Nat) (tr : Int64) : (WC E a I tr)[7]? = some (a 15, .inl (E.2.1 1, 10, .inl (fun j => nI (I 8 j)))) := rfl
theorem gC_8 (E : cE) (a : Nat → Nat) (I : Nat → Nat → Nat) (tr : Int64) : (WC E a I tr)[8]? = some (a 16, .inl (E.2.1 1, 10, .inl (fun j => nI (I 9 j)))) := rfl
theorem gC_9 (E : cE) (a : Nat → Nat) (I : Nat → Nat → Nat) (tr : Int64) : (WC E a I tr)[9]? = some (a 13, .inl (E.2.1 1, 48, .inl (fun j => nI (I 12 j)))) := rfl
theorem gC_10 (E : cE) (a : Nat → Nat) (I : Nat → Nat → Nat) (tr : Int64) : (WC E a I tr)[10]? = some (a 11, .inr (7, [.ref (a 17), .int (nI (I 13 0)), .int (nI (I 14 0))])) := rfl
theorem gC_11 (E : cE) (a : Nat → Nat) (I : Nat → Nat → Nat) (tr : Int64) : (WC E a I tr)[11]? = some (a 17, .inl (E.2.1 3, 6, .inr (.inr (.inr (.inr (fun j => some (a (40 + j)))))))) := rfl
theorem gC_12 (E : cE) (a : Nat → Nat) (I : Nat → Nat → Nat) (tr : Int64) : (WC E a I tr)[12]? = some (a 40, .inr (3, [.ref (a 50), .int (nI (I 15 0)), .int (nI (I 16 0)), .int (nI (I 17 0)), .int (nI (I 18 0))])) := rfl
theorem gC_13 (E : cE) (a : Nat → Nat) (I : Nat → Nat → Nat) (tr : Int64) : (WC E a I tr)[13]? = some (a 41, .inr (3, [.ref (a 51), .int (nI (I 15 1)), .int (nI (I 16 1)), .int (nI (I 17 1)), .int (nI (I 18 1))])) := rfl
theorem gC_14 (E : cE) (a : Nat → Nat) (I : Nat → Nat → Nat) (tr : Int64) : (WC E a I tr)[14]? = some (a 42, .inr (3, [.ref (a 52), .int (nI (I 15 2)), .int (nI (I 16 2)), .int (nI (I 17 2)), .int (nI (I 18 2))])) := rfl
theorem gC_15 (E : cE) (a : Nat → Nat) (I : Nat → Nat → Nat) (tr : Int64) : (WC E a I tr)[15]? = some (a 43, .inr (3, [.ref (a 53), .int (nI (I 15 3)), .int (nI (I 16 3)), .int (nI (I 17 3)), .int (nI (I 18 3))])) := rfl
theorem gC_16 (E : cE) (a : Nat → Nat) (I : Nat → Nat → Nat) (tr : Int64) : (WC E a I tr)[16]? = some (a 44, .inr (3, [.ref (a 54), .int (nI (I 15 4)), .int (nI (I 16 4)), .int (nI (I 17 4)), .int (nI (I 18 4))])) := rfl
theorem gC_17 (E : cE) (a : Nat → Nat) (I : Nat → Nat → Nat) (tr : Int64) : (WC E a I tr)[17]? = some (a 45, .inr (3, [.ref (a 55), .int (nI (I 15 5)), .int (nI (I 16 5)), .int (nI (I 17 5)), .int (nI (I 18 5))])) := rfl
theorem gC_18 (E : cE) (a : Nat → Nat) (I : Nat → Nat → Nat) (tr : Int64) : (WC E a I tr)[18]? = some (a 50, .inl (E.2.1 1, 96, .inl (fun j => nI (I 20 j)))) := rfl
theorem gC_19 (E : cE) (a : Nat → Nat) (I : Nat → Nat → Nat) (tr : Int64) : (WC E a I tr)[19]? = some (a 51, .inl (E.2.1 1, 96, .inl (fun j => nI (I 21 j)))) := rfl
theorem gC_20 (E : cE) (a : Nat → Nat) (I : Nat → Nat → Nat) (tr : Int64) : (WC E a I tr)[20]? = some (a 52, .inl (E.2.1 1, 96, .inl (fun j => nI (I 22 j)))) := rfl
theorem gC_21 (E : cE) (a : Nat → Nat) (I : Nat → Nat → Nat) (tr : Int64) : (WC E a I tr)[21]? = some (a 53, .inl (E.2.1 1, 96, .inl (fun j => nI (I 23 j)))) := rfl
theorem gC_22 (E : cE) (a : Nat → Nat) (I : Nat → Nat → Nat) (tr : Int64) : (WC E a I tr)[22]? = some (a 54, .inl (E.2.1 1, 96, .inl (fun j => nI (I 24 j)))) := rfl
theorem gC_23 (E : cE) (a : Nat → Nat) (I : Nat → Nat → Nat) (tr : Int64) : (WC E a I tr)[23]? = some (a 55, .inl (E.2.1 1, 96, .inl (fun j => nI (I 25 j)))) := rfl
theorem gC_24 (E : cE) (a : Nat → Nat) (I : Nat → Nat → Nat) (tr : Int64) : (WC E a I tr)[24]? = some (a 12, .inr (7, [.ref (a 18), .int (nI (I 26 0)), .int (nI (I 27 0))])) := rfl
theorem gC_25 (E : cE) (a : Nat → Nat) (I : Nat → Nat → Nat) (tr : Int64) : (WC E a I tr)[25]? = some (a 18, .inl (E.2.1 3, 6, .inr (.inr (.inr (.inr (fun j => some (a (60 + j)))))))) := rfl
theorem gC_26 (E : cE) (a : Nat → Nat) (I : Nat → Nat → Nat) (tr : Int64) : (WC E a I tr)[26]? = some (a 60, .inr (3, [.ref (a 70), .int (nI (I 28 0)), .int (nI (I 29 0)), .int (nI (I 30 0)), .int (nI (I 31 0))])) := rfl
theorem gC_27 (E : cE) (a : Nat → Nat) (I : Nat → Nat → Nat) (tr : Int64) : (WC E a I tr)[27]? = some (a 61, .inr (3, [.ref (a 71), .int (nI (I 28 1)), .int (nI (I 29 1)), .int (nI (I 30 1)), .int (nI (I 31 1))])) := rfl
theorem gC_28 (E : cE) (a : Nat → Nat) (I : Nat → Nat → Nat) (tr : Int64) : (WC E a I tr)[28]? = some (a 62, .inr (3, [.ref (a 72), .int (nI (I 28 2)), .int (nI (I 29 2)), .int (nI (I 30 2)), .int (nI (I 31 2))])) := rfl
theorem gC_29 (E : cE) (a : Nat → Nat) (I : Nat → Nat → Nat) (tr : Int64) : (WC E a I tr)[29]? = some (a 63, .inr (3, [.ref (a 73), .int (nI (I 28 3)), .int (nI (I 29 3)), .int (nI (I 30 3)), .int (nI (I 31 3))])) := rfl
theorem gC_30 (E : cE) (a : Nat → Nat) (I : Nat → Nat → Nat) (tr : Int64) : (WC E a I tr)[30]? = some (a 64, .inr (3, [.ref (a 74), .int (nI (I 28 4)), .int (nI (I 29 4)), .int (nI (I 30 4)), .int (nI (I 31 4))])) := rfl
theorem gC_31 (E : cE) (a : Nat → Nat) (I : Nat → Nat → Nat) (tr : Int64) : (WC E a I tr)[31]? = some (a 65, .inr (3, [.ref (a 75), .int (nI (I 28 5)), .int (nI (I 29 5)), .int (nI (I 30 5)), .int (nI (I 31 5))])) := rfl
theorem gC_32 (E : cE) (a : Nat → Nat) (I : Nat → Nat → Nat) (tr : Int64) : (WC E a I tr)[32]? = some (a 70, .inl (E.2.1 1, 96, .inl (fun j => nI (I 32 j)))) := rfl
theorem gC_33 (E : cE) (a : Nat → Nat) (I : Nat → Nat → Nat) (tr : Int64) : (WC E a I tr)[33]? = some (a 71, .inl (E.2.1 1, 96, .inl (fun j => nI (I 33 j)))) := rfl
theorem gC_34 (E : cE) (a : Nat → Nat) (I : Nat → Nat → Nat) (tr : Int64) : (WC E a I tr)[34]? = some (a 72, .inl (E.2.1 1, 96, .inl (fun j => nI (I 34 j)))) := rfl
theorem gC_35 (E : cE) (a : Nat → Nat) (I : Nat → Nat → Nat) (tr : Int64) : (WC E a I tr)[35]? = some (a 73, .inl (E.2.1 1, 96, .inl (fun j => nI (I 35 j)))) := rfl
theorem gC_36 (E : cE) (a : Nat → Nat) (I : Nat → Nat → Nat) (tr : Int64) : (WC E a I tr)[36]? = some (a 74, .inl (E.2.1 1, 96, .inl (fun j => nI (I 36 j)))) := rfl
theorem gC_37 (E : cE) (a : Nat → Nat) (I : Nat → Nat → Nat) (tr : Int64) : (WC E a I tr)[37]? = some (a 75, .inl (E.2.1 1, 96, .inl (fun j => nI (I 37 j)))) := rfl
theorem gC_38 (E : cE) (a : Nat → Nat) (I : Nat → Nat → Nat) (tr : Int64) : (WC E a I tr)[38]? = some (a 5, .inr (2, [.ref (a 3), .ref (a 19), .ref (a 20), .ref (a 21), .ref (a 22), .int (nI (I 44 0))])) := rfl
theorem gC_39 (E : cE) (a : Nat → Nat) (I : Nat → Nat → Nat) (tr : Int64) : (WC E a I tr)[39]? = some (a 19, .inl (E.2.1 1, 4, .inl (fun j => nI (I 40 j)))) := rfl
theorem gC_40 (E : cE) (a : Nat → Nat) (I : Nat → Nat → Nat) (tr : Int64) : (WC E a I tr)[40]? = some (a 20, .inl (E.2.1 1, 4, .inl (fun j => nI (I 41 j)))) := rfl
theorem gC_41 (E : cE) (a : Nat → Nat) (I : Nat → Nat → Nat) (tr : Int64) : (WC E a I tr)[41]? = some (a 21, .inl (E.2.1 1, 4, .inl (fun j => nI (I 42 j)))) := rfl
theorem gC_42 (E : cE) (a : Nat → Nat) (I : Nat → Nat → Nat) (tr : Int64) : (WC E a I tr)[42]? = some (a 22, .inl (E.2.1 1, 4, .inl (fun j => nI (I 43 j)))) := rfl
theorem gC_43 (E : cE) (a : Nat → Nat) (I : Nat → Nat → Nat) (tr : Int64) : (WC E a I tr)[43]? = some (a 6, .inr (8, [.ref (a 3), .ref (a 23), .ref (a 24), .int (nI (I 47 0))])) := rfl
theorem gC_44 (E : cE) (a : Nat → Nat) (I : Nat → Nat → Nat) (tr : Int64) : (WC E a I tr)[44]? = some (a 23, .inl (E.2.1 1, 8, .inl (fun j => nI (I 45 j)))) := rfl
theorem gC_45 (E : cE) (a : Nat → Nat) (I : Nat → Nat → Nat) (tr : Int64) : (WC E a I tr)[45]? = some (a 24, .inl (E.2.1 1, 8, .inl (fun j => nI (I 46 j)))) := rfl
theorem gC_46 (E : cE) (a : Nat → Nat) (I : Nat → Nat → Nat) (tr : Int64) : (WC E a I tr)[46]? = some (a 7, .inr (1, [.ref (a 3), .ref (a 25), .ref (a 26), .ref (a 27), .ref (a 28), .ref (a 29), .int (nI (I 55 0))])) := rfl
theorem gC_47 (E : cE) (a : Nat → Nat) (I : Nat → Nat → Nat) (tr : Int64) : (WC E a I tr)[47]? = some (a 25, .inl (E.2.1 1, 8, .inl (fun j => nI (I 50 j)))) := rfl
theorem gC_48 (E : cE) (a : Nat → Nat) (I : Nat → Nat → Nat) (tr : Int64) : (WC E a I tr)[48]? = some (a 26, .inl (E.2.1 1, 8, .inl (fun j => nI (I 51 j)))) := rfl
theorem gC_49 (E : cE) (a : Nat → Nat) (I : Nat → Nat → Nat) (tr : Int64) : (WC E a I tr)[49]? = some (a 27, .inl (E.2.1 1, 8, .inl (fun j => nI (I 52 j)))) := rfl
theorem gC_50 (E : cE) (a : Nat → Nat) (I : Nat → Nat → Nat) (tr : Int64) : (WC E a I tr)[50]? = some (a 28, .inl (E.2.1 1, 8, .inl (fun j => rN (I 53 j)))) := rfl
theorem gC_51 (E : cE) (a : Nat → Nat) (I : Nat → Nat → Nat) (tr : Int64) : (WC E a I tr)[51]? = some (a 29, .inl (E.2.1 1, 8, .inl (fun j => nI (I 54 j)))) := rfl
theorem gC_52 (E : cE) (a : Nat → Nat) (I : Nat → Nat → Nat) (tr : Int64) : (WC E a I tr)[52]? = some (a 8, .inl (E.2.1 4, 2, .inr (.inr (.inr (.inr (fun j => some (a (30 + j)))))))) := rfl
theorem gC_53 (E : cE) (a : Nat → Nat) (I : Nat → Nat → Nat) (tr : Int64) : (WC E a I tr)[53]? = some (a 30, .inr (4, [.ref (a 32), .ref (a 33), .ref (a 34), .int (nI (I 63 0)), .int (nI (I 64 0))])) := rfl
theorem gC_54 (E : cE) (a : Nat → Nat) (I : Nat → Nat → Nat) (tr : Int64) : (WC E a I tr)[54]? = some (a 32, .inl (E.2.1 1, 6, .inl (fun j => nI (I 60 j)))) := rfl
theorem gC_55 (E : cE) (a : Nat → Nat) (I : Nat → Nat → Nat) (tr : Int64) : (WC E a I tr)[55]? = some (a 33, .inl (E.2.1 1, 10, .inl (fun j => nI (I 61 j)))) := rfl
theorem gC_56 (E : cE) (a : Nat → Nat) (I : Nat → Nat → Nat) (tr : Int64) : (WC E a I tr)[56]? = some (a 34, .inl (E.2.1 1, 10, .inl (fun j => nI (I 62 j)))) := rfl
theorem gC_57 (E : cE) (a : Nat → Nat) (I : Nat → Nat → Nat) (tr : Int64) : (WC E a I tr)[57]? = some (a 31, .inr (4, [.ref (a 35), .ref (a 36), .ref (a 37), .int (nI (I 68 0)), .int (nI (I 69 0))])) := rfl
theorem gC_58 (E : cE) (a : Nat → Nat) (I : Nat → Nat → Nat) (tr : Int64) : (WC E a I tr)[58]? = some (a 35, .inl (E.2.1 1, 6, .inl (fun j => nI (I 65 j)))) := rfl
theorem gC_59 (E : cE) (a : Nat → Nat) (I : Nat → Nat → Nat) (tr : Int64) : (WC E a I tr)[59]? = some (a 36, .inl (E.2.1 1, 10, .inl (fun j => nI (I 66 j)))) := rfl
theorem gC_60 (E : cE) (a : Nat → Nat) (I : Nat → Nat → Nat) (tr : Int64) : (WC E a I tr)[60]? = some (a 37, .inl (E.2.1 1, 10, .inl (fun j => nI (I 67 j)))) := rfl
theorem gC_61 (E : cE) (a : Nat → Nat) (I : Nat → Nat → Nat) (tr : Int64) : (WC E a I tr)[61]? = some (a 9, .inl (E.2.1 2, 2, .inl (fun j => nI (I 70 j)))) := rfl
theorem sC_0_9 (E : cE) (a : Nat → Nat) (I : Nat → Nat → Nat) (tr v : Int64) : (WC E a I tr).set 0 (a 0, .inr (9, [.ref (a 1), .ref (a 2), .ref (a 3), .ref (a 4), .ref (a 5), .ref (a 6), .ref (a 7), .ref (a 8), .ref (a 9), .long v])) = WC E a I v := rfl
theorem sC_1_1 (E : cE) (a : Nat → Nat) (I : Nat → Nat → Nat) (tr : Int64) (v : Nat) : (WC E a I tr).set 1 (a 1, .inr (6, [.ref (a 10), .int (nI v)])) = WC E a (up2 I 1 0 v) tr := rfl
theorem sC_2 (E : cE) (a : Nat → Nat) (I : Nat → Nat → Nat) (tr : Int64) (i v : Nat) : (WC E a I tr).set 2 (a 10, .inl (E.2.1 1, 300, .inl (upd (fun j => nI (I 0 j)) i (nI v)))) = WC E a (up2 I 0 i v) tr := by
  rw [upd_nI]
  rfl
theorem sC_3_2 (E : cE) (a : Nat → Nat) (I : Nat → Nat → Nat) (tr : Int64) (v : Nat) : (WC E a I tr).set 3 (a 2, .inr (5, [.ref (a 1), .ref (a 12), .int (nI v), .int (nI (I 3 0)), .int (nI (I 4 0)), .int (nI (I 5 0)), .int (nI (I 6 0))])) = WC E a (up2 I 2 0 v) tr := rfl
theorem sC_3_3 (E : cE) (a : Nat → Nat) (I : Nat → Nat → Nat) (tr : Int64) (v : Nat) : (WC E a I tr).set 3 (a 2, .inr (5, [.ref (a 1), .ref (a 12), .int (nI (I 2 0)), .int (nI v), .int (nI (I 4 0)), .int (nI (I 5 0)), .int (nI (I 6 0))])) = WC E a (up2 I 3 0 v) tr := rfl
theorem sC_3_4 (E : cE) (a : Nat → Nat) (I : Nat → Nat → Nat) (tr : Int64) (v : Nat) : (WC E a I tr).set 3 (a 2, .inr (5, [.ref (a 1), .ref (a 12), .int (nI (I 2 0)), .int (nI (I 3 0)), .int (nI v), .int (nI (I 5 0)), .int (nI (I 6 0))])) = WC E a (up2 I 4 0 v) tr := rfl
theorem sC_3_5 (E : cE) (a : Nat → Nat) (I : Nat → Nat → Nat) (tr : Int64) (v : Nat) : (WC E a I tr).set 3 (a 2, .inr (5, [.ref (a 1), .ref (a 12), .int (nI (I 2 0)), .int (nI (I 3 0)), .int (nI (I 4 0)), .int (nI v), .int (nI (I 6 0))])) = WC E a (up2 I 5 0 v) tr := rfl
theorem sC_3_6 (E : cE) (a : Nat → Nat) (I : Nat → Nat → Nat) (tr : Int64) (v : Nat) : (WC E a I tr).set 3 (a 2, .inr (5, [.ref (a 1), .ref (a 12), .int (nI (I 2 0)), .int (nI (I 3 0)), .int (nI (I 4 0)), .int (nI (I 5 0)), .int (nI v)])) = WC E a (up2 I 6 0 v) tr := rfl
theorem sC_5_3 (E : cE) (a : Nat → Nat) (I : Nat → Nat → Nat) (tr : Int64) (v : Nat) : (WC E a I tr).set 5 (a 4, .inr (4, [.ref (a 14), .ref (a 15), .ref (a 16), .int (nI v), .int (nI (I 11 0))])) = WC E a (up2 I 10 0 v) tr := rfl
theorem sC_5_4 (E : cE) (a : Nat → Nat) (I : Nat → Nat → Nat) (tr : Int64) (v : Nat) : (WC E a I tr).set 5 (a 4, .inr (4, [.ref (a 14), .ref (a 15), .ref (a 16), .int (nI (I 10 0)), .int (nI v)])) = WC E a (up2 I 11 0 v) tr := rfl
theorem sC_6 (E : cE) (a : Nat → Nat) (I : Nat → Nat → Nat) (tr : Int64) (i v : Nat) : (WC E a I tr).set 6 (a 14, .inl (E.2.1 1, 6, .inl (upd (fun j => nI (I 7 j)) i (nI v)))) = WC E a (up2 I 7 i v) tr := by
  rw [upd_nI]
  rfl
theorem sC_7 (E : cE) (a : Nat → Nat) (I : Nat → Nat → Nat) (tr : Int64) (i v : Nat) : (WC E a I tr).set 7 (a 15, .inl (E.2.1 1, 10, .inl (upd (fun j => nI (I 8 j)) i (nI v)))) = WC E a (up2 I 8 i v) tr := by
  rw [upd_nI]
  rfl
theorem sC_8 (E : cE) (a : Nat → Nat) (I : Nat → Nat → Nat) (tr : Int64) (i v : Nat) : (WC E a I tr).set 8 (a 16, .inl (E.2.1 1, 10, .inl (upd (fun j => nI (I 9 j)) i (nI v)))) = WC E a (up2 I 9 i v) tr := by
  rw [upd_nI]
  rfl
theorem sC_9 (E : cE) (a : Nat → Nat) (I : Nat → Nat → Nat) (tr : Int64) (i v : Nat) : (WC E a I tr).set 9 (a 13, .inl (E.2.1 1, 48, .inl (upd (fun j => nI (I 12 j)) i (nI v)))) = WC E a (up2 I 12 i v) tr := by
  rw [upd_nI]
  rfl
theorem sC_10_1 (E : cE) (a : Nat → Nat) (I : Nat → Nat → Nat) (tr : Int64) (v : Nat) : (WC E a I tr).set 10 (a 11, .inr (7, [.ref (a 17), .int (nI v), .int (nI (I 14 0))])) = WC E a (up2 I 13 0 v) tr := rfl
theorem sC_10_2 (E : cE) (a : Nat → Nat) (I : Nat → Nat → Nat) (tr : Int64) (v : Nat) : (WC E a I tr).set 10 (a 11, .inr (7, [.ref (a 17), .int (nI (I 13 0)), .int (nI v)])) = WC E a (up2 I 14 0 v) tr := rfl
theorem sC_24_1 (E : cE) (a : Nat → Nat) (I : Nat → Nat → Nat) (tr : Int64) (v : Nat) : (WC E a I tr).set 24 (a 12, .inr (7, [.ref (a 18), .int (nI v), .int (nI (I 27 0))])) = WC E a (up2 I 26 0 v) tr := rfl
theorem sC_24_2 (E : cE) (a : Nat → Nat) (I : Nat → Nat → Nat) (tr : Int64) (v : Nat) : (WC E a I tr).set 24 (a 12, .inr (7, [.ref (a 18), .int (nI (I 26 0)), .int (nI v)])) = WC E a (up2 I 27 0 v) tr := rfl
theorem sC_38_5 (E : cE) (a : Nat → Nat) (I : Nat → Nat → Nat) (tr : Int64) (v : Nat) : (WC E a I tr).set 38 (a 5, .inr (2, [.ref (a 3), .ref (a 19), .ref (a 20), .ref (a 21), .ref (a 22), .int (nI v)])) = WC E a (up2 I 44 0 v) tr := rfl
theorem sC_39 (E : cE) (a : Nat → Nat) (I : Nat → Nat → Nat) (tr : Int64) (i v : Nat) : (WC E a I tr).set 39 (a 19, .inl (E.2.1 1, 4, .inl (upd (fun j => nI (I 40 j)) i (nI v)))) = WC E a (up2 I 40 i v) tr := by
  rw [upd_nI]
  rfl
theorem sC_40 (E : cE) (a : Nat → Nat) (I : Nat → Nat → Nat) (tr : Int64) (i v : Nat) : (WC E a I tr).set 40 (a 20, .inl (E.2.1 1, 4, .inl (upd (fun j => nI (I 41 j)) i (nI v)))) = WC E a (up2 I 41 i v) tr := by
  rw [upd_nI]
  rfl
theorem sC_41 (E : cE) (a : Nat → Nat) (I : Nat → Nat → Nat) (tr : Int64) (i v : Nat) : (WC E a I tr).set 41 (a 21, .inl (E.2.1 1, 4, .inl (upd (fun j => nI (I 42 j)) i (nI v)))) = WC E a (up2 I 42 i v) tr := by
  rw [upd_nI]
  rfl
theorem sC_42 (E : cE) (a : Nat → Nat) (I : Nat → Nat → Nat) (tr : Int64) (i v : Nat) : (WC E a I tr).set 42 (a 22, .inl (E.2.1 1, 4, .inl (upd (fun j => nI (I 43 j)) i (nI v)))) = WC E a (up2 I 43 i v) tr := by
  rw [upd_nI]
  rfl
theorem sC_43_3 (E : cE) (a : Nat → Nat) (I : Nat → Nat → Nat) (tr : Int64) (v : Nat) : (WC E a I tr).set 43 (a 6, .inr (8, [.ref (a 3), .ref (a 23), .ref (a 24), .int (nI v)])) = WC E a (up2 I 47 0 v) tr := rfl
theorem sC_44 (E : cE) (a : Nat → Nat) (I : Nat → Nat → Nat) (tr : Int64) (i v : Nat) : (WC E a I tr).set 44 (a 23, .inl (E.2.1 1, 8, .inl (upd (fun j => nI (I 45 j)) i (nI v)))) = WC E a (up2 I 45 i v) tr := by
  rw [upd_nI]
  rfl
theorem sC_45 (E : cE) (a : Nat → Nat) (I : Nat → Nat → Nat) (tr : Int64) (i v : Nat) : (WC E a I tr).set 45 (a 24, .inl (E.2.1 1, 8, .inl (upd (fun j => nI (I 46 j)) i (nI v)))) = WC E a (up2 I 46 i v) tr := by
  rw [upd_nI]
  rfl
theorem sC_46_6 (E : cE) (a : Nat → Nat) (I : Nat → Nat → Nat) (tr : Int64) (v : Nat) : (WC E a I tr).set 46 (a 7, .inr (1, [.ref (a 3), .ref (a 25), .ref (a 26), .ref (a 27), .ref (a 28), .ref (a 29), .int (nI v)])) = WC E a (up2 I 55 0 v) tr := rfl
theorem sC_47 (E : cE) (a : Nat → Nat) (I : Nat → Nat → Nat) (tr : Int64) (i v : Nat) : (WC E a I tr).set 47 (a 25, .inl (E.2.1 1, 8, .inl (upd (fun j => nI (I 50 j)) i (nI v)))) = WC E a (up2 I 50 i v) tr := by
  rw [upd_nI]
  rfl
theorem sC_48 (E : cE) (a : Nat → Nat) (I : Nat → Nat → Nat) (tr : Int64) (i v : Nat) : (WC E a I tr).set 48 (a 26, .inl (E.2.1 1, 8, .inl (upd (fun j => nI (I 51 j)) i (nI v)))) = WC E a (up2 I 51 i v) tr := by
  rw [upd_nI]
  rfl
theorem sC_49 (E : cE) (a : Nat → Nat) (I : Nat → Nat → Nat) (tr : Int64) (i v : Nat) : (WC E a I tr).set 49 (a 27, .inl (E.2.1 1, 8, .inl (upd (fun j => nI (I 52 j)) i (nI v)))) = WC E a (up2 I 52 i v) tr := by
  rw [upd_nI]
  rfl
theorem sC_50 (E : cE) (a : Nat → Nat) (I : Nat → Nat → Nat) (tr : Int64) (i v : Nat) : (WC E a I tr).set 50 (a 28, .inl (E.2.1 1, 8, .inl (upd (fun j => rN (I 53 j)) i (rN v)))) = WC E a (up2 I 53 i v) tr := by
  rw [upd_rN]
  rfl
theorem sC_51 (E : cE) (a : Nat → Nat) (I : Nat → Nat → Nat) (tr : Int64) (i v : Nat) : (WC E a I tr).set 51 (a 29, .inl (E.2.1 1, 8, .inl (upd (fun j => nI (I 54 j)) i (nI v)))) = WC E a (up2 I 54 i v) tr := by
  rw [upd_nI]
  rfl
theorem sC_53_3 (E : cE) (a : Nat → Nat) (I : Nat → Nat → Nat) (tr : Int64) (v : Nat) : (WC E a I tr).set 53 (a 30, .inr (4, [.ref (a 32), .ref (a 33), .ref (a 34), .int (nI v), .int (nI (I 64 0))])) = WC E a (up2 I 63 0 v) tr := rfl
theorem sC_53_4 (E : cE) (a : Nat → Nat) (I : Nat → Nat → Nat) (tr : Int64) (v : Nat) : (WC E a I tr).set 53 (a 30, .inr (4, [.ref (a 32), .ref (a 33), .ref (a 34), .int (nI (I 63 0)), .int (nI v)])) = WC E a (up2 I 64 0 v) tr := rfl
theorem sC_54 (E : cE) (a : Nat → Nat) (I : Nat → Nat → Nat) (tr : Int64) (i v : Nat) : (WC E a I tr).set 54 (a 32, .inl (E.2.1 1, 6, .inl (upd (fun j => nI (I 60 j)) i (nI v)))) = WC E a (up2 I 60 i v) tr := by
  rw [upd_nI]
  rfl
theorem sC_55 (E : cE) (a : Nat → Nat) (I : Nat → Nat → Nat) (tr : Int64) (i v : Nat) : (WC E a I tr).set 55 (a 33, .inl (E.2.1 1, 10, .inl (upd (fun j => nI (I 61 j)) i (nI v)))) = WC E a (up2 I 61 i v) tr := by
  rw [upd_nI]
  rfl
theorem sC_56 (E : cE) (a : Nat → Nat) (I : Nat → Nat → Nat) (tr : Int64) (i v : Nat) : (WC E a I tr).set 56 (a 34, .inl (E.2.1 1, 10, .inl (upd (fun j => nI (I 62 j)) i (nI v)))) = WC E a (up2 I 62 i v) tr := by
  rw [upd_nI]
  rfl
theorem sC_57_3 (E : cE) (a : Nat → Nat) (I : Nat → Nat → Nat) (tr : Int64) (v : Nat) : (WC E a I tr).set 57 (a 31, .inr (4, [.ref (a 35), .ref (a 36), .ref (a 37), .int (nI v), .int (nI (I 69 0))])) = WC E a (up2 I 68 0 v) tr := rfl
theorem sC_57_4 (E : cE) (a : Nat → Nat) (I : Nat → Nat → Nat) (tr : Int64) (v : Nat) : (WC E a I tr).set 57 (a 31, .inr (4, [.ref (a 35), .ref (a 36), .ref (a 37), .int (nI (I 68 0)), .int (nI v)])) = WC E a (up2 I 69 0 v) tr := rfl
theorem sC_58 (E : cE) (a : Nat → Nat) (I : Nat → Nat → Nat) (tr : Int64) (i v : Nat) : (WC E a I tr).set 58 (a 35, .inl (E.2.1 1, 6, .inl (upd (fun j => nI (I 65 j)) i (nI v)))) = WC E a (up2 I 65 i v) tr := by
  rw [upd_nI]
  rfl
theorem sC_59 (E : cE) (a : Nat → Nat) (I : Nat → Nat → Nat) (tr : Int64) (i v : Nat) : (WC E a I tr).set 59 (a 36, .inl (E.2.1 1, 10, .inl (upd (fun j => nI (I 66 j)) i (nI v)))) = WC E a (up2 I 66 i v) tr := by
  rw [upd_nI]
  rfl
theorem sC_60 (E : cE) (a : Nat → Nat) (I : Nat → Nat → Nat) (tr : Int64) (i v : Nat) : (WC E a I tr).set 60 (a 37, .inl (E.2.1 1, 10, .inl (upd (fun j => nI (I 67 j)) i (nI v)))) = WC E a (up2 I 67 i v) tr := by
  rw [upd_nI]
  rfl
theorem sC_61 (E : cE) (a : Nat → Nat) (I : Nat → Nat → Nat) (tr : Int64) (i v : Nat) (hv : v < 2) : (WC E a I tr).set 61 (a 9, .inl (E.2.1 2, 2, .inl (upd (fun j => nI (I 70 j)) i (vp_nar .boolean (nI v))))) = WC E a (up2 I 70 i v) tr := by
  rw [upd_z _ _ _ hv]
  rfl
theorem tC_2 (E : cE) (a : Nat → Nat) (I : Nat → Nat → Nat) (tr : Int64) (g : Nat → Nat) : (WC E a I tr).set 2 (a 10, .inl (E.2.1 1, 300, .inl (fun j => nI (g j)))) = WC E a (upA I 0 g) tr := rfl
theorem tC_6 (E : cE) (a : Nat → Nat) (I : Nat → Nat → Nat) (tr : Int64) (g : Nat → Nat) : (WC E a I tr).set 6 (a 14, .inl (E.2.1 1, 6, .inl (fun j => nI (g j)))) = WC E a (upA I 7 g) tr := rfl
theorem tC_7 (E : cE) (a : Nat → Nat) (I : Nat → Nat → Nat) (tr : Int64) (g : Nat → Nat) : (WC E a I tr).set 7 (a 15, .inl (E.2.1 1, 10, .inl (fun j => nI (g j)))) = WC E a (upA I 8 g) tr := rfl
theorem tC_8 (E : cE) (a : Nat → Nat) (I : Nat → Nat → Nat) (tr : Int64) (g : Nat → Nat) : (WC E a I tr).set 8 (a 16, .inl (E.2.1 1, 10, .inl (fun j => nI (g j)))) = WC E a (upA I 9 g) tr := rfl
theorem tC_9 (E : cE) (a : Nat → Nat) (I : Nat → Nat → Nat) (tr : Int64) (g : Nat → Nat) : (WC E a I tr).set 9 (a 13, .inl (E.2.1 1, 48, .inl (fun j => nI (g j)))) = WC E a (upA I 12 g) tr := rfl
theorem tC_18 (E : cE) (a : Nat → Nat) (I : Nat → Nat → Nat) (tr : Int64) (g : Nat → Nat) : (WC E a I tr).set 18 (a 50, .inl (E.2.1 1, 96, .inl (fun j => nI (g j)))) = WC E a (upA I 20 g) tr := rfl
theorem tC_19 (E : cE) (a : Nat → Nat) (I : Nat → Nat → Nat) (tr : Int64) (g : Nat → Nat) : (WC E a I tr).set 19 (a 51, .inl (E.2.1 1, 96, .inl (fun j => nI (g j)))) = WC E a (upA I 21 g) tr := rfl
theorem tC_20 (E : cE) (a : Nat → Nat) (I : Nat → Nat → Nat) (tr : Int64) (g : Nat → Nat) : (WC E a I tr).set 20 (a 52, .inl (E.2.1 1, 96, .inl (fun j => nI (g j)))) = WC E a (upA I 22 g) tr := rfl
theorem tC_21 (E : cE) (a : Nat → Nat) (I : Nat → Nat → Nat) (tr : Int64) (g : Nat → Nat) : (WC E a I tr).set 21 (a 53, .inl (E.2.1 1, 96, .inl (fun j => nI (g j)))) = WC E a (upA I 23 g) tr := rfl
theorem tC_22 (E : cE) (a : Nat → Nat) (I : Nat → Nat → Nat) (tr : Int64) (g : Nat → Nat) : (WC E a I tr).set 22 (a 54, .inl (E.2.1 1, 96, .inl (fun j => nI (g j)))) = WC E a (upA I 24 g) tr := rfl
theorem tC_23 (E : cE) (a : Nat → Nat) (I : Nat → Nat → Nat) (tr : Int64) (g : Nat → Nat) : (WC E a I tr).set 23 (a 55, .inl (E.2.1 1, 96, .inl (fun j => nI (g j)))) = WC E a (upA I 25 g) tr := rfl
theorem tC_32 (E : cE) (a : Nat → Nat) (I : Nat → Nat → Nat) (tr : Int64) (g : Nat → Nat) : (WC E a I tr).set 32 (a 70, .inl (E.2.1 1, 96, .inl (fun j => nI (g j)))) = WC E a (upA I 32 g) tr := rfl
theorem tC_33 (E : cE) (a : Nat → Nat) (I : Nat → Nat → Nat) (tr : Int64) (g : Nat → Nat) : (WC E a I tr).set 33 (a 71, .inl (E.2.1 1, 96, .inl (fun j => nI (g j)))) = WC E a (upA I 33 g) tr := rfl
theorem tC_34 (E : cE) (a : Nat → Nat) (I : Nat → Nat → Nat) (tr : Int64) (g : Nat → Nat) : (WC E a I tr).set 34 (a 72, .inl (E.2.1 1, 96, .inl (fun j => nI (g j)))) = WC E a (upA I 34 g) tr := rfl
theorem tC_35 (E : cE) (a : Nat → Nat) (I : Nat → Nat → Nat) (tr : Int64) (g : Nat → Nat) : (WC E a I tr).set 35 (a 73, .inl (E.2.1 1, 96, .inl (fun j => nI (g j)))) = WC E a (upA I 35 g) tr := rfl
theorem tC_36 (E : cE) (a : Nat → Nat) (I : Nat → Nat → Nat) (tr : Int64) (g : Nat → Nat) : (WC E a I tr).set 36 (a 74, .inl (E.2.1 1, 96, .inl (fun j => nI (g j)))) = WC E a (upA I 36 g) tr := rfl
theorem tC_37 (E : cE) (a : Nat → Nat) (I : Nat → Nat → Nat) (tr : Int64) (g : Nat → Nat) : (WC E a I tr).set 37 (a 75, .inl (E.2.1 1, 96, .inl (fun j => nI (g j)))) = WC E a (upA I 37 g) tr := rfl
theorem tC_39 (E : cE) (a : Nat → Nat) (I : Nat → Nat → Nat) (tr : Int64) (g : Nat → Nat) : (WC E a I tr).set 39 (a 19, .inl (E.2.1 1, 4, .inl (fun j => nI (g j)))) = WC E a (upA I 40 g) tr := rfl
theorem tC_40 (E : cE) (a : Nat → Nat) (I : Nat → Nat → Nat) (tr : Int64) (g : Nat → Nat) : (WC E a I tr).set 40 (a 20, .inl (E.2.1 1, 4, .inl (fun j => nI (g j)))) = WC E a (upA I 41 g) tr := rfl
theorem tC_41 (E : cE) (a : Nat → Nat) (I : Nat → Nat → Nat) (tr : Int64) (g : Nat → Nat) : (WC E a I tr).set 41 (a 21, .inl (E.2.1 1, 4, .inl (fun j => nI (g j)))) = WC E a (upA I 42 g) tr := rfl
theorem tC_42 (E : cE) (a : Nat → Nat) (I : Nat → Nat → Nat) (tr : Int64) (g : Nat → Nat) : (WC E a I tr).set 42 (a 22, .inl (E.2.1 1, 4, .inl (fun j => nI (g j)))) = WC E a (upA I 43 g) tr := rfl
theorem tC_44 (E : cE) (a : Nat → Nat) (I : Nat → Nat → Nat) (tr : Int64) (g : Nat → Nat) : (WC E a I tr).set 44 (a 23, .inl (E.2.1 1, 8, .inl (fun j => nI (g j)))) = WC E a (upA I 45 g) tr := rfl
theorem tC_45 (E : cE) (a : Nat → Nat) (I : Nat → Nat → Nat) (tr : Int64) (g : Nat → Nat) : (WC E a I tr).set 45 (a 24, .inl (E.2.1 1, 8, .inl (fun j => nI (g j)))) = WC E a (upA I 46 g) tr := rfl
theorem tC_47 (E : cE) (a : Nat → Nat) (I : Nat → Nat → Nat) (tr : Int64) (g : Nat → Nat) : (WC E a I tr).set 47 (a 25, .inl (E.2.1 1, 8, .inl (fun j => nI (g j)))) = WC E a (upA I 50 g) tr := rfl
theorem tC_48 (E : cE) (a : Nat → Nat) (I : Nat → Nat → Nat) (tr : Int64) (g : Nat → Nat) : (WC E a I tr).set 48 (a 26, .inl (E.2.1 1, 8, .inl (fun j => nI (g j)))) = WC E a (upA I 51 g) tr := rfl
theorem tC_49 (E : cE) (a : Nat → Nat) (I : Nat → Nat → Nat) (tr : Int64) (g : Nat → Nat) : (WC E a I tr).set 49 (a 27, .inl (E.2.1 1, 8, .inl (fun j => nI (g j)))) = WC E a (upA I 52 g) tr := rfl
theorem tC_50 (E : cE) (a : Nat → Nat) (I : Nat → Nat → Nat) (tr : Int64) (g : Nat → Nat) : (WC E a I tr).set 50 (a 28, .inl (E.2.1 1, 8, .inl (fun j => rN (g j)))) = WC E a (upA I 53 g) tr := rfl
theorem tC_51 (E : cE) (a : Nat → Nat) (I : Nat → Nat → Nat) (tr : Int64) (g : Nat → Nat) : (WC E a I tr).set 51 (a 29, .inl (E.2.1 1, 8, .inl (fun j => nI (g j)))) = WC E a (upA I 54 g) tr := rfl
theorem tC_54 (E : cE) (a : Nat → Nat) (I : Nat → Nat → Nat) (tr : Int64) (g : Nat → Nat) : (WC E a I tr).set 54 (a 32, .inl (E.2.1 1, 6, .inl (fun j => nI (g j)))) = WC E a (upA I 60 g) tr := rfl
theorem tC_55 (E : cE) (a : Nat → Nat) (I : Nat → Nat → Nat) (tr : Int64) (g : Nat → Nat) : (WC E a I tr).set 55 (a 33, .inl (E.2.1 1, 10, .inl (fun j => nI (g j)))) = WC E a (upA I 61 g) tr := rfl
theorem tC_56 (E : cE) (a : Nat → Nat) (I : Nat → Nat → Nat) (tr : Int64) (g : Nat → Nat) : (WC E a I tr).set 56 (a 34, .inl (E.2.1 1, 10, .inl (fun j => nI (g j)))) = WC E a (upA I 62 g) tr := rfl
theorem tC_58 (E : cE) (a : Nat → Nat) (I : Nat → Nat → Nat) (tr : Int64) (g : Nat → Nat) : (WC E a I tr).set 58 (a 35, .inl (E.2.1 1, 6, .inl (fun j => nI (g j)))) = WC E a (upA I 65 g) tr := rfl
theorem tC_59 (E : cE) (a : Nat → Nat) (I : Nat → Nat → Nat) (tr : Int64) (g : Nat → Nat) : (WC E a I tr).set 59 (a 36, .inl (E.2.1 1, 10, .inl (fun j => nI (g j)))) = WC E a (upA I 66 g) tr := rfl
theorem tC_60 (E : cE) (a : Nat → Nat) (I : Nat → Nat → Nat) (tr : Int64) (g : Nat → Nat) : (WC E a I tr).set 60 (a 37, .inl (E.2.1 1, 10, .inl (fun j => nI (g j)))) = WC E a (upA I 67 g) tr := rfl
theorem tC_61 (E : cE) (a : Nat → Nat) (I : Nat → Nat → Nat) (tr : Int64) (g : Nat → Nat) : (WC E a I tr).set 61 (a 9, .inl (E.2.1 2, 2, .inl (fun j => nI (g j)))) = WC E a (upA I 70 g) tr := rfl
def WM (E : cE) (a : Nat → Nat) (I : Nat → Nat → Nat) (tr : Int64) : va_W := [
  (a 0, .inr (10, [.long tr, .ref (a 1), .int (nI (I 1 0)), .ref (a 2), .ref (a 3), .ref (a 4), .ref (a 5), .ref (a 6), .ref (a 7), .ref (a 8), .ref (a 9), .int (nI (I 10 0)), .int (nI (I 11 0)), .int (nI (I 12 0)), .int (nI (I 13 0)), .int (rN (I 14 0)), .int (nI (I 15 0)), .ref (a 10), .ref (a 11), .ref (a 12), .int (nI (I 19 0)), .ref (a 13), .ref (a 14), .ref (a 15), .ref (a 16), .int (nI (I 24 0)), .ref (a 17), .int (nI (I 26 0))])),
  (a 1, .inl (E.2.1 0, 300, .inl (fun j => sb_b (I 0 j)))),
  (a 2, .inl (E.2.1 1, 2, .inl (fun j => nI (I 2 j)))),
  (a 3, .inl (E.2.1 1, 2, .inl (fun j => nI (I 3 j)))),
  (a 4, .inl (E.2.1 1, 12, .inl (fun j => nI (I 4 j)))),
  (a 5, .inl (E.2.1 1, 12, .inl (fun j => nI (I 5 j)))),
  (a 6, .inl (E.2.1 1, 12, .inl (fun j => nI (I 6 j)))),
  (a 7, .inl (E.2.1 1, 12, .inl (fun j => nI (I 7 j)))),
  (a 8, .inl (E.2.1 1, 24, .inl (fun j => nI (I 8 j)))),
  (a 9, .inl (E.2.1 1, 24, .inl (fun j => nI (I 9 j)))),
  (a 10, .inl (E.2.1 1, 84, .inl (fun j => nI (I 16 j)))),
  (a 11, .inl (E.2.1 2, 2, .inl (fun j => nI (I 17 j)))),
  (a 12, .inl (E.2.1 1, 16, .inl (fun j => nI (I 18 j)))),
  (a 13, .inl (E.2.1 1, 4, .inl (fun j => nI (I 20 j)))),
  (a 14, .inl (E.2.1 1, 4, .inl (fun j => nI (I 21 j)))),
  (a 15, .inl (E.2.1 1, 8, .inl (fun j => nI (I 22 j)))),
  (a 16, .inl (E.2.1 1, 8, .inl (fun j => nI (I 23 j)))),
  (a 17, .inl (E.2.1 1, 24, .inl (fun j => nI (I 25 j))))]
theorem gM_0 (E : cE) (a : Nat → Nat) (I : Nat → Nat → Nat) (tr : Int64) : (WM E a I tr)[0]? = some (a 0, .inr (10, [.long tr, .ref (a 1), .int (nI (I 1 0)), .ref (a 2), .ref (a 3), .ref (a 4), .ref (a 5), .ref (a 6), .ref (a 7), .ref (a 8), .ref (a 9), .int (nI (I 10 0)), .int (nI (I 11 0)), .int (nI (I 12 0)), .int (nI (I 13 0)), .int (rN (I 14 0)), .int (nI (I 15 0)), .ref (a 10), .ref (a 11), .ref (a 12), .int (nI (I 19 0)), .ref (a 13), .ref (a 14), .ref (a 15), .ref (a 16), .int (nI (I 24 0)), .ref (a 17), .int (nI (I 26 0))])) := rfl
theorem gM_1 (E : cE) (a : Nat → Nat) (I : Nat → Nat → Nat) (tr : Int64) : (WM E a I tr)[1]? = some (a 1, .inl (E.2.1 0, 300, .inl (fun j => sb_b (I 0 j)))) := rfl
theorem gM_2 (E : cE) (a : Nat → Nat) (I : Nat → Nat → Nat) (tr : Int64) : (WM E a I tr)[2]? = some (a 2, .inl (E.2.1 1, 2, .inl (fun j => nI (I 2 j)))) := rfl
theorem gM_3 (E : cE) (a : Nat → Nat) (I : Nat → Nat → Nat) (tr : Int64) : (WM E a I tr)[3]? = some (a 3, .inl (E.2.1 1, 2, .inl (fun j => nI (I 3 j)))) := rfl
theorem gM_4 (E : cE) (a : Nat → Nat) (I : Nat → Nat → Nat) (tr : Int64) : (WM E a I tr)[4]? = some (a 4, .inl (E.2.1 1, 12, .inl (fun j => nI (I 4 j)))) := rfl
theorem gM_5 (E : cE) (a : Nat → Nat) (I : Nat → Nat → Nat) (tr : Int64) : (WM E a I tr)[5]? = some (a 5, .inl (E.2.1 1, 12, .inl (fun j => nI (I 5 j)))) := rfl
theorem gM_6 (E : cE) (a : Nat → Nat) (I : Nat → Nat → Nat) (tr : Int64) : (WM E a I tr)[6]? = some (a 6, .inl (E.2.1 1, 12, .inl (fun j => nI (I 6 j)))) := rfl
theorem gM_7 (E : cE) (a : Nat → Nat) (I : Nat → Nat → Nat) (tr : Int64) : (WM E a I tr)[7]? = some (a 7, .inl (E.2.1 1, 12, .inl (fun j => nI (I 7 j)))) := rfl
theorem gM_8 (E : cE) (a : Nat → Nat) (I : Nat → Nat → Nat) (tr : Int64) : (WM E a I tr)[8]? = some (a 8, .inl (E.2.1 1, 24, .inl (fun j => nI (I 8 j)))) := rfl
theorem gM_9 (E : cE) (a : Nat → Nat) (I : Nat → Nat → Nat) (tr : Int64) : (WM E a I tr)[9]? = some (a 9, .inl (E.2.1 1, 24, .inl (fun j => nI (I 9 j)))) := rfl
theorem gM_10 (E : cE) (a : Nat → Nat) (I : Nat → Nat → Nat) (tr : Int64) : (WM E a I tr)[10]? = some (a 10, .inl (E.2.1 1, 84, .inl (fun j => nI (I 16 j)))) := rfl
theorem gM_11 (E : cE) (a : Nat → Nat) (I : Nat → Nat → Nat) (tr : Int64) : (WM E a I tr)[11]? = some (a 11, .inl (E.2.1 2, 2, .inl (fun j => nI (I 17 j)))) := rfl
theorem gM_12 (E : cE) (a : Nat → Nat) (I : Nat → Nat → Nat) (tr : Int64) : (WM E a I tr)[12]? = some (a 12, .inl (E.2.1 1, 16, .inl (fun j => nI (I 18 j)))) := rfl
theorem gM_13 (E : cE) (a : Nat → Nat) (I : Nat → Nat → Nat) (tr : Int64) : (WM E a I tr)[13]? = some (a 13, .inl (E.2.1 1, 4, .inl (fun j => nI (I 20 j)))) := rfl
theorem gM_14 (E : cE) (a : Nat → Nat) (I : Nat → Nat → Nat) (tr : Int64) : (WM E a I tr)[14]? = some (a 14, .inl (E.2.1 1, 4, .inl (fun j => nI (I 21 j)))) := rfl
theorem gM_15 (E : cE) (a : Nat → Nat) (I : Nat → Nat → Nat) (tr : Int64) : (WM E a I tr)[15]? = some (a 15, .inl (E.2.1 1, 8, .inl (fun j => nI (I 22 j)))) := rfl
theorem gM_16 (E : cE) (a : Nat → Nat) (I : Nat → Nat → Nat) (tr : Int64) : (WM E a I tr)[16]? = some (a 16, .inl (E.2.1 1, 8, .inl (fun j => nI (I 23 j)))) := rfl
theorem gM_17 (E : cE) (a : Nat → Nat) (I : Nat → Nat → Nat) (tr : Int64) : (WM E a I tr)[17]? = some (a 17, .inl (E.2.1 1, 24, .inl (fun j => nI (I 25 j)))) := rfl
theorem sM_0_0 (E : cE) (a : Nat → Nat) (I : Nat → Nat → Nat) (tr v : Int64) : (WM E a I tr).set 0 (a 0, .inr (10, [.long v, .ref (a 1), .int (nI (I 1 0)), .ref (a 2), .ref (a 3), .ref (a 4), .ref (a 5), .ref (a 6), .ref (a 7), .ref (a 8), .ref (a 9), .int (nI (I 10 0)), .int (nI (I 11 0)), .int (nI (I 12 0)), .int (nI (I 13 0)), .int (rN (I 14 0)), .int (nI (I 15 0)), .ref (a 10), .ref (a 11), .ref (a 12), .int (nI (I 19 0)), .ref (a 13), .ref (a 14), .ref (a 15), .ref (a 16), .int (nI (I 24 0)), .ref (a 17), .int (nI (I 26 0))])) = WM E a I v := rfl
theorem sM_0_2 (E : cE) (a : Nat → Nat) (I : Nat → Nat → Nat) (tr : Int64) (v : Nat) : (WM E a I tr).set 0 (a 0, .inr (10, [.long tr, .ref (a 1), .int (nI v), .ref (a 2), .ref (a 3), .ref (a 4), .ref (a 5), .ref (a 6), .ref (a 7), .ref (a 8), .ref (a 9), .int (nI (I 10 0)), .int (nI (I 11 0)), .int (nI (I 12 0)), .int (nI (I 13 0)), .int (rN (I 14 0)), .int (nI (I 15 0)), .ref (a 10), .ref (a 11), .ref (a 12), .int (nI (I 19 0)), .ref (a 13), .ref (a 14), .ref (a 15), .ref (a 16), .int (nI (I 24 0)), .ref (a 17), .int (nI (I 26 0))])) = WM E a (up2 I 1 0 v) tr := rfl
theorem sM_0_11 (E : cE) (a : Nat → Nat) (I : Nat → Nat → Nat) (tr : Int64) (v : Nat) : (WM E a I tr).set 0 (a 0, .inr (10, [.long tr, .ref (a 1), .int (nI (I 1 0)), .ref (a 2), .ref (a 3), .ref (a 4), .ref (a 5), .ref (a 6), .ref (a 7), .ref (a 8), .ref (a 9), .int (nI v), .int (nI (I 11 0)), .int (nI (I 12 0)), .int (nI (I 13 0)), .int (rN (I 14 0)), .int (nI (I 15 0)), .ref (a 10), .ref (a 11), .ref (a 12), .int (nI (I 19 0)), .ref (a 13), .ref (a 14), .ref (a 15), .ref (a 16), .int (nI (I 24 0)), .ref (a 17), .int (nI (I 26 0))])) = WM E a (up2 I 10 0 v) tr := rfl
theorem sM_0_12 (E : cE) (a : Nat → Nat) (I : Nat → Nat → Nat) (tr : Int64) (v : Nat) : (WM E a I tr).set 0 (a 0, .inr (10, [.long tr, .ref (a 1), .int (nI (I 1 0)), .ref (a 2), .ref (a 3), .ref (a 4), .ref (a 5), .ref (a 6), .ref (a 7), .ref (a 8), .ref (a 9), .int (nI (I 10 0)), .int (nI v), .int (nI (I 12 0)), .int (nI (I 13 0)), .int (rN (I 14 0)), .int (nI (I 15 0)), .ref (a 10), .ref (a 11), .ref (a 12), .int (nI (I 19 0)), .ref (a 13), .ref (a 14), .ref (a 15), .ref (a 16), .int (nI (I 24 0)), .ref (a 17), .int (nI (I 26 0))])) = WM E a (up2 I 11 0 v) tr := rfl
theorem sM_0_13 (E : cE) (a : Nat → Nat) (I : Nat → Nat → Nat) (tr : Int64) (v : Nat) : (WM E a I tr).set 0 (a 0, .inr (10, [.long tr, .ref (a 1), .int (nI (I 1 0)), .ref (a 2), .ref (a 3), .ref (a 4), .ref (a 5), .ref (a 6), .ref (a 7), .ref (a 8), .ref (a 9), .int (nI (I 10 0)), .int (nI (I 11 0)), .int (nI v), .int (nI (I 13 0)), .int (rN (I 14 0)), .int (nI (I 15 0)), .ref (a 10), .ref (a 11), .ref (a 12), .int (nI (I 19 0)), .ref (a 13), .ref (a 14), .ref (a 15), .ref (a 16), .int (nI (I 24 0)), .ref (a 17), .int (nI (I 26 0))])) = WM E a (up2 I 12 0 v) tr := rfl
theorem sM_0_14 (E : cE) (a : Nat → Nat) (I : Nat → Nat → Nat) (tr : Int64) (v : Nat) : (WM E a I tr).set 0 (a 0, .inr (10, [.long tr, .ref (a 1), .int (nI (I 1 0)), .ref (a 2), .ref (a 3), .ref (a 4), .ref (a 5), .ref (a 6), .ref (a 7), .ref (a 8), .ref (a 9), .int (nI (I 10 0)), .int (nI (I 11 0)), .int (nI (I 12 0)), .int (nI v), .int (rN (I 14 0)), .int (nI (I 15 0)), .ref (a 10), .ref (a 11), .ref (a 12), .int (nI (I 19 0)), .ref (a 13), .ref (a 14), .ref (a 15), .ref (a 16), .int (nI (I 24 0)), .ref (a 17), .int (nI (I 26 0))])) = WM E a (up2 I 13 0 v) tr := rfl
theorem sM_0_15 (E : cE) (a : Nat → Nat) (I : Nat → Nat → Nat) (tr : Int64) (v : Nat) : (WM E a I tr).set 0 (a 0, .inr (10, [.long tr, .ref (a 1), .int (nI (I 1 0)), .ref (a 2), .ref (a 3), .ref (a 4), .ref (a 5), .ref (a 6), .ref (a 7), .ref (a 8), .ref (a 9), .int (nI (I 10 0)), .int (nI (I 11 0)), .int (nI (I 12 0)), .int (nI (I 13 0)), .int (rN v), .int (nI (I 15 0)), .ref (a 10), .ref (a 11), .ref (a 12), .int (nI (I 19 0)), .ref (a 13), .ref (a 14), .ref (a 15), .ref (a 16), .int (nI (I 24 0)), .ref (a 17), .int (nI (I 26 0))])) = WM E a (up2 I 14 0 v) tr := rfl
theorem sM_0_16 (E : cE) (a : Nat → Nat) (I : Nat → Nat → Nat) (tr : Int64) (v : Nat) : (WM E a I tr).set 0 (a 0, .inr (10, [.long tr, .ref (a 1), .int (nI (I 1 0)), .ref (a 2), .ref (a 3), .ref (a 4), .ref (a 5), .ref (a 6), .ref (a 7), .ref (a 8), .ref (a 9), .int (nI (I 10 0)), .int (nI (I 11 0)), .int (nI (I 12 0)), .int (nI (I 13 0)), .int (rN (I 14 0)), .int (nI v), .ref (a 10), .ref (a 11), .ref (a 12), .int (nI (I 19 0)), .ref (a 13), .ref (a 14), .ref (a 15), .ref (a 16), .int (nI (I 24 0)), .ref (a 17), .int (nI (I 26 0))])) = WM E a (up2 I 15 0 v) tr := rfl
theorem sM_0_20 (E : cE) (a : Nat → Nat) (I : Nat → Nat → Nat) (tr : Int64) (v : Nat) : (WM E a I tr).set 0 (a 0, .inr (10, [.long tr, .ref (a 1), .int (nI (I 1 0)), .ref (a 2), .ref (a 3), .ref (a 4), .ref (a 5), .ref (a 6), .ref (a 7), .ref (a 8), .ref (a 9), .int (nI (I 10 0)), .int (nI (I 11 0)), .int (nI (I 12 0)), .int (nI (I 13 0)), .int (rN (I 14 0)), .int (nI (I 15 0)), .ref (a 10), .ref (a 11), .ref (a 12), .int (nI v), .ref (a 13), .ref (a 14), .ref (a 15), .ref (a 16), .int (nI (I 24 0)), .ref (a 17), .int (nI (I 26 0))])) = WM E a (up2 I 19 0 v) tr := rfl
theorem sM_0_25 (E : cE) (a : Nat → Nat) (I : Nat → Nat → Nat) (tr : Int64) (v : Nat) : (WM E a I tr).set 0 (a 0, .inr (10, [.long tr, .ref (a 1), .int (nI (I 1 0)), .ref (a 2), .ref (a 3), .ref (a 4), .ref (a 5), .ref (a 6), .ref (a 7), .ref (a 8), .ref (a 9), .int (nI (I 10 0)), .int (nI (I 11 0)), .int (nI (I 12 0)), .int (nI (I 13 0)), .int (rN (I 14 0)), .int (nI (I 15 0)), .ref (a 10), .ref (a 11), .ref (a 12), .int (nI (I 19 0)), .ref (a 13), .ref (a 14), .ref (a 15), .ref (a 16), .int (nI v), .ref (a 17), .int (nI (I 26 0))])) = WM E a (up2 I 24 0 v) tr := rfl
theorem sM_0_27 (E : cE) (a : Nat → Nat) (I : Nat → Nat → Nat) (tr : Int64) (v : Nat) : (WM E a I tr).set 0 (a 0, .inr (10, [.long tr, .ref (a 1), .int (nI (I 1 0)), .ref (a 2), .ref (a 3), .ref (a 4), .ref (a 5), .ref (a 6), .ref (a 7), .ref (a 8), .ref (a 9), .int (nI (I 10 0)), .int (nI (I 11 0)), .int (nI (I 12 0)), .int (nI (I 13 0)), .int (rN (I 14 0)), .int (nI (I 15 0)), .ref (a 10), .ref (a 11), .ref (a 12), .int (nI (I 19 0)), .ref (a 13), .ref (a 14), .ref (a 15), .ref (a 16), .int (nI (I 24 0)), .ref (a 17), .int (nI v)])) = WM E a (up2 I 26 0 v) tr := rfl
theorem sM_1 (E : cE) (a : Nat → Nat) (I : Nat → Nat → Nat) (tr : Int64) (i v : Nat) {x : Int32} (hx : vp_nar .byte x = sb_b v) : (WM E a I tr).set 1 (a 1, .inl (E.2.1 0, 300, .inl (upd (fun j => sb_b (I 0 j)) i (vp_nar .byte x)))) = WM E a (up2 I 0 i v) tr := by
  rw [upd_b _ _ _ hx]
  rfl
theorem sM_2 (E : cE) (a : Nat → Nat) (I : Nat → Nat → Nat) (tr : Int64) (i v : Nat) : (WM E a I tr).set 2 (a 2, .inl (E.2.1 1, 2, .inl (upd (fun j => nI (I 2 j)) i (nI v)))) = WM E a (up2 I 2 i v) tr := by
  rw [upd_nI]
  rfl
theorem sM_3 (E : cE) (a : Nat → Nat) (I : Nat → Nat → Nat) (tr : Int64) (i v : Nat) : (WM E a I tr).set 3 (a 3, .inl (E.2.1 1, 2, .inl (upd (fun j => nI (I 3 j)) i (nI v)))) = WM E a (up2 I 3 i v) tr := by
  rw [upd_nI]
  rfl
theorem sM_4 (E : cE) (a : Nat → Nat) (I : Nat → Nat → Nat) (tr : Int64) (i v : Nat) : (WM E a I tr).set 4 (a 4, .inl (E.2.1 1, 12, .inl (upd (fun j => nI (I 4 j)) i (nI v)))) = WM E a (up2 I 4 i v) tr := by
  rw [upd_nI]
  rfl
theorem sM_5 (E : cE) (a : Nat → Nat) (I : Nat → Nat → Nat) (tr : Int64) (i v : Nat) : (WM E a I tr).set 5 (a 5, .inl (E.2.1 1, 12, .inl (upd (fun j => nI (I 5 j)) i (nI v)))) = WM E a (up2 I 5 i v) tr := by
  rw [upd_nI]
  rfl
theorem sM_6 (E : cE) (a : Nat → Nat) (I : Nat → Nat → Nat) (tr : Int64) (i v : Nat) : (WM E a I tr).set 6 (a 6, .inl (E.2.1 1, 12, .inl (upd (fun j => nI (I 6 j)) i (nI v)))) = WM E a (up2 I 6 i v) tr := by
  rw [upd_nI]
  rfl
theorem sM_7 (E : cE) (a : Nat → Nat) (I : Nat → Nat → Nat) (tr : Int64) (i v : Nat) : (WM E a I tr).set 7 (a 7, .inl (E.2.1 1, 12, .inl (upd (fun j => nI (I 7 j)) i (nI v)))) = WM E a (up2 I 7 i v) tr := by
  rw [upd_nI]
  rfl
theorem sM_8 (E : cE) (a : Nat → Nat) (I : Nat → Nat → Nat) (tr : Int64) (i v : Nat) : (WM E a I tr).set 8 (a 8, .inl (E.2.1 1, 24, .inl (upd (fun j => nI (I 8 j)) i (nI v)))) = WM E a (up2 I 8 i v) tr := by
  rw [upd_nI]
  rfl
theorem sM_9 (E : cE) (a : Nat → Nat) (I : Nat → Nat → Nat) (tr : Int64) (i v : Nat) : (WM E a I tr).set 9 (a 9, .inl (E.2.1 1, 24, .inl (upd (fun j => nI (I 9 j)) i (nI v)))) = WM E a (up2 I 9 i v) tr := by
  rw [upd_nI]
  rfl
theorem sM_10 (E : cE) (a : Nat → Nat) (I : Nat → Nat → Nat) (tr : Int64) (i v : Nat) : (WM E a I tr).set 10 (a 10, .inl (E.2.1 1, 84, .inl (upd (fun j => nI (I 16 j)) i (nI v)))) = WM E a (up2 I 16 i v) tr := by
  rw [upd_nI]
  rfl
theorem sM_11 (E : cE) (a : Nat → Nat) (I : Nat → Nat → Nat) (tr : Int64) (i v : Nat) (hv : v < 2) : (WM E a I tr).set 11 (a 11, .inl (E.2.1 2, 2, .inl (upd (fun j => nI (I 17 j)) i (vp_nar .boolean (nI v))))) = WM E a (up2 I 17 i v) tr := by
  rw [upd_z _ _ _ hv]
  rfl
theorem sM_12 (E : cE) (a : Nat → Nat) (I : Nat → Nat → Nat) (tr : Int64) (i v : Nat) : (WM E a I tr).set 12 (a 12, .inl (E.2.1 1, 16, .inl (upd (fun j => nI (I 18 j)) i (nI v)))) = WM E a (up2 I 18 i v) tr := by
  rw [upd_nI]
  rfl
theorem sM_13 (E : cE) (a : Nat → Nat) (I : Nat → Nat → Nat) (tr : Int64) (i v : Nat) : (WM E a I tr).set 13 (a 13, .inl (E.2.1 1, 4, .inl (upd (fun j => nI (I 20 j)) i (nI v)))) = WM E a (up2 I 20 i v) tr := by
  rw [upd_nI]
  rfl
theorem sM_14 (E : cE) (a : Nat → Nat) (I : Nat → Nat → Nat) (tr : Int64) (i v : Nat) : (WM E a I tr).set 14 (a 14, .inl (E.2.1 1, 4, .inl (upd (fun j => nI (I 21 j)) i (nI v)))) = WM E a (up2 I 21 i v) tr := by
  rw [upd_nI]
  rfl
theorem sM_15 (E : cE) (a : Nat → Nat) (I : Nat → Nat → Nat) (tr : Int64) (i v : Nat) : (WM E a I tr).set 15 (a 15, .inl (E.2.1 1, 8, .inl (upd (fun j => nI (I 22 j)) i (nI v)))) = WM E a (up2 I 22 i v) tr := by
  rw [upd_nI]
  rfl
theorem sM_16 (E : cE) (a : Nat → Nat) (I : Nat → Nat → Nat) (tr : Int64) (i v : Nat) : (WM E a I tr).set 16 (a 16, .inl (E.2.1 1, 8, .inl (upd (fun j => nI (I 23 j)) i (nI v)))) = WM E a (up2 I 23 i v) tr := by
  rw [upd_nI]
  rfl
theorem sM_17 (E : cE) (a : Nat → Nat) (I : Nat → Nat → Nat) (tr : Int64) (i v : Nat) : (WM E a I tr).set 17 (a 17, .inl (E.2.1 1, 24, .inl (upd (fun j => nI (I 25 j)) i (nI v)))) = WM E a (up2 I 25 i v) tr := by
  rw [upd_nI]
  rfl
theorem tM_1 (E : cE) (a : Nat → Nat) (I : Nat → Nat → Nat) (tr : Int64) (g : Nat → Nat) : (WM E a I tr).set 1 (a 1, .inl (E.2.1 0, 300, .inl (fun j => sb_b (g j)))) = WM E a (upA I 0 g) tr := rfl
theorem tM_2 (E : cE) (a : Nat → Nat) (I : Nat → Nat → Nat) (tr : Int64) (g : Nat → Nat) : (WM E a I tr).set 2 (a 2, .inl (E.2.1 1, 2, .inl (fun j => nI (g j)))) = WM E a (upA I 2 g) tr := rfl
theorem tM_3 (E : cE) (a : Nat → Nat) (I : Nat → Nat → Nat) (tr : Int64) (g : Nat → Nat) : (WM E a I tr).set 3 (a 3, .inl (E.2.1 1, 2, .inl (fun j => nI (g j)))) = WM E a (upA I 3 g) tr := rfl
theorem tM_4 (E : cE) (a : Nat → Nat) (I : Nat → Nat → Nat) (tr : Int64) (g : Nat → Nat) : (WM E a I tr).set 4 (a 4, .inl (E.2.1 1, 12, .inl (fun j => nI (g j)))) = WM E a (upA I 4 g) tr := rfl
theorem tM_5 (E : cE) (a : Nat → Nat) (I : Nat → Nat → Nat) (tr : Int64) (g : Nat → Nat) : (WM E a I tr).set 5 (a 5, .inl (E.2.1 1, 12, .inl (fun j => nI (g j)))) = WM E a (upA I 5 g) tr := rfl
theorem tM_6 (E : cE) (a : Nat → Nat) (I : Nat → Nat → Nat) (tr : Int64) (g : Nat → Nat) : (WM E a I tr).set 6 (a 6, .inl (E.2.1 1, 12, .inl (fun j => nI (g j)))) = WM E a (upA I 6 g) tr := rfl
theorem tM_7 (E : cE) (a : Nat → Nat) (I : Nat → Nat → Nat) (tr : Int64) (g : Nat → Nat) : (WM E a I tr).set 7 (a 7, .inl (E.2.1 1, 12, .inl (fun j => nI (g j)))) = WM E a (upA I 7 g) tr := rfl
theorem tM_8 (E : cE) (a : Nat → Nat) (I : Nat → Nat → Nat) (tr : Int64) (g : Nat → Nat) : (WM E a I tr).set 8 (a 8, .inl (E.2.1 1, 24, .inl (fun j => nI (g j)))) = WM E a (upA I 8 g) tr := rfl
theorem tM_9 (E : cE) (a : Nat → Nat) (I : Nat → Nat → Nat) (tr : Int64) (g : Nat → Nat) : (WM E a I tr).set 9 (a 9, .inl (E.2.1 1, 24, .inl (fun j => nI (g j)))) = WM E a (upA I 9 g) tr := rfl
theorem tM_10 (E : cE) (a : Nat → Nat) (I : Nat → Nat → Nat) (tr : Int64) (g : Nat → Nat) : (WM E a I tr).set 10 (a 10, .inl (E.2.1 1, 84, .inl (fun j => nI (g j)))) = WM E a (upA I 16 g) tr := rfl
theorem tM_11 (E : cE) (a : Nat → Nat) (I : Nat → Nat → Nat) (tr : Int64) (g : Nat → Nat) : (WM E a I tr).set 11 (a 11, .inl (E.2.1 2, 2, .inl (fun j => nI (g j)))) = WM E a (upA I 17 g) tr := rfl
theorem tM_12 (E : cE) (a : Nat → Nat) (I : Nat → Nat → Nat) (tr : Int64) (g : Nat → Nat) : (WM E a I tr).set 12 (a 12, .inl (E.2.1 1, 16, .inl (fun j => nI (g j)))) = WM E a (upA I 18 g) tr := rfl
theorem tM_13 (E : cE) (a : Nat → Nat) (I : Nat → Nat → Nat) (tr : Int64) (g : Nat → Nat) : (WM E a I tr).set 13 (a 13, .inl (E.2.1 1, 4, .inl (fun j => nI (g j)))) = WM E a (upA I 20 g) tr := rfl
theorem tM_14 (E : cE) (a : Nat → Nat) (I : Nat → Nat → Nat) (tr : Int64) (g : Nat → Nat) : (WM E a I tr).set 14 (a 14, .inl (E.2.1 1, 4, .inl (fun j => nI (g j)))) = WM E a (upA I 21 g) tr := rfl
theorem tM_15 (E : cE) (a : Nat → Nat) (I : Nat → Nat → Nat) (tr : Int64) (g : Nat → Nat) : (WM E a I tr).set 15 (a 15, .inl (E.2.1 1, 8, .inl (fun j => nI (g j)))) = WM E a (upA I 22 g) tr := rfl
theorem tM_16 (E : cE) (a : Nat → Nat) (I : Nat → Nat → Nat) (tr : Int64) (g : Nat → Nat) : (WM E a I tr).set 16 (a 16, .inl (E.2.1 1, 8, .inl (fun j => nI (g j)))) = WM E a (upA I 23 g) tr := rfl
theorem tM_17 (E : cE) (a : Nat → Nat) (I : Nat → Nat → Nat) (tr : Int64) (g : Nat → Nat) : (WM E a I tr).set 17 (a 17, .inl (E.2.1 1, 24, .inl (fun j => nI (g j)))) = WM E a (upA I 25 g) tr := rfl
theorem gC_hc (E : cE) (a : Nat → Nat) (I : Nat → Nat → Nat) (tr : Int64) : ∀ h : Nat, h < 6 → (WC E a I tr)[12 + h]? = some (a (40 + h), .inr (3, [.ref (a (50 + h)), .int (nI (I 15 h)), .int (nI (I 16 h)), .int (nI (I 17 h)), .int (nI (I 18 h))]))
  | 0, _ => rfl
  | 1, _ => rfl
  | 2, _ => rfl
  | 3, _ => rfl
  | 4, _ => rfl
  | 5, _ => rfl
  | h + 6, hh => absurd hh (by omega)
theorem gC_dc (E : cE) (a : Nat → Nat) (I : Nat → Nat → Nat) (tr : Int64) : ∀ h : Nat, h < 6 → (WC E a I tr)[18 + h]? = some (a (50 + h), .inl (E.2.1 1, 96, .inl (fun j => nI (I (20 + h) j))))
  | 0, _ => rfl
  | 1, _ => rfl
  | 2, _ => rfl
  | 3, _ => rfl
  | 4, _ => rfl
  | 5, _ => rfl
  | h + 6, hh => absurd hh (by omega)
theorem sC_dc (E : cE) (a : Nat → Nat) (I : Nat → Nat → Nat) (tr : Int64) (i v : Nat) : ∀ h : Nat, h < 6 → (WC E a I tr).set (18 + h) (a (50 + h), .inl (E.2.1 1, 96, .inl (upd (fun j => nI (I (20 + h) j)) i (nI v)))) = WC E a (up2 I (20 + h) i v) tr
  | 0, _ => by rw [upd_nI]; rfl
  | 1, _ => by rw [upd_nI]; rfl
  | 2, _ => by rw [upd_nI]; rfl
  | 3, _ => by rw [upd_nI]; rfl
  | 4, _ => by rw [upd_nI]; rfl
  | 5, _ => by rw [upd_nI]; rfl
  | h + 6, hh => absurd hh (by omega)
theorem sC_hc_1 (E : cE) (a : Nat → Nat) (I : Nat → Nat → Nat) (tr : Int64) (v : Nat) : ∀ h : Nat, h < 6 → (WC E a I tr).set (12 + h) (a (40 + h), .inr (3, [.ref (a (50 + h)), .int (nI v), .int (nI (I 16 h)), .int (nI (I 17 h)), .int (nI (I 18 h))])) = WC E a (up2 I 15 h v) tr
  | 0, _ => rfl
  | 1, _ => rfl
  | 2, _ => rfl
  | 3, _ => rfl
  | 4, _ => rfl
  | 5, _ => rfl
  | h + 6, hh => absurd hh (by omega)
theorem sC_hc_2 (E : cE) (a : Nat → Nat) (I : Nat → Nat → Nat) (tr : Int64) (v : Nat) : ∀ h : Nat, h < 6 → (WC E a I tr).set (12 + h) (a (40 + h), .inr (3, [.ref (a (50 + h)), .int (nI (I 15 h)), .int (nI v), .int (nI (I 17 h)), .int (nI (I 18 h))])) = WC E a (up2 I 16 h v) tr
  | 0, _ => rfl
  | 1, _ => rfl
  | 2, _ => rfl
  | 3, _ => rfl
  | 4, _ => rfl
  | 5, _ => rfl
  | h + 6, hh => absurd hh (by omega)
theorem sC_hc_3 (E : cE) (a : Nat → Nat) (I : Nat → Nat → Nat) (tr : Int64) (v : Nat) : ∀ h : Nat, h < 6 → (WC E a I tr).set (12 + h) (a (40 + h), .inr (3, [.ref (a (50 + h)), .int (nI (I 15 h)), .int (nI (I 16 h)), .int (nI v), .int (nI (I 18 h))])) = WC E a (up2 I 17 h v) tr
  | 0, _ => rfl
  | 1, _ => rfl
  | 2, _ => rfl
  | 3, _ => rfl
  | 4, _ => rfl
  | 5, _ => rfl
  | h + 6, hh => absurd hh (by omega)
theorem sC_hc_4 (E : cE) (a : Nat → Nat) (I : Nat → Nat → Nat) (tr : Int64) (v : Nat) : ∀ h : Nat, h < 6 → (WC E a I tr).set (12 + h) (a (40 + h), .inr (3, [.ref (a (50 + h)), .int (nI (I 15 h)), .int (nI (I 16 h)), .int (nI (I 17 h)), .int (nI v)])) = WC E a (up2 I 18 h v) tr
  | 0, _ => rfl
  | 1, _ => rfl
  | 2, _ => rfl
  | 3, _ => rfl
  | 4, _ => rfl
  | 5, _ => rfl
  | h + 6, hh => absurd hh (by omega)
theorem gC_hs (E : cE) (a : Nat → Nat) (I : Nat → Nat → Nat) (tr : Int64) : ∀ h : Nat, h < 6 → (WC E a I tr)[26 + h]? = some (a (60 + h), .inr (3, [.ref (a (70 + h)), .int (nI (I 28 h)), .int (nI (I 29 h)), .int (nI (I 30 h)), .int (nI (I 31 h))]))
  | 0, _ => rfl
  | 1, _ => rfl
  | 2, _ => rfl
  | 3, _ => rfl
  | 4, _ => rfl
  | 5, _ => rfl
  | h + 6, hh => absurd hh (by omega)
theorem gC_ds (E : cE) (a : Nat → Nat) (I : Nat → Nat → Nat) (tr : Int64) : ∀ h : Nat, h < 6 → (WC E a I tr)[32 + h]? = some (a (70 + h), .inl (E.2.1 1, 96, .inl (fun j => nI (I (32 + h) j))))
  | 0, _ => rfl
  | 1, _ => rfl
  | 2, _ => rfl
  | 3, _ => rfl
  | 4, _ => rfl
  | 5, _ => rfl
  | h + 6, hh => absurd hh (by omega)
theorem sC_ds (E : cE) (a : Nat → Nat) (I : Nat → Nat → Nat) (tr : Int64) (i v : Nat) : ∀ h : Nat, h < 6 → (WC E a I tr).set (32 + h) (a (70 + h), .inl (E.2.1 1, 96, .inl (upd (fun j => nI (I (32 + h) j)) i (nI v)))) = WC E a (up2 I (32 + h) i v) tr
  | 0, _ => by rw [upd_nI]; rfl
  | 1, _ => by rw [upd_nI]; rfl
  | 2, _ => by rw [upd_nI]; rfl
  | 3, _ => by rw [upd_nI]; rfl
  | 4, _ => by rw [upd_nI]; rfl
  | 5, _ => by rw [upd_nI]; rfl
  | h + 6, hh => absurd hh (by omega)
theorem sC_hs_1 (E : cE) (a : Nat → Nat) (I : Nat → Nat → Nat) (tr : Int64) (v : Nat) : ∀ h : Nat, h < 6 → (WC E a I tr).set (26 + h) (a (60 + h), .inr (3, [.ref (a (70 + h)), .int (nI v), .int (nI (I 29 h)), .int (nI (I 30 h)), .int (nI (I 31 h))])) = WC E a (up2 I 28 h v) tr
  | 0, _ => rfl
  | 1, _ => rfl
  | 2, _ => rfl
  | 3, _ => rfl
  | 4, _ => rfl
  | 5, _ => rfl
  | h + 6, hh => absurd hh (by omega)
theorem sC_hs_2 (E : cE) (a : Nat → Nat) (I : Nat → Nat → Nat) (tr : Int64) (v : Nat) : ∀ h : Nat, h < 6 → (WC E a I tr).set (26 + h) (a (60 + h), .inr (3, [.ref (a (70 + h)), .int (nI (I 28 h)), .int (nI v), .int (nI (I 30 h)), .int (nI (I 31 h))])) = WC E a (up2 I 29 h v) tr
  | 0, _ => rfl
  | 1, _ => rfl
  | 2, _ => rfl
  | 3, _ => rfl
  | 4, _ => rfl
  | 5, _ => rfl
  | h + 6, hh => absurd hh (by omega)
theorem sC_hs_3 (E : cE) (a : Nat → Nat) (I : Nat → Nat → Nat) (tr : Int64) (v : Nat) : ∀ h : Nat, h < 6 → (WC E a I tr).set (26 + h) (a (60 + h), .inr (3, [.ref (a (70 + h)), .int (nI (I 28 h)), .int (nI (I 29 h)), .int (nI v), .int (nI (I 31 h))])) = WC E a (up2 I 30 h v) tr
  | 0, _ => rfl
  | 1, _ => rfl
  | 2, _ => rfl
  | 3, _ => rfl
  | 4, _ => rfl
  | 5, _ => rfl
  | h + 6, hh => absurd hh (by omega)
theorem sC_hs_4 (E : cE) (a : Nat → Nat) (I : Nat → Nat → Nat) (tr : Int64) (v : Nat) : ∀ h : Nat, h < 6 → (WC E a I tr).set (26 + h) (a (60 + h), .inr (3, [.ref (a (70 + h)), .int (nI (I 28 h)), .int (nI (I 29 h)), .int (nI (I 30 h)), .int (nI v)])) = WC E a (up2 I 31 h v) tr
  | 0, _ => rfl
  | 1, _ => rfl
  | 2, _ => rfl
  | 3, _ => rfl
  | 4, _ => rfl
  | 5, _ => rfl
  | h + 6, hh => absurd hh (by omega)
