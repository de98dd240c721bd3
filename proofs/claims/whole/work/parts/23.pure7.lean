/-! PURE 7: the reference's clocks -/
theorem up2_at (I : Nat → Nat → Nat) (k i v : Nat) : up2 I k i v k i = v := by
  unfold up2 upN
  rw [if_pos rfl, if_pos rfl]
theorem up2_ne (I : Nat → Nat → Nat) {k i j : Nat} (v : Nat) (h : j ≠ i) : up2 I k i v k j = I k j := by
  unfold up2 upN
  rw [if_pos rfl, if_neg h]
theorem iim1_Q {a : Nat} (h : 0 < a) : rN a + Int32.ofInt (-1) = rN (a - 1) := by
  obtain ⟨b, rfl⟩ : ∃ b, a = b + 1 := ⟨a - 1, by omega⟩
  rw [← ii1_Q b]
  show rN b + 1 + (-1) = rN (b + 1 - 1)
  rw [Int32.add_assoc, show (1 : Int32) + -1 = 0 by decide, Int32.add_zero]
  rfl
theorem iim1_NQ (t : Nat) : nI t + Int32.ofInt (-1) = rN (t + 8) := by
  rw [← rN_9, iim1_Q (by omega)]
  rfl
section BQZ
variable {p : Program} {l : Launch} {e : Env} {R : Room} {s : State} {m : MethodId} {args : Array Value} {below : List Frame} {meth : Method} {c : Code} {H : Heap} {locs : List Loc} {cells slots : Nat} {Q : State → Prop} {cc : ByteArray} {pc : Nat} {ls : Array Slot} {rest : List Value}
theorem bQz_lt (hexec : p.tables.exec = Jvm.exec) (hb : c.code = cc) {a : Nat} {off : Int} {tgt : Nat} (ha : a < 2 ^ 30) (hdg : decode cc pc = .ok (.ifCond .lt off, 3)) (ht : (pc : Int) + off = (tgt : Int))
    (kt : a < 9 → W p l e R s m args below meth c H locs cells slots Q (F0 m tgt ls rest)) (kf : 9 ≤ a → W p l e R s m args below meth c H locs cells slots Q (F0 m (pc + 3) ls rest)) : W p l e R s m args below meth c H locs cells slots Q (F0 m pc ls (.int (rN a) :: rest)) := by
  have h0 : (rN a < 0) ↔ a < 9 := rN_lt (b := 9) ha (by decide)
  exact lv_if_lt hexec hb hdg ht (fun h => kt (h0.mp h)) (fun h => kf (Nat.not_lt.mp (fun z => h (h0.mpr z))))
theorem bQz_ge (hexec : p.tables.exec = Jvm.exec) (hb : c.code = cc) {a : Nat} {off : Int} {tgt : Nat} (ha : a < 2 ^ 30) (hdg : decode cc pc = .ok (.ifCond .ge off, 3)) (ht : (pc : Int) + off = (tgt : Int))
    (kt : 9 ≤ a → W p l e R s m args below meth c H locs cells slots Q (F0 m tgt ls rest)) (kf : a < 9 → W p l e R s m args below meth c H locs cells slots Q (F0 m (pc + 3) ls rest)) : W p l e R s m args below meth c H locs cells slots Q (F0 m pc ls (.int (rN a) :: rest)) := by
  have h0 : (0 ≤ rN a) ↔ 9 ≤ a := rN_le (a := 9) (by decide) ha
  exact lv_if_ge hexec hb hdg ht (fun h => kt (h0.mp h)) (fun h => kf (Nat.not_le.mp (fun z => h (h0.mpr z))))
end BQZ
def lsM (J : Nat → Nat → Nat) (h t : Nat) : Nat → Nat
  | 0 => 0
  | i + 1 => lsM J h t i + (if J 8 (2 * h + i) ≤ t then J 9 (2 * h + i) else 0)
def shM (J : Nat → Nat → Nat) (h t : Nat) : Nat := (J 4 h + t * J 5 h / J 6 h + J 16 (1 + h) + lsM J h t (J 7 h)) % 48
theorem shM_lt (J : Nat → Nat → Nat) (h t : Nat) : shM J h t < 48 := Nat.mod_lt _ (by decide)
def KM (J : Nat → Nat → Nat) : Prop := J 2 0 ≤ 6 ∧ J 3 0 ≤ 9 ∧ J 16 0 ≤ 95 ∧ (∀ h, h < J 2 0 → J 4 h < 48 ∧ J 5 h ≤ 9 ∧ 1 ≤ J 6 h ∧ J 6 h ≤ 9 ∧ J 7 h ≤ 2 ∧ ∀ i, i < 2 → J 8 (2 * h + i) < 96 ∧ J 9 (2 * h + i) < 48) ∧ (∀ h, h < 6 → J 16 (1 + h) < 48)
theorem lsM_le {J : Nat → Nat → Nat} {h t : Nat} (hq : ∀ i, i < 2 → J 8 (2 * h + i) < 96 ∧ J 9 (2 * h + i) < 48) : ∀ i, i ≤ 2 → lsM J h t i ≤ 48 * i := by
  intro i
  induction i with
  | zero => intro _; exact Nat.zero_le _
  | succ i ih =>
    intro hi
    rw [lsM]
    have := ih (by omega)
    have := (hq i (by omega)).2
    split <;> omega
theorem wm_f {p : Int32} (h : wi p (-1) (nI 47) = false) : ¬ p = -1 ∧ inB p 48 = false := by
  have h := of_decide_eq_false h
  rw [Int32.le_iff_toInt_le, Int32.le_iff_toInt_le, nI_toInt (by decide)] at h
  have e1 : (-1 : Int32).toInt = -1 := rfl
  refine ⟨fun z => ?_, df (fun z => ?_)⟩
  · subst z; omega
  · omega
theorem wm_n {p : Int32} (h : wi p (-1) (nI 47) = true) (h2 : p < 0) : p = -1 := by
  have h := of_decide_eq_true h
  rw [Int32.le_iff_toInt_le, Int32.le_iff_toInt_le, nI_toInt (by decide)] at h
  rw [Int32.lt_iff_toInt_lt] at h2
  have e1 : (-1 : Int32).toInt = -1 := rfl
  have e0 : (0 : Int32).toInt = 0 := rfl
  apply Int32.toInt_inj.mp
  omega
theorem wm_t {p : Int32} (h : wi p (-1) (nI 47) = true) (h2 : ¬ p < 0) : ∃ n : Nat, n < 48 ∧ p = nI n := by
  obtain ⟨j, hj, rfl⟩ := nI_of h2
  have h := of_decide_eq_true h
  exact ⟨j, by have := (nI_leI hj (by decide)).mp h.2; omega, rfl⟩
