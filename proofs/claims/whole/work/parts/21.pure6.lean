/-! PURE 6: what each call makes of the class's ints -/
theorem up2_self (I : Nat → Nat → Nat) (k i : Nat) : up2 I k i (I k i) = I := by
  rw [up2_A]
  have e : upN (I k) i (I k i) = I k := by
    funext j
    unfold upN
    by_cases h : j = i
    · rw [if_pos h, h]
    · rw [if_neg h]
  rw [e, upA_self]
theorem up2_off (I : Nat → Nat → Nat) {k q : Nat} (i v : Nat) (h : q ≠ k) : up2 I k i v q = I q := if_neg h
theorem upA_off (I : Nat → Nat → Nat) {k q : Nat} (g : Nat → Nat) (h : q ≠ k) : upA I k g q = I q := if_neg h
theorem lsT_off (I : Nat → Nat → Nat) {q : Nat} (h : q ≠ 8 ∧ q ≠ 9 ∧ q ≠ 10) : lsT I q = I q := by
  unfold lsT
  rw [up2_off _ _ _ h.2.2, upA_off _ _ h.2.1, upA_off _ _ h.1]
theorem adU_off (I : Nat → Nat → Nat) (x b : Nat) {q : Nat} (h : q ≠ 8 ∧ q ≠ 9 ∧ q ≠ 10) : adU I x b q = I q := by
  unfold adU
  rw [up2_off _ _ _ h.2.2, up2_off _ _ _ h.2.1, up2_off _ _ _ h.1]
theorem adT_off (I : Nat → Nat → Nat) (x b : Nat) {q : Nat} (h : q ≠ 7 ∧ q ≠ 8 ∧ q ≠ 9 ∧ q ≠ 10) : adT I x b q = I q := by
  unfold adT
  rw [adU_off _ _ _ h.2]
  split
  · rw [up2_off _ _ _ h.1]
  · rw [lsT_off _ h.2, up2_off _ _ _ h.1]
theorem adT_7 (I : Nat → Nat → Nat) (x b : Nat) : adT I x b 7 = upN (I 7) x ((I 7 x + b) % 48) := by
  unfold adT
  rw [adU_off _ _ _ (by decide)]
  split
  · rfl
  · rw [lsT_off _ (by decide)]; rfl
theorem CK_of {I I2 : Nat → Nat → Nat} (hI : CK I) (h13 : I2 13 = I 13) (h14 : I2 14 = I 14) (h11 : I2 11 0 ≤ 95) (hd : ∀ h, h < 6 → I2 (20 + h) = I (20 + h)) (h7 : ∀ h, h < 6 → I2 7 h < 48) : CK I2 :=
  ⟨by rw [h13]; exact hI.1, by rw [h14]; exact hI.2.1, h11, fun h hh t ht => by rw [hd h hh]; exact hI.2.2.2.1 h hh t ht, h7⟩
theorem CK_adT {I : Nat → Nat → Nat} {x b : Nat} (hI : CK I) : CK (adT I x b) := by
  refine CK_of hI (adT_off _ _ _ (by decide)) (adT_off _ _ _ (by decide)) (by rw [adT_off _ _ _ (by decide)]; exact hI.2.2.1) (fun h hh => adT_off _ _ _ (by omega)) (fun h hh => ?_)
  rw [adT_7]
  unfold upN
  split
  · exact Nat.mod_lt _ (by decide)
  · exact hI.2.2.2.2 h hh
theorem shC_adT {I : Nat → Nat → Nat} {x b t : Nat} (hx : x < 6) : shC (adT I x b) x t = (shC I x t + b) % 48 := by
  unfold shC
  rw [adT_7, adT_off _ _ _ (by omega), upN_at]
  omega
def MK (I : Nat → Nat → Nat) : Prop := I 10 0 ≤ 10 ∧ ∀ k, k < I 10 0 → I 8 k < 6 ∧ I 9 k < 48
def turI (I : Nat → Nat → Nat) (p0 p1 : Int32) : Nat → Nat → Nat := cond (inB p0 (I 13 0)) (cond (wi p1 (nI 1) (nI 47)) (adT I (tn p0) (tn p1)) I) I
def undI (I : Nat → Nat → Nat) : Nat → Nat → Nat := if I 10 0 = 0 then I else tkT I
def erI (I : Nat → Nat → Nat) (h f t q : Nat) : Nat → Nat → Nat := up2 (up2 (up2 (up2 (up2 I 40 (I 44 0) h) 41 (I 44 0) f) 42 (I 44 0) t) 43 (I 44 0) q) 44 0 (I 44 0 + 1)
def errI (I : Nat → Nat → Nat) (p0 p1 p2 p3 : Int32) : Nat → Nat → Nat := cond (okE (I 13 0) p0 p1 p2 p3) (if I 44 0 < 4 then erI I (tn p0) (tn p1) (tn p2) (tn p3) else I) I
def swI (I : Nat → Nat → Nat) (t n : Nat) : Nat → Nat → Nat := up2 (up2 (up2 I 45 (I 47 0) t) 46 (I 47 0) n) 47 0 (I 47 0 + 1)
def sawI (I : Nat → Nat → Nat) (p0 p1 : Int32) : Nat → Nat → Nat := cond (inB p0 96) (cond (inB p1 48) (if I 47 0 < 8 then swI I (tn p0) (tn p1) else I) I) I
def owI (I : Nat → Nat → Nat) (x y n : Nat) : Nat → Nat → Nat := up2 (up2 (up2 (up2 I 50 (I 55 0) x) 51 (I 55 0) y) 52 (I 55 0) n) 55 0 (I 55 0 + 1)
def oweI (I : Nat → Nat → Nat) (p0 p1 p2 : Int32) : Nat → Nat → Nat := cond (hb2 (I 13 0) p0 p1) (cond (inB p2 48) (if I 55 0 < 8 then owI I (tn p0) (tn p1) (tn p2) else I) I) I
def dueI (I : Nat → Nat → Nat) (p0 : Int32) : Nat → Nat → Nat := if p0 = -1 then rgI I else I
def treI (I : Nat → Nat → Nat) (p0 p1 p2 : Int32) : Nat → Nat → Nat := cond (hb2 (I 13 0) p0 p1) (cond (wi p2 (nI 0) (nI 1)) (upA I 12 (tlU (flN (I 12) 48 0) (fun u => fm (shC I (tn p0) u) (shC I (tn p1) u)) 96)) I) I
def cpI (I : Nat → Nat → Nat) (d1 d2 d3 d4 d5 s1 s2 s3 s4 s5 : Nat) : Nat → Nat → Nat := up2 (up2 (upA (upA (upA I d1 (cpN (I s1) (I d1) 0 0 6)) d2 (cpN (I s2) (I d2) 0 0 10)) d3 (cpN (I s3) (I d3) 0 0 10)) d4 0 (I s4 0)) d5 0 (I s5 0)
def keepI (I : Nat → Nat → Nat) (p0 : Int32) : Nat → Nat → Nat := cond (wi p0 (nI 0) (nI 1)) (if tn p0 = 0 then up2 (cpI I 60 61 62 63 64 7 8 9 10 11) 70 0 1 else up2 (cpI I 65 66 67 68 69 7 8 9 10 11) 70 1 1) I
def backI (I : Nat → Nat → Nat) (p0 : Int32) : Nat → Nat → Nat := cond (wi p0 (nI 0) (nI 1)) (if I 70 (tn p0) = 0 then I else if tn p0 = 0 then cpI I 7 8 9 10 11 60 61 62 63 64 else cpI I 7 8 9 10 11 65 66 67 68 69) I
/-- the class's best errands from a house -/
def seC (I : Nat → Nat → Nat) (h : Nat) : Nat := (pb (soC I h) (2 ^ (2 * I 44 0))).2
def sxC (I : Nat → Nat → Nat) (h i : Nat) : Nat := ioC (I 44 0) ((pb (soC I h) (2 ^ (2 * I 44 0))).1 - 9) i
theorem seC_0 {I : Nat → Nat → Nat} {h : Nat} (q : (pb (soC I h) (2 ^ (2 * I 44 0))).1 = 0) : seC I h = 0 := by
  have key : ∀ (S : Nat → Nat) n, (pb S n).1 = 0 → (pb S n).2 = 0 := by
    intro S n
    induction n with
    | zero => intro _; rfl
    | succ n ih =>
      intro e
      rw [pb] at e ⊢
      split at e
      · cases e
      · rename_i z; rw [if_neg z]; exact ih e
  exact key _ _ q
theorem seC_1 {I : Nat → Nat → Nat} {h : Nat} (q : 0 < (pb (soC I h) (2 ^ (2 * I 44 0))).1) : oC (I 44 0) ((pb (soC I h) (2 ^ (2 * I 44 0))).1 - 9) = true ∧ seC I h = enC I (ioC (I 44 0) ((pb (soC I h) (2 ^ (2 * I 44 0))).1 - 9)) h ∧ 0 < seC I h ∧ 9 ≤ (pb (soC I h) (2 ^ (2 * I 44 0))).1 ∧ (pb (soC I h) (2 ^ (2 * I 44 0))).1 < 2 ^ (2 * I 44 0) + 9 := by
  obtain ⟨h1, h2, h3, h4⟩ := pb_ge (S := soC I h) (2 ^ (2 * I 44 0)) (by omega)
  have h5 : seC I h = soC I h ((pb (soC I h) (2 ^ (2 * I 44 0))).1 - 9) := h4
  generalize (pb (soC I h) (2 ^ (2 * I 44 0))).1 = B at *
  unfold soC at h3 h5
  split at h3
  · rename_i e
    rw [if_pos e] at h5
    exact ⟨e, h5, by rw [h5]; exact h3, h1, h2⟩
  · omega
theorem pb1_le (S : Nat → Nat) : ∀ n, (pb S n).1 ≤ n + 9 := by
  intro n
  induction n with
  | zero => exact Nat.zero_le _
  | succ n ih =>
    rw [pb]
    split
    · show n + 9 ≤ n + 1 + 9; omega
    · omega
