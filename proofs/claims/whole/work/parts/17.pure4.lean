/-! PURE 4: debts -/
theorem shC_A (I : Nat → Nat → Nat) (g : Nat → Nat) {k : Nat} (hk : 26 ≤ k) {h : Nat} (hh : h < 6) : shC (upA I k g) h = shC I h := by
  funext t
  unfold shC upA
  rw [if_neg (by omega), if_neg (by omega)]
theorem CK_A {I : Nat → Nat → Nat} (g : Nat → Nat) {k : Nat} (hk : 26 ≤ k) (hI : CK I) : CK (upA I k g) := by
  have e : ∀ q, q < 26 → upA I k g q = I q := fun q hq => if_neg (by omega)
  refine ⟨by rw [e 13 (by decide)]; exact hI.1, by rw [e 14 (by decide)]; exact hI.2.1, by rw [e 11 (by decide)]; exact hI.2.2.1, fun h hh t ht => ?_, fun h hh => ?_⟩
  · rw [e (20 + h) (by omega)]; exact hI.2.2.2.1 h hh t ht
  · rw [e 7 (by decide)]; exact hI.2.2.2.2 h hh
def quE (I : Nat → Nat → Nat) (k : Nat) : Nat := fst (shC I (I 51 k)) (I 52 k) 0
theorem quE_le (I : Nat → Nat → Nat) (k : Nat) : quE I k ≤ 104 := fst_le _ _ _
def DK (I : Nat → Nat → Nat) : Prop := I 55 0 ≤ 8 ∧ ∀ k, k < I 55 0 → I 50 k < 6 ∧ I 51 k < 6 ∧ I 52 k < 48
theorem quE_53 (I : Nat → Nat → Nat) (g : Nat → Nat) (k : Nat) (h : I 51 k < 6) : quE (upA I 53 g) k = quE I k := by
  show fst (shC (upA I 53 g) (I 51 k)) (I 52 k) 0 = _
  rw [shC_A I g (by decide) h]
  rfl
theorem DK_53 {I : Nat → Nat → Nat} (g : Nat → Nat) (h : DK I) : DK (upA I 53 g) := h
def flF (g q : Nat → Nat) (k : Nat) : Nat → Nat := fun j => if j < k then q j else g j
theorem flF_0 (g q : Nat → Nat) : flF g q 0 = g := by funext j; unfold flF; rw [if_neg (by omega)]
theorem flF_s (g q : Nat → Nat) (k : Nat) : upN (flF g q k) k (q k) = flF g q (k + 1) := by
  funext j
  unfold upN flF
  by_cases h1 : j = k
  · subst h1; rw [if_pos rfl, if_pos (by omega)]
  · rw [if_neg h1]
    by_cases h2 : j < k
    · rw [if_pos h2, if_pos (by omega)]
    · rw [if_neg h2, if_neg (by omega)]
theorem upN_upN (g : Nat → Nat) (k v w : Nat) : upN (upN g k v) k w = upN g k w := by
  funext j
  unfold upN
  by_cases h : j = k
  · rw [if_pos h, if_pos h]
  · rw [if_neg h, if_neg h, if_neg h]
theorem upN_at (g : Nat → Nat) (k v : Nat) : upN g k v k = v := if_pos rfl
def cpB (I : Nat → Nat → Nat) (k n : Nat) : Bool := decide (I 51 k = I 50 n) && (decide (0 < I 53 k) && decide (I 53 k < I 53 n))
/-- can the debt n be the next behind k -/
def cpC (I : Nat → Nat → Nat) (k n : Nat) : Bool := decide (I 51 k = I 50 n) && (decide (0 < quE I k) && decide (quE I k < quE I n))
theorem cpB_eq {I : Nat → Nat → Nat} {g g2 : Nat → Nat} {c k n : Nat} (hk : k < c) (hn : n < c) : cpB (upA (upA I 53 (flF g (quE I) c)) 54 g2) k n = cpC I k n := by
  have e1 : flF g (quE I) c k = quE I k := if_pos hk
  have e2 : flF g (quE I) c n = quE I n := if_pos hn
  show (decide (I 51 k = I 50 n) && (decide (0 < flF g (quE I) c k) && decide (flF g (quE I) c k < flF g (quE I) c n))) = _
  rw [e1, e2]
  rfl
def nxC (I : Nat → Nat → Nat) (k : Nat) : Nat := btU (cpC I k) (I 55 0)
theorem btU_256 (P : Nat → Bool) {h : Nat} (q : h ≤ 8) : btU P h < 256 := Nat.lt_of_lt_of_le (btU_lt P h) (Nat.pow_le_pow_right (by decide) q : 2 ^ h ≤ 2 ^ 8)
def fbB (g : Nat → Nat) (k o : Nat) : Bool := decide (g k / 2 ^ o % 2 = 1)
/-- the followers' followers -/
def wsI (g : Nat → Nat) (b : Nat) : Nat → Nat → Nat
  | 0 => g
  | k + 1 => if fbB (wsI g b k) k b = true then upN (wsI g b k) k (wsI g b k k ||| wsI g b k b) else wsI g b k
def wsO (g : Nat → Nat) (c : Nat) : Nat → Nat → Nat
  | 0 => g
  | b + 1 => wsI (wsO g c b) b c
theorem wsI_t {g : Nat → Nat} {b k : Nat} (h : fbB (wsI g b k) k b = true) : wsI g b (k + 1) = upN (wsI g b k) k (wsI g b k k ||| wsI g b k b) := if_pos h
theorem wsI_f {g : Nat → Nat} {b k : Nat} (h : fbB (wsI g b k) k b = false) : wsI g b (k + 1) = wsI g b k := if_neg (by rw [h]; decide)
theorem wsI_lt {g : Nat → Nat} {b c : Nat} (hb : b < c) (hg : ∀ j, j < c → g j < 256) : ∀ k, k ≤ c → ∀ j, j < c → wsI g b k j < 256 := by
  intro k
  induction k with
  | zero => intro _ j hj; exact hg j hj
  | succ k ih =>
    intro hk j hj
    rw [wsI]
    split
    · unfold upN
      split
      · exact or_lt (k := 8) (ih (by omega) k (by omega)) (ih (by omega) b hb)
      · exact ih (by omega) j hj
    · exact ih (by omega) j hj
theorem wsO_lt {g : Nat → Nat} {c : Nat} (hg : ∀ j, j < c → g j < 256) : ∀ b, b ≤ c → ∀ j, j < c → wsO g c b j < 256 := by
  intro b
  induction b with
  | zero => intro _ j hj; exact hg j hj
  | succ b ih => intro hb j hj; exact wsI_lt (by omega) (ih (by omega)) c (Nat.le_refl _) j hj
def rgG (I : Nat → Nat → Nat) : Nat → Nat := wsO (flF (I 54) (nxC I) (I 55 0)) (I 55 0) (I 55 0)
def rgP (I : Nat → Nat → Nat) (k l : Nat) : Bool := !(fbB (rgG I) k l && decide (I 51 l = I 50 k))
def rgC (I : Nat → Nat → Nat) : Bool := !(al (fun k => al (rgP I k) (I 55 0)) (I 55 0))
def rgI (I : Nat → Nat → Nat) : Nat → Nat → Nat := upA (upA I 53 (flF (I 53) (quE I) (I 55 0))) 54 (rgG I)
theorem flF_lt {I : Nat → Nat → Nat} (hD : DK I) : ∀ j, j < I 55 0 → flF (I 54) (nxC I) (I 55 0) j < 256 := by
  intro j hj
  unfold flF
  rw [if_pos hj]
  exact btU_256 _ hD.1
theorem rgG_lt {I : Nat → Nat → Nat} (hD : DK I) : ∀ j, j < I 55 0 → rgG I j < 256 := wsO_lt (flF_lt hD) _ (Nat.le_refl _)
