/-! PURE 3: the watch, errands -/
def al (P : Nat → Bool) : Nat → Bool
  | 0 => true
  | k + 1 => al P k && P k
theorem al_t {P : Nat → Bool} {k : Nat} (h1 : al P k = true) (h2 : P k = true) : al P (k + 1) = true := by rw [al, h1, h2]; rfl
theorem al_f {P : Nat → Bool} {k : Nat} (h2 : P k = false) : ∀ n, k < n → al P n = false := by
  intro n
  induction n with
  | zero => intro q; omega
  | succ n ih =>
    intro q
    rw [al]
    by_cases e : k = n
    · subst e; rw [h2]; exact Bool.and_false _
    · rw [ih (by omega)]; rfl
theorem al_iff {P : Nat → Bool} : ∀ n, al P n = true ↔ ∀ k, k < n → P k = true := by
  intro n
  induction n with
  | zero => exact ⟨fun _ k h => absurd h (Nat.not_lt_zero _), fun _ => rfl⟩
  | succ n ih =>
    rw [al, Bool.and_eq_true, ih]
    refine ⟨fun h k hk => ?_, fun h => ⟨fun k hk => h k (by omega), h n (by omega)⟩⟩
    by_cases e : k = n
    · subst e; exact h.2
    · exact h.1 k (by omega)
def WK (I : Nat → Nat → Nat) : Prop := I 47 0 ≤ 8 ∧ ∀ k, k < I 47 0 → I 45 k < 96 ∧ I 46 k < 48
def cdB (f : Nat → Nat) (w n : Nat → Nat) (c : Nat) : Bool := al (fun k => decide (f (w k) = n k)) c
/-- errands: which one is the i-th of an order -/
def ioC (c o i : Nat) : Nat := (o / 2 ^ (2 * (c - 1 - i))) % 4
theorem ioC_lt (c o i : Nat) : ioC c o i < 4 := Nat.mod_lt _ (by decide)
theorem mk_lt4 {f : Nat → Nat} : ∀ t, (∀ u, u < t → f u < 4) → mk f t < 2 ^ 4 := by
  intro t
  induction t with
  | zero => intro _; exact Nat.two_pow_pos 4
  | succ t ih =>
    intro h
    exact or_lt (ih (fun u hu => h u (by omega))) (Nat.pow_lt_pow_right (by decide) (h t (by omega)))
theorem mk_ge {f : Nat → Nat} : ∀ t u, u < t → 2 ^ f u ≤ mk f t := by
  intro t
  induction t with
  | zero => intro u h; omega
  | succ t ih =>
    intro u h
    show 2 ^ f u ≤ mk f t ||| 2 ^ f t
    by_cases e : u = t
    · subst e; exact Nat.right_le_or
    · exact Nat.le_trans (ih u (by omega)) Nat.left_le_or
def oC (c o : Nat) : Bool := decide (mk (ioC c o) c = 2 ^ c - 1)
theorem oC_lt {c o : Nat} (h : oC c o = true) : ∀ i, i < c → ioC c o i < c := by
  intro i hi
  have e := of_decide_eq_true h
  have g := mk_ge (f := ioC c o) c i hi
  rcases Nat.lt_or_ge (ioC c o i) c with q | q
  · exact q
  · have := Nat.pow_le_pow_right (show 0 < 2 by decide) q
    have := Nat.two_pow_pos c
    omega
def btw (n lo hi : Nat) : Bool := decide (fm n lo ≤ fm hi lo)
def btC (f : Nat → Nat) (lo hi c : Nat) : Nat := sr (fun t => btw (f t) lo hi) 96 c
theorem btC_pos {f : Nat → Nat} {lo hi c : Nat} (h : 0 < btC f lo hi c) : 9 ≤ btC f lo hi c ∧ btC f lo hi c ≤ 104 := by
  obtain ⟨u, h1, h2, h3, h4⟩ := sr_spec (P := fun t => btw (f t) lo hi) (hi := 96) (t := c) (by unfold btC at h; omega)
  unfold btC
  omega
theorem btC_le (f : Nat → Nat) (lo hi c : Nat) : btC f lo hi c ≤ 104 := by
  rcases Nat.eq_zero_or_pos (btC f lo hi c) with h | h
  · omega
  · exact (btC_pos h).2
def enK (f : Nat → Nat → Nat) (w : Nat) (hs fr to st r : Nat → Nat) : Nat → Nat → Nat → Nat → Nat
  | 0, _, _, t => t + 9
  | k + 1, i, q, t =>
    let b := btC (f (hs (r i))) (fr (r i)) (to (r i)) (if hs (r i) = q then t else t + w)
    if b = 0 then 0 else if 95 < b - 9 + st (r i) then 0 else enK f w hs fr to st r k (i + 1) (hs (r i)) (b - 9 + st (r i))
theorem enK_0 {f : Nat → Nat → Nat} {w : Nat} {hs fr to st r : Nat → Nat} {k i q t t1 : Nat} (h1 : t1 = if hs (r i) = q then t else t + w) (hb : btC (f (hs (r i))) (fr (r i)) (to (r i)) t1 = 0) : enK f w hs fr to st r (k + 1) i q t = 0 := by
  subst h1
  rw [enK]
  exact if_pos hb
theorem enK_1 {f : Nat → Nat → Nat} {w : Nat} {hs fr to st r : Nat → Nat} {k i q t t1 : Nat} (h1 : t1 = if hs (r i) = q then t else t + w) (hb : 95 < btC (f (hs (r i))) (fr (r i)) (to (r i)) t1 - 9 + st (r i)) : enK f w hs fr to st r (k + 1) i q t = 0 := by
  subst h1
  rw [enK]
  try dsimp only
  generalize btC (f (hs (r i))) (fr (r i)) (to (r i)) (if hs (r i) = q then t else t + w) = bb at hb ⊢
  split
  · rfl
  · first | rfl | exact if_pos hb
theorem enK_2 {f : Nat → Nat → Nat} {w : Nat} {hs fr to st r : Nat → Nat} {k i q t t1 : Nat} (h1 : t1 = if hs (r i) = q then t else t + w) (hb : 0 < btC (f (hs (r i))) (fr (r i)) (to (r i)) t1) (h2 : btC (f (hs (r i))) (fr (r i)) (to (r i)) t1 - 9 + st (r i) ≤ 95) : enK f w hs fr to st r (k + 1) i q t = enK f w hs fr to st r k (i + 1) (hs (r i)) (btC (f (hs (r i))) (fr (r i)) (to (r i)) t1 - 9 + st (r i)) := by
  subst h1
  rw [enK]
  try dsimp only
  rw [if_neg (by omega), if_neg (by omega)]
theorem enK_le {f : Nat → Nat → Nat} {w : Nat} {hs fr to st r : Nat → Nat} : ∀ k i q t, t ≤ 95 → enK f w hs fr to st r k i q t ≤ 104 := by
  intro k
  induction k with
  | zero => intro i q t h; show t + 9 ≤ 104; omega
  | succ k ih =>
    intro i q t h
    rw [enK]
    try dsimp only
    generalize btC (f (hs (r i))) (fr (r i)) (to (r i)) (if hs (r i) = q then t else t + w) = bb
    split
    · omega
    · split
      · omega
      · exact ih _ _ _ (by omega)
theorem enK_ge {f : Nat → Nat → Nat} {w : Nat} {hs fr to st r : Nat → Nat} : ∀ k i q t, 0 < enK f w hs fr to st r k i q t → 9 ≤ enK f w hs fr to st r k i q t := by
  intro k
  induction k with
  | zero => intro i q t _; show 9 ≤ t + 9; omega
  | succ k ih =>
    intro i q t h
    rw [enK] at h ⊢
    try dsimp only at h ⊢
    generalize btC (f (hs (r i))) (fr (r i)) (to (r i)) (if hs (r i) = q then t else t + w) = bb at h ⊢
    split at h
    · omega
    · rename_i q1
      split at h
      · omega
      · rename_i q2
        rw [if_neg q1, if_neg q2]
        exact ih _ _ _ h
def EK (I : Nat → Nat → Nat) : Prop := I 44 0 ≤ 4 ∧ ∀ k, k < I 44 0 → I 40 k < 6 ∧ I 41 k < 48 ∧ I 42 k < 48 ∧ I 43 k ≤ 9
/-- the class's errands in an order o, from a house on -/
def enC (I : Nat → Nat → Nat) (r : Nat → Nat) (h : Nat) : Nat := enK (shC I) (I 14 0) (I 40) (I 41) (I 42) (I 43) r (I 44 0) 0 h (I 11 0)
def soC (I : Nat → Nat → Nat) (h o : Nat) : Nat := if oC (I 44 0) o = true then enC I (ioC (I 44 0) o) h else 0
theorem soC_le {I : Nat → Nat → Nat} {h o : Nat} (hn : I 11 0 ≤ 95) : soC I h o ≤ 104 := by
  unfold soC
  split
  · exact enK_le _ _ _ _ hn
  · omega
theorem soC_ge {I : Nat → Nat → Nat} {h o : Nat} (q : 0 < soC I h o) : 9 ≤ soC I h o := by
  unfold soC at q ⊢
  split at q
  · rename_i e; rw [if_pos e]; exact enK_ge _ _ _ _ q
  · omega
theorem p4 : ∀ c, c ≤ 4 → 2 ^ c ≤ 16 ∧ 1 ≤ 2 ^ c ∧ 2 ^ (2 * c) ≤ 256 := by decide
theorem pb_ge {S : Nat → Nat} : ∀ n, (pb S n).1 ≠ 0 → 9 ≤ (pb S n).1 ∧ (pb S n).1 < n + 9 ∧ 0 < S ((pb S n).1 - 9) ∧ (pb S n).2 = S ((pb S n).1 - 9) := by
  intro n
  induction n with
  | zero => intro h; exact absurd rfl h
  | succ n ih =>
    intro h
    rw [pb] at h ⊢
    split
    · rename_i q; exact ⟨by show 9 ≤ n + 9; omega, by show n + 9 < n + 1 + 9; omega, by show 0 < S (n + 9 - 9); rw [Nat.add_sub_cancel]; exact q.1, by show S n = S (n + 9 - 9); rw [Nat.add_sub_cancel]⟩
    · rename_i q
      rw [if_neg q] at h
      have := ih h
      exact ⟨this.1, by omega, this.2.2.1, this.2.2.2⟩
