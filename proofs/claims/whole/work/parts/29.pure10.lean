/-! PURE 10: rings, orders of the reference -/
def ex (P : Nat → Bool) : Nat → Bool
  | 0 => false
  | n + 1 => ex P n || P n
theorem ex_iff {P : Nat → Bool} : ∀ n, ex P n = true ↔ ∃ k, k < n ∧ P k = true := by
  intro n
  induction n with
  | zero => exact ⟨fun h => Bool.noConfusion h, fun ⟨k, h, _⟩ => absurd h (Nat.not_lt_zero _)⟩
  | succ n ih =>
    rw [ex, Bool.or_eq_true, ih]
    refine ⟨fun h => ?_, fun ⟨k, h1, h2⟩ => ?_⟩
    · rcases h with ⟨k, h1, h2⟩ | h
      · exact ⟨k, by omega, h2⟩
      · exact ⟨n, by omega, h⟩
    · by_cases e : k = n
      · subst e; exact Or.inr h2
      · exact Or.inl ⟨k, by omega, h2⟩
theorem ex_1 {P : Nat → Bool} {l f : Nat} (hf : f = bN1 (ex P l)) (h : 0 < f) : 1 = bN1 (ex P (l + 1)) := by
  rw [ex]
  cases q : ex P l
  · rw [q] at hf; rw [hf] at h; exact absurd h (by decide)
  · rfl
theorem ex_0 {P : Nat → Bool} {l f : Nat} (hf : f = bN1 (ex P l)) (h : f = 0) (h2 : P l = false) : 0 = bN1 (ex P (l + 1)) := by
  rw [ex, h2]
  cases q : ex P l
  · rfl
  · rw [q, h] at hf; exact absurd hf (by decide)
theorem ex_t {P : Nat → Bool} {l : Nat} (h2 : P l = true) : 1 = bN1 (ex P (l + 1)) := by
  rw [ex, h2, Bool.or_true]
  rfl
def scJ (J : Nat → Nat → Nat) (i j : Nat) : Prop := J 25 (3 * i + 1) = J 25 (3 * j) ∧ quJ J i < quJ J j
def rcN (J : Nat → Nat → Nat) (k : Nat) : Nat → Nat → Prop
  | 0, l => l = k ∧ 0 < quJ J k
  | n + 1, l => ∃ i, rcN J k n i ∧ l < J 26 0 ∧ scJ J i l
def Rch (J : Nat → Nat → Nat) (k l : Nat) : Prop := ∃ n, rcN J k n l
def cmP (J : Nat → Nat → Nat) (k l : Nat) : Prop := l ≠ k ∧ Rch J k l ∧ J 25 (3 * l + 1) = J 25 (3 * k)
noncomputable def cmQ (J : Nat → Nat → Nat) (k l : Nat) : Bool := @decide (cmP J k l) (Classical.propDecidable _)
noncomputable def cmB (J : Nat → Nat → Nat) (k : Nat) : Bool := ex (cmQ J k) (J 26 0)
theorem cmQ_t {J : Nat → Nat → Nat} {k l : Nat} (h : cmP J k l) : cmQ J k l = true := @decide_eq_true _ (Classical.propDecidable _) h
theorem cmQ_f {J : Nat → Nat → Nat} {k l : Nat} (h : ¬ cmP J k l) : cmQ J k l = false := @decide_eq_false _ (Classical.propDecidable _) h
def cbI (J : Nat → Nat → Nat) (k u w : Nat) : Prop := u < 256 ∧ (∀ b, w.testBit b = true → u.testBit b = true) ∧ (∀ b, u.testBit b = true → b < J 26 0 ∧ Rch J k b) ∧ (0 < quJ J k → u.testBit k = true)
def dnI (J : Nat → Nat → Nat) (u w i : Nat) : Prop := ∀ a, a < i → w.testBit a = true → ∀ b, b < J 26 0 → scJ J a b → u.testBit b = true
def dnJ (J : Nat → Nat → Nat) (u w i j : Nat) : Prop := w.testBit i = true → ∀ b, b < j → scJ J i b → u.testBit b = true
theorem tb_t {u i : Nat} (h : u / 2 ^ i % 2 = 1) : u.testBit i = true := by rw [Nat.testBit_eq_decide_div_mod_eq]; exact dt h
theorem tb_f {u i : Nat} (h : ¬ u / 2 ^ i % 2 = 1) : u.testBit i = false := by rw [Nat.testBit_eq_decide_div_mod_eq]; exact df h
theorem tb_z {b : Nat} : ¬ (0 : Nat).testBit b = true := by rw [Nat.zero_testBit]; decide
theorem cbI_0 {J : Nat → Nat → Nat} {k : Nat} (h : quJ J k = 0) : cbI J k 0 0 := ⟨by decide, fun b h => h, fun b h => absurd h tb_z, fun z => by omega⟩
theorem cbI_1 {J : Nat → Nat → Nat} {k : Nat} (hD : DKJ J) (hk : k < J 26 0) (h : 0 < quJ J k) : cbI J k (2 ^ k) 0 := by
  refine ⟨pow_lt8 k (by have := hD.1; omega), fun b h => absurd h tb_z, fun b hb => ?_, fun _ => Nat.testBit_two_pow_self⟩
  rw [Nat.testBit_two_pow] at hb
  have e := of_decide_eq_true hb
  subst e
  exact ⟨hk, 0, rfl, h⟩
theorem cbI_w {J : Nat → Nat → Nat} {k u w : Nat} (h : cbI J k u w) : cbI J k u u := ⟨h.1, fun _ z => z, h.2.2.1, h.2.2.2⟩
theorem dnI_0 {J : Nat → Nat → Nat} {u w : Nat} : dnI J u w 0 := fun a h => absurd h (Nat.not_lt_zero _)
theorem dnJ_0 {J : Nat → Nat → Nat} {u w i : Nat} : dnJ J u w i 0 := fun _ b h => absurd h (Nat.not_lt_zero _)
theorem tb_or {u j b : Nat} (h : u.testBit b = true) : (u ||| 2 ^ j).testBit b = true := by rw [Nat.testBit_or, h]; rfl
theorem tb_os {u j : Nat} : (u ||| 2 ^ j).testBit j = true := by rw [Nat.testBit_or, Nat.testBit_two_pow_self, Bool.or_true]
theorem cbI_a {J : Nat → Nat → Nat} {k u w i j : Nat} (hD : DKJ J) (h : cbI J k u w) (h1 : w.testBit i = true) (h2 : scJ J i j) (hj : j < J 26 0) : cbI J k (u ||| 2 ^ j) w := by
  refine ⟨or_lt (k := 8) h.1 (pow_lt8 j (by have := hD.1; omega)), fun b z => tb_or (h.2.1 b z), fun b z => ?_, fun z => tb_or (h.2.2.2 z)⟩
  rw [Nat.testBit_or, Bool.or_eq_true] at z
  rcases z with z | z
  · exact h.2.2.1 b z
  · rw [Nat.testBit_two_pow] at z
    have e := of_decide_eq_true z
    subst e
    obtain ⟨n, hn⟩ := (h.2.2.1 i (h.2.1 i h1)).2
    exact ⟨hj, n + 1, i, hn, hj, h2⟩
theorem dnI_a {J : Nat → Nat → Nat} {u w i j : Nat} (h : dnI J u w i) : dnI J (u ||| 2 ^ j) w i := fun a h1 h2 b h3 h4 => tb_or (h a h1 h2 b h3 h4)
theorem dnJ_a {J : Nat → Nat → Nat} {u w i j : Nat} (h : dnJ J u w i j) : dnJ J (u ||| 2 ^ j) w i (j + 1) := by
  intro h1 b h2 h3
  by_cases e : b = j
  · subst e; exact tb_os
  · exact tb_or (h h1 b (by omega) h3)
theorem dnJ_k {J : Nat → Nat → Nat} {u w i j : Nat} (h : dnJ J u w i j) (h0 : ¬ (w.testBit i = true ∧ scJ J i j)) : dnJ J u w i (j + 1) := by
  intro h1 b h2 h3
  by_cases e : b = j
  · subst e; exact absurd ⟨h1, h3⟩ h0
  · exact h h1 b (by omega) h3
theorem dnI_s {J : Nat → Nat → Nat} {u w i j : Nat} (h : dnI J u w i) (h2 : dnJ J u w i j) (hj : J 26 0 ≤ j) : dnI J u w (i + 1) := by
  intro a h3 h4 b h5 h6
  by_cases e : a = i
  · subst e; exact h2 h4 b (by omega) h6
  · exact h a (by omega) h4 b h5 h6
def clI (J : Nat → Nat → Nat) (u w : Nat) : Prop := ∀ a, w.testBit a = true → ∀ b, b < J 26 0 → scJ J a b → u.testBit b = true
theorem clI_0 {J : Nat → Nat → Nat} {u : Nat} : clI J u 0 := fun _ h => absurd h tb_z
theorem clI_s {J : Nat → Nat → Nat} {k u w i : Nat} (hc : cbI J k u w) (h : dnI J u w i) (hi : J 26 0 ≤ i) : clI J u w := fun a h1 => h a (by have := (hc.2.2.1 a (hc.2.1 a h1)).1; omega) h1
theorem cb_le {J : Nat → Nat → Nat} {k u w : Nat} (hc : cbI J k u w) : w ≤ u := by
  have e : w ||| u = u := by
    apply Nat.eq_of_testBit_eq
    intro b
    rw [Nat.testBit_or]
    cases q : w.testBit b
    · rfl
    · rw [hc.2.1 b q]; rfl
  rw [← e]
  exact Nat.left_le_or
theorem cb_all {J : Nat → Nat → Nat} {k u w : Nat} (hc : cbI J k u w) (h : clI J u w) (e : u = w) : ∀ l, Rch J k l → u.testBit l = true := by
  intro l ⟨n, hn⟩
  induction n generalizing l with
  | zero => obtain ⟨h1, h2⟩ := hn; subst h1; exact hc.2.2.2 h2
  | succ n ih =>
    obtain ⟨i, h1, h2, h3⟩ := hn
    exact h i (by rw [← e]; exact ih i h1) l h2 h3
/-- the i-th errand of the o-th order -/
def ioJ (c o i : Nat) : Nat := o / c ^ (c - 1 - i) % c
def flD (g f : Nat → Nat) (c k : Nat) : Nat → Nat := fun j => if k ≤ j ∧ j < c then f j else g j
theorem flD_s {g f : Nat → Nat} {c t : Nat} (h : t < c) : upN (flD g f c (t + 1)) t (f t) = flD g f c t := by
  funext j
  unfold upN flD
  by_cases e : j = t
  · subst e; rw [if_pos rfl, if_pos ⟨Nat.le_refl _, h⟩]
  · rw [if_neg e]
    by_cases q : t + 1 ≤ j ∧ j < c
    · rw [if_pos q, if_pos ⟨by omega, q.2⟩]
    · rw [if_neg q, if_neg (by omega)]
theorem flD_0 {g f : Nat → Nat} {c : Nat} : flD g f c c = g := by
  funext j
  unfold flD
  rw [if_neg (by omega)]
def dmJ (f : Nat → Nat) (c : Nat) : Nat → Nat
  | 0 => 0
  | n + 1 => dmJ f c n ||| 2 ^ f (c - 1 - n)
theorem dm_mk {f : Nat → Nat} {c : Nat} (h : c ≤ 4) : dmJ f c c = mk f c := by
  rcases (show c = 0 ∨ c = 1 ∨ c = 2 ∨ c = 3 ∨ c = 4 by omega) with rfl | rfl | rfl | rfl | rfl
  · rfl
  · rfl
  · show (0 ||| 2 ^ f 1) ||| 2 ^ f 0 = (0 ||| 2 ^ f 0) ||| 2 ^ f 1
    rw [Nat.zero_or, Nat.zero_or, Nat.or_comm]
  · show ((0 ||| 2 ^ f 2) ||| 2 ^ f 1) ||| 2 ^ f 0 = ((0 ||| 2 ^ f 0) ||| 2 ^ f 1) ||| 2 ^ f 2
    rw [Nat.zero_or, Nat.zero_or]
    ac_rfl
  · show (((0 ||| 2 ^ f 3) ||| 2 ^ f 2) ||| 2 ^ f 1) ||| 2 ^ f 0 = (((0 ||| 2 ^ f 0) ||| 2 ^ f 1) ||| 2 ^ f 2) ||| 2 ^ f 3
    rw [Nat.zero_or, Nat.zero_or]
    ac_rfl
def oJ (c o : Nat) : Bool := decide (mk (ioJ c o) c = 2 ^ c - 1)
theorem ioJ_lt {c o i : Nat} (h : 0 < c) : ioJ c o i < c := Nat.mod_lt _ h
theorem cm1 {c : Nat} (h : c < 2 ^ 29) : nI c - nI 1 = rN (c + 8) := by
  apply Int32.toInt_inj.mp
  rw [pk_sub_toInt (by omega) (by decide), rN_toInt (by omega)]
  omega
theorem cc4 : ∀ c, c ≤ 4 → ∀ i, i ≤ 4 → c ^ i ≤ 256 := by decide
theorem fm_p {a b : Nat} (h : b ≤ a + 48) : nI a - nI b + nI 48 = nI (a + 48 - b) := by
  obtain ⟨d, hd⟩ : ∃ d, a + 48 = b + d := ⟨a + 48 - b, by omega⟩
  have e : a + 48 - b = d := by omega
  rw [e]
  have q : nI a + nI 48 = nI b + nI d := by rw [nI_add, nI_add, hd]
  rw [Int32.sub_eq_add_neg, Int32.add_assoc, Int32.add_comm (-nI b), ← Int32.add_assoc, q, Int32.add_comm (nI b), Int32.add_assoc, Int32.add_right_neg, Int32.add_zero]
theorem bt_miss {f : Nat → Nat} {lo hi c : Nat} (h : c ≤ 95) (h2 : fm hi lo < fm (f c) lo) : btC f lo hi c = btC f lo hi (c + 1) := sr_miss (P := fun t => btw (f t) lo hi) (by omega) (df (by omega))
theorem bt_hit {f : Nat → Nat} {lo hi c : Nat} (h : c ≤ 95) (h2 : fm (f c) lo ≤ fm hi lo) : btC f lo hi c = c + 9 := sr_hit (P := fun t => btw (f t) lo hi) (by omega) (dt h2)
theorem bt_end {f : Nat → Nat} {lo hi c : Nat} (h : 95 < c) : btC f lo hi c = 0 := sr_end (by omega)
def enJ (J : Nat → Nat → Nat) (r : Nat → Nat) (h : Nat) : Nat := enK (shM J) (J 3 0) (fun k => J 18 (4 * k)) (fun k => J 18 (4 * k + 1)) (fun k => J 18 (4 * k + 2)) (fun k => J 18 (4 * k + 3)) r (J 19 0) 0 h (J 16 0)
def EKJ (J : Nat → Nat → Nat) : Prop := J 19 0 ≤ 4 ∧ ∀ k, k < J 19 0 → J 18 (4 * k) < J 2 0 ∧ J 18 (4 * k + 1) < 48 ∧ J 18 (4 * k + 2) < 48 ∧ J 18 (4 * k + 3) ≤ 9
theorem enK_congr {f : Nat → Nat → Nat} {w : Nat} {hs fr to st r r2 : Nat → Nat} : ∀ k i q t, (∀ j, i ≤ j → j < i + k → r j = r2 j) → enK f w hs fr to st r k i q t = enK f w hs fr to st r2 k i q t := by
  intro k
  induction k with
  | zero => intro i q t _; rfl
  | succ k ih =>
    intro i q t h
    have e : ∀ q2 t2, enK f w hs fr to st r k (i + 1) q2 t2 = enK f w hs fr to st r2 k (i + 1) q2 t2 := fun q2 t2 => ih _ _ _ (fun j a b => h j (by omega) (by omega))
    rw [enK, enK, h i (Nat.le_refl _) (by omega), e]
def soJ (J : Nat → Nat → Nat) (h o : Nat) : Nat := if oJ (J 19 0) o = true then enJ J (ioJ (J 19 0) o) h else 0
theorem soJ_t {J : Nat → Nat → Nat} {h o : Nat} (q : oJ (J 19 0) o = true) : soJ J h o = enJ J (ioJ (J 19 0) o) h := if_pos q
theorem soJ_f {J : Nat → Nat → Nat} {h o : Nat} (q : oJ (J 19 0) o = false) : soJ J h o = 0 := if_neg (by rw [q]; decide)
def ordA (g : Nat → Nat) (c n : Nat) : Nat → Nat := if n = 0 then g else flD g (ioJ c (n - 1)) c 0
def bstA (g : Nat → Nat) (c : Nat) (S : Nat → Nat) (n : Nat) : Nat → Nat := if (pb S n).1 = 0 then g else flD g (ioJ c ((pb S n).1 - 9)) c 0
theorem flD_flD (g f f2 : Nat → Nat) (c : Nat) : flD (flD g f c 0) f2 c 0 = flD g f2 c 0 := by
  funext j
  unfold flD
  by_cases q : 0 ≤ j ∧ j < c
  · rw [if_pos q, if_pos q]
  · rw [if_neg q, if_neg q, if_neg q]
theorem ordA_s (g : Nat → Nat) (c n : Nat) : flD (ordA g c n) (ioJ c n) c 0 = ordA g c (n + 1) := by
  unfold ordA
  rw [if_neg (Nat.succ_ne_zero n)]
  split
  · rfl
  · exact flD_flD _ _ _ _
theorem ordA_at {g : Nat → Nat} {c n i : Nat} (h : i < c) : ordA g c (n + 1) i = ioJ c n i := by
  unfold ordA flD
  rw [if_neg (Nat.succ_ne_zero n), if_pos ⟨Nat.zero_le _, h⟩]
  rfl
theorem bstA_s {g S : Nat → Nat} {c n : Nat} (h : pb S (n + 1) = pb S n) : bstA g c S (n + 1) = bstA g c S n := by unfold bstA; rw [h]
theorem bstA_u {g g2 S : Nat → Nat} {c n : Nat} (h : pb S (n + 1) = (n + 9, S n)) : flF (bstA g c S n) (ordA g2 c (n + 1)) c = bstA g c S (n + 1) := by
  have hb : bstA g c S (n + 1) = flD g (ioJ c n) c 0 := by
    unfold bstA
    rw [h]
    show (if n + 9 = 0 then g else flD g (ioJ c (n + 9 - 9)) c 0) = _
    rw [if_neg (by omega), Nat.add_sub_cancel]
  rw [hb]
  funext j
  unfold flF flD
  by_cases q : j < c
  · rw [if_pos q, ordA_at q, if_pos ⟨Nat.zero_le _, q⟩]
  · rw [if_neg q, if_neg (show ¬ (0 ≤ j ∧ j < c) by omega)]
    unfold bstA
    split
    · rfl
    · unfold flD
      exact if_neg (by omega)
theorem bstA_at {g S : Nat → Nat} {c n i : Nat} (h : i < c) (h2 : ¬ (pb S n).1 = 0) : bstA g c S n i = ioJ c ((pb S n).1 - 9) i := by
  unfold bstA flD
  rw [if_neg h2, if_pos ⟨Nat.zero_le _, h⟩]
theorem upA3 (I : Nat → Nat → Nat) (x y z : Nat → Nat) : upA (upA (upA I 20 x) 21 z) 20 y = upA (upA I 20 y) 21 z := by
  funext q
  unfold upA
  by_cases h : q = 20
  · subst h; rw [if_pos rfl, if_neg (by decide), if_pos rfl]
  · rw [if_neg h, if_neg h, if_neg h]
theorem pb_z {S : Nat → Nat} {n : Nat} : (pb S n).1 = 0 ↔ (pb S n).2 = 0 := by
  refine ⟨fun h => ?_, fun h => ?_⟩
  · induction n with
    | zero => rfl
    | succ n ih =>
      rw [pb] at h ⊢
      split at h
      · cases h
      · rename_i z; rw [if_neg z]; exact ih h
  · by_cases q : (pb S n).1 = 0
    · exact q
    · have := pb_ge n q
      omega
theorem shM_A (I : Nat → Nat → Nat) (g : Nat → Nat) {k : Nat} (hk : 17 ≤ k) : shM (upA I k g) = shM I := by
  have e : ∀ q, q < 17 → upA I k g q = I q := fun q hq => if_neg (by omega)
  have hl : ∀ h t i, lsM (upA I k g) h t i = lsM I h t i := fun h t => lsM_of (e 8 (by decide)) (e 9 (by decide)) h t
  funext h t
  unfold shM
  rw [hl, e 4 (by decide), e 5 (by decide), e 6 (by decide), e 16 (by decide), e 7 (by decide)]
theorem KM_A {I : Nat → Nat → Nat} (g : Nat → Nat) {k : Nat} (hk : 17 ≤ k) (h : KM I) : KM (upA I k g) := by
  have e : ∀ q, q < 17 → upA I k g q = I q := fun q hq => if_neg (by omega)
  exact KM_of h (fun q _ hq => e q hq) (by rw [e 16 (by decide)]; exact h.2.2.1) (fun q hq => by rw [e 16 (by decide)]; exact h.2.2.2.2 q hq)
theorem enJ_w {I : Nat → Nat → Nat} {x z : Nat → Nat} {h o : Nat} (e : ∀ i, i < I 19 0 → x i = ioJ (I 19 0) o i) : enJ (upA (upA I 20 x) 21 z) x h = enJ I (ioJ (I 19 0) o) h := by
  have q : shM (upA (upA I 20 x) 21 z) = shM I := (shM_A _ _ (by decide)).trans (shM_A _ _ (by decide))
  unfold enJ
  rw [q]
  show enK (shM I) (I 3 0) (fun k => I 18 (4 * k)) (fun k => I 18 (4 * k + 1)) (fun k => I 18 (4 * k + 2)) (fun k => I 18 (4 * k + 3)) x (I 19 0) 0 h (I 16 0) = _
  exact enK_congr _ _ _ _ (fun j _ hj => e j (by omega))
def seJ (J : Nat → Nat → Nat) (h : Nat) : Nat := (pb (soJ J h) (J 19 0 ^ J 19 0)).2
def sxJ (J : Nat → Nat → Nat) (h i : Nat) : Nat := ioJ (J 19 0) ((pb (soJ J h) (J 19 0 ^ J 19 0)).1 - 9) i
def soW (J : Nat → Nat → Nat) (h n : Nat) : Nat → Nat → Nat := upA (upA J 20 (ordA (J 20) (J 19 0) n)) 21 (bstA (J 21) (J 19 0) (soJ J h) n)
def sooJ (J : Nat → Nat → Nat) (p0 p1 : Int32) : Nat → Nat → Nat := cond (inB p0 (J 2 0)) (if p1 < -1 then J else soW J (tn p0) (J 19 0 ^ J 19 0)) J
theorem soJ_le {J : Nat → Nat → Nat} {h o : Nat} (hn : J 16 0 ≤ 95) : soJ J h o ≤ 104 := by
  unfold soJ
  split
  · exact enK_le _ _ _ _ hn
  · omega
