/-! PURE 8: what each call makes of the reference's ints -/
def shfJ (g : Nat → Nat) (k : Nat) : Nat → Nat := fun j => if 8 ≤ j ∧ j < 8 + k then g (j + 1) else if 18 ≤ j ∧ j < 18 + k then g (j + 1) else g j
theorem shfJ_0 (g : Nat → Nat) : shfJ g 0 = g := by
  funext j
  unfold shfJ
  rw [if_neg (by omega), if_neg (by omega)]
theorem shfJ_s (g : Nat → Nat) {k : Nat} (hk : k < 9) : upN (upN (shfJ g k) (8 + k) (shfJ g k (8 + k + 1))) (18 + k) (shfJ g k (18 + k + 1)) = shfJ g (k + 1) := by
  have e1 : shfJ g k (8 + k + 1) = g (8 + k + 1) := by unfold shfJ; rw [if_neg (by omega), if_neg (by omega)]
  have e2 : shfJ g k (18 + k + 1) = g (18 + k + 1) := by unfold shfJ; rw [if_neg (by omega), if_neg (by omega)]
  rw [e1, e2]
  funext j
  unfold upN shfJ
  by_cases h1 : j = 18 + k
  · subst h1
    rw [if_pos rfl, if_neg (by omega), if_pos (by omega)]
  · rw [if_neg h1]
    by_cases h2 : j = 8 + k
    · subst h2
      rw [if_pos rfl, if_pos (by omega)]
    · rw [if_neg h2]
      by_cases h3 : 8 ≤ j ∧ j < 8 + k
      · rw [if_pos h3, if_pos (by omega)]
      · rw [if_neg h3, if_neg (show ¬ (8 ≤ j ∧ j < 8 + (k + 1)) by omega)]
        by_cases h4 : 18 ≤ j ∧ j < 18 + k
        · rw [if_pos h4, if_pos (by omega)]
        · rw [if_neg h4, if_neg (by omega)]
theorem shfJ_lo (g : Nat → Nat) (k : Nat) {j : Nat} (h : j < 8) : shfJ g k j = g j := by
  unfold shfJ
  rw [if_neg (by omega), if_neg (by omega)]
def adX (I : Nat → Nat → Nat) (q h b v : Nat) : Nat → Nat → Nat := up2 (up2 (up2 (up2 I 16 (8 + q) h) 16 (18 + q) b) 16 7 (q + 1)) 16 (1 + h) ((v + b) % 48)
def adJ (I : Nat → Nat → Nat) (h b : Nat) : Nat → Nat → Nat := if I 16 7 = 10 then adX (up2 (upA I 16 (shfJ (I 16) 9)) 16 7 9) 9 h b (I 16 (1 + h)) else adX I (I 16 7) h b (I 16 (1 + h))
def turJ (I : Nat → Nat → Nat) (p0 p1 : Int32) : Nat → Nat → Nat := cond (inB p0 (I 2 0)) (cond (wi p1 (nI 1) (nI 47)) (adJ I (tn p0) (tn p1)) I) I
theorem adX_off (I : Nat → Nat → Nat) (q h b v : Nat) {k : Nat} (hk : k ≠ 16) : adX I q h b v k = I k := by
  unfold adX
  rw [up2_off _ _ _ hk, up2_off _ _ _ hk, up2_off _ _ _ hk, up2_off _ _ _ hk]
theorem adJ_off (I : Nat → Nat → Nat) (h b : Nat) {k : Nat} (hk : k ≠ 16) : adJ I h b k = I k := by
  unfold adJ
  split
  · rw [adX_off _ _ _ _ _ hk, up2_off _ _ _ hk, upA_off _ _ hk]
  · rw [adX_off _ _ _ _ _ hk]
theorem adX_lo (I : Nat → Nat → Nat) (q h b v : Nat) {j : Nat} (hj : j < 7) : adX I q h b v 16 j = if j = 1 + h then (v + b) % 48 else I 16 j := by
  unfold adX
  by_cases e : j = 1 + h
  · rw [if_pos e, ← e, up2_at]
  · rw [if_neg e, up2_ne _ _ e, up2_ne _ _ (by omega), up2_ne _ _ (by omega), up2_ne _ _ (by omega)]
theorem adJ_lo (I : Nat → Nat → Nat) (h b : Nat) {j : Nat} (hj : j < 7) : adJ I h b 16 j = if j = 1 + h then (I 16 (1 + h) + b) % 48 else I 16 j := by
  unfold adJ
  split
  · rw [adX_lo _ _ _ _ _ hj]
    have e : up2 (upA I 16 (shfJ (I 16) 9)) 16 7 9 16 j = I 16 j := by
      rw [up2_ne _ _ (by omega)]
      show shfJ (I 16) 9 j = _
      exact shfJ_lo _ _ (by omega)
    rw [e]
  · rw [adX_lo _ _ _ _ _ hj]
theorem KM_of {I I2 : Nat → Nat → Nat} (hI : KM I) (hk : ∀ k, k ≠ 16 → k < 17 → I2 k = I k) (h0 : I2 16 0 ≤ 95) (h1 : ∀ h, h < 6 → I2 16 (1 + h) < 48) : KM I2 := by
  refine ⟨by rw [hk 2 (by decide) (by decide)]; exact hI.1, by rw [hk 3 (by decide) (by decide)]; exact hI.2.1, h0, fun h hh => ?_, h1⟩
  rw [hk 2 (by decide) (by decide)] at hh
  rw [hk 4 (by decide) (by decide), hk 5 (by decide) (by decide), hk 6 (by decide) (by decide), hk 7 (by decide) (by decide), hk 8 (by decide) (by decide), hk 9 (by decide) (by decide)]
  exact hI.2.2.2.1 h hh
theorem KM_adJ {I : Nat → Nat → Nat} {h b : Nat} (hI : KM I) : KM (adJ I h b) := by
  refine KM_of hI (fun k hk _ => adJ_off _ _ _ hk) ?_ (fun q hq => ?_)
  · rw [adJ_lo _ _ _ (by decide), if_neg (by omega)]; exact hI.2.2.1
  · rw [adJ_lo _ _ _ (by omega)]
    split
    · exact Nat.mod_lt _ (by decide)
    · exact hI.2.2.2.2 q hq
theorem lsM_of {I I2 : Nat → Nat → Nat} (h8 : I2 8 = I 8) (h9 : I2 9 = I 9) (h t : Nat) : ∀ i, lsM I2 h t i = lsM I h t i := by
  intro i
  induction i with
  | zero => rfl
  | succ i ih => rw [lsM, lsM, ih, h8, h9]
theorem shM_adJ {I : Nat → Nat → Nat} {h b t : Nat} (hh : h < 6) : shM (adJ I h b) h t = (shM I h t + b) % 48 := by
  unfold shM
  rw [lsM_of (adJ_off I h b (k := 8) (by decide)) (adJ_off I h b (k := 9) (by decide)), adJ_off I h b (k := 4) (by decide), adJ_off I h b (k := 5) (by decide), adJ_off I h b (k := 6) (by decide), adJ_off I h b (k := 7) (by decide), adJ_lo I h b (j := 1 + h) (by omega), if_pos rfl]
  generalize t * I 5 h / I 6 h = x
  omega
def tkJ (I : Nat → Nat → Nat) : Nat → Nat → Nat := up2 (up2 I 16 7 (I 16 7 - 1)) 16 (1 + I 16 (8 + (I 16 7 - 1))) ((I 16 (1 + I 16 (8 + (I 16 7 - 1))) + 48 - I 16 (18 + (I 16 7 - 1))) % 48)
def undJ (I : Nat → Nat → Nat) : Nat → Nat → Nat := if I 16 7 = 0 then I else tkJ I
def MKJ (I : Nat → Nat → Nat) : Prop := I 16 7 ≤ 10 ∧ ∀ k, k < I 16 7 → I 16 (8 + k) < 6 ∧ I 16 (18 + k) < 48
def erJ (I : Nat → Nat → Nat) (h f t q : Nat) : Nat → Nat → Nat := up2 (up2 (up2 (up2 (up2 I 18 (4 * I 19 0) h) 18 (4 * I 19 0 + 1) f) 18 (4 * I 19 0 + 2) t) 18 (4 * I 19 0 + 3) q) 19 0 (I 19 0 + 1)
def errJ (I : Nat → Nat → Nat) (p0 p1 p2 p3 : Int32) : Nat → Nat → Nat := cond (okE (I 2 0) p0 p1 p2 p3) (if I 19 0 < 4 then erJ I (tn p0) (tn p1) (tn p2) (tn p3) else I) I
def swJ (I : Nat → Nat → Nat) (t n : Nat) : Nat → Nat → Nat := up2 (up2 (up2 I 22 (I 24 0) t) 23 (I 24 0) n) 24 0 (I 24 0 + 1)
def sawJ (I : Nat → Nat → Nat) (p0 p1 : Int32) : Nat → Nat → Nat := cond (inB p0 96) (cond (inB p1 48) (if I 24 0 < 8 then swJ I (tn p0) (tn p1) else I) I) I
def owJ (I : Nat → Nat → Nat) (x y n : Nat) : Nat → Nat → Nat := up2 (up2 (up2 (up2 I 25 (3 * I 26 0) x) 25 (3 * I 26 0 + 1) y) 25 (3 * I 26 0 + 2) n) 26 0 (I 26 0 + 1)
def oweJ (I : Nat → Nat → Nat) (p0 p1 p2 : Int32) : Nat → Nat → Nat := cond (hb2 (I 2 0) p0 p1) (cond (inB p2 48) (if I 26 0 < 8 then owJ I (tn p0) (tn p1) (tn p2) else I) I) I
def keepJ (I : Nat → Nat → Nat) (p0 : Int32) : Nat → Nat → Nat := cond (wi p0 (nI 0) (nI 1)) (up2 (upA I 16 (cpN (I 16) (I 16) 0 (28 * (1 + tn p0)) 28)) 17 (tn p0) 1) I
def backJ (I : Nat → Nat → Nat) (p0 : Int32) : Nat → Nat → Nat := cond (wi p0 (nI 0) (nI 1)) (if I 17 (tn p0) = 0 then I else upA I 16 (cpN (I 16) (I 16) (28 * (1 + tn p0)) 0 28)) I
theorem cpN_0 (g : Nat → Nat) (f t : Nat) : cpN g g f t 0 = g := by
  funext j
  unfold cpN
  rw [if_neg (by omega)]
theorem cpN_s (g : Nat → Nat) {f t k : Nat} (h : f + 28 ≤ t ∨ t + 28 ≤ f) (hk : k < 28) : upN (cpN g g f t k) (t + k) (cpN g g f t k (f + k)) = cpN g g f t (k + 1) := by
  have e : cpN g g f t k (f + k) = g (f + k) := by unfold cpN; rw [if_neg (by omega)]
  rw [e]
  funext j
  unfold upN cpN
  by_cases h1 : j = t + k
  · subst h1
    rw [if_pos rfl, if_pos (by omega), show f + (t + k - t) = f + k by omega]
  · rw [if_neg h1]
    by_cases h2 : t ≤ j ∧ j < t + k
    · rw [if_pos h2, if_pos (by omega)]
    · rw [if_neg h2, if_neg (by omega)]
theorem tr11 (tr : Int64) : tr + 11 = tr + 10 + 1 := by rw [Int64.add_assoc]; rfl
theorem tr101 (tr : Int64) : tr + 101 = tr + 100 + 1 := by rw [Int64.add_assoc]; rfl
theorem tr1011 (tr : Int64) : tr + 1011 = tr + 1000 + 10 + 1 := by rw [Int64.add_assoc, Int64.add_assoc]; rfl
theorem tr10101 (tr : Int64) : tr + 10101 = tr + 10000 + 100 + 1 := by rw [Int64.add_assoc, Int64.add_assoc]; rfl
theorem tr100001 (tr : Int64) : tr + 100001 = tr + 100000 + 1 := by rw [Int64.add_assoc]; rfl
theorem wi_ne {x : Int32} {m j : Nat} (hm : m < 2 ^ 30) (h : wi x (nI 0) (nI m) = false) (hj : j ≤ m) : ¬ x = nI j := by
  intro e
  subst e
  rw [wi_nat (by omega) (by decide) (by omega), dt (by omega)] at h
  cases h
theorem wi5 {x : Int32} (h : wi x (nI 0) (nI 5) = true) (h0 : ¬ x = nI 0) (h1 : ¬ x = nI 1) (h2 : ¬ x = nI 2) (h3 : ¬ x = nI 3) (h4 : ¬ x = nI 4) : x = nI 5 := by
  obtain ⟨j, -, hj, rfl⟩ := wi_of (by decide) (by decide) h
  rcases (show j = 0 ∨ j = 1 ∨ j = 2 ∨ j = 3 ∨ j = 4 ∨ j = 5 by omega) with rfl | rfl | rfl | rfl | rfl | rfl
  · exact absurd rfl h0
  · exact absurd rfl h1
  · exact absurd rfl h2
  · exact absurd rfl h3
  · exact absurd rfl h4
  · rfl
theorem r_mark_bad {n now : Nat} {f : Nat → Nat → Nat} {p q l : Nat → Nat} {p0 p1 : Int32} (h : wi p0 (nI 0) (nI 5) = false) : r_mark n now f p q l p0 p1 = -1000000 := by
  unfold r_mark
  rw [if_neg (wi_ne (by decide) h (by decide)), if_neg (wi_ne (by decide) h (by decide)), if_neg (wi_ne (by decide) h (by decide)), if_neg (wi_ne (by decide) h (by decide)), if_neg (wi_ne (by decide) h (by decide)), if_neg (wi_ne (by decide) h (by decide))]
  cases inB p1 n <;> rfl
theorem trM_bad {n : Nat} {tr : Int64} {p0 p1 : Int32} (h : wi p0 (nI 0) (nI 5) = false) : trM n tr p0 p1 = tr := by
  unfold trM
  rw [if_neg (wi_ne (by decide) h (by decide)), if_neg (wi_ne (by decide) h (by decide)), if_neg (wi_ne (by decide) h (by decide)), if_neg (wi_ne (by decide) h (by decide)), if_neg (wi_ne (by decide) h (by decide)), if_neg (wi_ne (by decide) h (by decide))]
  cases inB p1 n <;> rfl
theorem r_aged_b0 {n : Nat} {l : Nat → Nat → Nat} {p0 p1 p2 : Int32} (h : ¬ p0 = -1) (h2 : inB p0 n = false) : r_aged n l p0 p1 p2 = -1 := by
  unfold r_aged
  rw [if_neg h, h2]
  cases inB p1 96 <;> cases inB p2 96 <;> simp only [cond_true, cond_false] <;> split <;> rfl
theorem r_aged_b1 {n : Nat} {l : Nat → Nat → Nat} {p0 p1 p2 : Int32} (h2 : inB p1 96 = false) : r_aged n l p0 p1 p2 = -1 := by
  unfold r_aged
  rw [h2]
  rfl
theorem r_aged_b2 {n x : Nat} {l : Nat → Nat → Nat} {p0 p2 : Int32} (hx : x < 96) (h2 : wi p2 (nI x) (nI 95) = false) : r_aged n l p0 (nI x) p2 = -1 := by
  unfold r_aged
  rw [inB_nI hx (by decide), tn_nI (by omega)]
  simp only [cond_true]
  rcases e : inB p2 96 with _ | _
  · rfl
  · obtain ⟨y, hy, rfl⟩ := inB_t (by decide) e
    rw [tn_nI (by omega)]
    rw [wi_nat (by omega) (by omega) (by decide)] at h2
    have := of_decide_eq_false h2
    simp only [cond_true]
    rw [if_neg (by omega)]
theorem sp_min {g : Nat → Nat} {h le : Nat} (hle : le = if h = 0 then 0 else eaU g h + 9) (hg : 9 ≤ g h ∧ g h ≤ 104) : (le = 0 ∨ g h < le → g h = eaU g (h + 1) + 9) ∧ (0 < le → le ≤ g h → le = eaU g (h + 1) + 9) := by
  have l95 := ea_95 g h
  have e : eaU g (h + 1) = min (eaU g h) (g h - 9) := rfl
  rw [e]
  by_cases z : h = 0
  · subst z
    rw [if_pos rfl] at hle
    have e0 : eaU g 0 = 95 := rfl
    rw [e0]
    omega
  · rw [if_neg z] at hle
    omega
theorem sp_max {g : Nat → Nat} {h mo : Nat} (hmo : mo = if h = 0 then 0 else laU g h + 9) (hg : 9 ≤ g h ∧ g h ≤ 104) : (mo < g h → g h = laU g (h + 1) + 9) ∧ (g h ≤ mo → mo = laU g (h + 1) + 9) := by
  have e : laU g (h + 1) = max (laU g h) (g h - 9) := rfl
  rw [e]
  by_cases z : h = 0
  · subst z
    rw [if_pos rfl] at hmo
    have e0 : laU g 0 = 0 := rfl
    rw [e0]
    omega
  · rw [if_neg z] at hmo
    omega
theorem pk_subQ {a b : Nat} (h : b ≤ a) : rN a - rN b = nI (a - b) := by
  obtain ⟨d, rfl⟩ : ∃ d, a = b + d := ⟨a - b, by omega⟩
  rw [show b + d - b = d by omega]
  show nI (b + d) - 9 - (nI b - 9) = nI d
  rw [← nI_add]
  have h : ∀ x y : Int32, x + y - 9 - (x - 9) = y := by
    intro x y
    have e0 : -(x - 9) = -x + 9 := by rw [Int32.sub_eq_add_neg, Int32.neg_add, Int32.sub_eq_add_neg, show -(-9 : Int32) = 9 by decide]
    rw [Int32.sub_eq_add_neg (x + y - 9), e0, Int32.sub_eq_add_neg]
    have e1 : x + y + -9 + (-x + 9) = y + (x + -x) + (-9 + 9) := by ac_rfl
    rw [e1, Int32.add_right_neg, show (-9 : Int32) + 9 = 0 by decide, Int32.add_zero, Int32.add_zero]
  exact h _ _
def bN1 (b : Bool) : Nat := if b = true then 1 else 0
theorem bN1_t {b : Bool} (h : b = true) : bN1 b = 1 := if_pos h
theorem bN1_f {b : Bool} (h : b = false) : bN1 b = 0 := if_neg (by rw [h]; decide)
theorem bN1_le (b : Bool) : bN1 b ≤ 1 := by cases b <;> decide
def bitB (s h : Nat) : Bool := decide (s / 2 ^ h % 2 = 1)
/-- a house of a set whose number no earlier house of it shows -/
def fsB (f : Nat → Nat) (s h o : Nat) : Bool := bitB s h && al (fun o => !(bitB s o && decide (f o = f h))) o
def ulM (f : Nat → Nat) (s : Nat) : Nat → Nat
  | 0 => 0
  | h + 1 => ulM f s h + bN1 (fsB f s h h)
theorem ulM_le (f : Nat → Nat) (s : Nat) : ∀ h, ulM f s h ≤ h := by
  intro h
  induction h with
  | zero => exact Nat.le_refl _
  | succ h ih => rw [ulM]; have := bN1_le (fsB f s h h); omega
theorem fsB_s (f : Nat → Nat) (s h o : Nat) : fsB f s h (o + 1) = (fsB f s h o && !(bitB s o && decide (f o = f h))) := by
  unfold fsB
  rw [al, Bool.and_assoc]
/-- one bit more -/
theorem pc_or {m v : Nat} (hv : v < 64) : pc (m ||| 2 ^ v) = pc m + (if m.testBit v = true then 0 else 1) := by
  unfold pc
  have key : ∀ n, cnt (fun u => (m ||| 2 ^ v).testBit u) n = cnt (fun u => m.testBit u) n + (if m.testBit v = true then 0 else if v < n then 1 else 0) := by
    intro n
    induction n with
    | zero =>
      show 0 = 0 + _
      split <;> simp
    | succ n ih =>
      have hb : (m ||| 2 ^ v).testBit n = (m.testBit n || decide (v = n)) := by rw [Nat.testBit_or, Nat.testBit_two_pow]
      have e1 : cnt (fun u => (m ||| 2 ^ v).testBit u) (n + 1) = cnt (fun u => (m ||| 2 ^ v).testBit u) n + (if (m ||| 2 ^ v).testBit n = true then 1 else 0) := rfl
      have e2 : cnt (fun u => m.testBit u) (n + 1) = cnt (fun u => m.testBit u) n + (if m.testBit n = true then 1 else 0) := rfl
      rw [e1, e2, ih, hb]
      by_cases q : v = n
      · subst q
        rw [dt rfl, Bool.or_true, if_pos rfl]
        by_cases z : m.testBit v = true
        · rw [if_pos z, if_pos z, if_pos z]
        · rw [if_neg z, if_neg z, if_neg z, if_neg (Nat.lt_irrefl v), if_pos (Nat.lt_succ_self v)]
      · rw [df q, Bool.or_false]
        by_cases z : m.testBit v = true
        · rw [if_pos z, if_pos z]; omega
        · rw [if_neg z, if_neg z]
          by_cases z2 : v < n
          · have w : (if v < n + 1 then 1 else 0) = (1 : Nat) := if_pos (by omega)
            rw [if_pos z2, w]; omega
          · have w : (if v < n + 1 then 1 else 0) = (0 : Nat) := if_neg (by omega)
            rw [if_neg z2, w]; omega
  rw [key 64]
  by_cases z : m.testBit v = true
  · rw [if_pos z, if_pos z]
  · rw [if_neg z, if_neg z, if_pos hv]
theorem mh_bit {f : Nat → Nat} {s : Nat} (v : Nat) : ∀ h, (mh f s h).testBit v = !(al (fun o => !(bitB s o && decide (f o = v))) h) := by
  intro h
  induction h with
  | zero => rw [show mh f s 0 = 0 from rfl, Nat.zero_testBit]; rfl
  | succ h ih =>
    rw [mh, al]
    by_cases q : s / 2 ^ h % 2 = 1
    · rw [if_pos q, Nat.testBit_or, ih, Nat.testBit_two_pow, show bitB s h = true from dt q]
      cases al (fun o => !(bitB s o && decide (f o = v))) h <;> cases decide (f h = v) <;> rfl
    · rw [if_neg q, ih, show bitB s h = false from df q]
      cases al (fun o => !(bitB s o && decide (f o = v))) h <;> rfl
theorem ul_eq {f : Nat → Nat} {s : Nat} : ∀ h, (∀ u, u < h → f u < 48) → ulC f s h = ulM f s h := by
  intro h
  induction h with
  | zero =>
    intro _
    show pc 0 = 0
    exact cnt_none 64 (fun u _ => Nat.zero_testBit u)
  | succ h ih =>
    intro hf
    have ihh := ih (fun u hu => hf u (by omega))
    unfold ulC at ihh ⊢
    rw [mh, ulM, ← ihh]
    by_cases q : s / 2 ^ h % 2 = 1
    · rw [if_pos q, pc_or (by have := hf h (by omega); omega), mh_bit]
      congr 1
      unfold fsB
      rw [show bitB s h = true from dt q, Bool.true_and]
      cases al (fun o => !(bitB s o && decide (f o = f h))) h <;> rfl
    · rw [if_neg q]
      unfold fsB
      rw [show bitB s h = false from df q, Bool.false_and]
      rfl
theorem pc2 : ∀ s, s < 64 → (s &&& (s - 1) = 0 ↔ pc s < 2) := by decide +kernel
