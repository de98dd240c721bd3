/-! PURE 9: spread, treaty, watch, debts of the reference -/
theorem pb_t {S : Nat → Nat} {v : Nat} (h : 0 < S v) (h2 : (pb S v).1 = 0 ∨ S v < (pb S v).2) : pb S (v + 1) = (v + 9, S v) := by rw [pb]; exact if_pos ⟨h, h2⟩
theorem pb_f0 {S : Nat → Nat} {v : Nat} (h : S v = 0) : pb S (v + 1) = pb S v := by rw [pb]; exact if_neg (fun z => by omega)
theorem pb_f {S : Nat → Nat} {v : Nat} (h : 0 < (pb S v).1) (h2 : (pb S v).2 ≤ S v) : pb S (v + 1) = pb S v := by rw [pb]; exact if_neg (fun z => by omega)
theorem pb_k {S : Nat → Nat} {v be le : Nat} (hb : be = (pb S v).1) (hl : le = (pb S v).2) :
    (S v = 0 → be = (pb S (v + 1)).1 ∧ le = (pb S (v + 1)).2) ∧ (0 < be → le ≤ S v → be = (pb S (v + 1)).1 ∧ le = (pb S (v + 1)).2) ∧ (0 < S v → be = 0 ∨ S v < le → v + 9 = (pb S (v + 1)).1 ∧ S v = (pb S (v + 1)).2) := by
  subst hb
  subst hl
  refine ⟨fun h => by rw [pb_f0 h]; exact ⟨rfl, rfl⟩, fun h h2 => by rw [pb_f h h2]; exact ⟨rfl, rfl⟩, fun h h2 => by rw [pb_t h h2]; exact ⟨rfl, rfl⟩⟩
theorem fm_iff {a b v : Nat} (ha : a < 48) (hb : b < 48) (hv : v < 48) : fm a b = v ↔ a = (b + v) % 48 := by
  unfold fm
  omega
theorem am_k {T : Nat → Nat} {v m k : Nat} (hm : m = if v = 0 then 8 else T (am T v) + 9) (hk : k = T v) : (m < k + 9 → v = am T (v + 1) ∧ k + 9 = T (am T (v + 1)) + 9) ∧ (k + 9 ≤ m → am T v = am T (v + 1) ∧ m = T (am T (v + 1)) + 9) := by
  subst hk
  by_cases z : v = 0
  · subst z
    rw [if_pos rfl] at hm
    rw [am_1]
    omega
  · rw [if_neg z] at hm
    refine ⟨fun h => ?_, fun h => ?_⟩
    · rw [am_t (show T (am T v) < T v by omega)]; exact ⟨rfl, rfl⟩
    · rw [am_f (show T v ≤ T (am T v) by omega)]; exact ⟨rfl, hm⟩
theorem bN1_B (c : Bool) : nI (bN1 c) = bB c := by cases c <;> rfl
theorem cb_0 {P : Nat → Bool} {k b : Nat} (hb : b = bN1 (al P k)) (h : b = 0) : 0 = bN1 (al P (k + 1)) := by
  rw [al]
  cases q : al P k
  · rfl
  · rw [q] at hb; rw [h] at hb; exact absurd hb (by decide)
theorem cb_1 {P : Nat → Bool} {k : Nat} (h : P k = false) : 0 = bN1 (al P (k + 1)) := by
  rw [al, h, Bool.and_false]
  rfl
theorem cb_2 {P : Nat → Bool} {k b : Nat} (hb : b = bN1 (al P k)) (h : 0 < b) (h2 : P k = true) : 1 = bN1 (al P (k + 1)) := by
  rw [al, h2, Bool.and_true]
  cases q : al P k
  · rw [q] at hb; rw [hb] at h; exact absurd h (by decide)
  · rfl
theorem fs_t {f : Nat → Nat} {s h : Nat} (q : s / 2 ^ h % 2 = 1) : 1 = bN1 (fsB f s h 0) := by unfold fsB; rw [show bitB s h = true from dt q]; rfl
theorem fs_f {f : Nat → Nat} {s h : Nat} (q : ¬ s / 2 ^ h % 2 = 1) : 0 = bN1 (fsB f s h 0) := by unfold fsB; rw [show bitB s h = false from df q]; rfl
theorem fs_0 {f : Nat → Nat} {s h o b : Nat} (hb : b = bN1 (fsB f s h o)) (q : b = 0) : 0 = bN1 (fsB f s h (o + 1)) := by
  rw [fsB_s]
  cases z : fsB f s h o
  · rfl
  · rw [z, q] at hb; exact absurd hb (by decide)
theorem fs_1 {f : Nat → Nat} {s h o b : Nat} (hb : b = bN1 (fsB f s h o)) (q : 0 < b) (h2 : ¬ (s / 2 ^ o % 2 = 1 ∧ f o = f h)) : 1 = bN1 (fsB f s h (o + 1)) := by
  rw [fsB_s]
  have e : (bitB s o && decide (f o = f h)) = false := by
    unfold bitB
    rw [← Bool.decide_and]
    exact df h2
  rw [e]
  cases z : fsB f s h o
  · rw [z] at hb; rw [hb] at q; exact absurd q (by decide)
  · rfl
theorem fs_2 {f : Nat → Nat} {s h o : Nat} (h1 : s / 2 ^ o % 2 = 1) (h2 : f o = f h) : 0 = bN1 (fsB f s h (o + 1)) := by
  rw [fsB_s, show bitB s o = true from dt h1, dt h2]
  cases fsB f s h o <;> rfl
theorem ul_or {f : Nat → Nat} {s : Nat} : ∀ n, (∀ o, o < n → bitB s o = false) ∨ 0 < ulM f s n := by
  intro n
  induction n with
  | zero => exact Or.inl (fun o h => absurd h (Nat.not_lt_zero _))
  | succ n ih =>
    rcases ih with h | h
    · cases q : bitB s n
      · refine Or.inl (fun o ho => ?_)
        by_cases e : o = n
        · rw [e]; exact q
        · exact h o (by omega)
      · refine Or.inr ?_
        rw [ulM]
        have e : fsB f s n n = true := by
          unfold fsB
          rw [q, (al_iff n).mpr (fun k hk => by rw [h k hk]; rfl)]
          rfl
        rw [e]
        exact Nat.lt_of_lt_of_le (show 0 < bN1 true by decide) (Nat.le_add_left _ _)
    · refine Or.inr ?_
      rw [ulM]
      omega
theorem bits0 {s n : Nat} (hs : s < 2 ^ n) (h : ∀ o, o < n → bitB s o = false) : s = 0 := by
  apply Nat.eq_of_testBit_eq
  intro i
  rw [Nat.zero_testBit]
  by_cases q : i < n
  · rw [Nat.testBit_eq_decide_div_mod_eq]; exact h i q
  · exact Nat.testBit_lt_two_pow (Nat.lt_of_lt_of_le hs (Nat.pow_le_pow_right (by decide) (by omega)))
theorem ul_pos {f : Nat → Nat} {s n : Nat} (hs : s < 2 ^ n) (h : ¬ pc s < 2) : 0 < ulM f s n := by
  rcases ul_or (f := f) (s := s) n with q | q
  · have e := bits0 hs q
    subst e
    exact absurd (show pc 0 < 2 by decide +kernel) h
  · exact q
theorem pc2I : ∀ s, s < 64 → (nI s &&& (nI s - nI 1) = 0 ↔ pc s < 2) := by decide +kernel
theorem mq_k {U : Nat → Nat} {t q m : Nat} (h0 : 0 < U 0) (hq : q = if t = 0 then 0 else (mq U t).1 + 9) (hm : m = (mq U t).2) : (m < U t → t + 9 = (mq U (t + 1)).1 + 9 ∧ U t = (mq U (t + 1)).2) ∧ (U t ≤ m → q = (mq U (t + 1)).1 + 9 ∧ m = (mq U (t + 1)).2) := by
  subst hm
  refine ⟨fun h => by rw [mq_t h]; exact ⟨rfl, rfl⟩, fun h => ?_⟩
  rw [mq_f h]
  refine ⟨?_, rfl⟩
  by_cases z : t = 0
  · subst z
    have e : (mq U 0).2 = 0 := rfl
    omega
  · rw [if_neg z] at hq; exact hq
theorem mq_2 {U : Nat → Nat} : ∀ t, 0 < (mq U t).2 → (mq U t).2 = U (mq U t).1 := by
  intro t
  induction t with
  | zero => intro h; exact absurd h (Nat.lt_irrefl _)
  | succ t ih =>
    intro h
    rw [mq] at h ⊢
    split
    · rfl
    · rename_i z
      rw [if_neg z] at h
      exact ih h
theorem mq_pos {U : Nat → Nat} (h0 : 0 < U 0) : ∀ t, 0 < (mq U (t + 1)).2 := by
  intro t
  induction t with
  | zero => rw [mq_t (show (mq U 0).2 < U 0 from h0)]; exact h0
  | succ t ih =>
    rw [mq]
    split
    · rename_i z; exact Nat.lt_of_le_of_lt (Nat.zero_le _) z
    · exact ih
theorem eld_k {G : Nat → Nat} {h be m : Nat} (hb : be = (eld G h).1) (hm : m = (eld G h).2 + 8) : (m < G h + 9 → h + 9 = (eld G (h + 1)).1 ∧ G h + 9 = (eld G (h + 1)).2 + 8) ∧ (G h + 9 ≤ m → be = (eld G (h + 1)).1 ∧ m = (eld G (h + 1)).2 + 8) := by
  subst hb
  subst hm
  refine ⟨fun q => by rw [eld_t (by omega)]; exact ⟨rfl, rfl⟩, fun q => by rw [eld_f (by omega)]; exact ⟨rfl, rfl⟩⟩
def WKJ (J : Nat → Nat → Nat) : Prop := J 24 0 ≤ 8 ∧ ∀ k, k < J 24 0 → J 22 k < 96 ∧ J 23 k < 48
def DKJ (J : Nat → Nat → Nat) : Prop := J 26 0 ≤ 8 ∧ ∀ k, k < J 26 0 → J 25 (3 * k) < J 2 0 ∧ J 25 (3 * k + 1) < J 2 0 ∧ J 25 (3 * k + 2) < 48
def quJ (J : Nat → Nat → Nat) (k : Nat) : Nat := fst (shM J (J 25 (3 * k + 1))) (J 25 (3 * k + 2)) 0
theorem quJ_le (J : Nat → Nat → Nat) (k : Nat) : quJ J k ≤ 104 := fst_le _ _ _
theorem wn_f {p : Int32} {c : Nat} (hc : c < 2 ^ 30) (h : wi p (-1) (nI c - nI 1) = false) : ¬ p = -1 ∧ inB p c = false := by
  have h := of_decide_eq_false h
  rw [Int32.le_iff_toInt_le, Int32.le_iff_toInt_le, pk_sub_toInt hc (by decide)] at h
  have e1 : (-1 : Int32).toInt = -1 := rfl
  refine ⟨fun z => ?_, df (fun z => ?_)⟩
  · subst z; omega
  · omega
theorem wn_n {p : Int32} {c : Nat} (hc : c < 2 ^ 30) (h : wi p (-1) (nI c - nI 1) = true) (h2 : p < 0) : p = -1 := by
  have h := of_decide_eq_true h
  rw [Int32.le_iff_toInt_le, Int32.le_iff_toInt_le, pk_sub_toInt hc (by decide)] at h
  rw [Int32.lt_iff_toInt_lt] at h2
  have e1 : (-1 : Int32).toInt = -1 := rfl
  have e0 : (0 : Int32).toInt = 0 := rfl
  apply Int32.toInt_inj.mp
  omega
theorem wn_t {p : Int32} {c : Nat} (hc : c < 2 ^ 30) (h : wi p (-1) (nI c - nI 1) = true) (h2 : ¬ p < 0) : ∃ n : Nat, n < c ∧ p = nI n := by
  obtain ⟨j, hj, rfl⟩ := nI_of h2
  have h := of_decide_eq_true h
  rw [Int32.le_iff_toInt_le, Int32.le_iff_toInt_le, pk_sub_toInt hc (by decide), nI_toInt hj] at h
  exact ⟨j, by omega, rfl⟩
