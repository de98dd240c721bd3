/-! PURE 29: rings, by rows of followers and by ways -/
theorem fb_tb (g : Nat → Nat) (k o : Nat) : fbB g k o = (g k).testBit o := by
  unfold fbB
  rw [Nat.testBit_eq_decide_div_mod_eq]
theorem wsI_row (g : Nat → Nat) (b : Nat) : ∀ k j, wsI g b k j = if j < k ∧ fbB g j b = true then g j ||| g b else g j := by
  intro k
  induction k with
  | zero => intro j; rw [if_neg (by omega)]; rfl
  | succ k ih =>
    intro j
    have eb : wsI g b k b = g b := by
      rw [ih b]
      split
      · exact Nat.or_self _
      · rfl
    have ek : wsI g b k k = g k := by rw [ih k, if_neg (by omega)]
    have ef : fbB (wsI g b k) k b = fbB g k b := by unfold fbB; rw [ek]
    rw [wsI, ef]
    by_cases q : fbB g k b = true
    · rw [if_pos q, ek, eb]
      unfold upN
      by_cases z : j = k
      · subst z; rw [if_pos rfl, if_pos ⟨by omega, q⟩]
      · rw [if_neg z, ih j]
        by_cases y : j < k ∧ fbB g j b = true
        · rw [if_pos y, if_pos ⟨by omega, y.2⟩]
        · rw [if_neg y, if_neg (fun w => y ⟨by omega, w.2⟩)]
    · rw [if_neg q, ih j]
      by_cases y : j < k ∧ fbB g j b = true
      · rw [if_pos y, if_pos ⟨by omega, y.2⟩]
      · rw [if_neg y, if_neg (fun w => ?_)]
        by_cases z : j = k
        · subst z; exact q w.2
        · exact y ⟨by omega, w.2⟩
def tcl (g : Nat → Nat) (c b k l : Nat) : Prop := fbB (wsO g c b) k l = true
theorem tcl_s {g : Nat → Nat} {c b k l : Nat} (hk : k < c) : tcl g c (b + 1) k l ↔ tcl g c b k l ∨ (tcl g c b k b ∧ tcl g c b b l) := by
  unfold tcl
  rw [wsO, fb_tb, wsI_row]
  by_cases q : fbB (wsO g c b) k b = true
  · rw [if_pos ⟨hk, q⟩, Nat.testBit_or, Bool.or_eq_true, fb_tb, fb_tb, fb_tb]
    rw [fb_tb] at q
    constructor
    · intro h
      rcases h with h | h
      · exact Or.inl h
      · exact Or.inr ⟨q, h⟩
    · intro h
      rcases h with h | h
      · exact Or.inl h
      · exact Or.inr h.2
  · rw [if_neg (fun z => q z.2), fb_tb]
    constructor
    · intro h; exact Or.inl h
    · intro h
      rcases h with h | h
      · exact h
      · exact absurd h.1 q
theorem tcl_tr {g : Nat → Nat} {c : Nat} : ∀ b, b ≤ c → ∀ k m l, k < c → m < b → tcl g c b k m → tcl g c b m l → tcl g c b k l := by
  intro b
  induction b with
  | zero => intro _ k m l _ h; exact absurd h (Nat.not_lt_zero _)
  | succ b ih =>
    intro hb k m l hk hm h1 h2
    have ih := ih (by omega)
    rw [tcl_s hk] at h1 ⊢
    rw [tcl_s (show m < c by omega)] at h2
    by_cases e : m = b
    · subst e
      have a1 : tcl g c m k m := by rcases h1 with h | h; exact h; exact h.1
      have a2 : tcl g c m m l := by rcases h2 with h | h; exact h; exact h.2
      exact Or.inr ⟨a1, a2⟩
    · have hm2 : m < b := by omega
      rcases h1 with h1 | ⟨h1, h3⟩ <;> rcases h2 with h2 | ⟨h2, h4⟩
      · exact Or.inl (ih k m l hk hm2 h1 h2)
      · exact Or.inr ⟨ih k m b hk hm2 h1 h2, h4⟩
      · exact Or.inr ⟨h1, ih b m l (by omega) hm2 h3 h2⟩
      · exact Or.inr ⟨h1, h4⟩
theorem tcl_mono {g : Nat → Nat} {c k l : Nat} (hk : k < c) : ∀ b, tcl g c 0 k l → tcl g c b k l := by
  intro b h
  induction b with
  | zero => exact h
  | succ b ih => rw [tcl_s hk]; exact Or.inl ih
theorem tcl_P {g : Nat → Nat} {c : Nat} {P : Nat → Nat → Prop} (h0 : ∀ k l, k < c → tcl g c 0 k l → P k l) (ht : ∀ k m l, P k m → P m l → P k l) : ∀ b, b ≤ c → ∀ k l, k < c → tcl g c b k l → P k l := by
  intro b
  induction b with
  | zero => intro _ k l hk h; exact h0 k l hk h
  | succ b ih =>
    intro hb k l hk h
    rw [tcl_s hk] at h
    rcases h with h | h
    · exact ih (by omega) k l hk h
    · exact ht k b l (ih (by omega) k b hk h.1) (ih (by omega) b l (by omega) h.2)
theorem btU_tb (P : Nat → Bool) (l : Nat) : ∀ n, (btU P n).testBit l = (decide (l < n) && P l) := by
  intro n
  induction n with
  | zero => rw [show btU P 0 = 0 from rfl, Nat.zero_testBit, df (Nat.not_lt_zero l)]; rfl
  | succ n ih =>
    rw [btU]
    by_cases q : P n = true
    · rw [if_pos q, Nat.testBit_or, ih, Nat.testBit_two_pow]
      by_cases z : n = l
      · subst z; rw [dt rfl, Bool.or_true, dt (by omega), q]; rfl
      · rw [df z, Bool.or_false]
        by_cases y : l < n
        · rw [dt y, dt (by omega)]
        · rw [df y, df (by omega)]
    · rw [if_neg q, ih]
      by_cases z : n = l
      · subst z; rw [df (by omega), dt (by omega), nb_f q]; rfl
      · by_cases y : l < n
        · rw [dt y, dt (by omega)]
        · rw [df y, df (by omega)]
theorem rc_pos {J : Nat → Nat → Nat} {k : Nat} : ∀ n l, rcN J k n l → 0 < quJ J k := by
  intro n
  induction n with
  | zero => intro l h; exact h.2
  | succ n ih => intro l ⟨i, h, _⟩; exact ih i h
theorem rc_tr {J : Nat → Nat → Nat} {k m n : Nat} (h : rcN J k n m) : ∀ n' l, rcN J m n' l → rcN J k (n + n') l := by
  intro n'
  induction n' with
  | zero => intro l h2; rw [h2.1]; exact h
  | succ n' ih => intro l ⟨i, h1, h2⟩; exact ⟨i, ih i h1, h2⟩
/-- the two sides' debts -/
def dbR (I J : Nat → Nat → Nat) : Prop := I 55 0 = J 26 0 ∧ ∀ k, k < J 26 0 → I 50 k = J 25 (3 * k) ∧ I 51 k = J 25 (3 * k + 1) ∧ quE I k = quJ J k
theorem cp_iff {I J : Nat → Nat → Nat} (h : dbR I J) {k l : Nat} (hk : k < J 26 0) (hl : l < J 26 0) : cpC I k l = true ↔ 0 < quJ J k ∧ scJ J k l := by
  have a := h.2 k hk
  have b := h.2 l hl
  unfold cpC scJ
  rw [a.2.1, b.1, a.2.2, b.2.2, Bool.and_eq_true, Bool.and_eq_true]
  constructor
  · intro z
    exact ⟨of_decide_eq_true z.2.1, of_decide_eq_true z.1, of_decide_eq_true z.2.2⟩
  · intro z
    exact ⟨dt z.2.1, dt z.1, dt z.2.2⟩
theorem ring_eq {I J : Nat → Nat → Nat} (h : dbR I J) : rgC I = ex (cmB J) (J 26 0) := by
  have hc := h.1
  have base : ∀ k l, k < J 26 0 → (tcl (flF (I 54) (nxC I) (I 55 0)) (I 55 0) 0 k l ↔ l < J 26 0 ∧ cpC I k l = true) := by
    intro k l hk
    unfold tcl
    rw [wsO, fb_tb]
    unfold flF nxC
    rw [if_pos (by omega), btU_tb, Bool.and_eq_true, hc]
    exact ⟨fun z => ⟨of_decide_eq_true z.1, z.2⟩, fun z => ⟨dt z.1, z.2⟩⟩
  have sound : ∀ k l, k < J 26 0 → tcl (flF (I 54) (nxC I) (I 55 0)) (I 55 0) (I 55 0) k l → (0 < quJ J k ∧ quJ J k < quJ J l ∧ l < J 26 0) ∧ Rch J k l := by
    intro k l hk hT
    refine tcl_P (P := fun k l => (0 < quJ J k ∧ quJ J k < quJ J l ∧ l < J 26 0) ∧ Rch J k l) (fun k l hk z => ?_) (fun k m l z y => ?_) (I 55 0) (Nat.le_refl _) k l (by omega) hT
    · have z := (base k l (by omega)).mp z
      have y := (cp_iff h (by omega) z.1).mp z.2
      exact ⟨⟨y.1, y.2.2, z.1⟩, 1, k, ⟨rfl, y.1⟩, z.1, y.2⟩
    · obtain ⟨n, hn⟩ := z.2
      obtain ⟨n', hn'⟩ := y.2
      exact ⟨⟨z.1.1, by have := z.1.2.1; have := y.1.2.1; omega, y.1.2.2⟩, n + n', rc_tr hn n' l hn'⟩
  have comp : ∀ k, k < J 26 0 → ∀ n l, rcN J k n l → l = k ∨ tcl (flF (I 54) (nxC I) (I 55 0)) (I 55 0) (I 55 0) k l := by
    intro k hk n
    induction n with
    | zero => intro l hl; exact Or.inl hl.1
    | succ n ih =>
      intro l ⟨i, h1, h2, h3⟩
      have hp := rc_pos n i h1
      rcases ih i h1 with e | e
      · subst e
        exact Or.inr (tcl_mono (by omega) _ ((base i l hk).mpr ⟨h2, (cp_iff h hk h2).mpr ⟨hp, h3⟩⟩))
      · have s := sound k i hk e
        have hi := s.1.2.2
        refine Or.inr (tcl_tr (I 55 0) (Nat.le_refl _) k i l (by omega) (by omega) e ?_)
        exact tcl_mono (by omega) _ ((base i l hi).mpr ⟨h2, (cp_iff h hi h2).mpr ⟨by omega, h3⟩⟩)
  have key : rgC I = true ↔ ex (cmB J) (J 26 0) = true := by
    rw [ex_iff]
    constructor
    · intro z
      unfold rgC at z
      have z2 : ¬ al (fun k => al (rgP I k) (I 55 0)) (I 55 0) = true := by
        intro y; rw [y] at z; cases z
      rw [al_iff] at z2
      apply Classical.byContradiction
      intro no
      refine z2 (fun k hk => ?_)
      rw [al_iff]
      intro l hl
      apply Classical.byContradiction
      intro q
      have q2 : (fbB (rgG I) k l && decide (I 51 l = I 50 k)) = true := by
        unfold rgP at q
        cases y : (fbB (rgG I) k l && decide (I 51 l = I 50 k))
        · rw [y] at q; exact absurd rfl q
        · rfl
      rw [Bool.and_eq_true] at q2
      have s := sound k l (by omega) q2.1
      refine no ⟨k, by omega, ?_⟩
      unfold cmB
      rw [ex_iff]
      refine ⟨l, s.1.2.2, cmQ_t ⟨fun e => ?_, s.2, ?_⟩⟩
      · subst e; omega
      · rw [← (h.2 l s.1.2.2).2.1, ← (h.2 k (by omega)).1]
        exact of_decide_eq_true q2.2
    · intro ⟨k, hk, z⟩
      unfold cmB at z
      rw [ex_iff] at z
      obtain ⟨l, hl, z⟩ := z
      have p : cmP J k l := by
        apply Classical.byContradiction
        intro q
        rw [cmQ_f q] at z
        cases z
      obtain ⟨p1, ⟨n, p2⟩, p3⟩ := p
      have t : tcl (flF (I 54) (nxC I) (I 55 0)) (I 55 0) (I 55 0) k l := by
        rcases comp k hk n l p2 with e | e
        · exact absurd e p1
        · exact e
      unfold rgC
      have f : al (fun k => al (rgP I k) (I 55 0)) (I 55 0) = false := by
        refine nb_f (fun y => ?_)
        rw [al_iff] at y
        have y2 := y k (by omega)
        rw [al_iff] at y2
        have y3 := y2 l (by omega)
        unfold rgP at y3
        rw [show fbB (rgG I) k l = true from t, dt (show I 51 l = I 50 k by rw [(h.2 l hl).2.1, (h.2 k hk).1]; exact p3)] at y3
        cases y3
      rw [f]
      rfl
  cases e : rgC I
  · cases e2 : ex (cmB J) (J 26 0)
    · rfl
    · rw [key.mpr e2] at e; cases e
  · exact (key.mp e).symm
