/-! PURE 23: equal watches and ages -/
theorem eld_c {G G' : Nat → Nat} : ∀ n, (∀ u, u < n → G u = G' u) → eld G n = eld G' n := by
  intro n
  induction n with
  | zero => intro _; rfl
  | succ n ih =>
    intro h
    rw [eld, eld, ih (fun u hu => h u (by omega)), h n (by omega)]
theorem r_aged_c {n : Nat} {l l' : Nat → Nat → Nat} {p0 p1 p2 : Int32} (hn : n ≤ 6) (h : ∀ x, x < n → ∀ t, t < 96 → l x t = l' x t) : r_aged n l p0 p1 p2 = r_aged n l' p0 p1 p2 := by
  unfold r_aged
  rcases e1 : inB p1 96 with _ | _
  · rfl
  · obtain ⟨x, hx, rfl⟩ := inB_t (by decide) e1
    rcases e2 : inB p2 96 with _ | _
    · rfl
    · obtain ⟨y, hy, rfl⟩ := inB_t (by decide) e2
      simp only [cond_true]
      rw [tn_nI (show x < 2 ^ 31 by omega), tn_nI (show y < 2 ^ 31 by omega), eld_c (G' := fun u => l' u y - l' u x) n (fun u hu => by rw [h u hu y hy, h u hu x hx])]
      rcases e0 : inB p0 n with _ | _
      · rfl
      · obtain ⟨z, hz, rfl⟩ := inB_t (by omega) e0
        rw [tn_nI (show z < 2 ^ 31 by omega), h z hz y hy, h z hz x hx]
theorem btU_c {P P' : Nat → Bool} : ∀ n, (∀ u, u < n → P u = P' u) → btU P n = btU P' n := by
  intro n
  induction n with
  | zero => intro _; rfl
  | succ n ih =>
    intro h
    rw [btU, btU, ih (fun u hu => h u (by omega)), h n (by omega)]
theorem al_c {P P' : Nat → Bool} : ∀ n, (∀ u, u < n → P u = P' u) → al P n = al P' n := by
  intro n
  induction n with
  | zero => intro _; rfl
  | succ n ih =>
    intro h
    rw [al, al, ih (fun u hu => h u (by omega)), h n (by omega)]
theorem mq_c {U U' : Nat → Nat} : ∀ n, (∀ u, u < n → U u = U' u) → mq U n = mq U' n := by
  intro n
  induction n with
  | zero => intro _; rfl
  | succ n ih =>
    intro h
    rw [mq, mq, ih (fun u hu => h u (by omega)), h n (by omega)]
theorem r_whose_c {b : Nat} {U U' : Nat → Nat} {p0 : Int32} (h : ∀ t, t < 96 → U t = U' t) : r_whose b U p0 = r_whose b U' p0 := by
  unfold r_whose
  rw [mq_c 96 h]
  have hl : (mq U' 96).1 < 96 := mq_lt96 U'
  rw [h _ hl]
theorem ulM_c {f g : Nat → Nat} {s : Nat} : ∀ h, (∀ u, u < h → f u = g u) → ulM f s h = ulM g s h := by
  intro h
  induction h with
  | zero => intro _; rfl
  | succ h ih =>
    intro e
    have q : fsB f s h h = fsB g s h h := by
      unfold fsB
      rw [al_c h (fun o ho => by rw [e o (by omega), e h (by omega)])]
    rw [ulM, ulM, ih (fun u hu => e u (by omega)), q]
theorem cd_c {n c : Nat} {f g : Nat → Nat → Nat} {w m w' m' : Nat → Nat} (h : eqC n f g) (hw : ∀ k, k < c → w k = w' k ∧ m k = m' k ∧ w k < 96) {x : Nat} (hx : x < n) : cdB (f x) w m c = cdB (g x) w' m' c := by
  unfold cdB
  refine al_c c (fun k hk => ?_)
  have q := hw k hk
  rw [← q.1, ← q.2.1, h x hx _ q.2.2]
theorem r_house_c {n : Nat} {s p q l t s' p' q' l' t' : Nat → Nat} {p0 p1 : Int32} (hn : n ≤ 6) (h : ∀ x, x < n → s x = s' x ∧ p x = p' x ∧ q x = q' x ∧ l x = l' x ∧ t x = t' x) : r_house n s p q l t p0 p1 = r_house n s' p' q' l' t' p0 p1 := by
  unfold r_house
  rcases e : inB p0 n with _ | _
  · rfl
  · obtain ⟨x, hx, rfl⟩ := inB_t (by omega) e
    have a := h x hx
    rw [tn_nI (by omega), a.1, a.2.1, a.2.2.1, a.2.2.2.1, a.2.2.2.2]
