/-! PURE 26: one token, read by both -/
theorem rg_c {B B' : Nat → Nat} {n : Nat} (h : ∀ k, k < n → B k = B' k) (lo hi : Nat) : rgB lo hi B n = rgB lo hi B' n := by
  funext k
  unfold rgB
  by_cases z : k < n
  · rw [h k z]
  · rw [df z, Bool.false_and, Bool.false_and]
def kc (x : Nat) : Nat := if x = 0 then 3 else if x = 2 then 4 else if x = 3 then 5 else if x = 4 then 0 else if x = 5 then 1 else if x = 6 then 2 else 6
theorem kc_4 {x : Nat} : kc x = 4 ↔ x = 2 := by
  unfold kc
  constructor
  · intro h
    repeat' split at h
    all_goals omega
  · intro h; subst h; rfl
theorem kc_3 {x : Nat} : kc x = 3 ↔ x = 0 := by
  unfold kc
  constructor
  · intro h
    repeat' split at h
    all_goals omega
  · intro h; subst h; rfl
theorem kc_5 {x : Nat} : kc x = 5 ↔ x = 3 := by
  unfold kc
  constructor
  · intro h
    repeat' split at h
    all_goals omega
  · intro h; subst h; rfl
theorem kc_0 {x : Nat} : kc x = 0 ↔ x = 4 := by
  unfold kc
  constructor
  · intro h
    repeat' split at h
    all_goals omega
  · intro h; subst h; rfl
theorem kc_1 {x : Nat} : kc x = 1 ↔ x = 5 := by
  unfold kc
  constructor
  · intro h
    repeat' split at h
    all_goals omega
  · intro h; subst h; rfl
theorem kc_2 {x : Nat} : kc x = 2 ↔ x = 6 := by
  unfold kc
  constructor
  · intro h
    repeat' split at h
    all_goals omega
  · intro h; subst h; rfl
theorem hsB_iff {i : Nat} {B : Nat → Nat} {f t : Nat} : hsB i B f t = true ↔ t - f = sLn i ∧ ∀ j, j < sLn i → B (f + j) = sCh i j := by
  unfold hsB
  rw [Bool.and_eq_true, al_iff]
  constructor
  · intro h
    exact ⟨of_decide_eq_true h.1, fun j hj => of_decide_eq_true (h.2 j hj)⟩
  · intro h
    exact ⟨dt h.1, fun j hj => dt (h.2 j hj)⟩
theorem hs_0 {B : Nat → Nat} {f t : Nat} : hsB 0 B f t = true ↔ t - f = 5 ∧ B f = 104 ∧ B (f + 1) = 111 ∧ B (f + 2) = 117 ∧ B (f + 3) = 115 ∧ B (f + 4) = 101 := by
  rw [hsB_iff]
  constructor
  · intro h
    exact ⟨h.1, h.2 0 (by decide), h.2 1 (by decide), h.2 2 (by decide), h.2 3 (by decide), h.2 4 (by decide)⟩
  · intro h
    refine ⟨h.1, fun j hj => ?_⟩
    have hj : j < 5 := hj
    rcases (show j = 0 ∨ j = 1 ∨ j = 2 ∨ j = 3 ∨ j = 4 by omega) with rfl | rfl | rfl | rfl | rfl
    · exact h.2.1
    · exact h.2.2.1
    · exact h.2.2.2.1
    · exact h.2.2.2.2.1
    · exact h.2.2.2.2.2
theorem hs_1 {B : Nat → Nat} {f t : Nat} : hsB 1 B f t = true ↔ t - f = 4 ∧ B f = 108 ∧ B (f + 1) = 101 ∧ B (f + 2) = 97 ∧ B (f + 3) = 112 := by
  rw [hsB_iff]
  constructor
  · intro h
    exact ⟨h.1, h.2 0 (by decide), h.2 1 (by decide), h.2 2 (by decide), h.2 3 (by decide)⟩
  · intro h
    refine ⟨h.1, fun j hj => ?_⟩
    have hj : j < 4 := hj
    rcases (show j = 0 ∨ j = 1 ∨ j = 2 ∨ j = 3 by omega) with rfl | rfl | rfl | rfl
    · exact h.2.1
    · exact h.2.2.1
    · exact h.2.2.2.1
    · exact h.2.2.2.2
theorem hs_2 {B : Nat → Nat} {f t : Nat} : hsB 2 B f t = true ↔ t - f = 4 ∧ B f = 119 ∧ B (f + 1) = 97 ∧ B (f + 2) = 108 ∧ B (f + 3) = 107 := by
  rw [hsB_iff]
  constructor
  · intro h
    exact ⟨h.1, h.2 0 (by decide), h.2 1 (by decide), h.2 2 (by decide), h.2 3 (by decide)⟩
  · intro h
    refine ⟨h.1, fun j hj => ?_⟩
    have hj : j < 4 := hj
    rcases (show j = 0 ∨ j = 1 ∨ j = 2 ∨ j = 3 by omega) with rfl | rfl | rfl | rfl
    · exact h.2.1
    · exact h.2.2.1
    · exact h.2.2.2.1
    · exact h.2.2.2.2
theorem skK_all {P : Nat → Bool} : ∀ k p j, p ≤ j → j < skK P k p → P j = true := by
  intro k
  induction k with
  | zero => intro p j h1 h2; exact absurd h2 (by rw [skK]; omega)
  | succ k ih =>
    intro p j h1 h2
    rw [skK] at h2
    split at h2
    · rename_i z
      rcases (show j = p ∨ p + 1 ≤ j by omega) with e | e
      · rw [e]; exact z
      · exact ih _ _ e h2
    · omega
theorem skp_all {P : Nat → Bool} {n p j : Nat} (h1 : p ≤ j) (h2 : j < skp P n p) : P j = true := skK_all _ _ _ h1 h2
/-- the three words by their letters and by their number -/
theorem wd_eq {B : Nat → Nat} {s e : Nat} (h : ∀ j, s ≤ j → j < e → 97 ≤ B j ∧ B j ≤ 122) (hs : s < e) : wdM (cdW (e - s) (cdK B s (e - s))) = kc (wdK B s e) := by
  have key : ∀ c, (c = 4562600 ↔ hsB 0 B s e = true) → (c = 239884 ↔ hsB 1 B s e = true) → (c = 453773 ↔ hsB 2 B s e = true) → wdM c = kc (wdK B s e) := by
    intro c h0 h1 h2
    unfold wdM wdK
    by_cases e0 : c = 4562600
    · rw [if_pos e0, if_pos (h0.mp e0)]; rfl
    · rw [if_neg e0, if_neg (fun z => e0 (h0.mpr z))]
      by_cases e1 : c = 239884
      · rw [if_pos e1, if_pos (h1.mp e1)]; rfl
      · rw [if_neg e1, if_neg (fun z => e1 (h1.mpr z))]
        by_cases e2 : c = 453773
        · rw [if_pos e2, if_pos (h2.mp e2)]; rfl
        · rw [if_neg e2, if_neg (fun z => e2 (h2.mpr z))]; rfl
  unfold cdW
  by_cases q : 5 < e - s
  · rw [if_pos q]
    refine key 0 ?_ ?_ ?_
    · rw [hs_0]; constructor
      · intro z; omega
      · intro z; omega
    · rw [hs_1]; constructor
      · intro z; omega
      · intro z; omega
    · rw [hs_2]; constructor
      · intro z; omega
      · intro z; omega
  · rw [if_neg q]
    have b0 := h s (by omega) hs
    rcases (show e - s = 1 ∨ e - s = 2 ∨ e - s = 3 ∨ e - s = 4 ∨ e - s = 5 by omega) with m | m | m | m | m
    · rw [m]
      have ec : cdK B s 1 = 27 * 0 + B (s + 0) - 96 := rfl
      rw [Nat.add_zero] at ec
      generalize cdK B s 1 = c at *
      refine key c ?_ ?_ ?_
      · rw [hs_0]; omega
      · rw [hs_1]; omega
      · rw [hs_2]; omega
    · have b1 := h (s + 1) (by omega) (by omega)
      rw [m]
      have ec : cdK B s 2 = 27 * (27 * 0 + B (s + 0) - 96) + B (s + 1) - 96 := rfl
      rw [Nat.add_zero] at ec
      generalize cdK B s 2 = c at *
      refine key c ?_ ?_ ?_
      · rw [hs_0]; omega
      · rw [hs_1]; omega
      · rw [hs_2]; omega
    · have b1 := h (s + 1) (by omega) (by omega)
      have b2 := h (s + 2) (by omega) (by omega)
      rw [m]
      have ec : cdK B s 3 = 27 * (27 * (27 * 0 + B (s + 0) - 96) + B (s + 1) - 96) + B (s + 2) - 96 := rfl
      rw [Nat.add_zero] at ec
      generalize cdK B s 3 = c at *
      refine key c ?_ ?_ ?_
      · rw [hs_0]; omega
      · rw [hs_1]; omega
      · rw [hs_2]; omega
    · have b1 := h (s + 1) (by omega) (by omega)
      have b2 := h (s + 2) (by omega) (by omega)
      have b3 := h (s + 3) (by omega) (by omega)
      rw [m]
      have ec : cdK B s 4 = 27 * (27 * (27 * (27 * 0 + B (s + 0) - 96) + B (s + 1) - 96) + B (s + 2) - 96) + B (s + 3) - 96 := rfl
      rw [Nat.add_zero] at ec
      obtain ⟨d0, e0⟩ : ∃ d, B s = d + 96 := ⟨B s - 96, by omega⟩
      obtain ⟨d1, e1⟩ : ∃ d, B (s + 1) = d + 96 := ⟨B (s + 1) - 96, by omega⟩
      obtain ⟨d2, e2⟩ : ∃ d, B (s + 2) = d + 96 := ⟨B (s + 2) - 96, by omega⟩
      obtain ⟨d3, e3⟩ : ∃ d, B (s + 3) = d + 96 := ⟨B (s + 3) - 96, by omega⟩
      have ec2 : cdK B s 4 = 19683 * d0 + 729 * d1 + 27 * d2 + d3 := by rw [ec, e0, e1, e2, e3]; omega
      generalize cdK B s 4 = c at *
      clear ec
      refine key c ?_ ?_ ?_
      · rw [hs_0]; omega
      · rw [hs_1, e0, e1, e2, e3]; omega
      · rw [hs_2, e0, e1, e2, e3]; omega
    · have b1 := h (s + 1) (by omega) (by omega)
      have b2 := h (s + 2) (by omega) (by omega)
      have b3 := h (s + 3) (by omega) (by omega)
      have b4 := h (s + 4) (by omega) (by omega)
      rw [m]
      have ec : cdK B s 5 = 27 * (27 * (27 * (27 * (27 * 0 + B (s + 0) - 96) + B (s + 1) - 96) + B (s + 2) - 96) + B (s + 3) - 96) + B (s + 4) - 96 := rfl
      rw [Nat.add_zero] at ec
      obtain ⟨d0, e0⟩ : ∃ d, B s = d + 96 := ⟨B s - 96, by omega⟩
      obtain ⟨d1, e1⟩ : ∃ d, B (s + 1) = d + 96 := ⟨B (s + 1) - 96, by omega⟩
      obtain ⟨d2, e2⟩ : ∃ d, B (s + 2) = d + 96 := ⟨B (s + 2) - 96, by omega⟩
      obtain ⟨d3, e3⟩ : ∃ d, B (s + 3) = d + 96 := ⟨B (s + 3) - 96, by omega⟩
      obtain ⟨d4, e4⟩ : ∃ d, B (s + 4) = d + 96 := ⟨B (s + 4) - 96, by omega⟩
      have ec2 : cdK B s 5 = 531441 * d0 + 19683 * d1 + 729 * d2 + 27 * d3 + d4 := by rw [ec, e0, e1, e2, e3, e4]; omega
      generalize cdK B s 5 = c at *
      clear ec
      refine key c ?_ ?_ ?_
      · rw [hs_0, e0, e1, e2, e3, e4]; omega
      · rw [hs_1]; omega
      · rw [hs_2]; omega
/-- a number, capped each in its own way -/
theorem va_vm {P : Nat → Bool} {B B' : Nat → Nat} (hP : ∀ p, P p = true → B p = B' p ∧ 48 ≤ B p ∧ B p ≤ 57) : ∀ k p v w, ((v = w ∧ w ≤ 99) ∨ (v = 100 ∧ 99 < w)) → ((vaG P B k p v = vmG P B' k p w ∧ vmG P B' k p w ≤ 99) ∨ (vaG P B k p v = 100 ∧ 99 < vmG P B' k p w)) := by
  intro k
  induction k with
  | zero => intro p v w h; exact h
  | succ k ih =>
    intro p v w h
    rw [vaG, vmG]
    by_cases q : P p = true
    · rw [if_pos q, if_pos q]
      have b := hP p q
      refine ih _ _ _ ?_
      rw [← b.1]
      rcases h with ⟨e, z⟩ | ⟨e, z⟩
      · subst e
        rw [if_pos z]
        omega
      · subst e
        rw [if_neg (by omega)]
        omega
    · rw [if_neg q, if_neg q]
      exact h
/-- the token that both have read -/
def TKE (X Y : Nat → Nat → Nat) : Prop := X 1 0 = Y 1 0 ∧ (∀ k, k < Y 1 0 → X 0 k = Y 0 k) ∧ X 2 0 = Y 10 0 ∧ X 3 0 = Y 11 0 ∧ Y 12 0 = kc (X 4 0) ∧ (X 4 0 = 2 → X 5 0 = Y 13 0 ∧ X 5 0 ≤ 99)
theorem tke_0 {X Y : Nat → Nat → Nat} (h1 : X 1 0 = Y 1 0) (h0 : ∀ k, k < Y 1 0 → X 0 k = Y 0 k) (h2 : X 2 0 = Y 10 0) : TKE (stI X) (nxJ Y) := by
  have e1 : stI X 1 = X 1 := stI_off X (by decide)
  have e0 : stI X 0 = X 0 := stI_off X (by decide)
  have f1 : nxJ Y 1 = Y 1 := nxJ_off Y (by decide)
  have f0 : nxJ Y 0 = Y 0 := nxJ_off Y (by decide)
  have rg : ∀ lo hi, rgB lo hi (X 0) (X 1 0) = rgB lo hi (Y 0) (Y 1 0) := fun lo hi => by rw [h1]; exact rg_c h0 lo hi
  have es : stS X = nxS Y := by unfold stS nxS; rw [rg, h1, h2]
  refine ⟨by rw [e1, f1]; exact h1, fun k hk => ?_, ?_⟩
  · rw [f1] at hk
    rw [e0, f0]
    exact h0 k hk
  · unfold stI nxJ
    by_cases c1 : Y 1 0 ≤ nxS Y
    · rw [if_pos (by rw [h1, es]; exact c1), if_pos c1]
      exact ⟨es, es, rfl, fun z => absurd (show (0 : Nat) = 2 from z) (by decide)⟩
    · have c1' : ¬ X 1 0 ≤ stS X := by rw [h1, es]; exact c1
      rw [if_neg c1', if_neg c1, rg, rg, es]
      by_cases c2 : rgB 97 122 (Y 0) (Y 1 0) (nxS Y) = true
      · rw [if_pos c2, if_pos c2]
        have es2 : st0 X 2 0 = nxS Y := es
        have es3 : st0 X 3 0 = nxS Y := es
        have ee : swE (st0 X) = nxL Y := by
          unfold swE nxL
          show skp (rgB 97 122 (X 0) (X 1 0)) (X 1 0) (st0 X 2 0) = _
          rw [rg, h1, es2]
        have he : nxL Y = skp (rgB 97 122 (Y 0) (Y 1 0)) (Y 1 0) (nxS Y) := rfl
        have hgt : nxS Y < nxL Y := by
          have e : nxL Y = skp (rgB 97 122 (Y 0) (Y 1 0)) (Y 1 0) (nxS Y + 1) := skp_t (by omega) c2
          have g := (skp_ge (rgB 97 122 (Y 0) (Y 1 0)) (show nxS Y + 1 ≤ Y 1 0 by omega)).1
          omega
        have hlt : nxL Y ≤ Y 1 0 := (skp_ge (rgB 97 122 (Y 0) (Y 1 0)) (show nxS Y ≤ Y 1 0 by omega)).2
        have hw : wdM (nxCd Y) = kc (wdK (Y 0) (nxS Y) (nxL Y)) := by
          unfold nxCd
          refine wd_eq (fun j j1 j2 => ?_) hgt
          have := skp_all (P := rgB 97 122 (Y 0) (Y 1 0)) j1 (by rw [← he]; exact j2)
          exact (rgB_in this).2
        have hk : wdK (X 0) (nxS Y) (nxL Y) = wdK (Y 0) (nxS Y) (nxL Y) := by
          have hc : ∀ i, i < 3 → hsB i (X 0) (nxS Y) (nxL Y) = hsB i (Y 0) (nxS Y) (nxL Y) := by
            intro i hi
            unfold hsB
            by_cases z : nxL Y - nxS Y = sLn i
            · rw [al_c (sLn i) (fun j hj => by rw [h0 (nxS Y + j) (by omega)])]
            · rw [df z, Bool.false_and, Bool.false_and]
          unfold wdK
          rw [hc 0 (by decide), hc 1 (by decide), hc 2 (by decide)]
        unfold swdI
        rw [ee]
        refine ⟨rfl, es3, ?_, fun z => ?_⟩
        · show wdM (nxCd Y) = kc (wdK (X 0) (st0 X 3 0) (nxL Y))
          rw [es3, hw, hk]
        · exfalso
          have z : wdK (X 0) (st0 X 3 0) (nxL Y) = 2 := z
          unfold wdK at z
          repeat' split at z
          all_goals omega
      · rw [if_neg c2, if_neg c2]
        by_cases c3 : rgB 48 57 (Y 0) (Y 1 0) (nxS Y) = true
        · rw [if_pos c3, if_pos c3]
          have es2 : st0 X 2 0 = nxS Y := es
          have es3 : st0 X 3 0 = nxS Y := es
          have ee : snE (st0 X) = nxD Y := by
            unfold snE nxD
            show skp (rgB 48 57 (X 0) (X 1 0)) (X 1 0) (st0 X 2 0) = _
            rw [rg, h1, es2]
          have ev := va_vm (P := rgB 48 57 (Y 0) (Y 1 0)) (B := X 0) (B' := Y 0) (fun p hp => by
            have z := rgB_in hp
            rw [h0 p z.1]
            exact ⟨rfl, z.2⟩) (Y 1 0 - nxS Y) (nxS Y) 0 0 (Or.inl ⟨rfl, by decide⟩)
          have evv : snV (st0 X) = vaG (rgB 48 57 (Y 0) (Y 1 0)) (X 0) (Y 1 0 - nxS Y) (nxS Y) 0 := by
            unfold snV vaP
            show vaG (rgB 48 57 (X 0) (X 1 0)) (X 0) (X 1 0 - st0 X 2 0) (st0 X 2 0) 0 = _
            rw [rg, h1, es2]
          have eww : nxV Y = vmG (rgB 48 57 (Y 0) (Y 1 0)) (Y 0) (Y 1 0 - nxS Y) (nxS Y) 0 := rfl
          rw [← evv, ← eww] at ev
          have hb : X 0 (nxS Y) = Y 0 (nxS Y) := h0 _ (by omega)
          have hv : (99 < snV (st0 X)) ↔ (99 < nxV Y) := by omega
          have hn : nmM (Y 0 (nxS Y)) (nxS Y) (nxD Y) (nxV Y) = kc (nmK (X 0) (nxS Y) (nxD Y) (snV (st0 X))) := by
            unfold nmM nmK
            rw [hb]
            by_cases z : 99 < nxV Y ∨ (Y 0 (nxS Y) = 48 ∧ 1 < nxD Y - nxS Y)
            · rw [if_pos z, if_pos (by rcases z with z | z; exact Or.inl (hv.mpr z); exact Or.inr z)]; rfl
            · rw [if_neg z, if_neg (fun y => z (by rcases y with y | y; exact Or.inl (hv.mp y); exact Or.inr y))]; rfl
          unfold snI
          rw [ee]
          refine ⟨rfl, es3, ?_, fun z => ?_⟩
          · show nmM (Y 0 (nxS Y)) (nxS Y) (nxD Y) (nxV Y) = kc (nmK (X 0) (st0 X 3 0) (nxD Y) (snV (st0 X)))
            rw [es3]
            exact hn
          · have z : nmK (X 0) (st0 X 3 0) (nxD Y) (snV (st0 X)) = 2 := z
            unfold nmK at z
            split at z
            · cases z
            · rename_i y
              show snV (st0 X) = nxV Y ∧ snV (st0 X) ≤ 99
              omega
        · rw [if_neg c3, if_neg c3]
          have hb : X 0 (nxS Y) = Y 0 (nxS Y) := h0 _ (by omega)
          refine ⟨rfl, es, ?_, fun z => ?_⟩
          · show (if Y 0 (nxS Y) = 59 then 5 else 6) = kc (if X 0 (nxS Y) = 59 then 3 else 1)
            rw [hb]
            split <;> rfl
          · exfalso
            have z : (if X 0 (nxS Y) = 59 then 3 else 1) = 2 := z
            split at z <;> omega
theorem tke_nx {X Y : Nat → Nat → Nat} (h : TKE X Y) : TKE (stI X) (nxJ Y) := tke_0 h.1 h.2.1 h.2.2.1
theorem nb_iff {X Y : Nat → Nat → Nat} (h : TKE X Y) (lo hi : Int32) : numB X lo hi = true ↔ nuZ Y lo hi ≠ 0 := by
  unfold numB nuZ
  rw [Bool.and_eq_true, h.2.2.2.2.1]
  by_cases z : X 4 0 = 2
  · rw [if_pos (kc_4.mpr z), dt z, ← (h.2.2.2.2.2 z).1]
    cases wi (nI (X 5 0)) lo hi
    · constructor
      · intro q; cases q.2
      · intro q; exact absurd rfl q
    · constructor
      · intro _; decide
      · intro _; exact ⟨rfl, rfl⟩
  · rw [if_neg (fun q => z (kc_4.mp q)), df z]
    constructor
    · intro q; cases q.1
    · intro q; exact absurd rfl q
