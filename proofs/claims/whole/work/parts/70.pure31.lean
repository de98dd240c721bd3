/-! PURE 31: each call keeps the relation -/
theorem MoR_g {t kh kb : Nat → Nat} {k w : Nat} {g g' : Nat → Nat} {o : Nat} (h : MoR t kh kb k w g o) (e : ∀ j, o ≤ j → j < o + 28 → g' j = g j) : MoR t kh kb k w g' o := by
  obtain ⟨h1, h2, h3, h4, h5, h6⟩ := h
  refine ⟨fun x hx => ?_, by rw [e o (by omega) (by omega)]; exact h2, h3, by rw [e (o + 7) (by omega) (by omega)]; exact h4, h5, fun i hi => ?_⟩
  · rw [e (o + 1 + x) (by omega) (by omega)]; exact h1 x hx
  · rw [e (o + 8 + i) (by omega) (by omega), e (o + 18 + i) (by omega) (by omega)]; exact h6 i hi
theorem MoR_go {t kh kb : Nat → Nat} {k w : Nat} {g : Nat → Nat} (h : MoR t kh kb k w g 0) {v : Nat} (hv : v ≤ 95) : MoR t kh kb k v (upN g 0 v) 0 := by
  obtain ⟨h1, h2, h3, h4, h5, h6⟩ := h
  refine ⟨fun x hx => ?_, (upN_eq g 0 v).symm, hv, by rw [upN_ne' (by omega)]; exact h4, h5, fun i hi => ?_⟩
  · rw [upN_ne' (by omega)]; exact h1 x hx
  · rw [upN_ne' (by omega), upN_ne' (by omega)]; exact h6 i hi
theorem MoR_tur {t kh kb : Nat → Nat} {k w : Nat} {g : Nat → Nat} (h : MoR t kh kb k w g 0) {x b : Nat} (hx : x < 6) (hb : b < 48) (hk : k < 10) : MoR (upN t x ((t x + b) % 48)) (upN kh k x) (upN kb k b) (k + 1) w (upN (upN (upN (upN g (8 + k) x) (18 + k) b) 7 (k + 1)) (1 + x) ((g (1 + x) + b) % 48)) 0 := by
  obtain ⟨h1, h2, h3, h4, h5, h6⟩ := h
  have e1 : t x = g (1 + x) := by have := (h1 x hx).1; rw [show 0 + 1 + x = 1 + x by omega] at this; exact this
  refine ⟨fun y hy => ?_, ?_, h3, ?_, by omega, fun i hi => ?_⟩
  · by_cases z : y = x
    · subst z
      rw [upN_eq, show 0 + 1 + y = 1 + y by omega, upN_eq, e1]
      exact ⟨rfl, Nat.mod_lt _ (by decide)⟩
    · rw [upN_ne' z, upN_ne' (by omega), upN_ne' (by omega), upN_ne' (by omega), upN_ne' (by omega)]
      exact h1 y hy
  · rw [upN_ne' (by omega), upN_ne' (by omega), upN_ne' (by omega), upN_ne' (by omega)]; exact h2
  · rw [upN_ne' (by omega)]
    exact (upN_eq _ 7 (k + 1)).symm
  · by_cases z : i = k
    · subst z
      rw [upN_eq, upN_eq, upN_ne' (by omega), upN_ne' (by omega), upN_ne' (by omega), show 0 + 8 + i = 8 + i by omega, upN_eq, upN_ne' (by omega), upN_ne' (by omega), show 0 + 18 + i = 18 + i by omega, upN_eq]
      exact ⟨rfl, rfl, hx, hb⟩
    · rw [upN_ne' z, upN_ne' z, upN_ne' (by omega), upN_ne' (by omega), upN_ne' (by omega), upN_ne' (by omega), upN_ne' (by omega), upN_ne' (by omega), upN_ne' (by omega), upN_ne' (by omega)]
      exact h6 i (by omega)
theorem MoR_sh {t kh kb : Nat → Nat} {w : Nat} {g : Nat → Nat} (h : MoR t kh kb 10 w g 0) : MoR t (cpN kh kh 1 0 9) (cpN kb kb 1 0 9) 9 w (upN (shfJ g 9) 7 9) 0 := by
  obtain ⟨h1, h2, h3, h4, h5, h6⟩ := h
  have lo : ∀ j, j < 8 → shfJ g 9 j = g j := fun j hj => shfJ_lo g 9 hj
  refine ⟨fun y hy => ?_, ?_, h3, (upN_eq _ 7 9).symm, by omega, fun i hi => ?_⟩
  · rw [upN_ne' (by omega), lo _ (by omega)]; exact h1 y hy
  · rw [upN_ne' (by omega), lo _ (by omega)]; exact h2
  · have a := h6 (i + 1) (by omega)
    rw [upN_ne' (by omega), upN_ne' (by omega)]
    unfold cpN shfJ
    rw [if_pos (by omega), if_pos (by omega), if_pos (by omega), if_neg (by omega), if_pos (by omega), show 1 + (i - 0) = i + 1 by omega, show 0 + 8 + i + 1 = 0 + 8 + (i + 1) by omega, show 0 + 18 + i + 1 = 0 + 18 + (i + 1) by omega]
    exact a
theorem MoR_und {t kh kb : Nat → Nat} {k w : Nat} {g : Nat → Nat} (h : MoR t kh kb k w g 0) (hk : 0 < k) : MoR (upN t (kh (k - 1)) (fm (t (kh (k - 1))) (kb (k - 1)))) kh kb (k - 1) w (upN (upN g 7 (g 7 - 1)) (1 + g (8 + (g 7 - 1))) ((g (1 + g (8 + (g 7 - 1))) + 48 - g (18 + (g 7 - 1))) % 48)) 0 := by
  obtain ⟨h1, h2, h3, h4, h5, h6⟩ := h
  have h4 : k = g 7 := h4
  have a := h6 (k - 1) (by omega)
  rw [show 0 + 8 + (k - 1) = 8 + (g 7 - 1) by omega, show 0 + 18 + (k - 1) = 18 + (g 7 - 1) by omega] at a
  rw [← a.1, ← a.2.1]
  have e1 : t (kh (k - 1)) = g (1 + kh (k - 1)) := by have := (h1 _ a.2.2.1).1; rw [show 0 + 1 + kh (k - 1) = 1 + kh (k - 1) by omega] at this; exact this
  have hx := a.2.2.1
  generalize kh (k - 1) = x at *
  generalize kb (k - 1) = b at *
  refine ⟨fun y hy => ?_, ?_, h3, ?_, by omega, fun i hi => ?_⟩
  · by_cases z : y = x
    · subst z
      rw [upN_eq, show 0 + 1 + y = 1 + y by omega, upN_eq, e1]
      exact ⟨rfl, fm_lt _ _⟩
    · rw [upN_ne' z, upN_ne' (by omega), upN_ne' (by omega)]
      exact h1 y hy
  · rw [upN_ne' (by omega), upN_ne' (by omega)]; exact h2
  · rw [upN_ne' (by omega)]
    show k - 1 = upN g 7 (g 7 - 1) 7
    rw [upN_eq, h4]
  · rw [upN_ne' (by omega), upN_ne' (by omega), upN_ne' (by omega), upN_ne' (by omega)]
    exact h6 i (by omega)
theorem MoR_cp {t kh kb t' kh' kb' : Nat → Nat} {k w : Nat} {g g2 : Nat → Nat} {o d : Nat} (h : MoR t kh kb k w g o) : MoR (cpN t t' 0 0 6) (cpN kh kh' 0 0 10) (cpN kb kb' 0 0 10) k w (cpN g g2 o d 28) d := by
  obtain ⟨h1, h2, h3, h4, h5, h6⟩ := h
  have e : ∀ j, j < 28 → cpN g g2 o d 28 (d + j) = g (o + j) := fun j hj => by
    unfold cpN
    rw [if_pos (by omega), show d + j - d = j by omega]
  have e0 := e 0 (by omega)
  rw [Nat.add_zero, Nat.add_zero] at e0
  refine ⟨fun y hy => ?_, by rw [e0]; exact h2, h3, by rw [e 7 (by omega)]; exact h4, h5, fun i hi => ?_⟩
  · rw [show d + 1 + y = d + (1 + y) by omega, e _ (by omega), show o + (1 + y) = o + 1 + y by omega]
    unfold cpN
    rw [if_pos (by omega), show 0 + (y - 0) = y by omega]
    exact h1 y hy
  · rw [show d + 8 + i = d + (8 + i) by omega, e _ (by omega), show o + (8 + i) = o + 8 + i by omega, show d + 18 + i = d + (18 + i) by omega, e _ (by omega), show o + (18 + i) = o + 18 + i by omega]
    unfold cpN
    rw [if_pos (by omega), if_pos (by omega), show 0 + (i - 0) = i by omega]
    exact h6 i hi
theorem cp_out {g : Nat → Nat} {o d j : Nat} (h : ¬ (d ≤ j ∧ j < d + 28)) : cpN g g o d 28 j = g j := by
  unfold cpN
  rw [if_neg h]
section KEEP
variable {I J : Nat → Nat → Nat}
theorem kp_clear (h : Rel I J) : Rel (up2 I 1 0 0) (up2 J 1 0 0) := by
  obtain ⟨a1, a2, a3, a4, a5, a6, a7, a8, a9, a10, a11, a12, a13⟩ := h
  exact ⟨⟨rfl, Nat.zero_le _, fun k hk => absurd hk (Nat.not_lt_zero k)⟩, a2, a3, a4, a5, a6, a7, a8, a9, a10, a11, a12, a13⟩
theorem kp_type (h : Rel I J) (v : Int64) (p : Int32) : Rel (tyI I v p) (tyI J v p) := by
  unfold tyI
  rw [h.tx.1]
  rcases e : wi p (nI 1) (nI 8) with _ | _
  · exact h
  · simp only [cond_true]
    by_cases z : J 1 0 + tn p ≤ 300
    · rw [if_pos z, if_pos z]
      obtain ⟨a1, a2, a3, a4, a5, a6, a7, a8, a9, a10, a11, a12, a13⟩ := h
      refine ⟨⟨rfl, z, fun k hk => ?_⟩, a2, a3, a4, a5, a6, a7, a8, a9, a10, a11, a12, a13⟩
      show tyB (I 0) (J 1 0) v (tn p) 0 k = tyB (J 0) (J 1 0) v (tn p) 0 k ∧ tyB (J 0) (J 1 0) v (tn p) 0 k < 256
      have hk : k < J 1 0 + tn p := hk
      unfold tyB
      by_cases y : J 1 0 ≤ k ∧ k < J 1 0 + (tn p - 0)
      · rw [if_pos y, if_pos y]
        exact ⟨rfl, byV_lt _ _⟩
      · rw [if_neg y, if_neg y]
        exact a1.2.2 k (by omega)
    · rw [if_neg z, if_neg z]
      exact h
theorem kp_go (h : Rel I J) (p : Int32) : Rel (up2 I 11 0 (goN (I 11 0) p)) (up2 J 16 0 (goN (J 16 0) p)) := by
  have e := rl_now h
  have hv : goN (J 16 0) p ≤ 95 := by
    have := (rl_KM h).2.2.1
    unfold goN
    rcases q : wi p (nI 1) (nI 95) with _ | _
    · exact this
    · simp only [cond_true]
      split
      · assumption
      · exact this
  rw [e]
  obtain ⟨a1, a2, a3, a4, a5, a6, a7, a8, a9, a10, a11, a12, a13⟩ := h
  exact ⟨a1, a2, a3, a4, a5, a6, MoR_go a7 hv, MoR_g a8 (fun j h1 _ => upN_ne' (by omega)), MoR_g a9 (fun j h1 _ => upN_ne' (by omega)), a10, a11, a12, a13⟩
theorem kp_turn (h : Rel I J) (p0 p1 : Int32) : Rel (turI I p0 p1) (turJ J p0 p1) := by
  unfold turI turJ
  have n6 := rl_n6 h
  rw [rl_n h]
  rcases e : inB p0 (J 2 0) with _ | _
  · exact h
  · obtain ⟨x, hx, rfl⟩ := inB_t (by omega) e
    rcases e2 : wi p1 (nI 1) (nI 47) with _ | _
    · exact h
    · obtain ⟨b, _, hb, rfl⟩ := wi_of (by decide) (by decide) e2
      simp only [cond_true]
      rw [tn_nI (show x < 2 ^ 31 by omega), tn_nI (show b < 2 ^ 31 by omega)]
      have e10 : I 10 0 = J 16 7 := h.mo.2.2.2.1
      have l10 := h.mo.2.2.2.2.1
      by_cases q : I 10 0 < 10
      · have ea : adT I x b = up2 (up2 (up2 (up2 I 7 x ((I 7 x + b) % 48)) 8 (I 10 0) x) 9 (I 10 0) b) 10 0 (I 10 0 + 1) := by
          unfold adT
          rw [if_pos q]
          rfl
        have eb : adJ J x b = adX J (I 10 0) x b (J 16 (1 + x)) := by
          unfold adJ
          rw [if_neg (by omega), e10]
        rw [ea, eb]
        obtain ⟨a1, a2, a3, a4, a5, a6, a7, a8, a9, a10, a11, a12, a13⟩ := h
        have hJ : adX J (I 10 0) x b (J 16 (1 + x)) 16 = upN (upN (upN (upN (J 16) (8 + I 10 0) x) (18 + I 10 0) b) 7 (I 10 0 + 1)) (1 + x) ((J 16 (1 + x) + b) % 48) := rfl
        have hm := MoR_tur a7 (x := x) (b := b) (by omega) (by omega) q
        refine ⟨a1, a2, a3, a4, a5, a6, ?_, MoR_g a8 (fun j h1 _ => ?_), MoR_g a9 (fun j h1 _ => ?_), a10, a11, a12, a13⟩
        · rw [hJ]; exact hm
        · rw [hJ, upN_ne' (by omega), upN_ne' (by omega), upN_ne' (by omega), upN_ne' (by omega)]
        · rw [hJ, upN_ne' (by omega), upN_ne' (by omega), upN_ne' (by omega), upN_ne' (by omega)]
      · have q10 : I 10 0 = 10 := by omega
        have ea : adT I x b = up2 (up2 (up2 (lsT (up2 I 7 x ((I 7 x + b) % 48))) 8 9 x) 9 9 b) 10 0 10 := by
          unfold adT
          rw [if_neg q]
          rfl
        have eb : adJ J x b = adX (up2 (upA J 16 (shfJ (J 16) 9)) 16 7 9) 9 x b (J 16 (1 + x)) := by
          unfold adJ
          rw [if_pos (by omega)]
        rw [ea, eb]
        obtain ⟨a1, a2, a3, a4, a5, a6, a7, a8, a9, a10, a11, a12, a13⟩ := h
        have eu : up2 (upA J 16 (shfJ (J 16) 9)) 16 7 9 16 = upN (shfJ (J 16) 9) 7 9 := rfl
        have ev : J 16 (1 + x) = upN (shfJ (J 16) 9) 7 9 (1 + x) := by rw [upN_ne' (by omega), shfJ_lo _ _ (by omega)]
        have hJ : adX (up2 (upA J 16 (shfJ (J 16) 9)) 16 7 9) 9 x b (J 16 (1 + x)) 16 = upN (upN (upN (upN (upN (shfJ (J 16) 9) 7 9) (8 + 9) x) (18 + 9) b) 7 (9 + 1)) (1 + x) ((J 16 (1 + x) + b) % 48) := rfl
        rw [q10] at a7
        have hm := MoR_tur (MoR_sh a7) (x := x) (b := b) (by omega) (by omega) (by decide)
        rw [← ev] at hm
        have hs : ∀ j, 28 ≤ j → shfJ (J 16) 9 j = J 16 j := fun j hj => by unfold shfJ; rw [if_neg (by omega), if_neg (by omega)]
        refine ⟨a1, a2, a3, a4, a5, a6, ?_, MoR_g a8 (fun j h1 _ => ?_), MoR_g a9 (fun j h1 _ => ?_), a10, a11, a12, a13⟩
        · rw [hJ]; exact hm
        · rw [hJ, upN_ne' (by omega), upN_ne' (by omega), upN_ne' (by omega), upN_ne' (by omega), upN_ne' (by omega), hs _ (by omega)]
        · rw [hJ, upN_ne' (by omega), upN_ne' (by omega), upN_ne' (by omega), upN_ne' (by omega), upN_ne' (by omega), hs _ (by omega)]
theorem kp_undo (h : Rel I J) : Rel (undI I) (undJ J) := by
  have e10 : I 10 0 = J 16 7 := h.mo.2.2.2.1
  unfold undI undJ
  by_cases z : I 10 0 = 0
  · rw [if_pos z, if_pos (by omega)]; exact h
  · rw [if_neg z, if_neg (by omega)]
    obtain ⟨a1, a2, a3, a4, a5, a6, a7, a8, a9, a10, a11, a12, a13⟩ := h
    have b8 : J 16 (8 + (J 16 7 - 1)) < 6 := by
      have a := a7.2.2.2.2.2 (I 10 0 - 1) (by omega)
      rw [show 0 + 8 + (I 10 0 - 1) = 8 + (J 16 7 - 1) by omega] at a
      rw [← a.1]
      exact a.2.2.1
    have hJ : tkJ J 16 = upN (upN (J 16) 7 (J 16 7 - 1)) (1 + J 16 (8 + (J 16 7 - 1))) ((J 16 (1 + J 16 (8 + (J 16 7 - 1))) + 48 - J 16 (18 + (J 16 7 - 1))) % 48) := rfl
    refine ⟨a1, a2, a3, a4, a5, a6, ?_, MoR_g a8 (fun j h1 _ => ?_), MoR_g a9 (fun j h1 _ => ?_), a10, a11, a12, a13⟩
    · rw [hJ]; exact MoR_und a7 (by omega)
    · rw [hJ, upN_ne' (by omega), upN_ne' (by omega)]
    · rw [hJ, upN_ne' (by omega), upN_ne' (by omega)]
theorem kp_errand (h : Rel I J) (p0 p1 p2 p3 : Int32) : Rel (errI I p0 p1 p2 p3) (errJ J p0 p1 p2 p3) := by
  unfold errI errJ
  have n6 := rl_n6 h
  rw [rl_n h, h.er.1]
  rcases e : okE (J 2 0) p0 p1 p2 p3 with _ | _
  · exact h
  · simp only [cond_true]
    by_cases z : J 19 0 < 4
    · rw [if_pos z, if_pos z]
      unfold okE at e
      rw [Bool.and_eq_true, Bool.and_eq_true, Bool.and_eq_true] at e
      obtain ⟨e0, e1, e2, e3⟩ := e
      obtain ⟨x, hx, rfl⟩ := inB_t (by omega) e0
      obtain ⟨f, hf, rfl⟩ := inB_t (by decide) e1
      obtain ⟨t, ht, rfl⟩ := inB_t (by decide) e2
      obtain ⟨s, _, hs, rfl⟩ := wi_of (by decide) (by decide) e3
      rw [tn_nI (show x < 2 ^ 31 by omega), tn_nI (show f < 2 ^ 31 by omega), tn_nI (show t < 2 ^ 31 by omega), tn_nI (show s < 2 ^ 31 by omega)]
      obtain ⟨a1, a2, a3, a4, a5, a6, a7, a8, a9, a10, a11, a12, a13⟩ := h
      have ec := a11.1
      refine ⟨a1, a2, a3, a4, a5, a6, a7, a8, a9, a10, ⟨(show I 44 0 + 1 = J 19 0 + 1 by rw [ec]), (show J 19 0 + 1 ≤ 4 by omega), fun k hk => ?_⟩, a12, a13⟩
      have hk : k < J 19 0 + 1 := hk
      show upN (I 40) (I 44 0) x k = upN (upN (upN (upN (J 18) (4 * J 19 0) x) (4 * J 19 0 + 1) f) (4 * J 19 0 + 2) t) (4 * J 19 0 + 3) s (4 * k) ∧ upN (I 41) (I 44 0) f k = upN (upN (upN (upN (J 18) (4 * J 19 0) x) (4 * J 19 0 + 1) f) (4 * J 19 0 + 2) t) (4 * J 19 0 + 3) s (4 * k + 1) ∧ upN (I 42) (I 44 0) t k = upN (upN (upN (upN (J 18) (4 * J 19 0) x) (4 * J 19 0 + 1) f) (4 * J 19 0 + 2) t) (4 * J 19 0 + 3) s (4 * k + 2) ∧ upN (I 43) (I 44 0) s k = upN (upN (upN (upN (J 18) (4 * J 19 0) x) (4 * J 19 0 + 1) f) (4 * J 19 0 + 2) t) (4 * J 19 0 + 3) s (4 * k + 3) ∧ upN (upN (upN (upN (J 18) (4 * J 19 0) x) (4 * J 19 0 + 1) f) (4 * J 19 0 + 2) t) (4 * J 19 0 + 3) s (4 * k) < J 2 0 ∧ upN (upN (upN (upN (J 18) (4 * J 19 0) x) (4 * J 19 0 + 1) f) (4 * J 19 0 + 2) t) (4 * J 19 0 + 3) s (4 * k + 1) < 48 ∧ upN (upN (upN (upN (J 18) (4 * J 19 0) x) (4 * J 19 0 + 1) f) (4 * J 19 0 + 2) t) (4 * J 19 0 + 3) s (4 * k + 2) < 48 ∧ upN (upN (upN (upN (J 18) (4 * J 19 0) x) (4 * J 19 0 + 1) f) (4 * J 19 0 + 2) t) (4 * J 19 0 + 3) s (4 * k + 3) ≤ 9
      rw [ec]
      by_cases q : k = J 19 0
      · subst q
        rw [upN_eq, upN_eq, upN_eq, upN_eq]
        have r0 : upN (upN (upN (upN (J 18) (4 * J 19 0) x) (4 * J 19 0 + 1) f) (4 * J 19 0 + 2) t) (4 * J 19 0 + 3) s (4 * J 19 0) = x := by rw [upN_ne' (by omega), upN_ne' (by omega), upN_ne' (by omega), upN_eq]
        have r1 : upN (upN (upN (upN (J 18) (4 * J 19 0) x) (4 * J 19 0 + 1) f) (4 * J 19 0 + 2) t) (4 * J 19 0 + 3) s (4 * J 19 0 + 1) = f := by rw [upN_ne' (by omega), upN_ne' (by omega), upN_eq]
        have r2 : upN (upN (upN (upN (J 18) (4 * J 19 0) x) (4 * J 19 0 + 1) f) (4 * J 19 0 + 2) t) (4 * J 19 0 + 3) s (4 * J 19 0 + 2) = t := by rw [upN_ne' (by omega), upN_eq]
        have r3 : upN (upN (upN (upN (J 18) (4 * J 19 0) x) (4 * J 19 0 + 1) f) (4 * J 19 0 + 2) t) (4 * J 19 0 + 3) s (4 * J 19 0 + 3) = s := upN_eq _ _ _
        rw [r0, r1, r2, r3]
        exact ⟨rfl, rfl, rfl, rfl, hx, hf, ht, hs⟩
      · have r : ∀ i, i < 4 → upN (upN (upN (upN (J 18) (4 * J 19 0) x) (4 * J 19 0 + 1) f) (4 * J 19 0 + 2) t) (4 * J 19 0 + 3) s (4 * k + i) = J 18 (4 * k + i) := fun i hi => by
          rw [upN_ne' (by omega), upN_ne' (by omega), upN_ne' (by omega), upN_ne' (by omega)]
        have r0 : upN (upN (upN (upN (J 18) (4 * J 19 0) x) (4 * J 19 0 + 1) f) (4 * J 19 0 + 2) t) (4 * J 19 0 + 3) s (4 * k) = J 18 (4 * k) := r 0 (by decide)
        rw [upN_ne' q, upN_ne' q, upN_ne' q, upN_ne' q, r0, r 1 (by decide), r 2 (by decide), r 3 (by decide)]
        exact a11.2.2 k (by omega)
    · rw [if_neg z, if_neg z]
      exact h
theorem kp_rests (h : Rel I J) : Rel (up2 I 44 0 0) (up2 J 19 0 0) := by
  obtain ⟨a1, a2, a3, a4, a5, a6, a7, a8, a9, a10, a11, a12, a13⟩ := h
  exact ⟨a1, a2, a3, a4, a5, a6, a7, a8, a9, a10, ⟨rfl, Nat.zero_le _, fun k hk => absurd hk (Nat.not_lt_zero k)⟩, a12, a13⟩
theorem kp_forget (h : Rel I J) : Rel (up2 I 47 0 0) (up2 J 24 0 0) := by
  obtain ⟨a1, a2, a3, a4, a5, a6, a7, a8, a9, a10, a11, a12, a13⟩ := h
  exact ⟨a1, a2, a3, a4, a5, a6, a7, a8, a9, a10, a11, ⟨rfl, Nat.zero_le _, fun k hk => absurd hk (Nat.not_lt_zero k)⟩, a13⟩
theorem kp_soonest (h : Rel I J) (p0 p1 : Int32) : Rel I (sooJ J p0 p1) := by
  unfold sooJ
  rcases inB p0 (J 2 0) with _ | _
  · exact h
  · simp only [cond_true]
    split
    · exact h
    · exact h
theorem kp_treaty (h : Rel I J) (p0 p1 p2 : Int32) : Rel (treI I p0 p1 p2) J := by
  unfold treI
  rcases hb2 (I 13 0) p0 p1 with _ | _
  · exact h
  · rcases wi p2 (nI 0) (nI 1) with _ | _
    · exact h
    · exact h
theorem kp_due (h : Rel I J) (p0 : Int32) : Rel (dueI I p0) J := by
  unfold dueI
  split
  · exact h
  · exact h
theorem kp_saw (h : Rel I J) (p0 p1 : Int32) : Rel (sawI I p0 p1) (sawJ J p0 p1) := by
  unfold sawI sawJ
  rw [h.wa.1]
  rcases e : inB p0 96 with _ | _
  · exact h
  · obtain ⟨t, ht, rfl⟩ := inB_t (by decide) e
    rcases e2 : inB p1 48 with _ | _
    · exact h
    · obtain ⟨n, hn, rfl⟩ := inB_t (by decide) e2
      simp only [cond_true]
      by_cases z : J 24 0 < 8
      · rw [if_pos z, if_pos z, tn_nI (show t < 2 ^ 31 by omega), tn_nI (show n < 2 ^ 31 by omega)]
        obtain ⟨a1, a2, a3, a4, a5, a6, a7, a8, a9, a10, a11, a12, a13⟩ := h
        have ec := a12.1
        refine ⟨a1, a2, a3, a4, a5, a6, a7, a8, a9, a10, a11, ⟨(show I 47 0 + 1 = J 24 0 + 1 by rw [ec]), (show J 24 0 + 1 ≤ 8 by omega), fun k hk => ?_⟩, a13⟩
        have hk : k < J 24 0 + 1 := hk
        show upN (I 45) (I 47 0) t k = upN (J 22) (J 24 0) t k ∧ upN (I 46) (I 47 0) n k = upN (J 23) (J 24 0) n k ∧ upN (J 22) (J 24 0) t k < 96 ∧ upN (J 23) (J 24 0) n k < 48
        rw [ec]
        by_cases q : k = J 24 0
        · subst q
          rw [upN_eq, upN_eq, upN_eq, upN_eq]
          exact ⟨rfl, rfl, ht, hn⟩
        · rw [upN_ne' q, upN_ne' q, upN_ne' q, upN_ne' q]
          exact a12.2.2 k (by omega)
      · rw [if_neg z, if_neg z]
        exact h
theorem kp_owes (h : Rel I J) (p0 p1 p2 : Int32) : Rel (oweI I p0 p1 p2) (oweJ J p0 p1 p2) := by
  unfold oweI oweJ
  have n6 := rl_n6 h
  rw [rl_n h, h.de.1]
  rcases e : hb2 (J 2 0) p0 p1 with _ | _
  · exact h
  · obtain ⟨x, y, hx, hy, _, rfl, rfl⟩ := hb2_t (by omega) e
    rcases e2 : inB p2 48 with _ | _
    · exact h
    · obtain ⟨n, hn, rfl⟩ := inB_t (by decide) e2
      simp only [cond_true]
      by_cases z : J 26 0 < 8
      · rw [if_pos z, if_pos z, tn_nI (show x < 2 ^ 31 by omega), tn_nI (show y < 2 ^ 31 by omega), tn_nI (show n < 2 ^ 31 by omega)]
        obtain ⟨a1, a2, a3, a4, a5, a6, a7, a8, a9, a10, a11, a12, a13⟩ := h
        have ec := a13.1
        refine ⟨a1, a2, a3, a4, a5, a6, a7, a8, a9, a10, a11, a12, ⟨(show I 55 0 + 1 = J 26 0 + 1 by rw [ec]), (show J 26 0 + 1 ≤ 8 by omega), fun k hk => ?_⟩⟩
        have hk : k < J 26 0 + 1 := hk
        show upN (I 50) (I 55 0) x k = upN (upN (upN (J 25) (3 * J 26 0) x) (3 * J 26 0 + 1) y) (3 * J 26 0 + 2) n (3 * k) ∧ upN (I 51) (I 55 0) y k = upN (upN (upN (J 25) (3 * J 26 0) x) (3 * J 26 0 + 1) y) (3 * J 26 0 + 2) n (3 * k + 1) ∧ upN (I 52) (I 55 0) n k = upN (upN (upN (J 25) (3 * J 26 0) x) (3 * J 26 0 + 1) y) (3 * J 26 0 + 2) n (3 * k + 2) ∧ upN (upN (upN (J 25) (3 * J 26 0) x) (3 * J 26 0 + 1) y) (3 * J 26 0 + 2) n (3 * k) < J 2 0 ∧ upN (upN (upN (J 25) (3 * J 26 0) x) (3 * J 26 0 + 1) y) (3 * J 26 0 + 2) n (3 * k + 1) < J 2 0 ∧ upN (upN (upN (J 25) (3 * J 26 0) x) (3 * J 26 0 + 1) y) (3 * J 26 0 + 2) n (3 * k + 2) < 48
        rw [ec]
        by_cases q : k = J 26 0
        · subst q
          have r0 : upN (upN (upN (J 25) (3 * J 26 0) x) (3 * J 26 0 + 1) y) (3 * J 26 0 + 2) n (3 * J 26 0) = x := by rw [upN_ne' (by omega), upN_ne' (by omega), upN_eq]
          have r1 : upN (upN (upN (J 25) (3 * J 26 0) x) (3 * J 26 0 + 1) y) (3 * J 26 0 + 2) n (3 * J 26 0 + 1) = y := by rw [upN_ne' (by omega), upN_eq]
          have r2 : upN (upN (upN (J 25) (3 * J 26 0) x) (3 * J 26 0 + 1) y) (3 * J 26 0 + 2) n (3 * J 26 0 + 2) = n := upN_eq _ _ _
          rw [upN_eq, upN_eq, upN_eq, r0, r1, r2]
          exact ⟨rfl, rfl, rfl, hx, hy, hn⟩
        · have r : ∀ i, i < 3 → upN (upN (upN (J 25) (3 * J 26 0) x) (3 * J 26 0 + 1) y) (3 * J 26 0 + 2) n (3 * k + i) = J 25 (3 * k + i) := fun i hi => by
            rw [upN_ne' (by omega), upN_ne' (by omega), upN_ne' (by omega)]
          have r0 : upN (upN (upN (J 25) (3 * J 26 0) x) (3 * J 26 0 + 1) y) (3 * J 26 0 + 2) n (3 * k) = J 25 (3 * k) := r 0 (by decide)
          rw [upN_ne' q, upN_ne' q, upN_ne' q, r0, r 1 (by decide), r 2 (by decide)]
          exact a13.2.2 k (by omega)
      · rw [if_neg z, if_neg z]
        exact h
theorem KeR_up {a b : Nat → Nat} (h : KeR a b) (i : Nat) : KeR (upN a i 1) (upN b i 1) := by
  intro j hj
  by_cases z : j = i
  · subst z; rw [upN_eq, upN_eq]; exact ⟨rfl, by decide⟩
  · rw [upN_ne' z, upN_ne' z]; exact h j hj
theorem kp_keep (h : Rel I J) (p0 : Int32) : Rel (keepI I p0) (keepJ J p0) := by
  unfold keepI keepJ
  rcases e : wi p0 (nI 0) (nI 1) with _ | _
  · exact h
  · obtain ⟨j, _, hj, rfl⟩ := wi_of (by decide) (by decide) e
    simp only [cond_true]
    rw [tn_nI (by omega)]
    obtain ⟨a1, a2, a3, a4, a5, a6, a7, a8, a9, a10, a11, a12, a13⟩ := h
    rcases (show j = 0 ∨ j = 1 by omega) with rfl | rfl
    · rw [if_pos rfl]
      exact ⟨a1, a2, a3, a4, a5, a6, MoR_g a7 (fun j _ h2 => cp_out (by omega)), MoR_cp a7, MoR_g a9 (fun j h1 _ => cp_out (by omega)), KeR_up a10 0, a11, a12, a13⟩
    · rw [if_neg (by decide)]
      exact ⟨a1, a2, a3, a4, a5, a6, MoR_g a7 (fun j _ h2 => cp_out (by omega)), MoR_g a8 (fun j _ h2 => cp_out (by omega)), MoR_cp a7, KeR_up a10 1, a11, a12, a13⟩
theorem kp_back (h : Rel I J) (p0 : Int32) : Rel (backI I p0) (backJ J p0) := by
  unfold backI backJ
  rcases e : wi p0 (nI 0) (nI 1) with _ | _
  · exact h
  · obtain ⟨j, _, hj, rfl⟩ := wi_of (by decide) (by decide) e
    simp only [cond_true]
    rw [tn_nI (by omega), (h.ke j (by omega)).1]
    by_cases z : J 17 j = 0
    · rw [if_pos z, if_pos z]; exact h
    · rw [if_neg z, if_neg z]
      obtain ⟨a1, a2, a3, a4, a5, a6, a7, a8, a9, a10, a11, a12, a13⟩ := h
      rcases (show j = 0 ∨ j = 1 by omega) with rfl | rfl
      · rw [if_pos rfl]
        exact ⟨a1, a2, a3, a4, a5, a6, MoR_cp a8, MoR_g a8 (fun j h1 _ => cp_out (by omega)), MoR_g a9 (fun j h1 _ => cp_out (by omega)), a10, a11, a12, a13⟩
      · rw [if_neg (by decide)]
        exact ⟨a1, a2, a3, a4, a5, a6, MoR_cp a9, MoR_g a8 (fun j h1 _ => cp_out (by omega)), MoR_g a9 (fun j h1 _ => cp_out (by omega)), a10, a11, a12, a13⟩
theorem ToR_c {n w n' w' : Nat} {s p q l d0 d1 d2 d3 d4 d5 s' p' q' l' la lb s2 p2 q2 l2 a2 b2 : Nat → Nat} (h : ToR n w s p q l d0 d1 d2 d3 d4 d5 n' w' s' p' q' l' la lb) (e : ∀ x, x < 6 → s2 x = s' x ∧ p2 x = p' x ∧ q2 x = q' x ∧ l2 x = l' x) (e2 : ∀ k, k < 12 → a2 k = la k ∧ b2 k = lb k) : ToR n w s p q l d0 d1 d2 d3 d4 d5 n' w' s2 p2 q2 l2 a2 b2 := by
  refine ⟨h.1, h.2.1, h.2.2.1, h.2.2.2.1, fun x hx => ?_⟩
  have n6 := h.2.1
  have a := h.2.2.2.2 x hx
  have b := e x (by omega)
  rw [b.1, b.2.1, b.2.2.1, b.2.2.2]
  refine ⟨a.1, a.2.1, a.2.2.1, a.2.2.2.1, a.2.2.2.2.1, a.2.2.2.2.2.1, a.2.2.2.2.2.2.1, a.2.2.2.2.2.2.2.1, a.2.2.2.2.2.2.2.2.1, fun t ht => ?_⟩
  have l2 := a.2.2.2.2.2.2.2.2.1
  rw [lsG_c (la' := la) (lb' := lb) (l' x) (fun i hi => e2 _ (by omega))]
  exact a.2.2.2.2.2.2.2.2.2 t ht
/-- what a town that is told, or not told, leaves -/
theorem kp_town (h : Rel I J) : (raI I).1 = r_town J ∧ ((raI I).1 < 0 → Rel (raI I).2 (toJ J)) ∧ (¬ (raI I).1 < 0 → Rel (baI (sgI (raI I).2)) (toJ J)) := by
  have ts := town_sim (rl_TKJ h) h.mr.2.2.1 h.mr.2.2.2.1 h.mr.2.2.2.2 h.tx.1 (fun k hk => (h.tx.2.2 k hk).1)
  have ti := twJ_inv (rl_TKJ h) h.mr.2.2.1 h.mr.2.2.2.1 h.mr.2.2.2.2 h.mr.1 h.mr.2.1
  have ci := raI_inv (rl_TK h) h.rd.1 h.rd.2.1 h.rd.2.2.1 (rl_DKs h) (rl_HKs h)
  obtain ⟨tR, tS, tL, tO⟩ := ti
  obtain ⟨cB, cH, cC⟩ := ci
  unfold r_town toJ
  generalize hr : (raI I).1 = r at *
  generalize hX : (raI I).2 = X at *
  generalize hY : (twJ J).1 = Y at *
  generalize hn : (twJ J).2 = n at *
  have hsp : CuR (X 28) (X 29) (X 30) (X 31) (X 32) (X 33) (X 34) (X 35) (X 36) (X 37) := fun x hx => by
    have a := cH x hx
    have b := cB.2.1.2 x hx
    refine ⟨a.1, a.2.1, a.2.2, b.1, fun t ht => ?_⟩
    have e : dl6 (X 32) (X 33) (X 34) (X 35) (X 36) (X 37) x = X (32 + x) := dl6_at X 32 x hx
    rw [e]
    exact b.2 t ht
  have hrd : RdR (X 3 0) (X 4 0) (X 5 0) (X 26 0) := ⟨cB.1.2.2.1, cB.1.2.2.2.1, cB.1.2.2.2.2, cB.2.1.1⟩
  have hmr : MrR (Y 7) (Y 8) (Y 9) (Y 11 0) (Y 12 0) (Y 13 0) := ⟨tS.2.1, tL, tR.2.2.1, tR.2.2.2.1, tR.2.2.2.2.1⟩
  obtain ⟨a1, a2, a3, a4, a5, a6, a7, a8, a9, a10, a11, a12, a13⟩ := h
  have tO1 := tO.1
  rcases ts with ⟨q1, q2, q3, q4⟩ | ⟨f, q1, q2, q3⟩
  · have q1 : Y 14 0 = 0 := by rw [← hY]; exact q1
    have q2 : r = nI n := by rw [← hr, ← hn]; exact q2
    have q3 : n ≤ 300 := by rw [← hn]; exact q3
    have q4 : HT X Y := by rw [← hX, ← hY]; exact q4
    have nl : ¬ r < 0 := by
      rw [q2]
      intro z
      have := Int32.lt_iff_toInt_lt.mp z
      rw [nI_toInt (by omega)] at this
      have e0 : (0 : Int32).toInt = 0 := by decide
      omega
    rw [if_pos q1, if_pos q1]
    refine ⟨q2, fun z => absurd z nl, fun _ => ?_⟩
    have m7 : MoR (flN (I 7) 6 0) (I 8) (I 9) 0 0 (flN (Y 16) 28 0) 0 := by
      refine ⟨fun x hx => ?_, ?_, by decide, ?_, by decide, fun i hi => absurd hi (Nat.not_lt_zero i)⟩
      · unfold flN
        rw [if_pos hx, if_pos (by omega)]
        exact ⟨rfl, by decide⟩
      · unfold flN
        rw [if_pos (by omega)]
      · unfold flN
        rw [if_pos (by omega)]
    have e16 : Y 16 = J 16 := tO1 16 (by decide)
    have f16 : ∀ j, 28 ≤ j → flN (Y 16) 28 0 j = J 16 j := fun j hj => by unfold flN; rw [if_neg (by omega), e16]
    have m8 := MoR_g (g' := flN (Y 16) 28 0) a8 (fun j h1 _ => f16 j (by omega))
    have m9 := MoR_g (g' := flN (Y 16) 28 0) a9 (fun j h1 _ => f16 j (by omega))
    have mk : KeR (flN (I 70) 2 0) (upN (upN (Y 17) 0 0) 1 0) := by
      intro j hj
      unfold flN
      rw [if_pos hj]
      rcases (show j = 0 ∨ j = 1 by omega) with rfl | rfl
      · rw [upN_ne' (by decide), upN_eq]; exact ⟨rfl, by decide⟩
      · rw [upN_eq]; exact ⟨rfl, by decide⟩
    have cq : ∀ (g : Nat → Nat) (o k j : Nat), j < k → cqF g o k j = g (o + j) := fun g o k j hj => by unfold cqF; rw [if_pos hj]
    have m2 : ToR (X 26 0) (X 27 0) (X 28) (X 29) (X 30) (X 31) (X 32) (X 33) (X 34) (X 35) (X 36) (X 37) (Y 2 1) (Y 3 1) (cqF (Y 4) 6 6) (cqF (Y 5) 6 6) (cqF (Y 6) 6 6) (cqF (Y 7) 6 6) (cqF (Y 8) 12 12) (cqF (Y 9) 12 12) := by
      refine ⟨q4.1, q4.2.2.2.1, q4.2.1, q4.2.2.2.2.1, fun x hx => ?_⟩
      have c6 := q4.2.2.2.1
      obtain ⟨b1, b2, b3, b4, b5, b6, b7, b8, b9, b10⟩ := q4.2.2.2.2.2.2 x hx
      rw [cq _ _ _ _ (show x < 6 by omega), cq _ _ _ _ (show x < 6 by omega), cq _ _ _ _ (show x < 6 by omega), cq _ _ _ _ (show x < 6 by omega)]
      refine ⟨b1, b2, b3, b4, b5, b6, b7, b8, b9, fun t ht => ?_⟩
      have e : dl6 (X 32) (X 33) (X 34) (X 35) (X 36) (X 37) x = X (32 + x) := dl6_at X 32 x (by omega)
      have el : ∀ i, i ≤ 2 → lsG (cqF (Y 8) 12 12) (cqF (Y 9) 12 12) x t i = lsG (Y 8) (Y 9) (6 + x) t i := by
        intro i
        induction i with
        | zero => intro _; rfl
        | succ i ih =>
          intro hi
          rw [lsG, lsG, ih (by omega), cq _ _ _ _ (show 2 * x + i < 12 by omega), cq _ _ _ _ (show 2 * x + i < 12 by omega), show 12 + (2 * x + i) = 2 * (6 + x) + i by omega]
      rw [e, el _ b9]
      exact b10 t ht
    have mm : MrR (cqF (Y 7) 6 6) (cqF (Y 8) 12 12) (cqF (Y 9) 12 12) (Y 11 0) (Y 12 0) (Y 13 0) := by
      refine ⟨fun x hx => ?_, fun k hk => ?_, hmr.2.2⟩
      · unfold cqF
        split
        · exact hmr.1 _ (by omega)
        · exact hmr.1 _ hx
      · unfold cqF
        split
        · exact hmr.2.1 _ (by omega)
        · exact hmr.2.1 _ hk
    have ms : CuR (X 15) (X 16) (X 17) (X 18) (X 20) (X 21) (X 22) (X 23) (X 24) (X 25) := by
      rw [cC 15 (by decide), cC 16 (by decide), cC 17 (by decide), cC 18 (by decide), cC 20 (by decide), cC 21 (by decide), cC 22 (by decide), cC 23 (by decide), cC 24 (by decide), cC 25 (by decide)]
      exact a3
    have n13 : X 13 0 ≤ 6 := by rw [cC 13 (by decide), a2.1]; exact a2.2.1
    refine ⟨⟨rfl, Nat.zero_le _, fun k hk => absurd hk (Nat.not_lt_zero k)⟩, m2, hsp, ms, ⟨hrd.1, hrd.2.1, hrd.2.2.1, n13⟩, mm, ?_, ?_, ?_, ?_, ⟨rfl, Nat.zero_le _, fun k hk => absurd hk (Nat.not_lt_zero k)⟩, ⟨rfl, Nat.zero_le _, fun k hk => absurd hk (Nat.not_lt_zero k)⟩, ⟨rfl, Nat.zero_le _, fun k hk => absurd hk (Nat.not_lt_zero k)⟩⟩
    · show MoR (flN (X 7) 6 0) (X 8) (X 9) 0 0 (flN (Y 16) 28 0) 0
      rw [cC 7 (by decide), cC 8 (by decide), cC 9 (by decide)]
      exact m7
    · show MoR (X 60) (X 61) (X 62) (X 63 0) (X 64 0) (flN (Y 16) 28 0) 28
      rw [cC 60 (by decide), cC 61 (by decide), cC 62 (by decide), cC 63 (by decide), cC 64 (by decide)]
      exact m8
    · show MoR (X 65) (X 66) (X 67) (X 68 0) (X 69 0) (flN (Y 16) 28 0) 56
      rw [cC 65 (by decide), cC 66 (by decide), cC 67 (by decide), cC 68 (by decide), cC 69 (by decide)]
      exact m9
    · show KeR (flN (X 70) 2 0) (upN (upN (Y 17) 0 0) 1 0)
      rw [cC 70 (by decide)]
      exact mk
  · have q2 : Y 14 0 = f + 9 := by rw [← hY]; exact q2
    have q3 : r = -10 - nI f := by rw [← hr]; exact q3
    have ne : ¬ Y 14 0 = 0 := by omega
    have neg : r < 0 := by
      rw [q3]
      have e : (-10 : Int32) = nI 0 - nI 10 := by decide
      refine Int32.lt_iff_toInt_lt.mpr ?_
      have e2 : (-10 : Int32) - nI f = nI 0 - nI (10 + f) := by
        rw [e, ← nI_add, Int32.sub_eq_add_neg, Int32.sub_eq_add_neg, Int32.sub_eq_add_neg, Int32.neg_add, Int32.sub_eq_add_neg, Int32.add_assoc]
      rw [e2, pk_sub_toInt (by decide) (by omega)]
      have e0 : (0 : Int32).toInt = 0 := by decide
      omega
    rw [if_neg ne, if_neg ne]
    refine ⟨by rw [q3, q2, rN_9], fun _ => ?_, fun z => absurd neg z⟩
    have m2 := ToR_c a2 (s2 := Y 4) (p2 := Y 5) (q2 := Y 6) (l2 := Y 7) (a2 := Y 8) (b2 := Y 9) tO.2.2.2.1 tO.2.2.2.2
    unfold Rel
    rw [cC 0 (by decide), cC 1 (by decide), cC 7 (by decide), cC 8 (by decide), cC 9 (by decide), cC 10 (by decide), cC 11 (by decide), cC 13 (by decide), cC 14 (by decide), cC 15 (by decide), cC 16 (by decide), cC 17 (by decide), cC 18 (by decide), cC 20 (by decide), cC 21 (by decide), cC 22 (by decide), cC 23 (by decide), cC 24 (by decide), cC 25 (by decide), cC 40 (by decide), cC 41 (by decide), cC 42 (by decide), cC 43 (by decide), cC 44 (by decide), cC 45 (by decide), cC 46 (by decide), cC 47 (by decide), cC 50 (by decide), cC 51 (by decide), cC 52 (by decide), cC 55 (by decide), cC 60 (by decide), cC 61 (by decide), cC 62 (by decide), cC 63 (by decide), cC 64 (by decide), cC 65 (by decide), cC 66 (by decide), cC 67 (by decide), cC 68 (by decide), cC 69 (by decide), cC 70 (by decide), tO1 0 (by decide), tO1 1 (by decide), tO1 16 (by decide), tO1 17 (by decide), tO1 18 (by decide), tO1 19 (by decide), tO1 22 (by decide), tO1 23 (by decide), tO1 24 (by decide), tO1 25 (by decide), tO1 26 (by decide), tO.2.1, tO.2.2.1]
    exact ⟨a1, m2, a3, hsp, hrd, hmr, a7, a8, a9, a10, a11, a12, a13⟩
end KEEP
/-- two fresh ones -/
theorem Rel_0 : Rel i0C i0M := by
  refine ⟨⟨rfl, Nat.zero_le _, fun k hk => absurd hk (Nat.not_lt_zero k)⟩, ⟨rfl, Nat.zero_le _, rfl, (by decide), fun k hk => absurd hk (Nat.not_lt_zero k)⟩, fun x hx => ?_, fun x hx => ?_, ⟨Nat.zero_le _, Nat.zero_le _, Nat.zero_le _, Nat.zero_le _⟩, ⟨fun _ _ => Nat.zero_le _, fun _ _ => ⟨(by decide : 0 < 96), (by decide : 0 < 48)⟩, Nat.zero_le _, Nat.zero_le _, Nat.zero_le _⟩, ?_, ?_, ?_, fun j hj => ⟨rfl, (by decide : 0 < 2)⟩, ⟨rfl, Nat.zero_le _, fun k hk => absurd hk (Nat.not_lt_zero k)⟩, ⟨rfl, Nat.zero_le _, fun k hk => absurd hk (Nat.not_lt_zero k)⟩, ⟨rfl, Nat.zero_le _, fun k hk => absurd hk (Nat.not_lt_zero k)⟩⟩
  · refine ⟨(by decide : 0 < 48), (by decide : 1 ≤ 9), (by decide : 1 ≤ 9), (by decide : 0 ≤ 2), fun t _ => ?_⟩
    have e : dl6 (i0C 20) (i0C 21) (i0C 22) (i0C 23) (i0C 24) (i0C 25) x t = 0 := by
      rcases (show x = 0 ∨ x = 1 ∨ x = 2 ∨ x = 3 ∨ x = 4 ∨ x = 5 by omega) with rfl | rfl | rfl | rfl | rfl | rfl <;> rfl
    rw [e]
    decide
  · refine ⟨(by decide : 0 < 48), (by decide : 1 ≤ 9), (by decide : 1 ≤ 9), (by decide : 0 ≤ 2), fun t _ => ?_⟩
    have e : dl6 (i0C 32) (i0C 33) (i0C 34) (i0C 35) (i0C 36) (i0C 37) x t = 0 := by
      rcases (show x = 0 ∨ x = 1 ∨ x = 2 ∨ x = 3 ∨ x = 4 ∨ x = 5 by omega) with rfl | rfl | rfl | rfl | rfl | rfl <;> rfl
    rw [e]
    decide
  · exact ⟨fun x hx => ⟨rfl, (by decide : 0 < 48)⟩, rfl, (by decide : 0 ≤ 95), rfl, (by decide : 0 ≤ 10), fun i hi => absurd hi (Nat.not_lt_zero i)⟩
  · exact ⟨fun x hx => ⟨rfl, (by decide : 0 < 48)⟩, rfl, (by decide : 0 ≤ 95), rfl, (by decide : 0 ≤ 10), fun i hi => absurd hi (Nat.not_lt_zero i)⟩
  · exact ⟨fun x hx => ⟨rfl, (by decide : 0 < 48)⟩, rfl, (by decide : 0 ≤ 95), rfl, (by decide : 0 ≤ 10), fun i hi => absurd hi (Nat.not_lt_zero i)⟩
