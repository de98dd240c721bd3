/-! PURE 28: the whole text, read by both -/
theorem tw_stop {X : Nat → Nat → Nat} (h : X 14 0 ≠ 0) : ∀ k i, twK k X i = (X, i) := by
  intro k i
  cases k with
  | zero => rfl
  | succ k => exact tw_e (fun z => h z.1)
/-- what the whole text comes to, on both sides -/
def TR (r : Int32 × (Nat → Nat → Nat)) (w : (Nat → Nat → Nat) × Nat) : Prop := (w.1 14 0 = 0 ∧ r.1 = nI w.2 ∧ w.2 ≤ 300 ∧ HT r.2 w.1) ∨ (∃ f, f ≤ 300 ∧ w.1 14 0 = f + 9 ∧ r.1 = -10 - nI f)
theorem lp_sim : ∀ k k' X Y i, 301 ≤ k + i → k ≤ k' → TKE (stI X) Y → HT X Y → Y 14 0 = 0 → TN Y → i ≤ Y 11 0 → TR (raK k X i) (twK k' Y i) := by
  intro k
  induction k with
  | zero =>
    intro k' X Y i h1 _ _ _ _ h6 h7
    have := h6.1.2.2.1
    omega
  | succ k ih =>
    intro k' X Y i h1 h2 h3 h4 h5 h6 h7
    obtain ⟨m, rfl⟩ : ∃ m, k' = m + 1 := ⟨k' - 1, by omega⟩
    have b11 := h6.1.2.2.1
    by_cases c : stI X 4 0 = 0
    · have e : Y 12 0 = 3 := by rw [h3.2.2.2.2.1]; exact kc_3.mpr c
      rw [ra_0 c, tw_e (fun z => z.2 e)]
      exact Or.inl ⟨h5, rfl, by omega, HT_st h4⟩
    · have e : ¬ Y 12 0 = 3 := by rw [h3.2.2.2.2.1]; exact fun q => c (kc_3.mp q)
      rw [tw_s h5 e]
      have hr := ri_tok h6 e
      rcases it_sim h3 (HT_st h4) h5 with ⟨q1, q2, q3, q4⟩ | ⟨q1, q2⟩
      · rw [ra_t (Nat.pos_of_ne_zero c) (show itI (stI X) = ((itI (stI X)).1, (itI (stI X)).2) from rfl) q1]
        exact ih m _ _ (i + 1) (by omega) (by omega) q3 q4 q2 hr.1 (by have := hr.2.2 q2; omega)
      · rw [ra_f (Nat.pos_of_ne_zero c) (show itI (stI X) = ((itI (stI X)).1, (itI (stI X)).2) from rfl) q1, tw_stop (by rw [q2]; omega)]
        refine Or.inr ⟨(itI (stI X)).2 3 0, ?_, q2, rfl⟩
        have := hr.1.1.2.2.2.2.2
        omega
def tb0 (J : Nat → Nat → Nat) : Nat → Nat → Nat := up2 (up2 (up2 (up2 (up2 J 10 0 0) 14 0 0) 15 0 0) 2 1 0) 3 1 1
theorem RJ_b {J : Nat → Nat → Nat} (hT : TK J) (h11 : J 11 0 ≤ 300) (h12 : J 12 0 ≤ 6) (h13 : J 13 0 ≤ 999) : RJ (tb0 J) := ⟨hT, Nat.zero_le _, h11, h12, h13, Nat.zero_le _⟩
theorem town_sim {I J : Nat → Nat → Nat} (hT : TK J) (h11 : J 11 0 ≤ 300) (h12 : J 12 0 ≤ 6) (h13 : J 13 0 ≤ 999) (e1 : I 1 0 = J 1 0) (e0 : ∀ k, k < J 1 0 → I 0 k = J 0 k) : TR (raI I) (twJ J) := by
  have hR := RJ_b hT h11 h12 h13
  have hB : HT (ra0 I) (tb0 J) := ⟨rfl, rfl, rfl, Nat.zero_le _, (show 1 ≤ 9 by decide), (show 0 < 2 by decide), fun h hh => absurd hh (Nat.not_lt_zero h)⟩
  exact lp_sim 301 1000 (ra0 I) (tw0 J) 0 (by decide) (by decide) (tke_0 (X := ra0 I) (Y := tb0 J) e1 e0 rfl) (HT_nx hB) (by show nxJ (tb0 J) 14 0 = 0; rw [nx_14]; rfl) (nx_tok hR).1 (Nat.zero_le _)
/-- what the reference's reading leaves as it was -/
def LO (Y J : Nat → Nat → Nat) : Prop := (∀ k, (k < 2 ∨ 16 ≤ k) → Y k = J k) ∧ Y 2 0 = J 2 0 ∧ Y 3 0 = J 3 0 ∧ (∀ h, h < 6 → Y 4 h = J 4 h ∧ Y 5 h = J 5 h ∧ Y 6 h = J 6 h ∧ Y 7 h = J 7 h) ∧ ∀ k, k < 12 → Y 8 k = J 8 k ∧ Y 9 k = J 9 k
theorem LO.tr {A B C : Nat → Nat → Nat} (h : LO A B) (g : LO B C) : LO A C := ⟨fun k hk => (h.1 k hk).trans (g.1 k hk), h.2.1.trans g.2.1, h.2.2.1.trans g.2.2.1, fun x hx => ⟨(h.2.2.2.1 x hx).1.trans (g.2.2.2.1 x hx).1, (h.2.2.2.1 x hx).2.1.trans (g.2.2.2.1 x hx).2.1, (h.2.2.2.1 x hx).2.2.1.trans (g.2.2.2.1 x hx).2.2.1, (h.2.2.2.1 x hx).2.2.2.trans (g.2.2.2.1 x hx).2.2.2⟩, fun k hk => ⟨(h.2.2.2.2 k hk).1.trans (g.2.2.2.2 k hk).1, (h.2.2.2.2 k hk).2.trans (g.2.2.2.2 k hk).2⟩⟩
theorem LO.of {A B : Nat → Nat → Nat} (h : ∀ k, (k < 10 ∨ 16 ≤ k) → A k = B k) : LO A B := by
  unfold LO
  rw [h 2 (by decide), h 3 (by decide), h 4 (by decide), h 5 (by decide), h 6 (by decide), h 7 (by decide), h 8 (by decide), h 9 (by decide)]
  exact ⟨fun k hk => h k (by omega), rfl, rfl, fun _ _ => ⟨rfl, rfl, rfl, rfl⟩, fun _ _ => ⟨rfl, rfl⟩⟩
theorem LO.rf (A : Nat → Nat → Nat) : LO A A := LO.of (fun _ _ => rfl)
theorem LO_wa (J : Nat → Nat → Nat) (z : Nat) : LO (waJ J z) J := LO.of (fun k hk => waJ_off J z (by omega))
theorem LO_nx (J : Nat → Nat → Nat) : LO (nxJ J) J := LO.of (fun k hk => nxJ_off J (by omega))
theorem LO_ho (J : Nat → Nat → Nat) : LO (hoJ J) J := by
  have eo : ∀ k, (k < 2 ∨ 16 ≤ k) → hoJ J k = J k := fun k hk => by
    rw [hoJ_o J (by omega), ho3_o J (by omega), waJ_off _ _ (by omega), ho2_o J (by omega), waJ_off _ _ (by omega), ho1_o J (by omega), waJ_off _ _ (by omega)]
  refine ⟨eo, ?_, by rw [hoJ_e (by decide)], fun h hh => ?_, fun k hk => ?_⟩
  · show upN (up2 (ho3 J) 7 (6 + J 2 1) 0 2) 1 (ho3 J 2 1 + 1) 0 = J 2 0
    rw [upN_ne' (by decide), up2_off _ _ _ (by decide), ho3_2]
  · rw [hoJ_4, hoJ_5, hoJ_6, hoJ_7, upN_ne' (by omega), upN_ne' (by omega), upN_ne' (by omega), upN_ne' (by omega)]
    exact ⟨rfl, rfl, rfl, rfl⟩
  · rw [hoJ_e (k := 8) (by decide), hoJ_e (k := 9) (by decide)]
    exact ⟨rfl, rfl⟩
theorem LO_le (J : Nat → Nat → Nat) : LO (leJ J) J := by
  have h3 : LO (le3 J) J := (LO_wa _ _).tr ((LO_wa _ _).tr (LO_wa _ _))
  unfold leJ
  split
  · refine LO.tr ?_ h3
    refine ⟨fun k hk => leW_o _ _ _ _ (by omega), by rw [leW_o _ _ _ _ (by decide)], by rw [leW_o _ _ _ _ (by decide)], fun h hh => ?_, fun k hk => ?_⟩
    · rw [leW_o _ _ _ _ (k := 4) (by decide), leW_o _ _ _ _ (k := 5) (by decide), leW_o _ _ _ _ (k := 6) (by decide), leW_7, upN_ne' (by omega)]
      exact ⟨rfl, rfl, rfl, rfl⟩
    · rw [leW_8, leW_9, upN_ne' (by omega), upN_ne' (by omega)]
      exact ⟨rfl, rfl⟩
  · exact h3
theorem LO_wk (J : Nat → Nat → Nat) : LO (wkJ J) J := by
  refine LO.tr ?_ (LO_wa J (nuZ J (nI 0) (nI 9)))
  unfold wkJ
  generalize waJ J (nuZ J (nI 0) (nI 9)) = K
  have eo : ∀ k, k ≠ 3 ∧ k ≠ 15 → up2 (up2 K 3 1 (J 13 0)) 15 0 1 k = K k := fun k hk => by rw [up2_off _ _ _ hk.2, up2_off _ _ _ hk.1]
  refine ⟨fun k hk => eo k (by omega), by rw [eo 2 (by decide)], ?_, fun h hh => ?_, fun k hk => ?_⟩
  · show upN (K 3) 1 (J 13 0) 0 = K 3 0
    exact upN_ne' (by decide)
  · rw [eo 4 (by decide), eo 5 (by decide), eo 6 (by decide), eo 7 (by decide)]
    exact ⟨rfl, rfl, rfl, rfl⟩
  · rw [eo 8 (by decide), eo 9 (by decide)]
    exact ⟨rfl, rfl⟩
theorem LO_ri (J : Nat → Nat → Nat) : LO (riJ J) J := by
  have h1 : LO (ri1 J) J := LO_wa _ _
  unfold riJ
  split
  · refine (LO_wa _ _).tr (LO.tr ?_ h1)
    unfold riK
    split
    · exact LO_ho _
    · split
      · exact LO_le _
      · exact LO_wk _
  · exact h1
/-- the leaps' bounds -/
def LB (Y : Nat → Nat → Nat) : Prop := ∀ k, k < 24 → Y 8 k < 96 ∧ Y 9 k < 48
theorem LB_of {A B : Nat → Nat → Nat} (h : LB B) (e8 : A 8 = B 8) (e9 : A 9 = B 9) : LB A := by
  unfold LB
  rw [e8, e9]
  exact h
theorem LB_ri {J : Nat → Nat → Nat} (h : LB J) (hR : RJ J) : LB (riJ J) := by
  have e : ∀ (K : Nat → Nat → Nat) z, LB K → LB (waJ K z) := fun K z hK => LB_of hK (waJ_off _ _ (by decide)) (waJ_off _ _ (by decide))
  have h1 : LB (ri1 J) := e _ _ h
  have hR1 := RJ_r1 hR
  unfold riJ
  split
  · refine e _ _ ?_
    unfold riK
    generalize ri1 J = K at *
    split
    · exact LB_of h1 (hoJ_e (by decide)) (hoJ_e (by decide))
    · split
      · unfold leJ
        split
        · rename_i q
          have v := le3_v hR1 q
          intro k hk
          rw [leW_8, leW_9]
          have y := h1 k hk
          have e8 : le3 K 8 = K 8 := le3_off K (by decide)
          have e9 : le3 K 9 = K 9 := le3_off K (by decide)
          rw [← e8, ← e9] at y
          refine ⟨?_, ?_⟩
          · unfold upN
            split
            · omega
            · exact y.1
          · unfold upN
            split
            · omega
            · exact y.2
        · exact LB_of h1 (le3_off K (by decide)) (le3_off K (by decide))
      · refine LB_of h1 ?_ ?_
        · unfold wkJ
          rw [up2_off _ _ _ (by decide), up2_off _ _ _ (by decide), waJ_off _ _ (by decide)]
        · unfold wkJ
          rw [up2_off _ _ _ (by decide), up2_off _ _ _ (by decide), waJ_off _ _ (by decide)]
  · exact h1
theorem tw_inv {J0 : Nat → Nat → Nat} : ∀ k Y i, TN Y → SJ Y → LB Y → LO Y J0 → TN (twK k Y i).1 ∧ SJ (twK k Y i).1 ∧ LB (twK k Y i).1 ∧ LO (twK k Y i).1 J0 := by
  intro k
  induction k with
  | zero => intro Y i h1 h2 h3 h4; exact ⟨h1, h2, h3, h4⟩
  | succ k ih =>
    intro Y i h1 h2 h3 h4
    rw [twK]
    split
    · rename_i q
      exact ih _ _ (ri_tok h1 q.2).1 (SJ_ri h2 h1.1) (LB_ri h3 h1.1) ((LO_ri Y).tr h4)
    · exact ⟨h1, h2, h3, h4⟩
theorem LO_b (J : Nat → Nat → Nat) : LO (tb0 J) J := by
  have eo : ∀ k, k ≠ 10 ∧ k ≠ 14 ∧ k ≠ 15 ∧ k ≠ 2 ∧ k ≠ 3 → tb0 J k = J k := fun k hk => by
    unfold tb0
    rw [up2_off _ _ _ hk.2.2.2.2, up2_off _ _ _ hk.2.2.2.1, up2_off _ _ _ hk.2.2.1, up2_off _ _ _ hk.2.1, up2_off _ _ _ hk.1]
  refine ⟨fun k hk => eo k (by omega), rfl, rfl, fun h hh => ?_, fun k hk => ?_⟩
  · rw [eo 4 (by decide), eo 5 (by decide), eo 6 (by decide), eo 7 (by decide)]
    exact ⟨rfl, rfl, rfl, rfl⟩
  · rw [eo 8 (by decide), eo 9 (by decide)]
    exact ⟨rfl, rfl⟩
theorem twJ_inv {J : Nat → Nat → Nat} (hT : TK J) (h11 : J 11 0 ≤ 300) (h12 : J 12 0 ≤ 6) (h13 : J 13 0 ≤ 999) (h7 : ∀ x, x < 12 → J 7 x ≤ 2) (hL : LB J) : RJ (twJ J).1 ∧ SJ (twJ J).1 ∧ LB (twJ J).1 ∧ LO (twJ J).1 J := by
  have hR := RJ_b hT h11 h12 h13
  have hS : SJ (nxJ (tb0 J)) := by
    unfold SJ
    rw [nxJ_off _ (by decide), nxJ_off _ (k := 7) (by decide), nxJ_off _ (k := 15) (by decide)]
    exact ⟨Nat.zero_le _, h7, (show 0 < 2 by decide)⟩
  have hB : LB (nxJ (tb0 J)) := LB_of hL (nxJ_off _ (by decide)) (nxJ_off _ (by decide))
  have z := tw_inv (J0 := J) 1000 (nxJ (tb0 J)) 0 (nx_tok hR).1 hS hB ((LO_nx _).tr (LO_b J))
  exact ⟨z.1.1, z.2⟩
/-- the told houses' bounds, and what the reading leaves as it was, on the other side -/
def HKs (I : Nat → Nat → Nat) : Prop := ∀ h, h < 6 → I 28 h < 48 ∧ I 29 h ≤ 9 ∧ I 30 h ≤ 9
def LC (X I : Nat → Nat → Nat) : Prop := ∀ k, (k < 2 ∨ (7 ≤ k ∧ k < 26) ∨ 38 ≤ k) → X k = I k
theorem HKs_of {A B : Nat → Nat → Nat} (h : HKs B) (e8 : A 28 = B 28) (e9 : A 29 = B 29) (e0 : A 30 = B 30) : HKs A := by
  unfold HKs
  rw [e8, e9, e0]
  exact h
theorem HKs_st {I : Nat → Nat → Nat} (h : HKs I) : HKs (stI I) := HKs_of h (stI_off I (by decide)) (stI_off I (by decide)) (stI_off I (by decide))
theorem LC_st {X I : Nat → Nat → Nat} (h : LC X I) : LC (stI X) I := fun k hk => by rw [stI_off X (by omega)]; exact h k hk
theorem cl_it {J I : Nat → Nat → Nat} (hB : BK J) (h : HKs J) (hL : LC J I) : HKs (itI J).2 ∧ LC (itI J).2 I := by
  have h1 := HKs_st h
  have h2 := HKs_st h1
  have h3 := HKs_st h2
  have g1 := LC_st hL
  have g2 := LC_st g1
  have g3 := LC_st g2
  have b1 := BK_st hB
  have b2 := BK_st b1
  have b3 := BK_st b2
  have c6 := hB.2.1.1
  have e26 : stI (stI (stI J)) 26 = J 26 := by rw [stI_off _ (by decide), stI_off _ (by decide), stI_off _ (by decide)]
  unfold itI
  split
  · unfold rhI
    split
    · exact ⟨h, hL⟩
    · rename_i q
      split
      · exact ⟨h1, g1⟩
      · rename_i q1
        split
        · exact ⟨h2, g2⟩
        · rename_i q2
          split
          · exact ⟨h3, g3⟩
          · rename_i q3
            have hc : stI (stI (stI J)) 26 0 < 6 := by rw [e26]; omega
            have v1 := numB_v (lo := 0) (hi := 47) b1.1.2.2.2.2 (by decide) (by decide) (by rw [Bool.not_eq_false] at q1; exact q1)
            have v2 := numB_v (lo := 1) (hi := 9) b2.1.2.2.2.2 (by decide) (by decide) (by rw [Bool.not_eq_false] at q2; exact q2)
            have v3 := numB_v (lo := 1) (hi := 9) b3.1.2.2.2.2 (by decide) (by decide) (by rw [Bool.not_eq_false] at q3; exact q3)
            have hah : ∀ k, k ≠ 26 → ahI (stI (stI (stI J))) (stI J 5 0) (stI (stI J) 5 0) (stI (stI (stI J)) 5 0) k = buI (stI (stI (stI J))) (stI (stI (stI J)) 26 0) (stI J 5 0) (stI (stI J) 5 0) (stI (stI (stI J)) 5 0) k := fun k hk => up2_off _ _ _ hk
            refine ⟨HKs_st (fun x hx => ?_), LC_st (fun k hk => by rw [ahI_off _ _ _ _ (by omega) hc]; exact g3 k hk)⟩
            rw [hah 28 (by decide), hah 29 (by decide), hah 30 (by decide), buI_28, buI_29, buI_30]
            have y := h3 x hx
            unfold upN
            split
            · omega
            · exact y
  · split
    · unfold rlI
      split
      · exact ⟨h1, g1⟩
      · rename_i q
        have hv := numB_h b1.1.2.2.2.2 c6 (by rw [Bool.not_eq_false] at q; exact q)
        split
        · exact ⟨h1, g1⟩
        · split
          · exact ⟨h2, g2⟩
          · split
            · exact ⟨h3, g3⟩
            · refine ⟨HKs_st (HKs_of h3 (lpI_e _ (by decide)) (lpI_e _ (by decide)) (lpI_e _ (by decide))), LC_st (fun k hk => by rw [lpI_off _ _ _ _ (by omega) (by omega)]; exact g3 k hk)⟩
    · split
      · unfold rwI
        split
        · exact ⟨h, hL⟩
        · split
          · exact ⟨h1, g1⟩
          · have e : ∀ k, k ≠ 6 ∧ k ≠ 27 → wkI (stI J) (stI J 5 0) k = stI J k := fun k hk => by unfold wkI; rw [up2_off _ _ _ hk.2, up2_off _ _ _ hk.1]
            exact ⟨HKs_st (HKs_of h1 (e 28 (by decide)) (e 29 (by decide)) (e 30 (by decide))), LC_st (fun k hk => by rw [e k (by omega)]; exact g1 k hk)⟩
      · exact ⟨h, hL⟩
theorem ra_inv {I : Nat → Nat → Nat} : ∀ k X i, BK X → HKs X → LC X I → BK (raK k X i).2 ∧ HKs (raK k X i).2 ∧ LC (raK k X i).2 I := by
  intro k
  induction k with
  | zero => intro X i h1 h2 h3; exact ⟨h1, h2, h3⟩
  | succ k ih =>
    intro X i h1 h2 h3
    have b := BK_st h1
    have c := cl_it b (HKs_st h2) (LC_st h3)
    rw [raK]
    split
    · exact ⟨b, HKs_st h2, LC_st h3⟩
    · split
      · exact ih _ _ (BK_it b) c.1 c.2
      · exact ⟨BK_it b, c.1, c.2⟩
theorem raI_inv {I : Nat → Nat → Nat} (hT : TK I) (h3 : I 3 0 ≤ 300) (h4 : I 4 0 ≤ 6) (h5 : I 5 0 ≤ 100) (hD : DKs I) (hH : HKs I) : BK (raI I).2 ∧ HKs (raI I).2 ∧ LC (raI I).2 I := by
  have e : ∀ k, k ≠ 2 ∧ k ≠ 6 ∧ k ≠ 26 ∧ k ≠ 27 → ra0 I k = I k := fun k hk => by
    unfold ra0
    rw [up2_off _ _ _ hk.2.1, up2_off _ _ _ hk.1, up2_off _ _ _ hk.2.2.2, up2_off _ _ _ hk.2.2.1]
  exact ra_inv 301 (ra0 I) 0 (BK_0 hT h3 h4 h5 hD) (HKs_of hH (e 28 (by decide)) (e 29 (by decide)) (e 30 (by decide))) (fun k hk => e k (by omega))
