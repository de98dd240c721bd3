/-! PURE 27: one item, read by both -/
def lsG (la lb : Nat → Nat) (h t : Nat) : Nat → Nat
  | 0 => 0
  | i + 1 => lsG la lb h t i + (if la (2 * h + i) ≤ t then lb (2 * h + i) else 0)
theorem lsM_G (J : Nat → Nat → Nat) (h t : Nat) : ∀ i, lsM J h t i = lsG (J 8) (J 9) h t i := by
  intro i
  induction i with
  | zero => rfl
  | succ i ih => rw [lsM, lsG, ih]
theorem lsG_c {la lb la' lb' : Nat → Nat} {h t : Nat} : ∀ n, (∀ i, i < n → la (2 * h + i) = la' (2 * h + i) ∧ lb (2 * h + i) = lb' (2 * h + i)) → lsG la lb h t n = lsG la' lb' h t n := by
  intro n
  induction n with
  | zero => intro _; rfl
  | succ n ih =>
    intro e
    rw [lsG, lsG, ih (fun i hi => e i (by omega)), (e n (by omega)).1, (e n (by omega)).2]
def HTh (X Y : Nat → Nat → Nat) (h : Nat) : Prop := X 28 h = Y 4 (6 + h) ∧ X 29 h = Y 5 (6 + h) ∧ X 30 h = Y 6 (6 + h) ∧ X 31 h = Y 7 (6 + h) ∧ Y 4 (6 + h) < 48 ∧ Y 5 (6 + h) ≤ 9 ∧ 1 ≤ Y 6 (6 + h) ∧ Y 6 (6 + h) ≤ 9 ∧ Y 7 (6 + h) ≤ 2 ∧ ∀ t, t < 96 → X (32 + h) t = (Y 4 (6 + h) + t * Y 5 (6 + h) / Y 6 (6 + h) + lsG (Y 8) (Y 9) (6 + h) t (Y 7 (6 + h))) % 48
/-- the town half told, on both sides -/
def HT (X Y : Nat → Nat → Nat) : Prop := X 26 0 = Y 2 1 ∧ X 27 0 = Y 3 1 ∧ X 6 0 = Y 15 0 ∧ Y 2 1 ≤ 6 ∧ Y 3 1 ≤ 9 ∧ Y 15 0 < 2 ∧ ∀ h, h < Y 2 1 → HTh X Y h
theorem HT_X {X X' Y : Nat → Nat → Nat} (h : HT X Y) (e : ∀ k, (k = 6 ∨ (26 ≤ k ∧ k < 38)) → X' k = X k) : HT X' Y := by
  unfold HT HTh
  rw [e 26 (by decide), e 27 (by decide), e 6 (by decide), e 28 (by decide), e 29 (by decide), e 30 (by decide), e 31 (by decide)]
  refine ⟨h.1, h.2.1, h.2.2.1, h.2.2.2.1, h.2.2.2.2.1, h.2.2.2.2.2.1, fun x hx => ?_⟩
  have q := h.2.2.2.2.2.2 x hx
  have h6 := h.2.2.2.1
  rw [e (32 + x) (by omega)]
  exact q
theorem HT_Y {X Y Y' : Nat → Nat → Nat} (h : HT X Y) (e : ∀ k, ((2 ≤ k ∧ k < 10) ∨ k = 15) → Y' k = Y k) : HT X Y' := by
  unfold HT HTh
  rw [e 2 (by decide), e 3 (by decide), e 15 (by decide), e 4 (by decide), e 5 (by decide), e 6 (by decide), e 7 (by decide), e 8 (by decide), e 9 (by decide)]
  exact h
theorem HT_st {X Y : Nat → Nat → Nat} (h : HT X Y) : HT (stI X) Y := HT_X h (fun k hk => stI_off X (by omega))
theorem HT_nx {X Y : Nat → Nat → Nat} (h : HT X Y) : HT X (nxJ Y) := HT_Y h (fun k hk => nxJ_off Y (by omega))
theorem HT_wa {X Y : Nat → Nat → Nat} {z : Nat} (h : HT X Y) : HT X (waJ Y z) := HT_Y h (fun k hk => waJ_off Y z (by omega))
theorem TKE_Y {X Y Y' : Nat → Nat → Nat} (h : TKE X Y) (e : ∀ k, (k < 2 ∨ (10 ≤ k ∧ k < 14)) → Y' k = Y k) : TKE X Y' := by
  unfold TKE
  rw [e 0 (by decide), e 1 (by decide), e 10 (by decide), e 11 (by decide), e 12 (by decide), e 13 (by decide)]
  exact h
theorem wa_t {Y : Nat → Nat → Nat} {z : Nat} (h0 : Y 14 0 = 0) (hz : z ≠ 0) : waJ Y z = nxJ Y := by
  unfold waJ
  rw [if_pos h0, if_neg hz]
theorem wa_f {Y : Nat → Nat → Nat} {z : Nat} (h0 : Y 14 0 = 0) (hz : z = 0) : waJ Y z 14 0 = Y 11 0 + 9 := by
  unfold waJ
  rw [if_pos h0, if_pos hz]
  rfl
theorem wa_k {Y : Nat → Nat → Nat} {z : Nat} (h0 : Y 14 0 ≠ 0) : waJ Y z = Y := by
  unfold waJ
  rw [if_neg h0]
theorem nx_14 (Y : Nat → Nat → Nat) : nxJ Y 14 = Y 14 := nxJ_off Y (by decide)
/-- what an item comes to, on both sides -/
def IR (r : Bool × (Nat → Nat → Nat)) (Y : Nat → Nat → Nat) : Prop := (r.1 = true ∧ Y 14 0 = 0 ∧ TKE (stI r.2) Y ∧ HT r.2 Y) ∨ (r.1 = false ∧ Y 14 0 = r.2 3 0 + 9)
theorem ri_bad {Y : Nat → Nat → Nat} (h0 : Y 14 0 = 0) (hz : riZ Y = 0) : riJ Y 14 0 = Y 11 0 + 9 := by
  have e : ri1 Y 14 0 = Y 11 0 + 9 := wa_f h0 hz
  unfold riJ
  rw [if_neg (by rw [e]; omega)]
  exact e
theorem ri_go {Y : Nat → Nat → Nat} (h0 : Y 14 0 = 0) (hz : riZ Y ≠ 0) : ri1 Y = nxJ Y ∧ riJ Y = waJ (riK Y) (if riK Y 12 0 = 5 then 1 else 0) := by
  have e : ri1 Y = nxJ Y := wa_t h0 hz
  refine ⟨e, ?_⟩
  unfold riJ
  rw [if_pos (by rw [e, nx_14]; exact h0)]
/-- the semicolon behind an item -/
theorem semi {T K : Nat → Nat → Nat} (h0 : K 14 0 = 0) (ht : TKE T K) (hh : HT T K) : IR (decide (T 4 0 = 3), T) (waJ K (if K 12 0 = 5 then 1 else 0)) := by
  by_cases z : T 4 0 = 3
  · refine Or.inl ⟨dt z, ?_⟩
    have e : K 12 0 = 5 := by rw [ht.2.2.2.2.1]; exact kc_5.mpr z
    rw [if_pos e, wa_t h0 (by decide), nx_14]
    exact ⟨h0, tke_nx ht, HT_nx hh⟩
  · refine Or.inr ⟨df z, ?_⟩
    have e : ¬ K 12 0 = 5 := by rw [ht.2.2.2.2.1]; exact fun q => z (kc_5.mp q)
    rw [if_neg e, wa_f h0 rfl]
    show K 11 0 + 9 = T 3 0 + 9
    rw [ht.2.2.2.1]
theorem semi_bad {K : Nat → Nat → Nat} {z : Nat} (h0 : K 14 0 ≠ 0) : waJ K z 14 0 = K 14 0 := by rw [wa_k h0]
theorem ho1_o (J : Nat → Nat → Nat) {k : Nat} (h : k ≠ 4) : ho1 J k = waJ J (nuZ J (nI 0) (nI 47)) k := up2_off _ _ _ h
theorem ho2_o (J : Nat → Nat → Nat) {k : Nat} (h : k ≠ 5) : ho2 J k = waJ (ho1 J) (nuZ (ho1 J) (nI 1) (nI 9)) k := up2_off _ _ _ h
theorem ho3_o (J : Nat → Nat → Nat) {k : Nat} (h : k ≠ 6) : ho3 J k = waJ (ho2 J) (nuZ (ho2 J) (nI 1) (nI 9)) k := up2_off _ _ _ h
theorem hoJ_o (J : Nat → Nat → Nat) {k : Nat} (h : k ≠ 7 ∧ k ≠ 2) : hoJ J k = ho3 J k := by
  unfold hoJ
  rw [up2_off _ _ _ h.2, up2_off _ _ _ h.1]
theorem hoJ_e {J : Nat → Nat → Nat} {k : Nat} (h : k = 3 ∨ k = 8 ∨ k = 9 ∨ k = 15) : hoJ J k = J k := by
  rw [hoJ_o J (by omega), ho3_o J (by omega), waJ_off _ _ (by omega), ho2_o J (by omega), waJ_off _ _ (by omega), ho1_o J (by omega), waJ_off _ _ (by omega)]
theorem hoJ_4 (J : Nat → Nat → Nat) : hoJ J 4 = upN (J 4) (6 + J 2 1) (J 13 0) := by
  rw [hoJ_o J (by omega), ho3_o J (by omega), waJ_off _ _ (by omega), ho2_o J (by omega), waJ_off _ _ (by omega)]
  show upN (waJ J (nuZ J (nI 0) (nI 47)) 4) (6 + J 2 1) (J 13 0) = _
  rw [waJ_off _ _ (by omega)]
theorem hoJ_5 (J : Nat → Nat → Nat) : hoJ J 5 = upN (J 5) (6 + J 2 1) (ho1 J 13 0) := by
  rw [hoJ_o J (by omega), ho3_o J (by omega), waJ_off _ _ (by omega)]
  show upN (waJ (ho1 J) (nuZ (ho1 J) (nI 1) (nI 9)) 5) (6 + J 2 1) (ho1 J 13 0) = _
  rw [waJ_off _ _ (by omega), ho1_o J (by omega), waJ_off _ _ (by omega)]
theorem hoJ_6 (J : Nat → Nat → Nat) : hoJ J 6 = upN (J 6) (6 + J 2 1) (ho2 J 13 0) := by
  rw [hoJ_o J (by omega)]
  show upN (waJ (ho2 J) (nuZ (ho2 J) (nI 1) (nI 9)) 6) (6 + J 2 1) (ho2 J 13 0) = _
  rw [waJ_off _ _ (by omega), ho2_o J (by omega), waJ_off _ _ (by omega), ho1_o J (by omega), waJ_off _ _ (by omega)]
theorem hoJ_7 (J : Nat → Nat → Nat) : hoJ J 7 = upN (J 7) (6 + J 2 1) 0 := by
  show upN (ho3 J 7) (6 + J 2 1) 0 = _
  rw [ho3_o J (by omega), waJ_off _ _ (by omega), ho2_o J (by omega), waJ_off _ _ (by omega), ho1_o J (by omega), waJ_off _ _ (by omega)]
theorem hoJ_2 (J : Nat → Nat → Nat) : hoJ J 2 1 = J 2 1 + 1 := by
  show ho3 J 2 1 + 1 = _
  rw [ho3_2]
theorem ahI_26 (I : Nat → Nat → Nat) (s p q : Nat) : ahI I s p q 26 0 = I 26 0 + 1 := up2_at _ _ _ _
theorem buI_28 (I : Nat → Nat → Nat) {h : Nat} (s p q : Nat) : buI I h s p q 28 = upN (I 28) h s := by
  unfold buI bdI
  rw [upA_off _ _ (by omega)]
  rfl
theorem buI_29 (I : Nat → Nat → Nat) {h : Nat} (s p q : Nat) : buI I h s p q 29 = upN (I 29) h p := by
  unfold buI bdI
  rw [upA_off _ _ (by omega)]
  rfl
theorem buI_30 (I : Nat → Nat → Nat) {h : Nat} (s p q : Nat) : buI I h s p q 30 = upN (I 30) h q := by
  unfold buI bdI
  rw [upA_off _ _ (by omega)]
  rfl
theorem buI_31 (I : Nat → Nat → Nat) {h : Nat} (s p q : Nat) : buI I h s p q 31 = upN (I 31) h 0 := by
  unfold buI bdI
  rw [upA_off _ _ (by omega)]
  rfl
theorem buI_dn (I : Nat → Nat → Nat) {h x : Nat} (s p q : Nat) (hx : x ≠ h) : buI I h s p q (32 + x) = I (32 + x) := by
  unfold buI bdI
  rw [upA_off _ _ (by omega), up2_off _ _ _ (by omega), up2_off _ _ _ (by omega), up2_off _ _ _ (by omega), up2_off _ _ _ (by omega)]
theorem buI_dt (I : Nat → Nat → Nat) {h t : Nat} (s p q : Nat) (ht : t < 96) : buI I h s p q (32 + h) t = (s + lv p q t) % 48 := by
  unfold buI
  rw [upA_at]
  unfold flF
  rw [if_pos ht]
  rfl
theorem upN_ne' {g : Nat → Nat} {i j v : Nat} (h : j ≠ i) : upN g i v j = g j := if_neg h
theorem upN_eq (g : Nat → Nat) (i v : Nat) : upN g i v i = v := if_pos rfl
theorem HT_ho {X Y : Nat → Nat → Nat} (h : HT X Y) (hc : Y 2 1 < 6) {s p q : Nat} (e4 : Y 13 0 = s) (e5 : ho1 Y 13 0 = p) (e6 : ho2 Y 13 0 = q) (hs : s ≤ 47) (hp : p ≤ 9) (hq : 1 ≤ q ∧ q ≤ 9) : HT (ahI X s p q) (hoJ Y) := by
  obtain ⟨a1, a2, a3, a4, a5, a6, a7⟩ := h
  have c6 : X 26 0 < 6 := by omega
  have hah : ∀ k, k ≠ 26 → ahI X s p q k = buI X (X 26 0) s p q k := fun k hk => up2_off _ _ _ hk
  refine ⟨by rw [ahI_26, hoJ_2, a1], ?_, ?_, by rw [hoJ_2]; omega, by rw [hoJ_e (by decide)]; exact a5, by rw [hoJ_e (by decide)]; exact a6, fun x hx => ?_⟩
  · rw [hah 27 (by decide), buI_off _ _ _ _ _ (by decide) c6, hoJ_e (by decide)]; exact a2
  · rw [ahI_off _ _ _ _ (by decide) c6, hoJ_e (by decide)]; exact a3
  · rw [hoJ_2] at hx
    unfold HTh
    rw [hah 28 (by decide), hah 29 (by decide), hah 30 (by decide), hah 31 (by decide), hah (32 + x) (by omega), buI_28, buI_29, buI_30, buI_31, hoJ_4, hoJ_5, hoJ_6, hoJ_7, hoJ_e (k := 8) (by decide), hoJ_e (k := 9) (by decide), a1, e4, e5, e6]
    by_cases z : x = Y 2 1
    · subst z
      rw [upN_eq, upN_eq, upN_eq, upN_eq, upN_eq, upN_eq, upN_eq, upN_eq]
      refine ⟨rfl, rfl, rfl, rfl, by omega, hp, hq.1, hq.2, by omega, fun t ht => ?_⟩
      rw [buI_dt _ _ _ _ ht]
      unfold lv lsG
      rw [if_neg (by omega)]
      rfl
    · have y := a7 x (by omega)
      rw [upN_ne' z, upN_ne' z, upN_ne' z, upN_ne' z, upN_ne' (by omega), upN_ne' (by omega), upN_ne' (by omega), upN_ne' (by omega), buI_dn _ _ _ _ z]
      exact y
theorem nb_f {b : Bool} (h : ¬ b = true) : b = false := by cases b; rfl; exact absurd rfl h
theorem sim_h {X Y : Nat → Nat → Nat} (ht : TKE X Y) (hh : HT X Y) (h0 : Y 14 0 = 0) (h4 : X 4 0 = 4) : IR (rhI X) (riJ Y) := by
  have k12 : Y 12 0 = 0 := by rw [ht.2.2.2.2.1]; exact kc_0.mpr h4
  unfold rhI
  by_cases c : 6 ≤ X 26 0
  · rw [if_pos c]
    refine Or.inr ⟨rfl, ?_⟩
    rw [ri_bad h0 (by unfold riZ; rw [if_neg (by have := hh.1; omega)])]
    show Y 11 0 + 9 = X 3 0 + 9
    rw [ht.2.2.2.1]
  · rw [if_neg c]
    have hc : Y 2 1 < 6 := by have := hh.1; omega
    obtain ⟨g1, g2⟩ := ri_go h0 (by unfold riZ; rw [if_pos (Or.inl ⟨k12, hc⟩)]; decide)
    have gK : riK Y = hoJ (nxJ Y) := by unfold riK; rw [if_pos k12, g1]
    rw [g2, gK]
    have t1 := tke_nx ht
    have hh1 : HT (stI X) (nxJ Y) := HT_nx (HT_st hh)
    have n1 : nxJ Y 14 0 = 0 := by rw [nx_14]; exact h0
    have c1 : nxJ Y 2 1 < 6 := by rw [nxJ_off Y (by decide)]; exact hc
    generalize nxJ Y = Z at *
    generalize stI X = T at *
    by_cases b1 : numB T (nI 0) (nI 47) = true
    · rw [if_neg (by rw [b1]; decide)]
      have z1 := (nb_iff t1 _ _).mp b1
      have w1 := wa_t n1 z1
      have v1 := numB_v (lo := 0) (hi := 47) (by have := (t1.2.2.2.2.2 (of_decide_eq_true ((Bool.and_eq_true _ _ ▸ b1 : _ ∧ _).1))).2; omega) (by decide) (by decide) b1
      have k1 : T 4 0 = 2 := of_decide_eq_true (by unfold numB at b1; rw [Bool.and_eq_true] at b1; exact b1.1)
      have u1 : Z 13 0 = T 5 0 := (t1.2.2.2.2.2 k1).1.symm
      have t2 : TKE (stI T) (ho1 Z) := TKE_Y (tke_nx t1) (fun k hk => by rw [ho1_o Z (by omega), w1])
      have n2 : ho1 Z 14 0 = 0 := by rw [ho1_o Z (by decide), w1, nx_14]; exact n1
      by_cases b2 : numB (stI T) (nI 1) (nI 9) = true
      · rw [if_neg (by rw [b2]; decide)]
        have z2 := (nb_iff t2 _ _).mp b2
        have w2 := wa_t n2 z2
        have k2 : stI T 4 0 = 2 := of_decide_eq_true (by unfold numB at b2; rw [Bool.and_eq_true] at b2; exact b2.1)
        have u2 := t2.2.2.2.2.2 k2
        have v2 := numB_v (lo := 1) (hi := 9) (by omega) (by decide) (by decide) b2
        have t3 : TKE (stI (stI T)) (ho2 Z) := TKE_Y (tke_nx t2) (fun k hk => by rw [ho2_o Z (by omega), w2])
        have n3 : ho2 Z 14 0 = 0 := by rw [ho2_o Z (by decide), w2, nx_14]; exact n2
        by_cases b3 : numB (stI (stI T)) (nI 1) (nI 9) = true
        · rw [if_neg (by rw [b3]; decide)]
          have z3 := (nb_iff t3 _ _).mp b3
          have w3 := wa_t n3 z3
          have k3 : stI (stI T) 4 0 = 2 := of_decide_eq_true (by unfold numB at b3; rw [Bool.and_eq_true] at b3; exact b3.1)
          have u3 := t3.2.2.2.2.2 k3
          have v3 := numB_v (lo := 1) (hi := 9) (by omega) (by decide) (by decide) b3
          have hT3 : HT (stI (stI T)) Z := HT_st (HT_st hh1)
          have hA := HT_ho hT3 c1 (s := T 5 0) (p := stI T 5 0) (q := stI (stI T) 5 0) u1 u2.1.symm u3.1.symm v1.2 v2.2 v3
          have c26 : stI (stI T) 26 0 < 6 := by rw [hT3.1]; exact c1
          have n4 : hoJ Z 14 0 = 0 := by rw [hoJ_o Z (by decide), ho3_o Z (by decide), w3, nx_14]; exact n3
          have e0 : ∀ k, k < 3 → ahI (stI (stI T)) (T 5 0) (stI T 5 0) (stI (stI T) 5 0) k = stI (stI T) k := fun k hk => ahI_off _ _ _ _ (by omega) c26
          have tA : TKE (stI (ahI (stI (stI T)) (T 5 0) (stI T 5 0) (stI (stI T) 5 0))) (hoJ Z) := TKE_Y (tke_0 (Y := ho2 Z) (by rw [e0 1 (by decide)]; exact t3.1) (by rw [e0 0 (by decide)]; exact t3.2.1) (by rw [e0 2 (by decide)]; exact t3.2.2.1)) (fun k hk => by rw [hoJ_o Z (by omega), ho3_o Z (by omega), w3])
          exact semi n4 tA (HT_st hA)
        · rw [if_pos (nb_f b3)]
          refine Or.inr ⟨rfl, ?_⟩
          have f3 : ho3 Z 14 0 = ho2 Z 11 0 + 9 := by rw [ho3_o Z (by decide)]; exact wa_f n3 (by by_cases q : nuZ (ho2 Z) (nI 1) (nI 9) = 0; exact q; exact absurd ((nb_iff t3 _ _).mpr q) b3)
          have f4 : hoJ Z 14 0 = ho2 Z 11 0 + 9 := by rw [hoJ_o Z (by decide)]; exact f3
          rw [semi_bad (by rw [f4]; omega), f4]
          show ho2 Z 11 0 + 9 = stI (stI T) 3 0 + 9
          rw [t3.2.2.2.1]
      · rw [if_pos (nb_f b2)]
        refine Or.inr ⟨rfl, ?_⟩
        have f2 : ho2 Z 14 0 = ho1 Z 11 0 + 9 := by rw [ho2_o Z (by decide)]; exact wa_f n2 (by by_cases q : nuZ (ho1 Z) (nI 1) (nI 9) = 0; exact q; exact absurd ((nb_iff t2 _ _).mpr q) b2)
        have f3 : ho3 Z 14 0 = ho1 Z 11 0 + 9 := by rw [ho3_o Z (by decide), wa_k (by rw [f2]; omega)]; exact f2
        have f4 : hoJ Z 14 0 = ho1 Z 11 0 + 9 := by rw [hoJ_o Z (by decide)]; exact f3
        rw [semi_bad (by rw [f4]; omega), f4]
        show ho1 Z 11 0 + 9 = stI T 3 0 + 9
        rw [t2.2.2.2.1]
    · rw [if_pos (nb_f b1)]
      refine Or.inr ⟨rfl, ?_⟩
      have f1 : ho1 Z 14 0 = Z 11 0 + 9 := by rw [ho1_o Z (by decide)]; exact wa_f n1 (by by_cases q : nuZ Z (nI 0) (nI 47) = 0; exact q; exact absurd ((nb_iff t1 _ _).mpr q) b1)
      have f2 : ho2 Z 14 0 = Z 11 0 + 9 := by rw [ho2_o Z (by decide), wa_k (by rw [f1]; omega)]; exact f1
      have f3 : ho3 Z 14 0 = Z 11 0 + 9 := by rw [ho3_o Z (by decide), wa_k (by rw [f2]; omega)]; exact f2
      have f4 : hoJ Z 14 0 = Z 11 0 + 9 := by rw [hoJ_o Z (by decide)]; exact f3
      rw [semi_bad (by rw [f4]; omega), f4]
      show Z 11 0 + 9 = T 3 0 + 9
      rw [t1.2.2.2.1]
theorem lpI_31 (I : Nat → Nat → Nat) (h f b : Nat) : lpI I h f b 31 = upN (I 31) h (I 31 h + 1) := by
  unfold lpI
  rw [upA_off _ _ (by omega)]
  rfl
theorem lpI_d (I : Nat → Nat → Nat) {h f b t : Nat} (ht : t < 96) : lpI I h f b (32 + h) t = if f ≤ t then (I (32 + h) t + b) % 48 else I (32 + h) t := by
  unfold lpI
  rw [upA_at]
  unfold adF
  by_cases z : f ≤ t
  · rw [if_pos z, if_pos ⟨z, ht⟩]
  · rw [if_neg z, if_neg (fun q => z q.1)]
theorem lpI_dn (I : Nat → Nat → Nat) {h f b x : Nat} (hx : x ≠ h) : lpI I h f b (32 + x) = I (32 + x) := by
  unfold lpI
  rw [upA_off _ _ (by omega), up2_off _ _ _ (by omega)]
theorem lpI_e (I : Nat → Nat → Nat) {h f b k : Nat} (hk : k < 31) : lpI I h f b k = I k := by
  unfold lpI
  rw [upA_off _ _ (by omega), up2_off _ _ _ (by omega)]
theorem leW_o (J : Nat → Nat → Nat) (x f b : Nat) {k : Nat} (h : k ≠ 7 ∧ k ≠ 8 ∧ k ≠ 9) : leW J x f b k = J k := by
  unfold leW
  rw [up2_off _ _ _ h.1, up2_off _ _ _ h.2.2, up2_off _ _ _ h.2.1]
theorem leW_7 (J : Nat → Nat → Nat) (x f b : Nat) : leW J x f b 7 = upN (J 7) (6 + x) (J 7 (6 + x) + 1) := rfl
theorem leW_8 (J : Nat → Nat → Nat) (x f b : Nat) : leW J x f b 8 = upN (J 8) (2 * (6 + x) + J 7 (6 + x)) f := rfl
theorem leW_9 (J : Nat → Nat → Nat) (x f b : Nat) : leW J x f b 9 = upN (J 9) (2 * (6 + x) + J 7 (6 + x)) b := rfl
theorem HT_lp {X Y : Nat → Nat → Nat} (h : HT X Y) {v f b : Nat} (hv : v < Y 2 1) (hl : Y 7 (6 + v) < 2) (hb : b ≤ 47) : HT (lpI X v f b) (leW Y v f b) := by
  obtain ⟨a1, a2, a3, a4, a5, a6, a7⟩ := h
  unfold HT
  rw [lpI_e X (by decide), lpI_e X (k := 27) (by decide), lpI_e X (k := 6) (by decide), leW_o Y _ _ _ (by decide), leW_o Y _ _ _ (k := 3) (by decide), leW_o Y _ _ _ (k := 15) (by decide)]
  refine ⟨a1, a2, a3, a4, a5, a6, fun x hx => ?_⟩
  have y := a7 x hx
  unfold HTh at y ⊢
  rw [lpI_e X (k := 28) (by decide), lpI_e X (k := 29) (by decide), lpI_e X (k := 30) (by decide), lpI_31, leW_o Y _ _ _ (k := 4) (by decide), leW_o Y _ _ _ (k := 5) (by decide), leW_o Y _ _ _ (k := 6) (by decide), leW_7, leW_8, leW_9]
  obtain ⟨y1, y2, y3, y4, y5, y6, y7, y8, y9, y10⟩ := y
  by_cases z : x = v
  · subst z
    rw [upN_eq, upN_eq]
    refine ⟨y1, y2, y3, by omega, y5, y6, y7, y8, by omega, fun t ht => ?_⟩
    rw [lpI_d X ht, lsG, upN_eq, upN_eq, y10 t ht]
    have e : lsG (upN (Y 8) (2 * (6 + x) + Y 7 (6 + x)) f) (upN (Y 9) (2 * (6 + x) + Y 7 (6 + x)) b) (6 + x) t (Y 7 (6 + x)) = lsG (Y 8) (Y 9) (6 + x) t (Y 7 (6 + x)) := lsG_c _ (fun i hi => ⟨upN_ne' (by omega), upN_ne' (by omega)⟩)
    rw [e]
    by_cases q : f ≤ t
    · rw [if_pos q, if_pos q]
      omega
    · rw [if_neg q, if_neg q]
      rfl
  · rw [upN_ne' z, upN_ne' (show 6 + x ≠ 6 + v by omega)]
    refine ⟨y1, y2, y3, y4, y5, y6, y7, y8, y9, fun t ht => ?_⟩
    have e : lsG (upN (Y 8) (2 * (6 + v) + Y 7 (6 + v)) f) (upN (Y 9) (2 * (6 + v) + Y 7 (6 + v)) b) (6 + x) t (Y 7 (6 + x)) = lsG (Y 8) (Y 9) (6 + x) t (Y 7 (6 + x)) := lsG_c _ (fun i hi => ⟨upN_ne' (by omega), upN_ne' (by omega)⟩)
    rw [lpI_dn X z, e]
    exact y10 t ht
theorem nb_k {X : Nat → Nat → Nat} {lo hi : Int32} (h : numB X lo hi = true) : X 4 0 = 2 := of_decide_eq_true (by unfold numB at h; rw [Bool.and_eq_true] at h; exact h.1)
theorem nz_0 {X Y : Nat → Nat → Nat} {lo hi : Int32} (h : TKE X Y) (b : ¬ numB X lo hi = true) : nuZ Y lo hi = 0 := by
  by_cases q : nuZ Y lo hi = 0
  · exact q
  · exact absurd ((nb_iff h _ _).mpr q) b
theorem nbh_iff {X : Nat → Nat → Nat} {n : Nat} (h5 : X 4 0 = 2 → X 5 0 ≤ 99) (hn : n ≤ 6) : numB X (nI 0) (nI n - nI 1) = true ↔ X 4 0 = 2 ∧ X 5 0 < n := by
  constructor
  · intro h
    have k := nb_k h
    exact ⟨k, numB_h (by have := h5 k; omega) hn h⟩
  · intro h
    have := h5 h.1
    unfold numB
    rw [dt h.1, Bool.true_and]
    unfold wi
    refine dt ⟨Int32.le_iff_toInt_le.mpr ?_, Int32.le_iff_toInt_le.mpr ?_⟩
    · rw [nI_toInt (by omega), nI_toInt (by omega)]; omega
    · rw [nI_toInt (by omega), pk_sub_toInt (by omega) (by decide)]; omega
theorem sim_l {X Y : Nat → Nat → Nat} (ht : TKE X Y) (hh : HT X Y) (h0 : Y 14 0 = 0) (h4 : X 4 0 = 5) : IR (rlI X) (riJ Y) := by
  have k12 : Y 12 0 = 1 := by rw [ht.2.2.2.2.1]; exact kc_1.mpr h4
  obtain ⟨g1, g2⟩ := ri_go h0 (by unfold riZ; rw [if_pos (Or.inr (Or.inl k12))]; decide)
  have gK : riK Y = leJ (nxJ Y) := by unfold riK; rw [if_neg (by omega), if_pos k12, g1]
  rw [g2, gK]
  have t1 := tke_nx ht
  have hh1 : HT (stI X) (nxJ Y) := HT_nx (HT_st hh)
  have n1 : nxJ Y 14 0 = 0 := by rw [nx_14]; exact h0
  have e26 : X 26 0 = stI X 26 0 := by rw [stI_off X (by decide)]
  unfold rlI
  rw [e26]
  generalize nxJ Y = Z at *
  generalize stI X = T at *
  have c6 : T 26 0 = Z 2 1 := hh1.1
  have c66 : Z 2 1 ≤ 6 := hh1.2.2.2.1
  rw [c6]
  have nb := nbh_iff (X := T) (fun k => (t1.2.2.2.2.2 k).2) c66
  -- the fault of the first number
  have bad1 : leZ Z = 0 → leJ Z 14 0 = Z 11 0 + 9 := fun q => by
    have f1 : le1 Z 14 0 = Z 11 0 + 9 := wa_f n1 q
    have f2 : le2 Z 14 0 = Z 11 0 + 9 := by unfold le2; rw [wa_k (by rw [f1]; omega)]; exact f1
    have f3 : le3 Z 14 0 = Z 11 0 + 9 := by unfold le3; rw [wa_k (by rw [f2]; omega)]; exact f2
    unfold leJ
    rw [if_neg (by rw [f3]; omega)]
    exact f3
  by_cases b1 : numB T (nI 0) (nI (Z 2 1) - nI 1) = true
  · rw [if_neg (by rw [b1]; decide)]
    have v1 := nb.mp b1
    have u1 := t1.2.2.2.2.2 v1.1
    have y31 : T 31 (T 5 0) = Z 7 (6 + T 5 0) := (hh1.2.2.2.2.2.2 _ v1.2).2.2.2.1
    by_cases c2 : 2 ≤ T 31 (T 5 0)
    · rw [if_pos c2]
      refine Or.inr ⟨rfl, ?_⟩
      have f4 := bad1 (by unfold leZ; rw [if_neg (by rw [← u1.1]; omega)])
      rw [semi_bad (by rw [f4]; omega), f4]
      show Z 11 0 + 9 = T 3 0 + 9
      rw [t1.2.2.2.1]
    · rw [if_neg c2]
      have z1 : leZ Z ≠ 0 := by
        unfold leZ
        rw [if_pos ⟨by rw [t1.2.2.2.2.1]; exact kc_4.mpr v1.1, by rw [← u1.1]; exact v1.2, by rw [← u1.1]; omega⟩]
        decide
      have w1 : le1 Z = nxJ Z := wa_t n1 z1
      have t2 : TKE (stI T) (le1 Z) := by rw [w1]; exact tke_nx t1
      have n2 : le1 Z 14 0 = 0 := by rw [w1, nx_14]; exact n1
      by_cases b2 : numB (stI T) (nI 0) (nI 95) = true
      · rw [if_neg (by rw [b2]; decide)]
        have u2 := t2.2.2.2.2.2 (nb_k b2)
        have v2 := numB_v (lo := 0) (hi := 95) (by omega) (by decide) (by decide) b2
        have w2 : le2 Z = nxJ (le1 Z) := wa_t n2 ((nb_iff t2 _ _).mp b2)
        have t3 : TKE (stI (stI T)) (le2 Z) := by rw [w2]; exact tke_nx t2
        have n3 : le2 Z 14 0 = 0 := by rw [w2, nx_14]; exact n2
        by_cases b3 : numB (stI (stI T)) (nI 1) (nI 47) = true
        · rw [if_neg (by rw [b3]; decide)]
          have u3 := t3.2.2.2.2.2 (nb_k b3)
          have v3 := numB_v (lo := 1) (hi := 47) (by omega) (by decide) (by decide) b3
          have w3 : le3 Z = nxJ (le2 Z) := wa_t n3 ((nb_iff t3 _ _).mp b3)
          have n4 : le3 Z 14 0 = 0 := by rw [w3, nx_14]; exact n3
          have eJ : leJ Z = leW (le3 Z) (Z 13 0) (le1 Z 13 0) (le2 Z 13 0) := by unfold leJ; rw [if_pos n4]
          rw [eJ, ← u1.1, ← u2.1, ← u3.1]
          have hT3 : HT (stI (stI T)) (le3 Z) := HT_st (HT_st (HT_Y hh1 (fun k hk => le3_off Z (by omega))))
          have hA := HT_lp hT3 (v := T 5 0) (f := stI T 5 0) (b := stI (stI T) 5 0) (by rw [le3_off Z (by decide)]; exact v1.2) (by rw [le3_off Z (by decide)]; omega) v3.2
          have e0 : ∀ k, k < 3 → lpI (stI (stI T)) (T 5 0) (stI T 5 0) (stI (stI T) 5 0) k = stI (stI T) k := fun k hk => lpI_e _ (by omega)
          have tA : TKE (stI (lpI (stI (stI T)) (T 5 0) (stI T 5 0) (stI (stI T) 5 0))) (leW (le3 Z) (T 5 0) (stI T 5 0) (stI (stI T) 5 0)) := TKE_Y (tke_0 (Y := le2 Z) (by rw [e0 1 (by decide)]; exact t3.1) (by rw [e0 0 (by decide)]; exact t3.2.1) (by rw [e0 2 (by decide)]; exact t3.2.2.1)) (fun k hk => by rw [leW_o _ _ _ _ (by omega), w3])
          exact semi (by rw [leW_o _ _ _ _ (by decide)]; exact n4) tA (HT_st hA)
        · rw [if_pos (nb_f b3)]
          refine Or.inr ⟨rfl, ?_⟩
          have f3 : le3 Z 14 0 = le2 Z 11 0 + 9 := wa_f n3 (nz_0 t3 b3)
          have f4 : leJ Z 14 0 = le2 Z 11 0 + 9 := by unfold leJ; rw [if_neg (by rw [f3]; omega)]; exact f3
          rw [semi_bad (by rw [f4]; omega), f4]
          show le2 Z 11 0 + 9 = stI (stI T) 3 0 + 9
          rw [t3.2.2.2.1]
      · rw [if_pos (nb_f b2)]
        refine Or.inr ⟨rfl, ?_⟩
        have f2 : le2 Z 14 0 = le1 Z 11 0 + 9 := wa_f n2 (nz_0 t2 b2)
        have f3 : le3 Z 14 0 = le1 Z 11 0 + 9 := by unfold le3; rw [wa_k (by rw [f2]; omega)]; exact f2
        have f4 : leJ Z 14 0 = le1 Z 11 0 + 9 := by unfold leJ; rw [if_neg (by rw [f3]; omega)]; exact f3
        rw [semi_bad (by rw [f4]; omega), f4]
        show le1 Z 11 0 + 9 = stI T 3 0 + 9
        rw [t2.2.2.2.1]
  · rw [if_pos (nb_f b1)]
    refine Or.inr ⟨rfl, ?_⟩
    have f4 := bad1 (by
      unfold leZ
      rw [if_neg (fun q => b1 (nb.mpr ?_))]
      have k : T 4 0 = 2 := kc_4.mp (t1.2.2.2.2.1.symm.trans q.1)
      exact ⟨k, by rw [(t1.2.2.2.2.2 k).1]; exact q.2.1⟩)
    rw [semi_bad (by rw [f4]; omega), f4]
    show Z 11 0 + 9 = T 3 0 + 9
    rw [t1.2.2.2.1]
theorem sim_w {X Y : Nat → Nat → Nat} (ht : TKE X Y) (hh : HT X Y) (h0 : Y 14 0 = 0) (h4 : X 4 0 = 6) : IR (rwI X) (riJ Y) := by
  have k12 : Y 12 0 = 2 := by rw [ht.2.2.2.2.1]; exact kc_2.mpr h4
  have e6 : X 6 0 = Y 15 0 := hh.2.2.1
  unfold rwI
  by_cases c : 0 < X 6 0
  · rw [if_pos c]
    refine Or.inr ⟨rfl, ?_⟩
    rw [ri_bad h0 (by unfold riZ; rw [if_neg (by omega)])]
    show Y 11 0 + 9 = X 3 0 + 9
    rw [ht.2.2.2.1]
  · rw [if_neg c]
    obtain ⟨g1, g2⟩ := ri_go h0 (by unfold riZ; rw [if_pos (Or.inr (Or.inr ⟨k12, by omega⟩))]; decide)
    have gK : riK Y = wkJ (nxJ Y) := by unfold riK; rw [if_neg (by omega), if_neg (by omega), g1]
    rw [g2, gK]
    have t1 := tke_nx ht
    have hh1 : HT (stI X) (nxJ Y) := HT_nx (HT_st hh)
    have n1 : nxJ Y 14 0 = 0 := by rw [nx_14]; exact h0
    generalize nxJ Y = Z at *
    generalize stI X = T at *
    have wo : ∀ k, k ≠ 3 ∧ k ≠ 15 → wkJ Z k = waJ Z (nuZ Z (nI 0) (nI 9)) k := fun k hk => by unfold wkJ; rw [up2_off _ _ _ hk.2, up2_off _ _ _ hk.1]
    by_cases b1 : numB T (nI 0) (nI 9) = true
    · rw [if_neg (by rw [b1]; decide)]
      have u1 := t1.2.2.2.2.2 (nb_k b1)
      have v1 := numB_v (lo := 0) (hi := 9) (by omega) (by decide) (by decide) b1
      have w1 := wa_t n1 ((nb_iff t1 _ _).mp b1)
      have n2 : wkJ Z 14 0 = 0 := by rw [wo 14 (by decide), w1, nx_14]; exact n1
      have e0 : ∀ k, k ≠ 6 ∧ k ≠ 27 → wkI T (T 5 0) k = T k := fun k hk => by unfold wkI; rw [up2_off _ _ _ hk.2, up2_off _ _ _ hk.1]
      have tA : TKE (stI (wkI T (T 5 0))) (wkJ Z) := TKE_Y (tke_0 (Y := Z) (by rw [e0 1 (by decide)]; exact t1.1) (by rw [e0 0 (by decide)]; exact t1.2.1) (by rw [e0 2 (by decide)]; exact t1.2.2.1)) (fun k hk => by rw [wo k (by omega), w1])
      have hA : HT (wkI T (T 5 0)) (wkJ Z) := by
        obtain ⟨a1, a2, a3, a4, a5, a6, a7⟩ := hh1
        have wz : ∀ k, (2 ≤ k ∧ k < 10 ∧ k ≠ 3) → wkJ Z k = Z k := fun k hk => by rw [wo k (by omega), waJ_off _ _ (by omega)]
        refine ⟨by rw [e0 26 (by decide), wz 2 (by decide)]; exact a1, ?_, rfl, by rw [wz 2 (by decide)]; exact a4, ?_, (by decide : (1 : Nat) < 2), fun x hx => ?_⟩
        · show T 5 0 = Z 13 0
          exact u1.1
        · show Z 13 0 ≤ 9
          omega
        · rw [wz 2 (by decide)] at hx
          unfold HTh
          rw [e0 28 (by decide), e0 29 (by decide), e0 30 (by decide), e0 31 (by decide), e0 (32 + x) (by omega), wz 4 (by decide), wz 5 (by decide), wz 6 (by decide), wz 7 (by decide), wz 8 (by decide), wz 9 (by decide)]
          exact a7 x hx
      exact semi n2 tA (HT_st hA)
    · rw [if_pos (nb_f b1)]
      refine Or.inr ⟨rfl, ?_⟩
      have f1 : wkJ Z 14 0 = Z 11 0 + 9 := by rw [wo 14 (by decide)]; exact wa_f n1 (nz_0 t1 b1)
      rw [semi_bad (by rw [f1]; omega), f1]
      show Z 11 0 + 9 = T 3 0 + 9
      rw [t1.2.2.2.1]
/-- an item: both go on alike, or both stop at the same byte -/
theorem it_sim {X Y : Nat → Nat → Nat} (ht : TKE X Y) (hh : HT X Y) (h0 : Y 14 0 = 0) : IR (itI X) (riJ Y) := by
  by_cases c4 : X 4 0 = 4
  · rw [it_4 c4]; exact sim_h ht hh h0 c4
  · by_cases c5 : X 4 0 = 5
    · rw [it_5 c5]; exact sim_l ht hh h0 c5
    · by_cases c6 : X 4 0 = 6
      · rw [it_6 c6]; exact sim_w ht hh h0 c6
      · rw [it_n c4 c5 c6]
        refine Or.inr ⟨rfl, ?_⟩
        have k0 : Y 12 0 ≠ 0 := by rw [ht.2.2.2.2.1]; exact fun q => c4 (kc_0.mp q)
        have k1 : Y 12 0 ≠ 1 := by rw [ht.2.2.2.2.1]; exact fun q => c5 (kc_1.mp q)
        have k2 : Y 12 0 ≠ 2 := by rw [ht.2.2.2.2.1]; exact fun q => c6 (kc_2.mp q)
        rw [ri_bad h0 (by unfold riZ; rw [if_neg (by omega)])]
        show Y 11 0 + 9 = X 3 0 + 9
        rw [ht.2.2.2.1]
