/-! PURE 30: the two sides beside each other -/
def dl6 (d0 d1 d2 d3 d4 d5 : Nat → Nat) : Nat → Nat → Nat
  | 0 => d0
  | 1 => d1
  | 2 => d2
  | 3 => d3
  | 4 => d4
  | _ => d5
theorem dl6_at (I : Nat → Nat → Nat) (b : Nat) : ∀ h, h < 6 → dl6 (I b) (I (b + 1)) (I (b + 2)) (I (b + 3)) (I (b + 4)) (I (b + 5)) h = I (b + h)
  | 0, _ => rfl
  | 1, _ => rfl
  | 2, _ => rfl
  | 3, _ => rfl
  | 4, _ => rfl
  | 5, _ => rfl
  | h + 6, hh => absurd hh (by omega)
def TxR (b : Nat → Nat) (n : Nat) (b' : Nat → Nat) (n' : Nat) : Prop := n = n' ∧ n' ≤ 300 ∧ ∀ k, k < n' → b k = b' k ∧ b' k < 256
def ToR (n w : Nat) (s p q l d0 d1 d2 d3 d4 d5 : Nat → Nat) (n' w' : Nat) (s' p' q' l' la lb : Nat → Nat) : Prop := n = n' ∧ n' ≤ 6 ∧ w = w' ∧ w' ≤ 9 ∧ ∀ h, h < n' → s h = s' h ∧ p h = p' h ∧ q h = q' h ∧ l h = l' h ∧ s' h < 48 ∧ p' h ≤ 9 ∧ 1 ≤ q' h ∧ q' h ≤ 9 ∧ l' h ≤ 2 ∧ ∀ t, t < 96 → dl6 d0 d1 d2 d3 d4 d5 h t = (s' h + t * p' h / q' h + lsG la lb h t (l' h)) % 48
def CuR (s p q l d0 d1 d2 d3 d4 d5 : Nat → Nat) : Prop := ∀ h, h < 6 → s h < 48 ∧ p h ≤ 9 ∧ q h ≤ 9 ∧ l h ≤ 2 ∧ ∀ t, t < 96 → dl6 d0 d1 d2 d3 d4 d5 h t < 48
def RdR (t k v c : Nat) : Prop := t ≤ 300 ∧ k ≤ 6 ∧ v ≤ 100 ∧ c ≤ 6
def MrR (l a b : Nat → Nat) (s k v : Nat) : Prop := (∀ x, x < 12 → l x ≤ 2) ∧ (∀ k, k < 24 → a k < 96 ∧ b k < 48) ∧ s ≤ 300 ∧ k ≤ 6 ∧ v ≤ 999
def MoR (t kh kb : Nat → Nat) (k w : Nat) (g : Nat → Nat) (o : Nat) : Prop := (∀ h, h < 6 → t h = g (o + 1 + h) ∧ t h < 48) ∧ w = g o ∧ w ≤ 95 ∧ k = g (o + 7) ∧ k ≤ 10 ∧ ∀ i, i < k → kh i = g (o + 8 + i) ∧ kb i = g (o + 18 + i) ∧ kh i < 6 ∧ kb i < 48
def KeR (a b : Nat → Nat) : Prop := ∀ j, j < 2 → a j = b j ∧ b j < 2
def ErR (n c : Nat) (a0 a1 a2 a3 : Nat → Nat) (c' : Nat) (g : Nat → Nat) : Prop := c = c' ∧ c' ≤ 4 ∧ ∀ k, k < c' → a0 k = g (4 * k) ∧ a1 k = g (4 * k + 1) ∧ a2 k = g (4 * k + 2) ∧ a3 k = g (4 * k + 3) ∧ g (4 * k) < n ∧ g (4 * k + 1) < 48 ∧ g (4 * k + 2) < 48 ∧ g (4 * k + 3) ≤ 9
def WaR (c : Nat) (a b : Nat → Nat) (c' : Nat) (a' b' : Nat → Nat) : Prop := c = c' ∧ c' ≤ 8 ∧ ∀ k, k < c' → a k = a' k ∧ b k = b' k ∧ a' k < 96 ∧ b' k < 48
def DeR (n c : Nat) (a b m : Nat → Nat) (c' : Nat) (g : Nat → Nat) : Prop := c = c' ∧ c' ≤ 8 ∧ ∀ k, k < c' → a k = g (3 * k) ∧ b k = g (3 * k + 1) ∧ m k = g (3 * k + 2) ∧ g (3 * k) < n ∧ g (3 * k + 1) < n ∧ g (3 * k + 2) < 48
/-- THE RELATION of the two sides -/
def Rel (I J : Nat → Nat → Nat) : Prop :=
  TxR (I 0) (I 1 0) (J 0) (J 1 0) ∧ ToR (I 13 0) (I 14 0) (I 15) (I 16) (I 17) (I 18) (I 20) (I 21) (I 22) (I 23) (I 24) (I 25) (J 2 0) (J 3 0) (J 4) (J 5) (J 6) (J 7) (J 8) (J 9) ∧
  CuR (I 15) (I 16) (I 17) (I 18) (I 20) (I 21) (I 22) (I 23) (I 24) (I 25) ∧ CuR (I 28) (I 29) (I 30) (I 31) (I 32) (I 33) (I 34) (I 35) (I 36) (I 37) ∧ RdR (I 3 0) (I 4 0) (I 5 0) (I 26 0) ∧ MrR (J 7) (J 8) (J 9) (J 11 0) (J 12 0) (J 13 0) ∧
  MoR (I 7) (I 8) (I 9) (I 10 0) (I 11 0) (J 16) 0 ∧ MoR (I 60) (I 61) (I 62) (I 63 0) (I 64 0) (J 16) 28 ∧ MoR (I 65) (I 66) (I 67) (I 68 0) (I 69 0) (J 16) 56 ∧ KeR (I 70) (J 17) ∧
  ErR (J 2 0) (I 44 0) (I 40) (I 41) (I 42) (I 43) (J 19 0) (J 18) ∧ WaR (I 47 0) (I 45) (I 46) (J 24 0) (J 22) (J 23) ∧ DeR (J 2 0) (I 55 0) (I 50) (I 51) (I 52) (J 26 0) (J 25)
section REL
variable {I J : Nat → Nat → Nat}
theorem Rel.tx (h : Rel I J) : TxR (I 0) (I 1 0) (J 0) (J 1 0) := h.1
theorem Rel.to (h : Rel I J) : ToR (I 13 0) (I 14 0) (I 15) (I 16) (I 17) (I 18) (I 20) (I 21) (I 22) (I 23) (I 24) (I 25) (J 2 0) (J 3 0) (J 4) (J 5) (J 6) (J 7) (J 8) (J 9) := h.2.1
theorem Rel.cu (h : Rel I J) : CuR (I 15) (I 16) (I 17) (I 18) (I 20) (I 21) (I 22) (I 23) (I 24) (I 25) := h.2.2.1
theorem Rel.sp (h : Rel I J) : CuR (I 28) (I 29) (I 30) (I 31) (I 32) (I 33) (I 34) (I 35) (I 36) (I 37) := h.2.2.2.1
theorem Rel.rd (h : Rel I J) : RdR (I 3 0) (I 4 0) (I 5 0) (I 26 0) := h.2.2.2.2.1
theorem Rel.mr (h : Rel I J) : MrR (J 7) (J 8) (J 9) (J 11 0) (J 12 0) (J 13 0) := h.2.2.2.2.2.1
theorem Rel.mo (h : Rel I J) : MoR (I 7) (I 8) (I 9) (I 10 0) (I 11 0) (J 16) 0 := h.2.2.2.2.2.2.1
theorem Rel.i0 (h : Rel I J) : MoR (I 60) (I 61) (I 62) (I 63 0) (I 64 0) (J 16) 28 := h.2.2.2.2.2.2.2.1
theorem Rel.i1 (h : Rel I J) : MoR (I 65) (I 66) (I 67) (I 68 0) (I 69 0) (J 16) 56 := h.2.2.2.2.2.2.2.2.1
theorem Rel.ke (h : Rel I J) : KeR (I 70) (J 17) := h.2.2.2.2.2.2.2.2.2.1
theorem Rel.er (h : Rel I J) : ErR (J 2 0) (I 44 0) (I 40) (I 41) (I 42) (I 43) (J 19 0) (J 18) := h.2.2.2.2.2.2.2.2.2.2.1
theorem Rel.wa (h : Rel I J) : WaR (I 47 0) (I 45) (I 46) (J 24 0) (J 22) (J 23) := h.2.2.2.2.2.2.2.2.2.2.2.1
theorem Rel.de (h : Rel I J) : DeR (J 2 0) (I 55 0) (I 50) (I 51) (I 52) (J 26 0) (J 25) := h.2.2.2.2.2.2.2.2.2.2.2.2
theorem rl_n (h : Rel I J) : I 13 0 = J 2 0 := h.to.1
theorem rl_n6 (h : Rel I J) : J 2 0 ≤ 6 := h.to.2.1
theorem rl_dl (h : Rel I J) : dlR I J := by
  intro x hx t ht
  have a := h.to.2.2.2.2 x hx
  have n6 := rl_n6 h
  have e : dl6 (I 20) (I 21) (I 22) (I 23) (I 24) (I 25) x = I (20 + x) := dl6_at I 20 x (by omega)
  rw [← e, lsM_G]
  exact a.2.2.2.2.2.2.2.2.2 t ht
theorem rl_eq (h : Rel I J) : eqC (J 2 0) (shC I) (shM J) := sh_eq (rl_dl h) (fun x hx => by have := (h.mo.1 x hx).1; rw [show 0 + 1 + x = 1 + x by omega] at this; exact this) (rl_n6 h)
theorem rl_CK (h : Rel I J) : CK I := by
  refine ⟨by rw [rl_n h]; exact rl_n6 h, by rw [h.to.2.2.1]; exact h.to.2.2.2.1, h.mo.2.2.1, fun x hx t ht => ?_, fun x hx => (h.mo.1 x hx).2⟩
  have e : dl6 (I 20) (I 21) (I 22) (I 23) (I 24) (I 25) x = I (20 + x) := dl6_at I 20 x hx
  rw [← e]
  exact (h.cu x hx).2.2.2.2 t ht
theorem rl_HK (h : Rel I J) : HK I := fun x hx => ⟨(h.cu x hx).1, (h.cu x hx).2.1, (h.cu x hx).2.2.1, (h.cu x hx).2.2.2.1⟩
theorem rl_TKJ (h : Rel I J) : TK J := ⟨h.tx.2.1, fun k hk => (h.tx.2.2 k hk).2⟩
theorem rl_TK (h : Rel I J) : TK I := ⟨by rw [h.tx.1]; exact h.tx.2.1, fun k hk => by rw [h.tx.1] at hk; rw [(h.tx.2.2 k hk).1]; exact (h.tx.2.2 k hk).2⟩
theorem rl_DKs (h : Rel I J) : DKs I := by
  refine ⟨h.rd.2.2.2, fun x hx => ⟨(h.sp x hx).2.2.2.1, fun t ht => ?_⟩⟩
  have e : dl6 (I 32) (I 33) (I 34) (I 35) (I 36) (I 37) x = I (32 + x) := dl6_at I 32 x hx
  rw [← e]
  exact (h.sp x hx).2.2.2.2 t ht
theorem rl_HKs (h : Rel I J) : HKs I := fun x hx => ⟨(h.sp x hx).1, (h.sp x hx).2.1, (h.sp x hx).2.2.1⟩
theorem rl_MK (h : Rel I J) : MK I := ⟨h.mo.2.2.2.2.1, fun k hk => (h.mo.2.2.2.2.2 k hk).2.2⟩
theorem rl_MKJ (h : Rel I J) : MKJ J := by
  have e7 : I 10 0 = J 16 7 := h.mo.2.2.2.1
  refine ⟨by rw [← e7]; exact h.mo.2.2.2.2.1, fun k hk => ?_⟩
  have a := h.mo.2.2.2.2.2 k (by rw [e7]; exact hk)
  rw [show 0 + 8 + k = 8 + k by omega, show 0 + 18 + k = 18 + k by omega] at a
  rw [← a.1, ← a.2.1]
  exact a.2.2
theorem rl_7J (h : Rel I J) : ∀ x, x < 6 → J 16 (1 + x) < 48 := fun x hx => by
  have a := h.mo.1 x hx
  rw [show 0 + 1 + x = 1 + x by omega] at a
  rw [← a.1]
  exact a.2
theorem rl_now (h : Rel I J) : I 11 0 = J 16 0 := h.mo.2.1
theorem rl_KM (h : Rel I J) : KM J := by
  refine ⟨rl_n6 h, h.to.2.2.2.1, by rw [← rl_now h]; exact h.mo.2.2.1, fun x hx => ?_, rl_7J h⟩
  have a := h.to.2.2.2.2 x hx
  have n6 := rl_n6 h
  exact ⟨a.2.2.2.2.1, a.2.2.2.2.2.1, a.2.2.2.2.2.2.1, a.2.2.2.2.2.2.2.1, a.2.2.2.2.2.2.2.2.1, fun i hi => h.mr.2.1 _ (by omega)⟩
theorem rl_EK (h : Rel I J) : EK I := by
  refine ⟨by rw [h.er.1]; exact h.er.2.1, fun k hk => ?_⟩
  have a := h.er.2.2 k (by rw [← h.er.1]; exact hk)
  have n6 := rl_n6 h
  rw [a.1, a.2.1, a.2.2.1, a.2.2.2.1]
  exact ⟨by omega, a.2.2.2.2.2.1, a.2.2.2.2.2.2.1, a.2.2.2.2.2.2.2⟩
theorem rl_EKJ (h : Rel I J) : EKJ J := ⟨h.er.2.1, fun k hk => (h.er.2.2 k hk).2.2.2.2⟩
theorem rl_WK (h : Rel I J) : WK I := by
  refine ⟨by rw [h.wa.1]; exact h.wa.2.1, fun k hk => ?_⟩
  have a := h.wa.2.2 k (by rw [← h.wa.1]; exact hk)
  rw [a.1, a.2.1]
  exact a.2.2
theorem rl_WKJ (h : Rel I J) : WKJ J := ⟨h.wa.2.1, fun k hk => (h.wa.2.2 k hk).2.2⟩
theorem rl_DK (h : Rel I J) : DK I := by
  refine ⟨by rw [h.de.1]; exact h.de.2.1, fun k hk => ?_⟩
  have a := h.de.2.2 k (by rw [← h.de.1]; exact hk)
  have n6 := rl_n6 h
  rw [a.1, a.2.1, a.2.2.1]
  exact ⟨by omega, by omega, a.2.2.2.2.2⟩
theorem rl_DKJ (h : Rel I J) : DKJ J := ⟨h.de.2.1, fun k hk => (h.de.2.2 k hk).2.2.2⟩
theorem rl_db (h : Rel I J) : dbR I J := by
  refine ⟨h.de.1, fun k hk => ?_⟩
  have a := h.de.2.2 k hk
  refine ⟨a.1, a.2.1, ?_⟩
  unfold quE quJ
  rw [a.2.1, a.2.2.1]
  exact fst_c (rl_eq h) a.2.2.2.2.1 _ _
theorem rl_70 (h : Rel I J) : ∀ j, j < 2 → I 70 j < 2 := fun j hj => by rw [(h.ke j hj).1]; exact (h.ke j hj).2
theorem rl_17 (h : Rel I J) : ∀ j, j < 2 → J 17 j < 2 := fun j hj => (h.ke j hj).2
/-! the answers -/
theorem an_shows (h : Rel I J) (p0 p1 : Int32) : r_shows (I 13 0) (shC I) p0 p1 = r_shows (J 2 0) (shM J) p0 p1 := by rw [rl_n h]; exact r_shows_c (rl_n6 h) (rl_eq h)
theorem an_first (h : Rel I J) (p0 p1 p2 : Int32) : r_first (I 13 0) (shC I) p0 p1 p2 = r_first (J 2 0) (shM J) p0 p1 p2 := by rw [rl_n h]; exact r_first_c (rl_n6 h) (rl_eq h)
theorem an_many (h : Rel I J) (p0 p1 : Int32) : r_many (I 13 0) (shC I) p0 p1 = r_many (J 2 0) (shM J) p0 p1 := by rw [rl_n h]; exact r_many_c (rl_n6 h) (rl_eq h)
theorem an_there (h : Rel I J) (p0 p1 p2 : Int32) : r_there (I 13 0) (shC I) p0 p1 p2 = r_there (J 2 0) (shM J) p0 p1 p2 := by rw [rl_n h]; exact r_there_c (rl_n6 h) (rl_eq h)
theorem an_early (h : Rel I J) (p0 p1 p2 : Int32) : r_early (I 13 0) (I 14 0) (shC I) p0 p1 p2 = r_early (J 2 0) (J 3 0) (shM J) p0 p1 p2 := by rw [rl_n h, h.to.2.2.1]; exact r_early_c (rl_n6 h) (rl_eq h)
theorem an_house (h : Rel I J) (p0 p1 : Int32) : r_house (I 13 0) (I 15) (I 16) (I 17) (I 18) (I 7) p0 p1 = r_house (J 2 0) (J 4) (J 5) (J 6) (J 7) (fun h => J 16 (1 + h)) p0 p1 := by
  rw [rl_n h]
  refine r_house_c (rl_n6 h) (fun x hx => ?_)
  have a := h.to.2.2.2.2 x hx
  have n6 := rl_n6 h
  have b := (h.mo.1 x (by omega)).1
  rw [show 0 + 1 + x = 1 + x by omega] at b
  exact ⟨a.1, a.2.1, a.2.2.1, a.2.2.2.1, b⟩
theorem an_go (h : Rel I J) (p0 : Int32) : r_go (I 11 0) p0 = r_go (J 16 0) p0 := by rw [rl_now h]
theorem an_turn (h : Rel I J) (p0 p1 : Int32) : r_turn (I 13 0) (I 11 0) (shC I) p0 p1 = r_turn (J 2 0) (J 16 0) (shM J) p0 p1 := by
  rw [rl_n h, rl_now h]
  exact r_turn_c (rl_n6 h) (by have := (rl_KM h).2.2.1; omega) (rl_eq h)
theorem an_undo (h : Rel I J) : r_undo (I 10 0) (I 8 (I 10 0 - 1)) = r_undo (J 16 7) (J 16 (8 + (J 16 7 - 1))) := by
  have e : I 10 0 = J 16 7 := h.mo.2.2.2.1
  unfold r_undo
  by_cases z : I 10 0 = 0
  · rw [if_pos z, if_pos (by omega)]
  · rw [if_neg z, if_neg (by omega), (h.mo.2.2.2.2.2 (I 10 0 - 1) (by omega)).1, e, show 0 + 8 + (J 16 7 - 1) = 8 + (J 16 7 - 1) by omega]
theorem an_errand (h : Rel I J) (p0 p1 p2 p3 : Int32) : r_errand (I 13 0) (I 44 0) p0 p1 p2 p3 = r_errand (J 2 0) (J 19 0) p0 p1 p2 p3 := by rw [rl_n h, h.er.1]
theorem an_soonest (h : Rel I J) (p0 p1 : Int32) : r_soonest (I 13 0) (seC I) (sxC I) (I 44 0) p0 p1 = r_soonest (J 2 0) (seJ J) (sxJ J) (J 19 0) p0 p1 := by
  rw [rl_n h, h.er.1]
  refine r_soonest_c (rl_n6 h) h.er.2.1 (fun x hx => ?_)
  have hq := so_eq (c := J 19 0) h.er.2.1 (EC := fun f => enC I f x) (EJ := fun g => enJ J g x) (fun f g hf hfg => by
    unfold enC enJ
    rw [h.er.1, h.to.2.2.1, rl_now h]
    exact enK_c (rl_eq h) (fun k hk => by
      have a := h.er.2.2 k hk
      exact ⟨a.1, a.2.1, a.2.2.1, a.2.2.2.1, by rw [a.1]; exact a.2.2.2.2.1⟩) (fun i hi => ⟨hfg i hi, hf i hi⟩) _ _ _ _ (by omega))
  unfold seC sxC soC
  rw [h.er.1]
  exact hq
theorem an_party (h : Rel I J) (p0 : Int32) : r_party (I 13 0) (shC I) p0 = r_party (J 2 0) (shM J) p0 := by rw [rl_n h]; exact r_party_c (rl_eq h)
theorem an_treaty (h : Rel I J) (p0 p1 p2 : Int32) : r_treaty (I 13 0) (shC I) p0 p1 p2 = r_treaty (J 2 0) (shM J) p0 p1 p2 := by rw [rl_n h]; exact r_treaty_c (rl_n6 h) (rl_eq h)
theorem an_saw (h : Rel I J) (p0 p1 : Int32) : r_saw (I 47 0) p0 p1 = r_saw (J 24 0) p0 p1 := by rw [h.wa.1]
theorem an_whose (h : Rel I J) (p0 : Int32) : r_whose (btU (fun h => cdB (shC I h) (I 45) (I 46) (I 47 0)) (I 13 0)) (fun t => ulC (fun u => shC I u t) (btU (fun h => cdB (shC I h) (I 45) (I 46) (I 47 0)) (I 13 0)) (I 13 0)) p0 = r_whose (btU (fun h => cdB (shM J h) (J 22) (J 23) (J 24 0)) (J 2 0)) (fun t => ulM (fun u => shM J u t) (btU (fun h => cdB (shM J h) (J 22) (J 23) (J 24 0)) (J 2 0)) (J 2 0)) p0 := by
  have e : btU (fun h => cdB (shC I h) (I 45) (I 46) (I 47 0)) (I 13 0) = btU (fun h => cdB (shM J h) (J 22) (J 23) (J 24 0)) (J 2 0) := by
    rw [rl_n h, h.wa.1]
    exact btU_c _ (fun x hx => cd_c (rl_eq h) (fun k hk => by
      have a := h.wa.2.2 k hk
      exact ⟨a.1, a.2.1, by rw [a.1]; exact a.2.2.1⟩) hx)
  rw [e, rl_n h]
  refine r_whose_c (fun t ht => ?_)
  rw [ul_eq _ (fun u _ => shC_lt I u t)]
  exact ulM_c _ (fun u hu => rl_eq h u hu t ht)
theorem an_aged (h : Rel I J) (p0 p1 p2 : Int32) : r_aged (I 13 0) (fun u t => lv (I 16 u) (I 17 u) t) p0 p1 p2 = r_aged (J 2 0) (fun u t => t * J 5 u / J 6 u) p0 p1 p2 := by
  rw [rl_n h]
  refine r_aged_c (rl_n6 h) (fun x hx t _ => ?_)
  have a := h.to.2.2.2.2 x hx
  show lv (I 16 x) (I 17 x) t = t * J 5 x / J 6 x
  unfold lv
  rw [a.2.1, a.2.2.1, if_neg (by omega)]
theorem an_owes (h : Rel I J) (p0 p1 p2 : Int32) : r_owes (I 13 0) (I 55 0) p0 p1 p2 = r_owes (J 2 0) (J 26 0) p0 p1 p2 := by rw [rl_n h, h.de.1]
theorem an_due (h : Rel I J) (p0 : Int32) : r_due (I 55 0) (quE I) (rgC I) p0 = r_due (J 26 0) (quJ J) (ex (cmB J) (J 26 0)) p0 := by
  have b := rl_db h
  rw [ring_eq b]
  unfold r_due
  rw [b.1]
  by_cases z : p0 = -1
  · rw [if_pos z, if_pos z]
  · rw [if_neg z, if_neg z]
    rcases e : inB p0 (J 26 0) with _ | _
    · rfl
    · obtain ⟨x, hx, rfl⟩ := inB_t (by have := h.de.2.1; omega) e
      simp only [cond_true]
      rw [tn_nI (by have := h.de.2.1; omega), (b.2 x hx).2.2]
theorem an_mark (h : Rel I J) (p0 p1 : Int32) : r_mark (I 13 0) (I 11 0) (shC I) (I 16) (I 17) (I 18) p0 p1 = r_mark (J 2 0) (J 16 0) (shM J) (J 5) (J 6) (J 7) p0 p1 := by
  rw [rl_n h, rl_now h]
  refine r_mark_c (rl_n6 h) (by have := (rl_KM h).2.2.1; omega) (rl_eq h) (fun x hx => ?_)
  have a := h.to.2.2.2.2 x hx
  exact ⟨a.2.1, a.2.2.1, a.2.2.2.1⟩
theorem an_keep (h : Rel I J) (p0 : Int32) : r_keep (I 11 0) p0 = r_keep (J 16 0) p0 := by rw [rl_now h]
theorem an_back (h : Rel I J) (p0 : Int32) : r_back (I 70) (fun j => if j = 0 then I 64 0 else I 69 0) p0 = r_back (J 17) (fun j => J 16 (28 * (1 + j))) p0 := by
  unfold r_back
  rcases e : wi p0 (nI 0) (nI 1) with _ | _
  · rfl
  · obtain ⟨j, _, hj, rfl⟩ := wi_of (by decide) (by decide) e
    simp only [cond_true]
    rw [tn_nI (by omega), (h.ke j (by omega)).1]
    by_cases z : J 17 j = 0
    · rw [if_pos z, if_pos z]
    · rw [if_neg z, if_neg z]
      rcases (show j = 0 ∨ j = 1 by omega) with rfl | rfl
      · rw [if_pos rfl, h.i0.2.1]
      · rw [if_neg (by decide), h.i1.2.1]
theorem an_count (h : Rel I J) (p0 : Int32) : r_count (fun i => [I 13 0, I 14 0, I 11 0, I 44 0, I 47 0, I 55 0, I 10 0, I 1 0].getD i 0) p0 = r_count (fun i => [J 2 0, J 3 0, J 16 0, J 19 0, J 24 0, J 26 0, J 16 7, J 1 0].getD i 0) p0 := by
  rw [rl_n h, h.to.2.2.1, rl_now h, h.er.1, h.wa.1, h.de.1, show I 10 0 = J 16 7 from h.mo.2.2.2.1, h.tx.1]
theorem an_trM (h : Rel I J) (tr : Int64) (p0 p1 : Int32) : trM (I 13 0) tr p0 p1 = trM (J 2 0) tr p0 p1 := by rw [rl_n h]
theorem an_type (h : Rel I J) (p : Int32) : r_type (I 1 0) p = r_type (J 1 0) p := by rw [h.tx.1]
end REL
