/-! PURE 22: equal clocks, equal answers -/
def eqC (n : Nat) (f g : Nat → Nat → Nat) : Prop := ∀ x, x < n → ∀ t, t < 96 → f x t = g x t
theorem fst_c {n : Nat} {f g : Nat → Nat → Nat} (h : eqC n f g) {x : Nat} (hx : x < n) (v t : Nat) : fst (f x) v t = fst (g x) v t := by
  unfold fst
  exact sr_congr (fun u _ hu => by rw [h x hx u hu])
theorem cnt_c {n : Nat} {f g : Nat → Nat → Nat} (h : eqC n f g) {x : Nat} (hx : x < n) (v : Nat) : cnt (fun u => decide (f x u = v)) 96 = cnt (fun u => decide (g x u = v)) 96 := cnt_congr 96 (fun u hu => by rw [h x hx u hu])
theorem r_shows_c {n : Nat} {f g : Nat → Nat → Nat} {p0 p1 : Int32} (hn : n ≤ 6) (h : eqC n f g) : r_shows n f p0 p1 = r_shows n g p0 p1 := by
  unfold r_shows
  rcases e : inB p0 n with _ | _
  · rfl
  · obtain ⟨x, hx, rfl⟩ := inB_t (by omega) e
    rcases e2 : inB p1 96 with _ | _
    · rfl
    · obtain ⟨t, ht, rfl⟩ := inB_t (by decide) e2
      simp only [cond_true]
      rw [tn_nI (by omega), tn_nI (by omega), h x hx t ht]
theorem r_first_c {n : Nat} {f g : Nat → Nat → Nat} {p0 p1 p2 : Int32} (hn : n ≤ 6) (h : eqC n f g) : r_first n f p0 p1 p2 = r_first n g p0 p1 p2 := by
  unfold r_first
  rcases e : inB p0 n with _ | _
  · rfl
  · obtain ⟨x, hx, rfl⟩ := inB_t (by omega) e
    rw [tn_nI (by omega), fst_c h hx]
set_option maxRecDepth 16384 in
theorem r_many_c {n : Nat} {f g : Nat → Nat → Nat} {p0 p1 : Int32} (hn : n ≤ 6) (h : eqC n f g) : r_many n f p0 p1 = r_many n g p0 p1 := by
  unfold r_many
  rcases e : inB p0 n with _ | _
  · rfl
  · obtain ⟨x, hx, rfl⟩ := inB_t (by omega) e
    have hv : nev (f x) = nev (g x) := cnt_congr 48 (fun v _ => by rw [cnt_c h hx v])
    rw [tn_nI (by omega), cnt_c h hx, hv]
theorem r_there_c {n : Nat} {f g : Nat → Nat → Nat} {p0 p1 p2 : Int32} (hn : n ≤ 6) (h : eqC n f g) : r_there n f p0 p1 p2 = r_there n g p0 p1 p2 := by
  unfold r_there
  rcases e : inB p0 n with _ | _
  · rfl
  · obtain ⟨x, hx, rfl⟩ := inB_t (by omega) e
    rcases e2 : inB p2 n with _ | _
    · rfl
    · obtain ⟨y, hy, rfl⟩ := inB_t (by omega) e2
      simp only [cond_true]
      rw [tn_nI (show x < 2 ^ 31 by omega), tn_nI (show y < 2 ^ 31 by omega), fst_c h hx]
      by_cases z : fst (g x) (tn p1) 0 = 0
      · rw [if_pos z, if_pos z]
      · have q := fst_pos (Nat.pos_of_ne_zero z)
        have q2 := fst_le (g x) (tn p1) 0
        rw [if_neg z, if_neg z, h y hy _ (by omega)]
theorem ev_c {n w : Nat} {f g : Nat → Nat → Nat} (h : eqC n f g) {x y : Nat} (hx : x < n) (hy : y < n) : ∀ u, u < 96 - w → evF f w x y u = evF g w x y u := by
  intro u hu
  unfold evF
  rw [h x hx u (by omega), h y hy (u + w) (by omega)]
theorem r_early_c {n w : Nat} {f g : Nat → Nat → Nat} {p0 p1 p2 : Int32} (hn : n ≤ 6) (h : eqC n f g) : r_early n w f p0 p1 p2 = r_early n w g p0 p1 p2 := by
  unfold r_early
  rcases e : hb2 n p0 p1 with _ | _
  · rfl
  · obtain ⟨x, y, hx, hy, hxy, rfl, rfl⟩ := hb2_t (by omega) e
    rw [tn_nI (show x < 2 ^ 31 by omega), tn_nI (show y < 2 ^ 31 by omega), cnt_congr _ (ev_c h hx hy), sr_congr (fun u _ hu => ev_c h hx hy u hu)]
theorem r_turn_c {n now : Nat} {f g : Nat → Nat → Nat} {p0 p1 : Int32} (hn : n ≤ 6) (hw : now < 96) (h : eqC n f g) : r_turn n now f p0 p1 = r_turn n now g p0 p1 := by
  unfold r_turn
  rcases e : inB p0 n with _ | _
  · rfl
  · obtain ⟨x, hx, rfl⟩ := inB_t (by omega) e
    rw [tn_nI (by omega), h x hx now hw]
theorem spr_c {n : Nat} {f g : Nat → Nat → Nat} (h : eqC n f g) (v : Nat) : sprE (fun u => fst (f u) v 0) n = sprE (fun u => fst (g u) v 0) n := by
  have key : ∀ m, m ≤ n → az (fun u => fst (f u) v 0) m = az (fun u => fst (g u) v 0) m ∧ laU (fun u => fst (f u) v 0) m = laU (fun u => fst (g u) v 0) m ∧ eaU (fun u => fst (f u) v 0) m = eaU (fun u => fst (g u) v 0) m := by
    intro m
    induction m with
    | zero => intro _; exact ⟨rfl, rfl, rfl⟩
    | succ m ih =>
      intro hm
      have q := ih (by omega)
      rw [az, az, laU, laU, eaU, eaU, q.1, q.2.1, q.2.2, fst_c h (show m < n by omega)]
      exact ⟨rfl, rfl, rfl⟩
  have k := key n (Nat.le_refl _)
  unfold sprE
  rw [k.1, k.2.1, k.2.2]
theorem r_party_c {n : Nat} {f g : Nat → Nat → Nat} {p0 : Int32} (h : eqC n f g) : r_party n f p0 = r_party n g p0 := by
  unfold r_party
  have e : (fun v => sprE (fun u => fst (f u) v 0) n) = fun v => sprE (fun u => fst (g u) v 0) n := funext (spr_c h)
  rw [e, spr_c h]
theorem trT_c {n : Nat} {f g : Nat → Nat → Nat} (h : eqC n f g) {x y : Nat} (hx : x < n) (hy : y < n) : trT f x y = trT g x y := by
  funext v
  exact cnt_congr 96 (fun u hu => by rw [h x hx u hu, h y hy u hu])
set_option maxRecDepth 16384 in
theorem r_treaty_c {n : Nat} {f g : Nat → Nat → Nat} {p0 p1 p2 : Int32} (hn : n ≤ 6) (h : eqC n f g) : r_treaty n f p0 p1 p2 = r_treaty n g p0 p1 p2 := by
  unfold r_treaty
  rcases e : hb2 n p0 p1 with _ | _
  · rfl
  · obtain ⟨x, y, hx, hy, hxy, rfl, rfl⟩ := hb2_t (by omega) e
    rw [tn_nI (show x < 2 ^ 31 by omega), tn_nI (show y < 2 ^ 31 by omega), trT_c h hx hy]
theorem r_mark_c {n now : Nat} {f g : Nat → Nat → Nat} {p q l p' q' l' : Nat → Nat} {p0 p1 : Int32} (hn : n ≤ 6) (hw : now < 96) (h : eqC n f g) (h2 : ∀ x, x < n → p x = p' x ∧ q x = q' x ∧ l x = l' x) : r_mark n now f p q l p0 p1 = r_mark n now g p' q' l' p0 p1 := by
  unfold r_mark
  rcases e : inB p1 n with _ | _
  · rfl
  · obtain ⟨x, hx, rfl⟩ := inB_t (by omega) e
    rw [tn_nI (by omega), h x hx now hw, (h2 x hx).1, (h2 x hx).2.1, (h2 x hx).2.2]
/-- the two sides' clocks -/
def dlR (I J : Nat → Nat → Nat) : Prop := ∀ h, h < J 2 0 → ∀ t, t < 96 → I (20 + h) t = (J 4 h + t * J 5 h / J 6 h + lsM J h t (J 7 h)) % 48
theorem sh_eq {I J : Nat → Nat → Nat} (hd : dlR I J) (ht : ∀ h, h < 6 → I 7 h = J 16 (1 + h)) (hn : J 2 0 ≤ 6) : eqC (J 2 0) (shC I) (shM J) := by
  intro x hx t h
  unfold shC shM
  rw [hd x hx t h, ht x (by omega)]
  omega
