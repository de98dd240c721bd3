/-! PURE 24: orders by base 4 and by their number -/
def bsR (S : Nat → Nat) : List Nat → Nat × Nat
  | [] => (0, 0)
  | o :: r => if 0 < S o ∧ ((bsR S r).1 = 0 ∨ S o < (bsR S r).2) then (o + 9, S o) else bsR S r
def vlR (V : Nat → Bool) : Nat → List Nat
  | 0 => []
  | n + 1 => if V n = true then n :: vlR V n else vlR V n
theorem pb_bs {S : Nat → Nat} {V : Nat → Bool} (h : ∀ o, V o = false → S o = 0) : ∀ n, pb S n = bsR S (vlR V n) := by
  intro n
  induction n with
  | zero => rfl
  | succ n ih =>
    rw [vlR]
    cases q : V n
    · rw [pb_f0 (h n q), if_neg (by decide), ih]
    · rw [if_pos rfl, bsR, pb, ih]
theorem bs_2 {S S' : Nat → Nat} {D D' : Nat → List Nat} : ∀ (L L' : List Nat), L.map D = L'.map D' → (∀ o, o ∈ L → ∀ o', o' ∈ L' → D o = D' o' → S o = S' o') → (bsR S L).2 = (bsR S' L').2 ∧ (((bsR S L).1 = 0 ∧ (bsR S' L').1 = 0) ∨ ((bsR S L).1 ≠ 0 ∧ (bsR S' L').1 ≠ 0 ∧ D ((bsR S L).1 - 9) = D' ((bsR S' L').1 - 9))) := by
  intro L
  induction L with
  | nil =>
    intro L' hm _
    cases L' with
    | nil => exact ⟨rfl, Or.inl ⟨rfl, rfl⟩⟩
    | cons o' r' => simp at hm
  | cons o r ih =>
    intro L' hm hs
    cases L' with
    | nil => simp at hm
    | cons o' r' =>
      rw [List.map_cons, List.map_cons] at hm
      have hd := (List.cons.inj hm).1
      have ht := (List.cons.inj hm).2
      have e := hs o (List.mem_cons_self) o' (List.mem_cons_self) hd
      obtain ⟨i2, i1⟩ := ih r' ht (fun a ha b hb => hs a (List.mem_cons_of_mem _ ha) b (List.mem_cons_of_mem _ hb))
      have hc : (0 < S o ∧ ((bsR S r).1 = 0 ∨ S o < (bsR S r).2)) ↔ (0 < S' o' ∧ ((bsR S' r').1 = 0 ∨ S' o' < (bsR S' r').2)) := by
        rw [e, i2]
        rcases i1 with ⟨a, b⟩ | ⟨a, b, _⟩
        · rw [a, b]
        · simp [a, b]
      rw [bsR, bsR]
      by_cases q : 0 < S o ∧ ((bsR S r).1 = 0 ∨ S o < (bsR S r).2)
      · rw [if_pos q, if_pos (hc.mp q)]
        refine ⟨e, Or.inr ⟨by omega, by omega, ?_⟩⟩
        show D (o + 9 - 9) = D' (o' + 9 - 9)
        rw [Nat.add_sub_cancel, Nat.add_sub_cancel, hd]
      · rw [if_neg q, if_neg (fun z => q (hc.mpr z))]
        exact ⟨i2, i1⟩
def dgC (c o : Nat) : List Nat := (List.range c).map (ioC c o)
def dgJ (c o : Nat) : List Nat := (List.range c).map (ioJ c o)
theorem ord_eq : ∀ c, c ≤ 4 → (vlR (oC c) (2 ^ (2 * c))).map (dgC c) = (vlR (oJ c) (c ^ c)).map (dgJ c) := by decide +kernel
theorem dg_at {f g : Nat → Nat} {c : Nat} (h : (List.range c).map f = (List.range c).map g) : ∀ i, i < c → f i = g i := by
  intro i hi
  have e := congrArg (fun l => l[i]?) h
  simp [hi] at e
  exact e
/-- the best of all orders is the same, whichever way they are numbered -/
theorem so_eq {c : Nat} (hc : c ≤ 4) {EC EJ : (Nat → Nat) → Nat} (hE : ∀ f g, (∀ i, i < c → f i < c) → (∀ i, i < c → f i = g i) → EC f = EJ g) :
    (pb (fun o => if oC c o = true then EC (ioC c o) else 0) (2 ^ (2 * c))).2 = (pb (fun o => if oJ c o = true then EJ (ioJ c o) else 0) (c ^ c)).2 ∧
    ((pb (fun o => if oC c o = true then EC (ioC c o) else 0) (2 ^ (2 * c))).2 ≠ 0 → ∀ i, i < c → ioC c ((pb (fun o => if oC c o = true then EC (ioC c o) else 0) (2 ^ (2 * c))).1 - 9) i = ioJ c ((pb (fun o => if oJ c o = true then EJ (ioJ c o) else 0) (c ^ c)).1 - 9) i) := by
  have mem : ∀ (V : Nat → Bool) n o, o ∈ vlR V n → V o = true := by
    intro V n
    induction n with
    | zero => intro o h; cases h
    | succ n ih =>
      intro o h
      rw [vlR] at h
      split at h
      · rename_i q
        rcases List.mem_cons.mp h with e | e
        · rw [e]; exact q
        · exact ih o e
      · exact ih o h
  have z := bs_2 (S := fun o => if oC c o = true then EC (ioC c o) else 0) (S' := fun o => if oJ c o = true then EJ (ioJ c o) else 0) (D := dgC c) (D' := dgJ c) _ _ (ord_eq c hc) (fun o ho o' ho' hd => by
    have v1 := mem _ _ _ ho
    have v2 := mem _ _ _ ho'
    show (if oC c o = true then EC (ioC c o) else 0) = (if oJ c o' = true then EJ (ioJ c o') else 0)
    rw [if_pos v1, if_pos v2]
    exact hE _ _ (fun i hi => oC_lt v1 i hi) (dg_at hd))
  rw [← pb_bs (S := fun o => if oC c o = true then EC (ioC c o) else 0) (V := oC c) (fun o h => if_neg (by rw [h]; decide)), ← pb_bs (S := fun o => if oJ c o = true then EJ (ioJ c o) else 0) (V := oJ c) (fun o h => if_neg (by rw [h]; decide))] at z
  refine ⟨z.1, fun hne i hi => ?_⟩
  rcases z.2 with ⟨a, _⟩ | ⟨_, _, a⟩
  · exact absurd (pb_z.mp a) hne
  · exact dg_at a i hi
