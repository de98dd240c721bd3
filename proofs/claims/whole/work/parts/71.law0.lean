/-! THE LAW: two worlds in one heap, calls on either -/
theorem jn_P {D : va_G} {cl : List vw_C} {w1 w1' w2 : va_W} {A : Nat → Prop} {H H1 : Heap} (hP : va_P D cl (w1 ++ w2) H) (hD : va_D A (w1 ++ w2)) (hk : ∀ q, q < H.size → ¬ va_A w1 H.size q → H1[q]? = H[q]?) (h1 : va_P D cl w1' H1) : va_P D cl (w1' ++ w2) H1 := by
  refine va_P.app h1 (fun j q hj => ?_)
  have hq := hP (w1.length + j) q (ap_get hj)
  refine hq.kept (hk q.1 hq.lt (fun z => ?_))
  rcases z with ⟨k, e, hk⟩ | h
  · have hl := (List.getElem?_eq_some_iff.mp hk).1
    have := hD.1 k (w1.length + j) (q.1, e) q (by rw [List.getElem?_append_left hl]; exact hk) (ap_get hj) rfl
    omega
  · exact absurd hq.lt (by omega)
theorem jn_D {D : va_G} {cl : List vw_C} {w1 w1' w2 : va_W} {A : Nat → Prop} {H : Heap} (hP : va_P D cl (w1 ++ w2) H) (hD : va_D A (w1 ++ w2)) (hF : ∀ q, va_A w1 H.size q → A q) (h1 : va_D (va_A w1 H.size) w1') : va_D A (w1' ++ w2) := by
  have cross : ∀ (x y : Nat × va_E) (j : Nat), va_A w1 H.size x.1 → w2[j]? = some y → x.1 ≠ y.1 := by
    intro x y j hx hy e
    have hq := hP (w1.length + j) y (ap_get hy)
    rcases hx with ⟨k, e2, hk⟩ | h
    · have hl := (List.getElem?_eq_some_iff.mp hk).1
      have := hD.1 k (w1.length + j) (x.1, e2) y (by rw [List.getElem?_append_left hl]; exact hk) (ap_get hy) e
      omega
    · have := hq.lt
      omega
  have key : ∀ (k : Nat) (q : Nat × va_E), (w1' ++ w2)[k]? = some q → (k < w1'.length ∧ w1'[k]? = some q) ∨ (∃ j : Nat, k = w1'.length + j ∧ w2[j]? = some q) := by
    intro k q hk
    by_cases hl : k < w1'.length
    · rw [List.getElem?_append_left hl] at hk
      exact Or.inl ⟨hl, hk⟩
    · rw [List.getElem?_append_right (by omega)] at hk
      exact Or.inr ⟨k - w1'.length, by omega, hk⟩
  refine ⟨fun i j x y hi hj e => ?_, fun k q hk => ?_⟩
  · rcases key i x hi with ⟨a1, a2⟩ | ⟨i', a1, a2⟩ <;> rcases key j y hj with ⟨b1, b2⟩ | ⟨j', b1, b2⟩
    · exact h1.1 i j x y a2 b2 e
    · exact absurd e (cross x y j' (h1.2 i x a2) b2)
    · exact absurd e.symm (cross y x i' (h1.2 j y b2) a2)
    · have := hD.1 (w1.length + i') (w1.length + j') x y (ap_get a2) (ap_get b2) e
      omega
  · rcases key k q hk with ⟨a1, a2⟩ | ⟨j', a1, a2⟩
    · exact hF _ (h1.2 k q a2)
    · exact hD.2 _ q (ap_get a2)
theorem sw2_P {D : va_G} {cl : List vw_C} {w1 w2 : va_W} {H : Heap} (h : va_P D cl (w1 ++ w2) H) : va_P D cl (w2 ++ w1) H := va_P.app (fun k q hk => h _ q (ap_get hk)) (fun k q hk => h k q (by rw [List.getElem?_append_left (List.getElem?_eq_some_iff.mp hk).1]; exact hk))
theorem sw2_D {A : Nat → Prop} {w1 w2 : va_W} (h : va_D A (w1 ++ w2)) : va_D A (w2 ++ w1) := by
  have key : ∀ (k : Nat) (q : Nat × va_E), (w2 ++ w1)[k]? = some q → (k < w2.length ∧ (w1 ++ w2)[w1.length + k]? = some q) ∨ (∃ j : Nat, k = w2.length + j ∧ j < w1.length ∧ (w1 ++ w2)[j]? = some q) := by
    intro k q hk
    by_cases hl : k < w2.length
    · rw [List.getElem?_append_left hl] at hk
      exact Or.inl ⟨hl, ap_get hk⟩
    · rw [List.getElem?_append_right (by omega)] at hk
      have hl1 := (List.getElem?_eq_some_iff.mp hk).1
      exact Or.inr ⟨k - w2.length, by omega, hl1, by rw [List.getElem?_append_left hl1]; exact hk⟩
  refine ⟨fun i j x y hi hj e => ?_, fun k q hk => ?_⟩
  · rcases key i x hi with ⟨a1, a2⟩ | ⟨i', a1, a3, a2⟩ <;> rcases key j y hj with ⟨b1, b2⟩ | ⟨j', b1, b3, b2⟩
    · have := h.1 _ _ x y a2 b2 e; omega
    · have := h.1 _ _ x y a2 b2 e; omega
    · have := h.1 _ _ x y a2 b2 e; omega
    · have := h.1 _ _ x y a2 b2 e; omega
  · rcases key k q hk with ⟨a1, a2⟩ | ⟨j', a1, a3, a2⟩
    · exact h.2 _ q a2
    · exact h.2 _ q a2
section LAWCALL
variable {p : Program} {l : Launch} {e : Env} {R : Room} {s : State} {m : MethodId} {args : Array Value} {below : List Frame} {meth : Method} {c : Code} {H : Heap} {locs : List Loc} {cells slots : Nat} {Q : State → Prop} {E : cE} {own : String} {b : ByteArray} {n : Nat} {rt : Option FieldType} {A : Nat → Prop} {pc : Nat} {ls : Array Slot} {d' : Nat} {yM : MethodName} {b' : ByteArray} {n' : Nat} {rt' : Option FieldType} {As rest st0 : List Value} {w1 w1' w2 : va_W} {rv : Option Value} {idx k : Nat}
theorem lw_C {o : Nat} (hE : cEnv p s m args meth c E own b n rt A) (cc : Ct l E d' yM b' n' rt' (.ref o :: As) w1 rv w1') (hM : cMV yM b' n' rt' k) (hlink : Cond.methodLink own idx yM ∈ UW) {q0 ci : Nat} {fs : List Value} {q : vw_C} (hq : w1[q0]? = some (o, .inr (ci, fs))) (hc : vwCl[ci]? = some q) (hqC : q.1 = yM.cls)
    (hP : va_P E.1 vwCl (w1 ++ w2) H) (hD : va_D A (w1 ++ w2)) (hS : va_S A s.heap H locs) (hl : ls.size = n) (hn : As.length = k) (hst : st0 = As.reverse ++ .ref o :: rest) (hcat : (rest.map fun v => v.category).sum ≤ 8) (hR : d' + 1 ≤ R.frames ∧ 8 + (n' + 11) + (40 * d' + 12) ≤ R.locals) (hcs : cells ≤ R.cells ∧ slots ≤ R.slots) (hdg : decode b pc = .ok (.invokevirtual idx, 3))
    (kk : ∀ (H1 : Heap) (locs1 : List Loc), va_P E.1 vwCl (w1' ++ w2) H1 → va_D A (w1' ++ w2) → va_S A s.heap H1 locs1 → W p l e R s m args below meth c H1 locs1 cells slots Q (F0 m (pc + 3) ls (rv.toList ++ rest))) : W p l e R s m args below meth c H locs cells slots Q (F0 m pc ls st0) := by
  obtain ⟨hx, hb, hr, hts, hown, hml, hK, hlocks, hA, hZ⟩ := id hE
  obtain ⟨⟨v1, v2, v3, v4, v5⟩, v6, v7⟩ := hM
  have hP1 : va_P E.1 vwCl w1 H := fun k q hk => hP k q (by rw [List.getElem?_append_left (List.getElem?_eq_some_iff.mp hk).1]; exact hk)
  have hD1 : va_D A w1 := ⟨fun i j x y hi hj => hD.1 i j x y (by rw [List.getElem?_append_left (List.getElem?_eq_some_iff.mp hi).1]; exact hi) (by rw [List.getElem?_append_left (List.getElem?_eq_some_iff.mp hj).1]; exact hj), fun k q hk => hD.2 k q (by rw [List.getElem?_append_left (List.getElem?_eq_some_iff.mp hk).1]; exact hk)⟩
  have hF := va_A_sub hD1 hS hA
  have hr : va_Run p l e R s m args below meth c H locs cells slots 0 0 (F0 m pc ls st0) rest (cPost E (va_A w1 H.size) rv w1' (Value.ref o :: As).toArray) (va_A w1 H.size) := by
    refine va_runV (cc := b) (nL := n) (Ts := UW) (own := own) (C := yM.cls) (bytes := b') (maxL := n') (ret := rt') (n := k) ⟨hx, hb, hml, hown, hts⟩ (cc H.size) ?_ ?_ rfl hn hl hst (lv_room hcat) hdg hcs
    · refine cwV k hts ?_ rfl rfl rfl ⟨rfl, v3, v4, v5⟩ hR
      refine good_l ?_
      intro w hw
      rcases List.mem_append.mp hw with h | h
      · simp only [List.mem_cons, List.not_mem_nil, or_false] at h
        rcases h with rfl | rfl | rfl | rfl
        · exact hlink
        · exact v6
        · exact v7
        · exact v2
      · exact good_c v1 w h
    · refine ⟨cPre.blind, ?_, fun U hU hW => ⟨rfl, cPre_at hE hP1 hD1 hS U hU hW⟩⟩
      have := va_recv hK hP1 hc hq
      rw [hqC] at this
      exact this
  intro T hT X
  obtain ⟨v, st₀, t, T', L, h0, X', hL, e1, e2, ⟨⟨hv, hPa, hKa, hDa⟩, hz, hk⟩, st⟩ := hr T hT X
  cases hv
  rw [h0] at hz hk
  have hPb : va_P E.1 vwCl (w1' ++ w2) T'.heap := by
    rw [e1]
    exact jn_P hP hD hk hPa
  obtain ⟨t2, a1, b1⟩ := kk T'.heap (locs ++ L) hPb (jn_D hP hD hF hDa)
    ⟨Nat.le_trans hS.1 (by rw [e1]; exact hz), fun q h1 h2 => by rw [e1, hk q (Nat.lt_of_lt_of_le h1 hS.1) (fun z => h2 (hF q z))]; exact hS.2.1 q h1 h2, fun q hq => by
      rcases List.mem_append.mp hq with h | h
      · exact hS.2.2 q h
      · exact hF _ (hL q h)⟩ T' rfl X'
  exact ⟨t2, st t2 a1, b1⟩
theorem lw_M {o : Nat} (hE : cEnv p s m args meth c E own b n rt A) (cc : Ct l E d' yM b' n' rt' (.ref o :: As) w1 rv w1') (hM : cMV yM b' n' rt' k) (hlink : Cond.methodLink own idx yM ∈ UW) {q0 ci : Nat} {fs : List Value} {q : vw_C} (hq : w1[q0]? = some (o, .inr (ci, fs))) (hc : vwCl[ci]? = some q) (hqC : q.1 = yM.cls)
    (hP : va_P E.1 vwCl (w2 ++ w1) H) (hD : va_D A (w2 ++ w1)) (hS : va_S A s.heap H locs) (hl : ls.size = n) (hn : As.length = k) (hst : st0 = As.reverse ++ .ref o :: rest) (hcat : (rest.map fun v => v.category).sum ≤ 8) (hR : d' + 1 ≤ R.frames ∧ 8 + (n' + 11) + (40 * d' + 12) ≤ R.locals) (hcs : cells ≤ R.cells ∧ slots ≤ R.slots) (hdg : decode b pc = .ok (.invokevirtual idx, 3))
    (kk : ∀ (H1 : Heap) (locs1 : List Loc), va_P E.1 vwCl (w2 ++ w1') H1 → va_D A (w2 ++ w1') → va_S A s.heap H1 locs1 → W p l e R s m args below meth c H1 locs1 cells slots Q (F0 m (pc + 3) ls (rv.toList ++ rest))) : W p l e R s m args below meth c H locs cells slots Q (F0 m pc ls st0) :=
  lw_C hE cc hM hlink hq hc hqC (sw2_P hP) (sw2_D hD) hS hl hn hst hcat hR hcs hdg (fun H1 L1 h1 h2 h3 => kk H1 L1 (sw2_P h1) (sw2_D h2) h3)
/-- an int of the script -/
theorem lw_ld {bs L : Nat} {xs : Nat → Int32} (hE : cEnv p s m args meth c E own b n rt A) (hX : va_X bs L xs s s.heap) (hbl : bs < s.heap.size) (hbA : ¬ A bs) (hS : va_S A s.heap H locs) {i : Nat} {x : Int32} (hx : x = nI i) (hi : i < L) (hL : L ≤ 2560) (hdg : decode b pc = .ok (.iaload, 1))
    (kk : W p l e R s m args below meth c H locs cells slots Q (F0 m (pc + 1) ls (.int (xs i) :: rest))) : W p l e R s m args below meth c H locs cells slots Q (F0 m pc ls (.int x :: .ref bs :: rest)) := by
  subst hx
  refine va_sld hE.1 hE.2.1 hX hbl hbA hS (vp_in_nI hi (by omega)) hdg ?_
  rw [nI_clamp (by omega)]
  exact kk
end LAWCALL
def lwA (s : State) : Nat → Prop := fun q => s.heap.size ≤ q
theorem lv_lcmp0 {p : Program} {l : Launch} {e : Env} {R : Room} {s : State} {m : MethodId} {args : Array Value} {below : List Frame} {meth : Method} {c : Code} {H : Heap} {locs : List Loc} {cells slots : Nat} {Q : State → Prop} {cc : ByteArray} {pc : Nat} {ls : Array Slot} {rest : List Value} (hexec : p.tables.exec = Jvm.exec) (hb : c.code = cc) {x : Int64} (hdg : decode cc pc = .ok (.lcmp, 1))
    (k : W p l e R s m args below meth c H locs cells slots Q (F0 m (pc + 1) ls (.int 0 :: rest))) : W p l e R s m args below meth c H locs cells slots Q (F0 m pc ls (.long x :: .long x :: rest)) := by
  refine W.lcmp hexec hb hdg ?_
  have e : lg_cmp x x = 0 := by
    unfold lg_cmp
    rw [if_neg Int64.lt_irrefl, if_pos rfl]
  rw [e]
  exact k
