/-! THE LAW: what stands at its entry -/
theorem ar_p {U : State} {args : Array Value} {ty : FieldType} (hra : ∀ cA : ClassId, U.vm.findClass ("[" ++ ty.toString) = some cA → va_RA U cA ty) (h : (Cond.arrayClass ty).before args U = true) : ∃ cA : ClassId, ArrOfT U cA ty ∧ va_RA U cA ty := by
  obtain ⟨cA, k, comp, h1, h2, h3⟩ := Cond.arrayClass_spec h
  exact ⟨cA, fun n z => ⟨fun k h => (by cases h), k, h2, comp, h3⟩, hra cA h1⟩
theorem ar_o {U : State} {C : String} (h : va_AO C U) : ∃ cA : ClassId, ArrOfT U cA (.object C) ∧ va_RA U cA (.object C) := by
  obtain ⟨comp, cA, k, h1, h2, h3, h4, h5⟩ := Cond.arrayOver_spec h
  exact ⟨cA, fun n z => ⟨fun k h => (by cases h), k, h3, comp, h4⟩, k, comp, h3, h4, h1, h5⟩
theorem ar_ex {U : State} {args : Array Value} (hU : ∀ w ∈ UW, w.before args U = true) (hO : iAO U) : ∃ y : Nat → ClassId, ∀ (k : Nat) (q : ClassId × FieldType), (tyC y)[k]? = some q → ArrOfT U q.1 q.2 ∧ va_RA U q.1 q.2 := by
  obtain ⟨y0, h0⟩ := ar_p (ty := .byte) (fun _ z => z) (hU _ (uw mt_A_byte rfl))
  obtain ⟨y1, h1⟩ := ar_p (ty := .int) (fun _ z => z) (hU _ (uw mt_A_int rfl))
  obtain ⟨y2, h2⟩ := ar_p (ty := .boolean) (fun _ z => z) (hU _ (uw mt_A_boolean rfl))
  obtain ⟨y3, h3⟩ := ar_o hO.1
  obtain ⟨y4, h4⟩ := ar_o hO.2
  refine ⟨fun k => match k with | 0 => y0 | 1 => y1 | 2 => y2 | 3 => y3 | _ => y4, fun k q hq => ?_⟩
  match k, hq with
  | 0, hq => cases hq; exact h0
  | 1, hq => cases hq; exact h1
  | 2, hq => cases hq; exact h2
  | 3, hq => cases hq; exact h3
  | 4, hq => cases hq; exact h4
  | k + 5, hq => simp at hq
theorem kn_ex {U : State} {args : Array Value} (hU : ∀ w ∈ UW, w.before args U = true) : ∃ D : va_G, ∀ (k : Nat) (q : vw_C), vwCl[k]? = some q → u_Kn U q.1 q.2.1 q.2.2 (D.1 k) (D.2 k) := by
  obtain ⟨c0, i0, h0⟩ := u_known (C := RX0) (T := TX0) (N := 3) (n := 3) hU inU0 (hU _ (uw mt_Z_X0 rfl))
  obtain ⟨c1, i1, h1⟩ := u_known (C := RX1) (T := TX1) (N := 7) (n := 7) hU inU1 (hU _ (uw mt_Z_X1 rfl))
  obtain ⟨c2, i2, h2⟩ := u_known (C := RX2) (T := TX2) (N := 6) (n := 6) hU inU2 (hU _ (uw mt_Z_X2 rfl))
  obtain ⟨c3, i3, h3⟩ := u_known (C := RX3) (T := TX3) (N := 5) (n := 5) hU inU3 (hU _ (uw mt_Z_X3 rfl))
  obtain ⟨c4, i4, h4⟩ := u_known (C := RX4) (T := TX4) (N := 5) (n := 5) hU inU4 (hU _ (uw mt_Z_X4 rfl))
  obtain ⟨c5, i5, h5⟩ := u_known (C := RX5) (T := TX5) (N := 7) (n := 7) hU inU5 (hU _ (uw mt_Z_X5 rfl))
  obtain ⟨c6, i6, h6⟩ := u_known (C := RX6) (T := TX6) (N := 2) (n := 2) hU inU6 (hU _ (uw mt_Z_X6 rfl))
  obtain ⟨c7, i7, h7⟩ := u_known (C := RX7) (T := TX7) (N := 3) (n := 3) hU inU7 (hU _ (uw mt_Z_X7 rfl))
  obtain ⟨c8, i8, h8⟩ := u_known (C := RX8) (T := TX8) (N := 4) (n := 4) hU inU8 (hU _ (uw mt_Z_X8 rfl))
  obtain ⟨c9, i9, h9⟩ := u_known (C := RX9) (T := TX9) (N := 10) (n := 10) hU inU9 (hU _ (uw mt_Z_X9 rfl))
  obtain ⟨c10, i10, h10⟩ := u_known (C := RX10) (T := TX10) (N := 28) (n := 28) hU inU10 (hU _ (uw mt_Z_X10 rfl))
  refine ⟨(fun k => match k with | 0 => c0 | 1 => c1 | 2 => c2 | 3 => c3 | 4 => c4 | 5 => c5 | 6 => c6 | 7 => c7 | 8 => c8 | 9 => c9 | _ => c10, fun k => match k with | 0 => i0 | 1 => i1 | 2 => i2 | 3 => i3 | 4 => i4 | 5 => i5 | 6 => i6 | 7 => i7 | 8 => i8 | 9 => i9 | _ => i10), fun k q hq => ?_⟩
  match k, hq with
  | 0, hq => cases hq; exact h0
  | 1, hq => cases hq; exact h1
  | 2, hq => cases hq; exact h2
  | 3, hq => cases hq; exact h3
  | 4, hq => cases hq; exact h4
  | 5, hq => cases hq; exact h5
  | 6, hq => cases hq; exact h6
  | 7, hq => cases hq; exact h7
  | 8, hq => cases hq; exact h8
  | 9, hq => cases hq; exact h9
  | 10, hq => cases hq; exact h10
  | k + 11, hq => simp [vwCl] at hq
def stT (i : Nat) : Term := match i with | 0 => .string RX5 114 | 1 => .string RX5 120 | _ => .string RX5 122
theorem st_ex {U : State} {args : Array Value} (hf : ∀ w ∈ flatC (Jvm.Cond.and given_1 narrow_1), w.before args U = true) {A : Nat → Prop} (hA : ∀ a : Nat, a < U.heap.size → ¬ A a) : ∃ adK adV : Nat → Nat, vk_S 3 lenS bytS adK adV A U U.heap ∧ ∀ i : Nat, i < 3 → (stT i).eval args U none [] U = some (.ref (adK i)) := by
  refine vk_Sof (tm := stT) ?_ ?_ ?_ ?_ ?_ ?_ ?_ hA
  · intro i hi
    match i, hi with
    | 0, _ => exact (by decide)
    | 1, _ => exact (by decide)
    | 2, _ => exact (by decide)
    | i + 3, hi => exact absurd hi (by omega)
  · intro i hi
    match i, hi with
    | 0, _ => exact hf _ (by decide +kernel)
    | 1, _ => exact hf _ (by decide +kernel)
    | 2, _ => exact hf _ (by decide +kernel)
    | i + 3, hi => exact absurd hi (by omega)
  · intro i hi
    match i, hi with
    | 0, _ => exact hf _ (by decide +kernel)
    | 1, _ => exact hf _ (by decide +kernel)
    | 2, _ => exact hf _ (by decide +kernel)
    | i + 3, hi => exact absurd hi (by omega)
  · intro i hi
    match i, hi with
    | 0, _ => exact hf _ (by decide +kernel)
    | 1, _ => exact hf _ (by decide +kernel)
    | 2, _ => exact hf _ (by decide +kernel)
    | i + 3, hi => exact absurd hi (by omega)
  · intro i hi
    match i, hi with
    | 0, _ => exact hf _ (by decide +kernel)
    | 1, _ => exact hf _ (by decide +kernel)
    | 2, _ => exact hf _ (by decide +kernel)
    | i + 3, hi => exact absurd hi (by omega)
  · intro i hi j hj
    match i, hi with
    | 0, _ => match j, hj with
      | 0, _ => exact hf _ (by decide +kernel)
      | 1, _ => exact hf _ (by decide +kernel)
      | 2, _ => exact hf _ (by decide +kernel)
      | 3, _ => exact hf _ (by decide +kernel)
      | 4, _ => exact hf _ (by decide +kernel)
      | j + 5, hj => exact absurd (show j + 5 < 5 from hj) (by omega)
    | 1, _ => match j, hj with
      | 0, _ => exact hf _ (by decide +kernel)
      | 1, _ => exact hf _ (by decide +kernel)
      | 2, _ => exact hf _ (by decide +kernel)
      | 3, _ => exact hf _ (by decide +kernel)
      | j + 4, hj => exact absurd (show j + 4 < 4 from hj) (by omega)
    | 2, _ => match j, hj with
      | 0, _ => exact hf _ (by decide +kernel)
      | 1, _ => exact hf _ (by decide +kernel)
      | 2, _ => exact hf _ (by decide +kernel)
      | 3, _ => exact hf _ (by decide +kernel)
      | j + 4, hj => exact absurd (show j + 4 < 4 from hj) (by omega)
    | i + 3, hi => exact absurd hi (by omega)
  · intro i j hi hj hne
    match i, hi with
    | 0, _ => match j, hj with
      | 0, _ => exact absurd rfl hne
      | 1, _ => exact Or.inl (hf _ (by decide +kernel))
      | 2, _ => exact Or.inl (hf _ (by decide +kernel))
      | j + 3, hj => exact absurd hj (by omega)
    | 1, _ => match j, hj with
      | 0, _ => exact Or.inr (hf _ (by decide +kernel))
      | 1, _ => exact absurd rfl hne
      | 2, _ => exact Or.inl (hf _ (by decide +kernel))
      | j + 3, hj => exact absurd hj (by omega)
    | 2, _ => match j, hj with
      | 0, _ => exact Or.inr (hf _ (by decide +kernel))
      | 1, _ => exact Or.inr (hf _ (by decide +kernel))
      | 2, _ => exact absurd rfl hne
      | j + 3, hj => exact absurd hj (by omega)
    | i + 3, hi => exact absurd hi (by omega)
theorem cz_ex {U : State} {args : Array Value} (hts : ∀ w ∈ lw_tbl, w.before args U = true) (hf : ∀ w ∈ flatC (Jvm.Cond.and given_1 narrow_1), w.before args U = true) {A : Nat → Prop} (hA : ∀ a : Nat, a < U.heap.size → ¬ A a) : ∃ k v : Nat → Nat, cZ k v A U U.heap := by
  obtain ⟨k, v, hS, hv⟩ := st_ex hf hA
  refine ⟨k, v, ⟨va_Nw.of rfl (hts _ (List.mem_append_right _ mt_LN_X0_33)), va_Nw.of rfl (hts _ (List.mem_append_right _ mt_LN_X5_85)), va_Nw.of rfl (hts _ (List.mem_append_right _ mt_LN_X6_19)), va_Nw.of rfl (hts _ (List.mem_append_right _ mt_LN_X0_11)), va_Nw.of rfl (hts _ (List.mem_append_right _ mt_LN_X7_21)), va_Nw.of rfl (hts _ (List.mem_append_right _ mt_LN_X9_9)), va_Nw.of rfl (hts _ (List.mem_append_right _ mt_LN_X9_27)), va_Nw.of rfl (hts _ (List.mem_append_right _ mt_LN_X9_72))⟩, ⟨vk_R.of (hts _ (List.mem_append_right _ (tm_2_4 _ (List.mem_of_getElem? (i := 16) rfl)))) (hv 0 (by decide)), vk_R.of (hts _ (List.mem_append_right _ (tm_2_7 _ (List.mem_of_getElem? (i := 9) rfl)))) (hv 1 (by decide)), vk_R.of (hts _ (List.mem_append_right _ (tm_2_7 _ (List.mem_of_getElem? (i := 10) rfl)))) (hv 2 (by decide))⟩, hS, ?_, ?_⟩
  · exact va_Zof (hts _ (List.mem_append_right _ mt_YS_J0_COMPACT_STRINGS)) (hts _ (List.mem_append_right _ mt_N_J0)) (va_eqi (hf _ (by decide +kernel))) hA
  · exact va_Zqof (hts _ (List.mem_append_right _ mt_YS_J3_SIOOBE_FORMATTER)) (hts _ (List.mem_append_right _ mt_N_J3)) (hf _ (by decide +kernel)) hA
theorem ao_ex {U : State} {args : Array Value} (hts : ∀ w ∈ lw_tbl, w.before args U = true) : iAO U := ⟨va_AO.of (hts _ (List.mem_append_right _ (tm_1_2 _ (List.mem_of_getElem? (i := 19) rfl)))), va_AO.of (hts _ (List.mem_append_right _ (tm_2_0 _ (List.mem_of_getElem? (i := 18) rfl))))⟩
