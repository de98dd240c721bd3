/-! THE LAW: its loop, its start -/
def R_law : String := "HouseHoursLaw"
def lw_P (b : Addr) (xs : List Int32) (args : Array Value) (s : State) : Prop := args = #[.ref b] ∧ s.IntsAt b xs ∧ xs.length ≤ 2560 ∧ (Jvm.Cond.and given_1 narrow_1).before args s = true
def lw_Q (_ : Array Value) (s : State) (o : Outcome) (t : State) : Prop := o = .returned (some (.int 1)) ∧ Framed s o t [] 600000 7302250
def lw_Z (below : List Frame) (a : Array Value) (s : State) : State → Prop := fun t => ∃ o, t.status = .running ∧ Ended t below o ∧ lw_Q a s o t
/-- the law's own end, with 1 on the stack, nothing written that was there before, its room as the claim has it -/
theorem lw_ret {p : Program} {l : Launch} {e : Env} {s : State} {m : MethodId} {below : List Frame} {meth : Method} {c : Code} {b : Nat} (hx : p.tables.exec = Jvm.exec) (hb : c.code = code) (hr : meth.sig.returnType = ret) (hlocks : meth.locks = false) {pc : Nat} {H : Heap} {ls : Array Slot} (hdg : decode code pc = .ok (.ireturn, 1)) : W p l e room_1 s m #[Value.ref b] below meth c H [] 600000 7302250 (lw_Z below #[Value.ref b] s) (F0 m pc ls [.int 1]) := by
  intro T hT X
  obtain ⟨fs, hret, hrun, hended, hW, hframe⟩ := X.leave (v := some (.int 1)) (hlocks := hlocks) (fun h => by rw [hr] at h; cases h)
  have hmeth' : T.vm.method? m = some meth := X.method'
  refine ⟨T.setFrames fs, ?_, .returned (some (.int 1)), hrun, hended, rfl, ⟨_, rfl⟩, hW, hframe⟩
  jvm_step X.here [X.here.top, hx, hb, hdg, hmeth', hr, ret, narrow_b1]
  (try refine ⟨rfl, ?_⟩); (try refine ⟨rfl, ?_⟩)
  first | (intro acts; rw [hret _ acts rfl rfl rfl]) | rw [hret _ _ rfl rfl rfl]
  exact Steps.refl _
/-- what holds at the law's entry: the machine, the code, the tables' words (any of lw_tbl by 'hts w (by decide +kernel)'), the script of L ints xs at the cell b, what the Statement gives of the start (any of its parts by flat_of_before) -/
def lw_At (p : Program) (s : State) (m : MethodId) (meth : Method) (c : Code) (b L : Nat) (xs : Nat → Int32) : Prop :=
  p.tables.exec = Jvm.exec ∧ c.code = code ∧ meth.sig.returnType = ret ∧ c.maxLocals = 4 ∧ s.vm.findClass R_law = some m.cls ∧ (∀ w ∈ lw_tbl, w.before #[Value.ref b] s = true) ∧ va_X b L xs s s.heap ∧ b < s.heap.size ∧ meth.locks = false ∧ (Jvm.Cond.and given_1 narrow_1).before #[Value.ref b] s = true
theorem lw_loop {p : Program} {l : Launch} {e : Env} {s : State} {m : MethodId} {below : List Frame} {meth : Method} {c : Code} {E : cE} {b L : Nat} {xs : Nat → Int32} (hE : cEnv p s m #[Value.ref b] meth c E RL cL_law 4 (some .boolean) (lwA s)) (hX : va_X b L xs s s.heap) (hbl : b < s.heap.size) (hL : L ≤ 2560) :
    ∀ (n : Nat) (a a' : Nat → Nat) (I J : Nat → Nat → Nat) (tr : Int64) (i : Nat) (H : Heap) (locs : List Loc) (ls : Array Slot), L + 5 - i < n → i ≤ L + 5 → Rel I J → lv_has ls 4 [(3, .int (nI i)), (2, .ref (a' 0)), (1, .ref (a 0)), (0, .ref b)] → va_P E.1 vwCl (WC E a I tr ++ WM E a' J tr) H → va_D (lwA s) (WC E a I tr ++ WM E a' J tr) → va_S (lwA s) s.heap H locs → W p l e room_1 s m #[Value.ref b] below meth c H locs 100 3000 (lw_Z below #[Value.ref b] s) (F0 m 18 ls []) := by
  have hx := hE.1
  have hb := hE.2.1
  have hbA : ¬ lwA s b := Nat.not_le.mpr hbl
  have hcs : 100 ≤ room_1.cells ∧ 3000 ≤ room_1.slots := ⟨by decide, by decide⟩
  intro n
  induction n with
  | zero => intro a a' I J tr i H locs ls h; exact absurd h (Nat.not_lt_zero _)
  | succ n ih =>
    have next : ∀ (a a' : Nat → Nat) (I J : Nat → Nat → Nat) (tr : Int64) (i : Nat) (H : Heap) (locs : List Loc) (ls : Array Slot), L + 5 - (i + 5) < n → i + 5 ≤ L → Rel I J → lv_has ls 4 [(3, .int (nI i)), (2, .ref (a' 0)), (1, .ref (a 0)), (0, .ref b)] → va_P E.1 vwCl (WC E a I tr ++ WM E a' J tr) H → va_D (lwA s) (WC E a I tr ++ WM E a' J tr) → va_S (lwA s) s.heap H locs → W p l e room_1 s m #[Value.ref b] below meth c H locs 100 3000 (lw_Z below #[Value.ref b] s) (F0 m 1005 ls []) := by
      intro a a' I J tr i H locs ls hm hi hR hl hP hD hS
      refine lv_iinc (v := nI (i + 5)) (lv' := [(3, .int (nI (i + 5))), (2, .ref (a' 0)), (1, .ref (a 0)), (0, .ref b)]) hx hb dL_law_1005 hl (k := 0) rfl (nI_add i 5) (by decide) rfl (fun ls hl => ?_)
      refine lv_goto (tgt := 18) hx hb dL_law_1008 (by decide) ?_
      exact ih a a' I J tr (i + 5) H locs ls hm (by omega) hR hl hP hD hS
    intro a a' I J tr i H locs ls hm hi hR hl hP hD hS
    refine lv_iload_n hx hb dL_law_18 rfl (lv_at hl 0 rfl) ?_
    refine lv_aload_n hx hb dL_law_19 rfl (lv_at hl 3 rfl) ?_
    refine va_slen hx hb hX hbl hbA hS dL_law_20 ?_
    refine lv_iconst (v := nI 5) hx hb dL_law_21 (by decide) ?_
    refine lv_isub hx hb dL_law_22 ?_
    have et : (Int32.ofNat L - nI 5).toInt = (L : Int) - 5 := pk_sub_toInt (a := L) (b := 5) (by omega) (by decide)
    refine lv_icmp_gt (tgt := 1011) hx hb dL_law_23 (by decide) (fun z => ?_) (fun z => ?_)
    · refine lv_iconst (v := 1) hx hb dL_law_1011 (by decide) ?_
      refine va_forget (fun q hq => hS.2.2 q hq) ?_
      refine W.widen (k := 600000) (n := 7302250) (by decide) (by decide) ?_
      exact lw_ret hx hb hE.2.2.1 hE.2.2.2.2.2.2.2.1 dL_law_1012
    · have hi5 : i + 5 ≤ L := by
        have z2 := Int32.le_iff_toInt_le.mp (Int32.not_lt.mp z)
        rw [nI_toInt (show i < 2 ^ 31 by omega), et] at z2
        omega
      have next := fun (a a' : Nat → Nat) (I J : Nat → Nat → Nat) (tr : Int64) (H : Heap) (locs : List Loc) (ls : Array Slot) => next a a' I J tr i H locs ls (by omega) hi5
      refine lv_aload_n hx hb dL_law_26 rfl (lv_at hl 3 rfl) ?_
      refine lv_iload_n hx hb dL_law_27 rfl (lv_at hl 0 rfl) ?_
      refine lw_ld hE hX hbl hbA hS (i := i) rfl (by omega) hL dL_law_28 ?_
      refine lv_bipush (v := nI 31) hx hb dL_law_29 (by decide) ?_
      refine lv_iand hx hb dL_law_31 ?_
      generalize xs i &&& nI 31 = v
      by_cases hv : ∃ j : Nat, j < 28 ∧ v = nI j
      · obtain ⟨j, hj, rfl⟩ := hv
        match j, hj with
        | 0, _ =>
          refine lv_tableIn (off := 128) (tgt := 160) hx hb dL_law_32 (by decide) (by decide) (by decide) (by decide) ?_
          exact lc_0 hE hX hbl hL hcs next hi5 hR hl hP hD hS
        | 1, _ =>
          refine lv_tableIn (off := 191) (tgt := 223) hx hb dL_law_32 (by decide) (by decide) (by decide) (by decide) ?_
          exact lc_1 hE hX hbl hL hcs next hi5 hR hl hP hD hS
        | 2, _ =>
          refine lv_tableIn (off := 204) (tgt := 236) hx hb dL_law_32 (by decide) (by decide) (by decide) (by decide) ?_
          exact lc_2 hE hX hbl hL hcs next hi5 hR hl hP hD hS
        | 3, _ =>
          refine lv_tableIn (off := 217) (tgt := 249) hx hb dL_law_32 (by decide) (by decide) (by decide) (by decide) ?_
          exact lc_3 hE hX hbl hL hcs next hi5 hR hl hP hD hS
        | 4, _ =>
          refine lv_tableIn (off := 250) (tgt := 282) hx hb dL_law_32 (by decide) (by decide) (by decide) (by decide) ?_
          exact lc_4 hE hX hbl hL hcs next hi5 hR hl hP hD hS
        | 5, _ =>
          refine lv_tableIn (off := 283) (tgt := 315) hx hb dL_law_32 (by decide) (by decide) (by decide) (by decide) ?_
          exact lc_5 hE hX hbl hL hcs next hi5 hR hl hP hD hS
        | 6, _ =>
          refine lv_tableIn (off := 326) (tgt := 358) hx hb dL_law_32 (by decide) (by decide) (by decide) (by decide) ?_
          exact lc_6 hE hX hbl hL hcs next hi5 hR hl hP hD hS
        | 7, _ =>
          refine lv_tableIn (off := 359) (tgt := 391) hx hb dL_law_32 (by decide) (by decide) (by decide) (by decide) ?_
          exact lc_7 hE hX hbl hL hcs next hi5 hR hl hP hD hS
        | 8, _ =>
          refine lv_tableIn (off := 402) (tgt := 434) hx hb dL_law_32 (by decide) (by decide) (by decide) (by decide) ?_
          exact lc_8 hE hX hbl hL hcs next hi5 hR hl hP hD hS
        | 9, _ =>
          refine lv_tableIn (off := 445) (tgt := 477) hx hb dL_law_32 (by decide) (by decide) (by decide) (by decide) ?_
          exact lc_9 hE hX hbl hL hcs next hi5 hR hl hP hD hS
        | 10, _ =>
          refine lv_tableIn (off := 468) (tgt := 500) hx hb dL_law_32 (by decide) (by decide) (by decide) (by decide) ?_
          exact lc_10 hE hX hbl hL hcs next hi5 hR hl hP hD hS
        | 11, _ =>
          refine lv_tableIn (off := 501) (tgt := 533) hx hb dL_law_32 (by decide) (by decide) (by decide) (by decide) ?_
          exact lc_11 hE hX hbl hL hcs next hi5 hR hl hP hD hS
        | 12, _ =>
          refine lv_tableIn (off := 514) (tgt := 546) hx hb dL_law_32 (by decide) (by decide) (by decide) (by decide) ?_
          exact lc_12 hE hX hbl hL hcs next hi5 hR hl hP hD hS
        | 13, _ =>
          refine lv_tableIn (off := 567) (tgt := 599) hx hb dL_law_32 (by decide) (by decide) (by decide) (by decide) ?_
          exact lc_13 hE hX hbl hL hcs next hi5 hR hl hP hD hS
        | 14, _ =>
          refine lv_tableIn (off := 580) (tgt := 612) hx hb dL_law_32 (by decide) (by decide) (by decide) (by decide) ?_
          exact lc_14 hE hX hbl hL hcs next hi5 hR hl hP hD hS
        | 15, _ =>
          refine lv_tableIn (off := 613) (tgt := 645) hx hb dL_law_32 (by decide) (by decide) (by decide) (by decide) ?_
          exact lc_15 hE hX hbl hL hcs next hi5 hR hl hP hD hS
        | 16, _ =>
          refine lv_tableIn (off := 636) (tgt := 668) hx hb dL_law_32 (by decide) (by decide) (by decide) (by decide) ?_
          exact lc_16 hE hX hbl hL hcs next hi5 hR hl hP hD hS
        | 17, _ =>
          refine lv_tableIn (off := 679) (tgt := 711) hx hb dL_law_32 (by decide) (by decide) (by decide) (by decide) ?_
          exact lc_17 hE hX hbl hL hcs next hi5 hR hl hP hD hS
        | 18, _ =>
          refine lv_tableIn (off := 712) (tgt := 744) hx hb dL_law_32 (by decide) (by decide) (by decide) (by decide) ?_
          exact lc_18 hE hX hbl hL hcs next hi5 hR hl hP hD hS
        | 19, _ =>
          refine lv_tableIn (off := 725) (tgt := 757) hx hb dL_law_32 (by decide) (by decide) (by decide) (by decide) ?_
          exact lc_19 hE hX hbl hL hcs next hi5 hR hl hP hD hS
        | 20, _ =>
          refine lv_tableIn (off := 748) (tgt := 780) hx hb dL_law_32 (by decide) (by decide) (by decide) (by decide) ?_
          exact lc_20 hE hX hbl hL hcs next hi5 hR hl hP hD hS
        | 21, _ =>
          refine lv_tableIn (off := 791) (tgt := 823) hx hb dL_law_32 (by decide) (by decide) (by decide) (by decide) ?_
          exact lc_21 hE hX hbl hL hcs next hi5 hR hl hP hD hS
        | 22, _ =>
          refine lv_tableIn (off := 834) (tgt := 866) hx hb dL_law_32 (by decide) (by decide) (by decide) (by decide) ?_
          exact lc_22 hE hX hbl hL hcs next hi5 hR hl hP hD hS
        | 23, _ =>
          refine lv_tableIn (off := 857) (tgt := 889) hx hb dL_law_32 (by decide) (by decide) (by decide) (by decide) ?_
          exact lc_23 hE hX hbl hL hcs next hi5 hR hl hP hD hS
        | 24, _ =>
          refine lv_tableIn (off := 890) (tgt := 922) hx hb dL_law_32 (by decide) (by decide) (by decide) (by decide) ?_
          exact lc_24 hE hX hbl hL hcs next hi5 hR hl hP hD hS
        | 25, _ =>
          refine lv_tableIn (off := 913) (tgt := 945) hx hb dL_law_32 (by decide) (by decide) (by decide) (by decide) ?_
          exact lc_25 hE hX hbl hL hcs next hi5 hR hl hP hD hS
        | 26, _ =>
          refine lv_tableIn (off := 936) (tgt := 968) hx hb dL_law_32 (by decide) (by decide) (by decide) (by decide) ?_
          exact lc_26 hE hX hbl hL hcs next hi5 hR hl hP hD hS
        | 27, _ =>
          refine lv_tableIn (off := 959) (tgt := 991) hx hb dL_law_32 (by decide) (by decide) (by decide) (by decide) ?_
          exact lc_27 hE hX hbl hL hcs next hi5 hR hl hP hD hS
        | j + 28, hj => exact absurd hj (by omega)
      · refine lv_tableOut (tgt := 1005) hx hb dL_law_32 (sw_out 27 (by decide) (fun j hj e => hv ⟨j, by omega, e⟩)) (by decide) ?_
        exact next a a' I J tr H locs ls hR hl hP hD hS
set_option maxRecDepth 100000 in
set_option maxHeartbeats 4000000 in
theorem whole_start {p : Program} {e : Env} {s : State} {m : MethodId} {below : List Frame} {meth : Method} {c : Code} (l : Launch) (hflags : l.flags = flags0) {b L : Nat} {xs : Nat → Int32} (hL : L ≤ 2560) (C0 : lw_At p s m meth c b L xs) : W p l e room_1 s m #[Value.ref b] below meth c s.heap [] 0 0 (lw_Z below #[Value.ref b] s) (entryFrame m ([Value.ref b] : List Value).toArray 4) := by
  obtain ⟨hx, hb, hr, hml, hown, hts, hX, hbl, hlocks, hgv⟩ := id C0
  have hU : ∀ w ∈ UW, w.before #[Value.ref b] s = true := fun w h => hts w (UW_in w h)
  have hf := flat_of_before _ hgv
  have hO : iAO s := ao_ex hts
  obtain ⟨D, hDc⟩ := kn_ex hU
  obtain ⟨y, hy⟩ := ar_ex hU hO
  obtain ⟨kd, vd, hZ⟩ := cz_ex (A := lwA s) hts hf (fun q h => Nat.not_le.mpr h)
  obtain ⟨E, hEe⟩ : ∃ E : cE, E = (D, y, kd, vd) := ⟨_, rfl⟩
  have hE : cEnv p s m #[Value.ref b] meth c E RL cL_law 4 (some .boolean) (lwA s) := by
    rw [hEe]
    exact ⟨hx, hb, hr, hU, hown, hml, ⟨hDc, hy⟩, hlocks, fun q h => h, hZ⟩
  clear hEe hZ hy hDc
  have hb : c.code = cL_law := hb
  have hS : va_S (lwA s) s.heap s.heap [] := va_S.rf
  have hP : va_P E.1 vwCl ([] ++ []) s.heap := fun k q h => by simp at h
  have hD : va_D (lwA s) ([] ++ []) := ⟨fun i j p q h => by simp at h, fun k q h => by simp at h⟩
  have hl := lv_entry ([.ref b]) (n := 4) (Nat.le_of_ble_eq_true rfl)
  rw [lg_entry_eq]
  generalize (lg_sl ([.ref b]) ++ List.replicate (4 - (lg_sl ([.ref b])).length) Slot.unset).toArray = ls at hl ⊢
  have hl : lv_has ls 4 [(0, .ref b)] := hl
  refine i_new (pr := []) (L := []) (fs := [.null, .null, .null, .null, .null, .null, .null, .null, .null, .long 0]) (ci := 9) tyX9 inU9 tyX9_ok rfl (uw mt_CL_L_7 rfl) (uw mt_Z_X9 rfl) (uw mt_N_X9 rfl) hE hP hD hS (fun j hj => match j, hj with | 0, _ => rfl | 1, _ => rfl | 2, _ => rfl | 3, _ => rfl | 4, _ => rfl | 5, _ => rfl | 6, _ => rfl | 7, _ => rfl | 8, _ => rfl | 9, _ => rfl | j + 10, h => absurd h (by omega)) (Nat.le_of_ble_eq_true rfl) (Nat.le_of_ble_eq_true rfl) dL_law_0 (fun q0 H hP hD hS => ?_)
  refine lv_dup hx hb dL_law_3 rfl ?_
  refine i_call (L := []) (As := []) (rest := [.ref q0]) (made := fun f => WC E (at0 q0 f) i0C 0) (fun pr => it_X9 l E pr q0) ci_X9 rfl (uw mt_L_L_9 rfl) hE hO hP hD hS hl.1 rfl rfl (Nat.le_of_ble_eq_true rfl) ⟨Nat.le_of_ble_eq_true rfl, Nat.le_of_ble_eq_true rfl⟩ ⟨Nat.le_of_ble_eq_true rfl, Nat.le_of_ble_eq_true rfl⟩ dL_law_4 (fun f H locs hP hD hS => ?_)
  refine lv_astore_n (lv' := [(1, .ref q0), (0, .ref b)]) hx hb dL_law_7 rfl hl (by decide) rfl (fun ls hl => ?_)
  have hP : va_P E.1 vwCl (WC E (at0 q0 f) i0C 0 ++ []) H := by rw [List.append_nil]; exact hP
  have hD : va_D (lwA s) (WC E (at0 q0 f) i0C 0 ++ []) := by rw [List.append_nil]; exact hD
  refine i_new (pr := WC E (at0 q0 f) i0C 0) (L := []) (fs := [.long 0, .null, .int 0, .null, .null, .null, .null, .null, .null, .null, .null, .int 0, .int 0, .int 0, .int 0, .int 0, .int 0, .null, .null, .null, .int 0, .null, .null, .null, .null, .int 0, .null, .int 0]) (ci := 10) tyX10 inU10 tyX10_ok rfl (uw mt_CL_L_10 rfl) (uw mt_Z_X10 rfl) (uw mt_N_X10 rfl) hE hP hD hS (fun j hj => match j, hj with | 0, _ => rfl | 1, _ => rfl | 2, _ => rfl | 3, _ => rfl | 4, _ => rfl | 5, _ => rfl | 6, _ => rfl | 7, _ => rfl | 8, _ => rfl | 9, _ => rfl | 10, _ => rfl | 11, _ => rfl | 12, _ => rfl | 13, _ => rfl | 14, _ => rfl | 15, _ => rfl | 16, _ => rfl | 17, _ => rfl | 18, _ => rfl | 19, _ => rfl | 20, _ => rfl | 21, _ => rfl | 22, _ => rfl | 23, _ => rfl | 24, _ => rfl | 25, _ => rfl | 26, _ => rfl | 27, _ => rfl | j + 28, h => absurd h (by omega)) (Nat.le_of_ble_eq_true rfl) (Nat.le_of_ble_eq_true rfl) dL_law_8 (fun q8 H hP hD hS => ?_)
  refine lv_dup hx hb dL_law_11 rfl ?_
  refine i_call (pr := WC E (at0 q0 f) i0C 0) (L := []) (As := []) (rest := [.ref q8]) (made := fun f => WM E (at0 q8 f) i0M 0) (fun pr => it_X10 l E pr q8) ci_X10 rfl (uw mt_L_L_12 rfl) hE hO hP hD hS hl.1 rfl rfl (Nat.le_of_ble_eq_true rfl) ⟨Nat.le_of_ble_eq_true rfl, Nat.le_of_ble_eq_true rfl⟩ ⟨Nat.le_of_ble_eq_true rfl, Nat.le_of_ble_eq_true rfl⟩ dL_law_12 (fun g H locs hP hD hS => ?_)
  refine lv_astore_n (lv' := [(2, .ref q8), (1, .ref q0), (0, .ref b)]) hx hb dL_law_15 rfl hl (by decide) rfl (fun ls hl => ?_)
  refine lv_iconst (v := nI 0) hx hb dL_law_16 (by decide) ?_
  refine lv_istore_n (lv' := [(3, .int (nI 0)), (2, .ref q8), (1, .ref q0), (0, .ref b)]) hx hb dL_law_17 rfl hl (by decide) rfl (fun ls hl => ?_)
  refine W.widen (k := 100) (n := 3000) (Nat.le_of_ble_eq_true rfl) (Nat.le_of_ble_eq_true rfl) ?_
  have hP : va_P E.1 vwCl (WC E (at0 q0 f) i0C 0 ++ WM E (at0 q8 g) i0M 0) H := hP
  have hD : va_D (lwA s) (WC E (at0 q0 f) i0C 0 ++ WM E (at0 q8 g) i0M 0) := hD
  exact lw_loop hE hX hbl hL (L + 6) (at0 q0 f) (at0 q8 g) i0C i0M 0 0 H locs ls (by omega) (by omega) Rel_0 hl hP hD hS
