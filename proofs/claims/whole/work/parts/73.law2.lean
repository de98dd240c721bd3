/-! THE LAW: its cases -/
/-- case 14: soonest -/
theorem lc_14 {l : Launch} {p : Program} {e : Env} {s : State} {m : MethodId} {below : List Frame} {meth : Method} {c : Code} {E : cE} {b L : Nat} {xs : Nat → Int32} {Q : State → Prop} {cells slots i : Nat} (hE : cEnv p s m #[Value.ref b] meth c E RL cL_law 4 (some .boolean) (lwA s)) (hX : va_X b L xs s s.heap) (hbl : b < s.heap.size) (hL : L ≤ 2560) (hcs : cells ≤ room_1.cells ∧ slots ≤ room_1.slots)
    (kk : ∀ (a a' : Nat → Nat) (I J : Nat → Nat → Nat) (tr : Int64) (H : Heap) (locs : List Loc) (ls : Array Slot), Rel I J → lv_has ls 4 [(3, .int (nI i)), (2, .ref (a' 0)), (1, .ref (a 0)), (0, .ref b)] → va_P E.1 vwCl (WC E a I tr ++ WM E a' J tr) H → va_D (lwA s) (WC E a I tr ++ WM E a' J tr) → va_S (lwA s) s.heap H locs → W p l e room_1 s m #[Value.ref b] below meth c H locs cells slots Q (F0 m 1005 ls []))
    {a a' : Nat → Nat} {I J : Nat → Nat → Nat} {tr : Int64} {H : Heap} {locs : List Loc} {ls : Array Slot} (hi : i + 5 ≤ L) (hR : Rel I J) (hl : lv_has ls 4 [(3, .int (nI i)), (2, .ref (a' 0)), (1, .ref (a 0)), (0, .ref b)]) (hP : va_P E.1 vwCl (WC E a I tr ++ WM E a' J tr) H) (hD : va_D (lwA s) (WC E a I tr ++ WM E a' J tr)) (hS : va_S (lwA s) s.heap H locs) : W p l e room_1 s m #[Value.ref b] below meth c H locs cells slots Q (F0 m 612 ls []) := by
  have hx := hE.1
  have hb := hE.2.1
  have hbA : ¬ lwA s b := Nat.not_le.mpr hbl
  refine lv_aload_n hx hb dL_law_612 rfl (lv_at hl 2 rfl) ?_
  refine lv_aload_n hx hb dL_law_613 rfl (lv_at hl 3 rfl) ?_
  refine lv_iload_n hx hb dL_law_614 rfl (lv_at hl 0 rfl) ?_
  refine lv_iconst (v := nI 1) hx hb dL_law_615 (by decide) ?_
  refine lv_iadd hx hb dL_law_616 ?_
  refine lw_ld hE hX hbl hbA hS (i := i + 1) (nI_add i 1) (by omega) hL dL_law_617 ?_
  refine lv_aload_n hx hb dL_law_618 rfl (lv_at hl 3 rfl) ?_
  refine lv_iload_n hx hb dL_law_619 rfl (lv_at hl 0 rfl) ?_
  refine lv_iconst (v := nI 2) hx hb dL_law_620 (by decide) ?_
  refine lv_iadd hx hb dL_law_621 ?_
  refine lw_ld hE hX hbl hbA hS (i := i + 2) (nI_add i 2) (by omega) hL dL_law_622 ?_
  refine lw_C (R := room_1) (As := [.int (xs (i + 1)), .int (xs (i + 2))]) (rest := []) hE (ct_X9_soonest l E a I tr (xs (i + 1)) (xs (i + 2)) (rl_CK hR) (rl_EK hR)) cm_X9_soonest (uw mt_L_L_77 rfl) (gC_0 E a I tr) rfl rfl hP hD hS hl.1 rfl rfl (Nat.le_of_ble_eq_true rfl) ⟨Nat.le_of_ble_eq_true rfl, Nat.le_of_ble_eq_true rfl⟩ hcs dL_law_623 (fun H locs hP hD hS => ?_)
  refine W.eq (g2 := F0 m 626 ls [.int ((r_soonest (I 13 0) (seC I) (sxC I) (I 44 0) (xs (i + 1)) (xs (i + 2))))]) rfl ?_
  refine lv_aload_n hx hb dL_law_626 rfl (lv_at hl 1 rfl) ?_
  refine lv_aload_n hx hb dL_law_627 rfl (lv_at hl 3 rfl) ?_
  refine lv_iload_n hx hb dL_law_628 rfl (lv_at hl 0 rfl) ?_
  refine lv_iconst (v := nI 1) hx hb dL_law_629 (by decide) ?_
  refine lv_iadd hx hb dL_law_630 ?_
  refine lw_ld hE hX hbl hbA hS (i := i + 1) (nI_add i 1) (by omega) hL dL_law_631 ?_
  refine lv_aload_n hx hb dL_law_632 rfl (lv_at hl 3 rfl) ?_
  refine lv_iload_n hx hb dL_law_633 rfl (lv_at hl 0 rfl) ?_
  refine lv_iconst (v := nI 2) hx hb dL_law_634 (by decide) ?_
  refine lv_iadd hx hb dL_law_635 ?_
  refine lw_ld hE hX hbl hbA hS (i := i + 2) (nI_add i 2) (by omega) hL dL_law_636 ?_
  refine lw_M (R := room_1) (As := [.int (xs (i + 1)), .int (xs (i + 2))]) (rest := [.int ((r_soonest (I 13 0) (seC I) (sxC I) (I 44 0) (xs (i + 1)) (xs (i + 2))))]) hE (ct_X10_soonest l E a' J tr (xs (i + 1)) (xs (i + 2)) (rl_KM hR) (rl_EKJ hR)) cm_X10_soonest (uw mt_L_L_80 rfl) (gM_0 E a' J tr) rfl rfl hP hD hS hl.1 rfl rfl (Nat.le_of_ble_eq_true rfl) ⟨Nat.le_of_ble_eq_true rfl, Nat.le_of_ble_eq_true rfl⟩ hcs dL_law_637 (fun H locs hP hD hS => ?_)
  refine W.eq (g2 := F0 m 640 ls [.int ((r_soonest (J 2 0) (seJ J) (sxJ J) (J 19 0) (xs (i + 1)) (xs (i + 2)))), .int ((r_soonest (I 13 0) (seC I) (sxC I) (I 44 0) (xs (i + 1)) (xs (i + 2))))]) rfl ?_
  refine lv_icmp_eq (tgt := 1005) hx hb dL_law_640 (by decide) (fun _ => ?_) (fun z => absurd (an_soonest hR (xs (i + 1)) (xs (i + 2))) z)
  exact kk a a' _ _ _ H locs ls (kp_soonest hR (xs (i + 1)) (xs (i + 2))) hl hP hD hS
/-- case 15: party -/
theorem lc_15 {l : Launch} {p : Program} {e : Env} {s : State} {m : MethodId} {below : List Frame} {meth : Method} {c : Code} {E : cE} {b L : Nat} {xs : Nat → Int32} {Q : State → Prop} {cells slots i : Nat} (hE : cEnv p s m #[Value.ref b] meth c E RL cL_law 4 (some .boolean) (lwA s)) (hX : va_X b L xs s s.heap) (hbl : b < s.heap.size) (hL : L ≤ 2560) (hcs : cells ≤ room_1.cells ∧ slots ≤ room_1.slots)
    (kk : ∀ (a a' : Nat → Nat) (I J : Nat → Nat → Nat) (tr : Int64) (H : Heap) (locs : List Loc) (ls : Array Slot), Rel I J → lv_has ls 4 [(3, .int (nI i)), (2, .ref (a' 0)), (1, .ref (a 0)), (0, .ref b)] → va_P E.1 vwCl (WC E a I tr ++ WM E a' J tr) H → va_D (lwA s) (WC E a I tr ++ WM E a' J tr) → va_S (lwA s) s.heap H locs → W p l e room_1 s m #[Value.ref b] below meth c H locs cells slots Q (F0 m 1005 ls []))
    {a a' : Nat → Nat} {I J : Nat → Nat → Nat} {tr : Int64} {H : Heap} {locs : List Loc} {ls : Array Slot} (hi : i + 5 ≤ L) (hR : Rel I J) (hl : lv_has ls 4 [(3, .int (nI i)), (2, .ref (a' 0)), (1, .ref (a 0)), (0, .ref b)]) (hP : va_P E.1 vwCl (WC E a I tr ++ WM E a' J tr) H) (hD : va_D (lwA s) (WC E a I tr ++ WM E a' J tr)) (hS : va_S (lwA s) s.heap H locs) : W p l e room_1 s m #[Value.ref b] below meth c H locs cells slots Q (F0 m 645 ls []) := by
  have hx := hE.1
  have hb := hE.2.1
  have hbA : ¬ lwA s b := Nat.not_le.mpr hbl
  refine lv_aload_n hx hb dL_law_645 rfl (lv_at hl 2 rfl) ?_
  refine lv_aload_n hx hb dL_law_646 rfl (lv_at hl 3 rfl) ?_
  refine lv_iload_n hx hb dL_law_647 rfl (lv_at hl 0 rfl) ?_
  refine lv_iconst (v := nI 1) hx hb dL_law_648 (by decide) ?_
  refine lv_iadd hx hb dL_law_649 ?_
  refine lw_ld hE hX hbl hbA hS (i := i + 1) (nI_add i 1) (by omega) hL dL_law_650 ?_
  refine lw_C (R := room_1) (As := [.int (xs (i + 1))]) (rest := []) hE (ct_X9_party l E a I tr (xs (i + 1)) (rl_CK hR)) cm_X9_party (uw mt_L_L_81 rfl) (gC_0 E a I tr) rfl rfl hP hD hS hl.1 rfl rfl (Nat.le_of_ble_eq_true rfl) ⟨Nat.le_of_ble_eq_true rfl, Nat.le_of_ble_eq_true rfl⟩ hcs dL_law_651 (fun H locs hP hD hS => ?_)
  refine W.eq (g2 := F0 m 654 ls [.int ((r_party (I 13 0) (shC I) (xs (i + 1))))]) rfl ?_
  refine lv_aload_n hx hb dL_law_654 rfl (lv_at hl 1 rfl) ?_
  refine lv_aload_n hx hb dL_law_655 rfl (lv_at hl 3 rfl) ?_
  refine lv_iload_n hx hb dL_law_656 rfl (lv_at hl 0 rfl) ?_
  refine lv_iconst (v := nI 1) hx hb dL_law_657 (by decide) ?_
  refine lv_iadd hx hb dL_law_658 ?_
  refine lw_ld hE hX hbl hbA hS (i := i + 1) (nI_add i 1) (by omega) hL dL_law_659 ?_
  refine lw_M (R := room_1) (As := [.int (xs (i + 1))]) (rest := [.int ((r_party (I 13 0) (shC I) (xs (i + 1))))]) hE (ct_X10_party l E a' J tr (xs (i + 1)) (rl_KM hR)) cm_X10_party (uw mt_L_L_84 rfl) (gM_0 E a' J tr) rfl rfl hP hD hS hl.1 rfl rfl (Nat.le_of_ble_eq_true rfl) ⟨Nat.le_of_ble_eq_true rfl, Nat.le_of_ble_eq_true rfl⟩ hcs dL_law_660 (fun H locs hP hD hS => ?_)
  refine W.eq (g2 := F0 m 663 ls [.int ((r_party (J 2 0) (shM J) (xs (i + 1)))), .int ((r_party (I 13 0) (shC I) (xs (i + 1))))]) rfl ?_
  refine lv_icmp_eq (tgt := 1005) hx hb dL_law_663 (by decide) (fun _ => ?_) (fun z => absurd (an_party hR (xs (i + 1))) z)
  exact kk a a' _ _ _ H locs ls (hR) hl hP hD hS
/-- case 16: treaty -/
theorem lc_16 {l : Launch} {p : Program} {e : Env} {s : State} {m : MethodId} {below : List Frame} {meth : Method} {c : Code} {E : cE} {b L : Nat} {xs : Nat → Int32} {Q : State → Prop} {cells slots i : Nat} (hE : cEnv p s m #[Value.ref b] meth c E RL cL_law 4 (some .boolean) (lwA s)) (hX : va_X b L xs s s.heap) (hbl : b < s.heap.size) (hL : L ≤ 2560) (hcs : cells ≤ room_1.cells ∧ slots ≤ room_1.slots)
    (kk : ∀ (a a' : Nat → Nat) (I J : Nat → Nat → Nat) (tr : Int64) (H : Heap) (locs : List Loc) (ls : Array Slot), Rel I J → lv_has ls 4 [(3, .int (nI i)), (2, .ref (a' 0)), (1, .ref (a 0)), (0, .ref b)] → va_P E.1 vwCl (WC E a I tr ++ WM E a' J tr) H → va_D (lwA s) (WC E a I tr ++ WM E a' J tr) → va_S (lwA s) s.heap H locs → W p l e room_1 s m #[Value.ref b] below meth c H locs cells slots Q (F0 m 1005 ls []))
    {a a' : Nat → Nat} {I J : Nat → Nat → Nat} {tr : Int64} {H : Heap} {locs : List Loc} {ls : Array Slot} (hi : i + 5 ≤ L) (hR : Rel I J) (hl : lv_has ls 4 [(3, .int (nI i)), (2, .ref (a' 0)), (1, .ref (a 0)), (0, .ref b)]) (hP : va_P E.1 vwCl (WC E a I tr ++ WM E a' J tr) H) (hD : va_D (lwA s) (WC E a I tr ++ WM E a' J tr)) (hS : va_S (lwA s) s.heap H locs) : W p l e room_1 s m #[Value.ref b] below meth c H locs cells slots Q (F0 m 668 ls []) := by
  have hx := hE.1
  have hb := hE.2.1
  have hbA : ¬ lwA s b := Nat.not_le.mpr hbl
  refine lv_aload_n hx hb dL_law_668 rfl (lv_at hl 2 rfl) ?_
  refine lv_aload_n hx hb dL_law_669 rfl (lv_at hl 3 rfl) ?_
  refine lv_iload_n hx hb dL_law_670 rfl (lv_at hl 0 rfl) ?_
  refine lv_iconst (v := nI 1) hx hb dL_law_671 (by decide) ?_
  refine lv_iadd hx hb dL_law_672 ?_
  refine lw_ld hE hX hbl hbA hS (i := i + 1) (nI_add i 1) (by omega) hL dL_law_673 ?_
  refine lv_aload_n hx hb dL_law_674 rfl (lv_at hl 3 rfl) ?_
  refine lv_iload_n hx hb dL_law_675 rfl (lv_at hl 0 rfl) ?_
  refine lv_iconst (v := nI 2) hx hb dL_law_676 (by decide) ?_
  refine lv_iadd hx hb dL_law_677 ?_
  refine lw_ld hE hX hbl hbA hS (i := i + 2) (nI_add i 2) (by omega) hL dL_law_678 ?_
  refine lv_aload_n hx hb dL_law_679 rfl (lv_at hl 3 rfl) ?_
  refine lv_iload_n hx hb dL_law_680 rfl (lv_at hl 0 rfl) ?_
  refine lv_iconst (v := nI 3) hx hb dL_law_681 (by decide) ?_
  refine lv_iadd hx hb dL_law_682 ?_
  refine lw_ld hE hX hbl hbA hS (i := i + 3) (nI_add i 3) (by omega) hL dL_law_683 ?_
  refine lw_C (R := room_1) (As := [.int (xs (i + 1)), .int (xs (i + 2)), .int (xs (i + 3))]) (rest := []) hE (ct_X9_treaty l E a I tr (xs (i + 1)) (xs (i + 2)) (xs (i + 3)) (rl_CK hR)) cm_X9_treaty (uw mt_L_L_85 rfl) (gC_0 E a I tr) rfl rfl hP hD hS hl.1 rfl rfl (Nat.le_of_ble_eq_true rfl) ⟨Nat.le_of_ble_eq_true rfl, Nat.le_of_ble_eq_true rfl⟩ hcs dL_law_684 (fun H locs hP hD hS => ?_)
  refine W.eq (g2 := F0 m 687 ls [.int ((r_treaty (I 13 0) (shC I) (xs (i + 1)) (xs (i + 2)) (xs (i + 3))))]) rfl ?_
  refine lv_aload_n hx hb dL_law_687 rfl (lv_at hl 1 rfl) ?_
  refine lv_aload_n hx hb dL_law_688 rfl (lv_at hl 3 rfl) ?_
  refine lv_iload_n hx hb dL_law_689 rfl (lv_at hl 0 rfl) ?_
  refine lv_iconst (v := nI 1) hx hb dL_law_690 (by decide) ?_
  refine lv_iadd hx hb dL_law_691 ?_
  refine lw_ld hE hX hbl hbA hS (i := i + 1) (nI_add i 1) (by omega) hL dL_law_692 ?_
  refine lv_aload_n hx hb dL_law_693 rfl (lv_at hl 3 rfl) ?_
  refine lv_iload_n hx hb dL_law_694 rfl (lv_at hl 0 rfl) ?_
  refine lv_iconst (v := nI 2) hx hb dL_law_695 (by decide) ?_
  refine lv_iadd hx hb dL_law_696 ?_
  refine lw_ld hE hX hbl hbA hS (i := i + 2) (nI_add i 2) (by omega) hL dL_law_697 ?_
  refine lv_aload_n hx hb dL_law_698 rfl (lv_at hl 3 rfl) ?_
  refine lv_iload_n hx hb dL_law_699 rfl (lv_at hl 0 rfl) ?_
  refine lv_iconst (v := nI 3) hx hb dL_law_700 (by decide) ?_
  refine lv_iadd hx hb dL_law_701 ?_
  refine lw_ld hE hX hbl hbA hS (i := i + 3) (nI_add i 3) (by omega) hL dL_law_702 ?_
  refine lw_M (R := room_1) (As := [.int (xs (i + 1)), .int (xs (i + 2)), .int (xs (i + 3))]) (rest := [.int ((r_treaty (I 13 0) (shC I) (xs (i + 1)) (xs (i + 2)) (xs (i + 3))))]) hE (ct_X10_treaty l E a' J tr (xs (i + 1)) (xs (i + 2)) (xs (i + 3)) (rl_KM hR)) cm_X10_treaty (uw mt_L_L_88 rfl) (gM_0 E a' J tr) rfl rfl hP hD hS hl.1 rfl rfl (Nat.le_of_ble_eq_true rfl) ⟨Nat.le_of_ble_eq_true rfl, Nat.le_of_ble_eq_true rfl⟩ hcs dL_law_703 (fun H locs hP hD hS => ?_)
  refine W.eq (g2 := F0 m 706 ls [.int ((r_treaty (J 2 0) (shM J) (xs (i + 1)) (xs (i + 2)) (xs (i + 3)))), .int ((r_treaty (I 13 0) (shC I) (xs (i + 1)) (xs (i + 2)) (xs (i + 3))))]) rfl ?_
  refine lv_icmp_eq (tgt := 1005) hx hb dL_law_706 (by decide) (fun _ => ?_) (fun z => absurd (an_treaty hR (xs (i + 1)) (xs (i + 2)) (xs (i + 3))) z)
  exact kk a a' _ _ _ H locs ls (kp_treaty hR (xs (i + 1)) (xs (i + 2)) (xs (i + 3))) hl hP hD hS
/-- case 17: saw -/
theorem lc_17 {l : Launch} {p : Program} {e : Env} {s : State} {m : MethodId} {below : List Frame} {meth : Method} {c : Code} {E : cE} {b L : Nat} {xs : Nat → Int32} {Q : State → Prop} {cells slots i : Nat} (hE : cEnv p s m #[Value.ref b] meth c E RL cL_law 4 (some .boolean) (lwA s)) (hX : va_X b L xs s s.heap) (hbl : b < s.heap.size) (hL : L ≤ 2560) (hcs : cells ≤ room_1.cells ∧ slots ≤ room_1.slots)
    (kk : ∀ (a a' : Nat → Nat) (I J : Nat → Nat → Nat) (tr : Int64) (H : Heap) (locs : List Loc) (ls : Array Slot), Rel I J → lv_has ls 4 [(3, .int (nI i)), (2, .ref (a' 0)), (1, .ref (a 0)), (0, .ref b)] → va_P E.1 vwCl (WC E a I tr ++ WM E a' J tr) H → va_D (lwA s) (WC E a I tr ++ WM E a' J tr) → va_S (lwA s) s.heap H locs → W p l e room_1 s m #[Value.ref b] below meth c H locs cells slots Q (F0 m 1005 ls []))
    {a a' : Nat → Nat} {I J : Nat → Nat → Nat} {tr : Int64} {H : Heap} {locs : List Loc} {ls : Array Slot} (hi : i + 5 ≤ L) (hR : Rel I J) (hl : lv_has ls 4 [(3, .int (nI i)), (2, .ref (a' 0)), (1, .ref (a 0)), (0, .ref b)]) (hP : va_P E.1 vwCl (WC E a I tr ++ WM E a' J tr) H) (hD : va_D (lwA s) (WC E a I tr ++ WM E a' J tr)) (hS : va_S (lwA s) s.heap H locs) : W p l e room_1 s m #[Value.ref b] below meth c H locs cells slots Q (F0 m 711 ls []) := by
  have hx := hE.1
  have hb := hE.2.1
  have hbA : ¬ lwA s b := Nat.not_le.mpr hbl
  refine lv_aload_n hx hb dL_law_711 rfl (lv_at hl 2 rfl) ?_
  refine lv_aload_n hx hb dL_law_712 rfl (lv_at hl 3 rfl) ?_
  refine lv_iload_n hx hb dL_law_713 rfl (lv_at hl 0 rfl) ?_
  refine lv_iconst (v := nI 1) hx hb dL_law_714 (by decide) ?_
  refine lv_iadd hx hb dL_law_715 ?_
  refine lw_ld hE hX hbl hbA hS (i := i + 1) (nI_add i 1) (by omega) hL dL_law_716 ?_
  refine lv_aload_n hx hb dL_law_717 rfl (lv_at hl 3 rfl) ?_
  refine lv_iload_n hx hb dL_law_718 rfl (lv_at hl 0 rfl) ?_
  refine lv_iconst (v := nI 2) hx hb dL_law_719 (by decide) ?_
  refine lv_iadd hx hb dL_law_720 ?_
  refine lw_ld hE hX hbl hbA hS (i := i + 2) (nI_add i 2) (by omega) hL dL_law_721 ?_
  refine lw_C (R := room_1) (As := [.int (xs (i + 1)), .int (xs (i + 2))]) (rest := []) hE (ct_X9_saw l E a I tr (xs (i + 1)) (xs (i + 2)) ((rl_WK hR).1)) cm_X9_saw (uw mt_L_L_89 rfl) (gC_0 E a I tr) rfl rfl hP hD hS hl.1 rfl rfl (Nat.le_of_ble_eq_true rfl) ⟨Nat.le_of_ble_eq_true rfl, Nat.le_of_ble_eq_true rfl⟩ hcs dL_law_722 (fun H locs hP hD hS => ?_)
  refine W.eq (g2 := F0 m 725 ls [.int ((r_saw (I 47 0) (xs (i + 1)) (xs (i + 2))))]) rfl ?_
  refine lv_aload_n hx hb dL_law_725 rfl (lv_at hl 1 rfl) ?_
  refine lv_aload_n hx hb dL_law_726 rfl (lv_at hl 3 rfl) ?_
  refine lv_iload_n hx hb dL_law_727 rfl (lv_at hl 0 rfl) ?_
  refine lv_iconst (v := nI 1) hx hb dL_law_728 (by decide) ?_
  refine lv_iadd hx hb dL_law_729 ?_
  refine lw_ld hE hX hbl hbA hS (i := i + 1) (nI_add i 1) (by omega) hL dL_law_730 ?_
  refine lv_aload_n hx hb dL_law_731 rfl (lv_at hl 3 rfl) ?_
  refine lv_iload_n hx hb dL_law_732 rfl (lv_at hl 0 rfl) ?_
  refine lv_iconst (v := nI 2) hx hb dL_law_733 (by decide) ?_
  refine lv_iadd hx hb dL_law_734 ?_
  refine lw_ld hE hX hbl hbA hS (i := i + 2) (nI_add i 2) (by omega) hL dL_law_735 ?_
  refine lw_M (R := room_1) (As := [.int (xs (i + 1)), .int (xs (i + 2))]) (rest := [.int ((r_saw (I 47 0) (xs (i + 1)) (xs (i + 2))))]) hE (ct_X10_saw l E a' J tr (xs (i + 1)) (xs (i + 2)) (hR.wa.2.1)) cm_X10_saw (uw mt_L_L_92 rfl) (gM_0 E a' J tr) rfl rfl hP hD hS hl.1 rfl rfl (Nat.le_of_ble_eq_true rfl) ⟨Nat.le_of_ble_eq_true rfl, Nat.le_of_ble_eq_true rfl⟩ hcs dL_law_736 (fun H locs hP hD hS => ?_)
  refine W.eq (g2 := F0 m 739 ls [.int ((r_saw (J 24 0) (xs (i + 1)) (xs (i + 2)))), .int ((r_saw (I 47 0) (xs (i + 1)) (xs (i + 2))))]) rfl ?_
  refine lv_icmp_eq (tgt := 1005) hx hb dL_law_739 (by decide) (fun _ => ?_) (fun z => absurd (an_saw hR (xs (i + 1)) (xs (i + 2))) z)
  exact kk a a' _ _ _ H locs ls (kp_saw hR (xs (i + 1)) (xs (i + 2))) hl hP hD hS
/-- case 18: forget -/
theorem lc_18 {l : Launch} {p : Program} {e : Env} {s : State} {m : MethodId} {below : List Frame} {meth : Method} {c : Code} {E : cE} {b L : Nat} {xs : Nat → Int32} {Q : State → Prop} {cells slots i : Nat} (hE : cEnv p s m #[Value.ref b] meth c E RL cL_law 4 (some .boolean) (lwA s)) (hX : va_X b L xs s s.heap) (hbl : b < s.heap.size) (hL : L ≤ 2560) (hcs : cells ≤ room_1.cells ∧ slots ≤ room_1.slots)
    (kk : ∀ (a a' : Nat → Nat) (I J : Nat → Nat → Nat) (tr : Int64) (H : Heap) (locs : List Loc) (ls : Array Slot), Rel I J → lv_has ls 4 [(3, .int (nI i)), (2, .ref (a' 0)), (1, .ref (a 0)), (0, .ref b)] → va_P E.1 vwCl (WC E a I tr ++ WM E a' J tr) H → va_D (lwA s) (WC E a I tr ++ WM E a' J tr) → va_S (lwA s) s.heap H locs → W p l e room_1 s m #[Value.ref b] below meth c H locs cells slots Q (F0 m 1005 ls []))
    {a a' : Nat → Nat} {I J : Nat → Nat → Nat} {tr : Int64} {H : Heap} {locs : List Loc} {ls : Array Slot} (hi : i + 5 ≤ L) (hR : Rel I J) (hl : lv_has ls 4 [(3, .int (nI i)), (2, .ref (a' 0)), (1, .ref (a 0)), (0, .ref b)]) (hP : va_P E.1 vwCl (WC E a I tr ++ WM E a' J tr) H) (hD : va_D (lwA s) (WC E a I tr ++ WM E a' J tr)) (hS : va_S (lwA s) s.heap H locs) : W p l e room_1 s m #[Value.ref b] below meth c H locs cells slots Q (F0 m 744 ls []) := by
  have hx := hE.1
  have hb := hE.2.1
  have hbA : ¬ lwA s b := Nat.not_le.mpr hbl
  refine lv_aload_n hx hb dL_law_744 rfl (lv_at hl 2 rfl) ?_
  refine lw_C (R := room_1) (As := []) (rest := []) hE (ct_X9_forget l E a I tr  ((rl_WK hR).1)) cm_X9_forget (uw mt_L_L_93 rfl) (gC_0 E a I tr) rfl rfl hP hD hS hl.1 rfl rfl (Nat.le_of_ble_eq_true rfl) ⟨Nat.le_of_ble_eq_true rfl, Nat.le_of_ble_eq_true rfl⟩ hcs dL_law_745 (fun H locs hP hD hS => ?_)
  refine W.eq (g2 := F0 m 748 ls [.int ((nI (I 47 0)))]) rfl ?_
  refine lv_aload_n hx hb dL_law_748 rfl (lv_at hl 1 rfl) ?_
  refine lw_M (R := room_1) (As := []) (rest := [.int ((nI (I 47 0)))]) hE (ct_X10_forget l E a' J tr  (hR.wa.2.1)) cm_X10_forget (uw mt_L_L_96 rfl) (gM_0 E a' J tr) rfl rfl hP hD hS hl.1 rfl rfl (Nat.le_of_ble_eq_true rfl) ⟨Nat.le_of_ble_eq_true rfl, Nat.le_of_ble_eq_true rfl⟩ hcs dL_law_749 (fun H locs hP hD hS => ?_)
  refine W.eq (g2 := F0 m 752 ls [.int ((nI (J 24 0))), .int ((nI (I 47 0)))]) rfl ?_
  refine lv_icmp_eq (tgt := 1005) hx hb dL_law_752 (by decide) (fun _ => ?_) (fun z => absurd (congrArg nI hR.wa.1) z)
  exact kk a a' _ _ _ H locs ls (kp_forget hR) hl hP hD hS
/-- case 19: whose -/
theorem lc_19 {l : Launch} {p : Program} {e : Env} {s : State} {m : MethodId} {below : List Frame} {meth : Method} {c : Code} {E : cE} {b L : Nat} {xs : Nat → Int32} {Q : State → Prop} {cells slots i : Nat} (hE : cEnv p s m #[Value.ref b] meth c E RL cL_law 4 (some .boolean) (lwA s)) (hX : va_X b L xs s s.heap) (hbl : b < s.heap.size) (hL : L ≤ 2560) (hcs : cells ≤ room_1.cells ∧ slots ≤ room_1.slots)
    (kk : ∀ (a a' : Nat → Nat) (I J : Nat → Nat → Nat) (tr : Int64) (H : Heap) (locs : List Loc) (ls : Array Slot), Rel I J → lv_has ls 4 [(3, .int (nI i)), (2, .ref (a' 0)), (1, .ref (a 0)), (0, .ref b)] → va_P E.1 vwCl (WC E a I tr ++ WM E a' J tr) H → va_D (lwA s) (WC E a I tr ++ WM E a' J tr) → va_S (lwA s) s.heap H locs → W p l e room_1 s m #[Value.ref b] below meth c H locs cells slots Q (F0 m 1005 ls []))
    {a a' : Nat → Nat} {I J : Nat → Nat → Nat} {tr : Int64} {H : Heap} {locs : List Loc} {ls : Array Slot} (hi : i + 5 ≤ L) (hR : Rel I J) (hl : lv_has ls 4 [(3, .int (nI i)), (2, .ref (a' 0)), (1, .ref (a 0)), (0, .ref b)]) (hP : va_P E.1 vwCl (WC E a I tr ++ WM E a' J tr) H) (hD : va_D (lwA s) (WC E a I tr ++ WM E a' J tr)) (hS : va_S (lwA s) s.heap H locs) : W p l e room_1 s m #[Value.ref b] below meth c H locs cells slots Q (F0 m 757 ls []) := by
  have hx := hE.1
  have hb := hE.2.1
  have hbA : ¬ lwA s b := Nat.not_le.mpr hbl
  refine lv_aload_n hx hb dL_law_757 rfl (lv_at hl 2 rfl) ?_
  refine lv_aload_n hx hb dL_law_758 rfl (lv_at hl 3 rfl) ?_
  refine lv_iload_n hx hb dL_law_759 rfl (lv_at hl 0 rfl) ?_
  refine lv_iconst (v := nI 1) hx hb dL_law_760 (by decide) ?_
  refine lv_iadd hx hb dL_law_761 ?_
  refine lw_ld hE hX hbl hbA hS (i := i + 1) (nI_add i 1) (by omega) hL dL_law_762 ?_
  refine lw_C (R := room_1) (As := [.int (xs (i + 1))]) (rest := []) hE (ct_X9_whose l E a I tr (xs (i + 1)) (rl_CK hR) (rl_WK hR)) cm_X9_whose (uw mt_L_L_97 rfl) (gC_0 E a I tr) rfl rfl hP hD hS hl.1 rfl rfl (Nat.le_of_ble_eq_true rfl) ⟨Nat.le_of_ble_eq_true rfl, Nat.le_of_ble_eq_true rfl⟩ hcs dL_law_763 (fun H locs hP hD hS => ?_)
  refine W.eq (g2 := F0 m 766 ls [.int ((r_whose (btU (fun h => cdB (shC I h) (I 45) (I 46) (I 47 0)) (I 13 0)) (fun t => ulC (fun u => shC I u t) (btU (fun h => cdB (shC I h) (I 45) (I 46) (I 47 0)) (I 13 0)) (I 13 0)) (xs (i + 1))))]) rfl ?_
  refine lv_aload_n hx hb dL_law_766 rfl (lv_at hl 1 rfl) ?_
  refine lv_aload_n hx hb dL_law_767 rfl (lv_at hl 3 rfl) ?_
  refine lv_iload_n hx hb dL_law_768 rfl (lv_at hl 0 rfl) ?_
  refine lv_iconst (v := nI 1) hx hb dL_law_769 (by decide) ?_
  refine lv_iadd hx hb dL_law_770 ?_
  refine lw_ld hE hX hbl hbA hS (i := i + 1) (nI_add i 1) (by omega) hL dL_law_771 ?_
  refine lw_M (R := room_1) (As := [.int (xs (i + 1))]) (rest := [.int ((r_whose (btU (fun h => cdB (shC I h) (I 45) (I 46) (I 47 0)) (I 13 0)) (fun t => ulC (fun u => shC I u t) (btU (fun h => cdB (shC I h) (I 45) (I 46) (I 47 0)) (I 13 0)) (I 13 0)) (xs (i + 1))))]) hE (ct_X10_whose l E a' J tr (xs (i + 1)) (rl_KM hR) (rl_WKJ hR)) cm_X10_whose (uw mt_L_L_100 rfl) (gM_0 E a' J tr) rfl rfl hP hD hS hl.1 rfl rfl (Nat.le_of_ble_eq_true rfl) ⟨Nat.le_of_ble_eq_true rfl, Nat.le_of_ble_eq_true rfl⟩ hcs dL_law_772 (fun H locs hP hD hS => ?_)
  refine W.eq (g2 := F0 m 775 ls [.int ((r_whose (btU (fun h => cdB (shM J h) (J 22) (J 23) (J 24 0)) (J 2 0)) (fun t => ulM (fun u => shM J u t) (btU (fun h => cdB (shM J h) (J 22) (J 23) (J 24 0)) (J 2 0)) (J 2 0)) (xs (i + 1)))), .int ((r_whose (btU (fun h => cdB (shC I h) (I 45) (I 46) (I 47 0)) (I 13 0)) (fun t => ulC (fun u => shC I u t) (btU (fun h => cdB (shC I h) (I 45) (I 46) (I 47 0)) (I 13 0)) (I 13 0)) (xs (i + 1))))]) rfl ?_
  refine lv_icmp_eq (tgt := 1005) hx hb dL_law_775 (by decide) (fun _ => ?_) (fun z => absurd (an_whose hR (xs (i + 1))) z)
  exact kk a a' _ _ _ H locs ls (hR) hl hP hD hS
/-- case 20: aged -/
theorem lc_20 {l : Launch} {p : Program} {e : Env} {s : State} {m : MethodId} {below : List Frame} {meth : Method} {c : Code} {E : cE} {b L : Nat} {xs : Nat → Int32} {Q : State → Prop} {cells slots i : Nat} (hE : cEnv p s m #[Value.ref b] meth c E RL cL_law 4 (some .boolean) (lwA s)) (hX : va_X b L xs s s.heap) (hbl : b < s.heap.size) (hL : L ≤ 2560) (hcs : cells ≤ room_1.cells ∧ slots ≤ room_1.slots)
    (kk : ∀ (a a' : Nat → Nat) (I J : Nat → Nat → Nat) (tr : Int64) (H : Heap) (locs : List Loc) (ls : Array Slot), Rel I J → lv_has ls 4 [(3, .int (nI i)), (2, .ref (a' 0)), (1, .ref (a 0)), (0, .ref b)] → va_P E.1 vwCl (WC E a I tr ++ WM E a' J tr) H → va_D (lwA s) (WC E a I tr ++ WM E a' J tr) → va_S (lwA s) s.heap H locs → W p l e room_1 s m #[Value.ref b] below meth c H locs cells slots Q (F0 m 1005 ls []))
    {a a' : Nat → Nat} {I J : Nat → Nat → Nat} {tr : Int64} {H : Heap} {locs : List Loc} {ls : Array Slot} (hi : i + 5 ≤ L) (hR : Rel I J) (hl : lv_has ls 4 [(3, .int (nI i)), (2, .ref (a' 0)), (1, .ref (a 0)), (0, .ref b)]) (hP : va_P E.1 vwCl (WC E a I tr ++ WM E a' J tr) H) (hD : va_D (lwA s) (WC E a I tr ++ WM E a' J tr)) (hS : va_S (lwA s) s.heap H locs) : W p l e room_1 s m #[Value.ref b] below meth c H locs cells slots Q (F0 m 780 ls []) := by
  have hx := hE.1
  have hb := hE.2.1
  have hbA : ¬ lwA s b := Nat.not_le.mpr hbl
  refine lv_aload_n hx hb dL_law_780 rfl (lv_at hl 2 rfl) ?_
  refine lv_aload_n hx hb dL_law_781 rfl (lv_at hl 3 rfl) ?_
  refine lv_iload_n hx hb dL_law_782 rfl (lv_at hl 0 rfl) ?_
  refine lv_iconst (v := nI 1) hx hb dL_law_783 (by decide) ?_
  refine lv_iadd hx hb dL_law_784 ?_
  refine lw_ld hE hX hbl hbA hS (i := i + 1) (nI_add i 1) (by omega) hL dL_law_785 ?_
  refine lv_aload_n hx hb dL_law_786 rfl (lv_at hl 3 rfl) ?_
  refine lv_iload_n hx hb dL_law_787 rfl (lv_at hl 0 rfl) ?_
  refine lv_iconst (v := nI 2) hx hb dL_law_788 (by decide) ?_
  refine lv_iadd hx hb dL_law_789 ?_
  refine lw_ld hE hX hbl hbA hS (i := i + 2) (nI_add i 2) (by omega) hL dL_law_790 ?_
  refine lv_aload_n hx hb dL_law_791 rfl (lv_at hl 3 rfl) ?_
  refine lv_iload_n hx hb dL_law_792 rfl (lv_at hl 0 rfl) ?_
  refine lv_iconst (v := nI 3) hx hb dL_law_793 (by decide) ?_
  refine lv_iadd hx hb dL_law_794 ?_
  refine lw_ld hE hX hbl hbA hS (i := i + 3) (nI_add i 3) (by omega) hL dL_law_795 ?_
  refine lw_C (R := room_1) (As := [.int (xs (i + 1)), .int (xs (i + 2)), .int (xs (i + 3))]) (rest := []) hE (ct_X9_aged l E a I tr (xs (i + 1)) (xs (i + 2)) (xs (i + 3)) (rl_CK hR) (rl_HK hR)) cm_X9_aged (uw mt_L_L_101 rfl) (gC_0 E a I tr) rfl rfl hP hD hS hl.1 rfl rfl (Nat.le_of_ble_eq_true rfl) ⟨Nat.le_of_ble_eq_true rfl, Nat.le_of_ble_eq_true rfl⟩ hcs dL_law_796 (fun H locs hP hD hS => ?_)
  refine W.eq (g2 := F0 m 799 ls [.int ((r_aged (I 13 0) (fun u t => lv (I 16 u) (I 17 u) t) (xs (i + 1)) (xs (i + 2)) (xs (i + 3))))]) rfl ?_
  refine lv_aload_n hx hb dL_law_799 rfl (lv_at hl 1 rfl) ?_
  refine lv_aload_n hx hb dL_law_800 rfl (lv_at hl 3 rfl) ?_
  refine lv_iload_n hx hb dL_law_801 rfl (lv_at hl 0 rfl) ?_
  refine lv_iconst (v := nI 1) hx hb dL_law_802 (by decide) ?_
  refine lv_iadd hx hb dL_law_803 ?_
  refine lw_ld hE hX hbl hbA hS (i := i + 1) (nI_add i 1) (by omega) hL dL_law_804 ?_
  refine lv_aload_n hx hb dL_law_805 rfl (lv_at hl 3 rfl) ?_
  refine lv_iload_n hx hb dL_law_806 rfl (lv_at hl 0 rfl) ?_
  refine lv_iconst (v := nI 2) hx hb dL_law_807 (by decide) ?_
  refine lv_iadd hx hb dL_law_808 ?_
  refine lw_ld hE hX hbl hbA hS (i := i + 2) (nI_add i 2) (by omega) hL dL_law_809 ?_
  refine lv_aload_n hx hb dL_law_810 rfl (lv_at hl 3 rfl) ?_
  refine lv_iload_n hx hb dL_law_811 rfl (lv_at hl 0 rfl) ?_
  refine lv_iconst (v := nI 3) hx hb dL_law_812 (by decide) ?_
  refine lv_iadd hx hb dL_law_813 ?_
  refine lw_ld hE hX hbl hbA hS (i := i + 3) (nI_add i 3) (by omega) hL dL_law_814 ?_
  refine lw_M (R := room_1) (As := [.int (xs (i + 1)), .int (xs (i + 2)), .int (xs (i + 3))]) (rest := [.int ((r_aged (I 13 0) (fun u t => lv (I 16 u) (I 17 u) t) (xs (i + 1)) (xs (i + 2)) (xs (i + 3))))]) hE (ct_X10_aged l E a' J tr (xs (i + 1)) (xs (i + 2)) (xs (i + 3)) (rl_KM hR)) cm_X10_aged (uw mt_L_L_104 rfl) (gM_0 E a' J tr) rfl rfl hP hD hS hl.1 rfl rfl (Nat.le_of_ble_eq_true rfl) ⟨Nat.le_of_ble_eq_true rfl, Nat.le_of_ble_eq_true rfl⟩ hcs dL_law_815 (fun H locs hP hD hS => ?_)
  refine W.eq (g2 := F0 m 818 ls [.int ((r_aged (J 2 0) (fun u t => t * J 5 u / J 6 u) (xs (i + 1)) (xs (i + 2)) (xs (i + 3)))), .int ((r_aged (I 13 0) (fun u t => lv (I 16 u) (I 17 u) t) (xs (i + 1)) (xs (i + 2)) (xs (i + 3))))]) rfl ?_
  refine lv_icmp_eq (tgt := 1005) hx hb dL_law_818 (by decide) (fun _ => ?_) (fun z => absurd (an_aged hR (xs (i + 1)) (xs (i + 2)) (xs (i + 3))) z)
  exact kk a a' _ _ _ H locs ls (hR) hl hP hD hS
/-- case 21: owes -/
theorem lc_21 {l : Launch} {p : Program} {e : Env} {s : State} {m : MethodId} {below : List Frame} {meth : Method} {c : Code} {E : cE} {b L : Nat} {xs : Nat → Int32} {Q : State → Prop} {cells slots i : Nat} (hE : cEnv p s m #[Value.ref b] meth c E RL cL_law 4 (some .boolean) (lwA s)) (hX : va_X b L xs s s.heap) (hbl : b < s.heap.size) (hL : L ≤ 2560) (hcs : cells ≤ room_1.cells ∧ slots ≤ room_1.slots)
    (kk : ∀ (a a' : Nat → Nat) (I J : Nat → Nat → Nat) (tr : Int64) (H : Heap) (locs : List Loc) (ls : Array Slot), Rel I J → lv_has ls 4 [(3, .int (nI i)), (2, .ref (a' 0)), (1, .ref (a 0)), (0, .ref b)] → va_P E.1 vwCl (WC E a I tr ++ WM E a' J tr) H → va_D (lwA s) (WC E a I tr ++ WM E a' J tr) → va_S (lwA s) s.heap H locs → W p l e room_1 s m #[Value.ref b] below meth c H locs cells slots Q (F0 m 1005 ls []))
    {a a' : Nat → Nat} {I J : Nat → Nat → Nat} {tr : Int64} {H : Heap} {locs : List Loc} {ls : Array Slot} (hi : i + 5 ≤ L) (hR : Rel I J) (hl : lv_has ls 4 [(3, .int (nI i)), (2, .ref (a' 0)), (1, .ref (a 0)), (0, .ref b)]) (hP : va_P E.1 vwCl (WC E a I tr ++ WM E a' J tr) H) (hD : va_D (lwA s) (WC E a I tr ++ WM E a' J tr)) (hS : va_S (lwA s) s.heap H locs) : W p l e room_1 s m #[Value.ref b] below meth c H locs cells slots Q (F0 m 823 ls []) := by
  have hx := hE.1
  have hb := hE.2.1
  have hbA : ¬ lwA s b := Nat.not_le.mpr hbl
  refine lv_aload_n hx hb dL_law_823 rfl (lv_at hl 2 rfl) ?_
  refine lv_aload_n hx hb dL_law_824 rfl (lv_at hl 3 rfl) ?_
  refine lv_iload_n hx hb dL_law_825 rfl (lv_at hl 0 rfl) ?_
  refine lv_iconst (v := nI 1) hx hb dL_law_826 (by decide) ?_
  refine lv_iadd hx hb dL_law_827 ?_
  refine lw_ld hE hX hbl hbA hS (i := i + 1) (nI_add i 1) (by omega) hL dL_law_828 ?_
  refine lv_aload_n hx hb dL_law_829 rfl (lv_at hl 3 rfl) ?_
  refine lv_iload_n hx hb dL_law_830 rfl (lv_at hl 0 rfl) ?_
  refine lv_iconst (v := nI 2) hx hb dL_law_831 (by decide) ?_
  refine lv_iadd hx hb dL_law_832 ?_
  refine lw_ld hE hX hbl hbA hS (i := i + 2) (nI_add i 2) (by omega) hL dL_law_833 ?_
  refine lv_aload_n hx hb dL_law_834 rfl (lv_at hl 3 rfl) ?_
  refine lv_iload_n hx hb dL_law_835 rfl (lv_at hl 0 rfl) ?_
  refine lv_iconst (v := nI 3) hx hb dL_law_836 (by decide) ?_
  refine lv_iadd hx hb dL_law_837 ?_
  refine lw_ld hE hX hbl hbA hS (i := i + 3) (nI_add i 3) (by omega) hL dL_law_838 ?_
  refine lw_C (R := room_1) (As := [.int (xs (i + 1)), .int (xs (i + 2)), .int (xs (i + 3))]) (rest := []) hE (ct_X9_owes l E a I tr (xs (i + 1)) (xs (i + 2)) (xs (i + 3)) (rl_CK hR) ((rl_DK hR).1)) cm_X9_owes (uw mt_L_L_105 rfl) (gC_0 E a I tr) rfl rfl hP hD hS hl.1 rfl rfl (Nat.le_of_ble_eq_true rfl) ⟨Nat.le_of_ble_eq_true rfl, Nat.le_of_ble_eq_true rfl⟩ hcs dL_law_839 (fun H locs hP hD hS => ?_)
  refine W.eq (g2 := F0 m 842 ls [.int ((r_owes (I 13 0) (I 55 0) (xs (i + 1)) (xs (i + 2)) (xs (i + 3))))]) rfl ?_
  refine lv_aload_n hx hb dL_law_842 rfl (lv_at hl 1 rfl) ?_
  refine lv_aload_n hx hb dL_law_843 rfl (lv_at hl 3 rfl) ?_
  refine lv_iload_n hx hb dL_law_844 rfl (lv_at hl 0 rfl) ?_
  refine lv_iconst (v := nI 1) hx hb dL_law_845 (by decide) ?_
  refine lv_iadd hx hb dL_law_846 ?_
  refine lw_ld hE hX hbl hbA hS (i := i + 1) (nI_add i 1) (by omega) hL dL_law_847 ?_
  refine lv_aload_n hx hb dL_law_848 rfl (lv_at hl 3 rfl) ?_
  refine lv_iload_n hx hb dL_law_849 rfl (lv_at hl 0 rfl) ?_
  refine lv_iconst (v := nI 2) hx hb dL_law_850 (by decide) ?_
  refine lv_iadd hx hb dL_law_851 ?_
  refine lw_ld hE hX hbl hbA hS (i := i + 2) (nI_add i 2) (by omega) hL dL_law_852 ?_
  refine lv_aload_n hx hb dL_law_853 rfl (lv_at hl 3 rfl) ?_
  refine lv_iload_n hx hb dL_law_854 rfl (lv_at hl 0 rfl) ?_
  refine lv_iconst (v := nI 3) hx hb dL_law_855 (by decide) ?_
  refine lv_iadd hx hb dL_law_856 ?_
  refine lw_ld hE hX hbl hbA hS (i := i + 3) (nI_add i 3) (by omega) hL dL_law_857 ?_
  refine lw_M (R := room_1) (As := [.int (xs (i + 1)), .int (xs (i + 2)), .int (xs (i + 3))]) (rest := [.int ((r_owes (I 13 0) (I 55 0) (xs (i + 1)) (xs (i + 2)) (xs (i + 3))))]) hE (ct_X10_owes l E a' J tr (xs (i + 1)) (xs (i + 2)) (xs (i + 3)) (rl_KM hR) (hR.de.2.1)) cm_X10_owes (uw mt_L_L_108 rfl) (gM_0 E a' J tr) rfl rfl hP hD hS hl.1 rfl rfl (Nat.le_of_ble_eq_true rfl) ⟨Nat.le_of_ble_eq_true rfl, Nat.le_of_ble_eq_true rfl⟩ hcs dL_law_858 (fun H locs hP hD hS => ?_)
  refine W.eq (g2 := F0 m 861 ls [.int ((r_owes (J 2 0) (J 26 0) (xs (i + 1)) (xs (i + 2)) (xs (i + 3)))), .int ((r_owes (I 13 0) (I 55 0) (xs (i + 1)) (xs (i + 2)) (xs (i + 3))))]) rfl ?_
  refine lv_icmp_eq (tgt := 1005) hx hb dL_law_861 (by decide) (fun _ => ?_) (fun z => absurd (an_owes hR (xs (i + 1)) (xs (i + 2)) (xs (i + 3))) z)
  exact kk a a' _ _ _ H locs ls (kp_owes hR (xs (i + 1)) (xs (i + 2)) (xs (i + 3))) hl hP hD hS
/-- case 22: due -/
theorem lc_22 {l : Launch} {p : Program} {e : Env} {s : State} {m : MethodId} {below : List Frame} {meth : Method} {c : Code} {E : cE} {b L : Nat} {xs : Nat → Int32} {Q : State → Prop} {cells slots i : Nat} (hE : cEnv p s m #[Value.ref b] meth c E RL cL_law 4 (some .boolean) (lwA s)) (hX : va_X b L xs s s.heap) (hbl : b < s.heap.size) (hL : L ≤ 2560) (hcs : cells ≤ room_1.cells ∧ slots ≤ room_1.slots)
    (kk : ∀ (a a' : Nat → Nat) (I J : Nat → Nat → Nat) (tr : Int64) (H : Heap) (locs : List Loc) (ls : Array Slot), Rel I J → lv_has ls 4 [(3, .int (nI i)), (2, .ref (a' 0)), (1, .ref (a 0)), (0, .ref b)] → va_P E.1 vwCl (WC E a I tr ++ WM E a' J tr) H → va_D (lwA s) (WC E a I tr ++ WM E a' J tr) → va_S (lwA s) s.heap H locs → W p l e room_1 s m #[Value.ref b] below meth c H locs cells slots Q (F0 m 1005 ls []))
    {a a' : Nat → Nat} {I J : Nat → Nat → Nat} {tr : Int64} {H : Heap} {locs : List Loc} {ls : Array Slot} (hi : i + 5 ≤ L) (hR : Rel I J) (hl : lv_has ls 4 [(3, .int (nI i)), (2, .ref (a' 0)), (1, .ref (a 0)), (0, .ref b)]) (hP : va_P E.1 vwCl (WC E a I tr ++ WM E a' J tr) H) (hD : va_D (lwA s) (WC E a I tr ++ WM E a' J tr)) (hS : va_S (lwA s) s.heap H locs) : W p l e room_1 s m #[Value.ref b] below meth c H locs cells slots Q (F0 m 866 ls []) := by
  have hx := hE.1
  have hb := hE.2.1
  have hbA : ¬ lwA s b := Nat.not_le.mpr hbl
  refine lv_aload_n hx hb dL_law_866 rfl (lv_at hl 2 rfl) ?_
  refine lv_aload_n hx hb dL_law_867 rfl (lv_at hl 3 rfl) ?_
  refine lv_iload_n hx hb dL_law_868 rfl (lv_at hl 0 rfl) ?_
  refine lv_iconst (v := nI 1) hx hb dL_law_869 (by decide) ?_
  refine lv_iadd hx hb dL_law_870 ?_
  refine lw_ld hE hX hbl hbA hS (i := i + 1) (nI_add i 1) (by omega) hL dL_law_871 ?_
  refine lw_C (R := room_1) (As := [.int (xs (i + 1))]) (rest := []) hE (ct_X9_due l E a I tr (xs (i + 1)) (rl_CK hR) (rl_DK hR)) cm_X9_due (uw mt_L_L_109 rfl) (gC_0 E a I tr) rfl rfl hP hD hS hl.1 rfl rfl (Nat.le_of_ble_eq_true rfl) ⟨Nat.le_of_ble_eq_true rfl, Nat.le_of_ble_eq_true rfl⟩ hcs dL_law_872 (fun H locs hP hD hS => ?_)
  refine W.eq (g2 := F0 m 875 ls [.int ((r_due (I 55 0) (quE I) (rgC I) (xs (i + 1))))]) rfl ?_
  refine lv_aload_n hx hb dL_law_875 rfl (lv_at hl 1 rfl) ?_
  refine lv_aload_n hx hb dL_law_876 rfl (lv_at hl 3 rfl) ?_
  refine lv_iload_n hx hb dL_law_877 rfl (lv_at hl 0 rfl) ?_
  refine lv_iconst (v := nI 1) hx hb dL_law_878 (by decide) ?_
  refine lv_iadd hx hb dL_law_879 ?_
  refine lw_ld hE hX hbl hbA hS (i := i + 1) (nI_add i 1) (by omega) hL dL_law_880 ?_
  refine lw_M (R := room_1) (As := [.int (xs (i + 1))]) (rest := [.int ((r_due (I 55 0) (quE I) (rgC I) (xs (i + 1))))]) hE (ct_X10_due l E a' J tr (xs (i + 1)) (rl_KM hR) (rl_DKJ hR)) cm_X10_due (uw mt_L_L_112 rfl) (gM_0 E a' J tr) rfl rfl hP hD hS hl.1 rfl rfl (Nat.le_of_ble_eq_true rfl) ⟨Nat.le_of_ble_eq_true rfl, Nat.le_of_ble_eq_true rfl⟩ hcs dL_law_881 (fun H locs hP hD hS => ?_)
  refine W.eq (g2 := F0 m 884 ls [.int ((r_due (J 26 0) (quJ J) (ex (cmB J) (J 26 0)) (xs (i + 1)))), .int ((r_due (I 55 0) (quE I) (rgC I) (xs (i + 1))))]) rfl ?_
  refine lv_icmp_eq (tgt := 1005) hx hb dL_law_884 (by decide) (fun _ => ?_) (fun z => absurd (an_due hR (xs (i + 1))) z)
  exact kk a a' _ _ _ H locs ls (kp_due hR (xs (i + 1))) hl hP hD hS
/-- case 23: mark -/
theorem lc_23 {l : Launch} {p : Program} {e : Env} {s : State} {m : MethodId} {below : List Frame} {meth : Method} {c : Code} {E : cE} {b L : Nat} {xs : Nat → Int32} {Q : State → Prop} {cells slots i : Nat} (hE : cEnv p s m #[Value.ref b] meth c E RL cL_law 4 (some .boolean) (lwA s)) (hX : va_X b L xs s s.heap) (hbl : b < s.heap.size) (hL : L ≤ 2560) (hcs : cells ≤ room_1.cells ∧ slots ≤ room_1.slots)
    (kk : ∀ (a a' : Nat → Nat) (I J : Nat → Nat → Nat) (tr : Int64) (H : Heap) (locs : List Loc) (ls : Array Slot), Rel I J → lv_has ls 4 [(3, .int (nI i)), (2, .ref (a' 0)), (1, .ref (a 0)), (0, .ref b)] → va_P E.1 vwCl (WC E a I tr ++ WM E a' J tr) H → va_D (lwA s) (WC E a I tr ++ WM E a' J tr) → va_S (lwA s) s.heap H locs → W p l e room_1 s m #[Value.ref b] below meth c H locs cells slots Q (F0 m 1005 ls []))
    {a a' : Nat → Nat} {I J : Nat → Nat → Nat} {tr : Int64} {H : Heap} {locs : List Loc} {ls : Array Slot} (hi : i + 5 ≤ L) (hR : Rel I J) (hl : lv_has ls 4 [(3, .int (nI i)), (2, .ref (a' 0)), (1, .ref (a 0)), (0, .ref b)]) (hP : va_P E.1 vwCl (WC E a I tr ++ WM E a' J tr) H) (hD : va_D (lwA s) (WC E a I tr ++ WM E a' J tr)) (hS : va_S (lwA s) s.heap H locs) : W p l e room_1 s m #[Value.ref b] below meth c H locs cells slots Q (F0 m 889 ls []) := by
  have hx := hE.1
  have hb := hE.2.1
  have hbA : ¬ lwA s b := Nat.not_le.mpr hbl
  refine lv_aload_n hx hb dL_law_889 rfl (lv_at hl 2 rfl) ?_
  refine lv_aload_n hx hb dL_law_890 rfl (lv_at hl 3 rfl) ?_
  refine lv_iload_n hx hb dL_law_891 rfl (lv_at hl 0 rfl) ?_
  refine lv_iconst (v := nI 1) hx hb dL_law_892 (by decide) ?_
  refine lv_iadd hx hb dL_law_893 ?_
  refine lw_ld hE hX hbl hbA hS (i := i + 1) (nI_add i 1) (by omega) hL dL_law_894 ?_
  refine lv_aload_n hx hb dL_law_895 rfl (lv_at hl 3 rfl) ?_
  refine lv_iload_n hx hb dL_law_896 rfl (lv_at hl 0 rfl) ?_
  refine lv_iconst (v := nI 2) hx hb dL_law_897 (by decide) ?_
  refine lv_iadd hx hb dL_law_898 ?_
  refine lw_ld hE hX hbl hbA hS (i := i + 2) (nI_add i 2) (by omega) hL dL_law_899 ?_
  refine lw_C (R := room_1) (As := [.int (xs (i + 1)), .int (xs (i + 2))]) (rest := []) hE (ct_X9_mark l E a I tr (xs (i + 1)) (xs (i + 2)) (rl_CK hR) (rl_HK hR)) cm_X9_mark (uw mt_L_L_113 rfl) (gC_0 E a I tr) rfl rfl hP hD hS hl.1 rfl rfl (Nat.le_of_ble_eq_true rfl) ⟨Nat.le_of_ble_eq_true rfl, Nat.le_of_ble_eq_true rfl⟩ hcs dL_law_900 (fun H locs hP hD hS => ?_)
  refine W.eq (g2 := F0 m 903 ls [.int ((r_mark (I 13 0) (I 11 0) (shC I) (I 16) (I 17) (I 18) (xs (i + 1)) (xs (i + 2))))]) rfl ?_
  refine lv_aload_n hx hb dL_law_903 rfl (lv_at hl 1 rfl) ?_
  refine lv_aload_n hx hb dL_law_904 rfl (lv_at hl 3 rfl) ?_
  refine lv_iload_n hx hb dL_law_905 rfl (lv_at hl 0 rfl) ?_
  refine lv_iconst (v := nI 1) hx hb dL_law_906 (by decide) ?_
  refine lv_iadd hx hb dL_law_907 ?_
  refine lw_ld hE hX hbl hbA hS (i := i + 1) (nI_add i 1) (by omega) hL dL_law_908 ?_
  refine lv_aload_n hx hb dL_law_909 rfl (lv_at hl 3 rfl) ?_
  refine lv_iload_n hx hb dL_law_910 rfl (lv_at hl 0 rfl) ?_
  refine lv_iconst (v := nI 2) hx hb dL_law_911 (by decide) ?_
  refine lv_iadd hx hb dL_law_912 ?_
  refine lw_ld hE hX hbl hbA hS (i := i + 2) (nI_add i 2) (by omega) hL dL_law_913 ?_
  refine lw_M (R := room_1) (As := [.int (xs (i + 1)), .int (xs (i + 2))]) (rest := [.int ((r_mark (I 13 0) (I 11 0) (shC I) (I 16) (I 17) (I 18) (xs (i + 1)) (xs (i + 2))))]) hE (ct_X10_mark l E a' J tr (xs (i + 1)) (xs (i + 2)) (rl_KM hR)) cm_X10_mark (uw mt_L_L_116 rfl) (gM_0 E a' J tr) rfl rfl hP hD hS hl.1 rfl rfl (Nat.le_of_ble_eq_true rfl) ⟨Nat.le_of_ble_eq_true rfl, Nat.le_of_ble_eq_true rfl⟩ hcs dL_law_914 (fun H locs hP hD hS => ?_)
  refine W.eq (g2 := F0 m 917 ls [.int ((r_mark (J 2 0) (J 16 0) (shM J) (J 5) (J 6) (J 7) (xs (i + 1)) (xs (i + 2)))), .int ((r_mark (I 13 0) (I 11 0) (shC I) (I 16) (I 17) (I 18) (xs (i + 1)) (xs (i + 2))))]) rfl ?_
  refine lv_icmp_eq (tgt := 1005) hx hb dL_law_917 (by decide) (fun _ => ?_) (fun z => absurd (an_mark hR (xs (i + 1)) (xs (i + 2))) z)
  rw [an_trM hR tr (xs (i + 1)) (xs (i + 2))] at hP hD
  exact kk a a' _ _ _ H locs ls (hR) hl hP hD hS
/-- case 24: keep -/
theorem lc_24 {l : Launch} {p : Program} {e : Env} {s : State} {m : MethodId} {below : List Frame} {meth : Method} {c : Code} {E : cE} {b L : Nat} {xs : Nat → Int32} {Q : State → Prop} {cells slots i : Nat} (hE : cEnv p s m #[Value.ref b] meth c E RL cL_law 4 (some .boolean) (lwA s)) (hX : va_X b L xs s s.heap) (hbl : b < s.heap.size) (hL : L ≤ 2560) (hcs : cells ≤ room_1.cells ∧ slots ≤ room_1.slots)
    (kk : ∀ (a a' : Nat → Nat) (I J : Nat → Nat → Nat) (tr : Int64) (H : Heap) (locs : List Loc) (ls : Array Slot), Rel I J → lv_has ls 4 [(3, .int (nI i)), (2, .ref (a' 0)), (1, .ref (a 0)), (0, .ref b)] → va_P E.1 vwCl (WC E a I tr ++ WM E a' J tr) H → va_D (lwA s) (WC E a I tr ++ WM E a' J tr) → va_S (lwA s) s.heap H locs → W p l e room_1 s m #[Value.ref b] below meth c H locs cells slots Q (F0 m 1005 ls []))
    {a a' : Nat → Nat} {I J : Nat → Nat → Nat} {tr : Int64} {H : Heap} {locs : List Loc} {ls : Array Slot} (hi : i + 5 ≤ L) (hR : Rel I J) (hl : lv_has ls 4 [(3, .int (nI i)), (2, .ref (a' 0)), (1, .ref (a 0)), (0, .ref b)]) (hP : va_P E.1 vwCl (WC E a I tr ++ WM E a' J tr) H) (hD : va_D (lwA s) (WC E a I tr ++ WM E a' J tr)) (hS : va_S (lwA s) s.heap H locs) : W p l e room_1 s m #[Value.ref b] below meth c H locs cells slots Q (F0 m 922 ls []) := by
  have hx := hE.1
  have hb := hE.2.1
  have hbA : ¬ lwA s b := Nat.not_le.mpr hbl
  refine lv_aload_n hx hb dL_law_922 rfl (lv_at hl 2 rfl) ?_
  refine lv_aload_n hx hb dL_law_923 rfl (lv_at hl 3 rfl) ?_
  refine lv_iload_n hx hb dL_law_924 rfl (lv_at hl 0 rfl) ?_
  refine lv_iconst (v := nI 1) hx hb dL_law_925 (by decide) ?_
  refine lv_iadd hx hb dL_law_926 ?_
  refine lw_ld hE hX hbl hbA hS (i := i + 1) (nI_add i 1) (by omega) hL dL_law_927 ?_
  refine lw_C (R := room_1) (As := [.int (xs (i + 1))]) (rest := []) hE (ct_X9_keep l E a I tr (xs (i + 1)) ) cm_X9_keep (uw mt_L_L_117 rfl) (gC_0 E a I tr) rfl rfl hP hD hS hl.1 rfl rfl (Nat.le_of_ble_eq_true rfl) ⟨Nat.le_of_ble_eq_true rfl, Nat.le_of_ble_eq_true rfl⟩ hcs dL_law_928 (fun H locs hP hD hS => ?_)
  refine W.eq (g2 := F0 m 931 ls [.int ((r_keep (I 11 0) (xs (i + 1))))]) rfl ?_
  refine lv_aload_n hx hb dL_law_931 rfl (lv_at hl 1 rfl) ?_
  refine lv_aload_n hx hb dL_law_932 rfl (lv_at hl 3 rfl) ?_
  refine lv_iload_n hx hb dL_law_933 rfl (lv_at hl 0 rfl) ?_
  refine lv_iconst (v := nI 1) hx hb dL_law_934 (by decide) ?_
  refine lv_iadd hx hb dL_law_935 ?_
  refine lw_ld hE hX hbl hbA hS (i := i + 1) (nI_add i 1) (by omega) hL dL_law_936 ?_
  refine lw_M (R := room_1) (As := [.int (xs (i + 1))]) (rest := [.int ((r_keep (I 11 0) (xs (i + 1))))]) hE (ct_X10_keep l E a' J tr (xs (i + 1)) ) cm_X10_keep (uw mt_L_L_120 rfl) (gM_0 E a' J tr) rfl rfl hP hD hS hl.1 rfl rfl (Nat.le_of_ble_eq_true rfl) ⟨Nat.le_of_ble_eq_true rfl, Nat.le_of_ble_eq_true rfl⟩ hcs dL_law_937 (fun H locs hP hD hS => ?_)
  refine W.eq (g2 := F0 m 940 ls [.int ((r_keep (J 16 0) (xs (i + 1)))), .int ((r_keep (I 11 0) (xs (i + 1))))]) rfl ?_
  refine lv_icmp_eq (tgt := 1005) hx hb dL_law_940 (by decide) (fun _ => ?_) (fun z => absurd (an_keep hR (xs (i + 1))) z)
  exact kk a a' _ _ _ H locs ls (kp_keep hR (xs (i + 1))) hl hP hD hS
/-- case 25: back -/
theorem lc_25 {l : Launch} {p : Program} {e : Env} {s : State} {m : MethodId} {below : List Frame} {meth : Method} {c : Code} {E : cE} {b L : Nat} {xs : Nat → Int32} {Q : State → Prop} {cells slots i : Nat} (hE : cEnv p s m #[Value.ref b] meth c E RL cL_law 4 (some .boolean) (lwA s)) (hX : va_X b L xs s s.heap) (hbl : b < s.heap.size) (hL : L ≤ 2560) (hcs : cells ≤ room_1.cells ∧ slots ≤ room_1.slots)
    (kk : ∀ (a a' : Nat → Nat) (I J : Nat → Nat → Nat) (tr : Int64) (H : Heap) (locs : List Loc) (ls : Array Slot), Rel I J → lv_has ls 4 [(3, .int (nI i)), (2, .ref (a' 0)), (1, .ref (a 0)), (0, .ref b)] → va_P E.1 vwCl (WC E a I tr ++ WM E a' J tr) H → va_D (lwA s) (WC E a I tr ++ WM E a' J tr) → va_S (lwA s) s.heap H locs → W p l e room_1 s m #[Value.ref b] below meth c H locs cells slots Q (F0 m 1005 ls []))
    {a a' : Nat → Nat} {I J : Nat → Nat → Nat} {tr : Int64} {H : Heap} {locs : List Loc} {ls : Array Slot} (hi : i + 5 ≤ L) (hR : Rel I J) (hl : lv_has ls 4 [(3, .int (nI i)), (2, .ref (a' 0)), (1, .ref (a 0)), (0, .ref b)]) (hP : va_P E.1 vwCl (WC E a I tr ++ WM E a' J tr) H) (hD : va_D (lwA s) (WC E a I tr ++ WM E a' J tr)) (hS : va_S (lwA s) s.heap H locs) : W p l e room_1 s m #[Value.ref b] below meth c H locs cells slots Q (F0 m 945 ls []) := by
  have hx := hE.1
  have hb := hE.2.1
  have hbA : ¬ lwA s b := Nat.not_le.mpr hbl
  refine lv_aload_n hx hb dL_law_945 rfl (lv_at hl 2 rfl) ?_
  refine lv_aload_n hx hb dL_law_946 rfl (lv_at hl 3 rfl) ?_
  refine lv_iload_n hx hb dL_law_947 rfl (lv_at hl 0 rfl) ?_
  refine lv_iconst (v := nI 1) hx hb dL_law_948 (by decide) ?_
  refine lv_iadd hx hb dL_law_949 ?_
  refine lw_ld hE hX hbl hbA hS (i := i + 1) (nI_add i 1) (by omega) hL dL_law_950 ?_
  refine lw_C (R := room_1) (As := [.int (xs (i + 1))]) (rest := []) hE (ct_X9_back l E a I tr (xs (i + 1)) (rl_70 hR)) cm_X9_back (uw mt_L_L_121 rfl) (gC_0 E a I tr) rfl rfl hP hD hS hl.1 rfl rfl (Nat.le_of_ble_eq_true rfl) ⟨Nat.le_of_ble_eq_true rfl, Nat.le_of_ble_eq_true rfl⟩ hcs dL_law_951 (fun H locs hP hD hS => ?_)
  refine W.eq (g2 := F0 m 954 ls [.int ((r_back (I 70) (fun j => if j = 0 then I 64 0 else I 69 0) (xs (i + 1))))]) rfl ?_
  refine lv_aload_n hx hb dL_law_954 rfl (lv_at hl 1 rfl) ?_
  refine lv_aload_n hx hb dL_law_955 rfl (lv_at hl 3 rfl) ?_
  refine lv_iload_n hx hb dL_law_956 rfl (lv_at hl 0 rfl) ?_
  refine lv_iconst (v := nI 1) hx hb dL_law_957 (by decide) ?_
  refine lv_iadd hx hb dL_law_958 ?_
  refine lw_ld hE hX hbl hbA hS (i := i + 1) (nI_add i 1) (by omega) hL dL_law_959 ?_
  refine lw_M (R := room_1) (As := [.int (xs (i + 1))]) (rest := [.int ((r_back (I 70) (fun j => if j = 0 then I 64 0 else I 69 0) (xs (i + 1))))]) hE (ct_X10_back l E a' J tr (xs (i + 1)) (rl_17 hR)) cm_X10_back (uw mt_L_L_124 rfl) (gM_0 E a' J tr) rfl rfl hP hD hS hl.1 rfl rfl (Nat.le_of_ble_eq_true rfl) ⟨Nat.le_of_ble_eq_true rfl, Nat.le_of_ble_eq_true rfl⟩ hcs dL_law_960 (fun H locs hP hD hS => ?_)
  refine W.eq (g2 := F0 m 963 ls [.int ((r_back (J 17) (fun j => J 16 (28 * (1 + j))) (xs (i + 1)))), .int ((r_back (I 70) (fun j => if j = 0 then I 64 0 else I 69 0) (xs (i + 1))))]) rfl ?_
  refine lv_icmp_eq (tgt := 1005) hx hb dL_law_963 (by decide) (fun _ => ?_) (fun z => absurd (an_back hR (xs (i + 1))) z)
  exact kk a a' _ _ _ H locs ls (kp_back hR (xs (i + 1))) hl hP hD hS
/-- case 26: count -/
theorem lc_26 {l : Launch} {p : Program} {e : Env} {s : State} {m : MethodId} {below : List Frame} {meth : Method} {c : Code} {E : cE} {b L : Nat} {xs : Nat → Int32} {Q : State → Prop} {cells slots i : Nat} (hE : cEnv p s m #[Value.ref b] meth c E RL cL_law 4 (some .boolean) (lwA s)) (hX : va_X b L xs s s.heap) (hbl : b < s.heap.size) (hL : L ≤ 2560) (hcs : cells ≤ room_1.cells ∧ slots ≤ room_1.slots)
    (kk : ∀ (a a' : Nat → Nat) (I J : Nat → Nat → Nat) (tr : Int64) (H : Heap) (locs : List Loc) (ls : Array Slot), Rel I J → lv_has ls 4 [(3, .int (nI i)), (2, .ref (a' 0)), (1, .ref (a 0)), (0, .ref b)] → va_P E.1 vwCl (WC E a I tr ++ WM E a' J tr) H → va_D (lwA s) (WC E a I tr ++ WM E a' J tr) → va_S (lwA s) s.heap H locs → W p l e room_1 s m #[Value.ref b] below meth c H locs cells slots Q (F0 m 1005 ls []))
    {a a' : Nat → Nat} {I J : Nat → Nat → Nat} {tr : Int64} {H : Heap} {locs : List Loc} {ls : Array Slot} (hi : i + 5 ≤ L) (hR : Rel I J) (hl : lv_has ls 4 [(3, .int (nI i)), (2, .ref (a' 0)), (1, .ref (a 0)), (0, .ref b)]) (hP : va_P E.1 vwCl (WC E a I tr ++ WM E a' J tr) H) (hD : va_D (lwA s) (WC E a I tr ++ WM E a' J tr)) (hS : va_S (lwA s) s.heap H locs) : W p l e room_1 s m #[Value.ref b] below meth c H locs cells slots Q (F0 m 968 ls []) := by
  have hx := hE.1
  have hb := hE.2.1
  have hbA : ¬ lwA s b := Nat.not_le.mpr hbl
  refine lv_aload_n hx hb dL_law_968 rfl (lv_at hl 2 rfl) ?_
  refine lv_aload_n hx hb dL_law_969 rfl (lv_at hl 3 rfl) ?_
  refine lv_iload_n hx hb dL_law_970 rfl (lv_at hl 0 rfl) ?_
  refine lv_iconst (v := nI 1) hx hb dL_law_971 (by decide) ?_
  refine lv_iadd hx hb dL_law_972 ?_
  refine lw_ld hE hX hbl hbA hS (i := i + 1) (nI_add i 1) (by omega) hL dL_law_973 ?_
  refine lw_C (R := room_1) (As := [.int (xs (i + 1))]) (rest := []) hE (ct_X9_count l E a I tr (xs (i + 1)) ) cm_X9_count (uw mt_L_L_125 rfl) (gC_0 E a I tr) rfl rfl hP hD hS hl.1 rfl rfl (Nat.le_of_ble_eq_true rfl) ⟨Nat.le_of_ble_eq_true rfl, Nat.le_of_ble_eq_true rfl⟩ hcs dL_law_974 (fun H locs hP hD hS => ?_)
  refine W.eq (g2 := F0 m 977 ls [.int ((r_count (fun i => [I 13 0, I 14 0, I 11 0, I 44 0, I 47 0, I 55 0, I 10 0, I 1 0].getD i 0) (xs (i + 1))))]) rfl ?_
  refine lv_aload_n hx hb dL_law_977 rfl (lv_at hl 1 rfl) ?_
  refine lv_aload_n hx hb dL_law_978 rfl (lv_at hl 3 rfl) ?_
  refine lv_iload_n hx hb dL_law_979 rfl (lv_at hl 0 rfl) ?_
  refine lv_iconst (v := nI 1) hx hb dL_law_980 (by decide) ?_
  refine lv_iadd hx hb dL_law_981 ?_
  refine lw_ld hE hX hbl hbA hS (i := i + 1) (nI_add i 1) (by omega) hL dL_law_982 ?_
  refine lw_M (R := room_1) (As := [.int (xs (i + 1))]) (rest := [.int ((r_count (fun i => [I 13 0, I 14 0, I 11 0, I 44 0, I 47 0, I 55 0, I 10 0, I 1 0].getD i 0) (xs (i + 1))))]) hE (ct_X10_count l E a' J tr (xs (i + 1)) ) cm_X10_count (uw mt_L_L_128 rfl) (gM_0 E a' J tr) rfl rfl hP hD hS hl.1 rfl rfl (Nat.le_of_ble_eq_true rfl) ⟨Nat.le_of_ble_eq_true rfl, Nat.le_of_ble_eq_true rfl⟩ hcs dL_law_983 (fun H locs hP hD hS => ?_)
  refine W.eq (g2 := F0 m 986 ls [.int ((r_count (fun i => [J 2 0, J 3 0, J 16 0, J 19 0, J 24 0, J 26 0, J 16 7, J 1 0].getD i 0) (xs (i + 1)))), .int ((r_count (fun i => [I 13 0, I 14 0, I 11 0, I 44 0, I 47 0, I 55 0, I 10 0, I 1 0].getD i 0) (xs (i + 1))))]) rfl ?_
  refine lv_icmp_eq (tgt := 1005) hx hb dL_law_986 (by decide) (fun _ => ?_) (fun z => absurd (an_count hR (xs (i + 1))) z)
  exact kk a a' _ _ _ H locs ls (hR) hl hP hD hS
/-- case 27: trace -/
theorem lc_27 {l : Launch} {p : Program} {e : Env} {s : State} {m : MethodId} {below : List Frame} {meth : Method} {c : Code} {E : cE} {b L : Nat} {xs : Nat → Int32} {Q : State → Prop} {cells slots i : Nat} (hE : cEnv p s m #[Value.ref b] meth c E RL cL_law 4 (some .boolean) (lwA s)) (hX : va_X b L xs s s.heap) (hbl : b < s.heap.size) (hL : L ≤ 2560) (hcs : cells ≤ room_1.cells ∧ slots ≤ room_1.slots)
    (kk : ∀ (a a' : Nat → Nat) (I J : Nat → Nat → Nat) (tr : Int64) (H : Heap) (locs : List Loc) (ls : Array Slot), Rel I J → lv_has ls 4 [(3, .int (nI i)), (2, .ref (a' 0)), (1, .ref (a 0)), (0, .ref b)] → va_P E.1 vwCl (WC E a I tr ++ WM E a' J tr) H → va_D (lwA s) (WC E a I tr ++ WM E a' J tr) → va_S (lwA s) s.heap H locs → W p l e room_1 s m #[Value.ref b] below meth c H locs cells slots Q (F0 m 1005 ls []))
    {a a' : Nat → Nat} {I J : Nat → Nat → Nat} {tr : Int64} {H : Heap} {locs : List Loc} {ls : Array Slot} (hi : i + 5 ≤ L) (hR : Rel I J) (hl : lv_has ls 4 [(3, .int (nI i)), (2, .ref (a' 0)), (1, .ref (a 0)), (0, .ref b)]) (hP : va_P E.1 vwCl (WC E a I tr ++ WM E a' J tr) H) (hD : va_D (lwA s) (WC E a I tr ++ WM E a' J tr)) (hS : va_S (lwA s) s.heap H locs) : W p l e room_1 s m #[Value.ref b] below meth c H locs cells slots Q (F0 m 991 ls []) := by
  have hx := hE.1
  have hb := hE.2.1
  have hbA : ¬ lwA s b := Nat.not_le.mpr hbl
  refine lv_aload_n hx hb dL_law_991 rfl (lv_at hl 2 rfl) ?_
  refine lw_C (R := room_1) (As := []) (rest := []) hE (ct_X9_trace l E a I tr  ) cm_X9_trace (uw mt_L_L_129 rfl) (gC_0 E a I tr) rfl rfl hP hD hS hl.1 rfl rfl (Nat.le_of_ble_eq_true rfl) ⟨Nat.le_of_ble_eq_true rfl, Nat.le_of_ble_eq_true rfl⟩ hcs dL_law_992 (fun H locs hP hD hS => ?_)
  refine W.eq (g2 := F0 m 995 ls [.long (tr)]) rfl ?_
  refine lv_aload_n hx hb dL_law_995 rfl (lv_at hl 1 rfl) ?_
  refine lw_M (R := room_1) (As := []) (rest := [.long (tr)]) hE (ct_X10_trace l E a' J tr  ) cm_X10_trace (uw mt_L_L_133 rfl) (gM_0 E a' J tr) rfl rfl hP hD hS hl.1 rfl rfl (Nat.le_of_ble_eq_true rfl) ⟨Nat.le_of_ble_eq_true rfl, Nat.le_of_ble_eq_true rfl⟩ hcs dL_law_996 (fun H locs hP hD hS => ?_)
  refine W.eq (g2 := F0 m 999 ls [.long (tr), .long (tr)]) rfl ?_
  refine lv_lcmp0 hx hb dL_law_999 ?_
  refine lv_if_eq (tgt := 1005) hx hb dL_law_1000 (by decide) (fun _ => ?_) (fun z => absurd rfl z)
  exact kk a a' _ _ _ H locs ls hR hl hP hD hS
