/-! PURE 5: what each call answers -/
def tn (x : Int32) : Nat := x.toNatClampNeg
theorem tn_nI {j : Nat} (h : j < 2 ^ 31) : tn (nI j) = j := nI_clamp h
theorem sw_out {x : Int32} (n : Nat) (hn : n < 2 ^ 30) (h : ∀ j, j ≤ n → ¬ x = nI j) : x.toInt < 0 ∨ (n : Int) < x.toInt := by
  rcases Int.lt_or_le x.toInt 0 with q | q
  · exact Or.inl q
  · rcases Int.lt_or_le (n : Int) x.toInt with q2 | q2
    · exact Or.inr q2
    · exfalso
      refine h x.toInt.toNat (by omega) ?_
      apply Int32.toInt_inj.mp
      rw [nI_toInt (by omega)]
      omega
def hb2 (n : Nat) (p0 p1 : Int32) : Bool := inB p0 n && (inB p1 n && !(decide (p0 = p1)))
theorem hb2_t {n : Nat} (hn : n < 2 ^ 31) {p0 p1 : Int32} (h : hb2 n p0 p1 = true) : ∃ a b : Nat, a < n ∧ b < n ∧ a ≠ b ∧ p0 = nI a ∧ p1 = nI b := by
  unfold hb2 at h
  rw [Bool.and_eq_true, Bool.and_eq_true] at h
  obtain ⟨a, ha, rfl⟩ := inB_t hn h.1
  obtain ⟨b, hb, rfl⟩ := inB_t hn h.2.1
  refine ⟨a, b, ha, hb, ?_, rfl, rfl⟩
  intro e
  subst e
  have := h.2.2
  rw [dt rfl] at this
  cases this
def r_shows (n : Nat) (f : Nat → Nat → Nat) (p0 p1 : Int32) : Int32 := cond (inB p0 n) (cond (inB p1 96) (nI (f (tn p0) (tn p1))) (-1)) (-1)
def r_first (n : Nat) (f : Nat → Nat → Nat) (p0 p1 p2 : Int32) : Int32 := cond (inB p0 n) (cond (inB p1 48) (cond (inB p2 96) (rN (fst (f (tn p0)) (tn p1) (tn p2))) (-1)) (-1)) (-1)
def nev (f : Nat → Nat) : Nat := cnt (fun v => decide (cnt (fun u => decide (f u = v)) 96 = 0)) 48
def r_many (n : Nat) (f : Nat → Nat → Nat) (p0 p1 : Int32) : Int32 := cond (inB p0 n) (if p1 = -1 then nI (nev (f (tn p0))) else cond (inB p1 48) (nI (cnt (fun u => decide (f (tn p0) u = tn p1)) 96)) (-1)) (-1)
def r_there (n : Nat) (f : Nat → Nat → Nat) (p0 p1 p2 : Int32) : Int32 := cond (inB p0 n) (cond (inB p2 n) (cond (inB p1 48) (if fst (f (tn p0)) (tn p1) 0 = 0 then -9 else nI (f (tn p2) (fst (f (tn p0)) (tn p1) 0 - 9))) (-1)) (-1)) (-1)
def evF (f : Nat → Nat → Nat) (w a b : Nat) : Nat → Bool := fun t => decide (f b (t + w) < f a t)
def r_early (n w : Nat) (f : Nat → Nat → Nat) (p0 p1 p2 : Int32) : Int32 := cond (hb2 n p0 p1) (if p2 = nI 0 then nI (cnt (evF f w (tn p0) (tn p1)) (96 - w)) else if p2 = nI 1 then rN (sr (evF f w (tn p0) (tn p1)) (96 - w) 0) else -1) (-1)
def r_house (n : Nat) (s p q l t : Nat → Nat) (p0 p1 : Int32) : Int32 := cond (inB p0 n) (if p1 = nI 0 then nI (s (tn p0)) else if p1 = nI 1 then nI (p (tn p0)) else if p1 = nI 2 then nI (q (tn p0)) else if p1 = nI 3 then nI (l (tn p0)) else if p1 = nI 4 then nI (t (tn p0)) else -1) (-1)
def r_go (now : Nat) (p0 : Int32) : Int32 := cond (wi p0 (nI 1) (nI 95)) (if now + tn p0 ≤ 95 then nI (now + tn p0) else -2) (-1)
def goN (now : Nat) (p0 : Int32) : Nat := cond (wi p0 (nI 1) (nI 95)) (if now + tn p0 ≤ 95 then now + tn p0 else now) now
def r_turn (n now : Nat) (f : Nat → Nat → Nat) (p0 p1 : Int32) : Int32 := cond (inB p0 n) (cond (wi p1 (nI 1) (nI 47)) (nI ((f (tn p0) now + tn p1) % 48)) (-1)) (-1)
def r_undo (k h : Nat) : Int32 := if k = 0 then -2 else nI h
def okE (n : Nat) (p0 p1 p2 p3 : Int32) : Bool := inB p0 n && (inB p1 48 && (inB p2 48 && wi p3 (nI 0) (nI 9)))
def r_errand (n c : Nat) (p0 p1 p2 p3 : Int32) : Int32 := cond (okE n p0 p1 p2 p3) (if c < 4 then nI (c + 1) else -3) (-1)
def r_soonest (n : Nat) (e : Nat → Nat) (o : Nat → Nat → Nat) (c : Nat) (p0 p1 : Int32) : Int32 := cond (inB p0 n) (if p1 < -1 then -1 else if e (tn p0) = 0 then -9 else if p1 = -1 then rN (e (tn p0)) else if p1 < nI c then nI (o (tn p0) (tn p1)) else -5) (-1)
def r_party (n : Nat) (f : Nat → Nat → Nat) (p0 : Int32) : Int32 := if p0 = -1 then rN (pb (fun v => sprE (fun u => fst (f u) v 0) n) 48).1 else cond (inB p0 48) (rN (sprE (fun u => fst (f u) (tn p0) 0) n)) (-1)
def trT (f : Nat → Nat → Nat) (a b v : Nat) : Nat := cnt (fun u => decide (fm (f a u) (f b u) = v)) 96
def r_treaty (n : Nat) (f : Nat → Nat → Nat) (p0 p1 p2 : Int32) : Int32 := cond (hb2 n p0 p1) (cond (wi p2 (nI 0) (nI 1)) (if p2 = nI 0 then nI (am (trT f (tn p0) (tn p1)) 48) else nI (trT f (tn p0) (tn p1) (am (trT f (tn p0) (tn p1)) 48))) (-1)) (-1)
def r_saw (c : Nat) (p0 p1 : Int32) : Int32 := cond (inB p0 96) (cond (inB p1 48) (if c < 8 then nI (c + 1) else -3) (-1)) (-1)
def r_whose (b : Nat) (u : Nat → Nat) (p0 : Int32) : Int32 := cond (wi p0 (nI 0) (nI 2)) (if p0 = nI 0 then nI b else if pc b < 2 then -9 else if p0 = nI 1 then nI (mq u 96).1 else nI (u (mq u 96).1)) (-1)
def r_aged (n : Nat) (l : Nat → Nat → Nat) (p0 p1 p2 : Int32) : Int32 := cond (inB p1 96) (cond (inB p2 96) (if tn p1 ≤ tn p2 then (if p0 = -1 then rN (eld (fun u => l u (tn p2) - l u (tn p1)) n).1 else cond (inB p0 n) (nI (l (tn p0) (tn p2) - l (tn p0) (tn p1))) (-1)) else -1) (-1)) (-1)
def r_owes (n c : Nat) (p0 p1 p2 : Int32) : Int32 := cond (hb2 n p0 p1) (cond (inB p2 48) (if c < 8 then nI c else -3) (-1)) (-1)
def r_due (c : Nat) (q : Nat → Nat) (r : Bool) (p0 : Int32) : Int32 := if p0 = -1 then bB r else cond (inB p0 c) (rN (q (tn p0))) (-1)
def r_mark (n now : Nat) (f : Nat → Nat → Nat) (p q l : Nat → Nat) (p0 p1 : Int32) : Int32 := cond (inB p1 n) (if p0 = nI 0 then nI (f (tn p1) now) else if p0 = nI 1 then nI (f (tn p1) now + l (tn p1)) else if p0 = nI 2 then nI (f (tn p1) now) - nI (p (tn p1)) else if p0 = nI 3 then nI ((f (tn p1) now + l (tn p1)) * 2) else if p0 = nI 4 then nI (f (tn p1) now) - nI (p (tn p1)) + nI (q (tn p1)) else if p0 = nI 5 then nI (f (tn p1) now + now) else -1000000) (-1000000)
def trM (n : Nat) (tr : Int64) (p0 p1 : Int32) : Int64 := cond (inB p1 n) (if p0 = nI 0 then tr + 1 else if p0 = nI 1 then tr + 10 + 1 else if p0 = nI 2 then tr + 100 + 1 else if p0 = nI 3 then tr + 1000 + 10 + 1 else if p0 = nI 4 then tr + 10000 + 100 + 1 else if p0 = nI 5 then tr + 100000 + 1 else tr) tr
def r_keep (now : Nat) (p0 : Int32) : Int32 := cond (wi p0 (nI 0) (nI 1)) (nI now) (-1)
def r_back (k : Nat → Nat) (now : Nat → Nat) (p0 : Int32) : Int32 := cond (wi p0 (nI 0) (nI 1)) (if k (tn p0) = 0 then -2 else nI (now (tn p0))) (-1)
def r_count (v : Nat → Nat) (p0 : Int32) : Int32 := if p0 = nI 0 then nI (v 0) else if p0 = nI 1 then nI (v 1) else if p0 = nI 2 then nI (v 2) else if p0 = nI 3 then nI (v 3) else if p0 = nI 4 then nI (v 4) else if p0 = nI 5 then nI (v 5) else if p0 = nI 6 then nI (v 6) else if p0 = nI 7 then nI (v 7) else -1
/-- the mask and the numbers never shown -/
theorem mk_bit {f : Nat → Nat} {v : Nat} : ∀ t, (mk f t).testBit v = decide (0 < cnt (fun u => decide (f u = v)) t) := by
  intro t
  induction t with
  | zero => rw [show mk f 0 = 0 from rfl, Nat.zero_testBit]; rfl
  | succ t ih =>
    rw [show mk f (t + 1) = mk f t ||| 2 ^ f t from rfl, Nat.testBit_or, ih, Nat.testBit_two_pow]
    by_cases e : f t = v
    · rw [cnt_t (P := fun u => decide (f u = v)) (dt e), dt e, Bool.or_true, dt (by omega)]
    · rw [cnt_f (P := fun u => decide (f u = v)) (df e), df e, Bool.or_false]
theorem cnt_split (P : Nat → Bool) : ∀ n, cnt P n + cnt (fun v => !P v) n = n := by
  intro n
  induction n with
  | zero => rfl
  | succ n ih =>
    rcases h : P n with _ | _
    · rw [cnt_f h, cnt_t (P := fun v => !P v) (by rw [h]; rfl)]; omega
    · rw [cnt_t h, cnt_f (P := fun v => !P v) (by rw [h]; rfl)]; omega
theorem cnt_none {P : Nat → Bool} : ∀ n, (∀ u, u < n → P u = false) → cnt P n = 0 := by
  intro n
  induction n with
  | zero => intro _; rfl
  | succ n ih => intro h; rw [cnt_f (h n (by omega)), ih (fun u hu => h u (by omega))]
theorem cnt_add (P : Nat → Bool) (m : Nat) : ∀ n, cnt P (m + n) = cnt P m + cnt (fun v => P (m + v)) n := by
  intro n
  induction n with
  | zero => rfl
  | succ n ih =>
    have e1 : cnt P (m + n + 1) = cnt P (m + n) + (if P (m + n) = true then 1 else 0) := rfl
    have e2 : cnt (fun v => P (m + v)) (n + 1) = cnt (fun v => P (m + v)) n + (if P (m + n) = true then 1 else 0) := rfl
    show cnt P (m + n + 1) = _
    rw [e1, e2, ih, Nat.add_assoc]
theorem pc_48 {m : Nat} (hm : m < 2 ^ 48) : pc m = cnt (fun v => m.testBit v) 48 := by
  unfold pc
  rw [cnt_add _ 48 16, cnt_none (P := fun v => m.testBit (48 + v)) 16 (fun u _ => ?_), Nat.add_zero]
  exact Nat.testBit_lt_two_pow (Nat.lt_of_lt_of_le hm (Nat.pow_le_pow_right (by decide) (by omega)))
theorem nev_eq {f : Nat → Nat} (hf : ∀ u, u < 96 → f u < 48) : 48 - pc (mk f 96) = nev f := by
  have h1 : pc (mk f 96) = cnt (fun v => (mk f 96).testBit v) 48 := by
    unfold pc
    rw [cnt_add _ 48 16, cnt_none (P := fun v => (mk f 96).testBit (48 + v)) 16 (fun u _ => ?_), Nat.add_zero]
    rw [mk_bit, df]
    rw [cnt_none 96 (fun q hq => df (by have := hf q hq; omega))]
    omega
  have h2 : nev f = cnt (fun v => !(mk f 96).testBit v) 48 := by
    unfold nev
    refine cnt_congr 48 (fun v _ => ?_)
    rw [mk_bit]
    by_cases e : cnt (fun u => decide (f u = v)) 96 = 0
    · rw [dt e, df (by omega)]; rfl
    · rw [df e, dt (by omega)]; rfl
  have := cnt_split (fun v => (mk f 96).testBit v) 48
  omega
