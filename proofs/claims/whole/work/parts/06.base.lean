/-! BASE: the shape of every contract, entry, return, call -/
abbrev tyC (y : Nat → ClassId) : List (ClassId × FieldType) := [(y 0, .byte), (y 1, .int), (y 2, .boolean), (y 3, .object RX3), (y 4, .object RX4)]
abbrev cE : Type := va_G × (Nat → ClassId) × (Nat → Nat) × (Nat → Nat)
def lenS : List Nat := [5, 4, 4]
def bytS : List (List Int32) := [[104, 111, 117, 115, 101], [108, 101, 97, 112], [119, 97, 108, 107]]
def rmL (d : Nat) : Room := { frames := d, cells := 0, slots := 0, locals := 40 * d + 12 }
/-- what stands outside the worlds: the nest's links, the three texts, two statics -/
def cN (U : State) : Prop := va_Nw (.methodLinkNest RX0 33 yX9_isWithin RX9) U ∧ va_Nw (.methodLinkNest RX5 85 yX9_isWithin RX9) U ∧ va_Nw (.methodLinkNest RX6 19 yX9_isWithin RX9) U ∧ va_Nw (.methodLinkNest RX0 11 yX4_init RX9) U ∧ va_Nw (.methodLinkNest RX7 21 yX3_init RX9) U ∧ va_Nw (.methodLinkNest RX9 9 yX6_init RX9) U ∧ va_Nw (.methodLinkNest RX9 27 yX0_init RX9) U ∧ va_Nw (.methodLinkNest RX9 72 yX4_init RX9) U
def cR (k : Nat → Nat) (U : State) : Prop := vk_R RX5 114 "house" (k 0) U ∧ vk_R RX5 120 "leap" (k 1) U ∧ vk_R RX5 122 "walk" (k 2) U
def cT (k v : Nat → Nat) (A : Nat → Prop) (U : State) (H : Heap) : Prop := vk_S 3 lenS bytS k v A U H ∧ va_Z "java/lang/String" "COMPACT_STRINGS" "Z" (.int 1) A U H ∧ va_Zq "jdk/internal/util/Preconditions" "SIOOBE_FORMATTER" "Ljava/util/function/BiFunction;" A U H
def cZ (k v : Nat → Nat) (A : Nat → Prop) (U : State) (H : Heap) : Prop := cN U ∧ cR k U ∧ cT k v A U H
theorem cN.same {u U : State} (h : u.vm = U.vm) (z : cN u) : cN U := ⟨z.1.same rfl h, z.2.1.same rfl h, z.2.2.1.same rfl h, z.2.2.2.1.same rfl h, z.2.2.2.2.1.same rfl h, z.2.2.2.2.2.1.same rfl h, z.2.2.2.2.2.2.1.same rfl h, z.2.2.2.2.2.2.2.same rfl h⟩
theorem cN.warm {s U : State} (h : s.WarmedH U.vm) (z : cN s) : cN U := ⟨z.1.warmM h, z.2.1.warmM h, z.2.2.1.warmM h, z.2.2.2.1.warmM h, z.2.2.2.2.1.warmM h, z.2.2.2.2.2.1.warmM h, z.2.2.2.2.2.2.1.warmM h, z.2.2.2.2.2.2.2.warmM h⟩
theorem cR.same {k : Nat → Nat} {u U : State} (h : u.vm = U.vm) (z : cR k u) : cR k U := ⟨z.1.same h.symm, z.2.1.same h.symm, z.2.2.same h.symm⟩
theorem cR.warm {k : Nat → Nat} {s U : State} (h : s.WarmedH U.vm) (z : cR k s) : cR k U := ⟨z.1.warm h, z.2.1.warm h, z.2.2.warm h⟩
theorem cT.moved {k v : Nat → Nat} {A : Nat → Prop} {u U : State} {H : Heap} (h : u.vm.Alike U.vm) (z : cT k v A u H) : cT k v A U H := ⟨z.1.moved h, z.2.1.moved h, z.2.2.moved h⟩
theorem cT.kept {k v : Nat → Nat} {A : Nat → Prop} {U : State} {H H1 : Heap} (z : cT k v A U H) (h : ∀ a : Nat, a < H.size → ¬ A a → H1[a]? = H[a]?) : cT k v A U H1 := ⟨z.1.kept h, z.2.1.kept h, z.2.2.kept h⟩
theorem cT.narrow {k v : Nat → Nat} {A B : Nat → Prop} {U : State} {H : Heap} (z : cT k v A U H) (h : ∀ q, B q → A q) : cT k v B U H := ⟨z.1.narrow h, z.2.1.narrow h, z.2.2.narrow h⟩
def cPre (E : cE) (ws : va_W) (sz : Nat) (U : State) : Prop := U.heap.size = sz ∧ va_P E.1 vwCl ws U.heap ∧ va_K E.1 vwCl (tyC E.2.1) U ∧ va_D (fun _ => True) ws ∧ cZ E.2.2.1 E.2.2.2 (va_A ws sz) U U.heap
def cPost (E : cE) (A : Nat → Prop) (rv : Option Value) (ws' : va_W) : Array Value → State → Outcome → State → Prop := fun _ st oc t => (oc = .returned rv ∧ va_P E.1 vwCl ws' t.heap ∧ va_K E.1 vwCl (tyC E.2.1) t ∧ va_D A ws') ∧ va_F A st t
/-- THE CONTRACT: from the world ws, with the values av, the method comes to rv and the world ws' -/
def Ct (l : Launch) (E : cE) (d : Nat) (yM : MethodName) (b : ByteArray) (n : Nat) (rt : Option FieldType) (av : List Value) (ws : va_W) (rv : Option Value) (ws' : va_W) : Prop :=
  ∀ sz : Nat, Met l yM (Cond.code yM b n rt :: UW) (rmL d) (va_Pc av (cPre E ws sz)) (cPost E (va_A ws sz) rv ws') 0 0 (va_A ws sz)
/-- what a body knows -/
def cEnv (p : Program) (s : State) (m : MethodId) (args : Array Value) (meth : Method) (c : Code) (E : cE) (own : String) (b : ByteArray) (n : Nat) (rt : Option FieldType) (A : Nat → Prop) : Prop :=
  p.tables.exec = Jvm.exec ∧ c.code = b ∧ meth.sig.returnType = rt ∧ (∀ w ∈ UW, w.before args s = true) ∧ s.vm.findClass own = some m.cls ∧ c.maxLocals = n ∧ va_K E.1 vwCl (tyC E.2.1) s ∧ meth.locks = false ∧ (∀ q, s.heap.size ≤ q → A q) ∧ cZ E.2.2.1 E.2.2.2 A s s.heap
abbrev RQ (E : cE) (below : List Frame) (args : Array Value) (s : State) (A : Nat → Prop) (rv : Option Value) (ws' : va_W) : State → Prop := MQ below (cPost E A rv ws') args s 0 0 A
theorem met_F {l : Launch} {yM : MethodName} {ws ws' : List Cond} {rm : Room} {Pc : Array Value → State → Prop} {Qc : Array Value → State → Outcome → State → Prop} {mc ms : Nat} {free : Addr → Prop} {b : ByteArray} {n : Nat} {rt : Option FieldType} (hy : plainFor yM = true) (hw : ws = Cond.code yM b n rt :: ws')
    (body : ∀ p e s m args below meth c s₁, BodyLoose p l yM (headSpec ws rm) b n rt e s m args below meth c s₁ → c.maxLocals = n → Pc args s → W p l e (headSpec ws rm).room s m args below meth c s.heap [] 0 0 (MQ below Qc args s mc ms free) (entryFrame m args n)) : Met l yM ws rm Pc Qc mc ms free := by
  refine MetFree.of_bodySF (code := b) (maxLocals := n) (ret := rt) hy (fun args s m h hn => ?_) (fun p e s m args below meth c s₁ B hml hP _ => ?_)
  · have hc : Cond.code yM b n rt ∈ ws := by rw [hw]; exact List.mem_cons_self
    obtain ⟨meth, c, h1, h2, h3, h4, h5, h6, -, -⟩ := Cond.code_spec hn (atoms_spec (ws := ws) h _ hc)
    exact ⟨meth, c, h1, h2, h3, h4, h5, h6⟩
  · have hh : s₁.heap = s.heap := by rw [B.state]; rfl
    obtain ⟨t, a1, o, b1, b2, b3⟩ := body p e s m args below meth c s₁ B hml hP s₁ hh (Stand.of_body B)
    exact ⟨t, o, a1, b1, b2, ⟨b3.1, b3.2⟩⟩
theorem Ct_of {l : Launch} {E : cE} {d : Nat} {yM : MethodName} {b : ByteArray} {n : Nat} {rt : Option FieldType} {av : List Value} {ws : va_W} {rv : Option Value} {ws' : va_W} (hy : plainFor yM = true) (hn : (lg_sl av).length ≤ n)
    (body : ∀ (p : Program) (e : Env) (s : State) (m : MethodId) (args : Array Value) (below : List Frame) (meth : Method) (c : Code) (A : Nat → Prop) (ls : Array Slot), cEnv p s m args meth c E yM.cls b n rt A → va_P E.1 vwCl ws s.heap → va_D A ws → va_S A s.heap s.heap [] → lv_has ls n (lv_args 0 av) →
      W p l e (rmL d) s m args below meth c s.heap [] 0 0 (RQ E below args s A rv ws') (F0 m 0 ls [])) : Ct l E d yM b n rt av ws rv ws' := by
  intro sz
  refine met_F (b := b) (n := n) (rt := rt) hy rfl ?_
  intro p e s m args below meth c s₁ B hml hv
  obtain ⟨rfl, hsz, hP, hK, hD0, hZ⟩ := hv
  have hts := atoms_spec (ws := Cond.code yM b n rt :: UW) B.pre
  subst hsz
  have hD := hD0.self (sz := s.heap.size)
  have hl := lv_entry av (n := n) hn
  rw [lg_entry_eq]
  exact body p e s m _ below meth c _ _ ⟨B.exec, B.bytes, B.returns, fun w h => hts w (List.mem_cons_of_mem _ h), findClass_of_methodNamed B.named, hml, hK, B.notSynchronized, fun q h => Or.inr h, hZ⟩ hP hD va_S.rf hl
section RET
variable {p : Program} {l : Launch} {e : Env} {R : Room} {s : State} {m : MethodId} {args : Array Value} {below : List Frame} {meth : Method} {c : Code} {H : Heap} {locs : List Loc} {E : cE} {own : String} {b : ByteArray} {n : Nat} {A : Nat → Prop} {rv : Option Value} {ws' : va_W} {pc : Nat} {ls : Array Slot}
theorem ret_i (hE : cEnv p s m args meth c E own b n (some .int) A) {r : Int32} (hr : rv = some (.int r)) (hP : va_P E.1 vwCl ws' H) (hD : va_D A ws') (hS : va_S A s.heap H locs) (hdg : decode b pc = .ok (.ireturn, 1)) : W p l e R s m args below meth c H locs 0 0 (RQ E below args s A rv ws') (F0 m pc ls [.int r]) :=
  W.iret hE.1 hE.2.1 hE.2.2.1 (fun t ht hW => ⟨⟨by rw [hr], by rw [ht]; exact hP, va_K.moved hW.alike hE.2.2.2.2.2.2.1, hD⟩, hS.F ht⟩) hS.2.2 hdg hE.2.2.2.2.2.2.2.1
theorem ret_z {ty : FieldType} (hE : cEnv p s m args meth c E own b n (some ty) A) {r : Int32} (hn : narrow ty (.int r) = .int r) (hr : rv = some (.int r)) (hP : va_P E.1 vwCl ws' H) (hD : va_D A ws') (hS : va_S A s.heap H locs) (hdg : decode b pc = .ok (.ireturn, 1)) : W p l e R s m args below meth c H locs 0 0 (RQ E below args s A rv ws') (F0 m pc ls [.int r]) :=
  W.zret hE.1 hE.2.1 hE.2.2.1 hn (fun t ht hW => ⟨⟨by rw [hr], by rw [ht]; exact hP, va_K.moved hW.alike hE.2.2.2.2.2.2.1, hD⟩, hS.F ht⟩) hS.2.2 hdg hE.2.2.2.2.2.2.2.1
theorem ret_l (hE : cEnv p s m args meth c E own b n (some .long) A) {r : Int64} (hr : rv = some (.long r)) (hP : va_P E.1 vwCl ws' H) (hD : va_D A ws') (hS : va_S A s.heap H locs) (hdg : decode b pc = .ok (.lreturn, 1)) : W p l e R s m args below meth c H locs 0 0 (RQ E below args s A rv ws') (F0 m pc ls [.long r]) :=
  W.lret hE.1 hE.2.1 hE.2.2.1 (fun t ht hW => ⟨⟨by rw [hr], by rw [ht]; exact hP, va_K.moved hW.alike hE.2.2.2.2.2.2.1, hD⟩, hS.F ht⟩) hS.2.2 hdg hE.2.2.2.2.2.2.2.1
theorem ret_v (hE : cEnv p s m args meth c E own b n none A) (hr : rv = none) (hP : va_P E.1 vwCl ws' H) (hD : va_D A ws') (hS : va_S A s.heap H locs) (hdg : decode b pc = .ok (.return_, 1)) : W p l e R s m args below meth c H locs 0 0 (RQ E below args s A rv ws') (F0 m pc ls []) :=
  W.vret hE.1 hE.2.1 hE.2.2.1 (fun t ht hW => ⟨⟨by rw [hr], by rw [ht]; exact hP, va_K.moved hW.alike hE.2.2.2.2.2.2.1, hD⟩, hS.F ht⟩) hS.2.2 hdg hE.2.2.2.2.2.2.2.1
theorem ret_a {C : String} (hE : cEnv p s m args meth c E own b n (some (.object C)) A) {r : Nat} (hr : rv = some (.ref r)) (hP : va_P E.1 vwCl ws' H) (hD : va_D A ws') (hS : va_S A s.heap H locs) (hdg : decode b pc = .ok (.areturn, 1)) : W p l e R s m args below meth c H locs 0 0 (RQ E below args s A rv ws') (F0 m pc ls [.ref r]) :=
  W.aret hE.1 hE.2.1 hE.2.2.1 (Or.inl ⟨_, rfl⟩) (Or.inr ⟨_, rfl⟩) (fun t ht hW => ⟨⟨by rw [hr], by rw [ht]; exact hP, va_K.moved hW.alike hE.2.2.2.2.2.2.1, hD⟩, hS.F ht⟩) hS.2.2 hdg hE.2.2.2.2.2.2.2.1
end RET
theorem good_w : ∀ w ∈ UW, goodWord w = true := UW_good
/-- a method of ours: its code and its class are in the words, its head is plain -/
def cM (yM : MethodName) (b : ByteArray) (n : Nat) (rt : Option FieldType) (k : Nat) : Prop :=
  Cond.code yM b n rt ∈ UW ∧ Cond.initialized yM.cls ∈ UW ∧ yM.cls ≠ "java/lang/invoke/MethodHandle" ∧ yM.cls ≠ "java/lang/invoke/VarHandle" ∧ (parseMethodDescriptor yM.desc).map (fun d => d.parameters.length) = some k
def cMV (yM : MethodName) (b : ByteArray) (n : Nat) (rt : Option FieldType) (k : Nat) : Prop := cM yM b n rt k ∧ Cond.instanceMethod yM ∈ UW ∧ Cond.selects yM.cls yM yM ∈ UW
def cMS (yM : MethodName) (b : ByteArray) (n : Nat) (rt : Option FieldType) (k : Nat) : Prop := cM yM b n rt k ∧ Cond.static yM ∈ UW
theorem good_l {ws : List Cond} (h : ∀ w ∈ ws, w ∈ UW) : GoodIn UW ws := fun w hw => ⟨h w hw, good_of_word (good_w w (h w hw))⟩
theorem good_c {yM : MethodName} {b : ByteArray} {n : Nat} {rt : Option FieldType} (h : Cond.code yM b n rt ∈ UW) : ∀ w ∈ (Cond.code yM b n rt :: UW), w ∈ UW := by
  intro w hw
  rcases List.mem_cons.mp hw with e | e
  · rw [e]; exact h
  · exact e
theorem cPre.blind {E : cE} {av : List Value} {ws : va_W} {sz : Nat} : FrameBlind (va_Pc av (cPre E ws sz)) := by
  intro a U g mk q
  obtain ⟨q0, q1, qP, qK, qD, qZ⟩ := q
  exact ⟨q0, q1, qP, va_K.moved (u := U) (U := U.calling g mk a) (Vm.Alike.refl U.vm) qK, qD, qZ.1.same rfl, qZ.2.1.same rfl, cT.moved (u := U) (U := U.calling g mk a) (Vm.Alike.refl U.vm) qZ.2.2⟩
section CALL
variable {p : Program} {l : Launch} {e : Env} {s : State} {m : MethodId} {args : Array Value} {below : List Frame} {meth : Method} {c : Code} {H : Heap} {locs : List Loc} {E : cE} {own : String} {b : ByteArray} {n : Nat} {rt : Option FieldType} {A : Nat → Prop} {pc : Nat} {ls : Array Slot} {Q : State → Prop} {d d' : Nat} {yM : MethodName} {b' : ByteArray} {n' : Nat} {rt' : Option FieldType} {As rest st0 : List Value} {ws ws' : va_W} {rv : Option Value} {idx k : Nat}
theorem va_A_sub (hD : va_D A ws) (hS : va_S A s.heap H locs) (hA : ∀ q, s.heap.size ≤ q → A q) : ∀ q, va_A ws H.size q → A q := by
  intro q h
  rcases h with ⟨k, e, h⟩ | h
  · exact hD.2 k (q, e) h
  · exact hA q (Nat.le_trans hS.1 h)
theorem cPre_at (hE : cEnv p s m args meth c E own b n rt A) (hP : va_P E.1 vwCl ws H) (hD : va_D A ws) (hS : va_S A s.heap H locs) (U : State) (hU : U.heap = H) (hW : s.WarmedH U.vm) : cPre E ws H.size U := by
  obtain ⟨-, -, -, -, -, -, hK, -, hA, hZ⟩ := hE
  refine ⟨by rw [hU], by rw [hU]; exact hP, va_K.moved hW.alike hK, hD.weaken (fun _ _ _ _ => trivial), hZ.1.warm hW, hZ.2.1.warm hW, ?_⟩
  rw [hU]
  exact ((hZ.2.2.kept hS.2.1).moved hW.alike).narrow (va_A_sub hD hS hA)
theorem go_on {a : Array Value} (hD : va_D A ws) (hS : va_S A s.heap H locs) (hA : ∀ q, s.heap.size ≤ q → A q) (hr : va_Run p l e (rmL d) s m args below meth c H locs 0 0 0 0 (F0 m pc ls st0) rest (cPost E (va_A ws H.size) rv ws' a) (va_A ws H.size))
    (kk : ∀ (H1 : Heap) (locs1 : List Loc), va_P E.1 vwCl ws' H1 → va_D A ws' → va_S A s.heap H1 locs1 → W p l e (rmL d) s m args below meth c H1 locs1 0 0 Q (F0 m (pc + 3) ls (rv.toList ++ rest))) : W p l e (rmL d) s m args below meth c H locs 0 0 Q (F0 m pc ls st0) := by
  have hF := va_A_sub hD hS hA
  intro T hT X
  obtain ⟨v, st₀, t, T', L, h0, X', hL, e1, e2, ⟨⟨hv, hP1, hK1, hD1⟩, hz, hk⟩, st⟩ := hr T hT X
  cases hv
  rw [h0] at hz hk
  obtain ⟨t2, a1, b1⟩ := kk T'.heap (locs ++ L) (by rw [e1]; exact hP1) (hD1.weaken (fun _ _ _ h => hF _ h))
    ⟨Nat.le_trans hS.1 (by rw [e1]; exact hz), fun q h1 h2 => by rw [e1, hk q (Nat.lt_of_lt_of_le h1 hS.1) (fun z => h2 (hF q z))]; exact hS.2.1 q h1 h2, fun q hq => by
      rcases List.mem_append.mp hq with h | h
      · exact hS.2.2 q h
      · exact hF _ (hL q h)⟩ T' rfl X'
  exact ⟨t2, st t2 a1, b1⟩
theorem call_V {o : Nat} (hE : cEnv p s m args meth c E own b n rt A) (cc : Ct l E d' yM b' n' rt' (.ref o :: As) ws rv ws') (hM : cMV yM b' n' rt' k) (hlink : Cond.methodLink own idx yM ∈ UW) {q0 ci : Nat} {fs : List Value} {q : vw_C} (hq : ws[q0]? = some (o, .inr (ci, fs))) (hc : vwCl[ci]? = some q) (hqC : q.1 = yM.cls)
    (hP : va_P E.1 vwCl ws H) (hD : va_D A ws) (hS : va_S A s.heap H locs) (hl : ls.size = n) (hn : As.length = k) (hst : st0 = As.reverse ++ .ref o :: rest) (hcat : (rest.map fun v => v.category).sum ≤ 8) (hd : d' + 1 ≤ d ∧ 8 + (n' + 11) + (40 * d' + 12) ≤ 40 * d + 12) (hdg : decode b pc = .ok (.invokevirtual idx, 3))
    (kk : ∀ (H1 : Heap) (locs1 : List Loc), va_P E.1 vwCl ws' H1 → va_D A ws' → va_S A s.heap H1 locs1 → W p l e (rmL d) s m args below meth c H1 locs1 0 0 Q (F0 m (pc + 3) ls (rv.toList ++ rest))) : W p l e (rmL d) s m args below meth c H locs 0 0 Q (F0 m pc ls st0) := by
  obtain ⟨hx, hb, hr, hts, hown, hml, hK, hlocks, hA, hZ⟩ := id hE
  obtain ⟨⟨w1, w2, w3, w4, w5⟩, w6, w7⟩ := hM
  refine go_on hD hS hA (a := (Value.ref o :: As).toArray) (va_runV (cc := b) (nL := n) (Ts := UW) (own := own) (C := yM.cls) (bytes := b') (maxL := n') (ret := rt') (n := k) ⟨hx, hb, hml, hown, hts⟩ (cc H.size) ?_ ?_ rfl hn hl hst (lv_room hcat) hdg ⟨Nat.zero_le _, Nat.zero_le _⟩) kk
  · refine cwV k hts ?_ rfl rfl rfl ⟨rfl, w3, w4, w5⟩ hd
    refine good_l ?_
    intro w hw
    rcases List.mem_append.mp hw with h | h
    · simp only [List.mem_cons, List.not_mem_nil, or_false] at h
      rcases h with rfl | rfl | rfl | rfl
      · exact hlink
      · exact w6
      · exact w7
      · exact w2
    · exact good_c w1 w h
  · refine ⟨cPre.blind, ?_, fun U hU hW => ⟨rfl, cPre_at hE hP hD hS U hU hW⟩⟩
    have := va_recv hK hP hc hq
    rw [hqC] at this
    exact this
theorem call_S (hE : cEnv p s m args meth c E own b n rt A) (cc : Ct l E d' yM b' n' rt' As ws rv ws') (hM : cMS yM b' n' rt' k) (hlink : Cond.methodLink own idx yM ∈ UW)
    (hP : va_P E.1 vwCl ws H) (hD : va_D A ws) (hS : va_S A s.heap H locs) (hl : ls.size = n) (hn : As.length = k) (hst : st0 = As.reverse ++ rest) (hcat : (rest.map fun v => v.category).sum ≤ 8) (hd : d' + 1 ≤ d ∧ 8 + (n' + 11) + (40 * d' + 12) ≤ 40 * d + 12) (hdg : decode b pc = .ok (.invokestatic idx, 3))
    (kk : ∀ (H1 : Heap) (locs1 : List Loc), va_P E.1 vwCl ws' H1 → va_D A ws' → va_S A s.heap H1 locs1 → W p l e (rmL d) s m args below meth c H1 locs1 0 0 Q (F0 m (pc + 3) ls (rv.toList ++ rest))) : W p l e (rmL d) s m args below meth c H locs 0 0 Q (F0 m pc ls st0) := by
  obtain ⟨hx, hb, hr, hts, hown, hml, hK, hlocks, hA, hZ⟩ := id hE
  obtain ⟨⟨w1, w2, w3, w4, w5⟩, w6⟩ := hM
  refine go_on hD hS hA (a := As.toArray) (va_runS (cc := b) (nL := n) (Ts := UW) (own := own) (bytes := b') (maxL := n') (ret := rt') (n := k) ⟨hx, hb, hml, hown, hts⟩ (cc H.size) ?_ ⟨cPre.blind, fun U hU hW => ⟨rfl, cPre_at hE hP hD hS U hU hW⟩⟩ rfl hn hl hst (lv_room hcat) hdg ⟨Nat.zero_le _, Nat.zero_le _⟩) kk
  refine va_cwS k hts ?_ rfl rfl rfl ⟨w3, w4, w5⟩ hd
  refine good_l ?_
  intro w hw
  rcases List.mem_append.mp hw with h | h
  · simp only [List.mem_cons, List.not_mem_nil, or_false] at h
    rcases h with rfl | rfl | rfl
    · exact hlink
    · exact w6
    · exact w2
  · exact good_c w1 w h
theorem call_SN {host : String} (hE : cEnv p s m args meth c E own b n rt A) (cc : Ct l E d' yM b' n' rt' As ws rv ws') (hM : cMS yM b' n' rt' k) (hlink : va_Nw (.methodLinkNest own idx yM host) s)
    (hP : va_P E.1 vwCl ws H) (hD : va_D A ws) (hS : va_S A s.heap H locs) (hl : ls.size = n) (hn : As.length = k) (hst : st0 = As.reverse ++ rest) (hcat : (rest.map fun v => v.category).sum ≤ 8) (hd : d' + 1 ≤ d ∧ 8 + (n' + 11) + (40 * d' + 12) ≤ 40 * d + 12) (hdg : decode b pc = .ok (.invokestatic idx, 3))
    (kk : ∀ (H1 : Heap) (locs1 : List Loc), va_P E.1 vwCl ws' H1 → va_D A ws' → va_S A s.heap H1 locs1 → W p l e (rmL d) s m args below meth c H1 locs1 0 0 Q (F0 m (pc + 3) ls (rv.toList ++ rest))) : W p l e (rmL d) s m args below meth c H locs 0 0 Q (F0 m pc ls st0) := by
  obtain ⟨hx, hb, hr, hts, hown, hml, hK, hlocks, hA, hZ⟩ := id hE
  obtain ⟨⟨w1, w2, w3, w4, w5⟩, w6⟩ := hM
  refine go_on hD hS hA (a := As.toArray) (va_runSN (cc := b) (nL := n) (Ts := UW) (own := own) (host := host) (bytes := b') (maxL := n') (ret := rt') (n := k) ⟨hx, hb, hml, hown, hts⟩ (cc H.size) ⟨va_cnB k hts (good_l (good_c w1)) rfl rfl rfl hlink (hts _ w2) ⟨w3, w4, w5⟩ hd, hts _ w6, trivial⟩ ⟨cPre.blind, fun U hU hW => ⟨rfl, cPre_at hE hP hD hS U hU hW⟩⟩ rfl hn hl hst (lv_room hcat) hdg ⟨Nat.zero_le _, Nat.zero_le _⟩) kk
end CALL
