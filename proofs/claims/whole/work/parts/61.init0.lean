/-! NEW OBJECTS: the shape of a maker's contract, and the rows of its walk -/
def iAO (U : State) : Prop := va_AO RX3 U ∧ va_AO RX4 U
theorem iAO.moved {u U : State} (h : u.vm.Alike U.vm) (z : iAO u) : iAO U := ⟨z.1.moved h, z.2.moved h⟩
def iPre (E : cE) (ws : va_W) (sz : Nat) (U : State) : Prop := cPre E ws sz U ∧ iAO U
def iPost (E : cE) (A : Nat → Prop) (wf : (Nat → Nat) → va_W) : Array Value → State → Outcome → State → Prop := fun _ st oc t => (oc = .returned none ∧ va_K E.1 vwCl (tyC E.2.1) t ∧ ∃ f : Nat → Nat, va_P E.1 vwCl (wf f) t.heap ∧ va_D A (wf f)) ∧ va_F A st t
def iRm (d nc ns : Nat) : Room := { frames := d, cells := nc, slots := ns, locals := 40 * d + 12 }
def It (l : Launch) (E : cE) (d : Nat) (yM : MethodName) (b : ByteArray) (n : Nat) (av : List Value) (ws : va_W) (wf : (Nat → Nat) → va_W) (nc ns : Nat) : Prop :=
  ∀ sz : Nat, Met l yM (Cond.code yM b n none :: UW) (iRm d nc ns) (va_Pc av (iPre E ws sz)) (iPost E (va_A ws sz) wf) nc ns (va_A ws sz)
abbrev IQ (E : cE) (below : List Frame) (args : Array Value) (s : State) (A : Nat → Prop) (wf : (Nat → Nat) → va_W) (nc ns : Nat) : State → Prop := MQ below (iPost E A wf) args s nc ns A
theorem It_of {l : Launch} {E : cE} {d : Nat} {yM : MethodName} {b : ByteArray} {n : Nat} {av : List Value} {ws : va_W} {wf : (Nat → Nat) → va_W} {nc ns : Nat} (hy : plainFor yM = true) (hi : yM.name = "<init>") (hn : (lg_sl av).length ≤ n)
    (body : ∀ (p : Program) (e : Env) (s : State) (m : MethodId) (args : Array Value) (below : List Frame) (meth : Method) (c : Code) (A : Nat → Prop) (ls : Array Slot), cEnv p s m args meth c E yM.cls b n none A → iAO s → meth.name = "<init>" → va_P E.1 vwCl ws s.heap → va_D A ws → va_S A s.heap s.heap [] → lv_has ls n (lv_args 0 av) →
      W p l e (iRm d nc ns) s m args below meth c s.heap [] 0 0 (IQ E below args s A wf nc ns) (F0 m 0 ls [])) : It l E d yM b n av ws wf nc ns := by
  intro sz
  refine met_F (b := b) (n := n) (rt := none) hy rfl ?_
  intro p e s m args below meth c s₁ B hml hv
  obtain ⟨rfl, ⟨hsz, hP, hK, hD0, hZ⟩, hO⟩ := hv
  have hts := atoms_spec (ws := Cond.code yM b n none :: UW) B.pre
  have hin : meth.name = "<init>" := (name_of_methodNamed B.named B.method).1.trans hi
  subst hsz
  have hD := hD0.self (sz := s.heap.size)
  have hl := lv_entry av (n := n) hn
  rw [lg_entry_eq]
  exact body p e s m _ below meth c _ _ ⟨B.exec, B.bytes, B.returns, fun w h => hts w (List.mem_cons_of_mem _ h), findClass_of_methodNamed B.named, hml, hK, B.notSynchronized, fun q h => Or.inr h, hZ⟩ hO hin hP hD va_S.rf hl
theorem iPre.blind {E : cE} {av : List Value} {ws : va_W} {sz : Nat} : FrameBlind (va_Pc av (iPre E ws sz)) := by
  intro a U g mk q
  obtain ⟨q0, q1, q2⟩ := q
  obtain ⟨r0, r1⟩ := cPre.blind (E := E) (av := av) (ws := ws) (sz := sz) a U g mk ⟨q0, q1⟩
  exact ⟨r0, r1, iAO.moved (u := U) (U := U.calling g mk a) (Vm.Alike.refl U.vm) q2⟩
theorem ap_get {pr L : va_W} {k : Nat} {x : Nat × va_E} (h : L[k]? = some x) : (pr ++ L)[pr.length + k]? = some x := by
  rw [List.getElem?_append_right (Nat.le_add_right _ _), Nat.add_sub_cancel_left]
  exact h
theorem ap_set {pr L L' : va_W} {k : Nat} {x : Nat × va_E} (h : L.set k x = L') : (pr ++ L).set (pr.length + k) x = pr ++ L' := by
  rw [List.set_append_right _ _ (Nat.le_add_right _ _), Nat.add_sub_cancel_left, h]
section INEW
variable {p : Program} {l : Launch} {e : Env} {R : Room} {s : State} {m : MethodId} {args : Array Value} {below : List Frame} {meth : Method} {c : Code} {H : Heap} {locs : List Loc} {cells slots : Nat} {Q : State → Prop} {E : cE} {b : ByteArray} {nl : Nat} {rt : Option FieldType} {A : Nat → Prop} {pc : Nat} {ls : Array Slot} {rest st0 : List Value} {ws ws' pr L : va_W} {own : String}
theorem i_new {C : String} {T : u_T} {N ci idx : Nat} (ty : Nat → FieldType) (hin : ∀ w ∈ u_ws C T N, w ∈ UW) (hty : ∀ k, k < N → parseFieldDescriptor (T k).2.2.1 = some (ty k)) (hc : vwCl[ci]? = some (C, T, N)) (hcl : Cond.classLink own idx C ∈ UW) (hz : Cond.instantiable C N ∈ UW) (hi : Cond.initialized C ∈ UW) (hE : cEnv p s m args meth c E own b nl rt A)
    (hP : va_P E.1 vwCl (pr ++ L) H) (hD : va_D A (pr ++ L)) (hS : va_S A s.heap H locs) {fs : List Value} (hfs : ∀ j, j < N → defaultValue (ty j) = vp_V fs j) (hcells : cells + 1 ≤ R.cells) (hslots : slots + N ≤ R.slots) (hdg : decode b pc = .ok (.new idx, 3))
    (kk : ∀ (q : Nat) (H1 : Heap), va_P E.1 vwCl (pr ++ (L ++ [(q, .inr (ci, fs))])) H1 → va_D A (pr ++ (L ++ [(q, .inr (ci, fs))])) → va_S A s.heap H1 locs → W p l e R s m args below meth c H1 locs (cells + 1) (slots + N) Q (F0 m (pc + 3) ls (.ref q :: rest))) : W p l e R s m args below meth c H locs cells slots Q (F0 m pc ls rest) := by
  refine va_new hE.1 hE.2.1 hE.2.2.2.1 hin ty hty hE.2.2.2.2.1 (hE.2.2.2.1 _ hcl) (hE.2.2.2.1 _ hz) (hE.2.2.2.1 _ hi) hE.2.2.2.2.2.2.1 hP hD hS hE.2.2.2.2.2.2.2.2.1 hc hfs hcells hslots hdg (fun q H1 h1 h2 h3 => ?_)
  rw [List.append_assoc] at h1 h2
  exact kk q H1 h1 h2 h3
theorem i_newa (k : Nat) {at_ : ArrayType} {ty : FieldType} (hty : newarray.typeOf at_ = ty) (hra : ∀ (U : State) (cA : ClassId), va_RA U cA ty → U.vm.findClass ("[" ++ ty.toString) = some cA) (hA : Cond.arrayClass ty ∈ UW) (hk : ∀ y, (tyC y)[k]? = some (y k, ty)) (hE : cEnv p s m args meth c E own b nl rt A)
    (hP : va_P E.1 vwCl (pr ++ L) H) (hD : va_D A (pr ++ L)) (hS : va_S A s.heap H locs) {n : Nat} (hn : n < 100000) (hdv : defaultValue ty = .int 0) (hcb : componentBytes ty ≤ 4) (hcells : cells + 1 ≤ R.cells) (hslots : slots + n ≤ R.slots) (hdg : decode b pc = .ok (.newarray at_, 2))
    (kk : ∀ (q : Nat) (H1 : Heap), va_P E.1 vwCl (pr ++ (L ++ [(q, .inl (E.2.1 k, n, .inl (fun _ => 0)))])) H1 → va_D A (pr ++ (L ++ [(q, .inl (E.2.1 k, n, .inl (fun _ => 0)))])) → va_S A s.heap H1 locs → W p l e R s m args below meth c H1 locs (cells + 1) (slots + n) Q (F0 m (pc + 2) ls (.ref q :: rest))) : W p l e R s m args below meth c H locs cells slots Q (F0 m pc ls (.int (nI n) :: rest)) := by
  subst hty
  have hb3 : n * componentBytes (newarray.typeOf at_) ≤ 536870912 := by
    have h1 : n * componentBytes (newarray.typeOf at_) ≤ n * 4 := Nat.mul_le_mul_left n hcb
    omega
  refine va_newa (a0 := (n, .inl (fun _ => 0))) hE.1 hE.2.1 (hE.2.2.2.1 _ hA) rfl hE.2.2.2.2.2.2.1 hP hD hS hE.2.2.2.2.2.2.2.2.1 (fun cA => by rw [hdv]; rfl) (fun z => (vp_in_nI (show n < n + 1 by omega) (by omega)) (Or.inl z)) (nI_clamp (by omega)) hb3 hcells hslots hdg (fun q cA H1 hK h1 h2 h3 => ?_)
  have e1 := hra s cA (hK.2 5 _ rfl).2
  have e2 := hra s (E.2.1 k) (hE.2.2.2.2.2.2.1.2 k _ (hk _)).2
  have e3 : cA = E.2.1 k := Option.some.inj (e1.symm.trans e2)
  rw [e3, List.append_assoc] at h1 h2
  exact kk q H1 h1 h2 h3
theorem i_newq (k : Nat) {C : String} {idx : Nat} (hcl : Cond.classLink own idx C ∈ UW) (hO : va_AO C s) (hk : ∀ y, (tyC y)[k]? = some (y k, .object C)) (hE : cEnv p s m args meth c E own b nl rt A)
    (hP : va_P E.1 vwCl (pr ++ L) H) (hD : va_D A (pr ++ L)) (hS : va_S A s.heap H locs) {n : Nat} (hn : n < 100000) (hcells : cells + 1 ≤ R.cells) (hslots : slots + n ≤ R.slots) (hdg : decode b pc = .ok (.anewarray idx, 3))
    (kk : ∀ (q : Nat) (H1 : Heap), va_P E.1 vwCl (pr ++ (L ++ [(q, .inl (E.2.1 k, n, .inr (.inr (.inr (.inr (fun _ => none))))))])) H1 → va_D A (pr ++ (L ++ [(q, .inl (E.2.1 k, n, .inr (.inr (.inr (.inr (fun _ => none))))))])) → va_S A s.heap H1 locs → W p l e R s m args below meth c H1 locs (cells + 1) (slots + n) Q (F0 m (pc + 3) ls (.ref q :: rest))) : W p l e R s m args below meth c H locs cells slots Q (F0 m pc ls (.int (nI n) :: rest)) := by
  refine va_newq hE.1 hE.2.1 hE.2.2.2.2.1 (hE.2.2.2.1 _ hcl) hO hE.2.2.2.2.2.2.1 hP hD hS hE.2.2.2.2.2.2.2.2.1 (fun z => (vp_in_nI (show n < n + 1 by omega) (by omega)) (Or.inl z)) (nI_clamp (by omega)) (by omega) hcells hslots hdg (fun q cA H1 hK h1 h2 h3 => ?_)
  have e1 : s.vm.findClass ("[" ++ (FieldType.object C).toString) = some cA := by
    obtain ⟨_, _, _, _, _, z⟩ := (hK.2 5 _ rfl).2
    exact z
  have e2 : s.vm.findClass ("[" ++ (FieldType.object C).toString) = some (E.2.1 k) := by
    obtain ⟨_, _, _, _, _, z⟩ := (hE.2.2.2.2.2.2.1.2 k _ (hk _)).2
    exact z
  have e3 : cA = E.2.1 k := Option.some.inj (e1.symm.trans e2)
  rw [e3, List.append_assoc] at h1 h2
  exact kk q H1 h1 h2 h3
theorem i_pfF {C : String} {T : u_T} {N ci idx : Nat} (k : Nat) (ty0 : Nat → FieldType) (hin : ∀ w ∈ u_ws C T N, w ∈ UW) (hty : ∀ k, k < N → parseFieldDescriptor (T k).2.2.1 = some (ty0 k)) (hnm : ∀ a, a < N → ∀ b, b < N → a ≠ b → (T a).2.1 ≠ (T b).2.1) (hc : vwCl[ci]? = some (C, T, N)) (hk : k < N) (hfin : (T k).2.2.2 = true) (hlink : Cond.fieldLink own idx (T k).1 (T k).2.1 (T k).2.2.1 ∈ UW) (hdecl : (T k).1 = own) (him : meth.name = "<init>")
    (hE : cEnv p s m args meth c E own b nl rt A) (hP : va_P E.1 vwCl ws H) (hD : va_D A ws) (hS : va_S A s.heap H locs) (q0 : Nat) {a : Nat} {fs : List Value} (he : ws[q0]? = some (a, .inr (ci, fs))) {v : Value} (hn : narrow (ty0 k) v = v) (hfit : fits (ty0 k) v = true) (hl : k < fs.length) (hw : ws.set q0 (a, .inr (ci, fs.set k v)) = ws') (hdg : decode b pc = .ok (.putfield idx, 3))
    (kk : ∀ (H1 : Heap) (locs1 : List Loc), va_P E.1 vwCl ws' H1 → va_D A ws' → va_S A s.heap H1 locs1 → W p l e R s m args below meth c H1 locs1 cells slots Q (F0 m (pc + 3) ls rest)) : W p l e R s m args below meth c H locs cells slots Q (F0 m pc ls (v :: .ref a :: rest)) := by
  refine va_putF hE.1 hE.2.1 hE.2.2.2.1 hin ty0 hty hnm hE.2.2.2.2.1 hE.2.2.2.2.2.2.1 hP hD hS q0 he hc k hk (hE.2.2.2.1 _ hlink) (fun _ h => h) hfin him hdecl (hty k hk) hn hfit hl hdg (fun H1 L1 h1 h2 h3 => ?_)
  rw [hw] at h1 h2
  exact kk H1 L1 h1 h2 h3
theorem i_astq (k ci : Nat) {r : vw_C} (hk : ∀ y, (tyC y)[k]? = some (y k, .object r.1)) (hc : vwCl[ci]? = some r) (hE : cEnv p s m args meth c E own b nl rt A) (hP : va_P E.1 vwCl ws H) (hD : va_D A ws) (hS : va_S A s.heap H locs) (q0 qk : Nat) {a n v : Nat} {vs : List Value} {f : Nat → Option Nat} (ha : ws[q0]? = some (a, .inl (E.2.1 k, n, .inr (.inr (.inr (.inr f)))))) (hv : ws[qk]? = some (v, .inr (ci, vs))) {i : Nat} (hi : i < n) (hn : n < 100000) (hw : ws.set q0 (a, .inl (E.2.1 k, n, .inr (.inr (.inr (.inr (va_up f i (some v))))))) = ws') (hdg : decode b pc = .ok (.aastore, 1))
    (kk : ∀ (H1 : Heap) (locs1 : List Loc), va_P E.1 vwCl ws' H1 → va_D A ws' → va_S A s.heap H1 locs1 → W p l e R s m args below meth c H1 locs1 cells slots Q (F0 m (pc + 1) ls rest)) : W p l e R s m args below meth c H locs cells slots Q (F0 m pc ls (.ref v :: .int (nI i) :: .ref a :: rest)) := by
  refine va_astq hE.1 hE.2.1 hE.2.2.2.2.2.2.1 hP hD hS q0 k qk ci ha (hk _) hv hc (vp_in_nI hi (by omega)) hdg (fun H1 L1 h1 h2 h3 => ?_)
  rw [nI_clamp (by omega), hw] at h1 h2
  exact kk H1 L1 h1 h2 h3
theorem i_obj {idx : Nat} (hE : cEnv p s m args meth c E own b nl rt A) (hl : Cond.methodLink own idx Lib.objectInit ∈ UW) (hsz : ls.size = nl) {a : Nat} (hdg : decode b pc = .ok (.invokespecial idx, 3)) (hf : 1 ≤ R.frames) (hlo : (rest.map fun v => v.category).sum + 12 ≤ R.locals)
    (kk : W p l e R s m args below meth c H locs cells slots Q (F0 m (pc + 3) ls rest)) : W p l e R s m args below meth c H locs cells slots Q (F0 m pc ls (.ref a :: rest)) :=
  W.objInit hE.1 hE.2.1 hE.2.2.2.2.1 (hE.2.2.2.1 _ hl) (hE.2.2.2.1 _ (uw mt_I_java_lang_Object__init____V rfl)) (hE.2.2.2.1 _ (uw mt_C_java_lang_Object__init____V rfl)) rfl (hsz.trans hE.2.2.2.2.2.1.symm) rfl hdg hf (by show 2 * 0 + _ + 12 ≤ _; omega) kk
theorem i_ret {wf : (Nat → Nat) → va_W} {nc ns : Nat} (f : Nat → Nat) (hE : cEnv p s m args meth c E own b nl none A) (hP : va_P E.1 vwCl ws H) (hD : va_D A ws) (hS : va_S A s.heap H locs) (hw : ws = wf f) (hc : cells ≤ nc) (hs : slots ≤ ns) (hdg : decode b pc = .ok (.return_, 1)) : W p l e R s m args below meth c H locs cells slots (IQ E below args s A wf nc ns) (F0 m pc ls []) := by
  subst hw
  refine W.widen (k := nc) (n := ns) hc hs ?_
  exact W.vret hE.1 hE.2.1 hE.2.2.1 (fun t ht hW => ⟨⟨rfl, va_K.moved hW.alike hE.2.2.2.2.2.2.1, f, by rw [ht]; exact hP, hD⟩, hS.F ht⟩) hS.2.2 hdg hE.2.2.2.2.2.2.2.1
theorem iPre_at (hE : cEnv p s m args meth c E own b nl rt A) (hO : iAO s) (hP : va_P E.1 vwCl ws H) (hD : va_D A ws) (hS : va_S A s.heap H locs) (U : State) (hU : U.heap = H) (hW : s.WarmedH U.vm) : iPre E ws H.size U := ⟨cPre_at hE hP hD hS U hU hW, hO.moved hW.alike⟩
theorem i_go {a : Array Value} {mc ms : Nat} {wf : (Nat → Nat) → va_W} (hD : va_D A ws) (hS : va_S A s.heap H locs) (hA : ∀ q, s.heap.size ≤ q → A q) (hr : va_Run p l e R s m args below meth c H locs cells slots mc ms (F0 m pc ls st0) rest (iPost E (va_A ws H.size) wf a) (va_A ws H.size))
    (kk : ∀ (f : Nat → Nat) (H1 : Heap) (locs1 : List Loc), va_P E.1 vwCl (wf f) H1 → va_D A (wf f) → va_S A s.heap H1 locs1 → W p l e R s m args below meth c H1 locs1 (cells + mc) (slots + ms) Q (F0 m (pc + 3) ls rest)) : W p l e R s m args below meth c H locs cells slots Q (F0 m pc ls st0) := by
  have hF := va_A_sub hD hS hA
  intro T hT X
  obtain ⟨v, st₀, t, T', L, h0, X', hL, e1, e2, ⟨⟨hv, hK1, f, hP1, hD1⟩, hz, hk⟩, st⟩ := hr T hT X
  cases hv
  rw [h0] at hz hk
  obtain ⟨t2, a1, b1⟩ := kk f T'.heap (locs ++ L) (by rw [e1]; exact hP1) (hD1.weaken (fun _ _ _ h => hF _ h))
    ⟨Nat.le_trans hS.1 (by rw [e1]; exact hz), fun q h1 h2 => by rw [e1, hk q (Nat.lt_of_lt_of_le h1 hS.1) (fun z => h2 (hF q z))]; exact hS.2.1 q h1 h2, fun q hq => by
      rcases List.mem_append.mp hq with h | h
      · exact hS.2.2 q h
      · exact hF _ (hL q h)⟩ T' rfl X'
  exact ⟨t2, st t2 a1, b1⟩
theorem ap_3 {pr L : va_W} {q : Nat} {x : va_E} {Z : List (Nat × va_E)} : (pr ++ L) ++ Z = pr ++ (L ++ Z) := List.append_assoc _ _ _
/-- a maker called: it gets the new object, last of the world, and gives back what it made of it -/
theorem i_call {yM : MethodName} {b' : ByteArray} {n' k idx d' nc ns q ci : Nat} {fs As : List Value} {made : (Nat → Nat) → va_W} (ct : ∀ pr : va_W, It l E d' yM b' n' (.ref q :: As) (pr ++ [(q, .inr (ci, fs))]) (fun f => pr ++ made f) nc ns)
    (hM : cM yM b' n' none k ∧ Cond.instanceMethod yM ∈ UW) (hin : yM.name = "<init>") (hl : Cond.methodLink own idx yM ∈ UW) (hE : cEnv p s m args meth c E own b nl rt A) (hO : iAO s) (hP : va_P E.1 vwCl (pr ++ (L ++ [(q, .inr (ci, fs))])) H) (hD : va_D A (pr ++ (L ++ [(q, .inr (ci, fs))]))) (hS : va_S A s.heap H locs) (hsz : ls.size = nl) (hn : As.length = k) (hst : st0 = As.reverse ++ .ref q :: rest) (hcat : (rest.map fun v => v.category).sum ≤ 8) (hR : d' + 1 ≤ R.frames ∧ 8 + (n' + 11) + (40 * d' + 12) ≤ R.locals) (hc : cells + nc ≤ R.cells ∧ slots + ns ≤ R.slots) (hdg : decode b pc = .ok (.invokespecial idx, 3))
    (kk : ∀ (f : Nat → Nat) (H1 : Heap) (locs1 : List Loc), va_P E.1 vwCl (pr ++ (L ++ made f)) H1 → va_D A (pr ++ (L ++ made f)) → va_S A s.heap H1 locs1 → W p l e R s m args below meth c H1 locs1 (cells + nc) (slots + ns) Q (F0 m (pc + 3) ls rest)) : W p l e R s m args below meth c H locs cells slots Q (F0 m pc ls st0) := by
  obtain ⟨hx, hb, hr, hts, hown, hml, hK, hlocks, hA, hZ⟩ := id hE
  obtain ⟨⟨w1, w2, w3, w4, w5⟩, w6⟩ := hM
  rw [← List.append_assoc] at hP hD
  refine i_go hD hS hA (a := (Value.ref q :: As).toArray) (va_runI (cc := b) (nL := nl) (Ts := UW) (own := own) (bytes := b') (maxL := n') (n := k) (mc := nc) (ms := ns) ⟨hx, hb, hml, hown, hts⟩ (ct (pr ++ L) H.size) (cwI k hts (good_l (good_c w1)) rfl rfl rfl (hts _ w2) (hts _ hl) (hts _ w6) hin ⟨w3, w4, w5⟩ hR) ⟨iPre.blind, fun U hU hW => ⟨rfl, iPre_at hE hO hP hD hS U hU hW⟩⟩ rfl hn hsz hst (lv_room hcat) hdg hc) (fun f H1 L1 h1 h2 h3 => ?_)
  rw [List.append_assoc] at h1 h2
  exact kk f H1 L1 h1 h2 h3
theorem i_callN {host : String} {yM : MethodName} {b' : ByteArray} {n' k idx d' nc ns q ci : Nat} {fs As : List Value} {made : (Nat → Nat) → va_W} (ct : ∀ pr : va_W, It l E d' yM b' n' (.ref q :: As) (pr ++ [(q, .inr (ci, fs))]) (fun f => pr ++ made f) nc ns)
    (hM : cM yM b' n' none k ∧ Cond.instanceMethod yM ∈ UW) (hin : yM.name = "<init>") (hl : va_Nw (.methodLinkNest own idx yM host) s) (hE : cEnv p s m args meth c E own b nl rt A) (hO : iAO s) (hP : va_P E.1 vwCl (pr ++ (L ++ [(q, .inr (ci, fs))])) H) (hD : va_D A (pr ++ (L ++ [(q, .inr (ci, fs))]))) (hS : va_S A s.heap H locs) (hsz : ls.size = nl) (hn : As.length = k) (hst : st0 = As.reverse ++ .ref q :: rest) (hcat : (rest.map fun v => v.category).sum ≤ 8) (hR : d' + 1 ≤ R.frames ∧ 8 + (n' + 11) + (40 * d' + 12) ≤ R.locals) (hc : cells + nc ≤ R.cells ∧ slots + ns ≤ R.slots) (hdg : decode b pc = .ok (.invokespecial idx, 3))
    (kk : ∀ (f : Nat → Nat) (H1 : Heap) (locs1 : List Loc), va_P E.1 vwCl (pr ++ (L ++ made f)) H1 → va_D A (pr ++ (L ++ made f)) → va_S A s.heap H1 locs1 → W p l e R s m args below meth c H1 locs1 (cells + nc) (slots + ns) Q (F0 m (pc + 3) ls rest)) : W p l e R s m args below meth c H locs cells slots Q (F0 m pc ls st0) := by
  obtain ⟨hx, hb, hr, hts, hown, hml, hK, hlocks, hA, hZ⟩ := id hE
  obtain ⟨⟨w1, w2, w3, w4, w5⟩, w6⟩ := hM
  rw [← List.append_assoc] at hP hD
  refine i_go hD hS hA (a := (Value.ref q :: As).toArray) (va_runIN (cc := b) (nL := nl) (Ts := UW) (own := own) (host := host) (bytes := b') (maxL := n') (n := k) (mc := nc) (ms := ns) ⟨hx, hb, hml, hown, hts⟩ (ct (pr ++ L) H.size) ⟨va_cnB k hts (good_l (good_c w1)) rfl rfl rfl hl (hts _ w2) ⟨w3, w4, w5⟩ hR, hin, hts _ w6⟩ ⟨iPre.blind, fun U hU hW => ⟨rfl, iPre_at hE hO hP hD hS U hU hW⟩⟩ rfl hn hsz hst (lv_room hcat) hdg hc) (fun f H1 L1 h1 h2 h3 => ?_)
  rw [List.append_assoc] at h1 h2
  exact kk f H1 L1 h1 h2 h3
end INEW
/-- an array of references by another function, equal below its length -/
theorem va_P.cq {D : va_G} {cl : List vw_C} {ws : va_W} {H : Heap} (h : va_P D cl ws H) (k : Nat) {o n : Nat} {cA : ClassId} {f g : Nat → Option Nat} (hk : ws[k]? = some (o, .inl (cA, n, .inr (.inr (.inr (.inr f)))))) (fg : ∀ j, j < n → f j = g j) : va_P D cl (ws.set k (o, .inl (cA, n, .inr (.inr (.inr (.inr g)))))) H := by
  intro j q hj
  by_cases e : j = k
  · subst e
    rw [List.getElem?_set_self (List.getElem?_eq_some_iff.mp hk).1] at hj
    cases hj
    show H[o]? = some (vp_cell _ _)
    rw [← vp_cq fg]
    exact h _ _ hk
  · rw [List.getElem?_set_ne (Ne.symm e)] at hj
    exact h j q hj
theorem va_P.pm {D : va_G} {cl : List vw_C} {pr L L' : va_W} {H : Heap} (h : va_P D cl (pr ++ L) H) (is : List Nat) (hs : is.map (fun i => L[i]?) = L'.map some) : va_P D cl (pr ++ L') H := by
  refine va_P.app (fun k q hk => h k q ?_) (fun k q hk => ?_)
  · rw [List.getElem?_append_left (List.getElem?_eq_some_iff.mp hk).1]
    exact hk
  · have h1 : some q ∈ is.map (fun i => L[i]?) := by rw [hs]; exact List.mem_map_of_mem (List.mem_of_getElem? hk)
    obtain ⟨i, -, hi⟩ := List.mem_map.mp h1
    exact h _ q (ap_get hi)
theorem va_D.pm {A : Nat → Prop} {pr L L' : va_W} (h : va_D A (pr ++ L)) (is : List Nat) (hn : va_nd is = true) (hs : is.map (fun i => L[i]?) = L'.map some) : va_D A (pr ++ L') := by
  have hL : va_D A L := ⟨fun i j x y hi hj e => by have := h.1 _ _ x y (ap_get hi) (ap_get hj) e; omega, fun k q hk => h.2 _ q (ap_get hk)⟩
  have hL' := hL.sub is hn hs
  have key : ∀ (k : Nat) (q : Nat × va_E), (pr ++ L')[k]? = some q → (k < pr.length ∧ pr[k]? = some q) ∨ (∃ j i : Nat, k = pr.length + j ∧ L'[j]? = some q ∧ L[i]? = some q) := by
    intro k q hk
    by_cases hl : k < pr.length
    · rw [List.getElem?_append_left hl] at hk
      exact Or.inl ⟨hl, hk⟩
    · rw [List.getElem?_append_right (by omega)] at hk
      have h1 : some q ∈ is.map (fun i => L[i]?) := by rw [hs]; exact List.mem_map_of_mem (List.mem_of_getElem? hk)
      obtain ⟨i, -, hi⟩ := List.mem_map.mp h1
      exact Or.inr ⟨k - pr.length, i, by omega, hk, hi⟩
  have gl : ∀ {k : Nat} {q : Nat × va_E}, k < pr.length → pr[k]? = some q → (pr ++ L)[k]? = some q := fun hl hk => by rw [List.getElem?_append_left hl]; exact hk
  refine ⟨fun i j x y hi hj e => ?_, fun k q hk => ?_⟩
  · rcases key i x hi with ⟨h1, h2⟩ | ⟨j1, i1, h1, h2, h3⟩ <;> rcases key j y hj with ⟨g1, g2⟩ | ⟨j2, i2, g1, g2, g3⟩
    · exact h.1 i j x y (gl h1 h2) (gl g1 g2) e
    · have := h.1 i _ x y (gl h1 h2) (ap_get g3) e
      omega
    · have := h.1 _ j x y (ap_get h3) (gl g1 g2) e
      omega
    · have := hL'.1 j1 j2 x y h2 g2 e
      omega
  · rcases key k q hk with ⟨h1, h2⟩ | ⟨j1, i1, h1, h2, h3⟩
    · exact h.2 k q (gl h1 h2)
    · exact h.2 _ q (ap_get h3)
/-- a look-up whose first place is known -/
def at0 (q : Nat) (f : Nat → Nat) : Nat → Nat := fun k => if k = 0 then q else f k
theorem at0_eq {q : Nat} {a : Nat → Nat} (h : a 0 = q) : at0 q a = a := by
  funext k
  unfold at0
  split
  · rename_i z; rw [z, h]
  · rfl
theorem at0_0 (q : Nat) (f : Nat → Nat) : at0 q f 0 = q := rfl
