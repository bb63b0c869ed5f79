/-! ONE form of contract for all methods of this claim, one row for each kind of call, one for each kind of end. -/
/-- the tables' numbers: of the classes, of int[], int[][] (the last one is free) -/
abbrev zG : Type := va_G × ClassId × ClassId × ClassId
abbrev zT (G : zG) : List (ClassId × FieldType) := [(G.2.1, .int), (G.2.2.1, .array .int)]
/-- the links between nest mates, and which exception is one of itself -/
def zN : List Cond := [.methodLinkNest "JarRiddle$Row" 39 ⟨"JarRiddle", "oneIf", "(Z)I"⟩ "JarRiddle", .methodLinkNest "JarRiddle$Ways" 11 ⟨"JarRiddle$Row", "<init>", "()V"⟩ "JarRiddle", .methodLinkNest "JarRiddle$Guesser" 11 ⟨"JarRiddle$Row", "<init>", "()V"⟩ "JarRiddle", .methodLinkNest "JarRiddle" 9 ⟨"JarRiddle$Row", "<init>", "()V"⟩ "JarRiddle", .methodLinkNest "JarRiddle" 18 ⟨"JarRiddle$Ways", "<init>", "()V"⟩ "JarRiddle", .methodLinkNest "JarRiddle" 25 ⟨"JarRiddle$Guesser", "<init>", "()V"⟩ "JarRiddle", .methodLinkNest "JarRiddleLaw" 53 ⟨"JarRiddleLaw$Sim", "<init>", "()V"⟩ "JarRiddleLaw"]
def zB : List Cond := [.castable "[I" "java/lang/Cloneable", .castable "java/lang/IllegalArgumentException" "java/lang/IllegalArgumentException", .castable "java/lang/IllegalStateException" "java/lang/IllegalStateException", .castable "java/lang/IndexOutOfBoundsException" "java/lang/IndexOutOfBoundsException", .declares ⟨"java/lang/RuntimeException", "<init>", "(Ljava/lang/String;)V"⟩, .declares ⟨"java/lang/Exception", "<init>", "(Ljava/lang/String;)V"⟩, .declares ⟨"java/lang/Throwable", "<init>", "(Ljava/lang/String;)V"⟩]
/-- the messages -/
def zStr : List (Nat × String) := [(40, "a volume is 1 to 9, and that of the jar 2 may be 0"), (80, "the amount cannot be had"), (122, "the amount is there now, or cannot be had"), (149, "the jar has this volume by no candidate"), (246, "there is no such jar"), (249, "both jars are the same"), (251, "an amount is 0 to 9"), (253, "a volume is 1 to 9"), (255, "so many acts cannot be asked for")]
/-- which exception is none of which other -/
def zNc : List (String × String) := [("JarRiddle", "java/lang/IllegalStateException"), ("JarRiddle$Guesser", "java/lang/IllegalStateException"), ("JarRiddle$Row", "java/lang/IllegalStateException"), ("JarRiddle$Ways", "java/lang/IllegalStateException"), ("JarRiddleLaw$Sim", "java/lang/IllegalStateException"), ("java/lang/IllegalArgumentException", "java/lang/IllegalStateException"), ("java/lang/IndexOutOfBoundsException", "java/lang/IllegalStateException")]
theorem zN_tab : ∀ w ∈ zN, w.onTables = true := by decide +kernel
theorem zB_tab : ∀ w ∈ zB, w.onTables = true := by decide +kernel
/-- the class of int[][], its part is the class of int[] -/
def zAA (G : zG) (U : State) : Prop := (Cond.arrayOver (.array .int)).before #[] U = true ∧ U.vm.findClass "[[I" = some G.2.2.1 ∧ ∃ kA : Class, U.vm.classes[G.2.2.1]? = some kA ∧ kA.kind = .array G.2.1 (.array .int)
theorem zAA_over {U : State} {A : Array Value} (h : (Cond.arrayOver (.array .int)).before A U = true) : (Cond.arrayOver (.array .int)).before #[] U = true := h
theorem zAA_over' {U : State} {A : Array Value} (h : (Cond.arrayOver (.array .int)).before #[] U = true) : (Cond.arrayOver (.array .int)).before A U = true := h
theorem zAA.moved {G : zG} {u U : State} (hvm : u.vm.Alike U.vm) (h : zAA G u) : zAA G U := by
  obtain ⟨ho, hn, kA, hk, hki⟩ := h
  obtain ⟨comp, c, k, h1, h2, h3, h4, h5⟩ := arrayOverA_spec ho
  obtain ⟨k', hk', he⟩ := hvm.2.2 _ _ h3
  have hi : (U.vm.classes.findIdx? fun (x : Class) => match x.kind with | .array component _ => component == comp | _ => false) = some c := by
    rw [hvm.findIdx?_eq _ (fun _ => rfl)]
    exact h2
  have hkind : k'.kind = .array comp (.array .int) := by rw [he]; exact h4
  have f1 : U.vm.findClass (FieldType.array .int).toString = some comp := by rw [hvm.findClass]; exact h1
  have f2 : U.vm.findClass ("[" ++ (FieldType.array .int).toString) = some c := by rw [hvm.findClass]; exact h5
  refine ⟨?_, by rw [hvm.findClass]; exact hn, ?_⟩
  · unfold Cond.before Cond.holds
    simp only [Cond.value]
    rw [f1, Option.bind_some]
    refine (congrArg (fun o : Option Nat => (o.bind (fun c => (U.vm.classes[c]?).map fun (k : Class) => match k.kind with | .array _ ty => decide (ty = FieldType.array .int) && decide (U.vm.findClass ("[" ++ (FieldType.array .int).toString) = some c) | _ => false) == some true)) hi).trans ?_
    simp [hk', hkind, f2]
  · obtain ⟨k2, hk2, he2⟩ := hvm.2.2 _ _ hk
    exact ⟨k2, hk2, by rw [he2]; exact hki⟩
/-- what the tables say, for ever -/
def zK (G : zG) (U : State) : Prop := va_K G.1 vwCl (zT G) U ∧ (∀ w ∈ zN, va_Nw w U) ∧ (∀ q ∈ zStr, ∃ sa : Nat, vk_R "JarRiddle" q.1 q.2 sa U) ∧ (∀ w ∈ zB, va_Nw w U) ∧ (∀ q ∈ zNc, va_Nc q.1 q.2 U) ∧ zAA G U
theorem zK.warm {G : zG} {s U : State} (h : zK G s) (hW : s.WarmedH U.vm) : zK G U := by
  refine ⟨va_K.moved hW.alike h.1, fun w hw => ?_, fun q hq => ?_, fun w hw => ?_, fun q hq => va_Nc.moved hW.alike (h.2.2.2.2.1 q hq), zAA.moved hW.alike h.2.2.2.2.2⟩
  · have h2 := h.2.1 w hw
    unfold zN at hw
    rcases List.mem_cons.mp hw with rfl | hw
    · exact va_Nw.warmM hW h2
    rcases List.mem_cons.mp hw with rfl | hw
    · exact va_Nw.warmM hW h2
    rcases List.mem_cons.mp hw with rfl | hw
    · exact va_Nw.warmM hW h2
    rcases List.mem_cons.mp hw with rfl | hw
    · exact va_Nw.warmM hW h2
    rcases List.mem_cons.mp hw with rfl | hw
    · exact va_Nw.warmM hW h2
    rcases List.mem_cons.mp hw with rfl | hw
    · exact va_Nw.warmM hW h2
    rcases List.mem_cons.mp hw with rfl | hw
    · exact va_Nw.warmM hW h2
    · cases hw
  · obtain ⟨sa, h2⟩ := h.2.2.1 q hq
    exact ⟨sa, h2.warm hW⟩
  · have h2 := h.2.2.2.1 w hw
    unfold zB at hw
    rcases List.mem_cons.mp hw with rfl | hw
    · exact va_Nw.warmC hW h2
    rcases List.mem_cons.mp hw with rfl | hw
    · exact va_Nw.warmC hW h2
    rcases List.mem_cons.mp hw with rfl | hw
    · exact va_Nw.warmC hW h2
    rcases List.mem_cons.mp hw with rfl | hw
    · exact va_Nw.warmC hW h2
    rcases List.mem_cons.mp hw with rfl | hw
    · exact va_Nw.warmD hW h2
    rcases List.mem_cons.mp hw with rfl | hw
    · exact va_Nw.warmD hW h2
    rcases List.mem_cons.mp hw with rfl | hw
    · exact va_Nw.warmD hW h2
    · cases hw
theorem zK.same {G : zG} {u U : State} (h : zK G u) (e : u.vm = U.vm) : zK G U :=
  ⟨va_K.moved (by rw [e]; exact Vm.Alike.refl U.vm) h.1, fun w hw => va_Nw.same (zN_tab w hw) e (h.2.1 w hw), fun q hq => by
    obtain ⟨sa, h2⟩ := h.2.2.1 q hq
    exact ⟨sa, h2.same e.symm⟩, fun w hw => va_Nw.same (zB_tab w hw) e (h.2.2.2.1 w hw), fun q hq => va_Nc.moved (by rw [e]; exact Vm.Alike.refl U.vm) (h.2.2.2.2.1 q hq), zAA.moved (by rw [e]; exact Vm.Alike.refl U.vm) h.2.2.2.2.2⟩
theorem zK.cast {G : zG} {s : State} {args : Array Value} (h : zK G s) : ∀ w ∈ zB, w.before args s = true := fun w hw => va_Nw.use (zB_tab w hw) (h.2.2.2.1 w hw)
/-- what a method may count on: the heap's size, its cells -/
def zPre (G : zG) (sz : Nat) (wc : va_W) (U : State) : Prop := U.heap.size = sz ∧ va_P G.1 vwCl wc U.heap ∧ zK G U ∧ va_D (fun _ => True) wc
theorem zPre.blind {G : zG} {sz : Nat} {wc : va_W} {av : List Value} : FrameBlind (va_Pc av (zPre G sz wc)) :=
  fun _ _ _ _ h => ⟨h.1, h.2.1, h.2.2.1, zK.same h.2.2.2.1 rfl, h.2.2.2.2⟩
/-- what it leaves: its answer, its cells -/
def zQ {S : Type} (G : zG) (rv : Option Value) (w1 : S → va_W) (A : Nat → Prop) : Array Value → State → Outcome → State → Prop := fun _ st oc t =>
  (∃ u : S, oc = .returned rv ∧ va_P G.1 vwCl (w1 u) t.heap ∧ va_D A (w1 u)) ∧ va_F A st t
/-- THE CONTRACT: with these arguments and cells the method answers rv, and leaves the cells w1 (S: addresses that it makes) -/
def zC {S : Type} (l : Launch) (G : zG) (y : MethodName) (ws : List Cond) (rm : Room) (mc ms : Nat) (av : List Value) (wc : va_W) (rv : Option Value) (w1 : S → va_W) : Prop :=
  ∀ sz : Nat, Met l y ws rm (va_Pc av (zPre G sz wc)) (zQ G rv w1 (va_A wc sz)) mc ms (va_A wc sz)
theorem z_fm {α β : Type} {is : List α} {f : α → Option β} {ws : List β} (h : is.map f = ws.map some) : is.filterMap f = ws := by
  have h1 : is.filterMap f = (is.map f).filterMap id := by rw [List.filterMap_map]; rfl
  rw [h1, h, List.filterMap_map]
  exact List.filterMap_some
/-- a body, from its entry: all that its walk needs -/
theorem z_of {S : Type} {l : Launch} {G : zG} {y : MethodName} {ws ws' : List Cond} {rm : Room} {mc ms : Nat} {av : List Value} {wc : va_W} {rv : Option Value} {w1 : S → va_W} {cc : ByteArray} {maxL : Nat} {ret : Option FieldType} {own : String}
    (hy : plainName y.cls = true) (hown : y.cls = own) (hw : ws = Cond.code y cc maxL ret :: ws') (hlen : (lg_sl av).length ≤ maxL)
    (body : ∀ (p : Program) (e : Env) (s : State) (m : MethodId) (args : Array Value) (below : List Frame) (meth : Method) (c : Code) (A : Nat → Prop) (H : Heap) (locs : List Loc) (ls : Array Slot),
      CallFix p m c cc maxL s args ws own → meth.sig.returnType = ret → meth.locks = false → meth.name = y.name → zK G s → (∀ q : Nat, s.heap.size ≤ q → A q) → va_P G.1 vwCl wc H → va_D A wc → va_S A s.heap H locs → lv_has ls maxL (lv_args 0 av) →
      W p l e rm s m args below meth c H locs 0 0 (MQ below (zQ G rv w1 A) args s mc ms A) (F0 m 0 ls [])) : zC l G y ws rm mc ms av wc rv w1 := by
  intro sz
  refine Met.ofW (cc := cc) (maxL := maxL) (ret := ret) hy hw ?_
  intro p e s m args below meth c s₁ B hml hv
  obtain ⟨rfl, hsz, hP, hK, hD0⟩ := hv
  have hts := atoms_spec (ws := ws) B.pre
  have hownF : s.vm.findClass own = some m.cls := by rw [← hown]; exact findClass_of_methodNamed B.named
  subst hsz
  have hD := hD0.self (sz := s.heap.size)
  have hl := lv_entry av (n := maxL) hlen
  rw [lg_entry_eq]
  exact body p e s m av.toArray below meth c (va_A wc s.heap.size) s.heap [] _ ⟨B.exec, B.bytes, hml, hownF, hts⟩ B.returns B.notSynchronized (name_of_methodNamed B.named B.method).1 hK (fun q h => Or.inr h) hP hD va_S.rf hl
section ZRows
variable {p : Program} {l : Launch} {e : Env} {R : Room} {s : State} {m : MethodId} {args : Array Value} {below : List Frame} {meth : Method} {c : Code} {H : Heap} {locs : List Loc} {cells slots : Nat} {Q : State → Prop}
variable {cc bytes : ByteArray} {pc nL maxL mc ms n index : Nat} {ls : Array Slot} {rest st0 : List Value} {A : Nat → Prop} {G : zG} {own : String} {Ts ws ws' : List Cond} {y : MethodName} {ret : Option FieldType} {rm : Room}
/-- behind a call -/
theorem z_run {S : Type} {a : Array Value} {rv : Option Value} {w1 : S → va_W} {wc wr ws0 : va_W} {wj : S → va_W} (hr : va_Run p l e R s m args below meth c H locs cells slots mc ms (F0 m pc ls st0) rest (zQ G rv w1 (va_A wc H.size) a) (va_A wc H.size))
    (hP : va_P G.1 vwCl ws0 H) (hD : va_D A ws0) (hS : va_S A s.heap H locs) (hA : ∀ q : Nat, s.heap.size ≤ q → A q) (isC isR js : List Nat) (hC : isC.map (fun i => ws0[i]?) = wc.map some) (hR : isR.map (fun i => ws0[i]?) = wr.map some) (hn : va_nd isR = true) (hdis : ∀ i ∈ isR, i ∉ isC) (hnj : va_nd js = true) (hj : ∀ u : S, js.map (fun i => (wr ++ w1 u)[i]?) = (wj u).map some)
    (kk : ∀ (u : S) (H1 : Heap) (locs1 : List Loc), va_P G.1 vwCl (wj u) H1 → va_D A (wj u) → va_S A s.heap H1 locs1 → W p l e R s m args below meth c H1 locs1 (cells + mc) (slots + ms) Q (F0 m (pc + 3) ls (rv.toList ++ rest))) :
    W p l e R s m args below meth c H locs cells slots Q (F0 m pc ls st0) := by
  intro T hT X
  obtain ⟨v, st₀, t, T', L, h0, X', hL, e1, e2, ⟨⟨u, hv, hP1, hD1⟩, hz, hk⟩, st⟩ := hr T hT X
  cases hv
  rw [h0] at hz hk
  have hf := va_free hD hS hA isC hC
  rw [← e1] at hP1
  obtain ⟨hPj, hDj⟩ := va_join hP hD isC isR hC hR hn hdis (fun q h1 h2 => by rw [e1]; exact hk q h1 h2) hf hP1 hD1
  have hPj := hPj.sub js (z_fm (hj u))
  have hDj := hDj.sub js hnj (hj u)
  obtain ⟨t2, a1, b1⟩ := kk u T'.heap (locs ++ L) hPj hDj
    ⟨Nat.le_trans hS.1 (by rw [e1]; exact hz), fun q h1 h2 => by rw [e1, hk q (Nat.lt_of_lt_of_le h1 hS.1) (fun z => h2 (hf q z))]; exact hS.2.1 q h1 h2, fun q hq => by
      rcases List.mem_append.mp hq with h | h
      · exact hS.2.2 q h
      · exact hf _ (hL q h)⟩ T' rfl X'
  exact ⟨t2, st t2 a1, b1⟩
theorem z_pre {wc ws0 : va_W} {H : Heap} {sz : Nat} {av : List Value} (hsz : H.size = sz) (hK : zK G s) (hP : va_P G.1 vwCl ws0 H) (hD : va_D A ws0) (isC : List Nat) (hnC : va_nd isC = true) (hC : isC.map (fun i => ws0[i]?) = wc.map some) :
    ∀ U : State, U.heap = H → s.WarmedH U.vm → va_Pc av (zPre G sz wc) av.toArray U :=
  fun U hU hW => ⟨rfl, by rw [hU]; exact hsz, by rw [hU]; exact hP.sub isC (z_fm hC), hK.warm hW, (hD.sub isC hnC hC).weaken (fun _ _ _ _ => trivial)⟩
/-- invokevirtual -/
theorem z_callV {S : Type} {rv : Option Value} {w1 : S → va_W} {wc wr ws0 : va_W} {wj : S → va_W} {b q0 ci : Nat} {As : List Value} {fs : List Value} {q : vw_C}
    (F : CallFix p m c cc nL s args Ts own) (hM : zC l G y ws rm mc ms (.ref b :: As) wc rv w1) (hG : GoodIn Ts (wsV own index q.1 y ws)) (hw : ws = Cond.code y bytes maxL ret :: ws') (hrc : rm.cells = mc) (hrs : rm.slots = ms)
    (hd : y.cls = q.1 ∧ y.cls ≠ "java/lang/invoke/MethodHandle" ∧ y.cls ≠ "java/lang/invoke/VarHandle" ∧ (parseMethodDescriptor y.desc).map (fun d => d.parameters.length) = some n) (hR9 : rm.frames + 1 ≤ R.frames ∧ 8 + (maxL + 11) + rm.locals ≤ R.locals)
    (hn9 : As.length = n) (hst : st0 = As.reverse ++ .ref b :: rest) (hW : (rest.map fun v => v.category).sum ≤ 8) (hdg : decode cc pc = .ok (.invokevirtual index, 3)) (hf9 : cells + mc ≤ R.cells ∧ slots + ms ≤ R.slots)
    (hK : zK G s) (hP : va_P G.1 vwCl ws0 H) (hD : va_D A ws0) (hS : va_S A s.heap H locs) (hA : ∀ q : Nat, s.heap.size ≤ q → A q) (hls : ls.size = nL) (hc : vwCl[ci]? = some q) (he : ws0[q0]? = some (b, .inr (ci, fs)))
    (isC isR js : List Nat) (hnC : va_nd isC = true) (hC : isC.map (fun i => ws0[i]?) = wc.map some) (hR : isR.map (fun i => ws0[i]?) = wr.map some) (hn : va_nd isR = true) (hdis : ∀ i ∈ isR, i ∉ isC) (hnj : va_nd js = true) (hj : ∀ u : S, js.map (fun i => (wr ++ w1 u)[i]?) = (wj u).map some)
    (kk : ∀ (u : S) (H1 : Heap) (locs1 : List Loc), va_P G.1 vwCl (wj u) H1 → va_D A (wj u) → va_S A s.heap H1 locs1 → W p l e R s m args below meth c H1 locs1 (cells + mc) (slots + ms) Q (F0 m (pc + 3) ls (rv.toList ++ rest))) :
    W p l e R s m args below meth c H locs cells slots Q (F0 m pc ls st0) :=
  z_run (va_runV (As := As) (rest := rest) F (hM H.size) (cwV n F.2.2.2.2 hG hw hrc hrs hd hR9) ⟨zPre.blind, va_recv hK.1 hP hc he, z_pre rfl hK hP hD isC hnC hC⟩ rfl hn9 hls hst (lv_room hW) hdg hf9) hP hD hS hA isC isR js hC hR hn hdis hnj hj kk
/-- invokestatic -/
theorem z_callS {S : Type} {rv : Option Value} {w1 : S → va_W} {wc wr ws0 : va_W} {wj : S → va_W} {As : List Value}
    (F : CallFix p m c cc nL s args Ts own) (hM : zC l G y ws rm mc ms As wc rv w1) (hG : GoodIn Ts (wsS own index y ws)) (hw : ws = Cond.code y bytes maxL ret :: ws') (hrc : rm.cells = mc) (hrs : rm.slots = ms)
    (hd : y.cls = own ∧ y.cls ≠ "java/lang/invoke/MethodHandle" ∧ y.cls ≠ "java/lang/invoke/VarHandle" ∧ (parseMethodDescriptor y.desc).map (fun d => d.parameters.length) = some n) (hR9 : rm.frames + 1 ≤ R.frames ∧ 8 + (maxL + 11) + rm.locals ≤ R.locals)
    (hn9 : As.length = n) (hst : st0 = As.reverse ++ rest) (hW : (rest.map fun v => v.category).sum ≤ 8) (hdg : decode cc pc = .ok (.invokestatic index, 3)) (hf9 : cells + mc ≤ R.cells ∧ slots + ms ≤ R.slots)
    (hK : zK G s) (hP : va_P G.1 vwCl ws0 H) (hD : va_D A ws0) (hS : va_S A s.heap H locs) (hA : ∀ q : Nat, s.heap.size ≤ q → A q) (hls : ls.size = nL)
    (isC isR js : List Nat) (hnC : va_nd isC = true) (hC : isC.map (fun i => ws0[i]?) = wc.map some) (hR : isR.map (fun i => ws0[i]?) = wr.map some) (hn : va_nd isR = true) (hdis : ∀ i ∈ isR, i ∉ isC) (hnj : va_nd js = true) (hj : ∀ u : S, js.map (fun i => (wr ++ w1 u)[i]?) = (wj u).map some)
    (kk : ∀ (u : S) (H1 : Heap) (locs1 : List Loc), va_P G.1 vwCl (wj u) H1 → va_D A (wj u) → va_S A s.heap H1 locs1 → W p l e R s m args below meth c H1 locs1 (cells + mc) (slots + ms) Q (F0 m (pc + 3) ls (rv.toList ++ rest))) :
    W p l e R s m args below meth c H locs cells slots Q (F0 m pc ls st0) :=
  z_run (va_runS (As := As) (rest := rest) F (hM H.size) (cwS n F.2.2.2.2 hG hw hrc hrs hd hR9) ⟨zPre.blind, z_pre rfl hK hP hD isC hnC hC⟩ rfl hn9 hls hst (lv_room hW) hdg hf9) hP hD hS hA isC isR js hC hR hn hdis hnj hj kk
/-- invokestatic of another class's static method (its words with the class's own initialised) -/
theorem z_callSX {S : Type} {rv : Option Value} {w1 : S → va_W} {wc wr ws0 : va_W} {wj : S → va_W} {As : List Value}
    (F : CallFix p m c cc nL s args Ts own) (hM : zC l G y ws rm mc ms As wc rv w1) (hG : GoodIn Ts (va_wsS own index y ws)) (hw : ws = Cond.code y bytes maxL ret :: ws') (hrc : rm.cells = mc) (hrs : rm.slots = ms)
    (hd : y.cls ≠ "java/lang/invoke/MethodHandle" ∧ y.cls ≠ "java/lang/invoke/VarHandle" ∧ (parseMethodDescriptor y.desc).map (fun d => d.parameters.length) = some n) (hR9 : rm.frames + 1 ≤ R.frames ∧ 8 + (maxL + 11) + rm.locals ≤ R.locals)
    (hn9 : As.length = n) (hst : st0 = As.reverse ++ rest) (hW : (rest.map fun v => v.category).sum ≤ 8) (hdg : decode cc pc = .ok (.invokestatic index, 3)) (hf9 : cells + mc ≤ R.cells ∧ slots + ms ≤ R.slots)
    (hK : zK G s) (hP : va_P G.1 vwCl ws0 H) (hD : va_D A ws0) (hS : va_S A s.heap H locs) (hA : ∀ q : Nat, s.heap.size ≤ q → A q) (hls : ls.size = nL)
    (isC isR js : List Nat) (hnC : va_nd isC = true) (hC : isC.map (fun i => ws0[i]?) = wc.map some) (hR : isR.map (fun i => ws0[i]?) = wr.map some) (hn : va_nd isR = true) (hdis : ∀ i ∈ isR, i ∉ isC) (hnj : va_nd js = true) (hj : ∀ u : S, js.map (fun i => (wr ++ w1 u)[i]?) = (wj u).map some)
    (kk : ∀ (u : S) (H1 : Heap) (locs1 : List Loc), va_P G.1 vwCl (wj u) H1 → va_D A (wj u) → va_S A s.heap H1 locs1 → W p l e R s m args below meth c H1 locs1 (cells + mc) (slots + ms) Q (F0 m (pc + 3) ls (rv.toList ++ rest))) :
    W p l e R s m args below meth c H locs cells slots Q (F0 m pc ls st0) := by
  have ok : ∀ w ∈ va_wsS own index y ws, w.before args s = true := fun w h => F.2.2.2.2 w (hG w h).1
  refine z_run (va_runS (As := As) (rest := rest) F (hM H.size) ⟨callB_of n F.2.2.2.2 (fun w h => hG w (by unfold va_wsS; exact List.mem_append_right _ h)) hw hrc hrs (ok _ (by simp [va_wsS])) (ok _ (by simp [va_wsS])) hd hR9, ok _ (by simp [va_wsS])⟩ ⟨zPre.blind, z_pre rfl hK hP hD isC hnC hC⟩ rfl hn9 hls hst (lv_room hW) hdg hf9) hP hD hS hA isC isR js hC hR hn hdis hnj hj kk
/-- invokestatic of a nest mate's private method -/
theorem z_callSN {S : Type} {host : String} {rv : Option Value} {w1 : S → va_W} {wc wr ws0 : va_W} {wj : S → va_W} {As : List Value}
    (F : CallFix p m c cc nL s args Ts own) (hM : zC l G y ws rm mc ms As wc rv w1) (hG : GoodIn Ts ws) (hl9 : va_Nw (.methodLinkNest own index y host) s) (hini : (Cond.initialized y.cls).before args s = true) (hst9 : (Cond.static y).before args s = true) (hw : ws = Cond.code y bytes maxL ret :: ws') (hrc : rm.cells = mc) (hrs : rm.slots = ms)
    (hd : y.cls ≠ "java/lang/invoke/MethodHandle" ∧ y.cls ≠ "java/lang/invoke/VarHandle" ∧ (parseMethodDescriptor y.desc).map (fun d => d.parameters.length) = some n) (hR9 : rm.frames + 1 ≤ R.frames ∧ 8 + (maxL + 11) + rm.locals ≤ R.locals)
    (hn9 : As.length = n) (hst : st0 = As.reverse ++ rest) (hW : (rest.map fun v => v.category).sum ≤ 8) (hdg : decode cc pc = .ok (.invokestatic index, 3)) (hf9 : cells + mc ≤ R.cells ∧ slots + ms ≤ R.slots)
    (hK : zK G s) (hP : va_P G.1 vwCl ws0 H) (hD : va_D A ws0) (hS : va_S A s.heap H locs) (hA : ∀ q : Nat, s.heap.size ≤ q → A q) (hls : ls.size = nL)
    (isC isR js : List Nat) (hnC : va_nd isC = true) (hC : isC.map (fun i => ws0[i]?) = wc.map some) (hR : isR.map (fun i => ws0[i]?) = wr.map some) (hn : va_nd isR = true) (hdis : ∀ i ∈ isR, i ∉ isC) (hnj : va_nd js = true) (hj : ∀ u : S, js.map (fun i => (wr ++ w1 u)[i]?) = (wj u).map some)
    (kk : ∀ (u : S) (H1 : Heap) (locs1 : List Loc), va_P G.1 vwCl (wj u) H1 → va_D A (wj u) → va_S A s.heap H1 locs1 → W p l e R s m args below meth c H1 locs1 (cells + mc) (slots + ms) Q (F0 m (pc + 3) ls (rv.toList ++ rest))) :
    W p l e R s m args below meth c H locs cells slots Q (F0 m pc ls st0) :=
  z_run (va_runSN (As := As) (rest := rest) F (hM H.size) ⟨va_cnB n F.2.2.2.2 hG hw hrc hrs hl9 hini hd hR9, hst9, trivial⟩ ⟨zPre.blind, z_pre rfl hK hP hD isC hnC hC⟩ rfl hn9 hls hst (lv_room hW) hdg hf9) hP hD hS hA isC isR js hC hR hn hdis hnj hj kk
section ZEnds
variable {S : Type} {rv : Option Value} {w1 : S → va_W} {ws0 : va_W}
theorem z_post (hP : va_P G.1 vwCl ws0 H) (hD : va_D A ws0) (hS : va_S A s.heap H locs) (u : S) (is : List Nat) (hnd : va_nd is = true) (hs : is.map (fun i => ws0[i]?) = (w1 u).map some) {v : Option Value} (hrv : rv = v) : ∀ t : State, t.heap = H → s.WarmedH t.vm → zQ G rv w1 A args s (.returned v) t :=
  fun t ht _ => ⟨⟨u, by rw [hrv], by rw [ht]; exact hP.sub is (z_fm hs), hD.sub is hnd hs⟩, hS.F ht⟩
theorem z_iret (F : CallFix p m c cc nL s args Ts own) (hr : meth.sig.returnType = some .int) (hlocks : meth.locks = false) (hP : va_P G.1 vwCl ws0 H) (hD : va_D A ws0) (hS : va_S A s.heap H locs) (u : S) (is : List Nat) (hnd : va_nd is = true) (hs : is.map (fun i => ws0[i]?) = (w1 u).map some) {v : Int32} (hrv : rv = some (.int v)) (hdg : decode cc pc = .ok (.ireturn, 1)) :
    W p l e R s m args below meth c H locs cells slots (MQ below (zQ G rv w1 A) args s cells slots A) (F0 m pc ls [.int v]) :=
  W.iret F.1 F.2.1 hr (z_post hP hD hS u is hnd hs hrv) hS.2.2 hdg hlocks
theorem z_zret (F : CallFix p m c cc nL s args Ts own) (hr : meth.sig.returnType = some .boolean) (hlocks : meth.locks = false) (hP : va_P G.1 vwCl ws0 H) (hD : va_D A ws0) (hS : va_S A s.heap H locs) (u : S) (is : List Nat) (hnd : va_nd is = true) (hs : is.map (fun i => ws0[i]?) = (w1 u).map some) {v : Int32} (hrv : rv = some (.int v)) (hv : narrow .boolean (.int v) = .int v) (hdg : decode cc pc = .ok (.ireturn, 1)) :
    W p l e R s m args below meth c H locs cells slots (MQ below (zQ G rv w1 A) args s cells slots A) (F0 m pc ls [.int v]) :=
  W.zret F.1 F.2.1 hr hv (z_post hP hD hS u is hnd hs hrv) hS.2.2 hdg hlocks
theorem z_vret (F : CallFix p m c cc nL s args Ts own) (hr : meth.sig.returnType = none) (hlocks : meth.locks = false) (hP : va_P G.1 vwCl ws0 H) (hD : va_D A ws0) (hS : va_S A s.heap H locs) (u : S) (is : List Nat) (hnd : va_nd is = true) (hs : is.map (fun i => ws0[i]?) = (w1 u).map some) (hrv : rv = none) (hdg : decode cc pc = .ok (.return_, 1)) :
    W p l e R s m args below meth c H locs cells slots (MQ below (zQ G rv w1 A) args s cells slots A) (F0 m pc ls []) :=
  W.vret F.1 F.2.1 hr (z_post hP hD hS u is hnd hs hrv) hS.2.2 hdg hlocks
theorem z_lret (F : CallFix p m c cc nL s args Ts own) (hr : meth.sig.returnType = some .long) (hlocks : meth.locks = false) (hP : va_P G.1 vwCl ws0 H) (hD : va_D A ws0) (hS : va_S A s.heap H locs) (u : S) (is : List Nat) (hnd : va_nd is = true) (hs : is.map (fun i => ws0[i]?) = (w1 u).map some) {v : Int64} (hrv : rv = some (.long v)) (hdg : decode cc pc = .ok (.lreturn, 1)) :
    W p l e R s m args below meth c H locs cells slots (MQ below (zQ G rv w1 A) args s cells slots A) (F0 m pc ls [.long v]) :=
  W.lret F.1 F.2.1 hr (z_post hP hD hS u is hnd hs hrv) hS.2.2 hdg hlocks
theorem z_dret (F : CallFix p m c cc nL s args Ts own) (hr : meth.sig.returnType = some .double) (hlocks : meth.locks = false) (hP : va_P G.1 vwCl ws0 H) (hD : va_D A ws0) (hS : va_S A s.heap H locs) (u : S) (is : List Nat) (hnd : va_nd is = true) (hs : is.map (fun i => ws0[i]?) = (w1 u).map some) {v : UInt64} (hrv : rv = some (.double v)) (hdg : decode cc pc = .ok (.dreturn, 1)) :
    W p l e R s m args below meth c H locs cells slots (MQ below (zQ G rv w1 A) args s cells slots A) (F0 m pc ls [.double v]) :=
  W.dret F.1 F.2.1 hr (z_post hP hD hS u is hnd hs hrv) hS.2.2 hdg hlocks
theorem z_aret {cn : String} (F : CallFix p m c cc nL s args Ts own) (hr : meth.sig.returnType = some (.object cn)) (hlocks : meth.locks = false) (hP : va_P G.1 vwCl ws0 H) (hD : va_D A ws0) (hS : va_S A s.heap H locs) (u : S) (is : List Nat) (hnd : va_nd is = true) (hs : is.map (fun i => ws0[i]?) = (w1 u).map some) {v : Nat} (hrv : rv = some (.ref v)) (hdg : decode cc pc = .ok (.areturn, 1)) :
    W p l e R s m args below meth c H locs cells slots (MQ below (zQ G rv w1 A) args s cells slots A) (F0 m pc ls [.ref v]) :=
  W.aret F.1 F.2.1 hr (Or.inl ⟨cn, rfl⟩) (Or.inr ⟨v, rfl⟩) (z_post hP hD hS u is hnd hs hrv) hS.2.2 hdg hlocks
end ZEnds
end ZRows
/-- a number that is a boolean -/
def zb (x : Int32) : Prop := x = 0 ∨ x = 1
theorem zb_nar {x : Int32} (h : zb x) : narrow .boolean (.int x) = .int x := by
  rcases h with rfl | rfl <;> rfl
theorem zk_cl (x : Int32) : x.toNatClampNeg < 2 ^ 31 := by
  have h1 : x.toNatClampNeg = x.toInt.toNat := rfl
  have h2 := x.toInt_lt
  omega
theorem zk_lt {k N : Nat} {B : Int32} (hk : k < 2 ^ 31) (hB : B.toNatClampNeg = N) (h : ¬ B ≤ nI k) : k < N := by
  rcases Nat.lt_or_ge k N with q | q
  · exact q
  · refine absurd ?_ h
    have h1 : (B.toInt : Int) ≤ (k : Int) := by
      have h2 : B.toInt.toNat = N := hB
      omega
    exact Int32.le_iff_toInt_le.mpr (by rw [nI_toInt hk]; exact h1)
theorem zk_le {k N : Nat} {B : Int32} (hk : k < 2 ^ 31) (hB : B.toNatClampNeg = N) (h0 : ¬ B < nI k) (h1 : 0 ≤ B.toInt) : k ≤ N := by
  rcases Nat.lt_or_ge N k with q | q
  · refine absurd ?_ h0
    have h2 : B.toInt.toNat = N := hB
    exact Int32.lt_iff_toInt_lt.mpr (by rw [nI_toInt hk]; omega)
  · exact q
theorem zk_in {i B : Int32} {N : Nat} (hB : B.toInt = N) (h0 : ¬ i < 0) (h1 : ¬ B ≤ i) : vp_in i N := by
  rw [vp_in_iff]
  constructor
  · have h2 : ¬ i.toInt < (0 : Int32).toInt := fun h => h0 (Int32.lt_iff_toInt_lt.mpr h)
    have e : (0 : Int32).toInt = 0 := rfl
    omega
  · have h2 : ¬ B.toInt ≤ i.toInt := fun h => h1 (Int32.le_iff_toInt_le.mpr h)
    omega
theorem zk_vp {k N : Nat} (hk : k < 2 ^ 31) (h : vp_in (nI k) N) : k < N := by
  have h1 := (vp_in_iff.mp h).2
  rw [nI_toInt hk] at h1
  omega
theorem zb_or {x y : Int32} (h : zb x) (h2 : zb y) : zb (x ||| y) := by
  rcases h with rfl | rfl <;> rcases h2 with rfl | rfl
  · exact Or.inl rfl
  · exact Or.inr rfl
  · exact Or.inr rfl
  · exact Or.inr rfl
