/-! What leaves a method by a throw: the contract zX, its rows. -/
/-- the two statics that a throw reads -/
def zZ (A : Nat → Prop) (U : State) (H : Heap) : Prop := vx_Zq Bundle.tN "UNASSIGNED_STACK" Bundle.steD A U H ∧ vx_Zq Bundle.tN "SUPPRESSED_SENTINEL" Bundle.listD A U H
theorem zZ.call {A B : Nat → Prop} {s U : State} {H : Heap} {locs : List Loc} (h : zZ A s s.heap) (hS : va_S A s.heap H locs) (hf : ∀ q, B q → A q) (hU : U.heap = H) (hW : s.vm.Alike U.vm) : zZ B U U.heap := by
  rw [hU]
  exact ⟨((h.1.kept hS.2.1).narrow hf).moved hW, ((h.2.kept hS.2.1).narrow hf).moved hW⟩
def zPreX (G : zG) (sz : Nat) (wc : va_W) (U : State) : Prop := zPre G sz wc U ∧ zZ (va_A wc sz) U U.heap
theorem zPreX.blind {G : zG} {sz : Nat} {wc : va_W} {av : List Value} : FrameBlind (va_Pc av (zPreX G sz wc)) :=
  fun _ U _ _ h => ⟨h.1, ⟨h.2.1.1, h.2.1.2.1, zK.same h.2.1.2.2.1 rfl, h.2.1.2.2.2⟩, ⟨vx_Zq.moved (u := U) (Vm.Alike.refl U.vm) h.2.2.1, vx_Zq.moved (u := U) (Vm.Alike.refl U.vm) h.2.2.2⟩⟩
def zXB (G : zG) (E : String) (w1 : va_W) (A : Nat → Prop) : String → Unit → State → Prop := fun E' _ t => E' = E ∧ va_P G.1 vwCl w1 t.heap ∧ va_D A w1
/-- THE CONTRACT of a call that throws: E, with the cells w1 behind it -/
def zX (l : Launch) (G : zG) (y : MethodName) (ws : List Cond) (rm : Room) (mc ms : Nat) (av : List Value) (wc : va_W) (E : String) (w1 : va_W) : Prop :=
  ∀ sz : Nat, vx_Met l y ws rm (va_Pc av (zPreX G sz wc)) (fun _ _ _ _ => False) (vx_X (fun _ : Unit => True) (zXB G E w1 (va_A wc sz)) (va_A wc sz)) mc ms (va_A wc sz)
abbrev zMX (G : zG) (below : List Frame) (E : String) (w1 : va_W) (A : Nat → Prop) (args : Array Value) (s : State) (mc ms : Nat) : State → Prop :=
  vx_MQ below (fun _ _ _ _ => False) (vx_X (fun _ : Unit => True) (zXB G E w1 A) A) args s mc ms A
theorem z_ofX {l : Launch} {G : zG} {y : MethodName} {ws ws' : List Cond} {rm : Room} {mc ms : Nat} {av : List Value} {wc : va_W} {E : String} {w1 : va_W} {cc : ByteArray} {maxL : Nat} {ret : Option FieldType} {own : String}
    (hy : plainName y.cls = true) (hown : y.cls = own) (hw : ws = Cond.code y cc maxL ret :: ws') (hlen : (lg_sl av).length ≤ maxL)
    (body : ∀ (p : Program) (e : Env) (s : State) (m : MethodId) (args : Array Value) (below : List Frame) (meth : Method) (c : Code) (A : Nat → Prop) (H : Heap) (locs : List Loc) (ls : Array Slot),
      CallFix p m c cc maxL s args ws own → meth.sig.returnType = ret → meth.locks = false → (∀ x ∈ c.exceptionTable.toList, False) → zK G s → zZ A s s.heap → (∀ q : Nat, s.heap.size ≤ q → A q) → va_P G.1 vwCl wc H → va_D A wc → va_S A s.heap H locs → lv_has ls maxL (lv_args 0 av) →
      W p l e rm s m args below meth c H locs 0 0 (zMX G below E w1 A args s mc ms) (F0 m 0 ls [])) : zX l G y ws rm mc ms av wc E w1 := by
  intro sz
  refine vx_ofW (cc := cc) (maxL := maxL) (ret := ret) hy hw ?_
  intro p e s m args below meth c s₁ B hml ht hv
  obtain ⟨rfl, ⟨hsz, hP, hK, hD0⟩, hZ⟩ := hv
  have hts := atoms_spec (ws := ws) B.pre
  have hownF : s.vm.findClass own = some m.cls := by rw [← hown]; exact findClass_of_methodNamed B.named
  subst hsz
  have hD := hD0.self (sz := s.heap.size)
  have hl := lv_entry av (n := maxL) hlen
  rw [lg_entry_eq]
  exact body p e s m av.toArray below meth c (va_A wc s.heap.size) s.heap [] _ ⟨B.exec, B.bytes, hml, hownF, hts⟩ B.returns B.notSynchronized ht hK hZ (fun q h => Or.inr h) hP hD va_S.rf hl
section ZX
variable {p : Program} {l : Launch} {e : Env} {R : Room} {s : State} {m : MethodId} {args : Array Value} {below : List Frame} {meth : Method} {c : Code} {H : Heap} {locs : List Loc} {cells slots : Nat} {Q : State → Prop}
variable {cc bytes : ByteArray} {pc nL maxL mc ms n index : Nat} {ls : Array Slot} {rest st0 : List Value} {A : Nat → Prop} {G : zG} {own : String} {Ts ws ws' : List Cond} {y : MethodName} {ret : Option FieldType} {rm : Room} {E : String}
/-- behind a call that threw -/
theorem z_runX {w1 wc wr ws0 wj : va_W} (hr : vx_Run p l e R s m args below meth c H locs cells slots mc ms (F0 m pc ls st0) rest (fun _ _ _ => False) (vx_X (fun _ : Unit => True) (zXB G E w1 (va_A wc H.size)) (va_A wc H.size)) (va_A wc H.size))
    (hP : va_P G.1 vwCl ws0 H) (hD : va_D A ws0) (hS : va_S A s.heap H locs) (hA : ∀ q : Nat, s.heap.size ≤ q → A q) (isC isR js : List Nat) (hC : isC.map (fun i => ws0[i]?) = wc.map some) (hR : isR.map (fun i => ws0[i]?) = wr.map some) (hn : va_nd isR = true) (hdis : ∀ i ∈ isR, i ∉ isC) (hnj : va_nd js = true) (hj : js.map (fun i => (wr ++ w1)[i]?) = wj.map some)
    (kx : ∀ (ce : Cell) (q9 : Addr) (H1 : Heap) (locs1 : List Loc), va_P G.1 vwCl wj H1 → va_D A wj → va_S A s.heap H1 locs1 → H1[q9]? = some ce → ce.vm = .none → s.vm.findClass E = some ce.cls → vx_W p l e R s m args below meth c H1 locs1 (cells + mc) (slots + ms) Q (F0 m pc ls rest) q9) :
    W p l e R s m args below meth c H locs cells slots Q (F0 m pc ls st0) := by
  intro T hT X
  rcases hr T hT X with ⟨v, st₀, t, T', L, h0, X', hL, e1, e2, hq, st⟩ | ⟨q, st₀, t, T', L, E9, ce, h0, X', hL, e1, e2, ⟨u, -, ⟨rfl, hP1, hD1⟩, hF⟩, hce, hcv, hcl, st⟩
  · exact hq.elim
  · have hf := va_free hD hS hA isC hC
    obtain ⟨k1, k2, k3⟩ := vx_keep h0 e1 hS (fun q _ h => hf q h) hf hL hF
    rw [← e1] at hP1
    obtain ⟨hPj, hDj⟩ := va_join hP hD isC isR hC hR hn hdis k2 hf hP1 hD1
    obtain ⟨t2, a1, b1⟩ := kx ce q T'.heap (locs ++ L) (hPj.sub js (z_fm hj)) (hDj.sub js hnj hj) k3 (by rw [e1]; exact hce) hcv hcl T' rfl X'
    exact ⟨t2, st.trans a1, b1⟩
theorem z_preX {wc ws0 : va_W} {H : Heap} {sz : Nat} {av : List Value} (hsz : H.size = sz) (hK : zK G s) (hZ : zZ A s s.heap) (hP : va_P G.1 vwCl ws0 H) (hD : va_D A ws0) (hS : va_S A s.heap H locs) (hA : ∀ q : Nat, s.heap.size ≤ q → A q) (isC : List Nat) (hnC : va_nd isC = true) (hC : isC.map (fun i => ws0[i]?) = wc.map some) :
    ∀ U : State, U.heap = H → s.WarmedH U.vm → va_Pc av (zPreX G sz wc) av.toArray U := by
  subst hsz
  exact fun U hU hW => ⟨rfl, (z_pre rfl hK hP hD isC hnC hC U hU hW : va_Pc av _ _ _).2, hZ.call hS (va_free hD hS hA isC hC) hU hW.alike⟩
/-- invokevirtual of what throws; not caught here -/
theorem z_callVX {w1 wc wr ws0 wj : va_W} {b q0 ci : Nat} {As : List Value} {fs : List Value} {q : vw_C}
    (F : CallFix p m c cc nL s args Ts own) (hM : zX l G y ws rm mc ms (.ref b :: As) wc E w1) (hG : GoodIn Ts (wsV own index q.1 y ws)) (hw : ws = Cond.code y bytes maxL ret :: ws') (hrc : rm.cells = mc) (hrs : rm.slots = ms)
    (hd : y.cls = q.1 ∧ y.cls ≠ "java/lang/invoke/MethodHandle" ∧ y.cls ≠ "java/lang/invoke/VarHandle" ∧ (parseMethodDescriptor y.desc).map (fun d => d.parameters.length) = some n) (hR9 : rm.frames + 1 ≤ R.frames ∧ 8 + (maxL + 11) + rm.locals ≤ R.locals)
    (hn9 : As.length = n) (hst : st0 = As.reverse ++ .ref b :: rest) (hW : (rest.map fun v => v.category).sum ≤ 8) (hdg : decode cc pc = .ok (.invokevirtual index, 3)) (hf9 : cells + mc ≤ R.cells ∧ slots + ms ≤ R.slots)
    (hK : zK G s) (hZ : zZ A s s.heap) (hP : va_P G.1 vwCl ws0 H) (hD : va_D A ws0) (hS : va_S A s.heap H locs) (hA : ∀ q : Nat, s.heap.size ≤ q → A q) (hls : ls.size = nL) (hc : vwCl[ci]? = some q) (he : ws0[q0]? = some (b, .inr (ci, fs)))
    (isC isR js : List Nat) (hnC : va_nd isC = true) (hC : isC.map (fun i => ws0[i]?) = wc.map some) (hR : isR.map (fun i => ws0[i]?) = wr.map some) (hn : va_nd isR = true) (hdis : ∀ i ∈ isR, i ∉ isC) (hnj : va_nd js = true) (hj : js.map (fun i => (wr ++ w1)[i]?) = wj.map some)
    (kx : ∀ (ce : Cell) (q9 : Addr) (H1 : Heap) (locs1 : List Loc), va_P G.1 vwCl wj H1 → va_D A wj → va_S A s.heap H1 locs1 → H1[q9]? = some ce → ce.vm = .none → s.vm.findClass E = some ce.cls → vx_W p l e R s m args below meth c H1 locs1 (cells + mc) (slots + ms) Q (F0 m pc ls rest) q9) :
    W p l e R s m args below meth c H locs cells slots Q (F0 m pc ls st0) :=
  z_runX (vx_runV (As := As) (rest := rest) F (hM H.size) (cwV n F.2.2.2.2 hG hw hrc hrs hd hR9) ⟨zPreX.blind, va_recv hK.1 hP hc he, z_preX rfl hK hZ hP hD hS hA isC hnC hC⟩ rfl hn9 hls hst (lv_room hW) hdg hf9) hP hD hS hA isC isR js hC hR hn hdis hnj hj kx
/-- invokestatic of what throws -/
theorem z_callSX' {w1 wc wr ws0 wj : va_W} {As : List Value}
    (F : CallFix p m c cc nL s args Ts own) (hM : zX l G y ws rm mc ms As wc E w1) (hG : GoodIn Ts (va_wsS own index y ws)) (hw : ws = Cond.code y bytes maxL ret :: ws') (hrc : rm.cells = mc) (hrs : rm.slots = ms)
    (hd : y.cls ≠ "java/lang/invoke/MethodHandle" ∧ y.cls ≠ "java/lang/invoke/VarHandle" ∧ (parseMethodDescriptor y.desc).map (fun d => d.parameters.length) = some n) (hR9 : rm.frames + 1 ≤ R.frames ∧ 8 + (maxL + 11) + rm.locals ≤ R.locals)
    (hn9 : As.length = n) (hst : st0 = As.reverse ++ rest) (hW : (rest.map fun v => v.category).sum ≤ 8) (hdg : decode cc pc = .ok (.invokestatic index, 3)) (hf9 : cells + mc ≤ R.cells ∧ slots + ms ≤ R.slots)
    (hK : zK G s) (hZ : zZ A s s.heap) (hP : va_P G.1 vwCl ws0 H) (hD : va_D A ws0) (hS : va_S A s.heap H locs) (hA : ∀ q : Nat, s.heap.size ≤ q → A q) (hls : ls.size = nL)
    (isC isR js : List Nat) (hnC : va_nd isC = true) (hC : isC.map (fun i => ws0[i]?) = wc.map some) (hR : isR.map (fun i => ws0[i]?) = wr.map some) (hn : va_nd isR = true) (hdis : ∀ i ∈ isR, i ∉ isC) (hnj : va_nd js = true) (hj : js.map (fun i => (wr ++ w1)[i]?) = wj.map some)
    (kx : ∀ (ce : Cell) (q9 : Addr) (H1 : Heap) (locs1 : List Loc), va_P G.1 vwCl wj H1 → va_D A wj → va_S A s.heap H1 locs1 → H1[q9]? = some ce → ce.vm = .none → s.vm.findClass E = some ce.cls → vx_W p l e R s m args below meth c H1 locs1 (cells + mc) (slots + ms) Q (F0 m pc ls rest) q9) :
    W p l e R s m args below meth c H locs cells slots Q (F0 m pc ls st0) := by
  have ok : ∀ w ∈ va_wsS own index y ws, w.before args s = true := fun w h => F.2.2.2.2 w (hG w h).1
  exact z_runX (vx_runS (As := As) (rest := rest) F (hM H.size) ⟨callB_of n F.2.2.2.2 (fun w h => hG w (by unfold va_wsS; exact List.mem_append_right _ h)) hw hrc hrs (ok _ (by simp [va_wsS])) (ok _ (by simp [va_wsS])) hd hR9, ok _ (by simp [va_wsS])⟩ ⟨zPreX.blind, z_preX rfl hK hZ hP hD hS hA isC hnC hC⟩ rfl hn9 hls hst (lv_room hW) hdg hf9) hP hD hS hA isC isR js hC hR hn hdis hnj hj kx
/-- what is thrown goes on to the caller -/
theorem z_out {ws0 w1 : va_W} {ce : Cell} {q9 : Addr} (ht9 : ∀ x ∈ c.exceptionTable.toList, False) (hlocks : meth.locks = false) (hP : va_P G.1 vwCl ws0 H) (hD : va_D A ws0) (hS : va_S A s.heap H locs) (hce : H[q9]? = some ce) (hcv : ce.vm = .none) (hcl : s.vm.findClass E = some ce.cls) (is : List Nat) (hnd : va_nd is = true) (hs : is.map (fun i => ws0[i]?) = w1.map some) (hc : cells ≤ mc) (hs9 : slots ≤ ms) :
    vx_W p l e R s m args below meth c H locs cells slots (zMX G below E w1 A args s mc ms) (F0 m pc ls rest) q9 :=
  vx_out (fun x hx => (ht9 x hx).elim) hlocks hce hcv hcl (fun t ht _ => ⟨(), trivial, ⟨rfl, by rw [ht]; exact hP.sub is (z_fm hs), hD.sub is hnd hs⟩, hS.F ht⟩) hS.2.2 hc hs9
/-- new E("..") thrown -/
theorem z_throw {ws0 : va_W} {cls text : String} {ik is ic : Nat} {locs : List Loc}
    (F : CallFix p m c cc nL s args Ts own) (hst : l.stackTraces = false) (ht9 : ∀ x ∈ c.exceptionTable.toList, False) (hlocks : meth.locks = false) (hZ : zZ A s s.heap) (hP : va_P G.1 vwCl ws0 H) (hD : va_D A ws0) (hS : va_S A s.heap H locs) (hfit : Bundle.fit cls = true)
    (hk : (Cond.classLink own ik cls).before args s = true) (hini : (Cond.initialized cls).before args s = true) (hstr : ∃ sa : Nat, vk_R own is text sa s) (hat : ∀ w ∈ vx_atS own ic cls ["java/lang/RuntimeException", "java/lang/Exception"], w.before args s = true)
    (hgood : ∀ w ∈ Cond.classLink own ik cls :: Cond.initialized cls :: vx_atS own ic cls ["java/lang/RuntimeException", "java/lang/Exception"], vx_ot w = true) (hls : ls.size = nL)
    (h1 : 6 ≤ R.frames) (h2 : (rest.map fun v => v.category).sum + 82 ≤ R.locals) (h3 : cells + 1 ≤ R.cells) (h4 : slots + 6 ≤ R.slots) (h5 : cells + 1 ≤ mc) (h6 : slots + 6 ≤ ms)
    (d0 : decode cc pc = .ok (.new ik, 3)) (d3 : decode cc (pc + 3) = .ok (.dup, 1)) (d4 : decode cc (pc + 4) = .ok (.ldc is, 2)) (d6 : decode cc (pc + 6) = .ok (.invokespecial ic, 3)) (d9 : decode cc (pc + 9) = .ok (.athrow, 1)) :
    W p l e R s m args below meth c H locs cells slots (zMX G below cls ws0 A args s mc ms) (F0 m pc ls rest) := by
  obtain ⟨sa, hstr⟩ := hstr
  refine vx_throwS (names := ["java/lang/RuntimeException", "java/lang/Exception"]) F.1 F.2.1 hst F.2.2.2.1 hfit (by decide) hk hini hstr hat hgood hZ.1 hZ.2 hS (hls.trans F.2.2.1.symm) d0 d3 d4 d6 d9 (fun x hx => (ht9 x hx).elim) (Nat.lt_of_succ_le h1) h2 h3 h4 hlocks ?_ hS.2.2 h5 h6
  intro t ht hz hk9
  refine ⟨(), trivial, ⟨rfl, hP.kept (fun k q hq => hk9 q.1 (hP k q hq).lt), hD⟩, Nat.le_trans hS.1 hz, fun q h1 h2 => ?_⟩
  rw [hk9 q (Nat.lt_of_lt_of_le h1 hS.1)]
  exact hS.2.1 q h1 h2
theorem z_throwW {ws0 : va_W} {cls text : String} {ik is ic : Nat} {locs : List Loc}
    (F : CallFix p m c cc nL s args Ts own) (hst : l.stackTraces = false) (ht9 : ∀ x ∈ c.exceptionTable.toList, False) (hlocks : meth.locks = false) (hZ : zZ A s s.heap) (hP : va_P G.1 vwCl ws0 H) (hD : va_D A ws0) (hS : va_S A s.heap H locs) (hfit : Bundle.fit cls = true)
    (hk : (Cond.classLink own ik cls).before args s = true) (hini : (Cond.initialized cls).before args s = true) (hstr : ∃ sa : Nat, vk_R own is text sa s) (hat : ∀ w ∈ vx_atS own ic cls ["java/lang/RuntimeException", "java/lang/Exception"], w.before args s = true)
    (hgood : ∀ w ∈ Cond.classLink own ik cls :: Cond.initialized cls :: vx_atS own ic cls ["java/lang/RuntimeException", "java/lang/Exception"], vx_ot w = true) (hls : ls.size = nL)
    (h1 : 6 ≤ R.frames) (h2 : (rest.map fun v => v.category).sum + 82 ≤ R.locals) (h3 : cells + 1 ≤ R.cells) (h4 : slots + 6 ≤ R.slots) (h5 : cells + 1 ≤ mc) (h6 : slots + 6 ≤ ms)
    (d0 : decode cc pc = .ok (.new ik, 3)) (d3 : decode cc (pc + 3) = .ok (.dup, 1)) (d4 : decode cc (pc + 4) = .ok (.ldc_w is, 3)) (d7 : decode cc (pc + 7) = .ok (.invokespecial ic, 3)) (d10 : decode cc (pc + 10) = .ok (.athrow, 1)) :
    W p l e R s m args below meth c H locs cells slots (zMX G below cls ws0 A args s mc ms) (F0 m pc ls rest) := by
  obtain ⟨sa, hstr⟩ := hstr
  refine vx_throwSW (names := ["java/lang/RuntimeException", "java/lang/Exception"]) F.1 F.2.1 hst F.2.2.2.1 hfit (by decide) hk hini hstr hat hgood hZ.1 hZ.2 hS (hls.trans F.2.2.1.symm) d0 d3 d4 d7 d10 (fun x hx => (ht9 x hx).elim) (Nat.lt_of_succ_le h1) h2 h3 h4 hlocks ?_ hS.2.2 h5 h6
  intro t ht hz hk9
  refine ⟨(), trivial, ⟨rfl, hP.kept (fun k q hq => hk9 q.1 (hP k q hq).lt), hD⟩, Nat.le_trans hS.1 hz, fun q h1 h2 => ?_⟩
  rw [hk9 q (Nat.lt_of_lt_of_le h1 hS.1)]
  exact hS.2.1 q h1 h2
end ZX
