/-! The law's helpers: methods with a table of their own that always return. -/
/-- as zC, for a method that catches -/
def zCW {S : Type} (l : Launch) (G : zG) (y : MethodName) (ws : List Cond) (rm : Room) (mc ms : Nat) (av : List Value) (wc : va_W) (rv : Option Value) (w1 : S → va_W) : Prop :=
  ∀ sz : Nat, Met l y ws rm (va_Pc av (zPreX G sz wc)) (zQ G rv w1 (va_A wc sz)) mc ms (va_A wc sz)
theorem z_ofT {S : Type} {l : Launch} {G : zG} {y : MethodName} {ws ws' : List Cond} {rm : Room} {mc ms : Nat} {av : List Value} {wc : va_W} {rv : Option Value} {w1 : S → va_W} {cc : ByteArray} {maxL : Nat} {ret : Option FieldType} {own : String} {hh : List (Nat × Nat × Nat × Nat)}
    (hy : plainName y.cls = true) (hown : y.cls = own) (hw : ws = Cond.codeWith y cc maxL ret hh :: ws') (hlen : (lg_sl av).length ≤ maxL)
    (body : ∀ (p : Program) (e : Env) (s : State) (m : MethodId) (args : Array Value) (below : List Frame) (meth : Method) (c : Code) (A : Nat → Prop) (H : Heap) (locs : List Loc) (ls : Array Slot),
      CallFix p m c cc maxL s args ws own → meth.sig.returnType = ret → meth.locks = false → c.exceptionTable.toList = tableOf hh → zK G s → zZ A s s.heap → (∀ q : Nat, s.heap.size ≤ q → A q) → va_P G.1 vwCl wc H → va_D A wc → va_S A s.heap H locs → lv_has ls maxL (lv_args 0 av) →
      W p l e rm s m args below meth c H locs 0 0 (MQ below (zQ G rv w1 A) args s mc ms A) (F0 m 0 ls [])) : zCW l G y ws rm mc ms av wc rv w1 := by
  intro sz
  refine MetFree.of_bodyS (code := cc) (maxLocals := maxL) (ret := ret) hy ?_ ?_
  · intro args s m h hn
    obtain ⟨m9, meth, c, hn9, h1, h2, h3, h4, -, h5, h6, -⟩ := Cond.codeWith_spec (atoms_spec (ws := ws) h _ (by rw [hw]; exact List.mem_cons_self))
    cases hn.symm.trans hn9
    exact ⟨meth, c, h1, h2, h3, h4, h5, h6⟩
  · intro p e s m args below meth c s₁ B hml hv _
    have hh0 : s₁.heap = s.heap := by rw [B.state]; rfl
    obtain ⟨rfl, ⟨hsz, hP, hK, hD0⟩, hZ⟩ := hv
    have hts := atoms_spec (ws := ws) B.pre
    have hownF : s.vm.findClass own = some m.cls := by rw [← hown]; exact findClass_of_methodNamed B.named
    subst hsz
    have hD := hD0.self (sz := s.heap.size)
    have hl := lv_entry av (n := maxL) hlen
    have htab := vx_table (x := y) B (hts _ (by rw [hw]; exact List.mem_cons_self))
    have K := body p e s m av.toArray below meth c (va_A wc s.heap.size) s.heap [] _ ⟨B.exec, B.bytes, hml, hownF, hts⟩ B.returns B.notSynchronized htab hK hZ (fun q h => Or.inr h) hP hD va_S.rf hl
    rw [← lg_entry_eq] at K
    obtain ⟨t, a1, o, b1, b2, b3⟩ := K s₁ hh0 (Stand.of_body B)
    exact ⟨t, o, a1, b1, b2, ⟨b3.1, b3.2⟩⟩
section ZW
variable {p : Program} {l : Launch} {e : Env} {R : Room} {s : State} {m : MethodId} {args : Array Value} {below : List Frame} {meth : Method} {c : Code} {H : Heap} {locs : List Loc} {cells slots : Nat} {Q : State → Prop}
variable {cc bytes : ByteArray} {pc nL maxL mc ms n index : Nat} {ls : Array Slot} {rest st0 : List Value} {A : Nat → Prop} {G : zG} {own : String} {Ts ws ws' : List Cond} {y : MethodName} {ret : Option FieldType} {rm : Room} {E : String}
/-- a call of a helper -/
theorem z_callSW {S : Type} {rv : Option Value} {w1 : S → va_W} {wc wr ws0 : va_W} {wj : S → va_W} {As : List Value} {hh : List (Nat × Nat × Nat × Nat)}
    (F : CallFix p m c cc nL s args Ts own) (hM : zCW l G y ws rm mc ms As wc rv w1) (hG : GoodIn Ts (va_wsS own index y ws)) (hw : ws = Cond.codeWith y bytes maxL ret hh :: ws') (hrc : rm.cells = mc) (hrs : rm.slots = ms)
    (hd : y.cls ≠ "java/lang/invoke/MethodHandle" ∧ y.cls ≠ "java/lang/invoke/VarHandle" ∧ (parseMethodDescriptor y.desc).map (fun d => d.parameters.length) = some n) (hR9 : rm.frames + 1 ≤ R.frames ∧ 8 + (maxL + 11) + rm.locals ≤ R.locals)
    (hn9 : As.length = n) (hst : st0 = As.reverse ++ rest) (hW : (rest.map fun v => v.category).sum ≤ 8) (hdg : decode cc pc = .ok (.invokestatic index, 3)) (hf9 : cells + mc ≤ R.cells ∧ slots + ms ≤ R.slots)
    (hK : zK G s) (hZ : zZ A s s.heap) (hP : va_P G.1 vwCl ws0 H) (hD : va_D A ws0) (hS : va_S A s.heap H locs) (hA : ∀ q : Nat, s.heap.size ≤ q → A q) (hls : ls.size = nL)
    (isC isR js : List Nat) (hnC : va_nd isC = true) (hC : isC.map (fun i => ws0[i]?) = wc.map some) (hR : isR.map (fun i => ws0[i]?) = wr.map some) (hn : va_nd isR = true) (hdis : ∀ i ∈ isR, i ∉ isC) (hnj : va_nd js = true) (hj : ∀ u : S, js.map (fun i => (wr ++ w1 u)[i]?) = (wj u).map some)
    (kk : ∀ (u : S) (H1 : Heap) (locs1 : List Loc), va_P G.1 vwCl (wj u) H1 → va_D A (wj u) → va_S A s.heap H1 locs1 → W p l e R s m args below meth c H1 locs1 (cells + mc) (slots + ms) Q (F0 m (pc + 3) ls (rv.toList ++ rest))) :
    W p l e R s m args below meth c H locs cells slots Q (F0 m pc ls st0) :=
  z_run (vx_runSW (As := As) (rest := rest) F (hM H.size) (vx_cwSW n F.2.2.2.2 hG hw hrc hrs hd hR9) ⟨zPreX.blind, z_preX rfl hK hZ hP hD hS hA isC hnC hC⟩ rfl hn9 hls hst (lv_room hW) hdg hf9) hP hD hS hA isC isR js hC hR hn hdis hnj hj kk
end ZW
