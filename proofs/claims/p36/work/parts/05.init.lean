/-! Calls of constructors. -/
section ZI
variable {p : Program} {l : Launch} {e : Env} {R : Room} {s : State} {m : MethodId} {args : Array Value} {below : List Frame} {meth : Method} {c : Code} {H : Heap} {locs : List Loc} {cells slots : Nat} {Q : State → Prop}
variable {cc bytes : ByteArray} {pc nL maxL mc ms n index : Nat} {ls : Array Slot} {rest st0 : List Value} {A : Nat → Prop} {G : zG} {own : String} {Ts ws ws' : List Cond} {y : MethodName} {rm : Room}
/-- invokespecial of a constructor that is the class's own or public -/
theorem z_callI {S : Type} {w1 : S → va_W} {wc wr ws0 : va_W} {wj : S → va_W} {b : Nat} {As : List Value}
    (F : CallFix p m c cc nL s args Ts own) (hM : zC l G y ws rm mc ms (.ref b :: As) wc none w1) (hG : GoodIn Ts ws) (hini : (Cond.initialized y.cls).before args s = true) (hl9 : (Cond.methodLink own index y).before args s = true) (hin9 : (Cond.instanceMethod y).before args s = true) (hy1 : y.name = "<init>") (hw : ws = Cond.code y bytes maxL none :: ws') (hrc : rm.cells = mc) (hrs : rm.slots = ms)
    (hd : y.cls ≠ "java/lang/invoke/MethodHandle" ∧ y.cls ≠ "java/lang/invoke/VarHandle" ∧ (parseMethodDescriptor y.desc).map (fun d => d.parameters.length) = some n) (hR9 : rm.frames + 1 ≤ R.frames ∧ 8 + (maxL + 11) + rm.locals ≤ R.locals)
    (hn9 : As.length = n) (hst : st0 = As.reverse ++ .ref b :: rest) (hW : (rest.map fun v => v.category).sum ≤ 8) (hdg : decode cc pc = .ok (.invokespecial index, 3)) (hf9 : cells + mc ≤ R.cells ∧ slots + ms ≤ R.slots)
    (hK : zK G s) (hP : va_P G.1 vwCl ws0 H) (hD : va_D A ws0) (hS : va_S A s.heap H locs) (hA : ∀ q : Nat, s.heap.size ≤ q → A q) (hls : ls.size = nL)
    (isC isR js : List Nat) (hnC : va_nd isC = true) (hC : isC.map (fun i => ws0[i]?) = wc.map some) (hR : isR.map (fun i => ws0[i]?) = wr.map some) (hn : va_nd isR = true) (hdis : ∀ i ∈ isR, i ∉ isC) (hnj : va_nd js = true) (hj : ∀ u : S, js.map (fun i => (wr ++ w1 u)[i]?) = (wj u).map some)
    (kk : ∀ (u : S) (H1 : Heap) (locs1 : List Loc), va_P G.1 vwCl (wj u) H1 → va_D A (wj u) → va_S A s.heap H1 locs1 → W p l e R s m args below meth c H1 locs1 (cells + mc) (slots + ms) Q (F0 m (pc + 3) ls rest)) :
    W p l e R s m args below meth c H locs cells slots Q (F0 m pc ls st0) :=
  z_run (rv := none) (va_runI (As := As) (rest := rest) F (hM H.size) ⟨callB_of n F.2.2.2.2 hG hw hrc hrs hini hl9 hd hR9, hy1, hin9⟩ ⟨zPre.blind, z_pre rfl hK hP hD isC hnC hC⟩ rfl hn9 hls hst (lv_room hW) hdg hf9) hP hD hS hA isC isR js hC hR hn hdis hnj hj kk
/-- invokespecial of a nest mate's private constructor -/
theorem z_callIN {S : Type} {host : String} {w1 : S → va_W} {wc wr ws0 : va_W} {wj : S → va_W} {b : Nat} {As : List Value}
    (F : CallFix p m c cc nL s args Ts own) (hM : zC l G y ws rm mc ms (.ref b :: As) wc none w1) (hG : GoodIn Ts ws) (hini : (Cond.initialized y.cls).before args s = true) (hl9 : va_Nw (.methodLinkNest own index y host) s) (hin9 : (Cond.instanceMethod y).before args s = true) (hy1 : y.name = "<init>") (hw : ws = Cond.code y bytes maxL none :: ws') (hrc : rm.cells = mc) (hrs : rm.slots = ms)
    (hd : y.cls ≠ "java/lang/invoke/MethodHandle" ∧ y.cls ≠ "java/lang/invoke/VarHandle" ∧ (parseMethodDescriptor y.desc).map (fun d => d.parameters.length) = some n) (hR9 : rm.frames + 1 ≤ R.frames ∧ 8 + (maxL + 11) + rm.locals ≤ R.locals)
    (hn9 : As.length = n) (hst : st0 = As.reverse ++ .ref b :: rest) (hW : (rest.map fun v => v.category).sum ≤ 8) (hdg : decode cc pc = .ok (.invokespecial index, 3)) (hf9 : cells + mc ≤ R.cells ∧ slots + ms ≤ R.slots)
    (hK : zK G s) (hP : va_P G.1 vwCl ws0 H) (hD : va_D A ws0) (hS : va_S A s.heap H locs) (hA : ∀ q : Nat, s.heap.size ≤ q → A q) (hls : ls.size = nL)
    (isC isR js : List Nat) (hnC : va_nd isC = true) (hC : isC.map (fun i => ws0[i]?) = wc.map some) (hR : isR.map (fun i => ws0[i]?) = wr.map some) (hn : va_nd isR = true) (hdis : ∀ i ∈ isR, i ∉ isC) (hnj : va_nd js = true) (hj : ∀ u : S, js.map (fun i => (wr ++ w1 u)[i]?) = (wj u).map some)
    (kk : ∀ (u : S) (H1 : Heap) (locs1 : List Loc), va_P G.1 vwCl (wj u) H1 → va_D A (wj u) → va_S A s.heap H1 locs1 → W p l e R s m args below meth c H1 locs1 (cells + mc) (slots + ms) Q (F0 m (pc + 3) ls rest)) :
    W p l e R s m args below meth c H locs cells slots Q (F0 m pc ls st0) :=
  z_run (rv := none) (va_runIN (As := As) (rest := rest) F (hM H.size) ⟨va_cnB n F.2.2.2.2 hG hw hrc hrs hl9 hini hd hR9, hy1, hin9⟩ ⟨zPre.blind, z_pre rfl hK hP hD isC hnC hC⟩ rfl hn9 hls hst (lv_room hW) hdg hf9) hP hD hS hA isC isR js hC hR hn hdis hnj hj kk
end ZI
theorem z_newI {G : zG} {s : State} {cA : ClassId} (hK : zK G s) (h : va_K G.1 vwCl (zT G ++ [(cA, FieldType.int)]) s) : cA = G.2.1 :=
  Option.some.inj ((va_nm_int (h.2 2 _ rfl).2).symm.trans (va_nm_int (hK.1.2 0 _ rfl).2))
