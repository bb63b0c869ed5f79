/-! the frame rule over worlds of any length; contracts whose answer is made anew; arrays of int[] -/
theorem zj_mem {D : va_G} {cl : List vw_C} {ws : va_W} {H : Heap} : va_P D cl ws H ↔ ∀ q ∈ ws, va_at D cl q H := by
  constructor
  · intro h q hq
    obtain ⟨k, hk⟩ := List.getElem?_of_mem hq
    exact h k q hk
  · intro h k q hk
    exact h q (List.mem_of_getElem? hk)
theorem zj_D {A : Nat → Prop} {ws : va_W} : va_D A ws ↔ (ws.map Prod.fst).Nodup ∧ ∀ q ∈ ws, A q.1 := by
  constructor
  · intro h
    refine ⟨?_, fun q hq => ?_⟩
    · rw [List.Nodup, List.pairwise_iff_getElem]
      intro i j hi hj hij e
      rw [List.length_map] at hi hj
      rw [List.getElem_map, List.getElem_map] at e
      have := h.1 i j _ _ (List.getElem?_eq_getElem hi) (List.getElem?_eq_getElem hj) e
      omega
    · obtain ⟨k, hk⟩ := List.getElem?_of_mem hq
      exact h.2 k q hk
  · rintro ⟨h1, h2⟩
    refine ⟨fun i j p q hp hq e => ?_, fun k q hk => h2 q (List.mem_of_getElem? hk)⟩
    rw [List.Nodup, List.pairwise_iff_getElem] at h1
    obtain ⟨hi, e1⟩ := List.getElem?_eq_some_iff.mp hp
    obtain ⟨hj, e2⟩ := List.getElem?_eq_some_iff.mp hq
    rcases Nat.lt_trichotomy i j with z | z | z
    · exact absurd (by rw [List.getElem_map, List.getElem_map, e1, e2]; exact e) (h1 i j (by rw [List.length_map]; exact hi) (by rw [List.length_map]; exact hj) z)
    · exact z
    · exact absurd (by rw [List.getElem_map, List.getElem_map, e1, e2]; exact e.symm) (h1 j i (by rw [List.length_map]; exact hj) (by rw [List.length_map]; exact hi) z)
theorem va_P.perm {D : va_G} {cl : List vw_C} {ws ws' : va_W} {H : Heap} (h : va_P D cl ws H) (p : ws.Perm ws') : va_P D cl ws' H := zj_mem.mpr fun q hq => zj_mem.mp h q (p.mem_iff.mpr hq)
theorem va_D.perm {A : Nat → Prop} {ws ws' : va_W} (h : va_D A ws) (p : ws.Perm ws') : va_D A ws' := by
  have h1 := zj_D.mp h
  exact zj_D.mpr ⟨(p.map Prod.fst).nodup_iff.mp h1.1, fun q hq => h1.2 q (p.mem_iff.mpr hq)⟩
theorem va_P.subl {D : va_G} {cl : List vw_C} {ws ws' : va_W} {H : Heap} (h : va_P D cl ws H) (p : ws'.Sublist ws) : va_P D cl ws' H := zj_mem.mpr fun q hq => zj_mem.mp h q (p.subset hq)
theorem va_D.subl {A : Nat → Prop} {ws ws' : va_W} (h : va_D A ws) (p : ws'.Sublist ws) : va_D A ws' := by
  have h1 := zj_D.mp h
  exact zj_D.mpr ⟨(h1.1).sublist (p.map Prod.fst), fun q hq => h1.2 q (p.subset hq)⟩
theorem zj_appL {α : Type} {wc wr : List α} {k : Nat} {q : α} (h : wr[k]? = some q) : (wc ++ wr)[wc.length + k]? = some q := by
  rw [List.getElem?_append_right (by omega), Nat.add_sub_cancel_left]; exact h
theorem zj_appR {α : Type} {wc wr : List α} {k : Nat} {q : α} (h : wc[k]? = some q) : (wc ++ wr)[k]? = some q := by
  rw [List.getElem?_append_left (List.getElem?_eq_some_iff.mp h).1]; exact h
/-- behind a call: the callee's cells stand first -/
theorem zj_join {A0 : Nat → Prop} {D : va_G} {cl : List vw_C} {wc wr w1 : va_W} {H H1 : Heap} (hP : va_P D cl (wc ++ wr) H) (hD : va_D A0 (wc ++ wr))
    (hk : ∀ q : Nat, q < H.size → ¬ va_A wc H.size q → H1[q]? = H[q]?) (hF : ∀ q, va_A wc H.size q → A0 q) (hP1 : va_P D cl w1 H1) (hD1 : va_D (va_A wc H.size) w1) : va_P D cl (w1 ++ wr) H1 ∧ va_D A0 (w1 ++ wr) := by
  have apart : ∀ (k : Nat) (q : Nat × va_E), wr[k]? = some q → q.1 < H.size ∧ ¬ va_A wc H.size q.1 := by
    intro k q hq
    have h2 := zj_appL (wc := wc) hq
    have hl := (hP _ q h2).lt
    refine ⟨hl, fun h => ?_⟩
    rcases h with ⟨k2, e, h⟩ | h
    · have h4 := zj_appR (wr := wr) h
      have hij := hD.1 _ k2 q (q.1, e) h2 h4 rfl
      have := (List.getElem?_eq_some_iff.mp h).1
      omega
    · omega
  refine ⟨va_P.app hP1 (fun k q hq => ?_), va_D.app (hD1.weaken (fun k q _ h => hF q.1 h)) (hD.subl (List.sublist_append_right wc wr)) (fun i j x y hx hy hxy => ?_)⟩
  · obtain ⟨g1, g2⟩ := apart k q hq
    exact (hP _ q (zj_appL hq)).kept (hk q.1 g1 g2)
  · exact (apart j y hy).2 (by rw [← hxy]; exact hD1.2 i x hx)
/-- what it leaves, its answer of what it made -/
def zQr {S : Type} (G : zG) (rv : S → Option Value) (w1 : S → va_W) (A : Nat → Prop) : Array Value → State → Outcome → State → Prop := fun _ st oc t =>
  (∃ u : S, oc = .returned (rv u) ∧ va_P G.1 vwCl (w1 u) t.heap ∧ va_D A (w1 u)) ∧ va_F A st t
def zCr {S : Type} (l : Launch) (G : zG) (y : MethodName) (ws : List Cond) (rm : Room) (mc ms : Nat) (av : List Value) (wc : va_W) (rv : S → Option Value) (w1 : S → va_W) : Prop :=
  ∀ sz : Nat, Met l y ws rm (va_Pc av (zPre G sz wc)) (zQr G rv w1 (va_A wc sz)) mc ms (va_A wc sz)
def zCWr {S : Type} (l : Launch) (G : zG) (y : MethodName) (ws : List Cond) (rm : Room) (mc ms : Nat) (av : List Value) (wc : va_W) (rv : S → Option Value) (w1 : S → va_W) : Prop :=
  ∀ sz : Nat, Met l y ws rm (va_Pc av (zPreX G sz wc)) (zQr G rv w1 (va_A wc sz)) mc ms (va_A wc sz)
theorem zC.r {S : Type} {l : Launch} {G : zG} {y : MethodName} {ws : List Cond} {rm : Room} {mc ms : Nat} {av : List Value} {wc : va_W} {rv : Option Value} {w1 : S → va_W} (h : zC l G y ws rm mc ms av wc rv w1) : zCr l G y ws rm mc ms av wc (fun _ => rv) w1 := h
theorem zCr.to {S S' : Type} {l : Launch} {G : zG} {y : MethodName} {ws : List Cond} {rm : Room} {mc ms : Nat} {av : List Value} {wc : va_W} {rv : S → Option Value} {rv' : S' → Option Value} {w : S → va_W} {w1 : S' → va_W} (h : zCr l G y ws rm mc ms av wc rv w) (hw : ∀ u, ∃ u', rv u = rv' u' ∧ w u = w1 u') : zCr l G y ws rm mc ms av wc rv' w1 := by
  intro sz p e ha hc hk s m args below hf hap hP hK
  obtain ⟨n, o, h1, h2, h3, ⟨⟨⟨u, hu, hP1, hD1⟩, hF⟩, hL⟩⟩ := h sz p e ha hc hk s m args below hf hap hP hK
  obtain ⟨u', hu1, hu2⟩ := hw u
  rw [hu2] at hP1 hD1
  rw [hu1] at hu
  exact ⟨n, o, h1, h2, h3, ⟨⟨⟨u', hu, hP1, hD1⟩, hF⟩, hL⟩⟩
theorem z_ofr {S : Type} {l : Launch} {G : zG} {y : MethodName} {ws ws' : List Cond} {rm : Room} {mc ms : Nat} {av : List Value} {wc : va_W} {rv : S → Option Value} {w1 : S → va_W} {cc : ByteArray} {maxL : Nat} {ret : Option FieldType} {own : String}
    (hy : plainName y.cls = true) (hown : y.cls = own) (hw : ws = Cond.code y cc maxL ret :: ws') (hlen : (lg_sl av).length ≤ maxL)
    (body : ∀ (p : Program) (e : Env) (s : State) (m : MethodId) (args : Array Value) (below : List Frame) (meth : Method) (c : Code) (A : Nat → Prop) (H : Heap) (locs : List Loc) (ls : Array Slot),
      CallFix p m c cc maxL s args ws own → meth.sig.returnType = ret → meth.locks = false → meth.name = y.name → zK G s → (∀ q : Nat, s.heap.size ≤ q → A q) → va_P G.1 vwCl wc H → va_D A wc → va_S A s.heap H locs → lv_has ls maxL (lv_args 0 av) →
      W p l e rm s m args below meth c H locs 0 0 (MQ below (zQr G rv w1 A) args s mc ms A) (F0 m 0 ls [])) : zCr l G y ws rm mc ms av wc rv w1 := by
  intro sz
  refine Met.ofW (cc := cc) (maxL := maxL) (ret := ret) hy hw ?_
  intro p e s m args below meth c s₁ B hml hv
  obtain ⟨rfl, hsz, hP, hK, hD0⟩ := hv
  have hts := atoms_spec (ws := ws) B.pre
  have hownF : s.vm.findClass own = some m.cls := by rw [← hown]; exact findClass_of_methodNamed B.named
  subst hsz
  have hD := hD0.self (sz := s.heap.size)
  have hl := lv_entry av (n := maxL) hlen
  rw [lg_entry_eq]
  exact body p e s m av.toArray below meth c (va_A wc s.heap.size) s.heap [] _ ⟨B.exec, B.bytes, hml, hownF, hts⟩ B.returns B.notSynchronized (name_of_methodNamed B.named B.method).1 hK (fun q h => Or.inr h) hP hD va_S.rf hl
theorem zj_assign (vm : Vm) (c : ClassId) : vm.assignable c c = true := by
  show vm.assignableAux (255 + 1) c c = true
  rw [Vm.assignableAux, Bool.or_eq_true, beq_iff_eq]
  exact Or.inl rfl
section ZRP
variable {p : Program} {l : Launch} {e : Env} {R : Room} {s : State} {m : MethodId} {args : Array Value} {below : List Frame} {meth : Method} {c : Code} {H : Heap} {locs : List Loc} {cells slots : Nat} {Q : State → Prop}
variable {cc bytes : ByteArray} {pc nL maxL mc ms n index : Nat} {ls : Array Slot} {rest st0 : List Value} {A : Nat → Prop} {G : zG} {own : String} {Ts ws ws' : List Cond} {y : MethodName} {ret : Option FieldType} {rm : Room}
theorem zp_free {wc wr : va_W} (hD : va_D A (wc ++ wr)) (hS : va_S A s.heap H locs) (hA : ∀ q : Nat, s.heap.size ≤ q → A q) : ∀ q, va_A wc H.size q → A q := by
  intro q h
  rcases h with ⟨k, e, h⟩ | h
  · exact hD.2 k (q, e) (zj_appR h)
  · exact hA q (Nat.le_trans hS.1 h)
/-- behind a call -/
theorem zp_run {S : Type} {a : Array Value} {rv : S → Option Value} {w1 : S → va_W} {wc wr ws0 : va_W} (hr : va_Run p l e R s m args below meth c H locs cells slots mc ms (F0 m pc ls st0) rest (zQr G rv w1 (va_A wc H.size) a) (va_A wc H.size))
    (hP : va_P G.1 vwCl ws0 H) (hD : va_D A ws0) (hS : va_S A s.heap H locs) (hA : ∀ q : Nat, s.heap.size ≤ q → A q) (hp : ws0.Perm (wc ++ wr))
    (kk : ∀ (u : S) (H1 : Heap) (locs1 : List Loc), va_P G.1 vwCl (w1 u ++ wr) H1 → va_D A (w1 u ++ wr) → va_S A s.heap H1 locs1 → W p l e R s m args below meth c H1 locs1 (cells + mc) (slots + ms) Q (F0 m (pc + 3) ls ((rv u).toList ++ rest))) :
    W p l e R s m args below meth c H locs cells slots Q (F0 m pc ls st0) := by
  intro T hT X
  obtain ⟨v, st₀, t, T', L, h0, X', hL, e1, e2, ⟨⟨u, hv, hP1, hD1⟩, hz, hk⟩, st⟩ := hr T hT X
  cases hv
  rw [h0] at hz hk
  have hP := hP.perm hp
  have hD := hD.perm hp
  have hf := zp_free hD hS hA
  rw [← e1] at hP1
  obtain ⟨hPj, hDj⟩ := zj_join hP hD (fun q h1 h2 => by rw [e1]; exact hk q h1 h2) hf hP1 hD1
  obtain ⟨t2, a1, b1⟩ := kk u T'.heap (locs ++ L) hPj hDj
    ⟨Nat.le_trans hS.1 (by rw [e1]; exact hz), fun q h1 h2 => by rw [e1, hk q (Nat.lt_of_lt_of_le h1 hS.1) (fun z => h2 (hf q z))]; exact hS.2.1 q h1 h2, fun q hq => by
      rcases List.mem_append.mp hq with h | h
      · exact hS.2.2 q h
      · exact hf _ (hL q h)⟩ T' rfl X'
  exact ⟨t2, st t2 a1, b1⟩
theorem zp_pre {wc wr ws0 : va_W} {av : List Value} {sz : Nat} (hsz : H.size = sz) (hK : zK G s) (hP : va_P G.1 vwCl ws0 H) (hD : va_D A ws0) (hp : ws0.Perm (wc ++ wr)) :
    ∀ U : State, U.heap = H → s.WarmedH U.vm → va_Pc av (zPre G sz wc) av.toArray U :=
  fun U hU hW => ⟨rfl, by rw [hU]; exact hsz, by rw [hU]; exact (hP.perm hp).subl (List.sublist_append_left wc wr), hK.warm hW, ((hD.perm hp).subl (List.sublist_append_left wc wr)).weaken (fun _ _ _ _ => trivial)⟩
theorem zp_preX {wc wr ws0 : va_W} {av : List Value} {sz : Nat} (hsz : H.size = sz) (hK : zK G s) (hZ : zZ A s s.heap) (hP : va_P G.1 vwCl ws0 H) (hD : va_D A ws0) (hS : va_S A s.heap H locs) (hA : ∀ q : Nat, s.heap.size ≤ q → A q) (hp : ws0.Perm (wc ++ wr)) :
    ∀ U : State, U.heap = H → s.WarmedH U.vm → va_Pc av (zPreX G sz wc) av.toArray U := by
  subst hsz
  exact fun U hU hW => ⟨rfl, (zp_pre rfl hK hP hD hp U hU hW : va_Pc av _ _ _).2, hZ.call hS (zp_free (hD.perm hp) hS hA) hU hW.alike⟩
/-- invokevirtual -/
theorem zr_V {S : Type} {rv : S → Option Value} {w1 : S → va_W} {wc wr ws0 : va_W} {b q0 ci : Nat} {As : List Value} {fs : List Value} {q : vw_C}
    (F : CallFix p m c cc nL s args Ts own) (hM : zCr l G y ws rm mc ms (.ref b :: As) wc rv w1) (hG : GoodIn Ts (wsV own index q.1 y ws)) (hw : ws = Cond.code y bytes maxL ret :: ws') (hrc : rm.cells = mc) (hrs : rm.slots = ms)
    (hd : y.cls = q.1 ∧ y.cls ≠ "java/lang/invoke/MethodHandle" ∧ y.cls ≠ "java/lang/invoke/VarHandle" ∧ (parseMethodDescriptor y.desc).map (fun d => d.parameters.length) = some n) (hR9 : rm.frames + 1 ≤ R.frames ∧ 8 + (maxL + 11) + rm.locals ≤ R.locals)
    (hn9 : As.length = n) (hst : st0 = As.reverse ++ .ref b :: rest) (hW : (rest.map fun v => v.category).sum ≤ 8) (hdg : decode cc pc = .ok (.invokevirtual index, 3)) (hf9 : cells + mc ≤ R.cells ∧ slots + ms ≤ R.slots)
    (hK : zK G s) (hP : va_P G.1 vwCl ws0 H) (hD : va_D A ws0) (hS : va_S A s.heap H locs) (hA : ∀ q : Nat, s.heap.size ≤ q → A q) (hls : ls.size = nL) (hc : vwCl[ci]? = some q) (he : ws0[q0]? = some (b, .inr (ci, fs))) (hp : ws0.Perm (wc ++ wr))
    (kk : ∀ (u : S) (H1 : Heap) (locs1 : List Loc), va_P G.1 vwCl (w1 u ++ wr) H1 → va_D A (w1 u ++ wr) → va_S A s.heap H1 locs1 → W p l e R s m args below meth c H1 locs1 (cells + mc) (slots + ms) Q (F0 m (pc + 3) ls ((rv u).toList ++ rest))) :
    W p l e R s m args below meth c H locs cells slots Q (F0 m pc ls st0) :=
  zp_run (va_runV (As := As) (rest := rest) F (hM H.size) (cwV n F.2.2.2.2 hG hw hrc hrs hd hR9) ⟨zPre.blind, va_recv hK.1 hP hc he, zp_pre rfl hK hP hD hp⟩ rfl hn9 hls hst (lv_room hW) hdg hf9) hP hD hS hA hp kk
/-- invokestatic -/
theorem zr_S {S : Type} {rv : S → Option Value} {w1 : S → va_W} {wc wr ws0 : va_W} {As : List Value}
    (F : CallFix p m c cc nL s args Ts own) (hM : zCr l G y ws rm mc ms As wc rv w1) (hG : GoodIn Ts (va_wsS own index y ws)) (hw : ws = Cond.code y bytes maxL ret :: ws') (hrc : rm.cells = mc) (hrs : rm.slots = ms)
    (hd : y.cls ≠ "java/lang/invoke/MethodHandle" ∧ y.cls ≠ "java/lang/invoke/VarHandle" ∧ (parseMethodDescriptor y.desc).map (fun d => d.parameters.length) = some n) (hR9 : rm.frames + 1 ≤ R.frames ∧ 8 + (maxL + 11) + rm.locals ≤ R.locals)
    (hn9 : As.length = n) (hst : st0 = As.reverse ++ rest) (hW : (rest.map fun v => v.category).sum ≤ 8) (hdg : decode cc pc = .ok (.invokestatic index, 3)) (hf9 : cells + mc ≤ R.cells ∧ slots + ms ≤ R.slots)
    (hK : zK G s) (hP : va_P G.1 vwCl ws0 H) (hD : va_D A ws0) (hS : va_S A s.heap H locs) (hA : ∀ q : Nat, s.heap.size ≤ q → A q) (hls : ls.size = nL) (hp : ws0.Perm (wc ++ wr))
    (kk : ∀ (u : S) (H1 : Heap) (locs1 : List Loc), va_P G.1 vwCl (w1 u ++ wr) H1 → va_D A (w1 u ++ wr) → va_S A s.heap H1 locs1 → W p l e R s m args below meth c H1 locs1 (cells + mc) (slots + ms) Q (F0 m (pc + 3) ls ((rv u).toList ++ rest))) :
    W p l e R s m args below meth c H locs cells slots Q (F0 m pc ls st0) := by
  have ok : ∀ w ∈ va_wsS own index y ws, w.before args s = true := fun w h => F.2.2.2.2 w (hG w h).1
  refine zp_run (va_runS (As := As) (rest := rest) F (hM H.size) ⟨callB_of n F.2.2.2.2 (fun w h => hG w (by unfold va_wsS; exact List.mem_append_right _ h)) hw hrc hrs (ok _ (by simp [va_wsS])) (ok _ (by simp [va_wsS])) hd hR9, ok _ (by simp [va_wsS])⟩ ⟨zPre.blind, zp_pre rfl hK hP hD hp⟩ rfl hn9 hls hst (lv_room hW) hdg hf9) hP hD hS hA hp kk
section ZPE
variable {S : Type} {rv : S → Option Value} {w1 : S → va_W} {ws0 : va_W}
theorem zp_post (hP : va_P G.1 vwCl ws0 H) (hD : va_D A ws0) (hS : va_S A s.heap H locs) (u : S) (hp : ws0.Perm (w1 u)) {v : Option Value} (hrv : rv u = v) : ∀ t : State, t.heap = H → s.WarmedH t.vm → zQr G rv w1 A args s (.returned v) t :=
  fun t ht _ => ⟨⟨u, by rw [hrv], by rw [ht]; exact hP.perm hp, hD.perm hp⟩, hS.F ht⟩
theorem zr_iret (F : CallFix p m c cc nL s args Ts own) (hr : meth.sig.returnType = some .int) (hlocks : meth.locks = false) (hP : va_P G.1 vwCl ws0 H) (hD : va_D A ws0) (hS : va_S A s.heap H locs) (u : S) (hp : ws0.Perm (w1 u)) {v : Int32} (hrv : rv u = some (.int v)) (hdg : decode cc pc = .ok (.ireturn, 1)) :
    W p l e R s m args below meth c H locs cells slots (MQ below (zQr G rv w1 A) args s cells slots A) (F0 m pc ls [.int v]) :=
  W.iret F.1 F.2.1 hr (zp_post hP hD hS u hp hrv) hS.2.2 hdg hlocks
theorem zr_zret (F : CallFix p m c cc nL s args Ts own) (hr : meth.sig.returnType = some .boolean) (hlocks : meth.locks = false) (hP : va_P G.1 vwCl ws0 H) (hD : va_D A ws0) (hS : va_S A s.heap H locs) (u : S) (hp : ws0.Perm (w1 u)) {v : Int32} (hrv : rv u = some (.int v)) (hv : narrow .boolean (.int v) = .int v) (hdg : decode cc pc = .ok (.ireturn, 1)) :
    W p l e R s m args below meth c H locs cells slots (MQ below (zQr G rv w1 A) args s cells slots A) (F0 m pc ls [.int v]) :=
  W.zret F.1 F.2.1 hr hv (zp_post hP hD hS u hp hrv) hS.2.2 hdg hlocks
theorem zr_vret (F : CallFix p m c cc nL s args Ts own) (hr : meth.sig.returnType = none) (hlocks : meth.locks = false) (hP : va_P G.1 vwCl ws0 H) (hD : va_D A ws0) (hS : va_S A s.heap H locs) (u : S) (hp : ws0.Perm (w1 u)) (hrv : rv u = none) (hdg : decode cc pc = .ok (.return_, 1)) :
    W p l e R s m args below meth c H locs cells slots (MQ below (zQr G rv w1 A) args s cells slots A) (F0 m pc ls []) :=
  W.vret F.1 F.2.1 hr (zp_post hP hD hS u hp hrv) hS.2.2 hdg hlocks
theorem zr_aret {ty : FieldType} (F : CallFix p m c cc nL s args Ts own) (hr : meth.sig.returnType = some ty) (hty : (∃ cn, ty = .object cn) ∨ ∃ t, ty = .array t) (hlocks : meth.locks = false) (hP : va_P G.1 vwCl ws0 H) (hD : va_D A ws0) (hS : va_S A s.heap H locs) (u : S) (hp : ws0.Perm (w1 u)) {v : Nat} (hrv : rv u = some (.ref v)) (hdg : decode cc pc = .ok (.areturn, 1)) :
    W p l e R s m args below meth c H locs cells slots (MQ below (zQr G rv w1 A) args s cells slots A) (F0 m pc ls [.ref v]) :=
  W.aret F.1 F.2.1 hr hty (Or.inr ⟨v, rfl⟩) (zp_post hP hD hS u hp hrv) hS.2.2 hdg hlocks
end ZPE
/-! arrays of int[] -/
/-- int[][] read -/
theorem zr_aald (hx : p.tables.exec = Jvm.exec) (hb : c.code = cc) (hK : zK G s) {ws : va_W} {a : Nat} (hP : va_P G.1 vwCl ws H) (q0 : Nat) {n : Nat} {f : Nat → Option Nat} (ha : ws[q0]? = some (a, .inl (G.2.2.1, n, .inr (.inr (.inr (.inr f)))))) {i : Int32} {j b : Nat} (hin : vp_in i n) (hj : i.toNatClampNeg = j) (hf : f j = some b) (hdg : decode cc pc = .ok (.aaload, 1))
    (kk : W p l e R s m args below meth c H locs cells slots Q (F0 m (pc + 1) ls (.ref b :: rest))) : W p l e R s m args below meth c H locs cells slots Q (F0 m pc ls (.int i :: .ref a :: rest)) := by
  subst hj
  have hlt : i.toNatClampNeg < n := Nat.not_le.mp fun q => hin (Or.inr q)
  exact W.aald (v := .ref b) (ty := .array .int) hx hb (hP q0 _ ha) ((hK.1.2 1 _ rfl).1 n (fun j => va_rf (f j))) rfl (fun q => by cases q) (by show ¬ (i < 0 ∨ (arrV _ _ _).slots.size ≤ _); rw [arrV_size]; exact hin) (by show (arrV _ _ _).slots[_]? = _; rw [arrV_read _ _ hlt, hf]; rfl) rfl rfl hdg kk
/-- int[][] written -/
theorem zr_aast (hx : p.tables.exec = Jvm.exec) (hb : c.code = cc) (hK : zK G s) {ws : va_W} {a v : Nat} (hP : va_P G.1 vwCl ws H) (hD : va_D A ws) (hS : va_S A s.heap H locs) (q0 qk : Nat) {n n2 : Nat} {f : Nat → Option Nat} {g2 : Nat → Int32} (ha : ws[q0]? = some (a, .inl (G.2.2.1, n, .inr (.inr (.inr (.inr f)))))) (hv : ws[qk]? = some (v, .inl (G.2.1, n2, .inl g2))) {i : Int32} (hin : vp_in i n) (hdg : decode cc pc = .ok (.aastore, 1))
    (kk : ∀ (H1 : Heap) (locs1 : List Loc), va_P G.1 vwCl (ws.set q0 (a, .inl (G.2.2.1, n, .inr (.inr (.inr (.inr (va_up f i.toNatClampNeg (some v)))))))) H1 → va_D A (ws.set q0 (a, .inl (G.2.2.1, n, .inr (.inr (.inr (.inr (va_up f i.toNatClampNeg (some v)))))))) → va_S A s.heap H1 locs1 → W p l e R s m args below meth c H1 locs1 cells slots Q (F0 m (pc + 1) ls rest)) : W p l e R s m args below meth c H locs cells slots Q (F0 m pc ls (.ref v :: .int i :: .ref a :: rest)) := by
  have hlt : i.toNatClampNeg < n := Nat.not_le.mp fun q => hin (Or.inr q)
  have h0 : ¬ i < 0 := fun q => hin (Or.inl q)
  have hAA := hK.2.2.2.2.2
  obtain ⟨-, hn2, kA, k1, k2⟩ := hAA
  have hiA : ArrOfT s G.2.1 .int := (hK.1.2 0 _ rfl).1
  obtain ⟨-, kI, hkI, compI, hkindI⟩ := hiA n2 (fun j => .int (g2 j))
  refine W.aast hx hb (hP q0 _ ha) (fun q h => by cases h) (fun h => by cases h) k1 k2 rfl hkI ⟨h0, by show _ < (arrV _ _ _).slots.size; rw [arrV_size]; exact hlt⟩ (hP qk _ hv) (fun q h => by cases h) hkI (zj_assign s.vm G.2.1) rfl rfl hdg fun H1 e z oq => ?_
  refine kk H1 _ (hP.set hD ha ?_ oq) (hD.set ha) (hS.put z oq (hD.2 q0 _ ha))
  show H1[a]? = some (vp_cell _ _)
  rw [e]
  rw [vp_cell_q, vp_cell_q, arrV_store]
  congr 2
  funext q
  by_cases hq : q = i.toNatClampNeg
  · subst hq
    simp [updV, va_up, va_rf]
  · simp [updV, va_up, hq]
/-- new int[n][] -/
theorem zr_anew (hx : p.tables.exec = Jvm.exec) (hb : c.code = cc) {own : String} {index : Nat} (hown : s.vm.findClass own = some m.cls) (hclink : (Cond.classLink own index "[I").before args s = true) (hK : zK G s) {ws : va_W} (hP : va_P G.1 vwCl ws H) (hD : va_D A ws) (hS : va_S A s.heap H locs) (hA : ∀ q : Nat, s.heap.size ≤ q → A q) {n : Int32} {N : Nat} (hn : ¬ n < 0) (hN : n.toNatClampNeg = N) (hbytes : N * 4 ≤ 536870912) (hcells : cells + 1 ≤ R.cells) (hslots : slots + N ≤ R.slots) (hdg : decode cc pc = .ok (.anewarray index, 3))
    (kk : ∀ (q : Nat) (H1 : Heap), va_P G.1 vwCl (ws ++ [(q, .inl (G.2.2.1, N, .inr (.inr (.inr (.inr (fun _ => none))))))]) H1 → va_D A (ws ++ [(q, .inl (G.2.2.1, N, .inr (.inr (.inr (.inr (fun _ => none))))))]) → va_S A s.heap H1 locs → W p l e R s m args below meth c H1 locs (cells + 1) (slots + N) Q (F0 m (pc + 3) ls (.ref q :: rest))) :
    W p l e R s m args below meth c H locs cells slots Q (F0 m pc ls (.int n :: rest)) := by
  subst hN
  have hAA := hK.2.2.2.2.2
  refine W.anewA (t := .int) hx hb hown hclink (zAA_over' hAA.1) rfl hdg rfl hn hbytes hcells hslots fun cA kA comp h1 h2 h3 h4 => ?_
  have hcA : cA = G.2.2.1 := Option.some.inj (h1.symm.trans hAA.2.1)
  subst hcA
  have hsz : (H.push { cls := G.2.2.1, slots := Array.replicate n.toNatClampNeg .null, vm := .none }).size = H.size + 1 := Array.size_push _
  have hold : ∀ q, q < H.size → (H.push { cls := G.2.2.1, slots := Array.replicate n.toNatClampNeg .null, vm := .none })[q]? = H[q]? := fun q hq => by rw [Array.getElem?_push]; simp [Nat.ne_of_lt hq]
  refine kk H.size _ ((hP.kept (fun k x hx => hold x.1 (hP k x hx).lt)).app (fun k x hx => ?_)) (hD.push hP rfl (hA _ hS.1)) ⟨Nat.le_trans hS.1 (by omega), fun x h1 h2 => (hold x (Nat.lt_of_lt_of_le h1 hS.1)).trans (hS.2.1 x h1 h2), hS.2.2⟩
  rcases k with _ | k
  · cases hx
    show (H.push _)[H.size]? = some (vp_cell _ _)
    rw [vp_cell_q]
    simp only [Array.getElem?_push, if_pos]
    congr 1
    unfold arrV
    congr 1
    first | rfl | (apply Array.ext <;> simp [va_rf])
  · cases hx
end ZRP
