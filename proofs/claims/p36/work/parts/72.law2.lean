/-! the law's act: a call of both, out of an int -/
section ZXP
variable {p : Program} {l : Launch} {e : Env} {R : Room} {s : State} {m : MethodId} {args : Array Value} {below : List Frame} {meth : Method} {c9 : Code} {H : Heap} {locs : List Loc} {cells slots : Nat} {Q : State → Prop}
variable {cc bytes : ByteArray} {pc nL maxL mc ms n index : Nat} {ls : Array Slot} {rest st0 : List Value} {A : Nat → Prop} {G : zG} {own : String} {Ts ws ws' : List Cond} {y : MethodName} {ret : Option FieldType} {rm : Room} {E : String}
/-- behind a call that threw -/
theorem zp_runX {w1 wc wr ws0 : va_W} (hr : vx_Run p l e R s m args below meth c9 H locs cells slots mc ms (F0 m pc ls st0) rest (fun _ _ _ => False) (vx_X (fun _ : Unit => True) (zXB G E w1 (va_A wc H.size)) (va_A wc H.size)) (va_A wc H.size))
    (hP : va_P G.1 vwCl ws0 H) (hD : va_D A ws0) (hS : va_S A s.heap H locs) (hA : ∀ q : Nat, s.heap.size ≤ q → A q) (hp : ws0.Perm (wc ++ wr))
    (kx : ∀ (ce : Cell) (q9 : Addr) (H1 : Heap) (locs1 : List Loc), va_P G.1 vwCl (w1 ++ wr) H1 → va_D A (w1 ++ wr) → va_S A s.heap H1 locs1 → H1[q9]? = some ce → ce.vm = .none → s.vm.findClass E = some ce.cls → vx_W p l e R s m args below meth c9 H1 locs1 (cells + mc) (slots + ms) Q (F0 m pc ls rest) q9) :
    W p l e R s m args below meth c9 H locs cells slots Q (F0 m pc ls st0) := by
  intro T hT X
  rcases hr T hT X with ⟨v, st₀, t, T', L, h0, X', hL, e1, e2, hq, st⟩ | ⟨q, st₀, t, T', L, E9, ce, h0, X', hL, e1, e2, ⟨u, -, ⟨rfl, hP1, hD1⟩, hF⟩, hce, hcv, hcl, st⟩
  · exact hq.elim
  · have hP := hP.perm hp
    have hD := hD.perm hp
    have hf := zp_free hD hS hA
    obtain ⟨k1, k2, k3⟩ := vx_keep h0 e1 hS (fun q _ h => hf q h) hf hL hF
    rw [← e1] at hP1
    obtain ⟨hPj, hDj⟩ := zj_join hP hD k2 hf hP1 hD1
    obtain ⟨t2, a1, b1⟩ := kx ce q T'.heap (locs ++ L) hPj hDj k3 (by rw [e1]; exact hce) hcv hcl T' rfl X'
    exact ⟨t2, st.trans a1, b1⟩
/-- the class is called and throws -/
theorem zl_CX {a : Nat → Nat} {c c1 : zS} {SW : va_W} {As : List Value}
    (F : CallFix p m c9 cc nL s args Ts own) (hM : zX l G y ws rm mc ms (.ref (a 0) :: As) (zCW3 G a c) E (zCW3 G a c1)) (hG : GoodIn Ts (wsV own index RX3 y ws)) (hw : ws = Cond.code y bytes maxL ret :: ws') (hrc : rm.cells = mc) (hrs : rm.slots = ms)
    (hd : y.cls = RX3 ∧ y.cls ≠ "java/lang/invoke/MethodHandle" ∧ y.cls ≠ "java/lang/invoke/VarHandle" ∧ (parseMethodDescriptor y.desc).map (fun d => d.parameters.length) = some n) (hR9 : rm.frames + 1 ≤ R.frames ∧ 8 + (maxL + 11) + rm.locals ≤ R.locals)
    (hn9 : As.length = n) (hst : st0 = As.reverse ++ .ref (a 0) :: rest) (hW : (rest.map fun v => v.category).sum ≤ 8) (hdg : decode cc pc = .ok (.invokevirtual index, 3)) (hf9 : cells + mc ≤ R.cells ∧ slots + ms ≤ R.slots)
    (hK : zK G s) (hZ : zZ A s s.heap) (hP : va_P G.1 vwCl (zCW3 G a c ++ SW) H) (hD : va_D A (zCW3 G a c ++ SW)) (hS : va_S A s.heap H locs) (hA : ∀ q : Nat, s.heap.size ≤ q → A q) (hls : ls.size = nL)
    (kx : ∀ (ce : Cell) (q9 : Addr) (H1 : Heap) (locs1 : List Loc), va_P G.1 vwCl (zCW3 G a c1 ++ SW) H1 → va_D A (zCW3 G a c1 ++ SW) → va_S A s.heap H1 locs1 → H1[q9]? = some ce → ce.vm = .none → s.vm.findClass E = some ce.cls → vx_W p l e R s m args below meth c9 H1 locs1 (cells + mc) (slots + ms) Q (F0 m pc ls rest) q9) :
    W p l e R s m args below meth c9 H locs cells slots Q (F0 m pc ls st0) :=
  zp_runX (wc := zCW3 G a c) (wr := SW) (w1 := zCW3 G a c1) (vx_runV (As := As) (rest := rest) F (hM H.size) (cwV n F.2.2.2.2 hG hw hrc hrs hd hR9) ⟨zPreX.blind, va_recv (q := (RX3, TX3, 9)) (ci := 3) (q0 := 0) hK.1 hP rfl rfl, zp_preX rfl hK hZ hP hD hS hA (List.Perm.refl _)⟩ rfl hn9 hls hst (lv_room hW) hdg hf9) hP hD hS hA (List.Perm.refl _) kx
end ZXP
theorem z_ofTr {S : Type} {l : Launch} {G : zG} {y : MethodName} {ws ws' : List Cond} {rm : Room} {mc ms : Nat} {av : List Value} {wc : va_W} {rv : S → Option Value} {w1 : S → va_W} {cc : ByteArray} {maxL : Nat} {ret : Option FieldType} {own : String} {hh : List (Nat × Nat × Nat × Nat)}
    (hy : plainName y.cls = true) (hown : y.cls = own) (hw : ws = Cond.codeWith y cc maxL ret hh :: ws') (hlen : (lg_sl av).length ≤ maxL)
    (body : ∀ (p : Program) (e : Env) (s : State) (m : MethodId) (args : Array Value) (below : List Frame) (meth : Method) (c : Code) (A : Nat → Prop) (H : Heap) (locs : List Loc) (ls : Array Slot),
      CallFix p m c cc maxL s args ws own → meth.sig.returnType = ret → meth.locks = false → c.exceptionTable.toList = tableOf hh → zK G s → zZ A s s.heap → (∀ q : Nat, s.heap.size ≤ q → A q) → va_P G.1 vwCl wc H → va_D A wc → va_S A s.heap H locs → lv_has ls maxL (lv_args 0 av) →
      W p l e rm s m args below meth c H locs 0 0 (MQ below (zQr G rv w1 A) args s mc ms A) (F0 m 0 ls [])) : zCWr l G y ws rm mc ms av wc rv w1 := by
  intro sz
  refine MetFree.of_bodyS (code := cc) (maxLocals := maxL) (ret := ret) hy ?_ ?_
  · intro args s m h hn
    obtain ⟨m9, meth, c, hn9, h1, h2, h3, h4, -, h5, h6, -⟩ := Cond.codeWith_spec (atoms_spec (ws := ws) h _ (by rw [hw]; exact List.mem_cons_self))
    cases hn.symm.trans hn9
    exact ⟨meth, c, h1, h2, h3, h4, h5, h6⟩
  · intro p e s m args below meth c s₁ B hml hv _
    have hh0 : s₁.heap = s.heap := by rw [B.state]; rfl
    obtain ⟨rfl, ⟨hsz, hP, hK, hD0⟩, hZ⟩ := hv
    have hts := atoms_spec (ws := ws) B.pre
    have hownF : s.vm.findClass own = some m.cls := by rw [← hown]; exact findClass_of_methodNamed B.named
    subst hsz
    have hD := hD0.self (sz := s.heap.size)
    have hl := lv_entry av (n := maxL) hlen
    have htab := vx_table (x := y) B (hts _ (by rw [hw]; exact List.mem_cons_self))
    have K := body p e s m av.toArray below meth c (va_A wc s.heap.size) s.heap [] _ ⟨B.exec, B.bytes, hml, hownF, hts⟩ B.returns B.notSynchronized htab hK hZ (fun q h => Or.inr h) hP hD va_S.rf hl
    rw [← lg_entry_eq] at K
    obtain ⟨t, a1, o, b1, b2, b3⟩ := K s₁ hh0 (Stand.of_body B)
    exact ⟨t, o, a1, b1, b2, ⟨b3.1, b3.2⟩⟩
/-- all that holds of class and the law's own jars; K: more than the acts and guesses -/
def zLok (K : Nat) (V X : Nat → Nat) (C : zCs) (t : zU) (c : zS) (u : zSu) : Prop := zR V X C c t ∧ zRw C u ∧ zTru V X C ∧ zDd V X (zgc V) ∧ zNum X t ∧ t.ac ≤ K ∧ t.gu ≤ K
theorem zLok.more {K K' : Nat} {V X : Nat → Nat} {C : zCs} {t : zU} {c : zS} {u : zSu} (h : zLok K V X C t c u) (hK : K ≤ K') : zLok K' V X C t c u := ⟨h.1, h.2.1, h.2.2.1, h.2.2.2.1, h.2.2.2.2.1, Nat.le_trans h.2.2.2.2.2.1 hK, Nat.le_trans h.2.2.2.2.2.2 hK⟩
theorem zLok.re {K : Nat} {V X : Nat → Nat} {C : zCs} {t : zU} {c c' : zS} {u : zSu} (h : zLok K V X C t c u) (hc : zR V X C c' t) : zLok K V X C t c' u := ⟨hc, h.2⟩
theorem zLok.act {K : Nat} {V X : Nat → Nat} {C : zCs} {t : zU} {c : zS} {u : zSu} (h : zLok K V X C t c u) {a : Nat} (ha : a < 15) (hal : zal (zn V) a) {c' : zS} (hc : zR V (zmv V X a) (zNew V X a C) c' (zUact V X a t)) {u' : zSu} (hu : u'.2.2.2.2.map Prod.snd = (u.2.2.2.2.map Prod.snd).filterMap (zgo (zn V) a (zsi V (zmv V X a) (zn V)))) : zLok (K + 1) V (zmv V X a) (zNew V X a C) (zUact V X a t) c' u' := by
  obtain ⟨h1, h2, h3, h4, h5, h6, h7⟩ := h
  refine ⟨hc, ?_, h3.act h1.ok ha, h4.act h1.ok ha, h5.act h1.ok ha (zal_3 (by have := zn_23 V; omega) hal), Nat.add_le_add_right h6 1, Nat.le_succ_of_le h7⟩
  unfold zRw
  rw [hu, h2, zCl_act h1.ok h1.pv h1.cok ha]
theorem zLok.guess {K : Nat} {V X : Nat → Nat} {C : zCs} {t : zU} {c : zS} {u : zSu} (h : zLok K V X C t c u) {j v : Nat} (hj : j < 3) {c' : zS} (hc : zR V X (zUp C (zgLearn (zn V) j v (decide (V j = v)))) c' (zUgs (decide (V j = v)) t)) {u' : zSu} (hu : u'.2.2.2.2.map Prod.snd = (u.2.2.2.2.map Prod.snd).filterMap (zgg (zn V) j v (decide (V j = v)))) : zLok (K + 1) V X (zUp C (zgLearn (zn V) j v (decide (V j = v)))) (zUgs (decide (V j = v)) t) c' u' := by
  obtain ⟨h1, h2, h3, h4, h5, h6, h7⟩ := h
  refine ⟨hc, ?_, h3.learn hj, h4, h5.guess _, Nat.le_succ_of_le h6, Nat.add_le_add_right h7 1⟩
  unfold zRw
  rw [hu, h2, zCl_learn]
theorem zLok.lay (K : Nat) {a b d : Nat} (ha : 1 ≤ a ∧ a ≤ 9) (hb : 1 ≤ b ∧ b ≤ 9) (hd : d ≤ 9) {c' : zS} (hc : zR (zV3 a b d) (fun _ => 0) (zC0 (zn (zV3 a b d))) c' (0, 0, 0, 0, 0, 0)) {u' : zSu} (hu : u'.2.2.2.2.map Prod.snd = zAll (zn (zV3 a b d))) : zLok K (zV3 a b d) (fun _ => 0) (zC0 (zn (zV3 a b d))) (0, 0, 0, 0, 0, 0) c' u' := by
  refine ⟨hc, ?_, zTru.start ha hb hd, zDd.start a b d _ (zgc_dvd (zV3 a b d)), ⟨rfl, Nat.zero_le _, Nat.zero_le _⟩, Nat.zero_le _, Nat.zero_le _⟩
  unfold zRw
  rw [hu, zCl_0 (zn_23 _)]
abbrev zLS (G : zG) (a : Nat → Nat) (sh K : Nat) : Type := {w : va_W // ∃ (V X : Nat → Nat) (C : zCs) (t : zU) (c : zS) (u : zSu), zLok K V X C t c u ∧ w = zCW3 G a c ++ zSW G sh (zn V) V X t u}
theorem zLS.of {G : zG} {a : Nat → Nat} {sh K : Nat} {V X : Nat → Nat} {C : zCs} {t : zU} {c : zS} {u : zSu} (h : zLok K V X C t c u) : ∃ w : zLS G a sh K, w.1 = zCW3 G a c ++ zSW G sh (zn V) V X t u := ⟨⟨_, V, X, C, t, c, u, h, rfl⟩, rfl⟩
abbrev rm_L_act : Room := { frames := 8, cells := 2189, slots := 9483, locals := 150 }
theorem in_L_act_X4 : ∀ w ∈ u_ws RX4 TX4 4, w ∈ wsL_act := by decide +kernel
theorem zd_L_act : yL_act.cls ≠ "java/lang/invoke/MethodHandle" ∧ yL_act.cls ≠ "java/lang/invoke/VarHandle" ∧ (parseMethodDescriptor yL_act.desc).map (fun d => d.parameters.length) = some 3 := by decide +kernel
set_option maxHeartbeats 4000000 in
set_option maxRecDepth 100000 in
theorem l_act (l : Launch) (hst : l.stackTraces = false) (G : zG) (a : Nat → Nat) {K : Nat} {V X : Nat → Nat} {C : zCs} {t : zU} {c : zS} (sh sv sa sc sl : Nat) (rows : zRows) (hL : zLok K V X C t c (sv, sa, sc, sl, rows)) (x : Int32) : zCWr l G yL_act wsL_act rm_L_act 2189 9483 [.ref (a 0), .ref sh, .int x] (zCW3 G a c ++ zSW G sh (zn V) V X t (sv, sa, sc, sl, rows)) (fun _ : zLS G a sh (K + 1) => some (.int (nI 1))) (fun w => w.1) := by
  refine z_ofTr (cc := cL_act) (maxL := 8) (ret := (some .boolean)) (own := RL) (by decide) rfl rfl (Nat.le_of_ble_eq_true rfl) ?_
  intro p e s m args below meth c9 A H locs ls F hr hlocks htab hK hZ hA hP hD hS hl
  obtain ⟨hx, hb, hml, hown, hts⟩ := id F
  have hl : lv_has ls 8 [(0, .ref (a 0)), (1, .ref sh), (2, .int x)] := hl
  have hP : va_P G.1 vwCl (zCW3 G a c ++ (([(sh, .inr (4, [.ref sv, .ref sa, .ref sc, .ref sl])), (sv, .inl (G.2.1, zn V, .inl (zar (zn V) V))), (sa, .inl (G.2.1, zn V, .inl (zar (zn V) X))), (sc, .inl (G.2.1, 6, .inl (zkt t))), (sl, .inl (G.2.2.1, rows.length, .inr (.inr (.inr (.inr (zlf rows))))))] : va_W) ++ rows.map (zrc G (zn V)))) H := hP
  have hD : va_D A (zCW3 G a c ++ (([(sh, .inr (4, [.ref sv, .ref sa, .ref sc, .ref sl])), (sv, .inl (G.2.1, zn V, .inl (zar (zn V) V))), (sa, .inl (G.2.1, zn V, .inl (zar (zn V) X))), (sc, .inl (G.2.1, 6, .inl (zkt t))), (sl, .inl (G.2.2.1, rows.length, .inr (.inr (.inr (.inr (zlf rows))))))] : va_W) ++ rows.map (zrc G (zn V)))) := hD
  have hz := zn_23 V
  have hR := hL.1
  have hu := hL.2.1
  have hr9 := hu.ok hR.cok
  have k239 : ∀ (H : Heap) (locs : List Loc) (ls : Array Slot), va_P G.1 vwCl (zCW3 G a c ++ (([(sh, .inr (4, [.ref sv, .ref sa, .ref sc, .ref sl])), (sv, .inl (G.2.1, zn V, .inl (zar (zn V) V))), (sa, .inl (G.2.1, zn V, .inl (zar (zn V) X))), (sc, .inl (G.2.1, 6, .inl (zkt t))), (sl, .inl (G.2.2.1, rows.length, .inr (.inr (.inr (.inr (zlf rows))))))] : va_W) ++ rows.map (zrc G (zn V)))) H → va_D A (zCW3 G a c ++ (([(sh, .inr (4, [.ref sv, .ref sa, .ref sc, .ref sl])), (sv, .inl (G.2.1, zn V, .inl (zar (zn V) V))), (sa, .inl (G.2.1, zn V, .inl (zar (zn V) X))), (sc, .inl (G.2.1, 6, .inl (zkt t))), (sl, .inl (G.2.2.1, rows.length, .inr (.inr (.inr (.inr (zlf rows))))))] : va_W) ++ rows.map (zrc G (zn V)))) → va_S A s.heap H locs → lv_has ls 8 [(3, .int (nI (zn V))), (0, .ref (a 0)), (1, .ref sh), (2, .int x)] → W p l e rm_L_act s m args below meth c9 H locs 0 0 (MQ below (zQr G (fun _ : zLS G a sh (K + 1) => some (.int (nI 1))) (fun w => w.1) A) args s 2189 9483 A) (F0 m 239 ls []) := by
    intro H locs ls hP hD hS hl
    refine lv_iload_n hx hb dL_act_239 rfl (lv_at hl 3 rfl) ?_
    refine lv_iconst (v := nI 4) hx hb dL_act_240 (by decide) ?_
    refine lv_ishr hx hb dL_act_241 ?_
    refine lv_iload_n hx hb dL_act_242 rfl (lv_at hl 0 rfl) ?_
    refine zr_S (As := [.int (x >>> ((nI 4) &&& 31)), .int (nI (zn V))]) (rest := []) (wr := zCW3 G a c ++ (([(sh, .inr (4, [.ref sv, .ref sa, .ref sc, .ref sl])), (sv, .inl (G.2.1, zn V, .inl (zar (zn V) V))), (sa, .inl (G.2.1, zn V, .inl (zar (zn V) X))), (sc, .inl (G.2.1, 6, .inl (zkt t))), (sl, .inl (G.2.2.1, rows.length, .inr (.inr (.inr (.inr (zlf rows))))))] : va_W) ++ rows.map (zrc G (zn V)))) F (l_below l G ((x >>> ((nI 4) &&& 31))) (n := zn V) (by omega) (by omega)) gL_act_L_below rfl rfl rfl zd_L_below ⟨(Nat.le_of_ble_eq_true rfl), (Nat.le_of_ble_eq_true rfl)⟩ rfl rfl (Nat.le_of_ble_eq_true rfl) dL_act_243 ⟨(Nat.le_of_ble_eq_true rfl), (Nat.le_of_ble_eq_true rfl)⟩ hK hP hD hS hA hl.1 (List.Perm.refl _) (fun _ H locs hP hD hS => ?_)
    have hP : va_P G.1 vwCl (zCW3 G a c ++ (([(sh, .inr (4, [.ref sv, .ref sa, .ref sc, .ref sl])), (sv, .inl (G.2.1, zn V, .inl (zar (zn V) V))), (sa, .inl (G.2.1, zn V, .inl (zar (zn V) X))), (sc, .inl (G.2.1, 6, .inl (zkt t))), (sl, .inl (G.2.2.1, rows.length, .inr (.inr (.inr (.inr (zlf rows))))))] : va_W) ++ rows.map (zrc G (zn V)))) H := hP
    have hD : va_D A (zCW3 G a c ++ (([(sh, .inr (4, [.ref sv, .ref sa, .ref sc, .ref sl])), (sv, .inl (G.2.1, zn V, .inl (zar (zn V) V))), (sa, .inl (G.2.1, zn V, .inl (zar (zn V) X))), (sc, .inl (G.2.1, 6, .inl (zkt t))), (sl, .inl (G.2.2.1, rows.length, .inr (.inr (.inr (.inr (zlf rows))))))] : va_W) ++ rows.map (zrc G (zn V)))) := hD
    obtain ⟨j, hj, ej⟩ : ∃ r, r < zn V ∧ zbl ((x >>> ((nI 4) &&& 31))) (zn V) = r := ⟨_, zbl_lt _ (by omega), rfl⟩
    rw [ej]
    refine lv_istore (lv' := [(4, .int (nI j)), (3, .int (nI (zn V))), (0, .ref (a 0)), (1, .ref sh), (2, .int x)]) hx hb dL_act_246 hl (by decide) rfl (fun ls hl => ?_)
    refine lv_aload_n hx hb dL_act_248 rfl (lv_at hl 2 rfl) ?_
    refine lv_iload hx hb dL_act_249 (lv_at hl 0 rfl) ?_
    have hal : zal (zn V) j := by unfold zal; rw [if_pos (by omega)]; exact hj
    refine zl_C (As := [.int (nI j)]) (rest := []) F (q_fill l G a hR hj) gL_act_X3_fill rfl rfl rfl zd_X3_fill ⟨(Nat.le_of_ble_eq_true rfl), (Nat.le_of_ble_eq_true rfl)⟩ rfl rfl (Nat.le_of_ble_eq_true rfl) dL_act_251 ⟨(Nat.le_of_ble_eq_true rfl), (Nat.le_of_ble_eq_true rfl)⟩ hK hP hD hS hA hl.1 (fun c H locs hR hP hD hS => ?_)
    refine lv_aload_n hx hb dL_act_254 rfl (lv_at hl 3 rfl) ?_
    refine lv_iload hx hb dL_act_255 (lv_at hl 0 rfl) ?_
    refine zl_M (As := [.int (nI j)]) (rest := [.int (nI (zm V X j))]) (u := (sv, sa, sc, sl, rows)) F (s_go l G sh sv sa sc sl rows hz hL.1.ok hr9 (by omega) (hal)) gL_act_X4_go rfl rfl rfl zd_X4_go ⟨(Nat.le_of_ble_eq_true rfl), (Nat.le_of_ble_eq_true rfl)⟩ rfl rfl (Nat.le_of_ble_eq_true rfl) dL_act_257 ⟨(Nat.le_of_ble_eq_true rfl), (Nat.le_of_ble_eq_true rfl)⟩ hK hP hD hS hA hl.1 (fun u2 H locs hP hD hS => ?_)
    obtain ⟨u2, hu2⟩ := u2
    refine lv_icmp_ne (tgt := 267) hx hb dL_act_260 (by decide) (fun z => absurd (show (nI (zm V X j)) = (nI (zm V X j)) from rfl) z) (fun _ => ?_)
    refine lv_iconst (v := nI 1) hx hb dL_act_263 (by decide) ?_
    refine lv_goto (tgt := 268) hx hb dL_act_264 (by decide) ?_
    obtain ⟨w9, hw9⟩ := zLS.of (G := G) (a := a) (sh := sh) (hL.act (by omega) hal hR hu2)
    exact zr_zret F hr hlocks hP hD hS w9 (by rw [hw9]) rfl rfl dL_act_268
  have k269 : ∀ (H : Heap) (locs : List Loc) (ls : Array Slot), va_P G.1 vwCl (zCW3 G a c ++ (([(sh, .inr (4, [.ref sv, .ref sa, .ref sc, .ref sl])), (sv, .inl (G.2.1, zn V, .inl (zar (zn V) V))), (sa, .inl (G.2.1, zn V, .inl (zar (zn V) X))), (sc, .inl (G.2.1, 6, .inl (zkt t))), (sl, .inl (G.2.2.1, rows.length, .inr (.inr (.inr (.inr (zlf rows))))))] : va_W) ++ rows.map (zrc G (zn V)))) H → va_D A (zCW3 G a c ++ (([(sh, .inr (4, [.ref sv, .ref sa, .ref sc, .ref sl])), (sv, .inl (G.2.1, zn V, .inl (zar (zn V) V))), (sa, .inl (G.2.1, zn V, .inl (zar (zn V) X))), (sc, .inl (G.2.1, 6, .inl (zkt t))), (sl, .inl (G.2.2.1, rows.length, .inr (.inr (.inr (.inr (zlf rows))))))] : va_W) ++ rows.map (zrc G (zn V)))) → va_S A s.heap H locs → lv_has ls 8 [(3, .int (nI (zn V))), (0, .ref (a 0)), (1, .ref sh), (2, .int x)] → W p l e rm_L_act s m args below meth c9 H locs 0 0 (MQ below (zQr G (fun _ : zLS G a sh (K + 1) => some (.int (nI 1))) (fun w => w.1) A) args s 2189 9483 A) (F0 m 269 ls []) := by
    intro H locs ls hP hD hS hl
    refine lv_iload_n hx hb dL_act_269 rfl (lv_at hl 3 rfl) ?_
    refine lv_iconst (v := nI 4) hx hb dL_act_270 (by decide) ?_
    refine lv_ishr hx hb dL_act_271 ?_
    refine lv_iload_n hx hb dL_act_272 rfl (lv_at hl 0 rfl) ?_
    refine zr_S (As := [.int (x >>> ((nI 4) &&& 31)), .int (nI (zn V))]) (rest := []) (wr := zCW3 G a c ++ (([(sh, .inr (4, [.ref sv, .ref sa, .ref sc, .ref sl])), (sv, .inl (G.2.1, zn V, .inl (zar (zn V) V))), (sa, .inl (G.2.1, zn V, .inl (zar (zn V) X))), (sc, .inl (G.2.1, 6, .inl (zkt t))), (sl, .inl (G.2.2.1, rows.length, .inr (.inr (.inr (.inr (zlf rows))))))] : va_W) ++ rows.map (zrc G (zn V)))) F (l_below l G ((x >>> ((nI 4) &&& 31))) (n := zn V) (by omega) (by omega)) gL_act_L_below rfl rfl rfl zd_L_below ⟨(Nat.le_of_ble_eq_true rfl), (Nat.le_of_ble_eq_true rfl)⟩ rfl rfl (Nat.le_of_ble_eq_true rfl) dL_act_273 ⟨(Nat.le_of_ble_eq_true rfl), (Nat.le_of_ble_eq_true rfl)⟩ hK hP hD hS hA hl.1 (List.Perm.refl _) (fun _ H locs hP hD hS => ?_)
    have hP : va_P G.1 vwCl (zCW3 G a c ++ (([(sh, .inr (4, [.ref sv, .ref sa, .ref sc, .ref sl])), (sv, .inl (G.2.1, zn V, .inl (zar (zn V) V))), (sa, .inl (G.2.1, zn V, .inl (zar (zn V) X))), (sc, .inl (G.2.1, 6, .inl (zkt t))), (sl, .inl (G.2.2.1, rows.length, .inr (.inr (.inr (.inr (zlf rows))))))] : va_W) ++ rows.map (zrc G (zn V)))) H := hP
    have hD : va_D A (zCW3 G a c ++ (([(sh, .inr (4, [.ref sv, .ref sa, .ref sc, .ref sl])), (sv, .inl (G.2.1, zn V, .inl (zar (zn V) V))), (sa, .inl (G.2.1, zn V, .inl (zar (zn V) X))), (sc, .inl (G.2.1, 6, .inl (zkt t))), (sl, .inl (G.2.2.1, rows.length, .inr (.inr (.inr (.inr (zlf rows))))))] : va_W) ++ rows.map (zrc G (zn V)))) := hD
    obtain ⟨j, hj, ej⟩ : ∃ r, r < zn V ∧ zbl ((x >>> ((nI 4) &&& 31))) (zn V) = r := ⟨_, zbl_lt _ (by omega), rfl⟩
    rw [ej]
    refine lv_istore (lv' := [(4, .int (nI j)), (3, .int (nI (zn V))), (0, .ref (a 0)), (1, .ref sh), (2, .int x)]) hx hb dL_act_276 hl (by decide) rfl (fun ls hl => ?_)
    refine lv_aload_n hx hb dL_act_278 rfl (lv_at hl 2 rfl) ?_
    refine lv_iload hx hb dL_act_279 (lv_at hl 0 rfl) ?_
    have hal : zal (zn V) (3 + j) := by unfold zal; rw [if_neg (by omega), if_pos (by omega)]; omega
    refine zl_C (As := [.int (nI j)]) (rest := []) F (q_empty l G a hR hj) gL_act_X3_empty rfl rfl rfl zd_X3_empty ⟨(Nat.le_of_ble_eq_true rfl), (Nat.le_of_ble_eq_true rfl)⟩ rfl rfl (Nat.le_of_ble_eq_true rfl) dL_act_281 ⟨(Nat.le_of_ble_eq_true rfl), (Nat.le_of_ble_eq_true rfl)⟩ hK hP hD hS hA hl.1 (fun c H locs hR hP hD hS => ?_)
    refine lv_aload_n hx hb dL_act_284 rfl (lv_at hl 3 rfl) ?_
    refine lv_iconst (v := nI 3) hx hb dL_act_285 (by decide) ?_
    refine lv_iload hx hb dL_act_286 (lv_at hl 0 rfl) ?_
    refine lv_iadd hx hb dL_act_288 ?_
    refine zt_top (v := (nI (3 + j))) (nI_add 3 j) ?_
    refine zl_M (As := [.int (nI (3 + j))]) (rest := [.int (nI (zm V X (3 + j)))]) (u := (sv, sa, sc, sl, rows)) F (s_go l G sh sv sa sc sl rows hz hL.1.ok hr9 (by omega) (hal)) gL_act_X4_go rfl rfl rfl zd_X4_go ⟨(Nat.le_of_ble_eq_true rfl), (Nat.le_of_ble_eq_true rfl)⟩ rfl rfl (Nat.le_of_ble_eq_true rfl) dL_act_289 ⟨(Nat.le_of_ble_eq_true rfl), (Nat.le_of_ble_eq_true rfl)⟩ hK hP hD hS hA hl.1 (fun u2 H locs hP hD hS => ?_)
    obtain ⟨u2, hu2⟩ := u2
    refine lv_icmp_ne (tgt := 299) hx hb dL_act_292 (by decide) (fun z => absurd (show (nI (zm V X (3 + j))) = (nI (zm V X (3 + j))) from rfl) z) (fun _ => ?_)
    refine lv_iconst (v := nI 1) hx hb dL_act_295 (by decide) ?_
    refine lv_goto (tgt := 300) hx hb dL_act_296 (by decide) ?_
    obtain ⟨w9, hw9⟩ := zLS.of (G := G) (a := a) (sh := sh) (hL.act (by omega) hal hR hu2)
    exact zr_zret F hr hlocks hP hD hS w9 (by rw [hw9]) rfl rfl dL_act_300
  have k301 : ∀ (H : Heap) (locs : List Loc) (ls : Array Slot), va_P G.1 vwCl (zCW3 G a c ++ (([(sh, .inr (4, [.ref sv, .ref sa, .ref sc, .ref sl])), (sv, .inl (G.2.1, zn V, .inl (zar (zn V) V))), (sa, .inl (G.2.1, zn V, .inl (zar (zn V) X))), (sc, .inl (G.2.1, 6, .inl (zkt t))), (sl, .inl (G.2.2.1, rows.length, .inr (.inr (.inr (.inr (zlf rows))))))] : va_W) ++ rows.map (zrc G (zn V)))) H → va_D A (zCW3 G a c ++ (([(sh, .inr (4, [.ref sv, .ref sa, .ref sc, .ref sl])), (sv, .inl (G.2.1, zn V, .inl (zar (zn V) V))), (sa, .inl (G.2.1, zn V, .inl (zar (zn V) X))), (sc, .inl (G.2.1, 6, .inl (zkt t))), (sl, .inl (G.2.2.1, rows.length, .inr (.inr (.inr (.inr (zlf rows))))))] : va_W) ++ rows.map (zrc G (zn V)))) → va_S A s.heap H locs → lv_has ls 8 [(3, .int (nI (zn V))), (0, .ref (a 0)), (1, .ref sh), (2, .int x)] → W p l e rm_L_act s m args below meth c9 H locs 0 0 (MQ below (zQr G (fun _ : zLS G a sh (K + 1) => some (.int (nI 1))) (fun w => w.1) A) args s 2189 9483 A) (F0 m 301 ls []) := by
    intro H locs ls hP hD hS hl
    refine lv_iload_n hx hb dL_act_301 rfl (lv_at hl 3 rfl) ?_
    refine lv_iconst (v := nI 4) hx hb dL_act_302 (by decide) ?_
    refine lv_ishr hx hb dL_act_303 ?_
    refine lv_iload_n hx hb dL_act_304 rfl (lv_at hl 0 rfl) ?_
    refine zr_S (As := [.int (x >>> ((nI 4) &&& 31)), .int (nI (zn V))]) (rest := []) (wr := zCW3 G a c ++ (([(sh, .inr (4, [.ref sv, .ref sa, .ref sc, .ref sl])), (sv, .inl (G.2.1, zn V, .inl (zar (zn V) V))), (sa, .inl (G.2.1, zn V, .inl (zar (zn V) X))), (sc, .inl (G.2.1, 6, .inl (zkt t))), (sl, .inl (G.2.2.1, rows.length, .inr (.inr (.inr (.inr (zlf rows))))))] : va_W) ++ rows.map (zrc G (zn V)))) F (l_below l G ((x >>> ((nI 4) &&& 31))) (n := zn V) (by omega) (by omega)) gL_act_L_below rfl rfl rfl zd_L_below ⟨(Nat.le_of_ble_eq_true rfl), (Nat.le_of_ble_eq_true rfl)⟩ rfl rfl (Nat.le_of_ble_eq_true rfl) dL_act_305 ⟨(Nat.le_of_ble_eq_true rfl), (Nat.le_of_ble_eq_true rfl)⟩ hK hP hD hS hA hl.1 (List.Perm.refl _) (fun _ H locs hP hD hS => ?_)
    have hP : va_P G.1 vwCl (zCW3 G a c ++ (([(sh, .inr (4, [.ref sv, .ref sa, .ref sc, .ref sl])), (sv, .inl (G.2.1, zn V, .inl (zar (zn V) V))), (sa, .inl (G.2.1, zn V, .inl (zar (zn V) X))), (sc, .inl (G.2.1, 6, .inl (zkt t))), (sl, .inl (G.2.2.1, rows.length, .inr (.inr (.inr (.inr (zlf rows))))))] : va_W) ++ rows.map (zrc G (zn V)))) H := hP
    have hD : va_D A (zCW3 G a c ++ (([(sh, .inr (4, [.ref sv, .ref sa, .ref sc, .ref sl])), (sv, .inl (G.2.1, zn V, .inl (zar (zn V) V))), (sa, .inl (G.2.1, zn V, .inl (zar (zn V) X))), (sc, .inl (G.2.1, 6, .inl (zkt t))), (sl, .inl (G.2.2.1, rows.length, .inr (.inr (.inr (.inr (zlf rows))))))] : va_W) ++ rows.map (zrc G (zn V)))) := hD
    obtain ⟨j, hj, ej⟩ : ∃ r, r < zn V ∧ zbl ((x >>> ((nI 4) &&& 31))) (zn V) = r := ⟨_, zbl_lt _ (by omega), rfl⟩
    rw [ej]
    refine lv_istore (lv' := [(4, .int (nI j)), (3, .int (nI (zn V))), (0, .ref (a 0)), (1, .ref sh), (2, .int x)]) hx hb dL_act_308 hl (by decide) rfl (fun ls hl => ?_)
    refine lv_iload hx hb dL_act_310 (lv_at hl 0 rfl) ?_
    refine lv_iconst (v := nI 1) hx hb dL_act_312 (by decide) ?_
    refine lv_iadd hx hb dL_act_313 ?_
    refine zt_top (v := (nI (j + 1))) (nI_add j 1) ?_
    refine lv_iload_n hx hb dL_act_314 rfl (lv_at hl 4 rfl) ?_
    refine lv_bipush (v := nI 6) hx hb dL_act_315 (by decide) ?_
    refine lv_ishr hx hb dL_act_317 ?_
    refine lv_iload_n hx hb dL_act_318 rfl (lv_at hl 1 rfl) ?_
    refine lv_iconst (v := nI 1) hx hb dL_act_319 (by decide) ?_
    refine lv_isub hx hb dL_act_320 ?_
    refine zt_top (v := (nI ((zn V) - 1))) (pk_sub (by omega)) ?_
    refine zr_S (As := [.int (x >>> ((nI 6) &&& 31)), .int (nI ((zn V) - 1))]) (rest := [.int (nI (j + 1))]) (wr := zCW3 G a c ++ (([(sh, .inr (4, [.ref sv, .ref sa, .ref sc, .ref sl])), (sv, .inl (G.2.1, zn V, .inl (zar (zn V) V))), (sa, .inl (G.2.1, zn V, .inl (zar (zn V) X))), (sc, .inl (G.2.1, 6, .inl (zkt t))), (sl, .inl (G.2.2.1, rows.length, .inr (.inr (.inr (.inr (zlf rows))))))] : va_W) ++ rows.map (zrc G (zn V)))) F (l_below l G ((x >>> ((nI 6) &&& 31))) (n := (zn V - 1)) (by omega) (by omega)) gL_act_L_below rfl rfl rfl zd_L_below ⟨(Nat.le_of_ble_eq_true rfl), (Nat.le_of_ble_eq_true rfl)⟩ rfl rfl (Nat.le_of_ble_eq_true rfl) dL_act_321 ⟨(Nat.le_of_ble_eq_true rfl), (Nat.le_of_ble_eq_true rfl)⟩ hK hP hD hS hA hl.1 (List.Perm.refl _) (fun _ H locs hP hD hS => ?_)
    have hP : va_P G.1 vwCl (zCW3 G a c ++ (([(sh, .inr (4, [.ref sv, .ref sa, .ref sc, .ref sl])), (sv, .inl (G.2.1, zn V, .inl (zar (zn V) V))), (sa, .inl (G.2.1, zn V, .inl (zar (zn V) X))), (sc, .inl (G.2.1, 6, .inl (zkt t))), (sl, .inl (G.2.2.1, rows.length, .inr (.inr (.inr (.inr (zlf rows))))))] : va_W) ++ rows.map (zrc G (zn V)))) H := hP
    have hD : va_D A (zCW3 G a c ++ (([(sh, .inr (4, [.ref sv, .ref sa, .ref sc, .ref sl])), (sv, .inl (G.2.1, zn V, .inl (zar (zn V) V))), (sa, .inl (G.2.1, zn V, .inl (zar (zn V) X))), (sc, .inl (G.2.1, 6, .inl (zkt t))), (sl, .inl (G.2.2.1, rows.length, .inr (.inr (.inr (.inr (zlf rows))))))] : va_W) ++ rows.map (zrc G (zn V)))) := hD
    obtain ⟨i, hi, ei⟩ : ∃ r, r < (zn V - 1) ∧ zbl ((x >>> ((nI 6) &&& 31))) ((zn V - 1)) = r := ⟨_, zbl_lt _ (by omega), rfl⟩
    rw [ei]
    refine lv_iadd hx hb dL_act_324 ?_
    refine zt_top (v := (nI ((j + 1) + i))) (nI_add (j + 1) i) ?_
    refine lv_iload_n hx hb dL_act_325 rfl (lv_at hl 1 rfl) ?_
    refine lv_irem hx hb dL_act_326 (nI_ne0 (by omega) (by omega)) ?_
    refine zt_top (v := (nI (((j + 1) + i) % (zn V)))) (pk_rem (by omega) (by omega) (by omega)) ?_
    obtain ⟨to, hto, hne, eto⟩ : ∃ to, to < zn V ∧ ¬ j = to ∧ (j + 1 + i) % zn V = to := ⟨_, Nat.mod_lt _ (by omega), by rcases hz with h | h <;> rw [h] at hj hi ⊢ <;> omega, rfl⟩
    rw [eto]
    obtain ⟨ha, hal, ea⟩ := z_pourAct hj hto hne
    refine lv_istore (lv' := [(5, .int (nI to)), (4, .int (nI j)), (3, .int (nI (zn V))), (0, .ref (a 0)), (1, .ref sh), (2, .int x)]) hx hb dL_act_327 hl (by decide) rfl (fun ls hl => ?_)
    refine lv_aload_n hx hb dL_act_329 rfl (lv_at hl 3 rfl) ?_
    refine lv_iload hx hb dL_act_330 (lv_at hl 1 rfl) ?_
    refine lv_iload hx hb dL_act_332 (lv_at hl 0 rfl) ?_
    refine zl_C (As := [.int (nI j), .int (nI to)]) (rest := []) F (q_pour l G a hR hj hto hne) gL_act_X3_pour rfl rfl rfl zd_X3_pour ⟨(Nat.le_of_ble_eq_true rfl), (Nat.le_of_ble_eq_true rfl)⟩ rfl rfl (Nat.le_of_ble_eq_true rfl) dL_act_334 ⟨(Nat.le_of_ble_eq_true rfl), (Nat.le_of_ble_eq_true rfl)⟩ hK hP hD hS hA hl.1 (fun c H locs hR hP hD hS => ?_)
    refine lv_aload_n hx hb dL_act_337 rfl (lv_at hl 4 rfl) ?_
    refine lv_bipush (v := nI 6) hx hb dL_act_338 (by decide) ?_
    refine lv_iconst (v := nI 3) hx hb dL_act_340 (by decide) ?_
    refine lv_iload hx hb dL_act_341 (lv_at hl 1 rfl) ?_
    refine lv_imul hx hb dL_act_343 ?_
    refine zt_top (v := (nI (3 * j))) (pk_mul 3 j) ?_
    refine lv_iadd hx hb dL_act_344 ?_
    refine zt_top (v := (nI (6 + 3 * j))) ((nI_add 6 (3 * j)).trans (congrArg nI (rfl))) ?_
    refine lv_iload hx hb dL_act_345 (lv_at hl 0 rfl) ?_
    refine lv_iadd hx hb dL_act_347 ?_
    refine zt_top (v := (nI (6 + 3 * j + to))) ((nI_add (6 + 3 * j) to).trans (congrArg nI (rfl))) ?_
    refine zl_M (As := [.int (nI (6 + 3 * j + to))]) (rest := [.int (nI (zm V X (6 + 3 * j + to)))]) (u := (sv, sa, sc, sl, rows)) F (s_go l G sh sv sa sc sl rows hz hL.1.ok hr9 (ha) (hal)) gL_act_X4_go rfl rfl rfl zd_X4_go ⟨(Nat.le_of_ble_eq_true rfl), (Nat.le_of_ble_eq_true rfl)⟩ rfl rfl (Nat.le_of_ble_eq_true rfl) dL_act_348 ⟨(Nat.le_of_ble_eq_true rfl), (Nat.le_of_ble_eq_true rfl)⟩ hK hP hD hS hA hl.1 (fun u2 H locs hP hD hS => ?_)
    obtain ⟨u2, hu2⟩ := u2
    refine lv_icmp_ne (tgt := 358) hx hb dL_act_351 (by decide) (fun z => absurd (show (nI (zm V X (6 + 3 * j + to))) = (nI (zm V X (6 + 3 * j + to))) from rfl) z) (fun _ => ?_)
    refine lv_iconst (v := nI 1) hx hb dL_act_354 (by decide) ?_
    refine lv_goto (tgt := 359) hx hb dL_act_355 (by decide) ?_
    obtain ⟨w9, hw9⟩ := zLS.of (G := G) (a := a) (sh := sh) (hL.act ha hal hR hu2)
    exact zr_zret F hr hlocks hP hD hS w9 (by rw [hw9]) rfl rfl dL_act_359
  have k160 : ∀ (H : Heap) (locs : List Loc) (ls : Array Slot), va_P G.1 vwCl (zCW3 G a c ++ (([(sh, .inr (4, [.ref sv, .ref sa, .ref sc, .ref sl])), (sv, .inl (G.2.1, zn V, .inl (zar (zn V) V))), (sa, .inl (G.2.1, zn V, .inl (zar (zn V) X))), (sc, .inl (G.2.1, 6, .inl (zkt t))), (sl, .inl (G.2.2.1, rows.length, .inr (.inr (.inr (.inr (zlf rows))))))] : va_W) ++ rows.map (zrc G (zn V)))) H → va_D A (zCW3 G a c ++ (([(sh, .inr (4, [.ref sv, .ref sa, .ref sc, .ref sl])), (sv, .inl (G.2.1, zn V, .inl (zar (zn V) V))), (sa, .inl (G.2.1, zn V, .inl (zar (zn V) X))), (sc, .inl (G.2.1, 6, .inl (zkt t))), (sl, .inl (G.2.2.1, rows.length, .inr (.inr (.inr (.inr (zlf rows))))))] : va_W) ++ rows.map (zrc G (zn V)))) → va_S A s.heap H locs → lv_has ls 8 [(3, .int (nI (zn V))), (0, .ref (a 0)), (1, .ref sh), (2, .int x)] → W p l e rm_L_act s m args below meth c9 H locs 0 0 (MQ below (zQr G (fun _ : zLS G a sh (K + 1) => some (.int (nI 1))) (fun w => w.1) A) args s 2189 9483 A) (F0 m 160 ls []) := by
    intro H locs ls hP hD hS hl
    refine lv_iload_n hx hb dL_act_160 rfl (lv_at hl 3 rfl) ?_
    refine lv_iconst (v := nI 4) hx hb dL_act_161 (by decide) ?_
    refine lv_ishr hx hb dL_act_162 ?_
    refine lv_iload_n hx hb dL_act_163 rfl (lv_at hl 0 rfl) ?_
    refine zr_S (As := [.int (x >>> ((nI 4) &&& 31)), .int (nI (zn V))]) (rest := []) (wr := zCW3 G a c ++ (([(sh, .inr (4, [.ref sv, .ref sa, .ref sc, .ref sl])), (sv, .inl (G.2.1, zn V, .inl (zar (zn V) V))), (sa, .inl (G.2.1, zn V, .inl (zar (zn V) X))), (sc, .inl (G.2.1, 6, .inl (zkt t))), (sl, .inl (G.2.2.1, rows.length, .inr (.inr (.inr (.inr (zlf rows))))))] : va_W) ++ rows.map (zrc G (zn V)))) F (l_below l G ((x >>> ((nI 4) &&& 31))) (n := zn V) (by omega) (by omega)) gL_act_L_below rfl rfl rfl zd_L_below ⟨(Nat.le_of_ble_eq_true rfl), (Nat.le_of_ble_eq_true rfl)⟩ rfl rfl (Nat.le_of_ble_eq_true rfl) dL_act_164 ⟨(Nat.le_of_ble_eq_true rfl), (Nat.le_of_ble_eq_true rfl)⟩ hK hP hD hS hA hl.1 (List.Perm.refl _) (fun _ H locs hP hD hS => ?_)
    have hP : va_P G.1 vwCl (zCW3 G a c ++ (([(sh, .inr (4, [.ref sv, .ref sa, .ref sc, .ref sl])), (sv, .inl (G.2.1, zn V, .inl (zar (zn V) V))), (sa, .inl (G.2.1, zn V, .inl (zar (zn V) X))), (sc, .inl (G.2.1, 6, .inl (zkt t))), (sl, .inl (G.2.2.1, rows.length, .inr (.inr (.inr (.inr (zlf rows))))))] : va_W) ++ rows.map (zrc G (zn V)))) H := hP
    have hD : va_D A (zCW3 G a c ++ (([(sh, .inr (4, [.ref sv, .ref sa, .ref sc, .ref sl])), (sv, .inl (G.2.1, zn V, .inl (zar (zn V) V))), (sa, .inl (G.2.1, zn V, .inl (zar (zn V) X))), (sc, .inl (G.2.1, 6, .inl (zkt t))), (sl, .inl (G.2.2.1, rows.length, .inr (.inr (.inr (.inr (zlf rows))))))] : va_W) ++ rows.map (zrc G (zn V)))) := hD
    obtain ⟨j, hj, ej⟩ : ∃ r, r < zn V ∧ zbl ((x >>> ((nI 4) &&& 31))) (zn V) = r := ⟨_, zbl_lt _ (by omega), rfl⟩
    rw [ej]
    refine lv_istore (lv' := [(4, .int (nI j)), (3, .int (nI (zn V))), (0, .ref (a 0)), (1, .ref sh), (2, .int x)]) hx hb dL_act_167 hl (by decide) rfl (fun ls hl => ?_)
    refine lv_iconst (v := nI 1) hx hb dL_act_169 (by decide) ?_
    refine lv_iload_n hx hb dL_act_170 rfl (lv_at hl 4 rfl) ?_
    refine lv_bipush (v := nI 6) hx hb dL_act_171 (by decide) ?_
    refine lv_ishr hx hb dL_act_173 ?_
    refine lv_bipush (v := nI 9) hx hb dL_act_174 (by decide) ?_
    refine zr_S (As := [.int (x >>> ((nI 6) &&& 31)), .int (nI 9)]) (rest := [.int (nI 1)]) (wr := zCW3 G a c ++ (([(sh, .inr (4, [.ref sv, .ref sa, .ref sc, .ref sl])), (sv, .inl (G.2.1, zn V, .inl (zar (zn V) V))), (sa, .inl (G.2.1, zn V, .inl (zar (zn V) X))), (sc, .inl (G.2.1, 6, .inl (zkt t))), (sl, .inl (G.2.2.1, rows.length, .inr (.inr (.inr (.inr (zlf rows))))))] : va_W) ++ rows.map (zrc G (zn V)))) F (l_below l G ((x >>> ((nI 6) &&& 31))) (n := 9) (by omega) (by omega)) gL_act_L_below rfl rfl rfl zd_L_below ⟨(Nat.le_of_ble_eq_true rfl), (Nat.le_of_ble_eq_true rfl)⟩ rfl rfl (Nat.le_of_ble_eq_true rfl) dL_act_176 ⟨(Nat.le_of_ble_eq_true rfl), (Nat.le_of_ble_eq_true rfl)⟩ hK hP hD hS hA hl.1 (List.Perm.refl _) (fun _ H locs hP hD hS => ?_)
    have hP : va_P G.1 vwCl (zCW3 G a c ++ (([(sh, .inr (4, [.ref sv, .ref sa, .ref sc, .ref sl])), (sv, .inl (G.2.1, zn V, .inl (zar (zn V) V))), (sa, .inl (G.2.1, zn V, .inl (zar (zn V) X))), (sc, .inl (G.2.1, 6, .inl (zkt t))), (sl, .inl (G.2.2.1, rows.length, .inr (.inr (.inr (.inr (zlf rows))))))] : va_W) ++ rows.map (zrc G (zn V)))) H := hP
    have hD : va_D A (zCW3 G a c ++ (([(sh, .inr (4, [.ref sv, .ref sa, .ref sc, .ref sl])), (sv, .inl (G.2.1, zn V, .inl (zar (zn V) V))), (sa, .inl (G.2.1, zn V, .inl (zar (zn V) X))), (sc, .inl (G.2.1, 6, .inl (zkt t))), (sl, .inl (G.2.2.1, rows.length, .inr (.inr (.inr (.inr (zlf rows))))))] : va_W) ++ rows.map (zrc G (zn V)))) := hD
    obtain ⟨w, hw, ew⟩ : ∃ r, r < 9 ∧ zbl ((x >>> ((nI 6) &&& 31))) 9 = r := ⟨_, zbl_lt _ (by omega), rfl⟩
    rw [ew]
    refine lv_iadd hx hb dL_act_179 ?_
    refine zt_top (v := (nI (1 + w))) (nI_add 1 w) ?_
    refine lv_istore (lv' := [(5, .int (nI (1 + w))), (4, .int (nI j)), (3, .int (nI (zn V))), (0, .ref (a 0)), (1, .ref sh), (2, .int x)]) hx hb dL_act_180 hl (by decide) rfl (fun ls hl => ?_)
    refine lv_aload_n hx hb dL_act_182 rfl (lv_at hl 4 rfl) ?_
    refine lv_iload hx hb dL_act_183 (lv_at hl 1 rfl) ?_
    refine lv_iload hx hb dL_act_185 (lv_at hl 0 rfl) ?_
    refine zl_M (As := [.int (nI j), .int (nI (1 + w))]) (rest := []) (u := (sv, sa, sc, sl, rows)) F (s_may l G sh sv sa sc sl rows hz hr9 hj (by omega)) gL_act_X4_may rfl rfl rfl zd_X4_may ⟨(Nat.le_of_ble_eq_true rfl), (Nat.le_of_ble_eq_true rfl)⟩ rfl rfl (Nat.le_of_ble_eq_true rfl) dL_act_187 ⟨(Nat.le_of_ble_eq_true rfl), (Nat.le_of_ble_eq_true rfl)⟩ hK hP hD hS hA hl.1 (fun _ H locs hP hD hS => ?_)
    refine zt_top (v := zb01 (zMay (zn V) C j (1 + w))) (congrArg zb01 (hu.may (zn V) j (1 + w))) ?_
    have hP : va_P G.1 vwCl (zCW3 G a c ++ (([(sh, .inr (4, [.ref sv, .ref sa, .ref sc, .ref sl])), (sv, .inl (G.2.1, zn V, .inl (zar (zn V) V))), (sa, .inl (G.2.1, zn V, .inl (zar (zn V) X))), (sc, .inl (G.2.1, 6, .inl (zkt t))), (sl, .inl (G.2.2.1, rows.length, .inr (.inr (.inr (.inr (zlf rows))))))] : va_W) ++ rows.map (zrc G (zn V)))) H := hP
    have hD : va_D A (zCW3 G a c ++ (([(sh, .inr (4, [.ref sv, .ref sa, .ref sc, .ref sl])), (sv, .inl (G.2.1, zn V, .inl (zar (zn V) V))), (sa, .inl (G.2.1, zn V, .inl (zar (zn V) X))), (sc, .inl (G.2.1, 6, .inl (zkt t))), (sl, .inl (G.2.2.1, rows.length, .inr (.inr (.inr (.inr (zlf rows))))))] : va_W) ++ rows.map (zrc G (zn V)))) := hD
    refine lv_istore (lv' := [(6, .int (zb01 (zMay (zn V) C j (1 + w)))), (5, .int (nI (1 + w))), (4, .int (nI j)), (3, .int (nI (zn V))), (0, .ref (a 0)), (1, .ref sh), (2, .int x)]) hx hb dL_act_190 hl (by decide) rfl (fun ls hl => ?_)
    refine lv_aload_n hx hb dL_act_192 rfl (lv_at hl 4 rfl) ?_
    refine lv_iload hx hb dL_act_193 (lv_at hl 2 rfl) ?_
    refine lv_iload hx hb dL_act_195 (lv_at hl 1 rfl) ?_
    cases hM : zMay (zn V) C j (1 + w) with
    | false =>
      rw [hM] at hl
      refine zl_CX (As := [.int (nI j), .int (nI (1 + w))]) (rest := []) F (qx_guess l G a hst hR hj (by omega) (by omega) hM) gL_act_X3_guess rfl rfl rfl zd_X3_guess ⟨(Nat.le_of_ble_eq_true rfl), (Nat.le_of_ble_eq_true rfl)⟩ rfl rfl (Nat.le_of_ble_eq_true rfl) dL_act_197 ⟨(Nat.le_of_ble_eq_true rfl), (Nat.le_of_ble_eq_true rfl)⟩ hK hZ hP hD hS hA hl.1 (fun ce q9 H locs hP hD hS hce hcv hcl => ?_)
      refine vx_catch (name := "java/lang/IllegalStateException") hown [] ⟨192, 225, 226, 48⟩ [] htab (fun z hz => by cases hz) (by decide) (by decide) (hts (.classLink RL 48 "java/lang/IllegalStateException") (by decide +kernel)) (hK.cast _ (List.mem_of_getElem? (i := 2) rfl)) hce hcv hcl ?_
      refine lv_astore (lv' := [(7, .ref q9), (6, .int (zb01 false)), (5, .int (nI (1 + w))), (4, .int (nI j)), (3, .int (nI (zn V))), (0, .ref (a 0)), (1, .ref sh), (2, .int x)]) hx hb dL_act_226 hl (by decide) rfl (fun ls hl => ?_)
      refine lv_iload hx hb dL_act_228 (lv_at hl 1 rfl) ?_
      refine lv_if_ne (tgt := 237) hx hb dL_act_230 (by decide) (fun z => absurd (show (zb01 false) = (nI 0) from rfl) z) (fun _ => ?_)
      refine lv_iconst (v := nI 1) hx hb dL_act_233 (by decide) ?_
      refine lv_goto (tgt := 238) hx hb dL_act_234 (by decide) ?_
      obtain ⟨w9, hw9⟩ := zLS.of (G := G) (a := a) (sh := sh) ((hL.re ((zp_guess hR hj (v := 1 + w) (by omega) (by omega)).2.1 hM).2).more (Nat.le_succ K))
      refine W.widen (k := 2189) (n := 9483) (Nat.le_of_ble_eq_true rfl) (Nat.le_of_ble_eq_true rfl) ?_
      exact zr_zret F hr hlocks hP hD hS w9 (by rw [hw9]) rfl rfl dL_act_238
    | true =>
      rw [hM] at hl
      refine zl_C (As := [.int (nI j), .int (nI (1 + w))]) (rest := []) F (q_guess l G a hR hj (by omega) (by omega) hM) gL_act_X3_guess rfl rfl rfl zd_X3_guess ⟨(Nat.le_of_ble_eq_true rfl), (Nat.le_of_ble_eq_true rfl)⟩ rfl rfl (Nat.le_of_ble_eq_true rfl) dL_act_197 ⟨(Nat.le_of_ble_eq_true rfl), (Nat.le_of_ble_eq_true rfl)⟩ hK hP hD hS hA hl.1 (fun c H locs hR hP hD hS => ?_)
      refine lv_istore (lv' := [(7, .int (zb01 (decide (V j = 1 + w)))), (6, .int (zb01 true)), (5, .int (nI (1 + w))), (4, .int (nI j)), (3, .int (nI (zn V))), (0, .ref (a 0)), (1, .ref sh), (2, .int x)]) hx hb dL_act_200 hl (by decide) rfl (fun ls hl => ?_)
      refine lv_iload hx hb dL_act_202 (lv_at hl 1 rfl) ?_
      refine lv_if_eq (tgt := 224) hx hb dL_act_204 (by decide) (fun z => absurd z (show ¬ (zb01 true) = (nI 0) from (show ¬ zb01 true = nI 0 from by decide))) (fun _ => ?_)
      refine lv_iload hx hb dL_act_207 (lv_at hl 0 rfl) ?_
      refine lv_aload_n hx hb dL_act_209 rfl (lv_at hl 6 rfl) ?_
      refine lv_iload hx hb dL_act_210 (lv_at hl 3 rfl) ?_
      refine lv_iload hx hb dL_act_212 (lv_at hl 2 rfl) ?_
      by_cases q : V j = 1 + w
      · refine zl_M (As := [.int (nI j), .int (nI (1 + w))]) (rest := [.int (zb01 (decide (V j = 1 + w)))]) (u := (sv, sa, sc, sl, rows)) F (s_guessT l G sh sv sa sc sl rows hz hr9 hj (by omega) hL.1.ok q) gL_act_X4_guess rfl rfl rfl zd_X4_guess ⟨(Nat.le_of_ble_eq_true rfl), (Nat.le_of_ble_eq_true rfl)⟩ rfl rfl (Nat.le_of_ble_eq_true rfl) dL_act_214 ⟨(Nat.le_of_ble_eq_true rfl), (Nat.le_of_ble_eq_true rfl)⟩ hK hP hD hS hA hl.1 (fun u2 H locs hP hD hS => ?_)
        obtain ⟨u2, hu2⟩ := u2
        refine lv_icmp_ne (tgt := 224) hx hb dL_act_217 (by decide) (fun z => absurd (show (zb01 (decide (V j = 1 + w))) = (nI 1) from (by rw [decide_eq_true q]; rfl)) z) (fun _ => ?_)
        refine lv_iconst (v := nI 1) hx hb dL_act_220 (by decide) ?_
        refine lv_goto (tgt := 225) hx hb dL_act_221 (by decide) ?_
        have ed : decide (V j = 1 + w) = true := decide_eq_true q
        have hP : va_P G.1 vwCl (zCW3 G a c ++ zSW G sh (zn V) V X (zUgs true t) u2) H := hP
        have hD : va_D A (zCW3 G a c ++ zSW G sh (zn V) V X (zUgs true t) u2) := hD
        rw [← ed] at hu2 hP hD
        obtain ⟨w9, hw9⟩ := zLS.of (G := G) (a := a) (sh := sh) (hL.guess (j := j) (v := 1 + w) (by omega) hR hu2)
        refine W.widen (k := 2189) (n := 9483) (Nat.le_of_ble_eq_true rfl) (Nat.le_of_ble_eq_true rfl) ?_
        exact zr_zret F hr hlocks hP hD hS w9 (by rw [hw9]) rfl rfl dL_act_225
      · refine zl_M (As := [.int (nI j), .int (nI (1 + w))]) (rest := [.int (zb01 (decide (V j = 1 + w)))]) (u := (sv, sa, sc, sl, rows)) F (s_guessF l G sh sv sa sc sl rows hz hr9 hj (by omega) hL.1.ok q) gL_act_X4_guess rfl rfl rfl zd_X4_guess ⟨(Nat.le_of_ble_eq_true rfl), (Nat.le_of_ble_eq_true rfl)⟩ rfl rfl (Nat.le_of_ble_eq_true rfl) dL_act_214 ⟨(Nat.le_of_ble_eq_true rfl), (Nat.le_of_ble_eq_true rfl)⟩ hK hP hD hS hA hl.1 (fun u2 H locs hP hD hS => ?_)
        obtain ⟨u2, hu2⟩ := u2
        refine lv_icmp_ne (tgt := 224) hx hb dL_act_217 (by decide) (fun z => absurd (show (zb01 (decide (V j = 1 + w))) = (nI 0) from (by rw [decide_eq_false q]; rfl)) z) (fun _ => ?_)
        refine lv_iconst (v := nI 1) hx hb dL_act_220 (by decide) ?_
        refine lv_goto (tgt := 225) hx hb dL_act_221 (by decide) ?_
        have ed : decide (V j = 1 + w) = false := decide_eq_false q
        have hP : va_P G.1 vwCl (zCW3 G a c ++ zSW G sh (zn V) V X (zUgs false t) u2) H := hP
        have hD : va_D A (zCW3 G a c ++ zSW G sh (zn V) V X (zUgs false t) u2) := hD
        rw [← ed] at hu2 hP hD
        obtain ⟨w9, hw9⟩ := zLS.of (G := G) (a := a) (sh := sh) (hL.guess (j := j) (v := 1 + w) (by omega) hR hu2)
        refine W.widen (k := 2189) (n := 9483) (Nat.le_of_ble_eq_true rfl) (Nat.le_of_ble_eq_true rfl) ?_
        exact zr_zret F hr hlocks hP hD hS w9 (by rw [hw9]) rfl rfl dL_act_225
  have k60 : ∀ (H : Heap) (locs : List Loc) (ls : Array Slot), va_P G.1 vwCl (zCW3 G a c ++ (([(sh, .inr (4, [.ref sv, .ref sa, .ref sc, .ref sl])), (sv, .inl (G.2.1, zn V, .inl (zar (zn V) V))), (sa, .inl (G.2.1, zn V, .inl (zar (zn V) X))), (sc, .inl (G.2.1, 6, .inl (zkt t))), (sl, .inl (G.2.2.1, rows.length, .inr (.inr (.inr (.inr (zlf rows))))))] : va_W) ++ rows.map (zrc G (zn V)))) H → va_D A (zCW3 G a c ++ (([(sh, .inr (4, [.ref sv, .ref sa, .ref sc, .ref sl])), (sv, .inl (G.2.1, zn V, .inl (zar (zn V) V))), (sa, .inl (G.2.1, zn V, .inl (zar (zn V) X))), (sc, .inl (G.2.1, 6, .inl (zkt t))), (sl, .inl (G.2.2.1, rows.length, .inr (.inr (.inr (.inr (zlf rows))))))] : va_W) ++ rows.map (zrc G (zn V)))) → va_S A s.heap H locs → lv_has ls 8 [(3, .int (nI (zn V))), (0, .ref (a 0)), (1, .ref sh), (2, .int x)] → W p l e rm_L_act s m args below meth c9 H locs 0 0 (MQ below (zQr G (fun _ : zLS G a sh (K + 1) => some (.int (nI 1))) (fun w => w.1) A) args s 2189 9483 A) (F0 m 60 ls []) := by
    intro H locs ls hP hD hS hl
    refine lv_iload_n hx hb dL_act_60 rfl (lv_at hl 3 rfl) ?_
    refine lv_iconst (v := nI 4) hx hb dL_act_61 (by decide) ?_
    refine lv_ishr hx hb dL_act_62 ?_
    refine lv_bipush (v := nI 6) hx hb dL_act_63 (by decide) ?_
    refine zr_S (As := [.int (x >>> ((nI 4) &&& 31)), .int (nI 6)]) (rest := []) (wr := zCW3 G a c ++ (([(sh, .inr (4, [.ref sv, .ref sa, .ref sc, .ref sl])), (sv, .inl (G.2.1, zn V, .inl (zar (zn V) V))), (sa, .inl (G.2.1, zn V, .inl (zar (zn V) X))), (sc, .inl (G.2.1, 6, .inl (zkt t))), (sl, .inl (G.2.2.1, rows.length, .inr (.inr (.inr (.inr (zlf rows))))))] : va_W) ++ rows.map (zrc G (zn V)))) F (l_below l G ((x >>> ((nI 4) &&& 31))) (n := 6) (by omega) (by omega)) gL_act_L_below rfl rfl rfl zd_L_below ⟨(Nat.le_of_ble_eq_true rfl), (Nat.le_of_ble_eq_true rfl)⟩ rfl rfl (Nat.le_of_ble_eq_true rfl) dL_act_65 ⟨(Nat.le_of_ble_eq_true rfl), (Nat.le_of_ble_eq_true rfl)⟩ hK hP hD hS hA hl.1 (List.Perm.refl _) (fun _ H locs hP hD hS => ?_)
    have hP : va_P G.1 vwCl (zCW3 G a c ++ (([(sh, .inr (4, [.ref sv, .ref sa, .ref sc, .ref sl])), (sv, .inl (G.2.1, zn V, .inl (zar (zn V) V))), (sa, .inl (G.2.1, zn V, .inl (zar (zn V) X))), (sc, .inl (G.2.1, 6, .inl (zkt t))), (sl, .inl (G.2.2.1, rows.length, .inr (.inr (.inr (.inr (zlf rows))))))] : va_W) ++ rows.map (zrc G (zn V)))) H := hP
    have hD : va_D A (zCW3 G a c ++ (([(sh, .inr (4, [.ref sv, .ref sa, .ref sc, .ref sl])), (sv, .inl (G.2.1, zn V, .inl (zar (zn V) V))), (sa, .inl (G.2.1, zn V, .inl (zar (zn V) X))), (sc, .inl (G.2.1, 6, .inl (zkt t))), (sl, .inl (G.2.2.1, rows.length, .inr (.inr (.inr (.inr (zlf rows))))))] : va_W) ++ rows.map (zrc G (zn V)))) := hD
    obtain ⟨g, hg, eg⟩ : ∃ r, r < 6 ∧ zbl ((x >>> ((nI 4) &&& 31))) 6 = r := ⟨_, zbl_lt _ (by omega), rfl⟩
    rw [eg]
    refine lv_if_le (tgt := 73) hx hb dL_act_68 (by decide) (fun h9 => ?_) (fun h9 => ?_)
    · have hr0 : g = 0 := by
        rcases Nat.eq_zero_or_pos g with q | q
        · exact q
        · exact absurd h9 (nI_nle q (by omega))
      have k98 : ∀ (d : Nat) (H : Heap) (locs : List Loc) (ls : Array Slot), d ≤ 9 → va_P G.1 vwCl (zCW3 G a c ++ (([(sh, .inr (4, [.ref sv, .ref sa, .ref sc, .ref sl])), (sv, .inl (G.2.1, zn V, .inl (zar (zn V) V))), (sa, .inl (G.2.1, zn V, .inl (zar (zn V) X))), (sc, .inl (G.2.1, 6, .inl (zkt t))), (sl, .inl (G.2.2.1, rows.length, .inr (.inr (.inr (.inr (zlf rows))))))] : va_W) ++ rows.map (zrc G (zn V)))) H → va_D A (zCW3 G a c ++ (([(sh, .inr (4, [.ref sv, .ref sa, .ref sc, .ref sl])), (sv, .inl (G.2.1, zn V, .inl (zar (zn V) V))), (sa, .inl (G.2.1, zn V, .inl (zar (zn V) X))), (sc, .inl (G.2.1, 6, .inl (zkt t))), (sl, .inl (G.2.2.1, rows.length, .inr (.inr (.inr (.inr (zlf rows))))))] : va_W) ++ rows.map (zrc G (zn V)))) → va_S A s.heap H locs → lv_has ls 8 [(3, .int (nI (zn V))), (0, .ref (a 0)), (1, .ref sh), (2, .int x)] → W p l e rm_L_act s m args below meth c9 H locs 0 0 (MQ below (zQr G (fun _ : zLS G a sh (K + 1) => some (.int (nI 1))) (fun w => w.1) A) args s 2189 9483 A) (F0 m 98 ls [.int (nI d)]) := by
        intro d H locs ls hd hP hD hS hl
        refine lv_istore (lv' := [(4, .int (nI d)), (3, .int (nI (zn V))), (0, .ref (a 0)), (1, .ref sh), (2, .int x)]) hx hb dL_act_98 hl (by decide) rfl (fun ls hl => ?_)
        refine lv_aload_n hx hb dL_act_100 rfl (lv_at hl 3 rfl) ?_
        refine lv_iconst (v := nI 1) hx hb dL_act_101 (by decide) ?_
        refine lv_iload_n hx hb dL_act_102 rfl (lv_at hl 4 rfl) ?_
        refine lv_bipush (v := nI 6) hx hb dL_act_103 (by decide) ?_
        refine lv_ishr hx hb dL_act_105 ?_
        refine lv_bipush (v := nI 9) hx hb dL_act_106 (by decide) ?_
        refine zr_S (As := [.int (x >>> ((nI 6) &&& 31)), .int (nI 9)]) (rest := [.int (nI 1), .ref sh]) (wr := zCW3 G a c ++ (([(sh, .inr (4, [.ref sv, .ref sa, .ref sc, .ref sl])), (sv, .inl (G.2.1, zn V, .inl (zar (zn V) V))), (sa, .inl (G.2.1, zn V, .inl (zar (zn V) X))), (sc, .inl (G.2.1, 6, .inl (zkt t))), (sl, .inl (G.2.2.1, rows.length, .inr (.inr (.inr (.inr (zlf rows))))))] : va_W) ++ rows.map (zrc G (zn V)))) F (l_below l G ((x >>> ((nI 6) &&& 31))) (n := 9) (by omega) (by omega)) gL_act_L_below rfl rfl rfl zd_L_below ⟨(Nat.le_of_ble_eq_true rfl), (Nat.le_of_ble_eq_true rfl)⟩ rfl rfl (Nat.le_of_ble_eq_true rfl) dL_act_108 ⟨(Nat.le_of_ble_eq_true rfl), (Nat.le_of_ble_eq_true rfl)⟩ hK hP hD hS hA hl.1 (List.Perm.refl _) (fun _ H locs hP hD hS => ?_)
        have hP : va_P G.1 vwCl (zCW3 G a c ++ (([(sh, .inr (4, [.ref sv, .ref sa, .ref sc, .ref sl])), (sv, .inl (G.2.1, zn V, .inl (zar (zn V) V))), (sa, .inl (G.2.1, zn V, .inl (zar (zn V) X))), (sc, .inl (G.2.1, 6, .inl (zkt t))), (sl, .inl (G.2.2.1, rows.length, .inr (.inr (.inr (.inr (zlf rows))))))] : va_W) ++ rows.map (zrc G (zn V)))) H := hP
        have hD : va_D A (zCW3 G a c ++ (([(sh, .inr (4, [.ref sv, .ref sa, .ref sc, .ref sl])), (sv, .inl (G.2.1, zn V, .inl (zar (zn V) V))), (sa, .inl (G.2.1, zn V, .inl (zar (zn V) X))), (sc, .inl (G.2.1, 6, .inl (zkt t))), (sl, .inl (G.2.2.1, rows.length, .inr (.inr (.inr (.inr (zlf rows))))))] : va_W) ++ rows.map (zrc G (zn V)))) := hD
        obtain ⟨r6, hr6, er6⟩ : ∃ r, r < 9 ∧ zbl ((x >>> ((nI 6) &&& 31))) 9 = r := ⟨_, zbl_lt _ (by omega), rfl⟩
        rw [er6]
        refine lv_iadd hx hb dL_act_111 ?_
        refine zt_top (v := (nI (1 + r6))) (nI_add 1 r6) ?_
        refine lv_iconst (v := nI 1) hx hb dL_act_112 (by decide) ?_
        refine lv_iload_n hx hb dL_act_113 rfl (lv_at hl 4 rfl) ?_
        refine lv_bipush (v := nI 7) hx hb dL_act_114 (by decide) ?_
        refine lv_ishr hx hb dL_act_116 ?_
        refine lv_bipush (v := nI 9) hx hb dL_act_117 (by decide) ?_
        refine zr_S (As := [.int (x >>> ((nI 7) &&& 31)), .int (nI 9)]) (rest := [.int (nI 1), .int (nI (1 + r6)), .ref sh]) (wr := zCW3 G a c ++ (([(sh, .inr (4, [.ref sv, .ref sa, .ref sc, .ref sl])), (sv, .inl (G.2.1, zn V, .inl (zar (zn V) V))), (sa, .inl (G.2.1, zn V, .inl (zar (zn V) X))), (sc, .inl (G.2.1, 6, .inl (zkt t))), (sl, .inl (G.2.2.1, rows.length, .inr (.inr (.inr (.inr (zlf rows))))))] : va_W) ++ rows.map (zrc G (zn V)))) F (l_below l G ((x >>> ((nI 7) &&& 31))) (n := 9) (by omega) (by omega)) gL_act_L_below rfl rfl rfl zd_L_below ⟨(Nat.le_of_ble_eq_true rfl), (Nat.le_of_ble_eq_true rfl)⟩ rfl rfl (Nat.le_of_ble_eq_true rfl) dL_act_119 ⟨(Nat.le_of_ble_eq_true rfl), (Nat.le_of_ble_eq_true rfl)⟩ hK hP hD hS hA hl.1 (List.Perm.refl _) (fun _ H locs hP hD hS => ?_)
        have hP : va_P G.1 vwCl (zCW3 G a c ++ (([(sh, .inr (4, [.ref sv, .ref sa, .ref sc, .ref sl])), (sv, .inl (G.2.1, zn V, .inl (zar (zn V) V))), (sa, .inl (G.2.1, zn V, .inl (zar (zn V) X))), (sc, .inl (G.2.1, 6, .inl (zkt t))), (sl, .inl (G.2.2.1, rows.length, .inr (.inr (.inr (.inr (zlf rows))))))] : va_W) ++ rows.map (zrc G (zn V)))) H := hP
        have hD : va_D A (zCW3 G a c ++ (([(sh, .inr (4, [.ref sv, .ref sa, .ref sc, .ref sl])), (sv, .inl (G.2.1, zn V, .inl (zar (zn V) V))), (sa, .inl (G.2.1, zn V, .inl (zar (zn V) X))), (sc, .inl (G.2.1, 6, .inl (zkt t))), (sl, .inl (G.2.2.1, rows.length, .inr (.inr (.inr (.inr (zlf rows))))))] : va_W) ++ rows.map (zrc G (zn V)))) := hD
        obtain ⟨r7, hr7, er7⟩ : ∃ r, r < 9 ∧ zbl ((x >>> ((nI 7) &&& 31))) 9 = r := ⟨_, zbl_lt _ (by omega), rfl⟩
        rw [er7]
        refine lv_iadd hx hb dL_act_122 ?_
        refine zt_top (v := (nI (1 + r7))) (nI_add 1 r7) ?_
        refine lv_iload hx hb dL_act_123 (lv_at hl 0 rfl) ?_
        refine zl_M (As := [.int (nI (1 + r6)), .int (nI (1 + r7)), .int (nI d)]) (rest := []) (u := (sv, sa, sc, sl, rows)) F (s_layOut l G sh sv sa sc sl rows hd) gL_act_X4_layOut rfl rfl rfl zd_X4_layOut ⟨(Nat.le_of_ble_eq_true rfl), (Nat.le_of_ble_eq_true rfl)⟩ rfl rfl (Nat.le_of_ble_eq_true rfl) dL_act_125 ⟨(Nat.le_of_ble_eq_true rfl), (Nat.le_of_ble_eq_true rfl)⟩ hK hP hD hS hA hl.1 (fun u2 H locs hP hD hS => ?_)
        obtain ⟨⟨sv2, sa2, sc2, sl2, rows2⟩, hu2⟩ := u2
        have hP : va_P G.1 vwCl (zCW3 G a c ++ (([(sh, .inr (4, [.ref sv2, .ref sa2, .ref sc2, .ref sl2])), (sv2, .inl (G.2.1, zn (zV3 (1 + r6) (1 + r7) d), .inl (zar (zn (zV3 (1 + r6) (1 + r7) d)) (zV3 (1 + r6) (1 + r7) d)))), (sa2, .inl (G.2.1, zn (zV3 (1 + r6) (1 + r7) d), .inl (zar (zn (zV3 (1 + r6) (1 + r7) d)) (fun _ => 0)))), (sc2, .inl (G.2.1, 6, .inl (zkt (0, 0, 0, 0, 0, 0)))), (sl2, .inl (G.2.2.1, rows2.length, .inr (.inr (.inr (.inr (zlf rows2))))))] : va_W) ++ rows2.map (zrc G (zn (zV3 (1 + r6) (1 + r7) d))))) H := hP
        have hD : va_D A (zCW3 G a c ++ (([(sh, .inr (4, [.ref sv2, .ref sa2, .ref sc2, .ref sl2])), (sv2, .inl (G.2.1, zn (zV3 (1 + r6) (1 + r7) d), .inl (zar (zn (zV3 (1 + r6) (1 + r7) d)) (zV3 (1 + r6) (1 + r7) d)))), (sa2, .inl (G.2.1, zn (zV3 (1 + r6) (1 + r7) d), .inl (zar (zn (zV3 (1 + r6) (1 + r7) d)) (fun _ => 0)))), (sc2, .inl (G.2.1, 6, .inl (zkt (0, 0, 0, 0, 0, 0)))), (sl2, .inl (G.2.2.1, rows2.length, .inr (.inr (.inr (.inr (zlf rows2))))))] : va_W) ++ rows2.map (zrc G (zn (zV3 (1 + r6) (1 + r7) d))))) := hD
        have hz2 := zn_23 (zV3 (1 + r6) (1 + r7) d)
        refine lv_aload_n hx hb dL_act_128 rfl (lv_at hl 2 rfl) ?_
        refine lv_aload_n hx hb dL_act_129 rfl (lv_at hl 3 rfl) ?_
        refine va_get (D := G.1) (ci := 4) (v := .ref sv2) (C := RX4) (T := TX4) (N := 4) hx hb hts in_L_act_X4 hown hK.1 hP 17 rfl rfl 0 (by decide) (hts (.fieldLink RL 22 "JarRiddleLaw$Sim" "volume" "[I") (by decide +kernel)) (fun _ h9 => h9) rfl dL_act_130 ?_
        refine lv_iconst (v := nI 0) hx hb dL_act_133 (by decide) ?_
        refine zr_iald (v := (nI (1 + r6))) hx hb hK hP 18 rfl (by omega) (by omega) (zar_at (by omega)) dL_act_134 ?_
        refine lv_aload_n hx hb dL_act_135 rfl (lv_at hl 3 rfl) ?_
        refine va_get (D := G.1) (ci := 4) (v := .ref sv2) (C := RX4) (T := TX4) (N := 4) hx hb hts in_L_act_X4 hown hK.1 hP 17 rfl rfl 0 (by decide) (hts (.fieldLink RL 22 "JarRiddleLaw$Sim" "volume" "[I") (by decide +kernel)) (fun _ h9 => h9) rfl dL_act_136 ?_
        refine lv_iconst (v := nI 1) hx hb dL_act_139 (by decide) ?_
        refine zr_iald (v := (nI (1 + r7))) hx hb hK hP 18 rfl (by omega) (by omega) (zar_at (by omega)) dL_act_140 ?_
        refine lv_iload hx hb dL_act_141 (lv_at hl 0 rfl) ?_
        refine zl_C (As := [.int (nI (1 + r6)), .int (nI (1 + r7)), .int (nI d)]) (rest := []) F (q_layOut l G a c (v0 := 1 + r6) (v1 := 1 + r7) ⟨by omega, by omega⟩ ⟨by omega, by omega⟩ hd) gL_act_X3_layOut rfl rfl rfl zd_X3_layOut ⟨(Nat.le_of_ble_eq_true rfl), (Nat.le_of_ble_eq_true rfl)⟩ rfl rfl (Nat.le_of_ble_eq_true rfl) dL_act_143 ⟨(Nat.le_of_ble_eq_true rfl), (Nat.le_of_ble_eq_true rfl)⟩ hK hP hD hS hA hl.1 (fun c2 H locs hR2 hP hD hS => ?_)
        refine lv_aload_n hx hb dL_act_146 rfl (lv_at hl 3 rfl) ?_
        refine va_get (D := G.1) (ci := 4) (v := .ref sv2) (C := RX4) (T := TX4) (N := 4) hx hb hts in_L_act_X4 hown hK.1 hP 17 rfl rfl 0 (by decide) (hts (.fieldLink RL 22 "JarRiddleLaw$Sim" "volume" "[I") (by decide +kernel)) (fun _ h9 => h9) rfl dL_act_147 ?_
        refine zr_alen hx hb hK hP 18 rfl dL_act_150 ?_
        refine lv_icmp_ne (tgt := 158) hx hb dL_act_151 (by decide) (fun z => absurd (show (nI (zn (zV3 (1 + r6) (1 + r7) d))) = (nI (zn (zV3 (1 + r6) (1 + r7) d))) from rfl) z) (fun _ => ?_)
        refine lv_iconst (v := nI 1) hx hb dL_act_154 (by decide) ?_
        refine lv_goto (tgt := 159) hx hb dL_act_155 (by decide) ?_
        obtain ⟨w9, hw9⟩ := zLS.of (G := G) (a := a) (sh := sh) (zLok.lay (K + 1) (a := 1 + r6) (b := 1 + r7) ⟨by omega, by omega⟩ ⟨by omega, by omega⟩ hd hR2 hu2)
        refine W.widen (k := 2189) (n := 9483) (Nat.le_of_ble_eq_true rfl) (Nat.le_of_ble_eq_true rfl) ?_
        exact zr_zret F hr hlocks hP hD hS w9 (by rw [hw9]) rfl rfl dL_act_159
      refine lv_iload_n hx hb dL_act_73 rfl (lv_at hl 3 rfl) ?_
      refine lv_bipush (v := nI 9) hx hb dL_act_74 (by decide) ?_
      refine lv_ishr hx hb dL_act_76 ?_
      refine lv_iconst (v := nI 3) hx hb dL_act_77 (by decide) ?_
      refine zr_S (As := [.int (x >>> ((nI 9) &&& 31)), .int (nI 3)]) (rest := []) (wr := zCW3 G a c ++ (([(sh, .inr (4, [.ref sv, .ref sa, .ref sc, .ref sl])), (sv, .inl (G.2.1, zn V, .inl (zar (zn V) V))), (sa, .inl (G.2.1, zn V, .inl (zar (zn V) X))), (sc, .inl (G.2.1, 6, .inl (zkt t))), (sl, .inl (G.2.2.1, rows.length, .inr (.inr (.inr (.inr (zlf rows))))))] : va_W) ++ rows.map (zrc G (zn V)))) F (l_below l G ((x >>> ((nI 9) &&& 31))) (n := 3) (by omega) (by omega)) gL_act_L_below rfl rfl rfl zd_L_below ⟨(Nat.le_of_ble_eq_true rfl), (Nat.le_of_ble_eq_true rfl)⟩ rfl rfl (Nat.le_of_ble_eq_true rfl) dL_act_78 ⟨(Nat.le_of_ble_eq_true rfl), (Nat.le_of_ble_eq_true rfl)⟩ hK hP hD hS hA hl.1 (List.Perm.refl _) (fun _ H locs hP hD hS => ?_)
      have hP : va_P G.1 vwCl (zCW3 G a c ++ (([(sh, .inr (4, [.ref sv, .ref sa, .ref sc, .ref sl])), (sv, .inl (G.2.1, zn V, .inl (zar (zn V) V))), (sa, .inl (G.2.1, zn V, .inl (zar (zn V) X))), (sc, .inl (G.2.1, 6, .inl (zkt t))), (sl, .inl (G.2.2.1, rows.length, .inr (.inr (.inr (.inr (zlf rows))))))] : va_W) ++ rows.map (zrc G (zn V)))) H := hP
      have hD : va_D A (zCW3 G a c ++ (([(sh, .inr (4, [.ref sv, .ref sa, .ref sc, .ref sl])), (sv, .inl (G.2.1, zn V, .inl (zar (zn V) V))), (sa, .inl (G.2.1, zn V, .inl (zar (zn V) X))), (sc, .inl (G.2.1, 6, .inl (zkt t))), (sl, .inl (G.2.2.1, rows.length, .inr (.inr (.inr (.inr (zlf rows))))))] : va_W) ++ rows.map (zrc G (zn V)))) := hD
      obtain ⟨r9, hr9, er9⟩ : ∃ r, r < 3 ∧ zbl ((x >>> ((nI 9) &&& 31))) 3 = r := ⟨_, zbl_lt _ (by omega), rfl⟩
      rw [er9]
      refine lv_if_le (tgt := 88) hx hb dL_act_81 (by decide) (fun h8 => ?_) (fun h8 => ?_)
      · refine lv_iconst (v := nI 1) hx hb dL_act_88 (by decide) ?_
        refine lv_iload_n hx hb dL_act_89 rfl (lv_at hl 3 rfl) ?_
        refine lv_iconst (v := nI 5) hx hb dL_act_90 (by decide) ?_
        refine lv_ishr hx hb dL_act_91 ?_
        refine lv_bipush (v := nI 9) hx hb dL_act_92 (by decide) ?_
        refine zr_S (As := [.int (x >>> ((nI 5) &&& 31)), .int (nI 9)]) (rest := [.int (nI 1)]) (wr := zCW3 G a c ++ (([(sh, .inr (4, [.ref sv, .ref sa, .ref sc, .ref sl])), (sv, .inl (G.2.1, zn V, .inl (zar (zn V) V))), (sa, .inl (G.2.1, zn V, .inl (zar (zn V) X))), (sc, .inl (G.2.1, 6, .inl (zkt t))), (sl, .inl (G.2.2.1, rows.length, .inr (.inr (.inr (.inr (zlf rows))))))] : va_W) ++ rows.map (zrc G (zn V)))) F (l_below l G ((x >>> ((nI 5) &&& 31))) (n := 9) (by omega) (by omega)) gL_act_L_below rfl rfl rfl zd_L_below ⟨(Nat.le_of_ble_eq_true rfl), (Nat.le_of_ble_eq_true rfl)⟩ rfl rfl (Nat.le_of_ble_eq_true rfl) dL_act_94 ⟨(Nat.le_of_ble_eq_true rfl), (Nat.le_of_ble_eq_true rfl)⟩ hK hP hD hS hA hl.1 (List.Perm.refl _) (fun _ H locs hP hD hS => ?_)
        have hP : va_P G.1 vwCl (zCW3 G a c ++ (([(sh, .inr (4, [.ref sv, .ref sa, .ref sc, .ref sl])), (sv, .inl (G.2.1, zn V, .inl (zar (zn V) V))), (sa, .inl (G.2.1, zn V, .inl (zar (zn V) X))), (sc, .inl (G.2.1, 6, .inl (zkt t))), (sl, .inl (G.2.2.1, rows.length, .inr (.inr (.inr (.inr (zlf rows))))))] : va_W) ++ rows.map (zrc G (zn V)))) H := hP
        have hD : va_D A (zCW3 G a c ++ (([(sh, .inr (4, [.ref sv, .ref sa, .ref sc, .ref sl])), (sv, .inl (G.2.1, zn V, .inl (zar (zn V) V))), (sa, .inl (G.2.1, zn V, .inl (zar (zn V) X))), (sc, .inl (G.2.1, 6, .inl (zkt t))), (sl, .inl (G.2.2.1, rows.length, .inr (.inr (.inr (.inr (zlf rows))))))] : va_W) ++ rows.map (zrc G (zn V)))) := hD
        obtain ⟨r5, hr5, er5⟩ : ∃ r, r < 9 ∧ zbl ((x >>> ((nI 5) &&& 31))) 9 = r := ⟨_, zbl_lt _ (by omega), rfl⟩
        rw [er5]
        refine lv_iadd hx hb dL_act_97 ?_
        refine zt_top (v := (nI (1 + r5))) (nI_add 1 r5) ?_
        exact k98 (1 + r5) H locs ls (by omega) hP hD hS hl
      · refine lv_iconst (v := nI 0) hx hb dL_act_84 (by decide) ?_
        refine lv_goto (tgt := 98) hx hb dL_act_85 (by decide) ?_
        exact k98 0 H locs ls (by omega) hP hD hS hl
    · refine lv_iconst (v := nI 1) hx hb dL_act_71 (by decide) ?_
      obtain ⟨w9, hw9⟩ := zLS.of (G := G) (a := a) (sh := sh) ((hL.re hR).more (Nat.le_succ K))
      refine W.widen (k := 2189) (n := 9483) (Nat.le_of_ble_eq_true rfl) (Nat.le_of_ble_eq_true rfl) ?_
      exact zr_zret F hr hlocks hP hD hS w9 (by rw [hw9]) rfl rfl dL_act_72
  refine lv_aload_n hx hb dL_act_0 rfl (lv_at hl 1 rfl) ?_
  refine va_get (D := G.1) (ci := 4) (v := .ref sv) (C := RX4) (T := TX4) (N := 4) hx hb hts in_L_act_X4 hown hK.1 hP 17 rfl rfl 0 (by decide) (hts (.fieldLink RL 22 "JarRiddleLaw$Sim" "volume" "[I") (by decide +kernel)) (fun _ h9 => h9) rfl dL_act_1 ?_
  refine zr_alen hx hb hK hP 18 rfl dL_act_4 ?_
  refine lv_istore_n (lv' := [(3, .int (nI (zn V))), (0, .ref (a 0)), (1, .ref sh), (2, .int x)]) hx hb dL_act_5 rfl hl (by decide) rfl (fun ls hl => ?_)
  refine lv_iload_n hx hb dL_act_6 rfl (lv_at hl 3 rfl) ?_
  refine lv_bipush (v := nI 16) hx hb dL_act_7 (by decide) ?_
  refine zr_S (As := [.int x, .int (nI 16)]) (rest := []) (wr := zCW3 G a c ++ (([(sh, .inr (4, [.ref sv, .ref sa, .ref sc, .ref sl])), (sv, .inl (G.2.1, zn V, .inl (zar (zn V) V))), (sa, .inl (G.2.1, zn V, .inl (zar (zn V) X))), (sc, .inl (G.2.1, 6, .inl (zkt t))), (sl, .inl (G.2.2.1, rows.length, .inr (.inr (.inr (.inr (zlf rows))))))] : va_W) ++ rows.map (zrc G (zn V)))) F (l_below l G x (n := 16) (by omega) (by omega)) gL_act_L_below rfl rfl rfl zd_L_below ⟨(Nat.le_of_ble_eq_true rfl), (Nat.le_of_ble_eq_true rfl)⟩ rfl rfl (Nat.le_of_ble_eq_true rfl) dL_act_9 ⟨(Nat.le_of_ble_eq_true rfl), (Nat.le_of_ble_eq_true rfl)⟩ hK hP hD hS hA hl.1 (List.Perm.refl _) (fun _ H locs hP hD hS => ?_)
  have hP : va_P G.1 vwCl (zCW3 G a c ++ (([(sh, .inr (4, [.ref sv, .ref sa, .ref sc, .ref sl])), (sv, .inl (G.2.1, zn V, .inl (zar (zn V) V))), (sa, .inl (G.2.1, zn V, .inl (zar (zn V) X))), (sc, .inl (G.2.1, 6, .inl (zkt t))), (sl, .inl (G.2.2.1, rows.length, .inr (.inr (.inr (.inr (zlf rows))))))] : va_W) ++ rows.map (zrc G (zn V)))) H := hP
  have hD : va_D A (zCW3 G a c ++ (([(sh, .inr (4, [.ref sv, .ref sa, .ref sc, .ref sl])), (sv, .inl (G.2.1, zn V, .inl (zar (zn V) V))), (sa, .inl (G.2.1, zn V, .inl (zar (zn V) X))), (sc, .inl (G.2.1, 6, .inl (zkt t))), (sl, .inl (G.2.2.1, rows.length, .inr (.inr (.inr (.inr (zlf rows))))))] : va_W) ++ rows.map (zrc G (zn V)))) := hD
  obtain ⟨g, hg, eg⟩ : ∃ r, r < 16 ∧ zbl x 16 = r := ⟨_, zbl_lt _ (by omega), rfl⟩
  rw [eg]
  rcases (by omega : g = 0 ∨ g = 1 ∨ g = 2 ∨ g = 3 ∨ g = 4 ∨ g = 5 ∨ g = 6 ∨ g = 7 ∨ 8 ≤ g) with rfl | rfl | rfl | rfl | rfl | rfl | rfl | rfl | h8
  · refine lv_tableIn (off := 48) (tgt := 60) hx hb dL_act_12 (by decide) (by decide) (by decide +kernel) (by decide) ?_
    exact k60 H locs ls hP hD hS (lv_sub hl [0, 1, 2, 3] rfl)
  · refine lv_tableIn (off := 148) (tgt := 160) hx hb dL_act_12 (by decide) (by decide) (by decide +kernel) (by decide) ?_
    exact k160 H locs ls hP hD hS (lv_sub hl [0, 1, 2, 3] rfl)
  · refine lv_tableIn (off := 148) (tgt := 160) hx hb dL_act_12 (by decide) (by decide) (by decide +kernel) (by decide) ?_
    exact k160 H locs ls hP hD hS (lv_sub hl [0, 1, 2, 3] rfl)
  · refine lv_tableIn (off := 227) (tgt := 239) hx hb dL_act_12 (by decide) (by decide) (by decide +kernel) (by decide) ?_
    exact k239 H locs ls hP hD hS (lv_sub hl [0, 1, 2, 3] rfl)
  · refine lv_tableIn (off := 227) (tgt := 239) hx hb dL_act_12 (by decide) (by decide) (by decide +kernel) (by decide) ?_
    exact k239 H locs ls hP hD hS (lv_sub hl [0, 1, 2, 3] rfl)
  · refine lv_tableIn (off := 227) (tgt := 239) hx hb dL_act_12 (by decide) (by decide) (by decide +kernel) (by decide) ?_
    exact k239 H locs ls hP hD hS (lv_sub hl [0, 1, 2, 3] rfl)
  · refine lv_tableIn (off := 257) (tgt := 269) hx hb dL_act_12 (by decide) (by decide) (by decide +kernel) (by decide) ?_
    exact k269 H locs ls hP hD hS (lv_sub hl [0, 1, 2, 3] rfl)
  · refine lv_tableIn (off := 257) (tgt := 269) hx hb dL_act_12 (by decide) (by decide) (by decide +kernel) (by decide) ?_
    exact k269 H locs ls hP hD hS (lv_sub hl [0, 1, 2, 3] rfl)
  · refine lv_tableOut (tgt := 301) hx hb dL_act_12 (Or.inr (by rw [nI_toInt (by omega)]; omega)) (by decide) ?_
    exact k301 H locs ls hP hD hS (lv_sub hl [0, 1, 2, 3] rfl)
