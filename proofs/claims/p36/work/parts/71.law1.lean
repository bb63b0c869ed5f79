/-! the law's small methods -/
abbrev rm_L_below : Room := { frames := 0, cells := 0, slots := 0, locals := 0 }
abbrev rm_L_cell : Room := { frames := 0, cells := 0, slots := 0, locals := 0 }
abbrev rm_L_done : Room := { frames := 6, cells := 0, slots := 0, locals := 140 }
theorem zd_L_below : yL_below.cls ≠ "java/lang/invoke/MethodHandle" ∧ yL_below.cls ≠ "java/lang/invoke/VarHandle" ∧ (parseMethodDescriptor yL_below.desc).map (fun d => d.parameters.length) = some 2 := by decide +kernel
theorem zd_L_cell : yL_cell.cls ≠ "java/lang/invoke/MethodHandle" ∧ yL_cell.cls ≠ "java/lang/invoke/VarHandle" ∧ (parseMethodDescriptor yL_cell.desc).map (fun d => d.parameters.length) = some 2 := by decide +kernel
theorem zd_L_done : yL_done.cls ≠ "java/lang/invoke/MethodHandle" ∧ yL_done.cls ≠ "java/lang/invoke/VarHandle" ∧ (parseMethodDescriptor yL_done.desc).map (fun d => d.parameters.length) = some 2 := by decide +kernel
/-- a number below n, out of an int -/
def zbl (v : Int32) (n : Nat) : Nat := v.toBitVec.toNat % 2 ^ 31 % n
theorem zbl_lt (v : Int32) {n : Nat} (h : 0 < n) : zbl v n < n := Nat.mod_lt _ h
/-- the script's ints, and what stands for them behind its end -/
def zcel (L : Nat) (xs : Nat → Int32) (j : Nat) : Int32 := if j < L then xs j else (790386105 : Int32) * nI (j + 3)
/-- as zCr, for a method that reads the script -/
def zPreB (G : zG) (sz : Nat) (wc : va_W) (b L : Nat) (xs : Nat → Int32) (U : State) : Prop := zPre G sz wc U ∧ va_X b L xs U U.heap ∧ b < sz ∧ ¬ va_A wc sz b
theorem zPreB.blind {G : zG} {sz : Nat} {wc : va_W} {av : List Value} {b L : Nat} {xs : Nat → Int32} : FrameBlind (va_Pc av (zPreB G sz wc b L xs)) :=
  fun _ U _ _ h => ⟨h.1, ⟨h.2.1.1, h.2.1.2.1, zK.same h.2.1.2.2.1 rfl, h.2.1.2.2.2⟩, va_X.moved (u := U) (Vm.Alike.refl U.vm) h.2.2.1, h.2.2.2⟩
def zCB {S : Type} (l : Launch) (G : zG) (y : MethodName) (ws : List Cond) (rm : Room) (mc ms : Nat) (b L : Nat) (xs : Nat → Int32) (av : List Value) (wc : va_W) (rv : S → Option Value) (w1 : S → va_W) : Prop :=
  ∀ sz : Nat, Met l y ws rm (va_Pc av (zPreB G sz wc b L xs)) (zQr G rv w1 (va_A wc sz)) mc ms (va_A wc sz)
theorem z_ofB {S : Type} {l : Launch} {G : zG} {y : MethodName} {ws ws' : List Cond} {rm : Room} {mc ms : Nat} {b L : Nat} {xs : Nat → Int32} {av : List Value} {wc : va_W} {rv : S → Option Value} {w1 : S → va_W} {cc : ByteArray} {maxL : Nat} {ret : Option FieldType} {own : String}
    (hy : plainName y.cls = true) (hown : y.cls = own) (hw : ws = Cond.code y cc maxL ret :: ws') (hlen : (lg_sl av).length ≤ maxL)
    (body : ∀ (p : Program) (e : Env) (s : State) (m : MethodId) (args : Array Value) (below : List Frame) (meth : Method) (c : Code) (A : Nat → Prop) (H : Heap) (locs : List Loc) (ls : Array Slot),
      CallFix p m c cc maxL s args ws own → meth.sig.returnType = ret → meth.locks = false → va_X b L xs s s.heap → b < s.heap.size → ¬ A b → zK G s → (∀ q : Nat, s.heap.size ≤ q → A q) → va_P G.1 vwCl wc H → va_D A wc → va_S A s.heap H locs → lv_has ls maxL (lv_args 0 av) →
      W p l e rm s m args below meth c H locs 0 0 (MQ below (zQr G rv w1 A) args s mc ms A) (F0 m 0 ls [])) : zCB l G y ws rm mc ms b L xs av wc rv w1 := by
  intro sz
  refine Met.ofW (cc := cc) (maxL := maxL) (ret := ret) hy hw ?_
  intro p e s m args below meth c s₁ B hml hv
  obtain ⟨rfl, ⟨hsz, hP, hK, hD0⟩, hX, hbl, hbA⟩ := hv
  have hts := atoms_spec (ws := ws) B.pre
  have hownF : s.vm.findClass own = some m.cls := by rw [← hown]; exact findClass_of_methodNamed B.named
  subst hsz
  have hD := hD0.self (sz := s.heap.size)
  have hl := lv_entry av (n := maxL) hlen
  rw [lg_entry_eq]
  exact body p e s m av.toArray below meth c (va_A wc s.heap.size) s.heap [] _ ⟨B.exec, B.bytes, hml, hownF, hts⟩ B.returns B.notSynchronized hX hbl hbA hK (fun q h => Or.inr h) hP hD va_S.rf hl
section ZB
variable {p : Program} {l : Launch} {e : Env} {R : Room} {s : State} {m : MethodId} {args : Array Value} {below : List Frame} {meth : Method} {c : Code} {H : Heap} {locs : List Loc} {cells slots : Nat} {Q : State → Prop}
variable {cc bytes : ByteArray} {pc nL maxL mc ms n index : Nat} {ls : Array Slot} {rest st0 : List Value} {A : Nat → Prop} {G : zG} {own : String} {Ts ws ws' : List Cond} {y : MethodName} {ret : Option FieldType} {rm : Room} {b L : Nat} {xs : Nat → Int32}
/-- invokestatic of what reads the script -/
theorem zr_SB {S : Type} {rv : S → Option Value} {w1 : S → va_W} {wc wr ws0 : va_W} {As : List Value}
    (F : CallFix p m c cc nL s args Ts own) (hM : zCB l G y ws rm mc ms b L xs As wc rv w1) (hG : GoodIn Ts (va_wsS own index y ws)) (hw : ws = Cond.code y bytes maxL ret :: ws') (hrc : rm.cells = mc) (hrs : rm.slots = ms)
    (hd : y.cls ≠ "java/lang/invoke/MethodHandle" ∧ y.cls ≠ "java/lang/invoke/VarHandle" ∧ (parseMethodDescriptor y.desc).map (fun d => d.parameters.length) = some n) (hR9 : rm.frames + 1 ≤ R.frames ∧ 8 + (maxL + 11) + rm.locals ≤ R.locals)
    (hn9 : As.length = n) (hst : st0 = As.reverse ++ rest) (hW : (rest.map fun v => v.category).sum ≤ 8) (hdg : decode cc pc = .ok (.invokestatic index, 3)) (hf9 : cells + mc ≤ R.cells ∧ slots + ms ≤ R.slots)
    (hX : va_X b L xs s s.heap) (hbl : b < s.heap.size) (hbA : ¬ A b) (hK : zK G s) (hP : va_P G.1 vwCl ws0 H) (hD : va_D A ws0) (hS : va_S A s.heap H locs) (hA : ∀ q : Nat, s.heap.size ≤ q → A q) (hls : ls.size = nL) (hp : ws0.Perm (wc ++ wr))
    (kk : ∀ (u : S) (H1 : Heap) (locs1 : List Loc), va_P G.1 vwCl (w1 u ++ wr) H1 → va_D A (w1 u ++ wr) → va_S A s.heap H1 locs1 → W p l e R s m args below meth c H1 locs1 (cells + mc) (slots + ms) Q (F0 m (pc + 3) ls ((rv u).toList ++ rest))) :
    W p l e R s m args below meth c H locs cells slots Q (F0 m pc ls st0) := by
  have ok : ∀ w ∈ va_wsS own index y ws, w.before args s = true := fun w h => F.2.2.2.2 w (hG w h).1
  refine zp_run (va_runS (As := As) (rest := rest) F (hM H.size) ⟨callB_of n F.2.2.2.2 (fun w h => hG w (by unfold va_wsS; exact List.mem_append_right _ h)) hw hrc hrs (ok _ (by simp [va_wsS])) (ok _ (by simp [va_wsS])) hd hR9, ok _ (by simp [va_wsS])⟩ ⟨zPreB.blind, fun U hU hW => ⟨rfl, (zp_pre rfl hK hP hD hp U hU hW : va_Pc As _ _ _).2, ?_, Nat.lt_of_lt_of_le hbl hS.1, fun z => hbA (zp_free (hD.perm hp) hS hA b z)⟩⟩ rfl hn9 hls hst (lv_room hW) hdg hf9) hP hD hS hA hp kk
  have h1 : va_X b L xs s H := hX.kept (hS.2.1 b hbl hbA)
  rw [hU]
  exact h1.moved hW.alike
end ZB
set_option maxHeartbeats 4000000 in
set_option maxRecDepth 100000 in
theorem l_below (l : Launch) (G : zG) (v : Int32) {n : Nat} (h0 : 0 < n) (hn : n < 2 ^ 31) : zCr l G yL_below wsL_below rm_L_below 0 0 [.int v, .int (nI n)] [] (fun _ : Unit => some (.int (nI (zbl v n)))) (fun _ : Unit => []) := by
  refine z_ofr (cc := cL_below) (maxL := 2) (ret := (some .int)) (own := RL) (by decide) rfl rfl (Nat.le_of_ble_eq_true rfl) ?_
  intro p e s m args below meth c A H locs ls F hr hlocks hname hK hA hP hD hS hl
  obtain ⟨hx, hb, hml, hown, hts⟩ := id F
  have hl : lv_has ls 2 [(0, .int v), (1, .int (nI n))] := hl
  refine lv_iload_n hx hb dL_below_0 rfl (lv_at hl 0 rfl) ?_
  refine lv_ldc (v := (2147483647 : Int32)) hx hb hown (hts (.constant RL 7 (2147483647)) (by decide +kernel)) dL_below_1 ?_
  refine lv_iand hx hb dL_below_3 ?_
  refine zt_top (v := nI (v.toBitVec.toNat % 2 ^ 31)) (pk_and v (m := (2147483647 : Int32)) 31 (by decide)) ?_
  refine lv_iload_n hx hb dL_below_4 rfl (lv_at hl 1 rfl) ?_
  refine lv_irem hx hb dL_below_5 (nI_ne0 h0 hn) ?_
  refine zt_top (v := (nI ((v.toBitVec.toNat % 2 ^ 31) % n))) (pk_rem (by first | omega | exact Nat.mod_lt _ (by decide)) (by first | omega | exact Nat.mod_lt _ (by decide)) (by first | omega | exact Nat.mod_lt _ (by decide))) ?_
  exact zr_iret F hr hlocks hP hD hS () (List.Perm.refl _) rfl dL_below_6
set_option maxHeartbeats 4000000 in
set_option maxRecDepth 100000 in
theorem l_cell (l : Launch) (G : zG) {b L : Nat} {xs : Nat → Int32} {j : Nat} (hj : j < 100) (hL : L < 1000) : zCB l G yL_cell wsL_cell rm_L_cell 0 0 b L xs [.ref b, .int (nI j)] [] (fun _ : Unit => some (.int (zcel L xs j))) (fun _ : Unit => []) := by
  refine z_ofB (cc := cL_cell) (maxL := 2) (ret := (some .int)) (own := RL) (by decide) rfl rfl (Nat.le_of_ble_eq_true rfl) ?_
  intro p e s m args below meth c A H locs ls F hr hlocks hX hbl hbA hK hA hP hD hS hl
  obtain ⟨hx, hb, hml, hown, hts⟩ := id F
  have hl : lv_has ls 2 [(0, .ref b), (1, .int (nI j))] := hl
  refine lv_iload_n hx hb dL_cell_0 rfl (lv_at hl 1 rfl) ?_
  refine lv_aload_n hx hb dL_cell_1 rfl (lv_at hl 0 rfl) ?_
  refine va_slen hx hb hX hbl hbA hS dL_cell_2 ?_
  refine zt_top (v := nI L) rfl ?_
  by_cases q : j < L
  · refine lv_icmp_ge (tgt := 12) hx hb dL_cell_3 (by decide) (fun z => absurd z (show ¬ (nI L) ≤ (nI j) from (nI_ge (by omega) (by omega)))) (fun _ => ?_)
    refine lv_aload_n hx hb dL_cell_6 rfl (lv_at hl 0 rfl) ?_
    refine lv_iload_n hx hb dL_cell_7 rfl (lv_at hl 1 rfl) ?_
    refine va_sld hx hb hX hbl hbA hS (zt_vp q (by omega)) dL_cell_8 ?_
    rw [nI_clamp (by omega)]
    refine lv_goto (tgt := 18) hx hb dL_cell_9 (by decide) ?_
    exact zr_iret F hr hlocks hP hD hS () (List.Perm.refl _) (by unfold zcel; rw [if_pos q]) dL_cell_18
  · refine lv_icmp_ge (tgt := 12) hx hb dL_cell_3 (by decide) (fun _ => ?_) (fun z => absurd (show (nI L) ≤ (nI j) from (nI_le (by omega) (by omega))) z)
    refine lv_ldc (v := (790386105 : Int32)) hx hb hown (hts (.constant RL 8 (790386105)) (by decide +kernel)) dL_cell_12 ?_
    refine lv_iload_n hx hb dL_cell_14 rfl (lv_at hl 1 rfl) ?_
    refine lv_iconst (v := nI 3) hx hb dL_cell_15 (by decide) ?_
    refine lv_iadd hx hb dL_cell_16 ?_
    refine zt_top (v := (nI (j + 3))) (nI_add j 3) ?_
    refine lv_imul hx hb dL_cell_17 ?_
    exact zr_iret F hr hlocks hP hD hS () (List.Perm.refl _) (by unfold zcel; rw [if_neg q]) dL_cell_18
set_option maxHeartbeats 4000000 in
set_option maxRecDepth 100000 in
theorem l_done (l : Launch) (G : zG) (a : Nat → Nat) {V X : Nat → Nat} {C : zCs} {c : zS} {t : zU} (hR : zR V X C c t) {k : Nat} (hk : k < 15) (hal : zal (zn V) k) : zCr l G yL_done wsL_done rm_L_done 0 0 [.ref (a 0), .int (nI k)] (zCW3 G a c) (fun _ => some (.int (nI (zm V X k)))) (zAf G a V (zmv V X k) (zNew V X k C) (zUact V X k t)) := by
  have hz := zn_23 V
  unfold zal at hal
  by_cases q1 : k < 3
  · rw [if_pos q1] at hal
    refine z_ofr (cc := cL_done) (maxL := 2) (ret := (some .int)) (own := RL) (by decide) rfl rfl (Nat.le_of_ble_eq_true rfl) ?_
    intro p e s m args below meth c9 A H locs ls F hr hlocks hname hK hA hP hD hS hl
    obtain ⟨hx, hb, hml, hown, hts⟩ := id F
    have hl : lv_has ls 2 [(0, .ref (a 0)), (1, .int (nI k))] := hl
    have hP : va_P G.1 vwCl (zCW3 G a c ++ []) H := hP
    have hD : va_D A (zCW3 G a c ++ []) := hD
    refine lv_iload_n hx hb dL_done_0 rfl (lv_at hl 1 rfl) ?_
    refine lv_iconst (v := nI 3) hx hb dL_done_1 (by decide) ?_
    refine lv_icmp_ge (tgt := 13) hx hb dL_done_2 (by decide) (fun z => absurd z (show ¬ (nI 3) ≤ (nI k) from (nI_ge (by omega) (by omega)))) (fun _ => ?_)
    refine lv_aload_n hx hb dL_done_5 rfl (lv_at hl 0 rfl) ?_
    refine lv_iload_n hx hb dL_done_6 rfl (lv_at hl 1 rfl) ?_
    refine zl_C (As := [.int (nI k)]) (rest := []) F (q_fill l G a hR hal) gL_done_X3_fill rfl rfl rfl zd_X3_fill ⟨(Nat.le_of_ble_eq_true rfl), (Nat.le_of_ble_eq_true rfl)⟩ rfl rfl (Nat.le_of_ble_eq_true rfl) dL_done_7 ⟨(Nat.le_of_ble_eq_true rfl), (Nat.le_of_ble_eq_true rfl)⟩ hK hP hD hS hA hl.1 (fun c H locs hR hP hD hS => ?_)
    refine lv_goto (tgt := 41) hx hb dL_done_10 (by decide) ?_
    exact zr_iret F hr hlocks hP hD hS ⟨c, hR⟩ (by rw [List.append_nil]) rfl dL_done_41
  · rw [if_neg q1] at hal
    by_cases q2 : k < 6
    · rw [if_pos q2] at hal
      obtain ⟨j, rfl⟩ : ∃ j, k = 3 + j := ⟨k - 3, by omega⟩
      have hj : j < zn V := by omega
      refine z_ofr (cc := cL_done) (maxL := 2) (ret := (some .int)) (own := RL) (by decide) rfl rfl (Nat.le_of_ble_eq_true rfl) ?_
      intro p e s m args below meth c9 A H locs ls F hr hlocks hname hK hA hP hD hS hl
      obtain ⟨hx, hb, hml, hown, hts⟩ := id F
      have hl : lv_has ls 2 [(0, .ref (a 0)), (1, .int (nI (3 + j)))] := hl
      have hP : va_P G.1 vwCl (zCW3 G a c ++ []) H := hP
      have hD : va_D A (zCW3 G a c ++ []) := hD
      refine lv_iload_n hx hb dL_done_0 rfl (lv_at hl 1 rfl) ?_
      refine lv_iconst (v := nI 3) hx hb dL_done_1 (by decide) ?_
      refine lv_icmp_ge (tgt := 13) hx hb dL_done_2 (by decide) (fun _ => ?_) (fun z => absurd (show (nI 3) ≤ (nI (3 + j)) from (nI_le (by omega) (by omega))) z)
      refine lv_iload_n hx hb dL_done_13 rfl (lv_at hl 1 rfl) ?_
      refine lv_bipush (v := nI 6) hx hb dL_done_14 (by decide) ?_
      refine lv_icmp_ge (tgt := 29) hx hb dL_done_16 (by decide) (fun z => absurd z (show ¬ (nI 6) ≤ (nI (3 + j)) from (nI_ge (by omega) (by omega)))) (fun _ => ?_)
      refine lv_aload_n hx hb dL_done_19 rfl (lv_at hl 0 rfl) ?_
      refine lv_iload_n hx hb dL_done_20 rfl (lv_at hl 1 rfl) ?_
      refine lv_iconst (v := nI 3) hx hb dL_done_21 (by decide) ?_
      refine lv_isub hx hb dL_done_22 ?_
      refine zt_top (v := (nI j)) ((pk_sub (by omega)).trans (congrArg nI (by omega))) ?_
      refine zl_C (As := [.int (nI j)]) (rest := []) F (q_empty l G a hR hj) gL_done_X3_empty rfl rfl rfl zd_X3_empty ⟨(Nat.le_of_ble_eq_true rfl), (Nat.le_of_ble_eq_true rfl)⟩ rfl rfl (Nat.le_of_ble_eq_true rfl) dL_done_23 ⟨(Nat.le_of_ble_eq_true rfl), (Nat.le_of_ble_eq_true rfl)⟩ hK hP hD hS hA hl.1 (fun c H locs hR hP hD hS => ?_)
      refine lv_goto (tgt := 41) hx hb dL_done_26 (by decide) ?_
      exact zr_iret F hr hlocks hP hD hS ⟨c, hR⟩ (by rw [List.append_nil]) rfl dL_done_41
    · rw [if_neg q2] at hal
      obtain ⟨j, i, hj, hi, hne, rfl⟩ : ∃ j i, j < zn V ∧ i < zn V ∧ ¬ j = i ∧ k = 6 + 3 * j + i := ⟨(k - 6) / 3, (k - 6) % 3, hal.1, hal.2.1, hal.2.2, by omega⟩
      refine z_ofr (cc := cL_done) (maxL := 2) (ret := (some .int)) (own := RL) (by decide) rfl rfl (Nat.le_of_ble_eq_true rfl) ?_
      intro p e s m args below meth c9 A H locs ls F hr hlocks hname hK hA hP hD hS hl
      obtain ⟨hx, hb, hml, hown, hts⟩ := id F
      have hl : lv_has ls 2 [(0, .ref (a 0)), (1, .int (nI (6 + 3 * j + i)))] := hl
      have hP : va_P G.1 vwCl (zCW3 G a c ++ []) H := hP
      have hD : va_D A (zCW3 G a c ++ []) := hD
      refine lv_iload_n hx hb dL_done_0 rfl (lv_at hl 1 rfl) ?_
      refine lv_iconst (v := nI 3) hx hb dL_done_1 (by decide) ?_
      refine lv_icmp_ge (tgt := 13) hx hb dL_done_2 (by decide) (fun _ => ?_) (fun z => absurd (show (nI 3) ≤ (nI (6 + 3 * j + i)) from (nI_le (by omega) (by omega))) z)
      refine lv_iload_n hx hb dL_done_13 rfl (lv_at hl 1 rfl) ?_
      refine lv_bipush (v := nI 6) hx hb dL_done_14 (by decide) ?_
      refine lv_icmp_ge (tgt := 29) hx hb dL_done_16 (by decide) (fun _ => ?_) (fun z => absurd (show (nI 6) ≤ (nI (6 + 3 * j + i)) from (nI_le (by omega) (by omega))) z)
      refine lv_aload_n hx hb dL_done_29 rfl (lv_at hl 0 rfl) ?_
      refine lv_iload_n hx hb dL_done_30 rfl (lv_at hl 1 rfl) ?_
      refine lv_iconst (v := nI 3) hx hb dL_done_31 (by decide) ?_
      refine lv_idiv hx hb dL_done_32 (by decide) ?_
      refine zt_top (v := (nI (j + 2))) ((pk_div (by omega) (by omega) (by omega)).trans (congrArg nI (by omega))) ?_
      refine lv_iconst (v := nI 2) hx hb dL_done_33 (by decide) ?_
      refine lv_isub hx hb dL_done_34 ?_
      refine zt_top (v := (nI j)) ((pk_sub (by omega)).trans (congrArg nI (by omega))) ?_
      refine lv_iload_n hx hb dL_done_35 rfl (lv_at hl 1 rfl) ?_
      refine lv_iconst (v := nI 3) hx hb dL_done_36 (by decide) ?_
      refine lv_irem hx hb dL_done_37 (by decide) ?_
      refine zt_top (v := (nI i)) ((pk_rem (by omega) (by omega) (by omega)).trans (congrArg nI (by omega))) ?_
      refine zl_C (As := [.int (nI j), .int (nI i)]) (rest := []) F (q_pour l G a hR hj hi hne) gL_done_X3_pour rfl rfl rfl zd_X3_pour ⟨(Nat.le_of_ble_eq_true rfl), (Nat.le_of_ble_eq_true rfl)⟩ rfl rfl (Nat.le_of_ble_eq_true rfl) dL_done_38 ⟨(Nat.le_of_ble_eq_true rfl), (Nat.le_of_ble_eq_true rfl)⟩ hK hP hD hS hA hl.1 (fun c H locs hR hP hD hS => ?_)
      exact zr_iret F hr hlocks hP hD hS ⟨c, hR⟩ (by rw [List.append_nil]) rfl dL_done_41
