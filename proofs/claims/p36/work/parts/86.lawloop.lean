/-! the law's loop -/
theorem zb_c {A T k a b c d : Nat} (h : a ≤ k + 21 * A * T) (h2 : b = a + A + A) (h3 : c ≤ b + A) (h4 : d ≤ c + 18 * A) : d ≤ k + 21 * A * (T + 1) := by
  have hm : 21 * A * (T + 1) = 21 * A * T + 21 * A := Nat.mul_succ _ _
  rw [hm]; generalize 21 * A * T = y at h ⊢; omega
section ZSW
variable {p : Program} {l : Launch} {e : Env} {R : Room} {s : State} {m : MethodId} {args : Array Value} {below : List Frame} {meth : Method} {c9 : Code} {H : Heap} {locs : List Loc} {cells slots : Nat} {Q : State → Prop}
variable {cc bytes : ByteArray} {pc nL maxL mc ms n index : Nat} {ls : Array Slot} {rest st0 : List Value} {A : Nat → Prop} {G : zG} {own : String} {Ts ws ws' : List Cond} {y : MethodName} {ret : Option FieldType} {rm : Room}
theorem zr_SW {S : Type} {rv : S → Option Value} {w1 : S → va_W} {wc wr ws0 : va_W} {As : List Value} {hh : List (Nat × Nat × Nat × Nat)}
    (F : CallFix p m c9 cc nL s args Ts own) (hM : zCWr l G y ws rm mc ms As wc rv w1) (hG : GoodIn Ts (va_wsS own index y ws)) (hw : ws = Cond.codeWith y bytes maxL ret hh :: ws') (hrc : rm.cells = mc) (hrs : rm.slots = ms)
    (hd : y.cls ≠ "java/lang/invoke/MethodHandle" ∧ y.cls ≠ "java/lang/invoke/VarHandle" ∧ (parseMethodDescriptor y.desc).map (fun d => d.parameters.length) = some n) (hR9 : rm.frames + 1 ≤ R.frames ∧ 8 + (maxL + 11) + rm.locals ≤ R.locals)
    (hn9 : As.length = n) (hst : st0 = As.reverse ++ rest) (hW : (rest.map fun v => v.category).sum ≤ 8) (hdg : decode cc pc = .ok (.invokestatic index, 3)) (hf9 : cells + mc ≤ R.cells ∧ slots + ms ≤ R.slots)
    (hK : zK G s) (hZ : zZ A s s.heap) (hP : va_P G.1 vwCl ws0 H) (hD : va_D A ws0) (hS : va_S A s.heap H locs) (hA : ∀ q : Nat, s.heap.size ≤ q → A q) (hls : ls.size = nL) (hp : ws0.Perm (wc ++ wr))
    (kk : ∀ (u : S) (H1 : Heap) (locs1 : List Loc), va_P G.1 vwCl (w1 u ++ wr) H1 → va_D A (w1 u ++ wr) → va_S A s.heap H1 locs1 → W p l e R s m args below meth c9 H1 locs1 (cells + mc) (slots + ms) Q (F0 m (pc + 3) ls ((rv u).toList ++ rest))) :
    W p l e R s m args below meth c9 H locs cells slots Q (F0 m pc ls st0) :=
  zp_run (vx_runSW (As := As) (rest := rest) F (hM H.size) (vx_cwSW n F.2.2.2.2 hG hw hrc hrs hd hR9) ⟨zPreX.blind, zp_preX rfl hK hZ hP hD hS hA hp⟩ rfl hn9 hls hst (lv_room hW) hdg hf9) hP hD hS hA hp kk
end ZSW
set_option maxHeartbeats 4000000 in
set_option maxRecDepth 100000 in
theorem lw_loop {p : Program} {l : Launch} {e : Env} {s : State} {m : MethodId} {below : List Frame} {meth : Method} {c9 : Code} {b L : Nat} {xs : Nat → Int32} {G : zG} {a : Nat → Nat} {sh : Nat} (F : CallFix p m c9 cL_law 19 s #[.ref b] wsL_law RL) (hst : l.stackTraces = false) (hK : zK G s) (hZ : zZ (fun q => s.heap.size ≤ q) s s.heap) (hX : va_X b L xs s s.heap) (hbl : b < s.heap.size) (hL9 : L ≤ 260) (ht2 : ∀ w ∈ lw_tbl, w.before #[Value.ref b] s = true) (hr : meth.sig.returnType = ret) (hlocks : meth.locks = false) : ∀ (r tm : Nat) (V X : Nat → Nat) (C : zCs) (t : zU) (c : zS) (sv sa sc sl : Nat) (rows : zRows) (cells slots : Nat) (H : Heap) (locs : List Loc) (ls : Array Slot), tm + r = 8 → zLok (21 * tm) V X C t c (sv, sa, sc, sl, rows) → cells ≤ 1500 + 21 * 2189 * tm → slots ≤ 20000 + 21 * 9483 * tm → va_P G.1 vwCl (zCW3 G a c ++ (([(sh, .inr (4, [.ref sv, .ref sa, .ref sc, .ref sl])), (sv, .inl (G.2.1, zn V, .inl (zar (zn V) V))), (sa, .inl (G.2.1, zn V, .inl (zar (zn V) X))), (sc, .inl (G.2.1, 6, .inl (zkt t))), (sl, .inl (G.2.2.1, rows.length, .inr (.inr (.inr (.inr (zlf rows))))))] : va_W) ++ rows.map (zrc G (zn V)))) H → va_D (fun q : Nat => s.heap.size ≤ q) (zCW3 G a c ++ (([(sh, .inr (4, [.ref sv, .ref sa, .ref sc, .ref sl])), (sv, .inl (G.2.1, zn V, .inl (zar (zn V) V))), (sa, .inl (G.2.1, zn V, .inl (zar (zn V) X))), (sc, .inl (G.2.1, 6, .inl (zkt t))), (sl, .inl (G.2.2.1, rows.length, .inr (.inr (.inr (.inr (zlf rows))))))] : va_W) ++ rows.map (zrc G (zn V)))) → va_S (fun q : Nat => s.heap.size ≤ q) s.heap H locs → lv_has ls 19 [(3, .int (nI tm)), (0, .ref b), (1, .ref (a 0)), (2, .ref sh)] → W p l e room_1 s m #[.ref b] below meth c9 H locs cells slots (lw_Z below #[Value.ref b] s) (F0 m 22 ls []) := by
  obtain ⟨hx, hb, hml, hown, hts⟩ := id F
  have hA : ∀ q : Nat, s.heap.size ≤ q → (fun q : Nat => s.heap.size ≤ q) q := fun _ h => h
  have hbA : ¬ (fun q : Nat => s.heap.size ≤ q) b := Nat.not_le.mpr hbl
  intro r
  induction r with
  | zero =>
    intro tm V X C t c sv sa sc sl rows cells slots H locs ls htm hL hce hsl hP hD hS hl
    obtain rfl : tm = 8 := by omega
    have hR := hL.1
    have hu := hL.2.1
    refine lv_iload_n hx hb dL_law_22 rfl (lv_at hl 0 rfl) ?_
    refine lv_bipush (v := nI 8) hx hb dL_law_23 (by decide) ?_
    refine lv_icmp_ge (tgt := 972) hx hb dL_law_25 (by decide) (fun _ => ?_) (fun z => absurd (show (nI 8) ≤ (nI 8) from (by decide)) z)
    refine lv_aload_n hx hb dL_law_972 rfl (lv_at hl 3 rfl) ?_
    refine lv_aload_n hx hb dL_law_973 rfl (lv_at hl 2 rfl) ?_
    refine zr_V (As := [.ref (a 0)]) (rest := []) (b := sh) (q0 := 17) (ci := 4) (q := (RX4, TX4, 4)) (fs := [.ref sv, .ref sa, .ref sc, .ref sl]) (wr := []) F (s_isSame l G a hR sh sv sa sc sl rows hu) gL_law_X4_isSame rfl rfl rfl zd_X4_isSame ⟨(Nat.le_of_ble_eq_true rfl), (Nat.le_of_ble_eq_true rfl)⟩ rfl rfl (Nat.le_of_ble_eq_true rfl) dL_law_974 ⟨by show cells + 0 ≤ 732097; omega, by show slots + 0 ≤ 6905176; omega⟩ hK hP hD hS hA hl.1 rfl rfl (by rw [List.append_nil]) (fun u9 H locs hP hD hS => ?_)
    refine va_forget (fun q hq => hS.2.2 q hq) ?_
    refine W.widen (k := 732097) (n := 6905176) (by omega) (by omega) ?_
    refine W.base ?_
    exact lw_ret (Drawn.sameBut.refl s.drawn lw_cs) hx hb hr hlocks dL_law_977
  | succ r ih =>
    intro tm V X C t c sv sa sc sl rows cells slots H locs ls htm hL hce hsl hP hD hS hl
    refine lv_iload_n hx hb dL_law_22 rfl (lv_at hl 0 rfl) ?_
    refine lv_bipush (v := nI 8) hx hb dL_law_23 (by decide) ?_
    refine lv_icmp_ge (tgt := 972) hx hb dL_law_25 (by decide) (fun z => absurd z (show ¬ (nI 8) ≤ (nI tm) from (nI_ge (by omega) (by omega)))) (fun _ => ?_)
    refine lv_aload_n hx hb dL_law_28 rfl (lv_at hl 1 rfl) ?_
    refine lv_iload_n hx hb dL_law_29 rfl (lv_at hl 0 rfl) ?_
    refine zr_SB (As := [.ref b, .int (nI tm)]) (rest := []) (wr := zCW3 G a c ++ (([(sh, .inr (4, [.ref sv, .ref sa, .ref sc, .ref sl])), (sv, .inl (G.2.1, zn V, .inl (zar (zn V) V))), (sa, .inl (G.2.1, zn V, .inl (zar (zn V) X))), (sc, .inl (G.2.1, 6, .inl (zkt t))), (sl, .inl (G.2.2.1, rows.length, .inr (.inr (.inr (.inr (zlf rows))))))] : va_W) ++ rows.map (zrc G (zn V)))) F (l_cell l G (b := b) (L := L) (xs := xs) (j := tm) (by omega) (by omega)) gL_law_L_cell rfl rfl rfl zd_L_cell ⟨(Nat.le_of_ble_eq_true rfl), (Nat.le_of_ble_eq_true rfl)⟩ rfl rfl (Nat.le_of_ble_eq_true rfl) dL_law_30 ⟨by show cells + 0 ≤ 732097; omega, by show slots + 0 ≤ 6905176; omega⟩ hX hbl hbA hK hP hD hS hA hl.1 (List.Perm.refl _) (fun _ H locs hP hD hS => ?_)
    have hP : va_P G.1 vwCl (zCW3 G a c ++ (([(sh, .inr (4, [.ref sv, .ref sa, .ref sc, .ref sl])), (sv, .inl (G.2.1, zn V, .inl (zar (zn V) V))), (sa, .inl (G.2.1, zn V, .inl (zar (zn V) X))), (sc, .inl (G.2.1, 6, .inl (zkt t))), (sl, .inl (G.2.2.1, rows.length, .inr (.inr (.inr (.inr (zlf rows))))))] : va_W) ++ rows.map (zrc G (zn V)))) H := hP
    have hD : va_D (fun q : Nat => s.heap.size ≤ q) (zCW3 G a c ++ (([(sh, .inr (4, [.ref sv, .ref sa, .ref sc, .ref sl])), (sv, .inl (G.2.1, zn V, .inl (zar (zn V) V))), (sa, .inl (G.2.1, zn V, .inl (zar (zn V) X))), (sc, .inl (G.2.1, 6, .inl (zkt t))), (sl, .inl (G.2.2.1, rows.length, .inr (.inr (.inr (.inr (zlf rows))))))] : va_W) ++ rows.map (zrc G (zn V)))) := hD
    refine lv_iconst (v := nI 2) hx hb dL_law_33 (by decide) ?_
    refine lv_ishr hx hb dL_law_34 ?_
    refine lv_bipush (v := nI 53) hx hb dL_law_35 (by decide) ?_
    refine lv_iload_n hx hb dL_law_37 rfl (lv_at hl 0 rfl) ?_
    refine lv_imul hx hb dL_law_38 ?_
    refine zt_top (v := (nI (53 * tm))) (pk_mul 53 tm) ?_
    refine lv_iadd hx hb dL_law_39 ?_
    refine lv_topi (fun x hx9 => ?_)
    refine lv_istore (lv' := [(4, .int x), (3, .int (nI tm)), (0, .ref b), (1, .ref (a 0)), (2, .ref sh)]) hx hb dL_law_40 hl (by decide) rfl (fun ls hl => ?_)
    refine lv_iconst (v := nI 0) hx hb dL_law_42 (by decide) ?_
    refine lv_istore (lv' := [(5, .int (nI 0)), (4, .int x), (3, .int (nI tm)), (0, .ref b), (1, .ref (a 0)), (2, .ref sh)]) hx hb dL_law_43 hl (by decide) rfl (fun ls hl => ?_)
    refine lv_iload hx hb dL_law_45 (lv_at hl 0 rfl) ?_
    refine lv_iconst (v := nI 2) hx hb dL_law_47 (by decide) ?_
    refine lv_icmp_ge (tgt := 80) hx hb dL_law_48 (by decide) (fun z => absurd z (show ¬ (nI 2) ≤ (nI 0) from (by decide))) (fun _ => ?_)
    refine lv_aload_n hx hb dL_law_51 rfl (lv_at hl 4 rfl) ?_
    refine lv_aload_n hx hb dL_law_52 rfl (lv_at hl 5 rfl) ?_
    refine lv_iload hx hb dL_law_53 (lv_at hl 1 rfl) ?_
    refine lv_iconst (v := nI 3) hx hb dL_law_55 (by decide) ?_
    refine lv_iload hx hb dL_law_56 (lv_at hl 0 rfl) ?_
    refine lv_imul hx hb dL_law_58 ?_
    refine zt_top (v := (nI 0)) (pk_mul 3 0) ?_
    refine lv_ishr hx hb dL_law_59 ?_
    refine lv_bipush (v := nI 29) hx hb dL_law_60 (by decide) ?_
    refine lv_iload hx hb dL_law_62 (lv_at hl 0 rfl) ?_
    refine lv_imul hx hb dL_law_64 ?_
    refine zt_top (v := (nI 0)) (pk_mul 29 0) ?_
    refine lv_iadd hx hb dL_law_65 ?_
    refine lv_topi (fun y9 hy9 => ?_)
    refine zr_SW (As := [.ref (a 0), .ref sh, .int y9]) (rest := []) (wr := []) F (l_act l hst G a sh sv sa sc sl rows hL y9) gL_law_L_act rfl rfl rfl zd_L_act ⟨(Nat.le_of_ble_eq_true rfl), (Nat.le_of_ble_eq_true rfl)⟩ rfl rfl (Nat.le_of_ble_eq_true rfl) dL_law_66 ⟨by show cells + 2189 ≤ 732097; omega, by show slots + 9483 ≤ 6905176; omega⟩ hK hZ hP hD hS hA hl.1 (by rw [List.append_nil]) (fun u9 H locs hP hD hS => ?_)
    obtain ⟨w9, V, X, C, t, c, ⟨sv, sa, sc, sl, rows⟩, hL, rfl⟩ := u9
    rw [List.append_nil] at hP hD
    have hP : va_P G.1 vwCl (zCW3 G a c ++ (([(sh, .inr (4, [.ref sv, .ref sa, .ref sc, .ref sl])), (sv, .inl (G.2.1, zn V, .inl (zar (zn V) V))), (sa, .inl (G.2.1, zn V, .inl (zar (zn V) X))), (sc, .inl (G.2.1, 6, .inl (zkt t))), (sl, .inl (G.2.2.1, rows.length, .inr (.inr (.inr (.inr (zlf rows))))))] : va_W) ++ rows.map (zrc G (zn V)))) H := hP
    have hD : va_D (fun q : Nat => s.heap.size ≤ q) (zCW3 G a c ++ (([(sh, .inr (4, [.ref sv, .ref sa, .ref sc, .ref sl])), (sv, .inl (G.2.1, zn V, .inl (zar (zn V) V))), (sa, .inl (G.2.1, zn V, .inl (zar (zn V) X))), (sc, .inl (G.2.1, 6, .inl (zkt t))), (sl, .inl (G.2.2.1, rows.length, .inr (.inr (.inr (.inr (zlf rows))))))] : va_W) ++ rows.map (zrc G (zn V)))) := hD
    refine lv_if_ne (tgt := 74) hx hb dL_law_69 (by decide) (fun _ => ?_) (fun z => absurd z (show ¬ (nI 1) = (nI 0) from (by decide)))
    refine lv_iinc (v := (nI 1)) (lv' := [(5, .int (nI 1)), (4, .int x), (3, .int (nI tm)), (0, .ref b), (1, .ref (a 0)), (2, .ref sh)]) hx hb dL_law_74 hl (k := 0) rfl (nI_1 0) (by decide) rfl (fun ls hl => ?_)
    refine lv_goto (tgt := 45) hx hb dL_law_77 (by decide) ?_
    refine lv_iload hx hb dL_law_45 (lv_at hl 0 rfl) ?_
    refine lv_iconst (v := nI 2) hx hb dL_law_47 (by decide) ?_
    refine lv_icmp_ge (tgt := 80) hx hb dL_law_48 (by decide) (fun z => absurd z (show ¬ (nI 2) ≤ (nI 1) from (by decide))) (fun _ => ?_)
    refine lv_aload_n hx hb dL_law_51 rfl (lv_at hl 4 rfl) ?_
    refine lv_aload_n hx hb dL_law_52 rfl (lv_at hl 5 rfl) ?_
    refine lv_iload hx hb dL_law_53 (lv_at hl 1 rfl) ?_
    refine lv_iconst (v := nI 3) hx hb dL_law_55 (by decide) ?_
    refine lv_iload hx hb dL_law_56 (lv_at hl 0 rfl) ?_
    refine lv_imul hx hb dL_law_58 ?_
    refine zt_top (v := (nI 3)) (pk_mul 3 1) ?_
    refine lv_ishr hx hb dL_law_59 ?_
    refine lv_bipush (v := nI 29) hx hb dL_law_60 (by decide) ?_
    refine lv_iload hx hb dL_law_62 (lv_at hl 0 rfl) ?_
    refine lv_imul hx hb dL_law_64 ?_
    refine zt_top (v := (nI 29)) (pk_mul 29 1) ?_
    refine lv_iadd hx hb dL_law_65 ?_
    refine lv_topi (fun y9 hy9 => ?_)
    refine zr_SW (As := [.ref (a 0), .ref sh, .int y9]) (rest := []) (wr := []) F (l_act l hst G a sh sv sa sc sl rows hL y9) gL_law_L_act rfl rfl rfl zd_L_act ⟨(Nat.le_of_ble_eq_true rfl), (Nat.le_of_ble_eq_true rfl)⟩ rfl rfl (Nat.le_of_ble_eq_true rfl) dL_law_66 ⟨by show cells + 2189 + 2189 ≤ 732097; omega, by show slots + 9483 + 9483 ≤ 6905176; omega⟩ hK hZ hP hD hS hA hl.1 (by rw [List.append_nil]) (fun u9 H locs hP hD hS => ?_)
    obtain ⟨w9, V, X, C, t, c, ⟨sv, sa, sc, sl, rows⟩, hL, rfl⟩ := u9
    rw [List.append_nil] at hP hD
    have hP : va_P G.1 vwCl (zCW3 G a c ++ (([(sh, .inr (4, [.ref sv, .ref sa, .ref sc, .ref sl])), (sv, .inl (G.2.1, zn V, .inl (zar (zn V) V))), (sa, .inl (G.2.1, zn V, .inl (zar (zn V) X))), (sc, .inl (G.2.1, 6, .inl (zkt t))), (sl, .inl (G.2.2.1, rows.length, .inr (.inr (.inr (.inr (zlf rows))))))] : va_W) ++ rows.map (zrc G (zn V)))) H := hP
    have hD : va_D (fun q : Nat => s.heap.size ≤ q) (zCW3 G a c ++ (([(sh, .inr (4, [.ref sv, .ref sa, .ref sc, .ref sl])), (sv, .inl (G.2.1, zn V, .inl (zar (zn V) V))), (sa, .inl (G.2.1, zn V, .inl (zar (zn V) X))), (sc, .inl (G.2.1, 6, .inl (zkt t))), (sl, .inl (G.2.2.1, rows.length, .inr (.inr (.inr (.inr (zlf rows))))))] : va_W) ++ rows.map (zrc G (zn V)))) := hD
    refine lv_if_ne (tgt := 74) hx hb dL_law_69 (by decide) (fun _ => ?_) (fun z => absurd z (show ¬ (nI 1) = (nI 0) from (by decide)))
    refine lv_iinc (v := (nI 2)) (lv' := [(5, .int (nI 2)), (4, .int x), (3, .int (nI tm)), (0, .ref b), (1, .ref (a 0)), (2, .ref sh)]) hx hb dL_law_74 hl (k := 0) rfl (nI_1 1) (by decide) rfl (fun ls hl => ?_)
    refine lv_goto (tgt := 45) hx hb dL_law_77 (by decide) ?_
    refine lv_iload hx hb dL_law_45 (lv_at hl 0 rfl) ?_
    refine lv_iconst (v := nI 2) hx hb dL_law_47 (by decide) ?_
    refine lv_icmp_ge (tgt := 80) hx hb dL_law_48 (by decide) (fun _ => ?_) (fun z => absurd (show (nI 2) ≤ (nI 2) from (by decide)) z)
    have hl2 : lv_has ls 19 [(3, .int (nI tm)), (4, .int x), (0, .ref b), (1, .ref (a 0)), (2, .ref sh)] := lv_sub hl [2, 1, 3, 4, 5] rfl
    obtain ⟨cells2, hc2⟩ : ∃ k, k = cells + 2189 + 2189 := ⟨_, rfl⟩
    obtain ⟨slots2, hs2⟩ : ∃ k, k = slots + 9483 + 9483 := ⟨_, rfl⟩
    refine W.widen (k := cells2) (n := slots2) (show cells + 0 + 2189 + 2189 ≤ cells2 by omega) (show slots + 0 + 9483 + 9483 ≤ slots2 by omega) ?_
    refine lw_ask F hst hK hZ hX hbl hL9 hL (by omega) ⟨by show cells2 ≤ 732097; omega, by show slots2 ≤ 6905176; omega⟩ hP hD hS hl2 (fun c H locs ls hR hP hD hS hl => ?_)
    refine lw_best F hst hK hZ hX hbl hL9 ht2 (hL.re hR) (by omega) ⟨by omega, by omega⟩ hP hD hS hl (fun K X C t c sv sa sc sl rows cells3 slots3 H locs ls hL hKk hce3 hsl3 hP hD hS hl => ?_)
    refine lw_ways F hst hK hZ hX hbl hL9 ht2 (K0 := 21 * tm + 3) (by omega) ⟨by omega, by omega⟩ (hL.more (by omega)) hP hD hS hl (fun K X C t c sv sa sc sl rows cells4 slots4 H locs ls hL hKk hce4 hsl4 hP hD hS hl => ?_)
    have hq1 : cells4 ≤ 1500 + 21 * 2189 * (tm + 1) := zb_c (A := 2189) hce hc2 hce3 hce4
    have hq2 : slots4 ≤ 20000 + 21 * 9483 * (tm + 1) := zb_c (A := 9483) hsl hs2 hsl3 hsl4
    refine lv_iinc (v := (nI (tm + 1))) (lv' := [(3, .int (nI (tm + 1))), (4, .int x), (0, .ref b), (1, .ref (a 0)), (2, .ref sh)]) hx hb dL_law_966 hl (k := 0) rfl (nI_1 tm) (by decide) rfl (fun ls hl => ?_)
    refine lv_goto (tgt := 22) hx hb dL_law_969 (by decide) ?_
    exact ih (tm + 1) V X C t c sv sa sc sl rows cells4 slots4 H locs ls (by omega) (hL.more (by omega)) hq1 hq2 hP hD hS (lv_sub hl [0, 2, 3, 4] rfl)
