/-! the law's own jars: may, guess -/
abbrev rm_X4_may : Room := { frames := 0, cells := 0, slots := 0, locals := 0 }
abbrev rm_X4_guess : Room := { frames := 0, cells := 1, slots := 729, locals := 0 }
theorem in_X4_may_X4 : ∀ w ∈ u_ws RX4 TX4 4, w ∈ wsX4_may := by decide +kernel
theorem in_X4_guess_X4 : ∀ w ∈ u_ws RX4 TX4 4, w ∈ wsX4_guess := by decide +kernel
theorem zd_X4_may : yX4_may.cls = RX4 ∧ yX4_may.cls ≠ "java/lang/invoke/MethodHandle" ∧ yX4_may.cls ≠ "java/lang/invoke/VarHandle" ∧ (parseMethodDescriptor yX4_may.desc).map (fun d => d.parameters.length) = some 2 := by decide +kernel
theorem zd_X4_guess : yX4_guess.cls = RX4 ∧ yX4_guess.cls ≠ "java/lang/invoke/MethodHandle" ∧ yX4_guess.cls ≠ "java/lang/invoke/VarHandle" ∧ (parseMethodDescriptor yX4_guess.desc).map (fun d => d.parameters.length) = some 2 := by decide +kernel
def zhv (n jar v : Nat) (r : Nat × Nat × Nat) : Bool := decide (zcv n r.2.1 jar = v)
theorem zkt_4 (t : zU) : upd (zkt t) 4 (nI (t.gu + 1)) = zkt (t.ac, t.po, t.si, t.ta, t.gu + 1, t.wr) := by
  funext i; unfold zkt upd; by_cases q : i = 4
  · subst q; rfl
  · dsimp only; simp only [if_neg q]
theorem zkt_5 (t : zU) (x : Nat) : upd (zkt t) 5 (nI (t.wr + x)) = zkt (t.ac, t.po, t.si, t.ta, t.gu, t.wr + x) := by
  funext i; unfold zkt upd; by_cases q : i = 5
  · subst q; rfl
  · dsimp only; simp only [if_neg q]
theorem zlf_add (new : zRows) (r : Nat × Nat × Nat) : va_up (zlf new) new.length (some r.1) = zlf (new ++ [r]) := by
  funext i
  unfold va_up zlf
  by_cases q : i = new.length
  · subst q; rw [if_pos rfl, List.getElem?_append_right (by omega), Nat.sub_self]; rfl
  · rw [if_neg q]
    by_cases z : i < new.length
    · rw [List.getElem?_append_left z]
    · rw [List.getElem?_eq_none (by omega), List.getElem?_eq_none (by rw [List.length_append, List.length_singleton]; omega)]
theorem zlf_nil : zlf [] = fun _ => none := by funext i; rfl
/-- a candidate that a guess leaves -/
def zgg (n jar v : Nat) (b : Bool) (r : Nat × Nat) : Option (Nat × Nat) := if decide (zcv n r.1 jar = v) = b then some r else none
theorem zgg_map (n jar v : Nat) (b : Bool) : ∀ rows : zRows, (rows.filter (fun r => zhv n jar v r == b)).map Prod.snd = (rows.map Prod.snd).filterMap (zgg n jar v b) := by
  intro rows
  induction rows with
  | nil => rfl
  | cons r rows ih =>
    rw [List.map_cons, List.filterMap_cons, List.filter_cons]
    unfold zgg
    by_cases q : decide (zcv n r.2.1 jar = v) = b
    · rw [if_pos q, if_pos (by unfold zhv; rw [q]; exact beq_self_eq_true b), List.map_cons, ih]; rfl
    · rw [if_neg q, if_neg (by unfold zhv; intro z; exact q (beq_iff_eq.mp z)), ih]; rfl
set_option maxHeartbeats 4000000 in
set_option maxRecDepth 100000 in
theorem s_may (l : Launch) (G : zG) {n : Nat} {V X : Nat → Nat} {t : zU} (sh sv sa sc sl : Nat) (rows : zRows) {j v : Nat} (hn : n = 2 ∨ n = 3) (hr9 : zRok n rows) (hj : j < n) (hv : v ≤ 9) : zCr l G yX4_may wsX4_may rm_X4_may 0 0 [.ref sh, .int (nI j), .int (nI v)] (zSW G sh n V X t (sv, sa, sc, sl, rows)) (fun _ : Unit => some (.int (zb01 (rows.any (zhv n j v))))) (fun _ : Unit => (zSW G sh n V X t (sv, sa, sc, sl, rows))) := by
  refine z_ofr (cc := cX4_may) (maxL := 7) (ret := (some .boolean)) (own := RX4) (by decide) rfl rfl (Nat.le_of_ble_eq_true rfl) ?_
  intro p e s m args below meth c A H locs ls F hr hlocks hname hK hA hP hD hS hl
  obtain ⟨hx, hb, hml, hown, hts⟩ := id F
  have hl : lv_has ls 7 [(0, .ref sh), (1, .int (nI j)), (2, .int (nI v))] := hl
  have hP : va_P G.1 vwCl (([(sh, .inr (4, [.ref sv, .ref sa, .ref sc, .ref sl])), (sv, .inl (G.2.1, n, .inl (zar n V))), (sa, .inl (G.2.1, n, .inl (zar n X))), (sc, .inl (G.2.1, 6, .inl (zkt t))), (sl, .inl (G.2.2.1, rows.length, .inr (.inr (.inr (.inr (zlf rows))))))] : va_W) ++ rows.map (zrc G n)) H := hP
  have hD : va_D A (([(sh, .inr (4, [.ref sv, .ref sa, .ref sc, .ref sl])), (sv, .inl (G.2.1, n, .inl (zar n V))), (sa, .inl (G.2.1, n, .inl (zar n X))), (sc, .inl (G.2.1, 6, .inl (zkt t))), (sl, .inl (G.2.2.1, rows.length, .inr (.inr (.inr (.inr (zlf rows))))))] : va_W) ++ rows.map (zrc G n)) := hD
  have hlen := hr9.1
  have loop : ∀ (r k : Nat) (ls : Array Slot), k + r = rows.length → (rows.take k).any (zhv n j v) = false → lv_has ls 7 [(5, .int (nI k)), (4, .int (nI rows.length)), (3, .ref sl), (1, .int (nI j)), (2, .int (nI v))] → W p l e rm_X4_may s m args below meth c H locs 0 0 (MQ below (zQr G (fun _ : Unit => some (.int (zb01 (rows.any (zhv n j v))))) (fun _ : Unit => (zSW G sh n V X t (sv, sa, sc, sl, rows))) A) args s 0 0 A) (F0 m 12 ls []) := by
    intro r
    induction r with
    | zero =>
      intro k ls hk hno hl
      obtain rfl : k = rows.length := by omega
      rw [List.take_length] at hno
      refine lv_iload hx hb dX4_may_12 (lv_at hl 0 rfl) ?_
      refine lv_iload hx hb dX4_may_14 (lv_at hl 1 rfl) ?_
      refine lv_icmp_ge (tgt := 41) hx hb dX4_may_16 (by decide) (fun _ => ?_) (fun z => absurd (show (nI rows.length) ≤ (nI rows.length) from (nI_le (by omega) (by omega))) z)
      refine lv_iconst (v := nI 0) hx hb dX4_may_41 (by decide) ?_
      exact zr_zret F hr hlocks hP hD hS () (List.Perm.refl _) (by rw [hno]; rfl) rfl dX4_may_42
    | succ r ih =>
      intro k ls hk hno hl
      obtain ⟨r9, hr9k⟩ : ∃ r9, rows[k]? = some r9 := ⟨_, List.getElem?_eq_getElem (by omega)⟩
      obtain ⟨q9, N9, s9⟩ := r9
      have ok9 := hr9.2 _ (List.mem_of_getElem? hr9k)
      have c9 := ok9 j (by omega)
      have c9 : zcv n N9 j ≤ 9 := c9.2
      obtain ⟨i9, hi9⟩ := List.getElem?_of_mem (show zrc G n (q9, N9, s9) ∈ (([(sh, .inr (4, [.ref sv, .ref sa, .ref sc, .ref sl])), (sv, .inl (G.2.1, n, .inl (zar n V))), (sa, .inl (G.2.1, n, .inl (zar n X))), (sc, .inl (G.2.1, 6, .inl (zkt t))), (sl, .inl (G.2.2.1, rows.length, .inr (.inr (.inr (.inr (zlf rows))))))] : va_W) ++ rows.map (zrc G n)) from List.mem_append_right _ (List.mem_map.mpr ⟨_, List.mem_of_getElem? hr9k, rfl⟩))
      have etk : rows.take (k + 1) = rows.take k ++ [(q9, N9, s9)] := by rw [List.take_add_one, hr9k]; rfl
      refine lv_iload hx hb dX4_may_12 (lv_at hl 0 rfl) ?_
      refine lv_iload hx hb dX4_may_14 (lv_at hl 1 rfl) ?_
      refine lv_icmp_ge (tgt := 41) hx hb dX4_may_16 (by decide) (fun z => absurd z (show ¬ (nI rows.length) ≤ (nI k) from (nI_ge (by omega) (by omega)))) (fun _ => ?_)
      refine lv_aload_n hx hb dX4_may_19 rfl (lv_at hl 2 rfl) ?_
      refine lv_iload hx hb dX4_may_20 (lv_at hl 0 rfl) ?_
      refine zr_qld (b := q9) hx hb hK hP 4 rfl (by omega) (by omega) (zlf_at hr9k) dX4_may_22 ?_
      refine lv_astore (lv' := [(6, .ref q9), (5, .int (nI k)), (4, .int (nI rows.length)), (3, .ref sl), (1, .int (nI j)), (2, .int (nI v))]) hx hb dX4_may_23 hl (by decide) rfl (fun ls hl => ?_)
      refine lv_aload hx hb dX4_may_25 (lv_at hl 0 rfl) ?_
      refine lv_iload_n hx hb dX4_may_27 rfl (lv_at hl 4 rfl) ?_
      refine zr_iald (v := (nI (zcv n N9 j))) hx hb hK hP i9 hi9 (by omega) (by omega) (zrw_v hj) dX4_may_28 ?_
      refine lv_iload_n hx hb dX4_may_29 rfl (lv_at hl 5 rfl) ?_
      by_cases q : zcv n N9 j = v
      · refine lv_icmp_ne (tgt := 35) hx hb dX4_may_30 (by decide) (fun z => absurd (show (nI (zcv n N9 j)) = (nI v) from (congrArg nI q)) z) (fun _ => ?_)
        refine lv_iconst (v := nI 1) hx hb dX4_may_33 (by decide) ?_
        have hy : rows.any (zhv n j v) = true := List.any_eq_true.mpr ⟨_, List.mem_of_getElem? hr9k, decide_eq_true q⟩
        exact zr_zret F hr hlocks hP hD hS () (List.Perm.refl _) (by rw [hy]; rfl) rfl dX4_may_34
      · refine lv_icmp_ne (tgt := 35) hx hb dX4_may_30 (by decide) (fun _ => ?_) (fun z => absurd z (show ¬ (nI (zcv n N9 j)) = (nI v) from (fun z => q ((nI_eq (by omega) (by omega)).mp z))))
        refine lv_iinc (v := (nI (k + 1))) (lv' := [(5, .int (nI (k + 1))), (6, .ref q9), (4, .int (nI rows.length)), (3, .ref sl), (1, .int (nI j)), (2, .int (nI v))]) hx hb dX4_may_35 hl (k := 1) rfl (nI_1 k) (by decide) rfl (fun ls hl => ?_)
        refine lv_goto (tgt := 12) hx hb dX4_may_38 (by decide) ?_
        refine ih (k + 1) ls (by omega) ?_ (lv_sub hl [0, 2, 3, 4, 5] rfl)
        rw [etk, List.any_append, hno]
        show (false || (decide (zcv n N9 j = v) || false)) = false
        rw [decide_eq_false q]; rfl
  refine lv_aload_n hx hb dX4_may_0 rfl (lv_at hl 0 rfl) ?_
  refine va_get (D := G.1) (ci := 4) (v := .ref sl) (C := RX4) (T := TX4) (N := 4) hx hb hts in_X4_may_X4 hown hK.1 hP 0 rfl rfl 3 (by decide) (hts (.fieldLink RX4 23 "JarRiddleLaw$Sim" "left" "[[I") (by decide +kernel)) (fun _ h9 => h9) rfl dX4_may_1 ?_
  refine lv_astore_n (lv' := [(3, .ref sl), (0, .ref sh), (1, .int (nI j)), (2, .int (nI v))]) hx hb dX4_may_4 rfl hl (by decide) rfl (fun ls hl => ?_)
  refine lv_aload_n hx hb dX4_may_5 rfl (lv_at hl 0 rfl) ?_
  refine zr_alenQ hx hb hK hP 4 rfl dX4_may_6 ?_
  refine lv_istore (lv' := [(4, .int (nI rows.length)), (3, .ref sl), (0, .ref sh), (1, .int (nI j)), (2, .int (nI v))]) hx hb dX4_may_7 hl (by decide) rfl (fun ls hl => ?_)
  refine lv_iconst (v := nI 0) hx hb dX4_may_9 (by decide) ?_
  refine lv_istore (lv' := [(5, .int (nI 0)), (4, .int (nI rows.length)), (3, .ref sl), (0, .ref sh), (1, .int (nI j)), (2, .int (nI v))]) hx hb dX4_may_10 hl (by decide) rfl (fun ls hl => ?_)
  exact loop rows.length 0 ls (by omega) rfl (lv_sub hl [0, 1, 2, 4, 5] rfl)
set_option maxHeartbeats 4000000 in
set_option maxRecDepth 100000 in
theorem s_guessT (l : Launch) (G : zG) {n : Nat} {V X : Nat → Nat} {t : zU} (sh sv sa sc sl : Nat) (rows : zRows) {j v : Nat} (hn : n = 2 ∨ n = 3) (hr9 : zRok n rows) (hj : j < n) (hv : v ≤ 9) (ok : zOK V X) (hb9 : V j = v) : zCr l G yX4_guess wsX4_guess rm_X4_guess 1 729 [.ref sh, .int (nI j), .int (nI v)] (zSW G sh n V X t (sv, sa, sc, sl, rows)) (fun _ : {u : zSu // u.2.2.2.2.map Prod.snd = (rows.map Prod.snd).filterMap (zgg n j v true)} => some (.int (nI 1))) (fun u : {u : zSu // u.2.2.2.2.map Prod.snd = (rows.map Prod.snd).filterMap (zgg n j v true)} => zSW G sh n V X (zUgs true t) u.1) := by
  refine z_ofr (cc := cX4_guess) (maxL := 11) (ret := (some .boolean)) (own := RX4) (by decide) rfl rfl (Nat.le_of_ble_eq_true rfl) ?_
  intro p e s m args below meth c A H locs ls F hr hlocks hname hK hA hP hD hS hl
  obtain ⟨hx, hb, hml, hown, hts⟩ := id F
  have hl : lv_has ls 11 [(0, .ref sh), (1, .int (nI j)), (2, .int (nI v))] := hl
  have hP : va_P G.1 vwCl (([(sh, .inr (4, [.ref sv, .ref sa, .ref sc, .ref sl])), (sv, .inl (G.2.1, n, .inl (zar n V))), (sa, .inl (G.2.1, n, .inl (zar n X))), (sc, .inl (G.2.1, 6, .inl (zkt t))), (sl, .inl (G.2.2.1, rows.length, .inr (.inr (.inr (.inr (zlf rows))))))] : va_W) ++ rows.map (zrc G n)) H := hP
  have hD : va_D A (([(sh, .inr (4, [.ref sv, .ref sa, .ref sc, .ref sl])), (sv, .inl (G.2.1, n, .inl (zar n V))), (sa, .inl (G.2.1, n, .inl (zar n X))), (sc, .inl (G.2.1, 6, .inl (zkt t))), (sl, .inl (G.2.2.1, rows.length, .inr (.inr (.inr (.inr (zlf rows))))))] : va_W) ++ rows.map (zrc G n)) := hD
  have hlen := hr9.1
  have o9 := ok j (by omega)
  have hsub : ∀ k, ((rows.take k).filter (fun r => zhv n j v r == true)).length ≤ (rows.filter (fun r => zhv n j v r == true)).length := fun k => ((List.take_sublist k rows).filter _).length_le
  have hfl : (rows.filter (fun r => zhv n j v r == true)).length ≤ rows.length := List.length_filter_le _ _
  have htl : ∀ k, ((rows.take k).filter (fun r => zhv n j v r == true)).length ≤ k := fun k => Nat.le_trans (List.length_filter_le _ _) (by rw [List.length_take]; exact Nat.min_le_left _ _)
  have loopB : ∀ (mq r k : Nat) (H : Heap) (locs : List Loc) (ls : Array Slot), k + r = rows.length → va_P G.1 vwCl (([(sh, .inr (4, [.ref sv, .ref sa, .ref sc, .ref sl])), (sv, .inl (G.2.1, n, .inl (zar n V))), (sa, .inl (G.2.1, n, .inl (zar n X))), (sc, .inl (G.2.1, 6, .inl (zkt t))), (sl, .inl (G.2.2.1, rows.length, .inr (.inr (.inr (.inr (zlf rows)))))), (mq, .inl (G.2.2.1, (rows.filter (fun r => zhv n j v r == true)).length, .inr (.inr (.inr (.inr (zlf ((rows.take k).filter (fun r => zhv n j v r == true))))))))] : va_W) ++ rows.map (zrc G n)) H → va_D A (([(sh, .inr (4, [.ref sv, .ref sa, .ref sc, .ref sl])), (sv, .inl (G.2.1, n, .inl (zar n V))), (sa, .inl (G.2.1, n, .inl (zar n X))), (sc, .inl (G.2.1, 6, .inl (zkt t))), (sl, .inl (G.2.2.1, rows.length, .inr (.inr (.inr (.inr (zlf rows)))))), (mq, .inl (G.2.2.1, (rows.filter (fun r => zhv n j v r == true)).length, .inr (.inr (.inr (.inr (zlf ((rows.take k).filter (fun r => zhv n j v r == true))))))))] : va_W) ++ rows.map (zrc G n)) → va_S A s.heap H locs → lv_has ls 11 [(9, .int (nI k)), (6, .int (nI (((rows.take k).filter (fun r => zhv n j v r == true)).length))), (8, .int (nI rows.length)), (7, .ref sl), (5, .ref mq), (3, .int (nI 1)), (0, .ref sh), (1, .int (nI j)), (2, .int (nI v))] → W p l e rm_X4_guess s m args below meth c H locs 1 729 (MQ below (zQr G (fun _ : {u : zSu // u.2.2.2.2.map Prod.snd = (rows.map Prod.snd).filterMap (zgg n j v true)} => some (.int (nI 1))) (fun u : {u : zSu // u.2.2.2.2.map Prod.snd = (rows.map Prod.snd).filterMap (zgg n j v true)} => zSW G sh n V X (zUgs true t) u.1) A) args s 1 729 A) (F0 m 104 ls []) := by
    intro mq r
    induction r with
    | zero =>
      intro k H locs ls hk hP hD hS hl
      obtain rfl : k = rows.length := by omega
      rw [List.take_length] at hP hD hl
      refine lv_iload hx hb dX4_guess_104 (lv_at hl 0 rfl) ?_
      refine lv_iload hx hb dX4_guess_106 (lv_at hl 2 rfl) ?_
      refine lv_icmp_ge (tgt := 154) hx hb dX4_guess_108 (by decide) (fun _ => ?_) (fun z => absurd (show (nI rows.length) ≤ (nI rows.length) from (nI_le (by omega) (by omega))) z)
      refine lv_aload_n hx hb dX4_guess_154 rfl (lv_at hl 6 rfl) ?_
      refine lv_aload hx hb dX4_guess_155 (lv_at hl 4 rfl) ?_
      refine va_put (D := G.1) (ci := 4) (v := .ref mq) (ty := .array (.array .int)) (C := RX4) (T := TX4) (N := 4) hx hb hts in_X4_guess_X4 tyX4 tyX4_ok nmX4 hown hK.1 hP hD hS 0 rfl rfl 3 (by decide) (hts (.fieldLink RX4 23 "JarRiddleLaw$Sim" "left" "[[I") (by decide +kernel)) (fun _ h9 => h9) rfl (by decide +kernel) rfl rfl (Nat.le_of_ble_eq_true rfl) dX4_guess_157 (fun H locs hP hD hS => ?_)
      have hP : va_P G.1 vwCl (([(sh, .inr (4, [.ref sv, .ref sa, .ref sc, .ref mq])), (sv, .inl (G.2.1, n, .inl (zar n V))), (sa, .inl (G.2.1, n, .inl (zar n X))), (sc, .inl (G.2.1, 6, .inl (zkt t))), (sl, .inl (G.2.2.1, rows.length, .inr (.inr (.inr (.inr (zlf rows)))))), (mq, .inl (G.2.2.1, (rows.filter (fun r => zhv n j v r == true)).length, .inr (.inr (.inr (.inr (zlf (rows.filter (fun r => zhv n j v r == true))))))))] : va_W) ++ rows.map (zrc G n)) H := hP
      have hD : va_D A (([(sh, .inr (4, [.ref sv, .ref sa, .ref sc, .ref mq])), (sv, .inl (G.2.1, n, .inl (zar n V))), (sa, .inl (G.2.1, n, .inl (zar n X))), (sc, .inl (G.2.1, 6, .inl (zkt t))), (sl, .inl (G.2.2.1, rows.length, .inr (.inr (.inr (.inr (zlf rows)))))), (mq, .inl (G.2.2.1, (rows.filter (fun r => zhv n j v r == true)).length, .inr (.inr (.inr (.inr (zlf (rows.filter (fun r => zhv n j v r == true))))))))] : va_W) ++ rows.map (zrc G n)) := hD
      refine lv_aload_n hx hb dX4_guess_160 rfl (lv_at hl 6 rfl) ?_
      refine va_get (D := G.1) (ci := 4) (v := .ref sc) (C := RX4) (T := TX4) (N := 4) hx hb hts in_X4_guess_X4 hown hK.1 hP 0 rfl rfl 2 (by decide) (hts (.fieldLink RX4 16 "JarRiddleLaw$Sim" "counts" "[I") (by decide +kernel)) (fun _ h9 => h9) rfl dX4_guess_161 ?_
      refine lv_iconst (v := nI 4) hx hb dX4_guess_164 (by decide) ?_
      refine lv_dup2_11 hx hb dX4_guess_165 rfl rfl ?_
      refine zr_iald (v := (nI t.gu)) hx hb hK hP 3 rfl (by omega) (by omega) (rfl) dX4_guess_166 ?_
      refine lv_iconst (v := nI 1) hx hb dX4_guess_167 (by decide) ?_
      refine lv_iadd hx hb dX4_guess_168 ?_
      refine zt_top (v := (nI (t.gu + 1))) (nI_add t.gu 1) ?_
      refine zr_iast (g := zkt (t.ac, t.po, t.si, t.ta, t.gu + 1, t.wr)) hx hb hK hP hD hS 3 rfl (by omega) (by omega) (zkt_4 t) dX4_guess_169 (fun H locs hP hD hS => ?_)
      have hP : va_P G.1 vwCl (([(sh, .inr (4, [.ref sv, .ref sa, .ref sc, .ref mq])), (sv, .inl (G.2.1, n, .inl (zar n V))), (sa, .inl (G.2.1, n, .inl (zar n X))), (sc, .inl (G.2.1, 6, .inl (zkt (t.ac, t.po, t.si, t.ta, t.gu + 1, t.wr)))), (sl, .inl (G.2.2.1, rows.length, .inr (.inr (.inr (.inr (zlf rows)))))), (mq, .inl (G.2.2.1, (rows.filter (fun r => zhv n j v r == true)).length, .inr (.inr (.inr (.inr (zlf (rows.filter (fun r => zhv n j v r == true))))))))] : va_W) ++ rows.map (zrc G n)) H := hP
      have hD : va_D A (([(sh, .inr (4, [.ref sv, .ref sa, .ref sc, .ref mq])), (sv, .inl (G.2.1, n, .inl (zar n V))), (sa, .inl (G.2.1, n, .inl (zar n X))), (sc, .inl (G.2.1, 6, .inl (zkt (t.ac, t.po, t.si, t.ta, t.gu + 1, t.wr)))), (sl, .inl (G.2.2.1, rows.length, .inr (.inr (.inr (.inr (zlf rows)))))), (mq, .inl (G.2.2.1, (rows.filter (fun r => zhv n j v r == true)).length, .inr (.inr (.inr (.inr (zlf (rows.filter (fun r => zhv n j v r == true))))))))] : va_W) ++ rows.map (zrc G n)) := hD
      refine lv_aload_n hx hb dX4_guess_170 rfl (lv_at hl 6 rfl) ?_
      refine va_get (D := G.1) (ci := 4) (v := .ref sc) (C := RX4) (T := TX4) (N := 4) hx hb hts in_X4_guess_X4 hown hK.1 hP 0 rfl rfl 2 (by decide) (hts (.fieldLink RX4 16 "JarRiddleLaw$Sim" "counts" "[I") (by decide +kernel)) (fun _ h9 => h9) rfl dX4_guess_171 ?_
      refine lv_iconst (v := nI 5) hx hb dX4_guess_174 (by decide) ?_
      refine lv_dup2_11 hx hb dX4_guess_175 rfl rfl ?_
      refine zr_iald (v := (nI t.wr)) hx hb hK hP 3 rfl (by omega) (by omega) (rfl) dX4_guess_176 ?_
      refine lv_iload_n hx hb dX4_guess_177 rfl (lv_at hl 5 rfl) ?_
      refine lv_if_eq (tgt := 185) hx hb dX4_guess_178 (by decide) (fun z => absurd z (show ¬ (nI 1) = (nI 0) from (by decide))) (fun _ => ?_)
      refine lv_iconst (v := nI 0) hx hb dX4_guess_181 (by decide) ?_
      refine lv_goto (tgt := 186) hx hb dX4_guess_182 (by decide) ?_
      refine lv_iadd hx hb dX4_guess_186 ?_
      refine zt_top (v := (nI t.wr)) ((nI_add t.wr 0).trans (congrArg nI (by omega))) ?_
      refine zr_iast (g := zkt (t.ac, t.po, t.si, t.ta, t.gu + 1, t.wr + 0)) hx hb hK hP hD hS 3 rfl (by omega) (by omega) (zkt_5 (t.ac, t.po, t.si, t.ta, t.gu + 1, t.wr) 0) dX4_guess_187 (fun H locs hP hD hS => ?_)
      have hP : va_P G.1 vwCl (([(sh, .inr (4, [.ref sv, .ref sa, .ref sc, .ref mq])), (sv, .inl (G.2.1, n, .inl (zar n V))), (sa, .inl (G.2.1, n, .inl (zar n X))), (sc, .inl (G.2.1, 6, .inl (zkt (t.ac, t.po, t.si, t.ta, t.gu + 1, t.wr + 0)))), (sl, .inl (G.2.2.1, rows.length, .inr (.inr (.inr (.inr (zlf rows)))))), (mq, .inl (G.2.2.1, (rows.filter (fun r => zhv n j v r == true)).length, .inr (.inr (.inr (.inr (zlf (rows.filter (fun r => zhv n j v r == true))))))))] : va_W) ++ rows.map (zrc G n)) H := hP
      have hD : va_D A (([(sh, .inr (4, [.ref sv, .ref sa, .ref sc, .ref mq])), (sv, .inl (G.2.1, n, .inl (zar n V))), (sa, .inl (G.2.1, n, .inl (zar n X))), (sc, .inl (G.2.1, 6, .inl (zkt (t.ac, t.po, t.si, t.ta, t.gu + 1, t.wr + 0)))), (sl, .inl (G.2.2.1, rows.length, .inr (.inr (.inr (.inr (zlf rows)))))), (mq, .inl (G.2.2.1, (rows.filter (fun r => zhv n j v r == true)).length, .inr (.inr (.inr (.inr (zlf (rows.filter (fun r => zhv n j v r == true))))))))] : va_W) ++ rows.map (zrc G n)) := hD
      refine lv_iload_n hx hb dX4_guess_188 rfl (lv_at hl 5 rfl) ?_
      have hsl : List.Sublist ([(sh, .inr (4, [.ref sv, .ref sa, .ref sc, .ref mq])), (sv, .inl (G.2.1, n, .inl (zar n V))), (sa, .inl (G.2.1, n, .inl (zar n X))), (sc, .inl (G.2.1, 6, .inl (zkt (t.ac, t.po, t.si, t.ta, t.gu + 1, t.wr + 0)))), (mq, .inl (G.2.2.1, (rows.filter (fun r => zhv n j v r == true)).length, .inr (.inr (.inr (.inr (zlf (rows.filter (fun r => zhv n j v r == true))))))))] ++ (rows.filter (fun r => zhv n j v r == true)).map (zrc G n) : va_W) (([(sh, .inr (4, [.ref sv, .ref sa, .ref sc, .ref mq])), (sv, .inl (G.2.1, n, .inl (zar n V))), (sa, .inl (G.2.1, n, .inl (zar n X))), (sc, .inl (G.2.1, 6, .inl (zkt (t.ac, t.po, t.si, t.ta, t.gu + 1, t.wr + 0)))), (sl, .inl (G.2.2.1, rows.length, .inr (.inr (.inr (.inr (zlf rows)))))), (mq, .inl (G.2.2.1, (rows.filter (fun r => zhv n j v r == true)).length, .inr (.inr (.inr (.inr (zlf (rows.filter (fun r => zhv n j v r == true))))))))] : va_W) ++ rows.map (zrc G n)) := List.Sublist.append (((((((List.Sublist.refl _).cons _).cons₂ _).cons₂ _).cons₂ _).cons₂ _)) (List.filter_sublist.map _)
      have hP := hP.subl hsl
      have hD := hD.subl hsl
      exact zr_zret F hr hlocks hP hD hS ⟨(sv, sa, sc, mq, (rows.filter (fun r => zhv n j v r == true))), zgg_map n j v true rows⟩ (List.Perm.refl _) rfl rfl dX4_guess_189
    | succ r ih =>
      intro k H locs ls hk hP hD hS hl
      obtain ⟨r9, hr9k⟩ : ∃ r9, rows[k]? = some r9 := ⟨_, List.getElem?_eq_getElem (by omega)⟩
      obtain ⟨q9, N9, s9⟩ := r9
      have ok9 := hr9.2 _ (List.mem_of_getElem? hr9k)
      have c9 := ok9 j (by omega)
      have c9 : zcv n N9 j ≤ 9 := c9.2
      obtain ⟨i9, hi9⟩ := List.getElem?_of_mem (show zrc G n (q9, N9, s9) ∈ (([(sh, .inr (4, [.ref sv, .ref sa, .ref sc, .ref sl])), (sv, .inl (G.2.1, n, .inl (zar n V))), (sa, .inl (G.2.1, n, .inl (zar n X))), (sc, .inl (G.2.1, 6, .inl (zkt t))), (sl, .inl (G.2.2.1, rows.length, .inr (.inr (.inr (.inr (zlf rows)))))), (mq, .inl (G.2.2.1, (rows.filter (fun r => zhv n j v r == true)).length, .inr (.inr (.inr (.inr (zlf ((rows.take k).filter (fun r => zhv n j v r == true))))))))] : va_W) ++ rows.map (zrc G n)) from List.mem_append_right _ (List.mem_map.mpr ⟨_, List.mem_of_getElem? hr9k, rfl⟩))
      have etk : rows.take (k + 1) = rows.take k ++ [(q9, N9, s9)] := by rw [List.take_add_one, hr9k]; rfl
      have hs1 := hsub (k + 1)
      have ht9 := htl k
      have hs0 := hsub k
      refine lv_iload hx hb dX4_guess_104 (lv_at hl 0 rfl) ?_
      refine lv_iload hx hb dX4_guess_106 (lv_at hl 2 rfl) ?_
      refine lv_icmp_ge (tgt := 154) hx hb dX4_guess_108 (by decide) (fun z => absurd z (show ¬ (nI rows.length) ≤ (nI k) from (nI_ge (by omega) (by omega)))) (fun _ => ?_)
      refine lv_aload hx hb dX4_guess_111 (lv_at hl 3 rfl) ?_
      refine lv_iload hx hb dX4_guess_113 (lv_at hl 0 rfl) ?_
      refine zr_qld (b := q9) hx hb hK hP 4 rfl (by omega) (by omega) (zlf_at hr9k) dX4_guess_115 ?_
      refine lv_astore (lv' := [(10, .ref q9), (9, .int (nI k)), (6, .int (nI (((rows.take k).filter (fun r => zhv n j v r == true)).length))), (8, .int (nI rows.length)), (7, .ref sl), (5, .ref mq), (3, .int (nI 1)), (0, .ref sh), (1, .int (nI j)), (2, .int (nI v))]) hx hb dX4_guess_116 hl (by decide) rfl (fun ls hl => ?_)
      refine lv_aload hx hb dX4_guess_118 (lv_at hl 0 rfl) ?_
      refine lv_iload_n hx hb dX4_guess_120 rfl (lv_at hl 8 rfl) ?_
      refine zr_iald (v := (nI (zcv n N9 j))) hx hb hK hP i9 hi9 (by omega) (by omega) (zrw_v hj) dX4_guess_121 ?_
      refine lv_iload_n hx hb dX4_guess_122 rfl (lv_at hl 9 rfl) ?_
      by_cases q : zcv n N9 j = v
      · refine lv_icmp_ne (tgt := 130) hx hb dX4_guess_123 (by decide) (fun z => absurd (show (nI (zcv n N9 j)) = (nI v) from (congrArg nI q)) z) (fun _ => ?_)
        refine lv_iconst (v := nI 1) hx hb dX4_guess_126 (by decide) ?_
        refine lv_goto (tgt := 131) hx hb dX4_guess_127 (by decide) ?_
        refine lv_iload_n hx hb dX4_guess_131 rfl (lv_at hl 6 rfl) ?_
        refine lv_icmp_eq (tgt := 138) hx hb dX4_guess_132 (by decide) (fun _ => ?_) (fun z => absurd (show (nI 1) = (nI 1) from (by decide)) z)
        have ef : (rows.take (k + 1)).filter (fun r => zhv n j v r == true) = ((rows.take k).filter (fun r => zhv n j v r == true)) ++ [(q9, N9, s9)] := by rw [etk, List.filter_append]; refine congrArg (List.append _) ?_; rw [List.filter_cons, if_pos (by unfold zhv; simp [q])]; rfl
        rw [ef, List.length_append, List.length_singleton] at hs1
        refine lv_aload hx hb dX4_guess_138 (lv_at hl 5 rfl) ?_
        refine lv_iload hx hb dX4_guess_140 (lv_at hl 2 rfl) ?_
        refine lv_aload hx hb dX4_guess_142 (lv_at hl 0 rfl) ?_
        refine zr_qst (g := zlf (((rows.take k).filter (fun r => zhv n j v r == true)) ++ [(q9, N9, s9)])) hx hb hK hP hD hS 5 rfl (List.mem_append_right _ (List.mem_map.mpr ⟨_, List.mem_of_getElem? hr9k, rfl⟩)) (by omega) (by omega) (zlf_add ((rows.take k).filter (fun r => zhv n j v r == true)) (q9, N9, s9)) dX4_guess_144 (fun H locs hP hD hS => ?_)
        have hP : va_P G.1 vwCl (([(sh, .inr (4, [.ref sv, .ref sa, .ref sc, .ref sl])), (sv, .inl (G.2.1, n, .inl (zar n V))), (sa, .inl (G.2.1, n, .inl (zar n X))), (sc, .inl (G.2.1, 6, .inl (zkt t))), (sl, .inl (G.2.2.1, rows.length, .inr (.inr (.inr (.inr (zlf rows)))))), (mq, .inl (G.2.2.1, (rows.filter (fun r => zhv n j v r == true)).length, .inr (.inr (.inr (.inr (zlf (((rows.take k).filter (fun r => zhv n j v r == true)) ++ [(q9, N9, s9)])))))))] : va_W) ++ rows.map (zrc G n)) H := hP
        have hD : va_D A (([(sh, .inr (4, [.ref sv, .ref sa, .ref sc, .ref sl])), (sv, .inl (G.2.1, n, .inl (zar n V))), (sa, .inl (G.2.1, n, .inl (zar n X))), (sc, .inl (G.2.1, 6, .inl (zkt t))), (sl, .inl (G.2.2.1, rows.length, .inr (.inr (.inr (.inr (zlf rows)))))), (mq, .inl (G.2.2.1, (rows.filter (fun r => zhv n j v r == true)).length, .inr (.inr (.inr (.inr (zlf (((rows.take k).filter (fun r => zhv n j v r == true)) ++ [(q9, N9, s9)])))))))] : va_W) ++ rows.map (zrc G n)) := hD
        refine lv_iinc (v := (nI ((((rows.take k).filter (fun r => zhv n j v r == true)).length) + 1))) (lv' := [(6, .int (nI ((((rows.take k).filter (fun r => zhv n j v r == true)).length) + 1))), (10, .ref q9), (9, .int (nI k)), (8, .int (nI rows.length)), (7, .ref sl), (5, .ref mq), (3, .int (nI 1)), (0, .ref sh), (1, .int (nI j)), (2, .int (nI v))]) hx hb dX4_guess_145 hl (k := 2) rfl (nI_1 (((rows.take k).filter (fun r => zhv n j v r == true)).length)) (by decide) rfl (fun ls hl => ?_)
        refine lv_iinc (v := (nI (k + 1))) (lv' := [(9, .int (nI (k + 1))), (6, .int (nI ((((rows.take k).filter (fun r => zhv n j v r == true)).length) + 1))), (10, .ref q9), (8, .int (nI rows.length)), (7, .ref sl), (5, .ref mq), (3, .int (nI 1)), (0, .ref sh), (1, .int (nI j)), (2, .int (nI v))]) hx hb dX4_guess_148 hl (k := 2) rfl (nI_1 k) (by decide) rfl (fun ls hl => ?_)
        refine lv_goto (tgt := 104) hx hb dX4_guess_151 (by decide) ?_
        refine ih (k + 1) H locs ls (by omega) (by rw [ef]; exact hP) (by rw [ef]; exact hD) hS (by rw [ef, List.length_append, List.length_singleton]; exact lv_sub hl [0, 1, 3, 4, 5, 6, 7, 8, 9] rfl)
      · refine lv_icmp_ne (tgt := 130) hx hb dX4_guess_123 (by decide) (fun _ => ?_) (fun z => absurd z (show ¬ (nI (zcv n N9 j)) = (nI v) from (fun z => q ((nI_eq (by omega) (by omega)).mp z))))
        refine lv_iconst (v := nI 0) hx hb dX4_guess_130 (by decide) ?_
        refine lv_iload_n hx hb dX4_guess_131 rfl (lv_at hl 6 rfl) ?_
        refine lv_icmp_eq (tgt := 138) hx hb dX4_guess_132 (by decide) (fun z => absurd z (show ¬ (nI 0) = (nI 1) from (by decide))) (fun _ => ?_)
        refine lv_goto (tgt := 148) hx hb dX4_guess_135 (by decide) ?_
        have ef : (rows.take (k + 1)).filter (fun r => zhv n j v r == true) = ((rows.take k).filter (fun r => zhv n j v r == true)) := by rw [etk, List.filter_append, List.filter_cons, if_neg (by unfold zhv; simp [q])]; exact List.append_nil _
        refine lv_iinc (v := (nI (k + 1))) (lv' := [(9, .int (nI (k + 1))), (10, .ref q9), (6, .int (nI (((rows.take k).filter (fun r => zhv n j v r == true)).length))), (8, .int (nI rows.length)), (7, .ref sl), (5, .ref mq), (3, .int (nI 1)), (0, .ref sh), (1, .int (nI j)), (2, .int (nI v))]) hx hb dX4_guess_148 hl (k := 1) rfl (nI_1 k) (by decide) rfl (fun ls hl => ?_)
        refine lv_goto (tgt := 104) hx hb dX4_guess_151 (by decide) ?_
        refine ih (k + 1) H locs ls (by omega) (by rw [ef]; exact hP) (by rw [ef]; exact hD) hS (by rw [ef]; exact lv_sub hl [0, 2, 3, 4, 5, 6, 7, 8, 9] rfl)
  have loopA : ∀ (r k : Nat) (ls : Array Slot), k + r = rows.length → lv_has ls 11 [(7, .int (nI k)), (4, .int (nI (((rows.take k).filter (fun r => zhv n j v r == true)).length))), (6, .int (nI rows.length)), (5, .ref sl), (3, .int (nI 1)), (0, .ref sh), (1, .int (nI j)), (2, .int (nI v))] → W p l e rm_X4_guess s m args below meth c H locs 0 0 (MQ below (zQr G (fun _ : {u : zSu // u.2.2.2.2.map Prod.snd = (rows.map Prod.snd).filterMap (zgg n j v true)} => some (.int (nI 1))) (fun u : {u : zSu // u.2.2.2.2.map Prod.snd = (rows.map Prod.snd).filterMap (zgg n j v true)} => zSW G sh n V X (zUgs true t) u.1) A) args s 1 729 A) (F0 m 33 ls []) := by
    intro r
    induction r with
    | zero =>
      intro k ls hk hl
      obtain rfl : k = rows.length := by omega
      rw [List.take_length] at hl
      refine lv_iload hx hb dX4_guess_33 (lv_at hl 0 rfl) ?_
      refine lv_iload hx hb dX4_guess_35 (lv_at hl 2 rfl) ?_
      refine lv_icmp_ge (tgt := 80) hx hb dX4_guess_37 (by decide) (fun _ => ?_) (fun z => absurd (show (nI rows.length) ≤ (nI rows.length) from (nI_le (by omega) (by omega))) z)
      refine lv_iload hx hb dX4_guess_80 (lv_at hl 1 rfl) ?_
      refine zr_newQ (N := (rows.filter (fun r => zhv n j v r == true)).length) hx hb hown (hts (.classLink RX4 27 "[I") (by decide +kernel)) hK hP hD hS hA (by omega) (Nat.le_of_ble_eq_true rfl) (show 0 + (rows.filter (fun r => zhv n j v r == true)).length ≤ 729 by omega) dX4_guess_82 (fun mq H hP hD hS => ?_)
      have hp9 := zj_move ([(sh, .inr (4, [.ref sv, .ref sa, .ref sc, .ref sl])), (sv, .inl (G.2.1, n, .inl (zar n V))), (sa, .inl (G.2.1, n, .inl (zar n X))), (sc, .inl (G.2.1, 6, .inl (zkt t))), (sl, .inl (G.2.2.1, rows.length, .inr (.inr (.inr (.inr (zlf rows))))))] : va_W) (rows.map (zrc G n)) (mq, .inl (G.2.2.1, (rows.filter (fun r => zhv n j v r == true)).length, .inr (.inr (.inr (.inr (fun _ => none))))))
      have hP := hP.perm hp9
      have hD := hD.perm hp9
      have hP : va_P G.1 vwCl (([(sh, .inr (4, [.ref sv, .ref sa, .ref sc, .ref sl])), (sv, .inl (G.2.1, n, .inl (zar n V))), (sa, .inl (G.2.1, n, .inl (zar n X))), (sc, .inl (G.2.1, 6, .inl (zkt t))), (sl, .inl (G.2.2.1, rows.length, .inr (.inr (.inr (.inr (zlf rows)))))), (mq, .inl (G.2.2.1, (rows.filter (fun r => zhv n j v r == true)).length, .inr (.inr (.inr (.inr (fun _ => none))))))] : va_W) ++ rows.map (zrc G n)) H := hP
      have hD : va_D A (([(sh, .inr (4, [.ref sv, .ref sa, .ref sc, .ref sl])), (sv, .inl (G.2.1, n, .inl (zar n V))), (sa, .inl (G.2.1, n, .inl (zar n X))), (sc, .inl (G.2.1, 6, .inl (zkt t))), (sl, .inl (G.2.2.1, rows.length, .inr (.inr (.inr (.inr (zlf rows)))))), (mq, .inl (G.2.2.1, (rows.filter (fun r => zhv n j v r == true)).length, .inr (.inr (.inr (.inr (fun _ => none))))))] : va_W) ++ rows.map (zrc G n)) := hD
      refine lv_astore (lv' := [(5, .ref mq), (7, .int (nI rows.length)), (4, .int (nI ((rows.filter (fun r => zhv n j v r == true)).length))), (6, .int (nI rows.length)), (3, .int (nI 1)), (0, .ref sh), (1, .int (nI j)), (2, .int (nI v))]) hx hb dX4_guess_85 hl (by decide) rfl (fun ls hl => ?_)
      refine lv_iconst (v := nI 0) hx hb dX4_guess_87 (by decide) ?_
      refine lv_istore (lv' := [(6, .int (nI 0)), (5, .ref mq), (7, .int (nI rows.length)), (4, .int (nI ((rows.filter (fun r => zhv n j v r == true)).length))), (3, .int (nI 1)), (0, .ref sh), (1, .int (nI j)), (2, .int (nI v))]) hx hb dX4_guess_88 hl (by decide) rfl (fun ls hl => ?_)
      refine lv_aload_n hx hb dX4_guess_90 rfl (lv_at hl 5 rfl) ?_
      refine va_get (D := G.1) (ci := 4) (v := .ref sl) (C := RX4) (T := TX4) (N := 4) hx hb hts in_X4_guess_X4 hown hK.1 hP 0 rfl rfl 3 (by decide) (hts (.fieldLink RX4 23 "JarRiddleLaw$Sim" "left" "[[I") (by decide +kernel)) (fun _ h9 => h9) rfl dX4_guess_91 ?_
      refine lv_astore (lv' := [(7, .ref sl), (6, .int (nI 0)), (5, .ref mq), (4, .int (nI ((rows.filter (fun r => zhv n j v r == true)).length))), (3, .int (nI 1)), (0, .ref sh), (1, .int (nI j)), (2, .int (nI v))]) hx hb dX4_guess_94 hl (by decide) rfl (fun ls hl => ?_)
      refine lv_aload hx hb dX4_guess_96 (lv_at hl 0 rfl) ?_
      refine zr_alenQ hx hb hK hP 4 rfl dX4_guess_98 ?_
      refine lv_istore (lv' := [(8, .int (nI rows.length)), (7, .ref sl), (6, .int (nI 0)), (5, .ref mq), (4, .int (nI ((rows.filter (fun r => zhv n j v r == true)).length))), (3, .int (nI 1)), (0, .ref sh), (1, .int (nI j)), (2, .int (nI v))]) hx hb dX4_guess_99 hl (by decide) rfl (fun ls hl => ?_)
      refine lv_iconst (v := nI 0) hx hb dX4_guess_101 (by decide) ?_
      refine lv_istore (lv' := [(9, .int (nI 0)), (8, .int (nI rows.length)), (7, .ref sl), (6, .int (nI 0)), (5, .ref mq), (4, .int (nI ((rows.filter (fun r => zhv n j v r == true)).length))), (3, .int (nI 1)), (0, .ref sh), (1, .int (nI j)), (2, .int (nI v))]) hx hb dX4_guess_102 hl (by decide) rfl (fun ls hl => ?_)
      refine W.widen (k := 1) (n := 729) (Nat.le_of_ble_eq_true rfl) (show 0 + (rows.filter (fun r => zhv n j v r == true)).length ≤ 729 by omega) ?_
      have e0 : (fun _ => none) = zlf ((rows.take 0).filter (fun r => zhv n j v r == true)) := zlf_nil.symm
      rw [e0] at hP hD
      exact loopB mq rows.length 0 H locs ls (by omega) hP hD hS (lv_sub hl [0, 3, 1, 2, 4, 6, 7, 8, 9] rfl)
    | succ r ih =>
      intro k ls hk hl
      obtain ⟨r9, hr9k⟩ : ∃ r9, rows[k]? = some r9 := ⟨_, List.getElem?_eq_getElem (by omega)⟩
      obtain ⟨q9, N9, s9⟩ := r9
      have ok9 := hr9.2 _ (List.mem_of_getElem? hr9k)
      have c9 := ok9 j (by omega)
      have c9 : zcv n N9 j ≤ 9 := c9.2
      obtain ⟨i9, hi9⟩ := List.getElem?_of_mem (show zrc G n (q9, N9, s9) ∈ (([(sh, .inr (4, [.ref sv, .ref sa, .ref sc, .ref sl])), (sv, .inl (G.2.1, n, .inl (zar n V))), (sa, .inl (G.2.1, n, .inl (zar n X))), (sc, .inl (G.2.1, 6, .inl (zkt t))), (sl, .inl (G.2.2.1, rows.length, .inr (.inr (.inr (.inr (zlf rows))))))] : va_W) ++ rows.map (zrc G n)) from List.mem_append_right _ (List.mem_map.mpr ⟨_, List.mem_of_getElem? hr9k, rfl⟩))
      have etk : rows.take (k + 1) = rows.take k ++ [(q9, N9, s9)] := by rw [List.take_add_one, hr9k]; rfl
      have ht9 := htl k
      refine lv_iload hx hb dX4_guess_33 (lv_at hl 0 rfl) ?_
      refine lv_iload hx hb dX4_guess_35 (lv_at hl 2 rfl) ?_
      refine lv_icmp_ge (tgt := 80) hx hb dX4_guess_37 (by decide) (fun z => absurd z (show ¬ (nI rows.length) ≤ (nI k) from (nI_ge (by omega) (by omega)))) (fun _ => ?_)
      refine lv_aload hx hb dX4_guess_40 (lv_at hl 3 rfl) ?_
      refine lv_iload hx hb dX4_guess_42 (lv_at hl 0 rfl) ?_
      refine zr_qld (b := q9) hx hb hK hP 4 rfl (by omega) (by omega) (zlf_at hr9k) dX4_guess_44 ?_
      refine lv_astore (lv' := [(8, .ref q9), (7, .int (nI k)), (4, .int (nI (((rows.take k).filter (fun r => zhv n j v r == true)).length))), (6, .int (nI rows.length)), (5, .ref sl), (3, .int (nI 1)), (0, .ref sh), (1, .int (nI j)), (2, .int (nI v))]) hx hb dX4_guess_45 hl (by decide) rfl (fun ls hl => ?_)
      refine lv_iload hx hb dX4_guess_47 (lv_at hl 2 rfl) ?_
      refine lv_aload hx hb dX4_guess_49 (lv_at hl 0 rfl) ?_
      refine lv_iload_n hx hb dX4_guess_51 rfl (lv_at hl 7 rfl) ?_
      refine zr_iald (v := (nI (zcv n N9 j))) hx hb hK hP i9 hi9 (by omega) (by omega) (zrw_v hj) dX4_guess_52 ?_
      refine lv_iload_n hx hb dX4_guess_53 rfl (lv_at hl 8 rfl) ?_
      by_cases q : zcv n N9 j = v
      · refine lv_icmp_ne (tgt := 61) hx hb dX4_guess_54 (by decide) (fun z => absurd (show (nI (zcv n N9 j)) = (nI v) from (congrArg nI q)) z) (fun _ => ?_)
        refine lv_iconst (v := nI 1) hx hb dX4_guess_57 (by decide) ?_
        refine lv_goto (tgt := 62) hx hb dX4_guess_58 (by decide) ?_
        refine lv_iload_n hx hb dX4_guess_62 rfl (lv_at hl 5 rfl) ?_
        refine lv_icmp_ne (tgt := 70) hx hb dX4_guess_63 (by decide) (fun z => absurd (show (nI 1) = (nI 1) from (by decide)) z) (fun _ => ?_)
        refine lv_iconst (v := nI 1) hx hb dX4_guess_66 (by decide) ?_
        refine lv_goto (tgt := 71) hx hb dX4_guess_67 (by decide) ?_
        have ef : (rows.take (k + 1)).filter (fun r => zhv n j v r == true) = ((rows.take k).filter (fun r => zhv n j v r == true)) ++ [(q9, N9, s9)] := by rw [etk, List.filter_append]; refine congrArg (List.append _) ?_; rw [List.filter_cons, if_pos (by unfold zhv; simp [q])]; rfl
        refine lv_iadd hx hb dX4_guess_71 ?_
        refine zt_top (v := (nI ((((rows.take k).filter (fun r => zhv n j v r == true)).length) + 1))) (nI_add (((rows.take k).filter (fun r => zhv n j v r == true)).length) 1) ?_
        refine lv_istore (lv' := [(4, .int (nI ((((rows.take k).filter (fun r => zhv n j v r == true)).length) + 1))), (8, .ref q9), (7, .int (nI k)), (6, .int (nI rows.length)), (5, .ref sl), (3, .int (nI 1)), (0, .ref sh), (1, .int (nI j)), (2, .int (nI v))]) hx hb dX4_guess_72 hl (by decide) rfl (fun ls hl => ?_)
        refine lv_iinc (v := (nI (k + 1))) (lv' := [(7, .int (nI (k + 1))), (4, .int (nI ((((rows.take k).filter (fun r => zhv n j v r == true)).length) + 1))), (8, .ref q9), (6, .int (nI rows.length)), (5, .ref sl), (3, .int (nI 1)), (0, .ref sh), (1, .int (nI j)), (2, .int (nI v))]) hx hb dX4_guess_74 hl (k := 2) rfl (nI_1 k) (by decide) rfl (fun ls hl => ?_)
        refine lv_goto (tgt := 33) hx hb dX4_guess_77 (by decide) ?_
        refine ih (k + 1) ls (by omega) (by rw [ef, List.length_append, List.length_singleton]; exact lv_sub hl [0, 1, 3, 4, 5, 6, 7, 8] rfl)
      · refine lv_icmp_ne (tgt := 61) hx hb dX4_guess_54 (by decide) (fun _ => ?_) (fun z => absurd z (show ¬ (nI (zcv n N9 j)) = (nI v) from (fun z => q ((nI_eq (by omega) (by omega)).mp z))))
        refine lv_iconst (v := nI 0) hx hb dX4_guess_61 (by decide) ?_
        refine lv_iload_n hx hb dX4_guess_62 rfl (lv_at hl 5 rfl) ?_
        refine lv_icmp_ne (tgt := 70) hx hb dX4_guess_63 (by decide) (fun _ => ?_) (fun z => absurd z (show ¬ (nI 0) = (nI 1) from (by decide)))
        refine lv_iconst (v := nI 0) hx hb dX4_guess_70 (by decide) ?_
        have ef : (rows.take (k + 1)).filter (fun r => zhv n j v r == true) = ((rows.take k).filter (fun r => zhv n j v r == true)) := by rw [etk, List.filter_append, List.filter_cons, if_neg (by unfold zhv; simp [q])]; exact List.append_nil _
        refine lv_iadd hx hb dX4_guess_71 ?_
        refine zt_top (v := (nI (((rows.take k).filter (fun r => zhv n j v r == true)).length))) ((nI_add (((rows.take k).filter (fun r => zhv n j v r == true)).length) 0).trans (congrArg nI (by omega))) ?_
        refine lv_istore (lv' := [(4, .int (nI (((rows.take k).filter (fun r => zhv n j v r == true)).length))), (8, .ref q9), (7, .int (nI k)), (6, .int (nI rows.length)), (5, .ref sl), (3, .int (nI 1)), (0, .ref sh), (1, .int (nI j)), (2, .int (nI v))]) hx hb dX4_guess_72 hl (by decide) rfl (fun ls hl => ?_)
        refine lv_iinc (v := (nI (k + 1))) (lv' := [(7, .int (nI (k + 1))), (4, .int (nI (((rows.take k).filter (fun r => zhv n j v r == true)).length))), (8, .ref q9), (6, .int (nI rows.length)), (5, .ref sl), (3, .int (nI 1)), (0, .ref sh), (1, .int (nI j)), (2, .int (nI v))]) hx hb dX4_guess_74 hl (k := 2) rfl (nI_1 k) (by decide) rfl (fun ls hl => ?_)
        refine lv_goto (tgt := 33) hx hb dX4_guess_77 (by decide) ?_
        refine ih (k + 1) ls (by omega) (by rw [ef]; exact lv_sub hl [0, 1, 3, 4, 5, 6, 7, 8] rfl)
  refine lv_aload_n hx hb dX4_guess_0 rfl (lv_at hl 0 rfl) ?_
  refine va_get (D := G.1) (ci := 4) (v := .ref sv) (C := RX4) (T := TX4) (N := 4) hx hb hts in_X4_guess_X4 hown hK.1 hP 0 rfl rfl 0 (by decide) (hts (.fieldLink RX4 7 "JarRiddleLaw$Sim" "volume" "[I") (by decide +kernel)) (fun _ h9 => h9) rfl dX4_guess_1 ?_
  refine lv_iload_n hx hb dX4_guess_4 rfl (lv_at hl 1 rfl) ?_
  refine zr_iald (v := (nI (V j))) hx hb hK hP 1 rfl (by omega) (by omega) (zar_at hj) dX4_guess_5 ?_
  refine lv_iload_n hx hb dX4_guess_6 rfl (lv_at hl 2 rfl) ?_
  refine lv_icmp_ne (tgt := 14) hx hb dX4_guess_7 (by decide) (fun z => absurd (show (nI (V j)) = (nI v) from (congrArg nI hb9)) z) (fun _ => ?_)
  refine lv_iconst (v := nI 1) hx hb dX4_guess_10 (by decide) ?_
  refine lv_goto (tgt := 15) hx hb dX4_guess_11 (by decide) ?_
  refine lv_istore_n (lv' := [(3, .int (nI 1)), (0, .ref sh), (1, .int (nI j)), (2, .int (nI v))]) hx hb dX4_guess_15 rfl hl (by decide) rfl (fun ls hl => ?_)
  refine lv_iconst (v := nI 0) hx hb dX4_guess_16 (by decide) ?_
  refine lv_istore (lv' := [(4, .int (nI 0)), (3, .int (nI 1)), (0, .ref sh), (1, .int (nI j)), (2, .int (nI v))]) hx hb dX4_guess_17 hl (by decide) rfl (fun ls hl => ?_)
  refine lv_aload_n hx hb dX4_guess_19 rfl (lv_at hl 2 rfl) ?_
  refine va_get (D := G.1) (ci := 4) (v := .ref sl) (C := RX4) (T := TX4) (N := 4) hx hb hts in_X4_guess_X4 hown hK.1 hP 0 rfl rfl 3 (by decide) (hts (.fieldLink RX4 23 "JarRiddleLaw$Sim" "left" "[[I") (by decide +kernel)) (fun _ h9 => h9) rfl dX4_guess_20 ?_
  refine lv_astore (lv' := [(5, .ref sl), (4, .int (nI 0)), (3, .int (nI 1)), (0, .ref sh), (1, .int (nI j)), (2, .int (nI v))]) hx hb dX4_guess_23 hl (by decide) rfl (fun ls hl => ?_)
  refine lv_aload hx hb dX4_guess_25 (lv_at hl 0 rfl) ?_
  refine zr_alenQ hx hb hK hP 4 rfl dX4_guess_27 ?_
  refine lv_istore (lv' := [(6, .int (nI rows.length)), (5, .ref sl), (4, .int (nI 0)), (3, .int (nI 1)), (0, .ref sh), (1, .int (nI j)), (2, .int (nI v))]) hx hb dX4_guess_28 hl (by decide) rfl (fun ls hl => ?_)
  refine lv_iconst (v := nI 0) hx hb dX4_guess_30 (by decide) ?_
  refine lv_istore (lv' := [(7, .int (nI 0)), (6, .int (nI rows.length)), (5, .ref sl), (4, .int (nI 0)), (3, .int (nI 1)), (0, .ref sh), (1, .int (nI j)), (2, .int (nI v))]) hx hb dX4_guess_31 hl (by decide) rfl (fun ls hl => ?_)
  exact loopA rows.length 0 ls (by omega) (lv_sub hl [0, 3, 1, 2, 4, 5, 6, 7] rfl)
set_option maxHeartbeats 4000000 in
set_option maxRecDepth 100000 in
theorem s_guessF (l : Launch) (G : zG) {n : Nat} {V X : Nat → Nat} {t : zU} (sh sv sa sc sl : Nat) (rows : zRows) {j v : Nat} (hn : n = 2 ∨ n = 3) (hr9 : zRok n rows) (hj : j < n) (hv : v ≤ 9) (ok : zOK V X) (hb9 : ¬ V j = v) : zCr l G yX4_guess wsX4_guess rm_X4_guess 1 729 [.ref sh, .int (nI j), .int (nI v)] (zSW G sh n V X t (sv, sa, sc, sl, rows)) (fun _ : {u : zSu // u.2.2.2.2.map Prod.snd = (rows.map Prod.snd).filterMap (zgg n j v false)} => some (.int (nI 0))) (fun u : {u : zSu // u.2.2.2.2.map Prod.snd = (rows.map Prod.snd).filterMap (zgg n j v false)} => zSW G sh n V X (zUgs false t) u.1) := by
  refine z_ofr (cc := cX4_guess) (maxL := 11) (ret := (some .boolean)) (own := RX4) (by decide) rfl rfl (Nat.le_of_ble_eq_true rfl) ?_
  intro p e s m args below meth c A H locs ls F hr hlocks hname hK hA hP hD hS hl
  obtain ⟨hx, hb, hml, hown, hts⟩ := id F
  have hl : lv_has ls 11 [(0, .ref sh), (1, .int (nI j)), (2, .int (nI v))] := hl
  have hP : va_P G.1 vwCl (([(sh, .inr (4, [.ref sv, .ref sa, .ref sc, .ref sl])), (sv, .inl (G.2.1, n, .inl (zar n V))), (sa, .inl (G.2.1, n, .inl (zar n X))), (sc, .inl (G.2.1, 6, .inl (zkt t))), (sl, .inl (G.2.2.1, rows.length, .inr (.inr (.inr (.inr (zlf rows))))))] : va_W) ++ rows.map (zrc G n)) H := hP
  have hD : va_D A (([(sh, .inr (4, [.ref sv, .ref sa, .ref sc, .ref sl])), (sv, .inl (G.2.1, n, .inl (zar n V))), (sa, .inl (G.2.1, n, .inl (zar n X))), (sc, .inl (G.2.1, 6, .inl (zkt t))), (sl, .inl (G.2.2.1, rows.length, .inr (.inr (.inr (.inr (zlf rows))))))] : va_W) ++ rows.map (zrc G n)) := hD
  have hlen := hr9.1
  have o9 := ok j (by omega)
  have hsub : ∀ k, ((rows.take k).filter (fun r => zhv n j v r == false)).length ≤ (rows.filter (fun r => zhv n j v r == false)).length := fun k => ((List.take_sublist k rows).filter _).length_le
  have hfl : (rows.filter (fun r => zhv n j v r == false)).length ≤ rows.length := List.length_filter_le _ _
  have htl : ∀ k, ((rows.take k).filter (fun r => zhv n j v r == false)).length ≤ k := fun k => Nat.le_trans (List.length_filter_le _ _) (by rw [List.length_take]; exact Nat.min_le_left _ _)
  have loopB : ∀ (mq r k : Nat) (H : Heap) (locs : List Loc) (ls : Array Slot), k + r = rows.length → va_P G.1 vwCl (([(sh, .inr (4, [.ref sv, .ref sa, .ref sc, .ref sl])), (sv, .inl (G.2.1, n, .inl (zar n V))), (sa, .inl (G.2.1, n, .inl (zar n X))), (sc, .inl (G.2.1, 6, .inl (zkt t))), (sl, .inl (G.2.2.1, rows.length, .inr (.inr (.inr (.inr (zlf rows)))))), (mq, .inl (G.2.2.1, (rows.filter (fun r => zhv n j v r == false)).length, .inr (.inr (.inr (.inr (zlf ((rows.take k).filter (fun r => zhv n j v r == false))))))))] : va_W) ++ rows.map (zrc G n)) H → va_D A (([(sh, .inr (4, [.ref sv, .ref sa, .ref sc, .ref sl])), (sv, .inl (G.2.1, n, .inl (zar n V))), (sa, .inl (G.2.1, n, .inl (zar n X))), (sc, .inl (G.2.1, 6, .inl (zkt t))), (sl, .inl (G.2.2.1, rows.length, .inr (.inr (.inr (.inr (zlf rows)))))), (mq, .inl (G.2.2.1, (rows.filter (fun r => zhv n j v r == false)).length, .inr (.inr (.inr (.inr (zlf ((rows.take k).filter (fun r => zhv n j v r == false))))))))] : va_W) ++ rows.map (zrc G n)) → va_S A s.heap H locs → lv_has ls 11 [(9, .int (nI k)), (6, .int (nI (((rows.take k).filter (fun r => zhv n j v r == false)).length))), (8, .int (nI rows.length)), (7, .ref sl), (5, .ref mq), (3, .int (nI 0)), (0, .ref sh), (1, .int (nI j)), (2, .int (nI v))] → W p l e rm_X4_guess s m args below meth c H locs 1 729 (MQ below (zQr G (fun _ : {u : zSu // u.2.2.2.2.map Prod.snd = (rows.map Prod.snd).filterMap (zgg n j v false)} => some (.int (nI 0))) (fun u : {u : zSu // u.2.2.2.2.map Prod.snd = (rows.map Prod.snd).filterMap (zgg n j v false)} => zSW G sh n V X (zUgs false t) u.1) A) args s 1 729 A) (F0 m 104 ls []) := by
    intro mq r
    induction r with
    | zero =>
      intro k H locs ls hk hP hD hS hl
      obtain rfl : k = rows.length := by omega
      rw [List.take_length] at hP hD hl
      refine lv_iload hx hb dX4_guess_104 (lv_at hl 0 rfl) ?_
      refine lv_iload hx hb dX4_guess_106 (lv_at hl 2 rfl) ?_
      refine lv_icmp_ge (tgt := 154) hx hb dX4_guess_108 (by decide) (fun _ => ?_) (fun z => absurd (show (nI rows.length) ≤ (nI rows.length) from (nI_le (by omega) (by omega))) z)
      refine lv_aload_n hx hb dX4_guess_154 rfl (lv_at hl 6 rfl) ?_
      refine lv_aload hx hb dX4_guess_155 (lv_at hl 4 rfl) ?_
      refine va_put (D := G.1) (ci := 4) (v := .ref mq) (ty := .array (.array .int)) (C := RX4) (T := TX4) (N := 4) hx hb hts in_X4_guess_X4 tyX4 tyX4_ok nmX4 hown hK.1 hP hD hS 0 rfl rfl 3 (by decide) (hts (.fieldLink RX4 23 "JarRiddleLaw$Sim" "left" "[[I") (by decide +kernel)) (fun _ h9 => h9) rfl (by decide +kernel) rfl rfl (Nat.le_of_ble_eq_true rfl) dX4_guess_157 (fun H locs hP hD hS => ?_)
      have hP : va_P G.1 vwCl (([(sh, .inr (4, [.ref sv, .ref sa, .ref sc, .ref mq])), (sv, .inl (G.2.1, n, .inl (zar n V))), (sa, .inl (G.2.1, n, .inl (zar n X))), (sc, .inl (G.2.1, 6, .inl (zkt t))), (sl, .inl (G.2.2.1, rows.length, .inr (.inr (.inr (.inr (zlf rows)))))), (mq, .inl (G.2.2.1, (rows.filter (fun r => zhv n j v r == false)).length, .inr (.inr (.inr (.inr (zlf (rows.filter (fun r => zhv n j v r == false))))))))] : va_W) ++ rows.map (zrc G n)) H := hP
      have hD : va_D A (([(sh, .inr (4, [.ref sv, .ref sa, .ref sc, .ref mq])), (sv, .inl (G.2.1, n, .inl (zar n V))), (sa, .inl (G.2.1, n, .inl (zar n X))), (sc, .inl (G.2.1, 6, .inl (zkt t))), (sl, .inl (G.2.2.1, rows.length, .inr (.inr (.inr (.inr (zlf rows)))))), (mq, .inl (G.2.2.1, (rows.filter (fun r => zhv n j v r == false)).length, .inr (.inr (.inr (.inr (zlf (rows.filter (fun r => zhv n j v r == false))))))))] : va_W) ++ rows.map (zrc G n)) := hD
      refine lv_aload_n hx hb dX4_guess_160 rfl (lv_at hl 6 rfl) ?_
      refine va_get (D := G.1) (ci := 4) (v := .ref sc) (C := RX4) (T := TX4) (N := 4) hx hb hts in_X4_guess_X4 hown hK.1 hP 0 rfl rfl 2 (by decide) (hts (.fieldLink RX4 16 "JarRiddleLaw$Sim" "counts" "[I") (by decide +kernel)) (fun _ h9 => h9) rfl dX4_guess_161 ?_
      refine lv_iconst (v := nI 4) hx hb dX4_guess_164 (by decide) ?_
      refine lv_dup2_11 hx hb dX4_guess_165 rfl rfl ?_
      refine zr_iald (v := (nI t.gu)) hx hb hK hP 3 rfl (by omega) (by omega) (rfl) dX4_guess_166 ?_
      refine lv_iconst (v := nI 1) hx hb dX4_guess_167 (by decide) ?_
      refine lv_iadd hx hb dX4_guess_168 ?_
      refine zt_top (v := (nI (t.gu + 1))) (nI_add t.gu 1) ?_
      refine zr_iast (g := zkt (t.ac, t.po, t.si, t.ta, t.gu + 1, t.wr)) hx hb hK hP hD hS 3 rfl (by omega) (by omega) (zkt_4 t) dX4_guess_169 (fun H locs hP hD hS => ?_)
      have hP : va_P G.1 vwCl (([(sh, .inr (4, [.ref sv, .ref sa, .ref sc, .ref mq])), (sv, .inl (G.2.1, n, .inl (zar n V))), (sa, .inl (G.2.1, n, .inl (zar n X))), (sc, .inl (G.2.1, 6, .inl (zkt (t.ac, t.po, t.si, t.ta, t.gu + 1, t.wr)))), (sl, .inl (G.2.2.1, rows.length, .inr (.inr (.inr (.inr (zlf rows)))))), (mq, .inl (G.2.2.1, (rows.filter (fun r => zhv n j v r == false)).length, .inr (.inr (.inr (.inr (zlf (rows.filter (fun r => zhv n j v r == false))))))))] : va_W) ++ rows.map (zrc G n)) H := hP
      have hD : va_D A (([(sh, .inr (4, [.ref sv, .ref sa, .ref sc, .ref mq])), (sv, .inl (G.2.1, n, .inl (zar n V))), (sa, .inl (G.2.1, n, .inl (zar n X))), (sc, .inl (G.2.1, 6, .inl (zkt (t.ac, t.po, t.si, t.ta, t.gu + 1, t.wr)))), (sl, .inl (G.2.2.1, rows.length, .inr (.inr (.inr (.inr (zlf rows)))))), (mq, .inl (G.2.2.1, (rows.filter (fun r => zhv n j v r == false)).length, .inr (.inr (.inr (.inr (zlf (rows.filter (fun r => zhv n j v r == false))))))))] : va_W) ++ rows.map (zrc G n)) := hD
      refine lv_aload_n hx hb dX4_guess_170 rfl (lv_at hl 6 rfl) ?_
      refine va_get (D := G.1) (ci := 4) (v := .ref sc) (C := RX4) (T := TX4) (N := 4) hx hb hts in_X4_guess_X4 hown hK.1 hP 0 rfl rfl 2 (by decide) (hts (.fieldLink RX4 16 "JarRiddleLaw$Sim" "counts" "[I") (by decide +kernel)) (fun _ h9 => h9) rfl dX4_guess_171 ?_
      refine lv_iconst (v := nI 5) hx hb dX4_guess_174 (by decide) ?_
      refine lv_dup2_11 hx hb dX4_guess_175 rfl rfl ?_
      refine zr_iald (v := (nI t.wr)) hx hb hK hP 3 rfl (by omega) (by omega) (rfl) dX4_guess_176 ?_
      refine lv_iload_n hx hb dX4_guess_177 rfl (lv_at hl 5 rfl) ?_
      refine lv_if_eq (tgt := 185) hx hb dX4_guess_178 (by decide) (fun _ => ?_) (fun z => absurd (show (nI 0) = (nI 0) from (by decide)) z)
      refine lv_iconst (v := nI 1) hx hb dX4_guess_185 (by decide) ?_
      refine lv_iadd hx hb dX4_guess_186 ?_
      refine zt_top (v := (nI (t.wr + 1))) (nI_add t.wr 1) ?_
      refine zr_iast (g := zkt (t.ac, t.po, t.si, t.ta, t.gu + 1, t.wr + 1)) hx hb hK hP hD hS 3 rfl (by omega) (by omega) (zkt_5 (t.ac, t.po, t.si, t.ta, t.gu + 1, t.wr) 1) dX4_guess_187 (fun H locs hP hD hS => ?_)
      have hP : va_P G.1 vwCl (([(sh, .inr (4, [.ref sv, .ref sa, .ref sc, .ref mq])), (sv, .inl (G.2.1, n, .inl (zar n V))), (sa, .inl (G.2.1, n, .inl (zar n X))), (sc, .inl (G.2.1, 6, .inl (zkt (t.ac, t.po, t.si, t.ta, t.gu + 1, t.wr + 1)))), (sl, .inl (G.2.2.1, rows.length, .inr (.inr (.inr (.inr (zlf rows)))))), (mq, .inl (G.2.2.1, (rows.filter (fun r => zhv n j v r == false)).length, .inr (.inr (.inr (.inr (zlf (rows.filter (fun r => zhv n j v r == false))))))))] : va_W) ++ rows.map (zrc G n)) H := hP
      have hD : va_D A (([(sh, .inr (4, [.ref sv, .ref sa, .ref sc, .ref mq])), (sv, .inl (G.2.1, n, .inl (zar n V))), (sa, .inl (G.2.1, n, .inl (zar n X))), (sc, .inl (G.2.1, 6, .inl (zkt (t.ac, t.po, t.si, t.ta, t.gu + 1, t.wr + 1)))), (sl, .inl (G.2.2.1, rows.length, .inr (.inr (.inr (.inr (zlf rows)))))), (mq, .inl (G.2.2.1, (rows.filter (fun r => zhv n j v r == false)).length, .inr (.inr (.inr (.inr (zlf (rows.filter (fun r => zhv n j v r == false))))))))] : va_W) ++ rows.map (zrc G n)) := hD
      refine lv_iload_n hx hb dX4_guess_188 rfl (lv_at hl 5 rfl) ?_
      have hsl : List.Sublist ([(sh, .inr (4, [.ref sv, .ref sa, .ref sc, .ref mq])), (sv, .inl (G.2.1, n, .inl (zar n V))), (sa, .inl (G.2.1, n, .inl (zar n X))), (sc, .inl (G.2.1, 6, .inl (zkt (t.ac, t.po, t.si, t.ta, t.gu + 1, t.wr + 1)))), (mq, .inl (G.2.2.1, (rows.filter (fun r => zhv n j v r == false)).length, .inr (.inr (.inr (.inr (zlf (rows.filter (fun r => zhv n j v r == false))))))))] ++ (rows.filter (fun r => zhv n j v r == false)).map (zrc G n) : va_W) (([(sh, .inr (4, [.ref sv, .ref sa, .ref sc, .ref mq])), (sv, .inl (G.2.1, n, .inl (zar n V))), (sa, .inl (G.2.1, n, .inl (zar n X))), (sc, .inl (G.2.1, 6, .inl (zkt (t.ac, t.po, t.si, t.ta, t.gu + 1, t.wr + 1)))), (sl, .inl (G.2.2.1, rows.length, .inr (.inr (.inr (.inr (zlf rows)))))), (mq, .inl (G.2.2.1, (rows.filter (fun r => zhv n j v r == false)).length, .inr (.inr (.inr (.inr (zlf (rows.filter (fun r => zhv n j v r == false))))))))] : va_W) ++ rows.map (zrc G n)) := List.Sublist.append (((((((List.Sublist.refl _).cons _).cons₂ _).cons₂ _).cons₂ _).cons₂ _)) (List.filter_sublist.map _)
      have hP := hP.subl hsl
      have hD := hD.subl hsl
      exact zr_zret F hr hlocks hP hD hS ⟨(sv, sa, sc, mq, (rows.filter (fun r => zhv n j v r == false))), zgg_map n j v false rows⟩ (List.Perm.refl _) rfl rfl dX4_guess_189
    | succ r ih =>
      intro k H locs ls hk hP hD hS hl
      obtain ⟨r9, hr9k⟩ : ∃ r9, rows[k]? = some r9 := ⟨_, List.getElem?_eq_getElem (by omega)⟩
      obtain ⟨q9, N9, s9⟩ := r9
      have ok9 := hr9.2 _ (List.mem_of_getElem? hr9k)
      have c9 := ok9 j (by omega)
      have c9 : zcv n N9 j ≤ 9 := c9.2
      obtain ⟨i9, hi9⟩ := List.getElem?_of_mem (show zrc G n (q9, N9, s9) ∈ (([(sh, .inr (4, [.ref sv, .ref sa, .ref sc, .ref sl])), (sv, .inl (G.2.1, n, .inl (zar n V))), (sa, .inl (G.2.1, n, .inl (zar n X))), (sc, .inl (G.2.1, 6, .inl (zkt t))), (sl, .inl (G.2.2.1, rows.length, .inr (.inr (.inr (.inr (zlf rows)))))), (mq, .inl (G.2.2.1, (rows.filter (fun r => zhv n j v r == false)).length, .inr (.inr (.inr (.inr (zlf ((rows.take k).filter (fun r => zhv n j v r == false))))))))] : va_W) ++ rows.map (zrc G n)) from List.mem_append_right _ (List.mem_map.mpr ⟨_, List.mem_of_getElem? hr9k, rfl⟩))
      have etk : rows.take (k + 1) = rows.take k ++ [(q9, N9, s9)] := by rw [List.take_add_one, hr9k]; rfl
      have hs1 := hsub (k + 1)
      have ht9 := htl k
      have hs0 := hsub k
      refine lv_iload hx hb dX4_guess_104 (lv_at hl 0 rfl) ?_
      refine lv_iload hx hb dX4_guess_106 (lv_at hl 2 rfl) ?_
      refine lv_icmp_ge (tgt := 154) hx hb dX4_guess_108 (by decide) (fun z => absurd z (show ¬ (nI rows.length) ≤ (nI k) from (nI_ge (by omega) (by omega)))) (fun _ => ?_)
      refine lv_aload hx hb dX4_guess_111 (lv_at hl 3 rfl) ?_
      refine lv_iload hx hb dX4_guess_113 (lv_at hl 0 rfl) ?_
      refine zr_qld (b := q9) hx hb hK hP 4 rfl (by omega) (by omega) (zlf_at hr9k) dX4_guess_115 ?_
      refine lv_astore (lv' := [(10, .ref q9), (9, .int (nI k)), (6, .int (nI (((rows.take k).filter (fun r => zhv n j v r == false)).length))), (8, .int (nI rows.length)), (7, .ref sl), (5, .ref mq), (3, .int (nI 0)), (0, .ref sh), (1, .int (nI j)), (2, .int (nI v))]) hx hb dX4_guess_116 hl (by decide) rfl (fun ls hl => ?_)
      refine lv_aload hx hb dX4_guess_118 (lv_at hl 0 rfl) ?_
      refine lv_iload_n hx hb dX4_guess_120 rfl (lv_at hl 8 rfl) ?_
      refine zr_iald (v := (nI (zcv n N9 j))) hx hb hK hP i9 hi9 (by omega) (by omega) (zrw_v hj) dX4_guess_121 ?_
      refine lv_iload_n hx hb dX4_guess_122 rfl (lv_at hl 9 rfl) ?_
      by_cases q : zcv n N9 j = v
      · refine lv_icmp_ne (tgt := 130) hx hb dX4_guess_123 (by decide) (fun z => absurd (show (nI (zcv n N9 j)) = (nI v) from (congrArg nI q)) z) (fun _ => ?_)
        refine lv_iconst (v := nI 1) hx hb dX4_guess_126 (by decide) ?_
        refine lv_goto (tgt := 131) hx hb dX4_guess_127 (by decide) ?_
        refine lv_iload_n hx hb dX4_guess_131 rfl (lv_at hl 6 rfl) ?_
        refine lv_icmp_eq (tgt := 138) hx hb dX4_guess_132 (by decide) (fun z => absurd z (show ¬ (nI 1) = (nI 0) from (by decide))) (fun _ => ?_)
        refine lv_goto (tgt := 148) hx hb dX4_guess_135 (by decide) ?_
        have ef : (rows.take (k + 1)).filter (fun r => zhv n j v r == false) = ((rows.take k).filter (fun r => zhv n j v r == false)) := by rw [etk, List.filter_append, List.filter_cons, if_neg (by unfold zhv; simp [q])]; exact List.append_nil _
        refine lv_iinc (v := (nI (k + 1))) (lv' := [(9, .int (nI (k + 1))), (10, .ref q9), (6, .int (nI (((rows.take k).filter (fun r => zhv n j v r == false)).length))), (8, .int (nI rows.length)), (7, .ref sl), (5, .ref mq), (3, .int (nI 0)), (0, .ref sh), (1, .int (nI j)), (2, .int (nI v))]) hx hb dX4_guess_148 hl (k := 1) rfl (nI_1 k) (by decide) rfl (fun ls hl => ?_)
        refine lv_goto (tgt := 104) hx hb dX4_guess_151 (by decide) ?_
        refine ih (k + 1) H locs ls (by omega) (by rw [ef]; exact hP) (by rw [ef]; exact hD) hS (by rw [ef]; exact lv_sub hl [0, 2, 3, 4, 5, 6, 7, 8, 9] rfl)
      · refine lv_icmp_ne (tgt := 130) hx hb dX4_guess_123 (by decide) (fun _ => ?_) (fun z => absurd z (show ¬ (nI (zcv n N9 j)) = (nI v) from (fun z => q ((nI_eq (by omega) (by omega)).mp z))))
        refine lv_iconst (v := nI 0) hx hb dX4_guess_130 (by decide) ?_
        refine lv_iload_n hx hb dX4_guess_131 rfl (lv_at hl 6 rfl) ?_
        refine lv_icmp_eq (tgt := 138) hx hb dX4_guess_132 (by decide) (fun _ => ?_) (fun z => absurd (show (nI 0) = (nI 0) from (by decide)) z)
        have ef : (rows.take (k + 1)).filter (fun r => zhv n j v r == false) = ((rows.take k).filter (fun r => zhv n j v r == false)) ++ [(q9, N9, s9)] := by rw [etk, List.filter_append]; refine congrArg (List.append _) ?_; rw [List.filter_cons, if_pos (by unfold zhv; simp [q])]; rfl
        rw [ef, List.length_append, List.length_singleton] at hs1
        refine lv_aload hx hb dX4_guess_138 (lv_at hl 5 rfl) ?_
        refine lv_iload hx hb dX4_guess_140 (lv_at hl 2 rfl) ?_
        refine lv_aload hx hb dX4_guess_142 (lv_at hl 0 rfl) ?_
        refine zr_qst (g := zlf (((rows.take k).filter (fun r => zhv n j v r == false)) ++ [(q9, N9, s9)])) hx hb hK hP hD hS 5 rfl (List.mem_append_right _ (List.mem_map.mpr ⟨_, List.mem_of_getElem? hr9k, rfl⟩)) (by omega) (by omega) (zlf_add ((rows.take k).filter (fun r => zhv n j v r == false)) (q9, N9, s9)) dX4_guess_144 (fun H locs hP hD hS => ?_)
        have hP : va_P G.1 vwCl (([(sh, .inr (4, [.ref sv, .ref sa, .ref sc, .ref sl])), (sv, .inl (G.2.1, n, .inl (zar n V))), (sa, .inl (G.2.1, n, .inl (zar n X))), (sc, .inl (G.2.1, 6, .inl (zkt t))), (sl, .inl (G.2.2.1, rows.length, .inr (.inr (.inr (.inr (zlf rows)))))), (mq, .inl (G.2.2.1, (rows.filter (fun r => zhv n j v r == false)).length, .inr (.inr (.inr (.inr (zlf (((rows.take k).filter (fun r => zhv n j v r == false)) ++ [(q9, N9, s9)])))))))] : va_W) ++ rows.map (zrc G n)) H := hP
        have hD : va_D A (([(sh, .inr (4, [.ref sv, .ref sa, .ref sc, .ref sl])), (sv, .inl (G.2.1, n, .inl (zar n V))), (sa, .inl (G.2.1, n, .inl (zar n X))), (sc, .inl (G.2.1, 6, .inl (zkt t))), (sl, .inl (G.2.2.1, rows.length, .inr (.inr (.inr (.inr (zlf rows)))))), (mq, .inl (G.2.2.1, (rows.filter (fun r => zhv n j v r == false)).length, .inr (.inr (.inr (.inr (zlf (((rows.take k).filter (fun r => zhv n j v r == false)) ++ [(q9, N9, s9)])))))))] : va_W) ++ rows.map (zrc G n)) := hD
        refine lv_iinc (v := (nI ((((rows.take k).filter (fun r => zhv n j v r == false)).length) + 1))) (lv' := [(6, .int (nI ((((rows.take k).filter (fun r => zhv n j v r == false)).length) + 1))), (10, .ref q9), (9, .int (nI k)), (8, .int (nI rows.length)), (7, .ref sl), (5, .ref mq), (3, .int (nI 0)), (0, .ref sh), (1, .int (nI j)), (2, .int (nI v))]) hx hb dX4_guess_145 hl (k := 2) rfl (nI_1 (((rows.take k).filter (fun r => zhv n j v r == false)).length)) (by decide) rfl (fun ls hl => ?_)
        refine lv_iinc (v := (nI (k + 1))) (lv' := [(9, .int (nI (k + 1))), (6, .int (nI ((((rows.take k).filter (fun r => zhv n j v r == false)).length) + 1))), (10, .ref q9), (8, .int (nI rows.length)), (7, .ref sl), (5, .ref mq), (3, .int (nI 0)), (0, .ref sh), (1, .int (nI j)), (2, .int (nI v))]) hx hb dX4_guess_148 hl (k := 2) rfl (nI_1 k) (by decide) rfl (fun ls hl => ?_)
        refine lv_goto (tgt := 104) hx hb dX4_guess_151 (by decide) ?_
        refine ih (k + 1) H locs ls (by omega) (by rw [ef]; exact hP) (by rw [ef]; exact hD) hS (by rw [ef, List.length_append, List.length_singleton]; exact lv_sub hl [0, 1, 3, 4, 5, 6, 7, 8, 9] rfl)
  have loopA : ∀ (r k : Nat) (ls : Array Slot), k + r = rows.length → lv_has ls 11 [(7, .int (nI k)), (4, .int (nI (((rows.take k).filter (fun r => zhv n j v r == false)).length))), (6, .int (nI rows.length)), (5, .ref sl), (3, .int (nI 0)), (0, .ref sh), (1, .int (nI j)), (2, .int (nI v))] → W p l e rm_X4_guess s m args below meth c H locs 0 0 (MQ below (zQr G (fun _ : {u : zSu // u.2.2.2.2.map Prod.snd = (rows.map Prod.snd).filterMap (zgg n j v false)} => some (.int (nI 0))) (fun u : {u : zSu // u.2.2.2.2.map Prod.snd = (rows.map Prod.snd).filterMap (zgg n j v false)} => zSW G sh n V X (zUgs false t) u.1) A) args s 1 729 A) (F0 m 33 ls []) := by
    intro r
    induction r with
    | zero =>
      intro k ls hk hl
      obtain rfl : k = rows.length := by omega
      rw [List.take_length] at hl
      refine lv_iload hx hb dX4_guess_33 (lv_at hl 0 rfl) ?_
      refine lv_iload hx hb dX4_guess_35 (lv_at hl 2 rfl) ?_
      refine lv_icmp_ge (tgt := 80) hx hb dX4_guess_37 (by decide) (fun _ => ?_) (fun z => absurd (show (nI rows.length) ≤ (nI rows.length) from (nI_le (by omega) (by omega))) z)
      refine lv_iload hx hb dX4_guess_80 (lv_at hl 1 rfl) ?_
      refine zr_newQ (N := (rows.filter (fun r => zhv n j v r == false)).length) hx hb hown (hts (.classLink RX4 27 "[I") (by decide +kernel)) hK hP hD hS hA (by omega) (Nat.le_of_ble_eq_true rfl) (show 0 + (rows.filter (fun r => zhv n j v r == false)).length ≤ 729 by omega) dX4_guess_82 (fun mq H hP hD hS => ?_)
      have hp9 := zj_move ([(sh, .inr (4, [.ref sv, .ref sa, .ref sc, .ref sl])), (sv, .inl (G.2.1, n, .inl (zar n V))), (sa, .inl (G.2.1, n, .inl (zar n X))), (sc, .inl (G.2.1, 6, .inl (zkt t))), (sl, .inl (G.2.2.1, rows.length, .inr (.inr (.inr (.inr (zlf rows))))))] : va_W) (rows.map (zrc G n)) (mq, .inl (G.2.2.1, (rows.filter (fun r => zhv n j v r == false)).length, .inr (.inr (.inr (.inr (fun _ => none))))))
      have hP := hP.perm hp9
      have hD := hD.perm hp9
      have hP : va_P G.1 vwCl (([(sh, .inr (4, [.ref sv, .ref sa, .ref sc, .ref sl])), (sv, .inl (G.2.1, n, .inl (zar n V))), (sa, .inl (G.2.1, n, .inl (zar n X))), (sc, .inl (G.2.1, 6, .inl (zkt t))), (sl, .inl (G.2.2.1, rows.length, .inr (.inr (.inr (.inr (zlf rows)))))), (mq, .inl (G.2.2.1, (rows.filter (fun r => zhv n j v r == false)).length, .inr (.inr (.inr (.inr (fun _ => none))))))] : va_W) ++ rows.map (zrc G n)) H := hP
      have hD : va_D A (([(sh, .inr (4, [.ref sv, .ref sa, .ref sc, .ref sl])), (sv, .inl (G.2.1, n, .inl (zar n V))), (sa, .inl (G.2.1, n, .inl (zar n X))), (sc, .inl (G.2.1, 6, .inl (zkt t))), (sl, .inl (G.2.2.1, rows.length, .inr (.inr (.inr (.inr (zlf rows)))))), (mq, .inl (G.2.2.1, (rows.filter (fun r => zhv n j v r == false)).length, .inr (.inr (.inr (.inr (fun _ => none))))))] : va_W) ++ rows.map (zrc G n)) := hD
      refine lv_astore (lv' := [(5, .ref mq), (7, .int (nI rows.length)), (4, .int (nI ((rows.filter (fun r => zhv n j v r == false)).length))), (6, .int (nI rows.length)), (3, .int (nI 0)), (0, .ref sh), (1, .int (nI j)), (2, .int (nI v))]) hx hb dX4_guess_85 hl (by decide) rfl (fun ls hl => ?_)
      refine lv_iconst (v := nI 0) hx hb dX4_guess_87 (by decide) ?_
      refine lv_istore (lv' := [(6, .int (nI 0)), (5, .ref mq), (7, .int (nI rows.length)), (4, .int (nI ((rows.filter (fun r => zhv n j v r == false)).length))), (3, .int (nI 0)), (0, .ref sh), (1, .int (nI j)), (2, .int (nI v))]) hx hb dX4_guess_88 hl (by decide) rfl (fun ls hl => ?_)
      refine lv_aload_n hx hb dX4_guess_90 rfl (lv_at hl 5 rfl) ?_
      refine va_get (D := G.1) (ci := 4) (v := .ref sl) (C := RX4) (T := TX4) (N := 4) hx hb hts in_X4_guess_X4 hown hK.1 hP 0 rfl rfl 3 (by decide) (hts (.fieldLink RX4 23 "JarRiddleLaw$Sim" "left" "[[I") (by decide +kernel)) (fun _ h9 => h9) rfl dX4_guess_91 ?_
      refine lv_astore (lv' := [(7, .ref sl), (6, .int (nI 0)), (5, .ref mq), (4, .int (nI ((rows.filter (fun r => zhv n j v r == false)).length))), (3, .int (nI 0)), (0, .ref sh), (1, .int (nI j)), (2, .int (nI v))]) hx hb dX4_guess_94 hl (by decide) rfl (fun ls hl => ?_)
      refine lv_aload hx hb dX4_guess_96 (lv_at hl 0 rfl) ?_
      refine zr_alenQ hx hb hK hP 4 rfl dX4_guess_98 ?_
      refine lv_istore (lv' := [(8, .int (nI rows.length)), (7, .ref sl), (6, .int (nI 0)), (5, .ref mq), (4, .int (nI ((rows.filter (fun r => zhv n j v r == false)).length))), (3, .int (nI 0)), (0, .ref sh), (1, .int (nI j)), (2, .int (nI v))]) hx hb dX4_guess_99 hl (by decide) rfl (fun ls hl => ?_)
      refine lv_iconst (v := nI 0) hx hb dX4_guess_101 (by decide) ?_
      refine lv_istore (lv' := [(9, .int (nI 0)), (8, .int (nI rows.length)), (7, .ref sl), (6, .int (nI 0)), (5, .ref mq), (4, .int (nI ((rows.filter (fun r => zhv n j v r == false)).length))), (3, .int (nI 0)), (0, .ref sh), (1, .int (nI j)), (2, .int (nI v))]) hx hb dX4_guess_102 hl (by decide) rfl (fun ls hl => ?_)
      refine W.widen (k := 1) (n := 729) (Nat.le_of_ble_eq_true rfl) (show 0 + (rows.filter (fun r => zhv n j v r == false)).length ≤ 729 by omega) ?_
      have e0 : (fun _ => none) = zlf ((rows.take 0).filter (fun r => zhv n j v r == false)) := zlf_nil.symm
      rw [e0] at hP hD
      exact loopB mq rows.length 0 H locs ls (by omega) hP hD hS (lv_sub hl [0, 3, 1, 2, 4, 6, 7, 8, 9] rfl)
    | succ r ih =>
      intro k ls hk hl
      obtain ⟨r9, hr9k⟩ : ∃ r9, rows[k]? = some r9 := ⟨_, List.getElem?_eq_getElem (by omega)⟩
      obtain ⟨q9, N9, s9⟩ := r9
      have ok9 := hr9.2 _ (List.mem_of_getElem? hr9k)
      have c9 := ok9 j (by omega)
      have c9 : zcv n N9 j ≤ 9 := c9.2
      obtain ⟨i9, hi9⟩ := List.getElem?_of_mem (show zrc G n (q9, N9, s9) ∈ (([(sh, .inr (4, [.ref sv, .ref sa, .ref sc, .ref sl])), (sv, .inl (G.2.1, n, .inl (zar n V))), (sa, .inl (G.2.1, n, .inl (zar n X))), (sc, .inl (G.2.1, 6, .inl (zkt t))), (sl, .inl (G.2.2.1, rows.length, .inr (.inr (.inr (.inr (zlf rows))))))] : va_W) ++ rows.map (zrc G n)) from List.mem_append_right _ (List.mem_map.mpr ⟨_, List.mem_of_getElem? hr9k, rfl⟩))
      have etk : rows.take (k + 1) = rows.take k ++ [(q9, N9, s9)] := by rw [List.take_add_one, hr9k]; rfl
      have ht9 := htl k
      refine lv_iload hx hb dX4_guess_33 (lv_at hl 0 rfl) ?_
      refine lv_iload hx hb dX4_guess_35 (lv_at hl 2 rfl) ?_
      refine lv_icmp_ge (tgt := 80) hx hb dX4_guess_37 (by decide) (fun z => absurd z (show ¬ (nI rows.length) ≤ (nI k) from (nI_ge (by omega) (by omega)))) (fun _ => ?_)
      refine lv_aload hx hb dX4_guess_40 (lv_at hl 3 rfl) ?_
      refine lv_iload hx hb dX4_guess_42 (lv_at hl 0 rfl) ?_
      refine zr_qld (b := q9) hx hb hK hP 4 rfl (by omega) (by omega) (zlf_at hr9k) dX4_guess_44 ?_
      refine lv_astore (lv' := [(8, .ref q9), (7, .int (nI k)), (4, .int (nI (((rows.take k).filter (fun r => zhv n j v r == false)).length))), (6, .int (nI rows.length)), (5, .ref sl), (3, .int (nI 0)), (0, .ref sh), (1, .int (nI j)), (2, .int (nI v))]) hx hb dX4_guess_45 hl (by decide) rfl (fun ls hl => ?_)
      refine lv_iload hx hb dX4_guess_47 (lv_at hl 2 rfl) ?_
      refine lv_aload hx hb dX4_guess_49 (lv_at hl 0 rfl) ?_
      refine lv_iload_n hx hb dX4_guess_51 rfl (lv_at hl 7 rfl) ?_
      refine zr_iald (v := (nI (zcv n N9 j))) hx hb hK hP i9 hi9 (by omega) (by omega) (zrw_v hj) dX4_guess_52 ?_
      refine lv_iload_n hx hb dX4_guess_53 rfl (lv_at hl 8 rfl) ?_
      by_cases q : zcv n N9 j = v
      · refine lv_icmp_ne (tgt := 61) hx hb dX4_guess_54 (by decide) (fun z => absurd (show (nI (zcv n N9 j)) = (nI v) from (congrArg nI q)) z) (fun _ => ?_)
        refine lv_iconst (v := nI 1) hx hb dX4_guess_57 (by decide) ?_
        refine lv_goto (tgt := 62) hx hb dX4_guess_58 (by decide) ?_
        refine lv_iload_n hx hb dX4_guess_62 rfl (lv_at hl 5 rfl) ?_
        refine lv_icmp_ne (tgt := 70) hx hb dX4_guess_63 (by decide) (fun _ => ?_) (fun z => absurd z (show ¬ (nI 1) = (nI 0) from (by decide)))
        refine lv_iconst (v := nI 0) hx hb dX4_guess_70 (by decide) ?_
        have ef : (rows.take (k + 1)).filter (fun r => zhv n j v r == false) = ((rows.take k).filter (fun r => zhv n j v r == false)) := by rw [etk, List.filter_append, List.filter_cons, if_neg (by unfold zhv; simp [q])]; exact List.append_nil _
        refine lv_iadd hx hb dX4_guess_71 ?_
        refine zt_top (v := (nI (((rows.take k).filter (fun r => zhv n j v r == false)).length))) ((nI_add (((rows.take k).filter (fun r => zhv n j v r == false)).length) 0).trans (congrArg nI (by omega))) ?_
        refine lv_istore (lv' := [(4, .int (nI (((rows.take k).filter (fun r => zhv n j v r == false)).length))), (8, .ref q9), (7, .int (nI k)), (6, .int (nI rows.length)), (5, .ref sl), (3, .int (nI 0)), (0, .ref sh), (1, .int (nI j)), (2, .int (nI v))]) hx hb dX4_guess_72 hl (by decide) rfl (fun ls hl => ?_)
        refine lv_iinc (v := (nI (k + 1))) (lv' := [(7, .int (nI (k + 1))), (4, .int (nI (((rows.take k).filter (fun r => zhv n j v r == false)).length))), (8, .ref q9), (6, .int (nI rows.length)), (5, .ref sl), (3, .int (nI 0)), (0, .ref sh), (1, .int (nI j)), (2, .int (nI v))]) hx hb dX4_guess_74 hl (k := 2) rfl (nI_1 k) (by decide) rfl (fun ls hl => ?_)
        refine lv_goto (tgt := 33) hx hb dX4_guess_77 (by decide) ?_
        refine ih (k + 1) ls (by omega) (by rw [ef]; exact lv_sub hl [0, 1, 3, 4, 5, 6, 7, 8] rfl)
      · refine lv_icmp_ne (tgt := 61) hx hb dX4_guess_54 (by decide) (fun _ => ?_) (fun z => absurd z (show ¬ (nI (zcv n N9 j)) = (nI v) from (fun z => q ((nI_eq (by omega) (by omega)).mp z))))
        refine lv_iconst (v := nI 0) hx hb dX4_guess_61 (by decide) ?_
        refine lv_iload_n hx hb dX4_guess_62 rfl (lv_at hl 5 rfl) ?_
        refine lv_icmp_ne (tgt := 70) hx hb dX4_guess_63 (by decide) (fun z => absurd (show (nI 0) = (nI 0) from (by decide)) z) (fun _ => ?_)
        refine lv_iconst (v := nI 1) hx hb dX4_guess_66 (by decide) ?_
        refine lv_goto (tgt := 71) hx hb dX4_guess_67 (by decide) ?_
        have ef : (rows.take (k + 1)).filter (fun r => zhv n j v r == false) = ((rows.take k).filter (fun r => zhv n j v r == false)) ++ [(q9, N9, s9)] := by rw [etk, List.filter_append]; refine congrArg (List.append _) ?_; rw [List.filter_cons, if_pos (by unfold zhv; simp [q])]; rfl
        refine lv_iadd hx hb dX4_guess_71 ?_
        refine zt_top (v := (nI ((((rows.take k).filter (fun r => zhv n j v r == false)).length) + 1))) (nI_add (((rows.take k).filter (fun r => zhv n j v r == false)).length) 1) ?_
        refine lv_istore (lv' := [(4, .int (nI ((((rows.take k).filter (fun r => zhv n j v r == false)).length) + 1))), (8, .ref q9), (7, .int (nI k)), (6, .int (nI rows.length)), (5, .ref sl), (3, .int (nI 0)), (0, .ref sh), (1, .int (nI j)), (2, .int (nI v))]) hx hb dX4_guess_72 hl (by decide) rfl (fun ls hl => ?_)
        refine lv_iinc (v := (nI (k + 1))) (lv' := [(7, .int (nI (k + 1))), (4, .int (nI ((((rows.take k).filter (fun r => zhv n j v r == false)).length) + 1))), (8, .ref q9), (6, .int (nI rows.length)), (5, .ref sl), (3, .int (nI 0)), (0, .ref sh), (1, .int (nI j)), (2, .int (nI v))]) hx hb dX4_guess_74 hl (k := 2) rfl (nI_1 k) (by decide) rfl (fun ls hl => ?_)
        refine lv_goto (tgt := 33) hx hb dX4_guess_77 (by decide) ?_
        refine ih (k + 1) ls (by omega) (by rw [ef, List.length_append, List.length_singleton]; exact lv_sub hl [0, 1, 3, 4, 5, 6, 7, 8] rfl)
  refine lv_aload_n hx hb dX4_guess_0 rfl (lv_at hl 0 rfl) ?_
  refine va_get (D := G.1) (ci := 4) (v := .ref sv) (C := RX4) (T := TX4) (N := 4) hx hb hts in_X4_guess_X4 hown hK.1 hP 0 rfl rfl 0 (by decide) (hts (.fieldLink RX4 7 "JarRiddleLaw$Sim" "volume" "[I") (by decide +kernel)) (fun _ h9 => h9) rfl dX4_guess_1 ?_
  refine lv_iload_n hx hb dX4_guess_4 rfl (lv_at hl 1 rfl) ?_
  refine zr_iald (v := (nI (V j))) hx hb hK hP 1 rfl (by omega) (by omega) (zar_at hj) dX4_guess_5 ?_
  refine lv_iload_n hx hb dX4_guess_6 rfl (lv_at hl 2 rfl) ?_
  refine lv_icmp_ne (tgt := 14) hx hb dX4_guess_7 (by decide) (fun _ => ?_) (fun z => absurd z (show ¬ (nI (V j)) = (nI v) from (fun z => hb9 ((nI_eq (by omega) (by omega)).mp z))))
  refine lv_iconst (v := nI 0) hx hb dX4_guess_14 (by decide) ?_
  refine lv_istore_n (lv' := [(3, .int (nI 0)), (0, .ref sh), (1, .int (nI j)), (2, .int (nI v))]) hx hb dX4_guess_15 rfl hl (by decide) rfl (fun ls hl => ?_)
  refine lv_iconst (v := nI 0) hx hb dX4_guess_16 (by decide) ?_
  refine lv_istore (lv' := [(4, .int (nI 0)), (3, .int (nI 0)), (0, .ref sh), (1, .int (nI j)), (2, .int (nI v))]) hx hb dX4_guess_17 hl (by decide) rfl (fun ls hl => ?_)
  refine lv_aload_n hx hb dX4_guess_19 rfl (lv_at hl 2 rfl) ?_
  refine va_get (D := G.1) (ci := 4) (v := .ref sl) (C := RX4) (T := TX4) (N := 4) hx hb hts in_X4_guess_X4 hown hK.1 hP 0 rfl rfl 3 (by decide) (hts (.fieldLink RX4 23 "JarRiddleLaw$Sim" "left" "[[I") (by decide +kernel)) (fun _ h9 => h9) rfl dX4_guess_20 ?_
  refine lv_astore (lv' := [(5, .ref sl), (4, .int (nI 0)), (3, .int (nI 0)), (0, .ref sh), (1, .int (nI j)), (2, .int (nI v))]) hx hb dX4_guess_23 hl (by decide) rfl (fun ls hl => ?_)
  refine lv_aload hx hb dX4_guess_25 (lv_at hl 0 rfl) ?_
  refine zr_alenQ hx hb hK hP 4 rfl dX4_guess_27 ?_
  refine lv_istore (lv' := [(6, .int (nI rows.length)), (5, .ref sl), (4, .int (nI 0)), (3, .int (nI 0)), (0, .ref sh), (1, .int (nI j)), (2, .int (nI v))]) hx hb dX4_guess_28 hl (by decide) rfl (fun ls hl => ?_)
  refine lv_iconst (v := nI 0) hx hb dX4_guess_30 (by decide) ?_
  refine lv_istore (lv' := [(7, .int (nI 0)), (6, .int (nI rows.length)), (5, .ref sl), (4, .int (nI 0)), (3, .int (nI 0)), (0, .ref sh), (1, .int (nI j)), (2, .int (nI v))]) hx hb dX4_guess_31 hl (by decide) rfl (fun ls hl => ?_)
  exact loopA rows.length 0 ls (by omega) (lv_sub hl [0, 3, 1, 2, 4, 5, 6, 7] rfl)
