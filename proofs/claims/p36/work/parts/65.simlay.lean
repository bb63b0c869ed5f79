/-! the law's own jars: all rows of volumes, jars laid out -/
abbrev rm_X4_rows : Room := { frames := 0, cells := 730, slots := 5103, locals := 0 }
abbrev rm_X4_layOut : Room := { frames := 1, cells := 733, slots := 5115, locals := 40 }
abbrev rm_X4_init : Room := { frames := 1, cells := 733, slots := 5115, locals := 40 }
theorem in_X4_layOut_X4 : ∀ w ∈ u_ws RX4 TX4 4, w ∈ wsX4_layOut := by decide +kernel
theorem in_X4_init_X4 : ∀ w ∈ u_ws RX4 TX4 4, w ∈ wsX4_init := by decide +kernel
theorem zd_X4_rows : yX4_rows.cls ≠ "java/lang/invoke/MethodHandle" ∧ yX4_rows.cls ≠ "java/lang/invoke/VarHandle" ∧ (parseMethodDescriptor yX4_rows.desc).map (fun d => d.parameters.length) = some 1 := by decide +kernel
theorem zd_X4_layOut : yX4_layOut.cls = RX4 ∧ yX4_layOut.cls ≠ "java/lang/invoke/MethodHandle" ∧ yX4_layOut.cls ≠ "java/lang/invoke/VarHandle" ∧ (parseMethodDescriptor yX4_layOut.desc).map (fun d => d.parameters.length) = some 3 := by decide +kernel
theorem zd_X4_init : yX4_init.cls ≠ "java/lang/invoke/MethodHandle" ∧ yX4_init.cls ≠ "java/lang/invoke/VarHandle" ∧ (parseMethodDescriptor yX4_init.desc).map (fun d => d.parameters.length) = some 0 := by decide +kernel
theorem zrw_new2 {k : Nat} (hk : k < 81) : upd (upd (upd (upd (fun _ => 0) 0 (nI (1 + k % 9))) 1 (nI (1 + k / 9))) 2 (nI 0)) 3 (nI 0) = zrw 2 k 0 := by
  funext i
  unfold zrw upd
  rcases (by omega : i = 0 ∨ i = 1 ∨ i = 2 ∨ i = 3 ∨ 4 ≤ i) with rfl | rfl | rfl | rfl | h9
  · exact congrArg nI (show 1 + k % 9 = k % 9 + 1 by omega)
  · exact congrArg nI (show 1 + k / 9 = k / 9 % 9 + 1 by omega)
  · rfl
  · rfl
  · dsimp only; rw [if_neg (by omega), if_neg (by omega), if_neg (by omega), if_neg (by omega), if_neg (by omega), if_neg (by omega)]
theorem zrw_new3 {k : Nat} (hk : k < 729) : upd (upd (upd (upd (upd (upd (fun _ => 0) 0 (nI (1 + k % 9))) 1 (nI (1 + k / 9 % 9))) 2 (nI (1 + k / 81))) 3 (nI 0)) 4 (nI 0)) 5 (nI 0) = zrw 3 k 0 := by
  funext i
  unfold zrw upd
  rcases (by omega : i = 0 ∨ i = 1 ∨ i = 2 ∨ i = 3 ∨ i = 4 ∨ i = 5 ∨ 6 ≤ i) with rfl | rfl | rfl | rfl | rfl | rfl | h9
  · exact congrArg nI (show 1 + k % 9 = k % 9 + 1 by omega)
  · exact congrArg nI (show 1 + k / 9 % 9 = k / 9 % 9 + 1 by omega)
  · exact congrArg nI (show 1 + k / 81 = k / 81 + 1 by omega)
  · rfl
  · rfl
  · rfl
  · dsimp only; rw [if_neg (by omega), if_neg (by omega), if_neg (by omega), if_neg (by omega), if_neg (by omega), if_neg (by omega), if_neg (by omega), if_neg (by omega)]
theorem zj_start (a : Nat × va_E) (b : va_W) (x : Nat × va_E) : List.Perm ((a :: [x]) ++ b) ([a] ++ (b ++ [x])) := by
  have h := zj_move [a] b x
  rw [List.append_assoc] at h
  exact h.symm
/-- all rows, each holding nothing -/
def zAll (n : Nat) : List (Nat × Nat) := (List.range (zcnt n)).map (fun k => (k, 0))
set_option maxHeartbeats 4000000 in
set_option maxRecDepth 100000 in
theorem s_rows2 (l : Launch) (G : zG) : zCr l G yX4_rows wsX4_rows rm_X4_rows 730 5103 [.int (nI 2)] [] (fun u : {u : Nat × zRows // u.2.map Prod.snd = zAll 2} => some (.ref u.1.1)) (fun u : {u : Nat × zRows // u.2.map Prod.snd = zAll 2} => [(u.1.1, .inl (G.2.2.1, u.1.2.length, .inr (.inr (.inr (.inr (zlf u.1.2))))))] ++ u.1.2.map (zrc G 2)) := by
  refine z_ofr (cc := cX4_rows) (maxL := 4) (ret := (some (.array (.array .int)))) (own := RX4) (by decide) rfl rfl (Nat.le_of_ble_eq_true rfl) ?_
  intro p e s m args below meth c A H locs ls F hr hlocks hname hK hA hP hD hS hl
  obtain ⟨hx, hb, hml, hown, hts⟩ := id F
  have hl : lv_has ls 4 [(0, .int (nI 2))] := hl
  have loop : ∀ (mq r : Nat) (new : zRows) (H : Heap) (locs : List Loc) (ls : Array Slot), new.length + r = 81 → new.map Prod.snd = (List.range new.length).map (fun k => (k, 0)) → va_P G.1 vwCl (([(mq, .inl (G.2.2.1, 81, .inr (.inr (.inr (.inr (zlf new))))))] : va_W) ++ new.map (zrc G 2)) H → va_D A (([(mq, .inl (G.2.2.1, 81, .inr (.inr (.inr (.inr (zlf new))))))] : va_W) ++ new.map (zrc G 2)) → va_S A s.heap H locs → lv_has ls 4 [(3, .int (nI new.length)), (2, .ref mq), (1, .int (nI 81)), (0, .int (nI 2))] → W p l e rm_X4_rows s m args below meth c H locs (1 + new.length) (81 + 4 * new.length) (MQ below (zQr G (fun u : {u : Nat × zRows // u.2.map Prod.snd = zAll 2} => some (.ref u.1.1)) (fun u : {u : Nat × zRows // u.2.map Prod.snd = zAll 2} => [(u.1.1, .inl (G.2.2.1, u.1.2.length, .inr (.inr (.inr (.inr (zlf u.1.2))))))] ++ u.1.2.map (zrc G 2)) A) args s 730 5103 A) (F0 m 21 ls []) := by
    intro mq r
    induction r with
    | zero =>
      intro new H locs ls hk hnw hP hD hS hl
      have hk : new.length = 81 := by omega
      refine lv_iload_n hx hb dX4_rows_21 rfl (lv_at hl 0 rfl) ?_
      refine lv_iload_n hx hb dX4_rows_22 rfl (lv_at hl 2 rfl) ?_
      refine lv_icmp_ge (tgt := 118) hx hb dX4_rows_23 (by decide) (fun _ => ?_) (fun z => absurd (show (nI 81) ≤ (nI new.length) from (nI_le (by omega) (by omega))) z)
      refine lv_aload_n hx hb dX4_rows_118 rfl (lv_at hl 1 rfl) ?_
      refine W.widen (k := 730) (n := 5103) (show 1 + new.length ≤ 730 by omega) (show 81 + 4 * new.length ≤ 5103 by omega) ?_
      rw [← hk] at hP hD
      exact zr_aret F hr (Or.inr ⟨.array .int, rfl⟩) hlocks hP hD hS ⟨(mq, new), by rw [hnw, hk]; rfl⟩ (List.Perm.refl _) rfl dX4_rows_119
    | succ r ih =>
      intro new H locs ls hk hnw hP hD hS hl
      refine lv_iload_n hx hb dX4_rows_21 rfl (lv_at hl 0 rfl) ?_
      refine lv_iload_n hx hb dX4_rows_22 rfl (lv_at hl 2 rfl) ?_
      refine lv_icmp_ge (tgt := 118) hx hb dX4_rows_23 (by decide) (fun z => absurd z (show ¬ (nI 81) ≤ (nI new.length) from (nI_ge (by omega) (by omega)))) (fun _ => ?_)
      refine lv_aload_n hx hb dX4_rows_26 rfl (lv_at hl 1 rfl) ?_
      refine lv_iload_n hx hb dX4_rows_27 rfl (lv_at hl 0 rfl) ?_
      refine lv_iload_n hx hb dX4_rows_28 rfl (lv_at hl 3 rfl) ?_
      refine lv_iconst (v := nI 2) hx hb dX4_rows_29 (by decide) ?_
      refine lv_icmp_ne (tgt := 65) hx hb dX4_rows_30 (by decide) (fun z => absurd (show (nI 2) = (nI 2) from (by decide)) z) (fun _ => ?_)
      refine lv_iconst (v := nI 4) hx hb dX4_rows_33 (by decide) ?_
      refine zr_new (N := 4) hx hb (hts (.arrayClass .int) (by decide +kernel)) hK hP hD hS hA (by omega) (show 1 + new.length + 1 ≤ 730 by omega) (show 81 + 4 * new.length + 4 ≤ 5103 by omega) dX4_rows_34 (fun q9 H hP hD hS => ?_)
      have hp9 := zj_move ([(mq, .inl (G.2.2.1, 81, .inr (.inr (.inr (.inr (zlf new))))))] : va_W) (new.map (zrc G 2)) (q9, .inl (G.2.1, 4, .inl (fun _ => 0)))
      have hP := hP.perm hp9
      have hD := hD.perm hp9
      have hP : va_P G.1 vwCl (([(mq, .inl (G.2.2.1, 81, .inr (.inr (.inr (.inr (zlf new)))))), (q9, .inl (G.2.1, 4, .inl (fun _ => 0)))] : va_W) ++ new.map (zrc G 2)) H := hP
      have hD : va_D A (([(mq, .inl (G.2.2.1, 81, .inr (.inr (.inr (.inr (zlf new)))))), (q9, .inl (G.2.1, 4, .inl (fun _ => 0)))] : va_W) ++ new.map (zrc G 2)) := hD
      refine lv_dup hx hb dX4_rows_36 rfl ?_
      refine lv_iconst (v := nI 0) hx hb dX4_rows_37 (by decide) ?_
      refine lv_iconst (v := nI 1) hx hb dX4_rows_38 (by decide) ?_
      refine lv_iload_n hx hb dX4_rows_39 rfl (lv_at hl 0 rfl) ?_
      refine lv_bipush (v := nI 9) hx hb dX4_rows_40 (by decide) ?_
      refine lv_irem hx hb dX4_rows_42 (by decide) ?_
      refine zt_top (v := (nI (new.length % 9))) (pk_rem (by omega) (by omega) (by omega)) ?_
      refine lv_iadd hx hb dX4_rows_43 ?_
      refine zt_top (v := (nI (1 + (new.length % 9)))) (nI_add 1 (new.length % 9)) ?_
      refine zr_iast (g := upd (fun _ => 0) 0 (nI (1 + (new.length % 9)))) hx hb hK hP hD hS 1 rfl (by omega) (by omega) (rfl) dX4_rows_44 (fun H locs hP hD hS => ?_)
      have hP : va_P G.1 vwCl (([(mq, .inl (G.2.2.1, 81, .inr (.inr (.inr (.inr (zlf new)))))), (q9, .inl (G.2.1, 4, .inl (upd (fun _ => 0) 0 (nI (1 + (new.length % 9))))))] : va_W) ++ new.map (zrc G 2)) H := hP
      have hD : va_D A (([(mq, .inl (G.2.2.1, 81, .inr (.inr (.inr (.inr (zlf new)))))), (q9, .inl (G.2.1, 4, .inl (upd (fun _ => 0) 0 (nI (1 + (new.length % 9))))))] : va_W) ++ new.map (zrc G 2)) := hD
      refine lv_dup hx hb dX4_rows_45 rfl ?_
      refine lv_iconst (v := nI 1) hx hb dX4_rows_46 (by decide) ?_
      refine lv_iconst (v := nI 1) hx hb dX4_rows_47 (by decide) ?_
      refine lv_iload_n hx hb dX4_rows_48 rfl (lv_at hl 0 rfl) ?_
      refine lv_bipush (v := nI 9) hx hb dX4_rows_49 (by decide) ?_
      refine lv_idiv hx hb dX4_rows_51 (by decide) ?_
      refine zt_top (v := (nI (new.length / 9))) (pk_div (by omega) (by omega) (by omega)) ?_
      refine lv_iadd hx hb dX4_rows_52 ?_
      refine zt_top (v := (nI (1 + (new.length / 9)))) (nI_add 1 (new.length / 9)) ?_
      refine zr_iast (g := upd (upd (fun _ => 0) 0 (nI (1 + (new.length % 9)))) 1 (nI (1 + (new.length / 9)))) hx hb hK hP hD hS 1 rfl (by omega) (by omega) (rfl) dX4_rows_53 (fun H locs hP hD hS => ?_)
      have hP : va_P G.1 vwCl (([(mq, .inl (G.2.2.1, 81, .inr (.inr (.inr (.inr (zlf new)))))), (q9, .inl (G.2.1, 4, .inl (upd (upd (fun _ => 0) 0 (nI (1 + (new.length % 9)))) 1 (nI (1 + (new.length / 9))))))] : va_W) ++ new.map (zrc G 2)) H := hP
      have hD : va_D A (([(mq, .inl (G.2.2.1, 81, .inr (.inr (.inr (.inr (zlf new)))))), (q9, .inl (G.2.1, 4, .inl (upd (upd (fun _ => 0) 0 (nI (1 + (new.length % 9)))) 1 (nI (1 + (new.length / 9))))))] : va_W) ++ new.map (zrc G 2)) := hD
      refine lv_dup hx hb dX4_rows_54 rfl ?_
      refine lv_iconst (v := nI 2) hx hb dX4_rows_55 (by decide) ?_
      refine lv_iconst (v := nI 0) hx hb dX4_rows_56 (by decide) ?_
      refine zr_iast (g := upd (upd (upd (fun _ => 0) 0 (nI (1 + (new.length % 9)))) 1 (nI (1 + (new.length / 9)))) 2 (nI 0)) hx hb hK hP hD hS 1 rfl (by omega) (by omega) (rfl) dX4_rows_57 (fun H locs hP hD hS => ?_)
      have hP : va_P G.1 vwCl (([(mq, .inl (G.2.2.1, 81, .inr (.inr (.inr (.inr (zlf new)))))), (q9, .inl (G.2.1, 4, .inl (upd (upd (upd (fun _ => 0) 0 (nI (1 + (new.length % 9)))) 1 (nI (1 + (new.length / 9)))) 2 (nI 0))))] : va_W) ++ new.map (zrc G 2)) H := hP
      have hD : va_D A (([(mq, .inl (G.2.2.1, 81, .inr (.inr (.inr (.inr (zlf new)))))), (q9, .inl (G.2.1, 4, .inl (upd (upd (upd (fun _ => 0) 0 (nI (1 + (new.length % 9)))) 1 (nI (1 + (new.length / 9)))) 2 (nI 0))))] : va_W) ++ new.map (zrc G 2)) := hD
      refine lv_dup hx hb dX4_rows_58 rfl ?_
      refine lv_iconst (v := nI 3) hx hb dX4_rows_59 (by decide) ?_
      refine lv_iconst (v := nI 0) hx hb dX4_rows_60 (by decide) ?_
      refine zr_iast (g := upd (upd (upd (upd (fun _ => 0) 0 (nI (1 + (new.length % 9)))) 1 (nI (1 + (new.length / 9)))) 2 (nI 0)) 3 (nI 0)) hx hb hK hP hD hS 1 rfl (by omega) (by omega) (rfl) dX4_rows_61 (fun H locs hP hD hS => ?_)
      have hP : va_P G.1 vwCl (([(mq, .inl (G.2.2.1, 81, .inr (.inr (.inr (.inr (zlf new)))))), (q9, .inl (G.2.1, 4, .inl (upd (upd (upd (upd (fun _ => 0) 0 (nI (1 + (new.length % 9)))) 1 (nI (1 + (new.length / 9)))) 2 (nI 0)) 3 (nI 0))))] : va_W) ++ new.map (zrc G 2)) H := hP
      have hD : va_D A (([(mq, .inl (G.2.2.1, 81, .inr (.inr (.inr (.inr (zlf new)))))), (q9, .inl (G.2.1, 4, .inl (upd (upd (upd (upd (fun _ => 0) 0 (nI (1 + (new.length % 9)))) 1 (nI (1 + (new.length / 9)))) 2 (nI 0)) 3 (nI 0))))] : va_W) ++ new.map (zrc G 2)) := hD
      refine lv_goto (tgt := 111) hx hb dX4_rows_62 (by decide) ?_
      rw [zrw_new2 (k := new.length) (by omega)] at hP hD
      have hP : va_P G.1 vwCl (([(mq, .inl (G.2.2.1, 81, .inr (.inr (.inr (.inr (zlf new)))))), (q9, .inl (G.2.1, (2 * 2), .inl (zrw 2 new.length 0)))] : va_W) ++ new.map (zrc G 2)) H := hP
      have hD : va_D A (([(mq, .inl (G.2.2.1, 81, .inr (.inr (.inr (.inr (zlf new)))))), (q9, .inl (G.2.1, (2 * 2), .inl (zrw 2 new.length 0)))] : va_W) ++ new.map (zrc G 2)) := hD
      refine zr_qst (g := zlf (new ++ [(q9, new.length, 0)])) hx hb hK hP hD hS 0 rfl (List.mem_append_left _ (List.mem_cons_of_mem _ List.mem_cons_self)) (by omega) (by omega) (zlf_add new (q9, new.length, 0)) dX4_rows_111 (fun H locs hP hD hS => ?_)
      have hP : va_P G.1 vwCl (([(mq, .inl (G.2.2.1, 81, .inr (.inr (.inr (.inr (zlf (new ++ [(q9, new.length, 0)]))))))), (q9, .inl (G.2.1, (2 * 2), .inl (zrw 2 new.length 0)))] : va_W) ++ new.map (zrc G 2)) H := hP
      have hD : va_D A (([(mq, .inl (G.2.2.1, 81, .inr (.inr (.inr (.inr (zlf (new ++ [(q9, new.length, 0)]))))))), (q9, .inl (G.2.1, (2 * 2), .inl (zrw 2 new.length 0)))] : va_W) ++ new.map (zrc G 2)) := hD
      refine lv_iinc (v := (nI (new.length + 1))) (lv' := [(3, .int (nI (new.length + 1))), (2, .ref mq), (1, .int (nI 81)), (0, .int (nI 2))]) hx hb dX4_rows_112 hl (k := 0) rfl (nI_1 new.length) (by decide) rfl (fun ls hl => ?_)
      refine lv_goto (tgt := 21) hx hb dX4_rows_115 (by decide) ?_
      have hp9 := zj_start ((mq, .inl (G.2.2.1, 81, .inr (.inr (.inr (.inr (zlf (new ++ [(q9, new.length, 0)])))))))) (new.map (zrc G 2)) ((q9, .inl (G.2.1, (2 * 2), .inl (zrw 2 new.length 0))))
      have hP := hP.perm hp9
      have hD := hD.perm hp9
      have em : new.map (zrc G 2) ++ [(q9, .inl (G.2.1, (2 * 2), .inl (zrw 2 new.length 0)))] = (new ++ [(q9, new.length, 0)]).map (zrc G 2) := by rw [List.map_append]; rfl
      rw [em] at hP hD
      have el : (new ++ [(q9, new.length, 0)]).length = new.length + 1 := by rw [List.length_append]; rfl
      have R := ih (new ++ [(q9, new.length, 0)]) H locs ls (by omega) (by rw [el, List.map_append, hnw, List.range_succ, List.map_append]; rfl) hP hD hS (by rw [el]; exact lv_sub hl [0, 1, 2, 3] rfl)
      rw [el] at R
      exact R
  refine lv_iload_n hx hb dX4_rows_0 rfl (lv_at hl 0 rfl) ?_
  refine lv_iconst (v := nI 2) hx hb dX4_rows_1 (by decide) ?_
  refine lv_icmp_ne (tgt := 10) hx hb dX4_rows_2 (by decide) (fun z => absurd (show (nI 2) = (nI 2) from (by decide)) z) (fun _ => ?_)
  refine lv_bipush (v := nI 81) hx hb dX4_rows_5 (by decide) ?_
  refine lv_goto (tgt := 13) hx hb dX4_rows_7 (by decide) ?_
  refine lv_istore_n (lv' := [(1, .int (nI 81)), (0, .int (nI 2))]) hx hb dX4_rows_13 rfl hl (by decide) rfl (fun ls hl => ?_)
  refine lv_iload_n hx hb dX4_rows_14 rfl (lv_at hl 0 rfl) ?_
  refine zr_newQ (N := 81) hx hb hown (hts (.classLink RX4 27 "[I") (by decide +kernel)) hK hP hD hS hA (by omega) (Nat.le_of_ble_eq_true rfl) (Nat.le_of_ble_eq_true rfl) dX4_rows_15 (fun mq H hP hD hS => ?_)
  have hP : va_P G.1 vwCl (([(mq, .inl (G.2.2.1, 81, .inr (.inr (.inr (.inr (fun _ => none))))))] : va_W)) H := hP
  have hD : va_D A (([(mq, .inl (G.2.2.1, 81, .inr (.inr (.inr (.inr (fun _ => none))))))] : va_W)) := hD
  refine lv_astore_n (lv' := [(2, .ref mq), (1, .int (nI 81)), (0, .int (nI 2))]) hx hb dX4_rows_18 rfl hl (by decide) rfl (fun ls hl => ?_)
  refine lv_iconst (v := nI 0) hx hb dX4_rows_19 (by decide) ?_
  refine lv_istore_n (lv' := [(3, .int (nI 0)), (2, .ref mq), (1, .int (nI 81)), (0, .int (nI 2))]) hx hb dX4_rows_20 rfl hl (by decide) rfl (fun ls hl => ?_)
  have hP : va_P G.1 vwCl (([(mq, .inl (G.2.2.1, 81, .inr (.inr (.inr (.inr (zlf []))))))] : va_W) ++ ([] : zRows).map (zrc G 2)) H := by rw [zlf_nil]; exact hP
  have hD : va_D A (([(mq, .inl (G.2.2.1, 81, .inr (.inr (.inr (.inr (zlf []))))))] : va_W) ++ ([] : zRows).map (zrc G 2)) := by rw [zlf_nil]; exact hD
  exact loop mq 81 [] H locs ls rfl rfl hP hD hS (lv_sub hl [0, 1, 2, 3] rfl)
set_option maxHeartbeats 4000000 in
set_option maxRecDepth 100000 in
theorem s_rows3 (l : Launch) (G : zG) : zCr l G yX4_rows wsX4_rows rm_X4_rows 730 5103 [.int (nI 3)] [] (fun u : {u : Nat × zRows // u.2.map Prod.snd = zAll 3} => some (.ref u.1.1)) (fun u : {u : Nat × zRows // u.2.map Prod.snd = zAll 3} => [(u.1.1, .inl (G.2.2.1, u.1.2.length, .inr (.inr (.inr (.inr (zlf u.1.2))))))] ++ u.1.2.map (zrc G 3)) := by
  refine z_ofr (cc := cX4_rows) (maxL := 4) (ret := (some (.array (.array .int)))) (own := RX4) (by decide) rfl rfl (Nat.le_of_ble_eq_true rfl) ?_
  intro p e s m args below meth c A H locs ls F hr hlocks hname hK hA hP hD hS hl
  obtain ⟨hx, hb, hml, hown, hts⟩ := id F
  have hl : lv_has ls 4 [(0, .int (nI 3))] := hl
  have loop : ∀ (mq r : Nat) (new : zRows) (H : Heap) (locs : List Loc) (ls : Array Slot), new.length + r = 729 → new.map Prod.snd = (List.range new.length).map (fun k => (k, 0)) → va_P G.1 vwCl (([(mq, .inl (G.2.2.1, 729, .inr (.inr (.inr (.inr (zlf new))))))] : va_W) ++ new.map (zrc G 3)) H → va_D A (([(mq, .inl (G.2.2.1, 729, .inr (.inr (.inr (.inr (zlf new))))))] : va_W) ++ new.map (zrc G 3)) → va_S A s.heap H locs → lv_has ls 4 [(3, .int (nI new.length)), (2, .ref mq), (1, .int (nI 729)), (0, .int (nI 3))] → W p l e rm_X4_rows s m args below meth c H locs (1 + new.length) (729 + 6 * new.length) (MQ below (zQr G (fun u : {u : Nat × zRows // u.2.map Prod.snd = zAll 3} => some (.ref u.1.1)) (fun u : {u : Nat × zRows // u.2.map Prod.snd = zAll 3} => [(u.1.1, .inl (G.2.2.1, u.1.2.length, .inr (.inr (.inr (.inr (zlf u.1.2))))))] ++ u.1.2.map (zrc G 3)) A) args s 730 5103 A) (F0 m 21 ls []) := by
    intro mq r
    induction r with
    | zero =>
      intro new H locs ls hk hnw hP hD hS hl
      have hk : new.length = 729 := by omega
      refine lv_iload_n hx hb dX4_rows_21 rfl (lv_at hl 0 rfl) ?_
      refine lv_iload_n hx hb dX4_rows_22 rfl (lv_at hl 2 rfl) ?_
      refine lv_icmp_ge (tgt := 118) hx hb dX4_rows_23 (by decide) (fun _ => ?_) (fun z => absurd (show (nI 729) ≤ (nI new.length) from (nI_le (by omega) (by omega))) z)
      refine lv_aload_n hx hb dX4_rows_118 rfl (lv_at hl 1 rfl) ?_
      refine W.widen (k := 730) (n := 5103) (show 1 + new.length ≤ 730 by omega) (show 729 + 6 * new.length ≤ 5103 by omega) ?_
      rw [← hk] at hP hD
      exact zr_aret F hr (Or.inr ⟨.array .int, rfl⟩) hlocks hP hD hS ⟨(mq, new), by rw [hnw, hk]; rfl⟩ (List.Perm.refl _) rfl dX4_rows_119
    | succ r ih =>
      intro new H locs ls hk hnw hP hD hS hl
      refine lv_iload_n hx hb dX4_rows_21 rfl (lv_at hl 0 rfl) ?_
      refine lv_iload_n hx hb dX4_rows_22 rfl (lv_at hl 2 rfl) ?_
      refine lv_icmp_ge (tgt := 118) hx hb dX4_rows_23 (by decide) (fun z => absurd z (show ¬ (nI 729) ≤ (nI new.length) from (nI_ge (by omega) (by omega)))) (fun _ => ?_)
      refine lv_aload_n hx hb dX4_rows_26 rfl (lv_at hl 1 rfl) ?_
      refine lv_iload_n hx hb dX4_rows_27 rfl (lv_at hl 0 rfl) ?_
      refine lv_iload_n hx hb dX4_rows_28 rfl (lv_at hl 3 rfl) ?_
      refine lv_iconst (v := nI 2) hx hb dX4_rows_29 (by decide) ?_
      refine lv_icmp_ne (tgt := 65) hx hb dX4_rows_30 (by decide) (fun _ => ?_) (fun z => absurd z (show ¬ (nI 3) = (nI 2) from (by decide)))
      refine lv_bipush (v := nI 6) hx hb dX4_rows_65 (by decide) ?_
      refine zr_new (N := 6) hx hb (hts (.arrayClass .int) (by decide +kernel)) hK hP hD hS hA (by omega) (show 1 + new.length + 1 ≤ 730 by omega) (show 729 + 6 * new.length + 6 ≤ 5103 by omega) dX4_rows_67 (fun q9 H hP hD hS => ?_)
      have hp9 := zj_move ([(mq, .inl (G.2.2.1, 729, .inr (.inr (.inr (.inr (zlf new))))))] : va_W) (new.map (zrc G 3)) (q9, .inl (G.2.1, 6, .inl (fun _ => 0)))
      have hP := hP.perm hp9
      have hD := hD.perm hp9
      have hP : va_P G.1 vwCl (([(mq, .inl (G.2.2.1, 729, .inr (.inr (.inr (.inr (zlf new)))))), (q9, .inl (G.2.1, 6, .inl (fun _ => 0)))] : va_W) ++ new.map (zrc G 3)) H := hP
      have hD : va_D A (([(mq, .inl (G.2.2.1, 729, .inr (.inr (.inr (.inr (zlf new)))))), (q9, .inl (G.2.1, 6, .inl (fun _ => 0)))] : va_W) ++ new.map (zrc G 3)) := hD
      refine lv_dup hx hb dX4_rows_69 rfl ?_
      refine lv_iconst (v := nI 0) hx hb dX4_rows_70 (by decide) ?_
      refine lv_iconst (v := nI 1) hx hb dX4_rows_71 (by decide) ?_
      refine lv_iload_n hx hb dX4_rows_72 rfl (lv_at hl 0 rfl) ?_
      refine lv_bipush (v := nI 9) hx hb dX4_rows_73 (by decide) ?_
      refine lv_irem hx hb dX4_rows_75 (by decide) ?_
      refine zt_top (v := (nI (new.length % 9))) (pk_rem (by omega) (by omega) (by omega)) ?_
      refine lv_iadd hx hb dX4_rows_76 ?_
      refine zt_top (v := (nI (1 + (new.length % 9)))) (nI_add 1 (new.length % 9)) ?_
      refine zr_iast (g := upd (fun _ => 0) 0 (nI (1 + (new.length % 9)))) hx hb hK hP hD hS 1 rfl (by omega) (by omega) (rfl) dX4_rows_77 (fun H locs hP hD hS => ?_)
      have hP : va_P G.1 vwCl (([(mq, .inl (G.2.2.1, 729, .inr (.inr (.inr (.inr (zlf new)))))), (q9, .inl (G.2.1, 6, .inl (upd (fun _ => 0) 0 (nI (1 + (new.length % 9))))))] : va_W) ++ new.map (zrc G 3)) H := hP
      have hD : va_D A (([(mq, .inl (G.2.2.1, 729, .inr (.inr (.inr (.inr (zlf new)))))), (q9, .inl (G.2.1, 6, .inl (upd (fun _ => 0) 0 (nI (1 + (new.length % 9))))))] : va_W) ++ new.map (zrc G 3)) := hD
      refine lv_dup hx hb dX4_rows_78 rfl ?_
      refine lv_iconst (v := nI 1) hx hb dX4_rows_79 (by decide) ?_
      refine lv_iconst (v := nI 1) hx hb dX4_rows_80 (by decide) ?_
      refine lv_iload_n hx hb dX4_rows_81 rfl (lv_at hl 0 rfl) ?_
      refine lv_bipush (v := nI 9) hx hb dX4_rows_82 (by decide) ?_
      refine lv_idiv hx hb dX4_rows_84 (by decide) ?_
      refine zt_top (v := (nI (new.length / 9))) (pk_div (by omega) (by omega) (by omega)) ?_
      refine lv_bipush (v := nI 9) hx hb dX4_rows_85 (by decide) ?_
      refine lv_irem hx hb dX4_rows_87 (by decide) ?_
      refine zt_top (v := (nI ((new.length / 9) % 9))) (pk_rem (by omega) (by omega) (by omega)) ?_
      refine lv_iadd hx hb dX4_rows_88 ?_
      refine zt_top (v := (nI (1 + ((new.length / 9) % 9)))) (nI_add 1 ((new.length / 9) % 9)) ?_
      refine zr_iast (g := upd (upd (fun _ => 0) 0 (nI (1 + (new.length % 9)))) 1 (nI (1 + ((new.length / 9) % 9)))) hx hb hK hP hD hS 1 rfl (by omega) (by omega) (rfl) dX4_rows_89 (fun H locs hP hD hS => ?_)
      have hP : va_P G.1 vwCl (([(mq, .inl (G.2.2.1, 729, .inr (.inr (.inr (.inr (zlf new)))))), (q9, .inl (G.2.1, 6, .inl (upd (upd (fun _ => 0) 0 (nI (1 + (new.length % 9)))) 1 (nI (1 + ((new.length / 9) % 9))))))] : va_W) ++ new.map (zrc G 3)) H := hP
      have hD : va_D A (([(mq, .inl (G.2.2.1, 729, .inr (.inr (.inr (.inr (zlf new)))))), (q9, .inl (G.2.1, 6, .inl (upd (upd (fun _ => 0) 0 (nI (1 + (new.length % 9)))) 1 (nI (1 + ((new.length / 9) % 9))))))] : va_W) ++ new.map (zrc G 3)) := hD
      refine lv_dup hx hb dX4_rows_90 rfl ?_
      refine lv_iconst (v := nI 2) hx hb dX4_rows_91 (by decide) ?_
      refine lv_iconst (v := nI 1) hx hb dX4_rows_92 (by decide) ?_
      refine lv_iload_n hx hb dX4_rows_93 rfl (lv_at hl 0 rfl) ?_
      refine lv_bipush (v := nI 81) hx hb dX4_rows_94 (by decide) ?_
      refine lv_idiv hx hb dX4_rows_96 (by decide) ?_
      refine zt_top (v := (nI (new.length / 81))) (pk_div (by omega) (by omega) (by omega)) ?_
      refine lv_iadd hx hb dX4_rows_97 ?_
      refine zt_top (v := (nI (1 + (new.length / 81)))) (nI_add 1 (new.length / 81)) ?_
      refine zr_iast (g := upd (upd (upd (fun _ => 0) 0 (nI (1 + (new.length % 9)))) 1 (nI (1 + ((new.length / 9) % 9)))) 2 (nI (1 + (new.length / 81)))) hx hb hK hP hD hS 1 rfl (by omega) (by omega) (rfl) dX4_rows_98 (fun H locs hP hD hS => ?_)
      have hP : va_P G.1 vwCl (([(mq, .inl (G.2.2.1, 729, .inr (.inr (.inr (.inr (zlf new)))))), (q9, .inl (G.2.1, 6, .inl (upd (upd (upd (fun _ => 0) 0 (nI (1 + (new.length % 9)))) 1 (nI (1 + ((new.length / 9) % 9)))) 2 (nI (1 + (new.length / 81))))))] : va_W) ++ new.map (zrc G 3)) H := hP
      have hD : va_D A (([(mq, .inl (G.2.2.1, 729, .inr (.inr (.inr (.inr (zlf new)))))), (q9, .inl (G.2.1, 6, .inl (upd (upd (upd (fun _ => 0) 0 (nI (1 + (new.length % 9)))) 1 (nI (1 + ((new.length / 9) % 9)))) 2 (nI (1 + (new.length / 81))))))] : va_W) ++ new.map (zrc G 3)) := hD
      refine lv_dup hx hb dX4_rows_99 rfl ?_
      refine lv_iconst (v := nI 3) hx hb dX4_rows_100 (by decide) ?_
      refine lv_iconst (v := nI 0) hx hb dX4_rows_101 (by decide) ?_
      refine zr_iast (g := upd (upd (upd (upd (fun _ => 0) 0 (nI (1 + (new.length % 9)))) 1 (nI (1 + ((new.length / 9) % 9)))) 2 (nI (1 + (new.length / 81)))) 3 (nI 0)) hx hb hK hP hD hS 1 rfl (by omega) (by omega) (rfl) dX4_rows_102 (fun H locs hP hD hS => ?_)
      have hP : va_P G.1 vwCl (([(mq, .inl (G.2.2.1, 729, .inr (.inr (.inr (.inr (zlf new)))))), (q9, .inl (G.2.1, 6, .inl (upd (upd (upd (upd (fun _ => 0) 0 (nI (1 + (new.length % 9)))) 1 (nI (1 + ((new.length / 9) % 9)))) 2 (nI (1 + (new.length / 81)))) 3 (nI 0))))] : va_W) ++ new.map (zrc G 3)) H := hP
      have hD : va_D A (([(mq, .inl (G.2.2.1, 729, .inr (.inr (.inr (.inr (zlf new)))))), (q9, .inl (G.2.1, 6, .inl (upd (upd (upd (upd (fun _ => 0) 0 (nI (1 + (new.length % 9)))) 1 (nI (1 + ((new.length / 9) % 9)))) 2 (nI (1 + (new.length / 81)))) 3 (nI 0))))] : va_W) ++ new.map (zrc G 3)) := hD
      refine lv_dup hx hb dX4_rows_103 rfl ?_
      refine lv_iconst (v := nI 4) hx hb dX4_rows_104 (by decide) ?_
      refine lv_iconst (v := nI 0) hx hb dX4_rows_105 (by decide) ?_
      refine zr_iast (g := upd (upd (upd (upd (upd (fun _ => 0) 0 (nI (1 + (new.length % 9)))) 1 (nI (1 + ((new.length / 9) % 9)))) 2 (nI (1 + (new.length / 81)))) 3 (nI 0)) 4 (nI 0)) hx hb hK hP hD hS 1 rfl (by omega) (by omega) (rfl) dX4_rows_106 (fun H locs hP hD hS => ?_)
      have hP : va_P G.1 vwCl (([(mq, .inl (G.2.2.1, 729, .inr (.inr (.inr (.inr (zlf new)))))), (q9, .inl (G.2.1, 6, .inl (upd (upd (upd (upd (upd (fun _ => 0) 0 (nI (1 + (new.length % 9)))) 1 (nI (1 + ((new.length / 9) % 9)))) 2 (nI (1 + (new.length / 81)))) 3 (nI 0)) 4 (nI 0))))] : va_W) ++ new.map (zrc G 3)) H := hP
      have hD : va_D A (([(mq, .inl (G.2.2.1, 729, .inr (.inr (.inr (.inr (zlf new)))))), (q9, .inl (G.2.1, 6, .inl (upd (upd (upd (upd (upd (fun _ => 0) 0 (nI (1 + (new.length % 9)))) 1 (nI (1 + ((new.length / 9) % 9)))) 2 (nI (1 + (new.length / 81)))) 3 (nI 0)) 4 (nI 0))))] : va_W) ++ new.map (zrc G 3)) := hD
      refine lv_dup hx hb dX4_rows_107 rfl ?_
      refine lv_iconst (v := nI 5) hx hb dX4_rows_108 (by decide) ?_
      refine lv_iconst (v := nI 0) hx hb dX4_rows_109 (by decide) ?_
      refine zr_iast (g := upd (upd (upd (upd (upd (upd (fun _ => 0) 0 (nI (1 + (new.length % 9)))) 1 (nI (1 + ((new.length / 9) % 9)))) 2 (nI (1 + (new.length / 81)))) 3 (nI 0)) 4 (nI 0)) 5 (nI 0)) hx hb hK hP hD hS 1 rfl (by omega) (by omega) (rfl) dX4_rows_110 (fun H locs hP hD hS => ?_)
      have hP : va_P G.1 vwCl (([(mq, .inl (G.2.2.1, 729, .inr (.inr (.inr (.inr (zlf new)))))), (q9, .inl (G.2.1, 6, .inl (upd (upd (upd (upd (upd (upd (fun _ => 0) 0 (nI (1 + (new.length % 9)))) 1 (nI (1 + ((new.length / 9) % 9)))) 2 (nI (1 + (new.length / 81)))) 3 (nI 0)) 4 (nI 0)) 5 (nI 0))))] : va_W) ++ new.map (zrc G 3)) H := hP
      have hD : va_D A (([(mq, .inl (G.2.2.1, 729, .inr (.inr (.inr (.inr (zlf new)))))), (q9, .inl (G.2.1, 6, .inl (upd (upd (upd (upd (upd (upd (fun _ => 0) 0 (nI (1 + (new.length % 9)))) 1 (nI (1 + ((new.length / 9) % 9)))) 2 (nI (1 + (new.length / 81)))) 3 (nI 0)) 4 (nI 0)) 5 (nI 0))))] : va_W) ++ new.map (zrc G 3)) := hD
      rw [zrw_new3 (k := new.length) (by omega)] at hP hD
      have hP : va_P G.1 vwCl (([(mq, .inl (G.2.2.1, 729, .inr (.inr (.inr (.inr (zlf new)))))), (q9, .inl (G.2.1, (2 * 3), .inl (zrw 3 new.length 0)))] : va_W) ++ new.map (zrc G 3)) H := hP
      have hD : va_D A (([(mq, .inl (G.2.2.1, 729, .inr (.inr (.inr (.inr (zlf new)))))), (q9, .inl (G.2.1, (2 * 3), .inl (zrw 3 new.length 0)))] : va_W) ++ new.map (zrc G 3)) := hD
      refine zr_qst (g := zlf (new ++ [(q9, new.length, 0)])) hx hb hK hP hD hS 0 rfl (List.mem_append_left _ (List.mem_cons_of_mem _ List.mem_cons_self)) (by omega) (by omega) (zlf_add new (q9, new.length, 0)) dX4_rows_111 (fun H locs hP hD hS => ?_)
      have hP : va_P G.1 vwCl (([(mq, .inl (G.2.2.1, 729, .inr (.inr (.inr (.inr (zlf (new ++ [(q9, new.length, 0)]))))))), (q9, .inl (G.2.1, (2 * 3), .inl (zrw 3 new.length 0)))] : va_W) ++ new.map (zrc G 3)) H := hP
      have hD : va_D A (([(mq, .inl (G.2.2.1, 729, .inr (.inr (.inr (.inr (zlf (new ++ [(q9, new.length, 0)]))))))), (q9, .inl (G.2.1, (2 * 3), .inl (zrw 3 new.length 0)))] : va_W) ++ new.map (zrc G 3)) := hD
      refine lv_iinc (v := (nI (new.length + 1))) (lv' := [(3, .int (nI (new.length + 1))), (2, .ref mq), (1, .int (nI 729)), (0, .int (nI 3))]) hx hb dX4_rows_112 hl (k := 0) rfl (nI_1 new.length) (by decide) rfl (fun ls hl => ?_)
      refine lv_goto (tgt := 21) hx hb dX4_rows_115 (by decide) ?_
      have hp9 := zj_start ((mq, .inl (G.2.2.1, 729, .inr (.inr (.inr (.inr (zlf (new ++ [(q9, new.length, 0)])))))))) (new.map (zrc G 3)) ((q9, .inl (G.2.1, (2 * 3), .inl (zrw 3 new.length 0))))
      have hP := hP.perm hp9
      have hD := hD.perm hp9
      have em : new.map (zrc G 3) ++ [(q9, .inl (G.2.1, (2 * 3), .inl (zrw 3 new.length 0)))] = (new ++ [(q9, new.length, 0)]).map (zrc G 3) := by rw [List.map_append]; rfl
      rw [em] at hP hD
      have el : (new ++ [(q9, new.length, 0)]).length = new.length + 1 := by rw [List.length_append]; rfl
      have R := ih (new ++ [(q9, new.length, 0)]) H locs ls (by omega) (by rw [el, List.map_append, hnw, List.range_succ, List.map_append]; rfl) hP hD hS (by rw [el]; exact lv_sub hl [0, 1, 2, 3] rfl)
      rw [el] at R
      exact R
  refine lv_iload_n hx hb dX4_rows_0 rfl (lv_at hl 0 rfl) ?_
  refine lv_iconst (v := nI 2) hx hb dX4_rows_1 (by decide) ?_
  refine lv_icmp_ne (tgt := 10) hx hb dX4_rows_2 (by decide) (fun _ => ?_) (fun z => absurd z (show ¬ (nI 3) = (nI 2) from (by decide)))
  refine lv_sipush (v := nI 729) hx hb dX4_rows_10 (by decide) ?_
  refine lv_istore_n (lv' := [(1, .int (nI 729)), (0, .int (nI 3))]) hx hb dX4_rows_13 rfl hl (by decide) rfl (fun ls hl => ?_)
  refine lv_iload_n hx hb dX4_rows_14 rfl (lv_at hl 0 rfl) ?_
  refine zr_newQ (N := 729) hx hb hown (hts (.classLink RX4 27 "[I") (by decide +kernel)) hK hP hD hS hA (by omega) (Nat.le_of_ble_eq_true rfl) (Nat.le_of_ble_eq_true rfl) dX4_rows_15 (fun mq H hP hD hS => ?_)
  have hP : va_P G.1 vwCl (([(mq, .inl (G.2.2.1, 729, .inr (.inr (.inr (.inr (fun _ => none))))))] : va_W)) H := hP
  have hD : va_D A (([(mq, .inl (G.2.2.1, 729, .inr (.inr (.inr (.inr (fun _ => none))))))] : va_W)) := hD
  refine lv_astore_n (lv' := [(2, .ref mq), (1, .int (nI 729)), (0, .int (nI 3))]) hx hb dX4_rows_18 rfl hl (by decide) rfl (fun ls hl => ?_)
  refine lv_iconst (v := nI 0) hx hb dX4_rows_19 (by decide) ?_
  refine lv_istore_n (lv' := [(3, .int (nI 0)), (2, .ref mq), (1, .int (nI 729)), (0, .int (nI 3))]) hx hb dX4_rows_20 rfl hl (by decide) rfl (fun ls hl => ?_)
  have hP : va_P G.1 vwCl (([(mq, .inl (G.2.2.1, 729, .inr (.inr (.inr (.inr (zlf []))))))] : va_W) ++ ([] : zRows).map (zrc G 3)) H := by rw [zlf_nil]; exact hP
  have hD : va_D A (([(mq, .inl (G.2.2.1, 729, .inr (.inr (.inr (.inr (zlf []))))))] : va_W) ++ ([] : zRows).map (zrc G 3)) := by rw [zlf_nil]; exact hD
  exact loop mq 729 [] H locs ls rfl rfl hP hD hS (lv_sub hl [0, 1, 2, 3] rfl)
theorem zar_0 (n : Nat) : (fun _ => 0) = zar n (fun _ => 0) := by
  funext i; unfold zar; split <;> rfl
theorem zkt_00 : (fun _ => 0) = zkt (0, 0, 0, 0, 0, 0) := by
  funext i; unfold zkt; repeat' split
  all_goals rfl
set_option maxHeartbeats 4000000 in
set_option maxRecDepth 100000 in
theorem s_layOut2 (l : Launch) (G : zG) {n : Nat} {V X : Nat → Nat} {t : zU} (sh sv sa sc sl : Nat) (rows : zRows) {a b : Nat} : zCr l G yX4_layOut wsX4_layOut rm_X4_layOut 733 5115 [.ref sh, .int (nI a), .int (nI b), .int (nI 0)] (zSW G sh n V X t (sv, sa, sc, sl, rows)) (fun _ : {u : zSu // u.2.2.2.2.map Prod.snd = zAll 2} => none) (fun u : {u : zSu // u.2.2.2.2.map Prod.snd = zAll 2} => zSW G sh 2 (zV3 a b 0) (fun _ => 0) (0, 0, 0, 0, 0, 0) u.1) := by
  refine z_ofr (cc := cX4_layOut) (maxL := 4) (ret := none) (own := RX4) (by decide) rfl rfl (Nat.le_of_ble_eq_true rfl) ?_
  intro p e s m args below meth c A H locs ls F hr hlocks hname hK hA hP hD hS hl
  obtain ⟨hx, hb, hml, hown, hts⟩ := id F
  have hl : lv_has ls 4 [(0, .ref sh), (1, .int (nI a)), (2, .int (nI b)), (3, .int (nI 0))] := hl
  have hP : va_P G.1 vwCl (([(sh, .inr (4, [.ref sv, .ref sa, .ref sc, .ref sl])), (sv, .inl (G.2.1, n, .inl (zar n V))), (sa, .inl (G.2.1, n, .inl (zar n X))), (sc, .inl (G.2.1, 6, .inl (zkt t))), (sl, .inl (G.2.2.1, rows.length, .inr (.inr (.inr (.inr (zlf rows))))))] : va_W) ++ rows.map (zrc G n)) H := hP
  have hD : va_D A (([(sh, .inr (4, [.ref sv, .ref sa, .ref sc, .ref sl])), (sv, .inl (G.2.1, n, .inl (zar n V))), (sa, .inl (G.2.1, n, .inl (zar n X))), (sc, .inl (G.2.1, 6, .inl (zkt t))), (sl, .inl (G.2.2.1, rows.length, .inr (.inr (.inr (.inr (zlf rows))))))] : va_W) ++ rows.map (zrc G n)) := hD
  refine lv_aload_n hx hb dX4_layOut_0 rfl (lv_at hl 0 rfl) ?_
  refine lv_iload_n hx hb dX4_layOut_1 rfl (lv_at hl 3 rfl) ?_
  refine lv_if_ne (tgt := 19) hx hb dX4_layOut_2 (by decide) (fun z => absurd (show (nI 0) = (nI 0) from (by decide)) z) (fun _ => ?_)
  refine lv_iconst (v := nI 2) hx hb dX4_layOut_5 (by decide) ?_
  refine zr_new (N := 2) hx hb (hts (.arrayClass .int) (by decide +kernel)) hK hP hD hS hA (by omega) (Nat.le_of_ble_eq_true rfl) (Nat.le_of_ble_eq_true rfl) dX4_layOut_6 (fun vq H hP hD hS => ?_)
  have hp9 := zj_move ([(sh, .inr (4, [.ref sv, .ref sa, .ref sc, .ref sl])), (sv, .inl (G.2.1, n, .inl (zar n V))), (sa, .inl (G.2.1, n, .inl (zar n X))), (sc, .inl (G.2.1, 6, .inl (zkt t))), (sl, .inl (G.2.2.1, rows.length, .inr (.inr (.inr (.inr (zlf rows))))))] : va_W) (rows.map (zrc G n)) (vq, .inl (G.2.1, 2, .inl (fun _ => 0)))
  have hP := hP.perm hp9
  have hD := hD.perm hp9
  have hP : va_P G.1 vwCl (([(sh, .inr (4, [.ref sv, .ref sa, .ref sc, .ref sl])), (sv, .inl (G.2.1, n, .inl (zar n V))), (sa, .inl (G.2.1, n, .inl (zar n X))), (sc, .inl (G.2.1, 6, .inl (zkt t))), (sl, .inl (G.2.2.1, rows.length, .inr (.inr (.inr (.inr (zlf rows)))))), (vq, .inl (G.2.1, 2, .inl (fun _ => 0)))] : va_W) ++ rows.map (zrc G n)) H := hP
  have hD : va_D A (([(sh, .inr (4, [.ref sv, .ref sa, .ref sc, .ref sl])), (sv, .inl (G.2.1, n, .inl (zar n V))), (sa, .inl (G.2.1, n, .inl (zar n X))), (sc, .inl (G.2.1, 6, .inl (zkt t))), (sl, .inl (G.2.2.1, rows.length, .inr (.inr (.inr (.inr (zlf rows)))))), (vq, .inl (G.2.1, 2, .inl (fun _ => 0)))] : va_W) ++ rows.map (zrc G n)) := hD
  refine lv_dup hx hb dX4_layOut_8 rfl ?_
  refine lv_iconst (v := nI 0) hx hb dX4_layOut_9 (by decide) ?_
  refine lv_iload_n hx hb dX4_layOut_10 rfl (lv_at hl 1 rfl) ?_
  refine zr_iast (g := upd (fun _ => 0) 0 (nI a)) hx hb hK hP hD hS 5 rfl (by omega) (by omega) (rfl) dX4_layOut_11 (fun H locs hP hD hS => ?_)
  have hP : va_P G.1 vwCl (([(sh, .inr (4, [.ref sv, .ref sa, .ref sc, .ref sl])), (sv, .inl (G.2.1, n, .inl (zar n V))), (sa, .inl (G.2.1, n, .inl (zar n X))), (sc, .inl (G.2.1, 6, .inl (zkt t))), (sl, .inl (G.2.2.1, rows.length, .inr (.inr (.inr (.inr (zlf rows)))))), (vq, .inl (G.2.1, 2, .inl (upd (fun _ => 0) 0 (nI a))))] : va_W) ++ rows.map (zrc G n)) H := hP
  have hD : va_D A (([(sh, .inr (4, [.ref sv, .ref sa, .ref sc, .ref sl])), (sv, .inl (G.2.1, n, .inl (zar n V))), (sa, .inl (G.2.1, n, .inl (zar n X))), (sc, .inl (G.2.1, 6, .inl (zkt t))), (sl, .inl (G.2.2.1, rows.length, .inr (.inr (.inr (.inr (zlf rows)))))), (vq, .inl (G.2.1, 2, .inl (upd (fun _ => 0) 0 (nI a))))] : va_W) ++ rows.map (zrc G n)) := hD
  refine lv_dup hx hb dX4_layOut_12 rfl ?_
  refine lv_iconst (v := nI 1) hx hb dX4_layOut_13 (by decide) ?_
  refine lv_iload_n hx hb dX4_layOut_14 rfl (lv_at hl 2 rfl) ?_
  refine zr_iast (g := upd (upd (fun _ => 0) 0 (nI a)) 1 (nI b)) hx hb hK hP hD hS 5 rfl (by omega) (by omega) (rfl) dX4_layOut_15 (fun H locs hP hD hS => ?_)
  have hP : va_P G.1 vwCl (([(sh, .inr (4, [.ref sv, .ref sa, .ref sc, .ref sl])), (sv, .inl (G.2.1, n, .inl (zar n V))), (sa, .inl (G.2.1, n, .inl (zar n X))), (sc, .inl (G.2.1, 6, .inl (zkt t))), (sl, .inl (G.2.2.1, rows.length, .inr (.inr (.inr (.inr (zlf rows)))))), (vq, .inl (G.2.1, 2, .inl (upd (upd (fun _ => 0) 0 (nI a)) 1 (nI b))))] : va_W) ++ rows.map (zrc G n)) H := hP
  have hD : va_D A (([(sh, .inr (4, [.ref sv, .ref sa, .ref sc, .ref sl])), (sv, .inl (G.2.1, n, .inl (zar n V))), (sa, .inl (G.2.1, n, .inl (zar n X))), (sc, .inl (G.2.1, 6, .inl (zkt t))), (sl, .inl (G.2.2.1, rows.length, .inr (.inr (.inr (.inr (zlf rows)))))), (vq, .inl (G.2.1, 2, .inl (upd (upd (fun _ => 0) 0 (nI a)) 1 (nI b))))] : va_W) ++ rows.map (zrc G n)) := hD
  refine lv_goto (tgt := 34) hx hb dX4_layOut_16 (by decide) ?_
  rw [show (upd (upd (fun _ => 0) 0 (nI a)) 1 (nI b)) = zar 2 (zV3 a b 0) from zar_mk2 (zV3 a b 0)] at hP hD
  have hP : va_P G.1 vwCl (([(sh, .inr (4, [.ref sv, .ref sa, .ref sc, .ref sl])), (sv, .inl (G.2.1, n, .inl (zar n V))), (sa, .inl (G.2.1, n, .inl (zar n X))), (sc, .inl (G.2.1, 6, .inl (zkt t))), (sl, .inl (G.2.2.1, rows.length, .inr (.inr (.inr (.inr (zlf rows)))))), (vq, .inl (G.2.1, 2, .inl (zar 2 (zV3 a b 0))))] : va_W) ++ rows.map (zrc G n)) H := hP
  have hD : va_D A (([(sh, .inr (4, [.ref sv, .ref sa, .ref sc, .ref sl])), (sv, .inl (G.2.1, n, .inl (zar n V))), (sa, .inl (G.2.1, n, .inl (zar n X))), (sc, .inl (G.2.1, 6, .inl (zkt t))), (sl, .inl (G.2.2.1, rows.length, .inr (.inr (.inr (.inr (zlf rows)))))), (vq, .inl (G.2.1, 2, .inl (zar 2 (zV3 a b 0))))] : va_W) ++ rows.map (zrc G n)) := hD
  refine va_put (D := G.1) (ci := 4) (v := .ref vq) (ty := .array .int) (C := RX4) (T := TX4) (N := 4) hx hb hts in_X4_layOut_X4 tyX4 tyX4_ok nmX4 hown hK.1 hP hD hS 0 rfl rfl 0 (by decide) (hts (.fieldLink RX4 7 "JarRiddleLaw$Sim" "volume" "[I") (by decide +kernel)) (fun _ h9 => h9) rfl (by decide +kernel) rfl rfl (Nat.le_of_ble_eq_true rfl) dX4_layOut_34 (fun H locs hP hD hS => ?_)
  have hP : va_P G.1 vwCl (([(sh, .inr (4, [.ref vq, .ref sa, .ref sc, .ref sl])), (sv, .inl (G.2.1, n, .inl (zar n V))), (sa, .inl (G.2.1, n, .inl (zar n X))), (sc, .inl (G.2.1, 6, .inl (zkt t))), (sl, .inl (G.2.2.1, rows.length, .inr (.inr (.inr (.inr (zlf rows)))))), (vq, .inl (G.2.1, 2, .inl (zar 2 (zV3 a b 0))))] : va_W) ++ rows.map (zrc G n)) H := hP
  have hD : va_D A (([(sh, .inr (4, [.ref vq, .ref sa, .ref sc, .ref sl])), (sv, .inl (G.2.1, n, .inl (zar n V))), (sa, .inl (G.2.1, n, .inl (zar n X))), (sc, .inl (G.2.1, 6, .inl (zkt t))), (sl, .inl (G.2.2.1, rows.length, .inr (.inr (.inr (.inr (zlf rows)))))), (vq, .inl (G.2.1, 2, .inl (zar 2 (zV3 a b 0))))] : va_W) ++ rows.map (zrc G n)) := hD
  refine lv_aload_n hx hb dX4_layOut_37 rfl (lv_at hl 0 rfl) ?_
  refine lv_aload_n hx hb dX4_layOut_38 rfl (lv_at hl 0 rfl) ?_
  refine va_get (D := G.1) (ci := 4) (v := .ref vq) (C := RX4) (T := TX4) (N := 4) hx hb hts in_X4_layOut_X4 hown hK.1 hP 0 rfl rfl 0 (by decide) (hts (.fieldLink RX4 7 "JarRiddleLaw$Sim" "volume" "[I") (by decide +kernel)) (fun _ h9 => h9) rfl dX4_layOut_39 ?_
  refine zr_alen hx hb hK hP 5 rfl dX4_layOut_42 ?_
  refine zr_new (N := 2) hx hb (hts (.arrayClass .int) (by decide +kernel)) hK hP hD hS hA (by omega) (Nat.le_of_ble_eq_true rfl) (Nat.le_of_ble_eq_true rfl) dX4_layOut_43 (fun aq H hP hD hS => ?_)
  have hp9 := zj_move ([(sh, .inr (4, [.ref vq, .ref sa, .ref sc, .ref sl])), (sv, .inl (G.2.1, n, .inl (zar n V))), (sa, .inl (G.2.1, n, .inl (zar n X))), (sc, .inl (G.2.1, 6, .inl (zkt t))), (sl, .inl (G.2.2.1, rows.length, .inr (.inr (.inr (.inr (zlf rows)))))), (vq, .inl (G.2.1, 2, .inl (zar 2 (zV3 a b 0))))] : va_W) (rows.map (zrc G n)) (aq, .inl (G.2.1, 2, .inl (fun _ => 0)))
  have hP := hP.perm hp9
  have hD := hD.perm hp9
  have hP : va_P G.1 vwCl (([(sh, .inr (4, [.ref vq, .ref sa, .ref sc, .ref sl])), (sv, .inl (G.2.1, n, .inl (zar n V))), (sa, .inl (G.2.1, n, .inl (zar n X))), (sc, .inl (G.2.1, 6, .inl (zkt t))), (sl, .inl (G.2.2.1, rows.length, .inr (.inr (.inr (.inr (zlf rows)))))), (vq, .inl (G.2.1, 2, .inl (zar 2 (zV3 a b 0)))), (aq, .inl (G.2.1, 2, .inl (fun _ => 0)))] : va_W) ++ rows.map (zrc G n)) H := hP
  have hD : va_D A (([(sh, .inr (4, [.ref vq, .ref sa, .ref sc, .ref sl])), (sv, .inl (G.2.1, n, .inl (zar n V))), (sa, .inl (G.2.1, n, .inl (zar n X))), (sc, .inl (G.2.1, 6, .inl (zkt t))), (sl, .inl (G.2.2.1, rows.length, .inr (.inr (.inr (.inr (zlf rows)))))), (vq, .inl (G.2.1, 2, .inl (zar 2 (zV3 a b 0)))), (aq, .inl (G.2.1, 2, .inl (fun _ => 0)))] : va_W) ++ rows.map (zrc G n)) := hD
  refine va_put (D := G.1) (ci := 4) (v := .ref aq) (ty := .array .int) (C := RX4) (T := TX4) (N := 4) hx hb hts in_X4_layOut_X4 tyX4 tyX4_ok nmX4 hown hK.1 hP hD hS 0 rfl rfl 1 (by decide) (hts (.fieldLink RX4 13 "JarRiddleLaw$Sim" "amount" "[I") (by decide +kernel)) (fun _ h9 => h9) rfl (by decide +kernel) rfl rfl (Nat.le_of_ble_eq_true rfl) dX4_layOut_45 (fun H locs hP hD hS => ?_)
  have hP : va_P G.1 vwCl (([(sh, .inr (4, [.ref vq, .ref aq, .ref sc, .ref sl])), (sv, .inl (G.2.1, n, .inl (zar n V))), (sa, .inl (G.2.1, n, .inl (zar n X))), (sc, .inl (G.2.1, 6, .inl (zkt t))), (sl, .inl (G.2.2.1, rows.length, .inr (.inr (.inr (.inr (zlf rows)))))), (vq, .inl (G.2.1, 2, .inl (zar 2 (zV3 a b 0)))), (aq, .inl (G.2.1, 2, .inl (fun _ => 0)))] : va_W) ++ rows.map (zrc G n)) H := hP
  have hD : va_D A (([(sh, .inr (4, [.ref vq, .ref aq, .ref sc, .ref sl])), (sv, .inl (G.2.1, n, .inl (zar n V))), (sa, .inl (G.2.1, n, .inl (zar n X))), (sc, .inl (G.2.1, 6, .inl (zkt t))), (sl, .inl (G.2.2.1, rows.length, .inr (.inr (.inr (.inr (zlf rows)))))), (vq, .inl (G.2.1, 2, .inl (zar 2 (zV3 a b 0)))), (aq, .inl (G.2.1, 2, .inl (fun _ => 0)))] : va_W) ++ rows.map (zrc G n)) := hD
  refine lv_aload_n hx hb dX4_layOut_48 rfl (lv_at hl 0 rfl) ?_
  refine lv_bipush (v := nI 6) hx hb dX4_layOut_49 (by decide) ?_
  refine zr_new (N := 6) hx hb (hts (.arrayClass .int) (by decide +kernel)) hK hP hD hS hA (by omega) (Nat.le_of_ble_eq_true rfl) (Nat.le_of_ble_eq_true rfl) dX4_layOut_51 (fun cq H hP hD hS => ?_)
  have hp9 := zj_move ([(sh, .inr (4, [.ref vq, .ref aq, .ref sc, .ref sl])), (sv, .inl (G.2.1, n, .inl (zar n V))), (sa, .inl (G.2.1, n, .inl (zar n X))), (sc, .inl (G.2.1, 6, .inl (zkt t))), (sl, .inl (G.2.2.1, rows.length, .inr (.inr (.inr (.inr (zlf rows)))))), (vq, .inl (G.2.1, 2, .inl (zar 2 (zV3 a b 0)))), (aq, .inl (G.2.1, 2, .inl (fun _ => 0)))] : va_W) (rows.map (zrc G n)) (cq, .inl (G.2.1, 6, .inl (fun _ => 0)))
  have hP := hP.perm hp9
  have hD := hD.perm hp9
  have hP : va_P G.1 vwCl (([(sh, .inr (4, [.ref vq, .ref aq, .ref sc, .ref sl])), (sv, .inl (G.2.1, n, .inl (zar n V))), (sa, .inl (G.2.1, n, .inl (zar n X))), (sc, .inl (G.2.1, 6, .inl (zkt t))), (sl, .inl (G.2.2.1, rows.length, .inr (.inr (.inr (.inr (zlf rows)))))), (vq, .inl (G.2.1, 2, .inl (zar 2 (zV3 a b 0)))), (aq, .inl (G.2.1, 2, .inl (fun _ => 0))), (cq, .inl (G.2.1, 6, .inl (fun _ => 0)))] : va_W) ++ rows.map (zrc G n)) H := hP
  have hD : va_D A (([(sh, .inr (4, [.ref vq, .ref aq, .ref sc, .ref sl])), (sv, .inl (G.2.1, n, .inl (zar n V))), (sa, .inl (G.2.1, n, .inl (zar n X))), (sc, .inl (G.2.1, 6, .inl (zkt t))), (sl, .inl (G.2.2.1, rows.length, .inr (.inr (.inr (.inr (zlf rows)))))), (vq, .inl (G.2.1, 2, .inl (zar 2 (zV3 a b 0)))), (aq, .inl (G.2.1, 2, .inl (fun _ => 0))), (cq, .inl (G.2.1, 6, .inl (fun _ => 0)))] : va_W) ++ rows.map (zrc G n)) := hD
  refine va_put (D := G.1) (ci := 4) (v := .ref cq) (ty := .array .int) (C := RX4) (T := TX4) (N := 4) hx hb hts in_X4_layOut_X4 tyX4 tyX4_ok nmX4 hown hK.1 hP hD hS 0 rfl rfl 2 (by decide) (hts (.fieldLink RX4 16 "JarRiddleLaw$Sim" "counts" "[I") (by decide +kernel)) (fun _ h9 => h9) rfl (by decide +kernel) rfl rfl (Nat.le_of_ble_eq_true rfl) dX4_layOut_53 (fun H locs hP hD hS => ?_)
  have hP : va_P G.1 vwCl (([(sh, .inr (4, [.ref vq, .ref aq, .ref cq, .ref sl])), (sv, .inl (G.2.1, n, .inl (zar n V))), (sa, .inl (G.2.1, n, .inl (zar n X))), (sc, .inl (G.2.1, 6, .inl (zkt t))), (sl, .inl (G.2.2.1, rows.length, .inr (.inr (.inr (.inr (zlf rows)))))), (vq, .inl (G.2.1, 2, .inl (zar 2 (zV3 a b 0)))), (aq, .inl (G.2.1, 2, .inl (fun _ => 0))), (cq, .inl (G.2.1, 6, .inl (fun _ => 0)))] : va_W) ++ rows.map (zrc G n)) H := hP
  have hD : va_D A (([(sh, .inr (4, [.ref vq, .ref aq, .ref cq, .ref sl])), (sv, .inl (G.2.1, n, .inl (zar n V))), (sa, .inl (G.2.1, n, .inl (zar n X))), (sc, .inl (G.2.1, 6, .inl (zkt t))), (sl, .inl (G.2.2.1, rows.length, .inr (.inr (.inr (.inr (zlf rows)))))), (vq, .inl (G.2.1, 2, .inl (zar 2 (zV3 a b 0)))), (aq, .inl (G.2.1, 2, .inl (fun _ => 0))), (cq, .inl (G.2.1, 6, .inl (fun _ => 0)))] : va_W) ++ rows.map (zrc G n)) := hD
  refine lv_aload_n hx hb dX4_layOut_56 rfl (lv_at hl 0 rfl) ?_
  refine lv_aload_n hx hb dX4_layOut_57 rfl (lv_at hl 0 rfl) ?_
  refine va_get (D := G.1) (ci := 4) (v := .ref vq) (C := RX4) (T := TX4) (N := 4) hx hb hts in_X4_layOut_X4 hown hK.1 hP 0 rfl rfl 0 (by decide) (hts (.fieldLink RX4 7 "JarRiddleLaw$Sim" "volume" "[I") (by decide +kernel)) (fun _ h9 => h9) rfl dX4_layOut_58 ?_
  refine zr_alen hx hb hK hP 5 rfl dX4_layOut_61 ?_
  refine zr_S (As := [.int (nI 2)]) (rest := [.ref sh]) (wr := (([(sh, .inr (4, [.ref vq, .ref aq, .ref cq, .ref sl])), (sv, .inl (G.2.1, n, .inl (zar n V))), (sa, .inl (G.2.1, n, .inl (zar n X))), (sc, .inl (G.2.1, 6, .inl (zkt t))), (sl, .inl (G.2.2.1, rows.length, .inr (.inr (.inr (.inr (zlf rows)))))), (vq, .inl (G.2.1, 2, .inl (zar 2 (zV3 a b 0)))), (aq, .inl (G.2.1, 2, .inl (fun _ => 0))), (cq, .inl (G.2.1, 6, .inl (fun _ => 0)))] : va_W) ++ rows.map (zrc G n))) F (s_rows2 l G) gX4_layOut_X4_rows rfl rfl rfl zd_X4_rows ⟨(Nat.le_of_ble_eq_true rfl), (Nat.le_of_ble_eq_true rfl)⟩ rfl rfl (Nat.le_of_ble_eq_true rfl) dX4_layOut_62 ⟨(Nat.le_of_ble_eq_true rfl), (Nat.le_of_ble_eq_true rfl)⟩ hK hP hD hS hA hl.1 (List.Perm.refl _) (fun u H locs hP hD hS => ?_)
  obtain ⟨⟨mq, new⟩, hnew⟩ := u
  have hp9 : List.Perm (([(mq, .inl (G.2.2.1, new.length, .inr (.inr (.inr (.inr (zlf new))))))] ++ new.map (zrc G 2) : va_W) ++ (([(sh, .inr (4, [.ref vq, .ref aq, .ref cq, .ref sl])), (sv, .inl (G.2.1, n, .inl (zar n V))), (sa, .inl (G.2.1, n, .inl (zar n X))), (sc, .inl (G.2.1, 6, .inl (zkt t))), (sl, .inl (G.2.2.1, rows.length, .inr (.inr (.inr (.inr (zlf rows)))))), (vq, .inl (G.2.1, 2, .inl (zar 2 (zV3 a b 0)))), (aq, .inl (G.2.1, 2, .inl (fun _ => 0))), (cq, .inl (G.2.1, 6, .inl (fun _ => 0)))] : va_W) ++ rows.map (zrc G n))) ((([(sh, .inr (4, [.ref vq, .ref aq, .ref cq, .ref sl])), (sv, .inl (G.2.1, n, .inl (zar n V))), (sa, .inl (G.2.1, n, .inl (zar n X))), (sc, .inl (G.2.1, 6, .inl (zkt t))), (sl, .inl (G.2.2.1, rows.length, .inr (.inr (.inr (.inr (zlf rows)))))), (vq, .inl (G.2.1, 2, .inl (zar 2 (zV3 a b 0)))), (aq, .inl (G.2.1, 2, .inl (fun _ => 0))), (cq, .inl (G.2.1, 6, .inl (fun _ => 0)))] : va_W) ++ rows.map (zrc G n)) ++ ([(mq, .inl (G.2.2.1, new.length, .inr (.inr (.inr (.inr (zlf new))))))] ++ new.map (zrc G 2) : va_W)) := List.perm_append_comm
  have hP := hP.perm hp9
  have hD := hD.perm hp9
  have hsl : List.Sublist (([(sh, .inr (4, [.ref vq, .ref aq, .ref cq, .ref sl])), (vq, .inl (G.2.1, 2, .inl (zar 2 (zV3 a b 0)))), (aq, .inl (G.2.1, 2, .inl (fun _ => 0))), (cq, .inl (G.2.1, 6, .inl (fun _ => 0)))] : va_W) ++ ([(mq, .inl (G.2.2.1, new.length, .inr (.inr (.inr (.inr (zlf new))))))] ++ new.map (zrc G 2) : va_W)) ((([(sh, .inr (4, [.ref vq, .ref aq, .ref cq, .ref sl])), (sv, .inl (G.2.1, n, .inl (zar n V))), (sa, .inl (G.2.1, n, .inl (zar n X))), (sc, .inl (G.2.1, 6, .inl (zkt t))), (sl, .inl (G.2.2.1, rows.length, .inr (.inr (.inr (.inr (zlf rows)))))), (vq, .inl (G.2.1, 2, .inl (zar 2 (zV3 a b 0)))), (aq, .inl (G.2.1, 2, .inl (fun _ => 0))), (cq, .inl (G.2.1, 6, .inl (fun _ => 0)))] : va_W) ++ rows.map (zrc G n)) ++ ([(mq, .inl (G.2.2.1, new.length, .inr (.inr (.inr (.inr (zlf new))))))] ++ new.map (zrc G 2) : va_W)) := List.Sublist.append (((((((((List.nil_sublist _).cons₂ _).cons₂ _).cons₂ _).cons _).cons _).cons _).cons _).cons₂ _) (List.Sublist.refl _)
  have hP := hP.subl hsl
  have hD := hD.subl hsl
  have hP : va_P G.1 vwCl (([(sh, .inr (4, [.ref vq, .ref aq, .ref cq, .ref sl])), (vq, .inl (G.2.1, 2, .inl (zar 2 (zV3 a b 0)))), (aq, .inl (G.2.1, 2, .inl (fun _ => 0))), (cq, .inl (G.2.1, 6, .inl (fun _ => 0))), (mq, .inl (G.2.2.1, new.length, .inr (.inr (.inr (.inr (zlf new))))))] : va_W) ++ new.map (zrc G 2)) H := hP
  have hD : va_D A (([(sh, .inr (4, [.ref vq, .ref aq, .ref cq, .ref sl])), (vq, .inl (G.2.1, 2, .inl (zar 2 (zV3 a b 0)))), (aq, .inl (G.2.1, 2, .inl (fun _ => 0))), (cq, .inl (G.2.1, 6, .inl (fun _ => 0))), (mq, .inl (G.2.2.1, new.length, .inr (.inr (.inr (.inr (zlf new))))))] : va_W) ++ new.map (zrc G 2)) := hD
  refine va_put (D := G.1) (ci := 4) (v := .ref mq) (ty := .array (.array .int)) (C := RX4) (T := TX4) (N := 4) hx hb hts in_X4_layOut_X4 tyX4 tyX4_ok nmX4 hown hK.1 hP hD hS 0 rfl rfl 3 (by decide) (hts (.fieldLink RX4 23 "JarRiddleLaw$Sim" "left" "[[I") (by decide +kernel)) (fun _ h9 => h9) rfl (by decide +kernel) rfl rfl (Nat.le_of_ble_eq_true rfl) dX4_layOut_65 (fun H locs hP hD hS => ?_)
  have hP : va_P G.1 vwCl (([(sh, .inr (4, [.ref vq, .ref aq, .ref cq, .ref mq])), (vq, .inl (G.2.1, 2, .inl (zar 2 (zV3 a b 0)))), (aq, .inl (G.2.1, 2, .inl (fun _ => 0))), (cq, .inl (G.2.1, 6, .inl (fun _ => 0))), (mq, .inl (G.2.2.1, new.length, .inr (.inr (.inr (.inr (zlf new))))))] : va_W) ++ new.map (zrc G 2)) H := hP
  have hD : va_D A (([(sh, .inr (4, [.ref vq, .ref aq, .ref cq, .ref mq])), (vq, .inl (G.2.1, 2, .inl (zar 2 (zV3 a b 0)))), (aq, .inl (G.2.1, 2, .inl (fun _ => 0))), (cq, .inl (G.2.1, 6, .inl (fun _ => 0))), (mq, .inl (G.2.2.1, new.length, .inr (.inr (.inr (.inr (zlf new))))))] : va_W) ++ new.map (zrc G 2)) := hD
  have hP : va_P G.1 vwCl (([(sh, .inr (4, [.ref vq, .ref aq, .ref cq, .ref mq])), (vq, .inl (G.2.1, 2, .inl (zar 2 (zV3 a b 0)))), (aq, .inl (G.2.1, 2, .inl (zar 2 (fun _ => 0)))), (cq, .inl (G.2.1, 6, .inl (zkt (0, 0, 0, 0, 0, 0)))), (mq, .inl (G.2.2.1, new.length, .inr (.inr (.inr (.inr (zlf new))))))] : va_W) ++ new.map (zrc G 2)) H := by rw [← zar_0 2, ← zkt_00]; exact hP
  have hD : va_D A (([(sh, .inr (4, [.ref vq, .ref aq, .ref cq, .ref mq])), (vq, .inl (G.2.1, 2, .inl (zar 2 (zV3 a b 0)))), (aq, .inl (G.2.1, 2, .inl (zar 2 (fun _ => 0)))), (cq, .inl (G.2.1, 6, .inl (zkt (0, 0, 0, 0, 0, 0)))), (mq, .inl (G.2.2.1, new.length, .inr (.inr (.inr (.inr (zlf new))))))] : va_W) ++ new.map (zrc G 2)) := by rw [← zar_0 2, ← zkt_00]; exact hD
  refine W.widen (k := 733) (n := 5115) (Nat.le_of_ble_eq_true rfl) (Nat.le_of_ble_eq_true rfl) ?_
  exact zr_vret F hr hlocks hP hD hS ⟨(vq, aq, cq, mq, new), hnew⟩ (List.Perm.refl _) rfl dX4_layOut_68
set_option maxHeartbeats 4000000 in
set_option maxRecDepth 100000 in
theorem s_layOut3 (l : Launch) (G : zG) {n : Nat} {V X : Nat → Nat} {t : zU} (sh sv sa sc sl : Nat) (rows : zRows) {a b d : Nat} (hd1 : 1 ≤ d) (hd9 : d ≤ 9) : zCr l G yX4_layOut wsX4_layOut rm_X4_layOut 733 5115 [.ref sh, .int (nI a), .int (nI b), .int (nI d)] (zSW G sh n V X t (sv, sa, sc, sl, rows)) (fun _ : {u : zSu // u.2.2.2.2.map Prod.snd = zAll 3} => none) (fun u : {u : zSu // u.2.2.2.2.map Prod.snd = zAll 3} => zSW G sh 3 (zV3 a b d) (fun _ => 0) (0, 0, 0, 0, 0, 0) u.1) := by
  refine z_ofr (cc := cX4_layOut) (maxL := 4) (ret := none) (own := RX4) (by decide) rfl rfl (Nat.le_of_ble_eq_true rfl) ?_
  intro p e s m args below meth c A H locs ls F hr hlocks hname hK hA hP hD hS hl
  obtain ⟨hx, hb, hml, hown, hts⟩ := id F
  have hl : lv_has ls 4 [(0, .ref sh), (1, .int (nI a)), (2, .int (nI b)), (3, .int (nI d))] := hl
  have hP : va_P G.1 vwCl (([(sh, .inr (4, [.ref sv, .ref sa, .ref sc, .ref sl])), (sv, .inl (G.2.1, n, .inl (zar n V))), (sa, .inl (G.2.1, n, .inl (zar n X))), (sc, .inl (G.2.1, 6, .inl (zkt t))), (sl, .inl (G.2.2.1, rows.length, .inr (.inr (.inr (.inr (zlf rows))))))] : va_W) ++ rows.map (zrc G n)) H := hP
  have hD : va_D A (([(sh, .inr (4, [.ref sv, .ref sa, .ref sc, .ref sl])), (sv, .inl (G.2.1, n, .inl (zar n V))), (sa, .inl (G.2.1, n, .inl (zar n X))), (sc, .inl (G.2.1, 6, .inl (zkt t))), (sl, .inl (G.2.2.1, rows.length, .inr (.inr (.inr (.inr (zlf rows))))))] : va_W) ++ rows.map (zrc G n)) := hD
  refine lv_aload_n hx hb dX4_layOut_0 rfl (lv_at hl 0 rfl) ?_
  refine lv_iload_n hx hb dX4_layOut_1 rfl (lv_at hl 3 rfl) ?_
  refine lv_if_ne (tgt := 19) hx hb dX4_layOut_2 (by decide) (fun _ => ?_) (fun z => absurd z (show ¬ (nI d) = (nI 0) from (fun z => absurd ((nI_eq (by omega) (by omega)).mp z) (by omega))))
  refine lv_iconst (v := nI 3) hx hb dX4_layOut_19 (by decide) ?_
  refine zr_new (N := 3) hx hb (hts (.arrayClass .int) (by decide +kernel)) hK hP hD hS hA (by omega) (Nat.le_of_ble_eq_true rfl) (Nat.le_of_ble_eq_true rfl) dX4_layOut_20 (fun vq H hP hD hS => ?_)
  have hp9 := zj_move ([(sh, .inr (4, [.ref sv, .ref sa, .ref sc, .ref sl])), (sv, .inl (G.2.1, n, .inl (zar n V))), (sa, .inl (G.2.1, n, .inl (zar n X))), (sc, .inl (G.2.1, 6, .inl (zkt t))), (sl, .inl (G.2.2.1, rows.length, .inr (.inr (.inr (.inr (zlf rows))))))] : va_W) (rows.map (zrc G n)) (vq, .inl (G.2.1, 3, .inl (fun _ => 0)))
  have hP := hP.perm hp9
  have hD := hD.perm hp9
  have hP : va_P G.1 vwCl (([(sh, .inr (4, [.ref sv, .ref sa, .ref sc, .ref sl])), (sv, .inl (G.2.1, n, .inl (zar n V))), (sa, .inl (G.2.1, n, .inl (zar n X))), (sc, .inl (G.2.1, 6, .inl (zkt t))), (sl, .inl (G.2.2.1, rows.length, .inr (.inr (.inr (.inr (zlf rows)))))), (vq, .inl (G.2.1, 3, .inl (fun _ => 0)))] : va_W) ++ rows.map (zrc G n)) H := hP
  have hD : va_D A (([(sh, .inr (4, [.ref sv, .ref sa, .ref sc, .ref sl])), (sv, .inl (G.2.1, n, .inl (zar n V))), (sa, .inl (G.2.1, n, .inl (zar n X))), (sc, .inl (G.2.1, 6, .inl (zkt t))), (sl, .inl (G.2.2.1, rows.length, .inr (.inr (.inr (.inr (zlf rows)))))), (vq, .inl (G.2.1, 3, .inl (fun _ => 0)))] : va_W) ++ rows.map (zrc G n)) := hD
  refine lv_dup hx hb dX4_layOut_22 rfl ?_
  refine lv_iconst (v := nI 0) hx hb dX4_layOut_23 (by decide) ?_
  refine lv_iload_n hx hb dX4_layOut_24 rfl (lv_at hl 1 rfl) ?_
  refine zr_iast (g := upd (fun _ => 0) 0 (nI a)) hx hb hK hP hD hS 5 rfl (by omega) (by omega) (rfl) dX4_layOut_25 (fun H locs hP hD hS => ?_)
  have hP : va_P G.1 vwCl (([(sh, .inr (4, [.ref sv, .ref sa, .ref sc, .ref sl])), (sv, .inl (G.2.1, n, .inl (zar n V))), (sa, .inl (G.2.1, n, .inl (zar n X))), (sc, .inl (G.2.1, 6, .inl (zkt t))), (sl, .inl (G.2.2.1, rows.length, .inr (.inr (.inr (.inr (zlf rows)))))), (vq, .inl (G.2.1, 3, .inl (upd (fun _ => 0) 0 (nI a))))] : va_W) ++ rows.map (zrc G n)) H := hP
  have hD : va_D A (([(sh, .inr (4, [.ref sv, .ref sa, .ref sc, .ref sl])), (sv, .inl (G.2.1, n, .inl (zar n V))), (sa, .inl (G.2.1, n, .inl (zar n X))), (sc, .inl (G.2.1, 6, .inl (zkt t))), (sl, .inl (G.2.2.1, rows.length, .inr (.inr (.inr (.inr (zlf rows)))))), (vq, .inl (G.2.1, 3, .inl (upd (fun _ => 0) 0 (nI a))))] : va_W) ++ rows.map (zrc G n)) := hD
  refine lv_dup hx hb dX4_layOut_26 rfl ?_
  refine lv_iconst (v := nI 1) hx hb dX4_layOut_27 (by decide) ?_
  refine lv_iload_n hx hb dX4_layOut_28 rfl (lv_at hl 2 rfl) ?_
  refine zr_iast (g := upd (upd (fun _ => 0) 0 (nI a)) 1 (nI b)) hx hb hK hP hD hS 5 rfl (by omega) (by omega) (rfl) dX4_layOut_29 (fun H locs hP hD hS => ?_)
  have hP : va_P G.1 vwCl (([(sh, .inr (4, [.ref sv, .ref sa, .ref sc, .ref sl])), (sv, .inl (G.2.1, n, .inl (zar n V))), (sa, .inl (G.2.1, n, .inl (zar n X))), (sc, .inl (G.2.1, 6, .inl (zkt t))), (sl, .inl (G.2.2.1, rows.length, .inr (.inr (.inr (.inr (zlf rows)))))), (vq, .inl (G.2.1, 3, .inl (upd (upd (fun _ => 0) 0 (nI a)) 1 (nI b))))] : va_W) ++ rows.map (zrc G n)) H := hP
  have hD : va_D A (([(sh, .inr (4, [.ref sv, .ref sa, .ref sc, .ref sl])), (sv, .inl (G.2.1, n, .inl (zar n V))), (sa, .inl (G.2.1, n, .inl (zar n X))), (sc, .inl (G.2.1, 6, .inl (zkt t))), (sl, .inl (G.2.2.1, rows.length, .inr (.inr (.inr (.inr (zlf rows)))))), (vq, .inl (G.2.1, 3, .inl (upd (upd (fun _ => 0) 0 (nI a)) 1 (nI b))))] : va_W) ++ rows.map (zrc G n)) := hD
  refine lv_dup hx hb dX4_layOut_30 rfl ?_
  refine lv_iconst (v := nI 2) hx hb dX4_layOut_31 (by decide) ?_
  refine lv_iload_n hx hb dX4_layOut_32 rfl (lv_at hl 3 rfl) ?_
  refine zr_iast (g := upd (upd (upd (fun _ => 0) 0 (nI a)) 1 (nI b)) 2 (nI d)) hx hb hK hP hD hS 5 rfl (by omega) (by omega) (rfl) dX4_layOut_33 (fun H locs hP hD hS => ?_)
  have hP : va_P G.1 vwCl (([(sh, .inr (4, [.ref sv, .ref sa, .ref sc, .ref sl])), (sv, .inl (G.2.1, n, .inl (zar n V))), (sa, .inl (G.2.1, n, .inl (zar n X))), (sc, .inl (G.2.1, 6, .inl (zkt t))), (sl, .inl (G.2.2.1, rows.length, .inr (.inr (.inr (.inr (zlf rows)))))), (vq, .inl (G.2.1, 3, .inl (upd (upd (upd (fun _ => 0) 0 (nI a)) 1 (nI b)) 2 (nI d))))] : va_W) ++ rows.map (zrc G n)) H := hP
  have hD : va_D A (([(sh, .inr (4, [.ref sv, .ref sa, .ref sc, .ref sl])), (sv, .inl (G.2.1, n, .inl (zar n V))), (sa, .inl (G.2.1, n, .inl (zar n X))), (sc, .inl (G.2.1, 6, .inl (zkt t))), (sl, .inl (G.2.2.1, rows.length, .inr (.inr (.inr (.inr (zlf rows)))))), (vq, .inl (G.2.1, 3, .inl (upd (upd (upd (fun _ => 0) 0 (nI a)) 1 (nI b)) 2 (nI d))))] : va_W) ++ rows.map (zrc G n)) := hD
  rw [show (upd (upd (upd (fun _ => 0) 0 (nI a)) 1 (nI b)) 2 (nI d)) = zar 3 (zV3 a b d) from zar_mk3 (zV3 a b d)] at hP hD
  have hP : va_P G.1 vwCl (([(sh, .inr (4, [.ref sv, .ref sa, .ref sc, .ref sl])), (sv, .inl (G.2.1, n, .inl (zar n V))), (sa, .inl (G.2.1, n, .inl (zar n X))), (sc, .inl (G.2.1, 6, .inl (zkt t))), (sl, .inl (G.2.2.1, rows.length, .inr (.inr (.inr (.inr (zlf rows)))))), (vq, .inl (G.2.1, 3, .inl (zar 3 (zV3 a b d))))] : va_W) ++ rows.map (zrc G n)) H := hP
  have hD : va_D A (([(sh, .inr (4, [.ref sv, .ref sa, .ref sc, .ref sl])), (sv, .inl (G.2.1, n, .inl (zar n V))), (sa, .inl (G.2.1, n, .inl (zar n X))), (sc, .inl (G.2.1, 6, .inl (zkt t))), (sl, .inl (G.2.2.1, rows.length, .inr (.inr (.inr (.inr (zlf rows)))))), (vq, .inl (G.2.1, 3, .inl (zar 3 (zV3 a b d))))] : va_W) ++ rows.map (zrc G n)) := hD
  refine va_put (D := G.1) (ci := 4) (v := .ref vq) (ty := .array .int) (C := RX4) (T := TX4) (N := 4) hx hb hts in_X4_layOut_X4 tyX4 tyX4_ok nmX4 hown hK.1 hP hD hS 0 rfl rfl 0 (by decide) (hts (.fieldLink RX4 7 "JarRiddleLaw$Sim" "volume" "[I") (by decide +kernel)) (fun _ h9 => h9) rfl (by decide +kernel) rfl rfl (Nat.le_of_ble_eq_true rfl) dX4_layOut_34 (fun H locs hP hD hS => ?_)
  have hP : va_P G.1 vwCl (([(sh, .inr (4, [.ref vq, .ref sa, .ref sc, .ref sl])), (sv, .inl (G.2.1, n, .inl (zar n V))), (sa, .inl (G.2.1, n, .inl (zar n X))), (sc, .inl (G.2.1, 6, .inl (zkt t))), (sl, .inl (G.2.2.1, rows.length, .inr (.inr (.inr (.inr (zlf rows)))))), (vq, .inl (G.2.1, 3, .inl (zar 3 (zV3 a b d))))] : va_W) ++ rows.map (zrc G n)) H := hP
  have hD : va_D A (([(sh, .inr (4, [.ref vq, .ref sa, .ref sc, .ref sl])), (sv, .inl (G.2.1, n, .inl (zar n V))), (sa, .inl (G.2.1, n, .inl (zar n X))), (sc, .inl (G.2.1, 6, .inl (zkt t))), (sl, .inl (G.2.2.1, rows.length, .inr (.inr (.inr (.inr (zlf rows)))))), (vq, .inl (G.2.1, 3, .inl (zar 3 (zV3 a b d))))] : va_W) ++ rows.map (zrc G n)) := hD
  refine lv_aload_n hx hb dX4_layOut_37 rfl (lv_at hl 0 rfl) ?_
  refine lv_aload_n hx hb dX4_layOut_38 rfl (lv_at hl 0 rfl) ?_
  refine va_get (D := G.1) (ci := 4) (v := .ref vq) (C := RX4) (T := TX4) (N := 4) hx hb hts in_X4_layOut_X4 hown hK.1 hP 0 rfl rfl 0 (by decide) (hts (.fieldLink RX4 7 "JarRiddleLaw$Sim" "volume" "[I") (by decide +kernel)) (fun _ h9 => h9) rfl dX4_layOut_39 ?_
  refine zr_alen hx hb hK hP 5 rfl dX4_layOut_42 ?_
  refine zr_new (N := 3) hx hb (hts (.arrayClass .int) (by decide +kernel)) hK hP hD hS hA (by omega) (Nat.le_of_ble_eq_true rfl) (Nat.le_of_ble_eq_true rfl) dX4_layOut_43 (fun aq H hP hD hS => ?_)
  have hp9 := zj_move ([(sh, .inr (4, [.ref vq, .ref sa, .ref sc, .ref sl])), (sv, .inl (G.2.1, n, .inl (zar n V))), (sa, .inl (G.2.1, n, .inl (zar n X))), (sc, .inl (G.2.1, 6, .inl (zkt t))), (sl, .inl (G.2.2.1, rows.length, .inr (.inr (.inr (.inr (zlf rows)))))), (vq, .inl (G.2.1, 3, .inl (zar 3 (zV3 a b d))))] : va_W) (rows.map (zrc G n)) (aq, .inl (G.2.1, 3, .inl (fun _ => 0)))
  have hP := hP.perm hp9
  have hD := hD.perm hp9
  have hP : va_P G.1 vwCl (([(sh, .inr (4, [.ref vq, .ref sa, .ref sc, .ref sl])), (sv, .inl (G.2.1, n, .inl (zar n V))), (sa, .inl (G.2.1, n, .inl (zar n X))), (sc, .inl (G.2.1, 6, .inl (zkt t))), (sl, .inl (G.2.2.1, rows.length, .inr (.inr (.inr (.inr (zlf rows)))))), (vq, .inl (G.2.1, 3, .inl (zar 3 (zV3 a b d)))), (aq, .inl (G.2.1, 3, .inl (fun _ => 0)))] : va_W) ++ rows.map (zrc G n)) H := hP
  have hD : va_D A (([(sh, .inr (4, [.ref vq, .ref sa, .ref sc, .ref sl])), (sv, .inl (G.2.1, n, .inl (zar n V))), (sa, .inl (G.2.1, n, .inl (zar n X))), (sc, .inl (G.2.1, 6, .inl (zkt t))), (sl, .inl (G.2.2.1, rows.length, .inr (.inr (.inr (.inr (zlf rows)))))), (vq, .inl (G.2.1, 3, .inl (zar 3 (zV3 a b d)))), (aq, .inl (G.2.1, 3, .inl (fun _ => 0)))] : va_W) ++ rows.map (zrc G n)) := hD
  refine va_put (D := G.1) (ci := 4) (v := .ref aq) (ty := .array .int) (C := RX4) (T := TX4) (N := 4) hx hb hts in_X4_layOut_X4 tyX4 tyX4_ok nmX4 hown hK.1 hP hD hS 0 rfl rfl 1 (by decide) (hts (.fieldLink RX4 13 "JarRiddleLaw$Sim" "amount" "[I") (by decide +kernel)) (fun _ h9 => h9) rfl (by decide +kernel) rfl rfl (Nat.le_of_ble_eq_true rfl) dX4_layOut_45 (fun H locs hP hD hS => ?_)
  have hP : va_P G.1 vwCl (([(sh, .inr (4, [.ref vq, .ref aq, .ref sc, .ref sl])), (sv, .inl (G.2.1, n, .inl (zar n V))), (sa, .inl (G.2.1, n, .inl (zar n X))), (sc, .inl (G.2.1, 6, .inl (zkt t))), (sl, .inl (G.2.2.1, rows.length, .inr (.inr (.inr (.inr (zlf rows)))))), (vq, .inl (G.2.1, 3, .inl (zar 3 (zV3 a b d)))), (aq, .inl (G.2.1, 3, .inl (fun _ => 0)))] : va_W) ++ rows.map (zrc G n)) H := hP
  have hD : va_D A (([(sh, .inr (4, [.ref vq, .ref aq, .ref sc, .ref sl])), (sv, .inl (G.2.1, n, .inl (zar n V))), (sa, .inl (G.2.1, n, .inl (zar n X))), (sc, .inl (G.2.1, 6, .inl (zkt t))), (sl, .inl (G.2.2.1, rows.length, .inr (.inr (.inr (.inr (zlf rows)))))), (vq, .inl (G.2.1, 3, .inl (zar 3 (zV3 a b d)))), (aq, .inl (G.2.1, 3, .inl (fun _ => 0)))] : va_W) ++ rows.map (zrc G n)) := hD
  refine lv_aload_n hx hb dX4_layOut_48 rfl (lv_at hl 0 rfl) ?_
  refine lv_bipush (v := nI 6) hx hb dX4_layOut_49 (by decide) ?_
  refine zr_new (N := 6) hx hb (hts (.arrayClass .int) (by decide +kernel)) hK hP hD hS hA (by omega) (Nat.le_of_ble_eq_true rfl) (Nat.le_of_ble_eq_true rfl) dX4_layOut_51 (fun cq H hP hD hS => ?_)
  have hp9 := zj_move ([(sh, .inr (4, [.ref vq, .ref aq, .ref sc, .ref sl])), (sv, .inl (G.2.1, n, .inl (zar n V))), (sa, .inl (G.2.1, n, .inl (zar n X))), (sc, .inl (G.2.1, 6, .inl (zkt t))), (sl, .inl (G.2.2.1, rows.length, .inr (.inr (.inr (.inr (zlf rows)))))), (vq, .inl (G.2.1, 3, .inl (zar 3 (zV3 a b d)))), (aq, .inl (G.2.1, 3, .inl (fun _ => 0)))] : va_W) (rows.map (zrc G n)) (cq, .inl (G.2.1, 6, .inl (fun _ => 0)))
  have hP := hP.perm hp9
  have hD := hD.perm hp9
  have hP : va_P G.1 vwCl (([(sh, .inr (4, [.ref vq, .ref aq, .ref sc, .ref sl])), (sv, .inl (G.2.1, n, .inl (zar n V))), (sa, .inl (G.2.1, n, .inl (zar n X))), (sc, .inl (G.2.1, 6, .inl (zkt t))), (sl, .inl (G.2.2.1, rows.length, .inr (.inr (.inr (.inr (zlf rows)))))), (vq, .inl (G.2.1, 3, .inl (zar 3 (zV3 a b d)))), (aq, .inl (G.2.1, 3, .inl (fun _ => 0))), (cq, .inl (G.2.1, 6, .inl (fun _ => 0)))] : va_W) ++ rows.map (zrc G n)) H := hP
  have hD : va_D A (([(sh, .inr (4, [.ref vq, .ref aq, .ref sc, .ref sl])), (sv, .inl (G.2.1, n, .inl (zar n V))), (sa, .inl (G.2.1, n, .inl (zar n X))), (sc, .inl (G.2.1, 6, .inl (zkt t))), (sl, .inl (G.2.2.1, rows.length, .inr (.inr (.inr (.inr (zlf rows)))))), (vq, .inl (G.2.1, 3, .inl (zar 3 (zV3 a b d)))), (aq, .inl (G.2.1, 3, .inl (fun _ => 0))), (cq, .inl (G.2.1, 6, .inl (fun _ => 0)))] : va_W) ++ rows.map (zrc G n)) := hD
  refine va_put (D := G.1) (ci := 4) (v := .ref cq) (ty := .array .int) (C := RX4) (T := TX4) (N := 4) hx hb hts in_X4_layOut_X4 tyX4 tyX4_ok nmX4 hown hK.1 hP hD hS 0 rfl rfl 2 (by decide) (hts (.fieldLink RX4 16 "JarRiddleLaw$Sim" "counts" "[I") (by decide +kernel)) (fun _ h9 => h9) rfl (by decide +kernel) rfl rfl (Nat.le_of_ble_eq_true rfl) dX4_layOut_53 (fun H locs hP hD hS => ?_)
  have hP : va_P G.1 vwCl (([(sh, .inr (4, [.ref vq, .ref aq, .ref cq, .ref sl])), (sv, .inl (G.2.1, n, .inl (zar n V))), (sa, .inl (G.2.1, n, .inl (zar n X))), (sc, .inl (G.2.1, 6, .inl (zkt t))), (sl, .inl (G.2.2.1, rows.length, .inr (.inr (.inr (.inr (zlf rows)))))), (vq, .inl (G.2.1, 3, .inl (zar 3 (zV3 a b d)))), (aq, .inl (G.2.1, 3, .inl (fun _ => 0))), (cq, .inl (G.2.1, 6, .inl (fun _ => 0)))] : va_W) ++ rows.map (zrc G n)) H := hP
  have hD : va_D A (([(sh, .inr (4, [.ref vq, .ref aq, .ref cq, .ref sl])), (sv, .inl (G.2.1, n, .inl (zar n V))), (sa, .inl (G.2.1, n, .inl (zar n X))), (sc, .inl (G.2.1, 6, .inl (zkt t))), (sl, .inl (G.2.2.1, rows.length, .inr (.inr (.inr (.inr (zlf rows)))))), (vq, .inl (G.2.1, 3, .inl (zar 3 (zV3 a b d)))), (aq, .inl (G.2.1, 3, .inl (fun _ => 0))), (cq, .inl (G.2.1, 6, .inl (fun _ => 0)))] : va_W) ++ rows.map (zrc G n)) := hD
  refine lv_aload_n hx hb dX4_layOut_56 rfl (lv_at hl 0 rfl) ?_
  refine lv_aload_n hx hb dX4_layOut_57 rfl (lv_at hl 0 rfl) ?_
  refine va_get (D := G.1) (ci := 4) (v := .ref vq) (C := RX4) (T := TX4) (N := 4) hx hb hts in_X4_layOut_X4 hown hK.1 hP 0 rfl rfl 0 (by decide) (hts (.fieldLink RX4 7 "JarRiddleLaw$Sim" "volume" "[I") (by decide +kernel)) (fun _ h9 => h9) rfl dX4_layOut_58 ?_
  refine zr_alen hx hb hK hP 5 rfl dX4_layOut_61 ?_
  refine zr_S (As := [.int (nI 3)]) (rest := [.ref sh]) (wr := (([(sh, .inr (4, [.ref vq, .ref aq, .ref cq, .ref sl])), (sv, .inl (G.2.1, n, .inl (zar n V))), (sa, .inl (G.2.1, n, .inl (zar n X))), (sc, .inl (G.2.1, 6, .inl (zkt t))), (sl, .inl (G.2.2.1, rows.length, .inr (.inr (.inr (.inr (zlf rows)))))), (vq, .inl (G.2.1, 3, .inl (zar 3 (zV3 a b d)))), (aq, .inl (G.2.1, 3, .inl (fun _ => 0))), (cq, .inl (G.2.1, 6, .inl (fun _ => 0)))] : va_W) ++ rows.map (zrc G n))) F (s_rows3 l G) gX4_layOut_X4_rows rfl rfl rfl zd_X4_rows ⟨(Nat.le_of_ble_eq_true rfl), (Nat.le_of_ble_eq_true rfl)⟩ rfl rfl (Nat.le_of_ble_eq_true rfl) dX4_layOut_62 ⟨(Nat.le_of_ble_eq_true rfl), (Nat.le_of_ble_eq_true rfl)⟩ hK hP hD hS hA hl.1 (List.Perm.refl _) (fun u H locs hP hD hS => ?_)
  obtain ⟨⟨mq, new⟩, hnew⟩ := u
  have hp9 : List.Perm (([(mq, .inl (G.2.2.1, new.length, .inr (.inr (.inr (.inr (zlf new))))))] ++ new.map (zrc G 3) : va_W) ++ (([(sh, .inr (4, [.ref vq, .ref aq, .ref cq, .ref sl])), (sv, .inl (G.2.1, n, .inl (zar n V))), (sa, .inl (G.2.1, n, .inl (zar n X))), (sc, .inl (G.2.1, 6, .inl (zkt t))), (sl, .inl (G.2.2.1, rows.length, .inr (.inr (.inr (.inr (zlf rows)))))), (vq, .inl (G.2.1, 3, .inl (zar 3 (zV3 a b d)))), (aq, .inl (G.2.1, 3, .inl (fun _ => 0))), (cq, .inl (G.2.1, 6, .inl (fun _ => 0)))] : va_W) ++ rows.map (zrc G n))) ((([(sh, .inr (4, [.ref vq, .ref aq, .ref cq, .ref sl])), (sv, .inl (G.2.1, n, .inl (zar n V))), (sa, .inl (G.2.1, n, .inl (zar n X))), (sc, .inl (G.2.1, 6, .inl (zkt t))), (sl, .inl (G.2.2.1, rows.length, .inr (.inr (.inr (.inr (zlf rows)))))), (vq, .inl (G.2.1, 3, .inl (zar 3 (zV3 a b d)))), (aq, .inl (G.2.1, 3, .inl (fun _ => 0))), (cq, .inl (G.2.1, 6, .inl (fun _ => 0)))] : va_W) ++ rows.map (zrc G n)) ++ ([(mq, .inl (G.2.2.1, new.length, .inr (.inr (.inr (.inr (zlf new))))))] ++ new.map (zrc G 3) : va_W)) := List.perm_append_comm
  have hP := hP.perm hp9
  have hD := hD.perm hp9
  have hsl : List.Sublist (([(sh, .inr (4, [.ref vq, .ref aq, .ref cq, .ref sl])), (vq, .inl (G.2.1, 3, .inl (zar 3 (zV3 a b d)))), (aq, .inl (G.2.1, 3, .inl (fun _ => 0))), (cq, .inl (G.2.1, 6, .inl (fun _ => 0)))] : va_W) ++ ([(mq, .inl (G.2.2.1, new.length, .inr (.inr (.inr (.inr (zlf new))))))] ++ new.map (zrc G 3) : va_W)) ((([(sh, .inr (4, [.ref vq, .ref aq, .ref cq, .ref sl])), (sv, .inl (G.2.1, n, .inl (zar n V))), (sa, .inl (G.2.1, n, .inl (zar n X))), (sc, .inl (G.2.1, 6, .inl (zkt t))), (sl, .inl (G.2.2.1, rows.length, .inr (.inr (.inr (.inr (zlf rows)))))), (vq, .inl (G.2.1, 3, .inl (zar 3 (zV3 a b d)))), (aq, .inl (G.2.1, 3, .inl (fun _ => 0))), (cq, .inl (G.2.1, 6, .inl (fun _ => 0)))] : va_W) ++ rows.map (zrc G n)) ++ ([(mq, .inl (G.2.2.1, new.length, .inr (.inr (.inr (.inr (zlf new))))))] ++ new.map (zrc G 3) : va_W)) := List.Sublist.append (((((((((List.nil_sublist _).cons₂ _).cons₂ _).cons₂ _).cons _).cons _).cons _).cons _).cons₂ _) (List.Sublist.refl _)
  have hP := hP.subl hsl
  have hD := hD.subl hsl
  have hP : va_P G.1 vwCl (([(sh, .inr (4, [.ref vq, .ref aq, .ref cq, .ref sl])), (vq, .inl (G.2.1, 3, .inl (zar 3 (zV3 a b d)))), (aq, .inl (G.2.1, 3, .inl (fun _ => 0))), (cq, .inl (G.2.1, 6, .inl (fun _ => 0))), (mq, .inl (G.2.2.1, new.length, .inr (.inr (.inr (.inr (zlf new))))))] : va_W) ++ new.map (zrc G 3)) H := hP
  have hD : va_D A (([(sh, .inr (4, [.ref vq, .ref aq, .ref cq, .ref sl])), (vq, .inl (G.2.1, 3, .inl (zar 3 (zV3 a b d)))), (aq, .inl (G.2.1, 3, .inl (fun _ => 0))), (cq, .inl (G.2.1, 6, .inl (fun _ => 0))), (mq, .inl (G.2.2.1, new.length, .inr (.inr (.inr (.inr (zlf new))))))] : va_W) ++ new.map (zrc G 3)) := hD
  refine va_put (D := G.1) (ci := 4) (v := .ref mq) (ty := .array (.array .int)) (C := RX4) (T := TX4) (N := 4) hx hb hts in_X4_layOut_X4 tyX4 tyX4_ok nmX4 hown hK.1 hP hD hS 0 rfl rfl 3 (by decide) (hts (.fieldLink RX4 23 "JarRiddleLaw$Sim" "left" "[[I") (by decide +kernel)) (fun _ h9 => h9) rfl (by decide +kernel) rfl rfl (Nat.le_of_ble_eq_true rfl) dX4_layOut_65 (fun H locs hP hD hS => ?_)
  have hP : va_P G.1 vwCl (([(sh, .inr (4, [.ref vq, .ref aq, .ref cq, .ref mq])), (vq, .inl (G.2.1, 3, .inl (zar 3 (zV3 a b d)))), (aq, .inl (G.2.1, 3, .inl (fun _ => 0))), (cq, .inl (G.2.1, 6, .inl (fun _ => 0))), (mq, .inl (G.2.2.1, new.length, .inr (.inr (.inr (.inr (zlf new))))))] : va_W) ++ new.map (zrc G 3)) H := hP
  have hD : va_D A (([(sh, .inr (4, [.ref vq, .ref aq, .ref cq, .ref mq])), (vq, .inl (G.2.1, 3, .inl (zar 3 (zV3 a b d)))), (aq, .inl (G.2.1, 3, .inl (fun _ => 0))), (cq, .inl (G.2.1, 6, .inl (fun _ => 0))), (mq, .inl (G.2.2.1, new.length, .inr (.inr (.inr (.inr (zlf new))))))] : va_W) ++ new.map (zrc G 3)) := hD
  have hP : va_P G.1 vwCl (([(sh, .inr (4, [.ref vq, .ref aq, .ref cq, .ref mq])), (vq, .inl (G.2.1, 3, .inl (zar 3 (zV3 a b d)))), (aq, .inl (G.2.1, 3, .inl (zar 3 (fun _ => 0)))), (cq, .inl (G.2.1, 6, .inl (zkt (0, 0, 0, 0, 0, 0)))), (mq, .inl (G.2.2.1, new.length, .inr (.inr (.inr (.inr (zlf new))))))] : va_W) ++ new.map (zrc G 3)) H := by rw [← zar_0 3, ← zkt_00]; exact hP
  have hD : va_D A (([(sh, .inr (4, [.ref vq, .ref aq, .ref cq, .ref mq])), (vq, .inl (G.2.1, 3, .inl (zar 3 (zV3 a b d)))), (aq, .inl (G.2.1, 3, .inl (zar 3 (fun _ => 0)))), (cq, .inl (G.2.1, 6, .inl (zkt (0, 0, 0, 0, 0, 0)))), (mq, .inl (G.2.2.1, new.length, .inr (.inr (.inr (.inr (zlf new))))))] : va_W) ++ new.map (zrc G 3)) := by rw [← zar_0 3, ← zkt_00]; exact hD
  refine W.widen (k := 733) (n := 5115) (Nat.le_of_ble_eq_true rfl) (Nat.le_of_ble_eq_true rfl) ?_
  exact zr_vret F hr hlocks hP hD hS ⟨(vq, aq, cq, mq, new), hnew⟩ (List.Perm.refl _) rfl dX4_layOut_68
set_option maxHeartbeats 4000000 in
set_option maxRecDepth 100000 in
theorem s_init (l : Launch) (G : zG) (sh : Nat) : zCr l G yX4_init wsX4_init rm_X4_init 733 5115 [.ref sh] ([(sh, .inr (4, [.null, .null, .null, .null]))] : va_W) (fun _ : {u : zSu // u.2.2.2.2.map Prod.snd = zAll 2} => none) (fun u : {u : zSu // u.2.2.2.2.map Prod.snd = zAll 2} => zSW G sh 2 (fun _ => 1) (fun _ => 0) (0, 0, 0, 0, 0, 0) u.1) := by
  refine z_ofr (cc := cX4_init) (maxL := 1) (ret := none) (own := RX4) (by decide) rfl rfl (Nat.le_of_ble_eq_true rfl) ?_
  intro p e s m args below meth c A H locs ls F hr hlocks hname hK hA hP hD hS hl
  obtain ⟨hx, hb, hml, hown, hts⟩ := id F
  have hl : lv_has ls 1 [(0, .ref sh)] := hl
  have hP : va_P G.1 vwCl (([(sh, .inr (4, [.null, .null, .null, .null]))] : va_W)) H := hP
  have hD : va_D A (([(sh, .inr (4, [.null, .null, .null, .null]))] : va_W)) := hD
  refine lv_aload_n hx hb dX4_init_0 rfl (lv_at hl 0 rfl) ?_
  refine W.objInit hx hb hown (hts (.methodLink RX4 1 objectInit) (by decide +kernel)) (hts (.instanceMethod objectInit) (by decide +kernel)) (hts (.code objectInit ⟨#[0xb1]⟩ 1 none) (by decide +kernel)) rfl (by rw [hml]; exact hl.1) rfl dX4_init_1 (Nat.le_of_ble_eq_true rfl) (Nat.le_of_ble_eq_true rfl) ?_
  refine W.eq (g2 := F0 m 4 ls []) rfl ?_
  refine lv_aload_n hx hb dX4_init_4 rfl (lv_at hl 0 rfl) ?_
  refine lv_iconst (v := nI 2) hx hb dX4_init_5 (by decide) ?_
  refine zr_new (N := 2) hx hb (hts (.arrayClass .int) (by decide +kernel)) hK hP hD hS hA (by omega) (Nat.le_of_ble_eq_true rfl) (Nat.le_of_ble_eq_true rfl) dX4_init_6 (fun vq H hP hD hS => ?_)
  have hP : va_P G.1 vwCl (([(sh, .inr (4, [.null, .null, .null, .null])), (vq, .inl (G.2.1, 2, .inl (fun _ => 0)))] : va_W)) H := hP
  have hD : va_D A (([(sh, .inr (4, [.null, .null, .null, .null])), (vq, .inl (G.2.1, 2, .inl (fun _ => 0)))] : va_W)) := hD
  refine lv_dup hx hb dX4_init_8 rfl ?_
  refine lv_iconst (v := nI 0) hx hb dX4_init_9 (by decide) ?_
  refine lv_iconst (v := nI 1) hx hb dX4_init_10 (by decide) ?_
  refine zr_iast (g := upd (fun _ => 0) 0 (nI 1)) hx hb hK hP hD hS 1 rfl (by omega) (by omega) (rfl) dX4_init_11 (fun H locs hP hD hS => ?_)
  have hP : va_P G.1 vwCl (([(sh, .inr (4, [.null, .null, .null, .null])), (vq, .inl (G.2.1, 2, .inl (upd (fun _ => 0) 0 (nI 1))))] : va_W)) H := hP
  have hD : va_D A (([(sh, .inr (4, [.null, .null, .null, .null])), (vq, .inl (G.2.1, 2, .inl (upd (fun _ => 0) 0 (nI 1))))] : va_W)) := hD
  refine lv_dup hx hb dX4_init_12 rfl ?_
  refine lv_iconst (v := nI 1) hx hb dX4_init_13 (by decide) ?_
  refine lv_iconst (v := nI 1) hx hb dX4_init_14 (by decide) ?_
  refine zr_iast (g := upd (upd (fun _ => 0) 0 (nI 1)) 1 (nI 1)) hx hb hK hP hD hS 1 rfl (by omega) (by omega) (rfl) dX4_init_15 (fun H locs hP hD hS => ?_)
  have hP : va_P G.1 vwCl (([(sh, .inr (4, [.null, .null, .null, .null])), (vq, .inl (G.2.1, 2, .inl (upd (upd (fun _ => 0) 0 (nI 1)) 1 (nI 1))))] : va_W)) H := hP
  have hD : va_D A (([(sh, .inr (4, [.null, .null, .null, .null])), (vq, .inl (G.2.1, 2, .inl (upd (upd (fun _ => 0) 0 (nI 1)) 1 (nI 1))))] : va_W)) := hD
  refine va_put (D := G.1) (ci := 4) (v := .ref vq) (ty := .array .int) (C := RX4) (T := TX4) (N := 4) hx hb hts in_X4_init_X4 tyX4 tyX4_ok nmX4 hown hK.1 hP hD hS 0 rfl rfl 0 (by decide) (hts (.fieldLink RX4 7 "JarRiddleLaw$Sim" "volume" "[I") (by decide +kernel)) (fun _ h9 => h9) rfl (by decide +kernel) rfl rfl (Nat.le_of_ble_eq_true rfl) dX4_init_16 (fun H locs hP hD hS => ?_)
  have hP : va_P G.1 vwCl (([(sh, .inr (4, [.ref vq, .null, .null, .null])), (vq, .inl (G.2.1, 2, .inl (upd (upd (fun _ => 0) 0 (nI 1)) 1 (nI 1))))] : va_W)) H := hP
  have hD : va_D A (([(sh, .inr (4, [.ref vq, .null, .null, .null])), (vq, .inl (G.2.1, 2, .inl (upd (upd (fun _ => 0) 0 (nI 1)) 1 (nI 1))))] : va_W)) := hD
  refine lv_aload_n hx hb dX4_init_19 rfl (lv_at hl 0 rfl) ?_
  refine lv_iconst (v := nI 2) hx hb dX4_init_20 (by decide) ?_
  refine zr_new (N := 2) hx hb (hts (.arrayClass .int) (by decide +kernel)) hK hP hD hS hA (by omega) (Nat.le_of_ble_eq_true rfl) (Nat.le_of_ble_eq_true rfl) dX4_init_21 (fun aq H hP hD hS => ?_)
  have hP : va_P G.1 vwCl (([(sh, .inr (4, [.ref vq, .null, .null, .null])), (vq, .inl (G.2.1, 2, .inl (upd (upd (fun _ => 0) 0 (nI 1)) 1 (nI 1)))), (aq, .inl (G.2.1, 2, .inl (fun _ => 0)))] : va_W)) H := hP
  have hD : va_D A (([(sh, .inr (4, [.ref vq, .null, .null, .null])), (vq, .inl (G.2.1, 2, .inl (upd (upd (fun _ => 0) 0 (nI 1)) 1 (nI 1)))), (aq, .inl (G.2.1, 2, .inl (fun _ => 0)))] : va_W)) := hD
  refine lv_dup hx hb dX4_init_23 rfl ?_
  refine lv_iconst (v := nI 0) hx hb dX4_init_24 (by decide) ?_
  refine lv_iconst (v := nI 0) hx hb dX4_init_25 (by decide) ?_
  refine zr_iast (g := upd (fun _ => 0) 0 (nI 0)) hx hb hK hP hD hS 2 rfl (by omega) (by omega) (rfl) dX4_init_26 (fun H locs hP hD hS => ?_)
  have hP : va_P G.1 vwCl (([(sh, .inr (4, [.ref vq, .null, .null, .null])), (vq, .inl (G.2.1, 2, .inl (upd (upd (fun _ => 0) 0 (nI 1)) 1 (nI 1)))), (aq, .inl (G.2.1, 2, .inl (upd (fun _ => 0) 0 (nI 0))))] : va_W)) H := hP
  have hD : va_D A (([(sh, .inr (4, [.ref vq, .null, .null, .null])), (vq, .inl (G.2.1, 2, .inl (upd (upd (fun _ => 0) 0 (nI 1)) 1 (nI 1)))), (aq, .inl (G.2.1, 2, .inl (upd (fun _ => 0) 0 (nI 0))))] : va_W)) := hD
  refine lv_dup hx hb dX4_init_27 rfl ?_
  refine lv_iconst (v := nI 1) hx hb dX4_init_28 (by decide) ?_
  refine lv_iconst (v := nI 0) hx hb dX4_init_29 (by decide) ?_
  refine zr_iast (g := upd (upd (fun _ => 0) 0 (nI 0)) 1 (nI 0)) hx hb hK hP hD hS 2 rfl (by omega) (by omega) (rfl) dX4_init_30 (fun H locs hP hD hS => ?_)
  have hP : va_P G.1 vwCl (([(sh, .inr (4, [.ref vq, .null, .null, .null])), (vq, .inl (G.2.1, 2, .inl (upd (upd (fun _ => 0) 0 (nI 1)) 1 (nI 1)))), (aq, .inl (G.2.1, 2, .inl (upd (upd (fun _ => 0) 0 (nI 0)) 1 (nI 0))))] : va_W)) H := hP
  have hD : va_D A (([(sh, .inr (4, [.ref vq, .null, .null, .null])), (vq, .inl (G.2.1, 2, .inl (upd (upd (fun _ => 0) 0 (nI 1)) 1 (nI 1)))), (aq, .inl (G.2.1, 2, .inl (upd (upd (fun _ => 0) 0 (nI 0)) 1 (nI 0))))] : va_W)) := hD
  refine va_put (D := G.1) (ci := 4) (v := .ref aq) (ty := .array .int) (C := RX4) (T := TX4) (N := 4) hx hb hts in_X4_init_X4 tyX4 tyX4_ok nmX4 hown hK.1 hP hD hS 0 rfl rfl 1 (by decide) (hts (.fieldLink RX4 13 "JarRiddleLaw$Sim" "amount" "[I") (by decide +kernel)) (fun _ h9 => h9) rfl (by decide +kernel) rfl rfl (Nat.le_of_ble_eq_true rfl) dX4_init_31 (fun H locs hP hD hS => ?_)
  have hP : va_P G.1 vwCl (([(sh, .inr (4, [.ref vq, .ref aq, .null, .null])), (vq, .inl (G.2.1, 2, .inl (upd (upd (fun _ => 0) 0 (nI 1)) 1 (nI 1)))), (aq, .inl (G.2.1, 2, .inl (upd (upd (fun _ => 0) 0 (nI 0)) 1 (nI 0))))] : va_W)) H := hP
  have hD : va_D A (([(sh, .inr (4, [.ref vq, .ref aq, .null, .null])), (vq, .inl (G.2.1, 2, .inl (upd (upd (fun _ => 0) 0 (nI 1)) 1 (nI 1)))), (aq, .inl (G.2.1, 2, .inl (upd (upd (fun _ => 0) 0 (nI 0)) 1 (nI 0))))] : va_W)) := hD
  have ev : upd (upd (fun _ => 0) 0 (nI 1)) 1 (nI 1) = zar 2 (fun _ => 1) := zar_mk2 (fun _ => 1)
  have ea : upd (upd (fun _ => 0) 0 (nI 0)) 1 (nI 0) = zar 2 (fun _ => 0) := zar_mk2 (fun _ => 0)
  rw [ev, ea] at hP hD
  have hP : va_P G.1 vwCl (([(sh, .inr (4, [.ref vq, .ref aq, .null, .null])), (vq, .inl (G.2.1, 2, .inl (zar 2 (fun _ => 1)))), (aq, .inl (G.2.1, 2, .inl (zar 2 (fun _ => 0))))] : va_W)) H := hP
  have hD : va_D A (([(sh, .inr (4, [.ref vq, .ref aq, .null, .null])), (vq, .inl (G.2.1, 2, .inl (zar 2 (fun _ => 1)))), (aq, .inl (G.2.1, 2, .inl (zar 2 (fun _ => 0))))] : va_W)) := hD
  refine lv_aload_n hx hb dX4_init_34 rfl (lv_at hl 0 rfl) ?_
  refine lv_bipush (v := nI 6) hx hb dX4_init_35 (by decide) ?_
  refine zr_new (N := 6) hx hb (hts (.arrayClass .int) (by decide +kernel)) hK hP hD hS hA (by omega) (Nat.le_of_ble_eq_true rfl) (Nat.le_of_ble_eq_true rfl) dX4_init_37 (fun cq H hP hD hS => ?_)
  have hP : va_P G.1 vwCl (([(sh, .inr (4, [.ref vq, .ref aq, .null, .null])), (vq, .inl (G.2.1, 2, .inl (zar 2 (fun _ => 1)))), (aq, .inl (G.2.1, 2, .inl (zar 2 (fun _ => 0)))), (cq, .inl (G.2.1, 6, .inl (fun _ => 0)))] : va_W)) H := hP
  have hD : va_D A (([(sh, .inr (4, [.ref vq, .ref aq, .null, .null])), (vq, .inl (G.2.1, 2, .inl (zar 2 (fun _ => 1)))), (aq, .inl (G.2.1, 2, .inl (zar 2 (fun _ => 0)))), (cq, .inl (G.2.1, 6, .inl (fun _ => 0)))] : va_W)) := hD
  refine va_put (D := G.1) (ci := 4) (v := .ref cq) (ty := .array .int) (C := RX4) (T := TX4) (N := 4) hx hb hts in_X4_init_X4 tyX4 tyX4_ok nmX4 hown hK.1 hP hD hS 0 rfl rfl 2 (by decide) (hts (.fieldLink RX4 16 "JarRiddleLaw$Sim" "counts" "[I") (by decide +kernel)) (fun _ h9 => h9) rfl (by decide +kernel) rfl rfl (Nat.le_of_ble_eq_true rfl) dX4_init_39 (fun H locs hP hD hS => ?_)
  have hP : va_P G.1 vwCl (([(sh, .inr (4, [.ref vq, .ref aq, .ref cq, .null])), (vq, .inl (G.2.1, 2, .inl (zar 2 (fun _ => 1)))), (aq, .inl (G.2.1, 2, .inl (zar 2 (fun _ => 0)))), (cq, .inl (G.2.1, 6, .inl (fun _ => 0)))] : va_W)) H := hP
  have hD : va_D A (([(sh, .inr (4, [.ref vq, .ref aq, .ref cq, .null])), (vq, .inl (G.2.1, 2, .inl (zar 2 (fun _ => 1)))), (aq, .inl (G.2.1, 2, .inl (zar 2 (fun _ => 0)))), (cq, .inl (G.2.1, 6, .inl (fun _ => 0)))] : va_W)) := hD
  refine lv_aload_n hx hb dX4_init_42 rfl (lv_at hl 0 rfl) ?_
  refine lv_iconst (v := nI 2) hx hb dX4_init_43 (by decide) ?_
  rw [zkt_00] at hP hD
  have hP : va_P G.1 vwCl (([(sh, .inr (4, [.ref vq, .ref aq, .ref cq, .null])), (vq, .inl (G.2.1, 2, .inl (zar 2 (fun _ => 1)))), (aq, .inl (G.2.1, 2, .inl (zar 2 (fun _ => 0)))), (cq, .inl (G.2.1, 6, .inl (zkt (0, 0, 0, 0, 0, 0))))] : va_W)) H := hP
  have hD : va_D A (([(sh, .inr (4, [.ref vq, .ref aq, .ref cq, .null])), (vq, .inl (G.2.1, 2, .inl (zar 2 (fun _ => 1)))), (aq, .inl (G.2.1, 2, .inl (zar 2 (fun _ => 0)))), (cq, .inl (G.2.1, 6, .inl (zkt (0, 0, 0, 0, 0, 0))))] : va_W)) := hD
  refine zr_S (As := [.int (nI 2)]) (rest := [.ref sh]) (wr := (([(sh, .inr (4, [.ref vq, .ref aq, .ref cq, .null])), (vq, .inl (G.2.1, 2, .inl (zar 2 (fun _ => 1)))), (aq, .inl (G.2.1, 2, .inl (zar 2 (fun _ => 0)))), (cq, .inl (G.2.1, 6, .inl (zkt (0, 0, 0, 0, 0, 0))))] : va_W))) F (s_rows2 l G) gX4_init_X4_rows rfl rfl rfl zd_X4_rows ⟨(Nat.le_of_ble_eq_true rfl), (Nat.le_of_ble_eq_true rfl)⟩ rfl rfl (Nat.le_of_ble_eq_true rfl) dX4_init_44 ⟨(Nat.le_of_ble_eq_true rfl), (Nat.le_of_ble_eq_true rfl)⟩ hK hP hD hS hA hl.1 (List.Perm.refl _) (fun u H locs hP hD hS => ?_)
  obtain ⟨⟨mq, new⟩, hnew⟩ := u
  have hp9 : List.Perm (([(mq, .inl (G.2.2.1, new.length, .inr (.inr (.inr (.inr (zlf new))))))] ++ new.map (zrc G 2) : va_W) ++ (([(sh, .inr (4, [.ref vq, .ref aq, .ref cq, .null])), (vq, .inl (G.2.1, 2, .inl (zar 2 (fun _ => 1)))), (aq, .inl (G.2.1, 2, .inl (zar 2 (fun _ => 0)))), (cq, .inl (G.2.1, 6, .inl (zkt (0, 0, 0, 0, 0, 0))))] : va_W))) ((([(sh, .inr (4, [.ref vq, .ref aq, .ref cq, .null])), (vq, .inl (G.2.1, 2, .inl (zar 2 (fun _ => 1)))), (aq, .inl (G.2.1, 2, .inl (zar 2 (fun _ => 0)))), (cq, .inl (G.2.1, 6, .inl (zkt (0, 0, 0, 0, 0, 0))))] : va_W)) ++ ([(mq, .inl (G.2.2.1, new.length, .inr (.inr (.inr (.inr (zlf new))))))] ++ new.map (zrc G 2) : va_W)) := List.perm_append_comm
  have hP := hP.perm hp9
  have hD := hD.perm hp9
  have hP : va_P G.1 vwCl (([(sh, .inr (4, [.ref vq, .ref aq, .ref cq, .null])), (vq, .inl (G.2.1, 2, .inl (zar 2 (fun _ => 1)))), (aq, .inl (G.2.1, 2, .inl (zar 2 (fun _ => 0)))), (cq, .inl (G.2.1, 6, .inl (zkt (0, 0, 0, 0, 0, 0)))), (mq, .inl (G.2.2.1, new.length, .inr (.inr (.inr (.inr (zlf new))))))] : va_W) ++ new.map (zrc G 2)) H := hP
  have hD : va_D A (([(sh, .inr (4, [.ref vq, .ref aq, .ref cq, .null])), (vq, .inl (G.2.1, 2, .inl (zar 2 (fun _ => 1)))), (aq, .inl (G.2.1, 2, .inl (zar 2 (fun _ => 0)))), (cq, .inl (G.2.1, 6, .inl (zkt (0, 0, 0, 0, 0, 0)))), (mq, .inl (G.2.2.1, new.length, .inr (.inr (.inr (.inr (zlf new))))))] : va_W) ++ new.map (zrc G 2)) := hD
  refine va_put (D := G.1) (ci := 4) (v := .ref mq) (ty := .array (.array .int)) (C := RX4) (T := TX4) (N := 4) hx hb hts in_X4_init_X4 tyX4 tyX4_ok nmX4 hown hK.1 hP hD hS 0 rfl rfl 3 (by decide) (hts (.fieldLink RX4 23 "JarRiddleLaw$Sim" "left" "[[I") (by decide +kernel)) (fun _ h9 => h9) rfl (by decide +kernel) rfl rfl (Nat.le_of_ble_eq_true rfl) dX4_init_47 (fun H locs hP hD hS => ?_)
  have hP : va_P G.1 vwCl (([(sh, .inr (4, [.ref vq, .ref aq, .ref cq, .ref mq])), (vq, .inl (G.2.1, 2, .inl (zar 2 (fun _ => 1)))), (aq, .inl (G.2.1, 2, .inl (zar 2 (fun _ => 0)))), (cq, .inl (G.2.1, 6, .inl (zkt (0, 0, 0, 0, 0, 0)))), (mq, .inl (G.2.2.1, new.length, .inr (.inr (.inr (.inr (zlf new))))))] : va_W) ++ new.map (zrc G 2)) H := hP
  have hD : va_D A (([(sh, .inr (4, [.ref vq, .ref aq, .ref cq, .ref mq])), (vq, .inl (G.2.1, 2, .inl (zar 2 (fun _ => 1)))), (aq, .inl (G.2.1, 2, .inl (zar 2 (fun _ => 0)))), (cq, .inl (G.2.1, 6, .inl (zkt (0, 0, 0, 0, 0, 0)))), (mq, .inl (G.2.2.1, new.length, .inr (.inr (.inr (.inr (zlf new))))))] : va_W) ++ new.map (zrc G 2)) := hD
  refine W.widen (k := 733) (n := 5115) (Nat.le_of_ble_eq_true rfl) (Nat.le_of_ble_eq_true rfl) ?_
  exact zr_vret F hr hlocks hP hD hS ⟨(vq, aq, cq, mq, new), hnew⟩ (List.Perm.refl _) rfl dX4_init_50
theorem s_layOut (l : Launch) (G : zG) {n : Nat} {V X : Nat → Nat} {t : zU} (sh sv sa sc sl : Nat) (rows : zRows) {a b d : Nat} (hd : d ≤ 9) : zCr l G yX4_layOut wsX4_layOut rm_X4_layOut 733 5115 [.ref sh, .int (nI a), .int (nI b), .int (nI d)] (zSW G sh n V X t (sv, sa, sc, sl, rows)) (fun _ : {u : zSu // u.2.2.2.2.map Prod.snd = zAll (zn (zV3 a b d))} => none) (fun u => zSW G sh (zn (zV3 a b d)) (zV3 a b d) (fun _ => 0) (0, 0, 0, 0, 0, 0) u.1) := by
  rcases Nat.eq_zero_or_pos d with rfl | h
  · exact s_layOut2 l G sh sv sa sc sl rows
  · have e : zn (zV3 a b d) = 3 := if_neg (show ¬ d = 0 by omega)
    rw [e]
    exact s_layOut3 l G sh sv sa sc sl rows h hd
