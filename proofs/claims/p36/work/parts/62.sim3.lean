/-! the law's own jars: a candidate behind an act -/
theorem zar_mk2 (X : Nat → Nat) : upd (upd (fun _ => 0) 0 (nI (X 0))) 1 (nI (X 1)) = zar 2 X := by
  funext i
  unfold zar upd
  rcases (by omega : i = 0 ∨ i = 1 ∨ 2 ≤ i) with rfl | rfl | h
  · rfl
  · rfl
  · rw [if_neg (by omega), if_neg (by omega), if_neg (by omega)]
theorem zar_mk3 (X : Nat → Nat) : upd (upd (upd (fun _ => 0) 0 (nI (X 0))) 1 (nI (X 1))) 2 (nI (X 2)) = zar 3 X := by
  funext i
  unfold zar upd
  rcases (by omega : i = 0 ∨ i = 1 ∨ i = 2 ∨ 3 ≤ i) with rfl | rfl | rfl | h
  · rfl
  · rfl
  · rfl
  · rw [if_neg (by omega), if_neg (by omega), if_neg (by omega), if_neg (by omega)]
theorem zrw_mk2 {N s s' : Nat} {Y : Nat → Nat} (h : ∀ j, j < 2 → zdg s' j = Y j) : upd (upd (zrw 2 N s) 2 (nI (Y 0))) 3 (nI (Y 1)) = zrw 2 N s' := by
  funext i
  unfold zrw upd
  rcases (by omega : i = 0 ∨ i = 1 ∨ i = 2 ∨ i = 3 ∨ 4 ≤ i) with rfl | rfl | rfl | rfl | h9
  · rfl
  · rfl
  · exact congrArg nI (h 0 (by omega)).symm
  · exact congrArg nI (h 1 (by omega)).symm
  · dsimp only; rw [if_neg (by omega), if_neg (by omega), if_neg (by omega), if_neg (by omega), if_neg (by omega), if_neg (by omega)]
theorem zrw_mk3 {N s s' : Nat} {Y : Nat → Nat} (h : ∀ j, j < 3 → zdg s' j = Y j) : upd (upd (upd (zrw 3 N s) 3 (nI (Y 0))) 4 (nI (Y 1))) 5 (nI (Y 2)) = zrw 3 N s' := by
  funext i
  unfold zrw upd
  rcases (by omega : i = 0 ∨ i = 1 ∨ i = 2 ∨ i = 3 ∨ i = 4 ∨ i = 5 ∨ 6 ≤ i) with rfl | rfl | rfl | rfl | rfl | rfl | h9
  · rfl
  · rfl
  · rfl
  · exact congrArg nI (h 0 (by omega)).symm
  · exact congrArg nI (h 1 (by omega)).symm
  · exact congrArg nI (h 2 (by omega)).symm
  · dsimp only; rw [if_neg (by omega), if_neg (by omega), if_neg (by omega), if_neg (by omega), if_neg (by omega), if_neg (by omega), if_neg (by omega)]
/-- a candidate's state behind an act -/
def zbh (n a N s : Nat) : Nat := zst (zmv (zcv n N) (zdg s) a)
set_option maxHeartbeats 4000000 in
set_option maxRecDepth 100000 in
theorem s_behind2 (l : Launch) (G : zG) {N s9 : Nat} (ok : zOK (zcv 2 N) (zdg s9)) {a : Nat} (ha : a < 15) (hal : zal 2 a) (q : Nat) : zCr l G yX4_behind wsX4_behind rm_X4_behind 3 12 [.ref q, .int (nI a)] [zrc G 2 (q, N, s9)] (fun u : Nat => some (.ref u)) (fun u : Nat => [zrc G 2 (q, N, s9), zrc G 2 (u, N, zbh 2 a N s9)]) := by
  refine z_ofr (cc := cX4_behind) (maxL := 7) (ret := (some (.array .int))) (own := RX4) (by decide) rfl rfl (Nat.le_of_ble_eq_true rfl) ?_
  intro p e s m args below meth c A H locs ls F hr hlocks hname hK hA hP hD hS hl
  obtain ⟨hx, hb, hml, hown, hts⟩ := id F
  have hl : lv_has ls 7 [(0, .ref q), (1, .int (nI a))] := hl
  have hP : va_P G.1 vwCl (([(q, .inl (G.2.1, (2 * 2), .inl (zrw 2 N s9)))] : va_W)) H := hP
  have hD : va_D A (([(q, .inl (G.2.1, (2 * 2), .inl (zrw 2 N s9)))] : va_W)) := hD
  have ok2 := zmv_ok ok ha
  have hdg9 : ∀ j, j < 2 → zdg (zbh 2 a N s9) j = zmv (zcv 2 N) (zdg s9) a j := fun j hj => zdg_st ok2 (by omega)
  refine lv_aload_n hx hb dX4_behind_0 rfl (lv_at hl 0 rfl) ?_
  refine zr_alen hx hb hK hP 0 rfl dX4_behind_1 ?_
  refine lv_iconst (v := nI 2) hx hb dX4_behind_2 (by decide) ?_
  refine lv_idiv hx hb dX4_behind_3 (by decide) ?_
  refine zt_top (v := (nI 2)) ((pk_div (by omega) (by omega) (by omega)).trans (congrArg nI (rfl))) ?_
  refine lv_istore_n (lv' := [(2, .int (nI 2)), (0, .ref q), (1, .int (nI a))]) hx hb dX4_behind_4 rfl hl (by decide) rfl (fun ls hl => ?_)
  refine lv_iload_n hx hb dX4_behind_5 rfl (lv_at hl 0 rfl) ?_
  refine zr_new (N := 2) hx hb (hts (.arrayClass .int) (by decide +kernel)) hK hP hD hS hA (by omega) (Nat.le_of_ble_eq_true rfl) (Nat.le_of_ble_eq_true rfl) dX4_behind_6 (fun vq H hP hD hS => ?_)
  have hP : va_P G.1 vwCl (([(q, .inl (G.2.1, (2 * 2), .inl (zrw 2 N s9))), (vq, .inl (G.2.1, 2, .inl (fun _ => 0)))] : va_W)) H := hP
  have hD : va_D A (([(q, .inl (G.2.1, (2 * 2), .inl (zrw 2 N s9))), (vq, .inl (G.2.1, 2, .inl (fun _ => 0)))] : va_W)) := hD
  refine lv_astore_n (lv' := [(3, .ref vq), (2, .int (nI 2)), (0, .ref q), (1, .int (nI a))]) hx hb dX4_behind_8 rfl hl (by decide) rfl (fun ls hl => ?_)
  refine lv_iload_n hx hb dX4_behind_9 rfl (lv_at hl 1 rfl) ?_
  refine zr_new (N := 2) hx hb (hts (.arrayClass .int) (by decide +kernel)) hK hP hD hS hA (by omega) (Nat.le_of_ble_eq_true rfl) (Nat.le_of_ble_eq_true rfl) dX4_behind_10 (fun aq H hP hD hS => ?_)
  have hP : va_P G.1 vwCl (([(q, .inl (G.2.1, (2 * 2), .inl (zrw 2 N s9))), (vq, .inl (G.2.1, 2, .inl (fun _ => 0))), (aq, .inl (G.2.1, 2, .inl (fun _ => 0)))] : va_W)) H := hP
  have hD : va_D A (([(q, .inl (G.2.1, (2 * 2), .inl (zrw 2 N s9))), (vq, .inl (G.2.1, 2, .inl (fun _ => 0))), (aq, .inl (G.2.1, 2, .inl (fun _ => 0)))] : va_W)) := hD
  refine lv_astore (lv' := [(4, .ref aq), (3, .ref vq), (2, .int (nI 2)), (0, .ref q), (1, .int (nI a))]) hx hb dX4_behind_12 hl (by decide) rfl (fun ls hl => ?_)
  refine lv_iconst (v := nI 0) hx hb dX4_behind_14 (by decide) ?_
  refine lv_istore (lv' := [(5, .int (nI 0)), (4, .ref aq), (3, .ref vq), (2, .int (nI 2)), (0, .ref q), (1, .int (nI a))]) hx hb dX4_behind_15 hl (by decide) rfl (fun ls hl => ?_)
  refine lv_iload hx hb dX4_behind_17 (lv_at hl 0 rfl) ?_
  refine lv_iload_n hx hb dX4_behind_19 rfl (lv_at hl 3 rfl) ?_
  refine lv_icmp_ge (tgt := 48) hx hb dX4_behind_20 (by decide) (fun z => absurd z (show ¬ (nI 2) ≤ (nI 0) from (by decide))) (fun _ => ?_)
  refine lv_aload_n hx hb dX4_behind_23 rfl (lv_at hl 2 rfl) ?_
  refine lv_iload hx hb dX4_behind_24 (lv_at hl 0 rfl) ?_
  refine lv_aload_n hx hb dX4_behind_26 rfl (lv_at hl 4 rfl) ?_
  refine lv_iload hx hb dX4_behind_27 (lv_at hl 0 rfl) ?_
  refine zr_iald (v := (nI (zcv 2 N 0))) hx hb hK hP 0 rfl (by omega) (by omega) (zrw_v (by omega)) dX4_behind_29 ?_
  refine zr_iast (g := upd (fun _ => 0) 0 (nI (zcv 2 N 0))) hx hb hK hP hD hS 1 rfl (by omega) (by omega) (rfl) dX4_behind_30 (fun H locs hP hD hS => ?_)
  have hP : va_P G.1 vwCl (([(q, .inl (G.2.1, (2 * 2), .inl (zrw 2 N s9))), (vq, .inl (G.2.1, 2, .inl (upd (fun _ => 0) 0 (nI (zcv 2 N 0))))), (aq, .inl (G.2.1, 2, .inl (fun _ => 0)))] : va_W)) H := hP
  have hD : va_D A (([(q, .inl (G.2.1, (2 * 2), .inl (zrw 2 N s9))), (vq, .inl (G.2.1, 2, .inl (upd (fun _ => 0) 0 (nI (zcv 2 N 0))))), (aq, .inl (G.2.1, 2, .inl (fun _ => 0)))] : va_W)) := hD
  refine lv_aload hx hb dX4_behind_31 (lv_at hl 1 rfl) ?_
  refine lv_iload hx hb dX4_behind_33 (lv_at hl 0 rfl) ?_
  refine lv_aload_n hx hb dX4_behind_35 rfl (lv_at hl 4 rfl) ?_
  refine lv_iload_n hx hb dX4_behind_36 rfl (lv_at hl 3 rfl) ?_
  refine lv_iload hx hb dX4_behind_37 (lv_at hl 0 rfl) ?_
  refine lv_iadd hx hb dX4_behind_39 ?_
  refine zt_top (v := (nI 2)) (nI_add 2 0) ?_
  refine zr_iald (v := (nI (zdg s9 0))) hx hb hK hP 0 rfl (by omega) (by omega) (zrw_a (n := 2) (i := 0) (by omega)) dX4_behind_40 ?_
  refine zr_iast (g := upd (fun _ => 0) 0 (nI (zdg s9 0))) hx hb hK hP hD hS 2 rfl (by omega) (by omega) (rfl) dX4_behind_41 (fun H locs hP hD hS => ?_)
  have hP : va_P G.1 vwCl (([(q, .inl (G.2.1, (2 * 2), .inl (zrw 2 N s9))), (vq, .inl (G.2.1, 2, .inl (upd (fun _ => 0) 0 (nI (zcv 2 N 0))))), (aq, .inl (G.2.1, 2, .inl (upd (fun _ => 0) 0 (nI (zdg s9 0)))))] : va_W)) H := hP
  have hD : va_D A (([(q, .inl (G.2.1, (2 * 2), .inl (zrw 2 N s9))), (vq, .inl (G.2.1, 2, .inl (upd (fun _ => 0) 0 (nI (zcv 2 N 0))))), (aq, .inl (G.2.1, 2, .inl (upd (fun _ => 0) 0 (nI (zdg s9 0)))))] : va_W)) := hD
  refine lv_iinc (v := (nI 1)) (lv' := [(5, .int (nI 1)), (4, .ref aq), (3, .ref vq), (2, .int (nI 2)), (0, .ref q), (1, .int (nI a))]) hx hb dX4_behind_42 hl (k := 0) rfl (nI_1 0) (by decide) rfl (fun ls hl => ?_)
  refine lv_goto (tgt := 17) hx hb dX4_behind_45 (by decide) ?_
  refine lv_iload hx hb dX4_behind_17 (lv_at hl 0 rfl) ?_
  refine lv_iload_n hx hb dX4_behind_19 rfl (lv_at hl 3 rfl) ?_
  refine lv_icmp_ge (tgt := 48) hx hb dX4_behind_20 (by decide) (fun z => absurd z (show ¬ (nI 2) ≤ (nI 1) from (by decide))) (fun _ => ?_)
  refine lv_aload_n hx hb dX4_behind_23 rfl (lv_at hl 2 rfl) ?_
  refine lv_iload hx hb dX4_behind_24 (lv_at hl 0 rfl) ?_
  refine lv_aload_n hx hb dX4_behind_26 rfl (lv_at hl 4 rfl) ?_
  refine lv_iload hx hb dX4_behind_27 (lv_at hl 0 rfl) ?_
  refine zr_iald (v := (nI (zcv 2 N 1))) hx hb hK hP 0 rfl (by omega) (by omega) (zrw_v (by omega)) dX4_behind_29 ?_
  refine zr_iast (g := upd (upd (fun _ => 0) 0 (nI (zcv 2 N 0))) 1 (nI (zcv 2 N 1))) hx hb hK hP hD hS 1 rfl (by omega) (by omega) (rfl) dX4_behind_30 (fun H locs hP hD hS => ?_)
  have hP : va_P G.1 vwCl (([(q, .inl (G.2.1, (2 * 2), .inl (zrw 2 N s9))), (vq, .inl (G.2.1, 2, .inl (upd (upd (fun _ => 0) 0 (nI (zcv 2 N 0))) 1 (nI (zcv 2 N 1))))), (aq, .inl (G.2.1, 2, .inl (upd (fun _ => 0) 0 (nI (zdg s9 0)))))] : va_W)) H := hP
  have hD : va_D A (([(q, .inl (G.2.1, (2 * 2), .inl (zrw 2 N s9))), (vq, .inl (G.2.1, 2, .inl (upd (upd (fun _ => 0) 0 (nI (zcv 2 N 0))) 1 (nI (zcv 2 N 1))))), (aq, .inl (G.2.1, 2, .inl (upd (fun _ => 0) 0 (nI (zdg s9 0)))))] : va_W)) := hD
  refine lv_aload hx hb dX4_behind_31 (lv_at hl 1 rfl) ?_
  refine lv_iload hx hb dX4_behind_33 (lv_at hl 0 rfl) ?_
  refine lv_aload_n hx hb dX4_behind_35 rfl (lv_at hl 4 rfl) ?_
  refine lv_iload_n hx hb dX4_behind_36 rfl (lv_at hl 3 rfl) ?_
  refine lv_iload hx hb dX4_behind_37 (lv_at hl 0 rfl) ?_
  refine lv_iadd hx hb dX4_behind_39 ?_
  refine zt_top (v := (nI 3)) (nI_add 2 1) ?_
  refine zr_iald (v := (nI (zdg s9 1))) hx hb hK hP 0 rfl (by omega) (by omega) (zrw_a (n := 2) (i := 1) (by omega)) dX4_behind_40 ?_
  refine zr_iast (g := upd (upd (fun _ => 0) 0 (nI (zdg s9 0))) 1 (nI (zdg s9 1))) hx hb hK hP hD hS 2 rfl (by omega) (by omega) (rfl) dX4_behind_41 (fun H locs hP hD hS => ?_)
  have hP : va_P G.1 vwCl (([(q, .inl (G.2.1, (2 * 2), .inl (zrw 2 N s9))), (vq, .inl (G.2.1, 2, .inl (upd (upd (fun _ => 0) 0 (nI (zcv 2 N 0))) 1 (nI (zcv 2 N 1))))), (aq, .inl (G.2.1, 2, .inl (upd (upd (fun _ => 0) 0 (nI (zdg s9 0))) 1 (nI (zdg s9 1)))))] : va_W)) H := hP
  have hD : va_D A (([(q, .inl (G.2.1, (2 * 2), .inl (zrw 2 N s9))), (vq, .inl (G.2.1, 2, .inl (upd (upd (fun _ => 0) 0 (nI (zcv 2 N 0))) 1 (nI (zcv 2 N 1))))), (aq, .inl (G.2.1, 2, .inl (upd (upd (fun _ => 0) 0 (nI (zdg s9 0))) 1 (nI (zdg s9 1)))))] : va_W)) := hD
  refine lv_iinc (v := (nI 2)) (lv' := [(5, .int (nI 2)), (4, .ref aq), (3, .ref vq), (2, .int (nI 2)), (0, .ref q), (1, .int (nI a))]) hx hb dX4_behind_42 hl (k := 0) rfl (nI_1 1) (by decide) rfl (fun ls hl => ?_)
  refine lv_goto (tgt := 17) hx hb dX4_behind_45 (by decide) ?_
  refine lv_iload hx hb dX4_behind_17 (lv_at hl 0 rfl) ?_
  refine lv_iload_n hx hb dX4_behind_19 rfl (lv_at hl 3 rfl) ?_
  refine lv_icmp_ge (tgt := 48) hx hb dX4_behind_20 (by decide) (fun _ => ?_) (fun z => absurd (show (nI 2) ≤ (nI 2) from (by decide)) z)
  rw [zar_mk2 (zcv 2 N), zar_mk2 (zdg s9)] at hP hD
  refine lv_iload_n hx hb dX4_behind_48 rfl (lv_at hl 5 rfl) ?_
  refine lv_aload_n hx hb dX4_behind_49 rfl (lv_at hl 2 rfl) ?_
  refine lv_aload hx hb dX4_behind_50 (lv_at hl 1 rfl) ?_
  refine zr_S (As := [.int (nI a), .ref vq, .ref aq]) (rest := []) (wr := [(q, .inl (G.2.1, (2 * 2), .inl (zrw 2 N s9)))]) F (s_act l G (n := 2) (by omega) ok ha hal vq aq) gX4_behind_X4_act rfl rfl rfl zd_X4_act ⟨(Nat.le_of_ble_eq_true rfl), (Nat.le_of_ble_eq_true rfl)⟩ rfl rfl (Nat.le_of_ble_eq_true rfl) dX4_behind_52 ⟨(Nat.le_of_ble_eq_true rfl), (Nat.le_of_ble_eq_true rfl)⟩ hK hP hD hS hA hl.1 (List.perm_append_comm (l₁ := ([(q, .inl (G.2.1, (2 * 2), .inl (zrw 2 N s9)))] : va_W)) (l₂ := ([(vq, .inl (G.2.1, 2, .inl (zar 2 (zcv 2 N)))), (aq, .inl (G.2.1, 2, .inl (zar 2 (zdg s9))))] : va_W))) (fun u H locs hP hD hS => ?_)
  have hP := hP.perm List.perm_append_comm
  have hD := hD.perm List.perm_append_comm
  have hP : va_P G.1 vwCl (([(q, .inl (G.2.1, (2 * 2), .inl (zrw 2 N s9))), (vq, .inl (G.2.1, 2, .inl (zar 2 (zcv 2 N)))), (aq, .inl (G.2.1, 2, .inl (zar 2 (zmv (zcv 2 N) (zdg s9) a))))] : va_W)) H := hP
  have hD : va_D A (([(q, .inl (G.2.1, (2 * 2), .inl (zrw 2 N s9))), (vq, .inl (G.2.1, 2, .inl (zar 2 (zcv 2 N)))), (aq, .inl (G.2.1, 2, .inl (zar 2 (zmv (zcv 2 N) (zdg s9) a))))] : va_W)) := hD
  refine lv_pop hx hb dX4_behind_55 rfl ?_
  refine lv_aload_n hx hb dX4_behind_56 rfl (lv_at hl 4 rfl) ?_
  refine va_clone hx hb (hml.trans hl.1.symm) hown (hts (.methodLink RX4 32 ⟨"[I", "clone", "()Ljava/lang/Object;"⟩) (by decide +kernel)) (hts (.sameMethod "[I" "java/lang/Object" "clone" "()Ljava/lang/Object;") (by decide +kernel)) (hts (.native ⟨"java/lang/Object", "clone", "()Ljava/lang/Object;"⟩) (by decide +kernel)) (hts (.instanceMethod ⟨"java/lang/Object", "clone", "()Ljava/lang/Object;"⟩) (by decide +kernel)) (hts (.selects "[I" ⟨"[I", "clone", "()Ljava/lang/Object;"⟩ ⟨"java/lang/Object", "clone", "()Ljava/lang/Object;"⟩) (by decide +kernel)) (hK.2.2.2.1 _ List.mem_cons_self) hK.1 hP hD hS hA 0 0 rfl rfl (va_nm_int (hK.1.2 0 _ rfl).2) (fun i v hv => va_fit (fun _ _ => rfl) i v hv) (Nat.le_of_ble_eq_true rfl) (Nat.le_of_ble_eq_true rfl) (Nat.le_of_ble_eq_true rfl) (Nat.le_of_ble_eq_true rfl) dX4_behind_57 (fun u9 H hK2 hP hD hS => ?_)
  have hP : va_P G.1 vwCl (([(q, .inl (G.2.1, (2 * 2), .inl (zrw 2 N s9))), (vq, .inl (G.2.1, 2, .inl (zar 2 (zcv 2 N)))), (aq, .inl (G.2.1, 2, .inl (zar 2 (zmv (zcv 2 N) (zdg s9) a)))), (u9, .inl (G.2.1, (2 * 2), .inl (zrw 2 N s9)))] : va_W)) H := hP
  have hD : va_D A (([(q, .inl (G.2.1, (2 * 2), .inl (zrw 2 N s9))), (vq, .inl (G.2.1, 2, .inl (zar 2 (zcv 2 N)))), (aq, .inl (G.2.1, 2, .inl (zar 2 (zmv (zcv 2 N) (zdg s9) a)))), (u9, .inl (G.2.1, (2 * 2), .inl (zrw 2 N s9)))] : va_W)) := hD
  refine va_castA hx hb hown (hts (.classLink RX4 27 "[I") (by decide +kernel)) hP 3 rfl (va_nm_int (hK.1.2 0 _ rfl).2) dX4_behind_60 ?_
  refine lv_astore (lv' := [(5, .ref u9), (4, .ref aq), (3, .ref vq), (2, .int (nI 2)), (0, .ref q), (1, .int (nI a))]) hx hb dX4_behind_63 hl (by decide) rfl (fun ls hl => ?_)
  refine lv_iconst (v := nI 0) hx hb dX4_behind_65 (by decide) ?_
  refine lv_istore (lv' := [(6, .int (nI 0)), (5, .ref u9), (4, .ref aq), (3, .ref vq), (2, .int (nI 2)), (0, .ref q), (1, .int (nI a))]) hx hb dX4_behind_66 hl (by decide) rfl (fun ls hl => ?_)
  refine lv_iload hx hb dX4_behind_68 (lv_at hl 0 rfl) ?_
  refine lv_iload_n hx hb dX4_behind_70 rfl (lv_at hl 4 rfl) ?_
  refine lv_icmp_ge (tgt := 92) hx hb dX4_behind_71 (by decide) (fun z => absurd z (show ¬ (nI 2) ≤ (nI 0) from (by decide))) (fun _ => ?_)
  refine lv_aload hx hb dX4_behind_74 (lv_at hl 1 rfl) ?_
  refine lv_iload_n hx hb dX4_behind_76 rfl (lv_at hl 4 rfl) ?_
  refine lv_iload hx hb dX4_behind_77 (lv_at hl 0 rfl) ?_
  refine lv_iadd hx hb dX4_behind_79 ?_
  refine zt_top (v := (nI 2)) (nI_add 2 0) ?_
  refine lv_aload hx hb dX4_behind_80 (lv_at hl 2 rfl) ?_
  refine lv_iload hx hb dX4_behind_82 (lv_at hl 0 rfl) ?_
  refine zr_iald (v := (nI (zmv (zcv 2 N) (zdg s9) a 0))) hx hb hK hP 2 rfl (by omega) (by omega) (zar_at (by omega)) dX4_behind_84 ?_
  refine zr_iast (g := upd (zrw 2 N s9) 2 (nI (zmv (zcv 2 N) (zdg s9) a 0))) hx hb hK hP hD hS 3 rfl (by omega) (by omega) (rfl) dX4_behind_85 (fun H locs hP hD hS => ?_)
  have hP : va_P G.1 vwCl (([(q, .inl (G.2.1, (2 * 2), .inl (zrw 2 N s9))), (vq, .inl (G.2.1, 2, .inl (zar 2 (zcv 2 N)))), (aq, .inl (G.2.1, 2, .inl (zar 2 (zmv (zcv 2 N) (zdg s9) a)))), (u9, .inl (G.2.1, (2 * 2), .inl (upd (zrw 2 N s9) 2 (nI (zmv (zcv 2 N) (zdg s9) a 0)))))] : va_W)) H := hP
  have hD : va_D A (([(q, .inl (G.2.1, (2 * 2), .inl (zrw 2 N s9))), (vq, .inl (G.2.1, 2, .inl (zar 2 (zcv 2 N)))), (aq, .inl (G.2.1, 2, .inl (zar 2 (zmv (zcv 2 N) (zdg s9) a)))), (u9, .inl (G.2.1, (2 * 2), .inl (upd (zrw 2 N s9) 2 (nI (zmv (zcv 2 N) (zdg s9) a 0)))))] : va_W)) := hD
  refine lv_iinc (v := (nI 1)) (lv' := [(6, .int (nI 1)), (5, .ref u9), (4, .ref aq), (3, .ref vq), (2, .int (nI 2)), (0, .ref q), (1, .int (nI a))]) hx hb dX4_behind_86 hl (k := 0) rfl (nI_1 0) (by decide) rfl (fun ls hl => ?_)
  refine lv_goto (tgt := 68) hx hb dX4_behind_89 (by decide) ?_
  refine lv_iload hx hb dX4_behind_68 (lv_at hl 0 rfl) ?_
  refine lv_iload_n hx hb dX4_behind_70 rfl (lv_at hl 4 rfl) ?_
  refine lv_icmp_ge (tgt := 92) hx hb dX4_behind_71 (by decide) (fun z => absurd z (show ¬ (nI 2) ≤ (nI 1) from (by decide))) (fun _ => ?_)
  refine lv_aload hx hb dX4_behind_74 (lv_at hl 1 rfl) ?_
  refine lv_iload_n hx hb dX4_behind_76 rfl (lv_at hl 4 rfl) ?_
  refine lv_iload hx hb dX4_behind_77 (lv_at hl 0 rfl) ?_
  refine lv_iadd hx hb dX4_behind_79 ?_
  refine zt_top (v := (nI 3)) (nI_add 2 1) ?_
  refine lv_aload hx hb dX4_behind_80 (lv_at hl 2 rfl) ?_
  refine lv_iload hx hb dX4_behind_82 (lv_at hl 0 rfl) ?_
  refine zr_iald (v := (nI (zmv (zcv 2 N) (zdg s9) a 1))) hx hb hK hP 2 rfl (by omega) (by omega) (zar_at (by omega)) dX4_behind_84 ?_
  refine zr_iast (g := upd (upd (zrw 2 N s9) 2 (nI (zmv (zcv 2 N) (zdg s9) a 0))) 3 (nI (zmv (zcv 2 N) (zdg s9) a 1))) hx hb hK hP hD hS 3 rfl (by omega) (by omega) (rfl) dX4_behind_85 (fun H locs hP hD hS => ?_)
  have hP : va_P G.1 vwCl (([(q, .inl (G.2.1, (2 * 2), .inl (zrw 2 N s9))), (vq, .inl (G.2.1, 2, .inl (zar 2 (zcv 2 N)))), (aq, .inl (G.2.1, 2, .inl (zar 2 (zmv (zcv 2 N) (zdg s9) a)))), (u9, .inl (G.2.1, (2 * 2), .inl (upd (upd (zrw 2 N s9) 2 (nI (zmv (zcv 2 N) (zdg s9) a 0))) 3 (nI (zmv (zcv 2 N) (zdg s9) a 1)))))] : va_W)) H := hP
  have hD : va_D A (([(q, .inl (G.2.1, (2 * 2), .inl (zrw 2 N s9))), (vq, .inl (G.2.1, 2, .inl (zar 2 (zcv 2 N)))), (aq, .inl (G.2.1, 2, .inl (zar 2 (zmv (zcv 2 N) (zdg s9) a)))), (u9, .inl (G.2.1, (2 * 2), .inl (upd (upd (zrw 2 N s9) 2 (nI (zmv (zcv 2 N) (zdg s9) a 0))) 3 (nI (zmv (zcv 2 N) (zdg s9) a 1)))))] : va_W)) := hD
  refine lv_iinc (v := (nI 2)) (lv' := [(6, .int (nI 2)), (5, .ref u9), (4, .ref aq), (3, .ref vq), (2, .int (nI 2)), (0, .ref q), (1, .int (nI a))]) hx hb dX4_behind_86 hl (k := 0) rfl (nI_1 1) (by decide) rfl (fun ls hl => ?_)
  refine lv_goto (tgt := 68) hx hb dX4_behind_89 (by decide) ?_
  refine lv_iload hx hb dX4_behind_68 (lv_at hl 0 rfl) ?_
  refine lv_iload_n hx hb dX4_behind_70 rfl (lv_at hl 4 rfl) ?_
  refine lv_icmp_ge (tgt := 92) hx hb dX4_behind_71 (by decide) (fun _ => ?_) (fun z => absurd (show (nI 2) ≤ (nI 2) from (by decide)) z)
  refine lv_aload hx hb dX4_behind_92 (lv_at hl 1 rfl) ?_
  rw [zrw_mk2 (s' := zbh 2 a N s9) hdg9] at hP hD
  have hP : va_P G.1 vwCl (([(q, .inl (G.2.1, (2 * 2), .inl (zrw 2 N s9))), (u9, .inl (G.2.1, (2 * 2), .inl (zrw 2 N (zbh 2 a N s9))))] : va_W)) H := hP.sub [0, 3] rfl
  have hD : va_D A (([(q, .inl (G.2.1, (2 * 2), .inl (zrw 2 N s9))), (u9, .inl (G.2.1, (2 * 2), .inl (zrw 2 N (zbh 2 a N s9))))] : va_W)) := hD.sub [0, 3] rfl rfl
  refine W.widen (k := 3) (n := 12) (Nat.le_of_ble_eq_true rfl) (Nat.le_of_ble_eq_true rfl) ?_
  exact zr_aret F hr (Or.inr ⟨.int, rfl⟩) hlocks hP hD hS u9 (List.Perm.refl _) rfl dX4_behind_94
set_option maxHeartbeats 4000000 in
set_option maxRecDepth 100000 in
theorem s_behind3 (l : Launch) (G : zG) {N s9 : Nat} (ok : zOK (zcv 3 N) (zdg s9)) {a : Nat} (ha : a < 15) (hal : zal 3 a) (q : Nat) : zCr l G yX4_behind wsX4_behind rm_X4_behind 3 12 [.ref q, .int (nI a)] [zrc G 3 (q, N, s9)] (fun u : Nat => some (.ref u)) (fun u : Nat => [zrc G 3 (q, N, s9), zrc G 3 (u, N, zbh 3 a N s9)]) := by
  refine z_ofr (cc := cX4_behind) (maxL := 7) (ret := (some (.array .int))) (own := RX4) (by decide) rfl rfl (Nat.le_of_ble_eq_true rfl) ?_
  intro p e s m args below meth c A H locs ls F hr hlocks hname hK hA hP hD hS hl
  obtain ⟨hx, hb, hml, hown, hts⟩ := id F
  have hl : lv_has ls 7 [(0, .ref q), (1, .int (nI a))] := hl
  have hP : va_P G.1 vwCl (([(q, .inl (G.2.1, (2 * 3), .inl (zrw 3 N s9)))] : va_W)) H := hP
  have hD : va_D A (([(q, .inl (G.2.1, (2 * 3), .inl (zrw 3 N s9)))] : va_W)) := hD
  have ok2 := zmv_ok ok ha
  have hdg9 : ∀ j, j < 3 → zdg (zbh 3 a N s9) j = zmv (zcv 3 N) (zdg s9) a j := fun j hj => zdg_st ok2 (by omega)
  refine lv_aload_n hx hb dX4_behind_0 rfl (lv_at hl 0 rfl) ?_
  refine zr_alen hx hb hK hP 0 rfl dX4_behind_1 ?_
  refine lv_iconst (v := nI 2) hx hb dX4_behind_2 (by decide) ?_
  refine lv_idiv hx hb dX4_behind_3 (by decide) ?_
  refine zt_top (v := (nI 3)) ((pk_div (by omega) (by omega) (by omega)).trans (congrArg nI (rfl))) ?_
  refine lv_istore_n (lv' := [(2, .int (nI 3)), (0, .ref q), (1, .int (nI a))]) hx hb dX4_behind_4 rfl hl (by decide) rfl (fun ls hl => ?_)
  refine lv_iload_n hx hb dX4_behind_5 rfl (lv_at hl 0 rfl) ?_
  refine zr_new (N := 3) hx hb (hts (.arrayClass .int) (by decide +kernel)) hK hP hD hS hA (by omega) (Nat.le_of_ble_eq_true rfl) (Nat.le_of_ble_eq_true rfl) dX4_behind_6 (fun vq H hP hD hS => ?_)
  have hP : va_P G.1 vwCl (([(q, .inl (G.2.1, (2 * 3), .inl (zrw 3 N s9))), (vq, .inl (G.2.1, 3, .inl (fun _ => 0)))] : va_W)) H := hP
  have hD : va_D A (([(q, .inl (G.2.1, (2 * 3), .inl (zrw 3 N s9))), (vq, .inl (G.2.1, 3, .inl (fun _ => 0)))] : va_W)) := hD
  refine lv_astore_n (lv' := [(3, .ref vq), (2, .int (nI 3)), (0, .ref q), (1, .int (nI a))]) hx hb dX4_behind_8 rfl hl (by decide) rfl (fun ls hl => ?_)
  refine lv_iload_n hx hb dX4_behind_9 rfl (lv_at hl 1 rfl) ?_
  refine zr_new (N := 3) hx hb (hts (.arrayClass .int) (by decide +kernel)) hK hP hD hS hA (by omega) (Nat.le_of_ble_eq_true rfl) (Nat.le_of_ble_eq_true rfl) dX4_behind_10 (fun aq H hP hD hS => ?_)
  have hP : va_P G.1 vwCl (([(q, .inl (G.2.1, (2 * 3), .inl (zrw 3 N s9))), (vq, .inl (G.2.1, 3, .inl (fun _ => 0))), (aq, .inl (G.2.1, 3, .inl (fun _ => 0)))] : va_W)) H := hP
  have hD : va_D A (([(q, .inl (G.2.1, (2 * 3), .inl (zrw 3 N s9))), (vq, .inl (G.2.1, 3, .inl (fun _ => 0))), (aq, .inl (G.2.1, 3, .inl (fun _ => 0)))] : va_W)) := hD
  refine lv_astore (lv' := [(4, .ref aq), (3, .ref vq), (2, .int (nI 3)), (0, .ref q), (1, .int (nI a))]) hx hb dX4_behind_12 hl (by decide) rfl (fun ls hl => ?_)
  refine lv_iconst (v := nI 0) hx hb dX4_behind_14 (by decide) ?_
  refine lv_istore (lv' := [(5, .int (nI 0)), (4, .ref aq), (3, .ref vq), (2, .int (nI 3)), (0, .ref q), (1, .int (nI a))]) hx hb dX4_behind_15 hl (by decide) rfl (fun ls hl => ?_)
  refine lv_iload hx hb dX4_behind_17 (lv_at hl 0 rfl) ?_
  refine lv_iload_n hx hb dX4_behind_19 rfl (lv_at hl 3 rfl) ?_
  refine lv_icmp_ge (tgt := 48) hx hb dX4_behind_20 (by decide) (fun z => absurd z (show ¬ (nI 3) ≤ (nI 0) from (by decide))) (fun _ => ?_)
  refine lv_aload_n hx hb dX4_behind_23 rfl (lv_at hl 2 rfl) ?_
  refine lv_iload hx hb dX4_behind_24 (lv_at hl 0 rfl) ?_
  refine lv_aload_n hx hb dX4_behind_26 rfl (lv_at hl 4 rfl) ?_
  refine lv_iload hx hb dX4_behind_27 (lv_at hl 0 rfl) ?_
  refine zr_iald (v := (nI (zcv 3 N 0))) hx hb hK hP 0 rfl (by omega) (by omega) (zrw_v (by omega)) dX4_behind_29 ?_
  refine zr_iast (g := upd (fun _ => 0) 0 (nI (zcv 3 N 0))) hx hb hK hP hD hS 1 rfl (by omega) (by omega) (rfl) dX4_behind_30 (fun H locs hP hD hS => ?_)
  have hP : va_P G.1 vwCl (([(q, .inl (G.2.1, (2 * 3), .inl (zrw 3 N s9))), (vq, .inl (G.2.1, 3, .inl (upd (fun _ => 0) 0 (nI (zcv 3 N 0))))), (aq, .inl (G.2.1, 3, .inl (fun _ => 0)))] : va_W)) H := hP
  have hD : va_D A (([(q, .inl (G.2.1, (2 * 3), .inl (zrw 3 N s9))), (vq, .inl (G.2.1, 3, .inl (upd (fun _ => 0) 0 (nI (zcv 3 N 0))))), (aq, .inl (G.2.1, 3, .inl (fun _ => 0)))] : va_W)) := hD
  refine lv_aload hx hb dX4_behind_31 (lv_at hl 1 rfl) ?_
  refine lv_iload hx hb dX4_behind_33 (lv_at hl 0 rfl) ?_
  refine lv_aload_n hx hb dX4_behind_35 rfl (lv_at hl 4 rfl) ?_
  refine lv_iload_n hx hb dX4_behind_36 rfl (lv_at hl 3 rfl) ?_
  refine lv_iload hx hb dX4_behind_37 (lv_at hl 0 rfl) ?_
  refine lv_iadd hx hb dX4_behind_39 ?_
  refine zt_top (v := (nI 3)) (nI_add 3 0) ?_
  refine zr_iald (v := (nI (zdg s9 0))) hx hb hK hP 0 rfl (by omega) (by omega) (zrw_a (n := 3) (i := 0) (by omega)) dX4_behind_40 ?_
  refine zr_iast (g := upd (fun _ => 0) 0 (nI (zdg s9 0))) hx hb hK hP hD hS 2 rfl (by omega) (by omega) (rfl) dX4_behind_41 (fun H locs hP hD hS => ?_)
  have hP : va_P G.1 vwCl (([(q, .inl (G.2.1, (2 * 3), .inl (zrw 3 N s9))), (vq, .inl (G.2.1, 3, .inl (upd (fun _ => 0) 0 (nI (zcv 3 N 0))))), (aq, .inl (G.2.1, 3, .inl (upd (fun _ => 0) 0 (nI (zdg s9 0)))))] : va_W)) H := hP
  have hD : va_D A (([(q, .inl (G.2.1, (2 * 3), .inl (zrw 3 N s9))), (vq, .inl (G.2.1, 3, .inl (upd (fun _ => 0) 0 (nI (zcv 3 N 0))))), (aq, .inl (G.2.1, 3, .inl (upd (fun _ => 0) 0 (nI (zdg s9 0)))))] : va_W)) := hD
  refine lv_iinc (v := (nI 1)) (lv' := [(5, .int (nI 1)), (4, .ref aq), (3, .ref vq), (2, .int (nI 3)), (0, .ref q), (1, .int (nI a))]) hx hb dX4_behind_42 hl (k := 0) rfl (nI_1 0) (by decide) rfl (fun ls hl => ?_)
  refine lv_goto (tgt := 17) hx hb dX4_behind_45 (by decide) ?_
  refine lv_iload hx hb dX4_behind_17 (lv_at hl 0 rfl) ?_
  refine lv_iload_n hx hb dX4_behind_19 rfl (lv_at hl 3 rfl) ?_
  refine lv_icmp_ge (tgt := 48) hx hb dX4_behind_20 (by decide) (fun z => absurd z (show ¬ (nI 3) ≤ (nI 1) from (by decide))) (fun _ => ?_)
  refine lv_aload_n hx hb dX4_behind_23 rfl (lv_at hl 2 rfl) ?_
  refine lv_iload hx hb dX4_behind_24 (lv_at hl 0 rfl) ?_
  refine lv_aload_n hx hb dX4_behind_26 rfl (lv_at hl 4 rfl) ?_
  refine lv_iload hx hb dX4_behind_27 (lv_at hl 0 rfl) ?_
  refine zr_iald (v := (nI (zcv 3 N 1))) hx hb hK hP 0 rfl (by omega) (by omega) (zrw_v (by omega)) dX4_behind_29 ?_
  refine zr_iast (g := upd (upd (fun _ => 0) 0 (nI (zcv 3 N 0))) 1 (nI (zcv 3 N 1))) hx hb hK hP hD hS 1 rfl (by omega) (by omega) (rfl) dX4_behind_30 (fun H locs hP hD hS => ?_)
  have hP : va_P G.1 vwCl (([(q, .inl (G.2.1, (2 * 3), .inl (zrw 3 N s9))), (vq, .inl (G.2.1, 3, .inl (upd (upd (fun _ => 0) 0 (nI (zcv 3 N 0))) 1 (nI (zcv 3 N 1))))), (aq, .inl (G.2.1, 3, .inl (upd (fun _ => 0) 0 (nI (zdg s9 0)))))] : va_W)) H := hP
  have hD : va_D A (([(q, .inl (G.2.1, (2 * 3), .inl (zrw 3 N s9))), (vq, .inl (G.2.1, 3, .inl (upd (upd (fun _ => 0) 0 (nI (zcv 3 N 0))) 1 (nI (zcv 3 N 1))))), (aq, .inl (G.2.1, 3, .inl (upd (fun _ => 0) 0 (nI (zdg s9 0)))))] : va_W)) := hD
  refine lv_aload hx hb dX4_behind_31 (lv_at hl 1 rfl) ?_
  refine lv_iload hx hb dX4_behind_33 (lv_at hl 0 rfl) ?_
  refine lv_aload_n hx hb dX4_behind_35 rfl (lv_at hl 4 rfl) ?_
  refine lv_iload_n hx hb dX4_behind_36 rfl (lv_at hl 3 rfl) ?_
  refine lv_iload hx hb dX4_behind_37 (lv_at hl 0 rfl) ?_
  refine lv_iadd hx hb dX4_behind_39 ?_
  refine zt_top (v := (nI 4)) (nI_add 3 1) ?_
  refine zr_iald (v := (nI (zdg s9 1))) hx hb hK hP 0 rfl (by omega) (by omega) (zrw_a (n := 3) (i := 1) (by omega)) dX4_behind_40 ?_
  refine zr_iast (g := upd (upd (fun _ => 0) 0 (nI (zdg s9 0))) 1 (nI (zdg s9 1))) hx hb hK hP hD hS 2 rfl (by omega) (by omega) (rfl) dX4_behind_41 (fun H locs hP hD hS => ?_)
  have hP : va_P G.1 vwCl (([(q, .inl (G.2.1, (2 * 3), .inl (zrw 3 N s9))), (vq, .inl (G.2.1, 3, .inl (upd (upd (fun _ => 0) 0 (nI (zcv 3 N 0))) 1 (nI (zcv 3 N 1))))), (aq, .inl (G.2.1, 3, .inl (upd (upd (fun _ => 0) 0 (nI (zdg s9 0))) 1 (nI (zdg s9 1)))))] : va_W)) H := hP
  have hD : va_D A (([(q, .inl (G.2.1, (2 * 3), .inl (zrw 3 N s9))), (vq, .inl (G.2.1, 3, .inl (upd (upd (fun _ => 0) 0 (nI (zcv 3 N 0))) 1 (nI (zcv 3 N 1))))), (aq, .inl (G.2.1, 3, .inl (upd (upd (fun _ => 0) 0 (nI (zdg s9 0))) 1 (nI (zdg s9 1)))))] : va_W)) := hD
  refine lv_iinc (v := (nI 2)) (lv' := [(5, .int (nI 2)), (4, .ref aq), (3, .ref vq), (2, .int (nI 3)), (0, .ref q), (1, .int (nI a))]) hx hb dX4_behind_42 hl (k := 0) rfl (nI_1 1) (by decide) rfl (fun ls hl => ?_)
  refine lv_goto (tgt := 17) hx hb dX4_behind_45 (by decide) ?_
  refine lv_iload hx hb dX4_behind_17 (lv_at hl 0 rfl) ?_
  refine lv_iload_n hx hb dX4_behind_19 rfl (lv_at hl 3 rfl) ?_
  refine lv_icmp_ge (tgt := 48) hx hb dX4_behind_20 (by decide) (fun z => absurd z (show ¬ (nI 3) ≤ (nI 2) from (by decide))) (fun _ => ?_)
  refine lv_aload_n hx hb dX4_behind_23 rfl (lv_at hl 2 rfl) ?_
  refine lv_iload hx hb dX4_behind_24 (lv_at hl 0 rfl) ?_
  refine lv_aload_n hx hb dX4_behind_26 rfl (lv_at hl 4 rfl) ?_
  refine lv_iload hx hb dX4_behind_27 (lv_at hl 0 rfl) ?_
  refine zr_iald (v := (nI (zcv 3 N 2))) hx hb hK hP 0 rfl (by omega) (by omega) (zrw_v (by omega)) dX4_behind_29 ?_
  refine zr_iast (g := upd (upd (upd (fun _ => 0) 0 (nI (zcv 3 N 0))) 1 (nI (zcv 3 N 1))) 2 (nI (zcv 3 N 2))) hx hb hK hP hD hS 1 rfl (by omega) (by omega) (rfl) dX4_behind_30 (fun H locs hP hD hS => ?_)
  have hP : va_P G.1 vwCl (([(q, .inl (G.2.1, (2 * 3), .inl (zrw 3 N s9))), (vq, .inl (G.2.1, 3, .inl (upd (upd (upd (fun _ => 0) 0 (nI (zcv 3 N 0))) 1 (nI (zcv 3 N 1))) 2 (nI (zcv 3 N 2))))), (aq, .inl (G.2.1, 3, .inl (upd (upd (fun _ => 0) 0 (nI (zdg s9 0))) 1 (nI (zdg s9 1)))))] : va_W)) H := hP
  have hD : va_D A (([(q, .inl (G.2.1, (2 * 3), .inl (zrw 3 N s9))), (vq, .inl (G.2.1, 3, .inl (upd (upd (upd (fun _ => 0) 0 (nI (zcv 3 N 0))) 1 (nI (zcv 3 N 1))) 2 (nI (zcv 3 N 2))))), (aq, .inl (G.2.1, 3, .inl (upd (upd (fun _ => 0) 0 (nI (zdg s9 0))) 1 (nI (zdg s9 1)))))] : va_W)) := hD
  refine lv_aload hx hb dX4_behind_31 (lv_at hl 1 rfl) ?_
  refine lv_iload hx hb dX4_behind_33 (lv_at hl 0 rfl) ?_
  refine lv_aload_n hx hb dX4_behind_35 rfl (lv_at hl 4 rfl) ?_
  refine lv_iload_n hx hb dX4_behind_36 rfl (lv_at hl 3 rfl) ?_
  refine lv_iload hx hb dX4_behind_37 (lv_at hl 0 rfl) ?_
  refine lv_iadd hx hb dX4_behind_39 ?_
  refine zt_top (v := (nI 5)) (nI_add 3 2) ?_
  refine zr_iald (v := (nI (zdg s9 2))) hx hb hK hP 0 rfl (by omega) (by omega) (zrw_a (n := 3) (i := 2) (by omega)) dX4_behind_40 ?_
  refine zr_iast (g := upd (upd (upd (fun _ => 0) 0 (nI (zdg s9 0))) 1 (nI (zdg s9 1))) 2 (nI (zdg s9 2))) hx hb hK hP hD hS 2 rfl (by omega) (by omega) (rfl) dX4_behind_41 (fun H locs hP hD hS => ?_)
  have hP : va_P G.1 vwCl (([(q, .inl (G.2.1, (2 * 3), .inl (zrw 3 N s9))), (vq, .inl (G.2.1, 3, .inl (upd (upd (upd (fun _ => 0) 0 (nI (zcv 3 N 0))) 1 (nI (zcv 3 N 1))) 2 (nI (zcv 3 N 2))))), (aq, .inl (G.2.1, 3, .inl (upd (upd (upd (fun _ => 0) 0 (nI (zdg s9 0))) 1 (nI (zdg s9 1))) 2 (nI (zdg s9 2)))))] : va_W)) H := hP
  have hD : va_D A (([(q, .inl (G.2.1, (2 * 3), .inl (zrw 3 N s9))), (vq, .inl (G.2.1, 3, .inl (upd (upd (upd (fun _ => 0) 0 (nI (zcv 3 N 0))) 1 (nI (zcv 3 N 1))) 2 (nI (zcv 3 N 2))))), (aq, .inl (G.2.1, 3, .inl (upd (upd (upd (fun _ => 0) 0 (nI (zdg s9 0))) 1 (nI (zdg s9 1))) 2 (nI (zdg s9 2)))))] : va_W)) := hD
  refine lv_iinc (v := (nI 3)) (lv' := [(5, .int (nI 3)), (4, .ref aq), (3, .ref vq), (2, .int (nI 3)), (0, .ref q), (1, .int (nI a))]) hx hb dX4_behind_42 hl (k := 0) rfl (nI_1 2) (by decide) rfl (fun ls hl => ?_)
  refine lv_goto (tgt := 17) hx hb dX4_behind_45 (by decide) ?_
  refine lv_iload hx hb dX4_behind_17 (lv_at hl 0 rfl) ?_
  refine lv_iload_n hx hb dX4_behind_19 rfl (lv_at hl 3 rfl) ?_
  refine lv_icmp_ge (tgt := 48) hx hb dX4_behind_20 (by decide) (fun _ => ?_) (fun z => absurd (show (nI 3) ≤ (nI 3) from (by decide)) z)
  rw [zar_mk3 (zcv 3 N), zar_mk3 (zdg s9)] at hP hD
  refine lv_iload_n hx hb dX4_behind_48 rfl (lv_at hl 5 rfl) ?_
  refine lv_aload_n hx hb dX4_behind_49 rfl (lv_at hl 2 rfl) ?_
  refine lv_aload hx hb dX4_behind_50 (lv_at hl 1 rfl) ?_
  refine zr_S (As := [.int (nI a), .ref vq, .ref aq]) (rest := []) (wr := [(q, .inl (G.2.1, (2 * 3), .inl (zrw 3 N s9)))]) F (s_act l G (n := 3) (by omega) ok ha hal vq aq) gX4_behind_X4_act rfl rfl rfl zd_X4_act ⟨(Nat.le_of_ble_eq_true rfl), (Nat.le_of_ble_eq_true rfl)⟩ rfl rfl (Nat.le_of_ble_eq_true rfl) dX4_behind_52 ⟨(Nat.le_of_ble_eq_true rfl), (Nat.le_of_ble_eq_true rfl)⟩ hK hP hD hS hA hl.1 (List.perm_append_comm (l₁ := ([(q, .inl (G.2.1, (2 * 3), .inl (zrw 3 N s9)))] : va_W)) (l₂ := ([(vq, .inl (G.2.1, 3, .inl (zar 3 (zcv 3 N)))), (aq, .inl (G.2.1, 3, .inl (zar 3 (zdg s9))))] : va_W))) (fun u H locs hP hD hS => ?_)
  have hP := hP.perm List.perm_append_comm
  have hD := hD.perm List.perm_append_comm
  have hP : va_P G.1 vwCl (([(q, .inl (G.2.1, (2 * 3), .inl (zrw 3 N s9))), (vq, .inl (G.2.1, 3, .inl (zar 3 (zcv 3 N)))), (aq, .inl (G.2.1, 3, .inl (zar 3 (zmv (zcv 3 N) (zdg s9) a))))] : va_W)) H := hP
  have hD : va_D A (([(q, .inl (G.2.1, (2 * 3), .inl (zrw 3 N s9))), (vq, .inl (G.2.1, 3, .inl (zar 3 (zcv 3 N)))), (aq, .inl (G.2.1, 3, .inl (zar 3 (zmv (zcv 3 N) (zdg s9) a))))] : va_W)) := hD
  refine lv_pop hx hb dX4_behind_55 rfl ?_
  refine lv_aload_n hx hb dX4_behind_56 rfl (lv_at hl 4 rfl) ?_
  refine va_clone hx hb (hml.trans hl.1.symm) hown (hts (.methodLink RX4 32 ⟨"[I", "clone", "()Ljava/lang/Object;"⟩) (by decide +kernel)) (hts (.sameMethod "[I" "java/lang/Object" "clone" "()Ljava/lang/Object;") (by decide +kernel)) (hts (.native ⟨"java/lang/Object", "clone", "()Ljava/lang/Object;"⟩) (by decide +kernel)) (hts (.instanceMethod ⟨"java/lang/Object", "clone", "()Ljava/lang/Object;"⟩) (by decide +kernel)) (hts (.selects "[I" ⟨"[I", "clone", "()Ljava/lang/Object;"⟩ ⟨"java/lang/Object", "clone", "()Ljava/lang/Object;"⟩) (by decide +kernel)) (hK.2.2.2.1 _ List.mem_cons_self) hK.1 hP hD hS hA 0 0 rfl rfl (va_nm_int (hK.1.2 0 _ rfl).2) (fun i v hv => va_fit (fun _ _ => rfl) i v hv) (Nat.le_of_ble_eq_true rfl) (Nat.le_of_ble_eq_true rfl) (Nat.le_of_ble_eq_true rfl) (Nat.le_of_ble_eq_true rfl) dX4_behind_57 (fun u9 H hK2 hP hD hS => ?_)
  have hP : va_P G.1 vwCl (([(q, .inl (G.2.1, (2 * 3), .inl (zrw 3 N s9))), (vq, .inl (G.2.1, 3, .inl (zar 3 (zcv 3 N)))), (aq, .inl (G.2.1, 3, .inl (zar 3 (zmv (zcv 3 N) (zdg s9) a)))), (u9, .inl (G.2.1, (2 * 3), .inl (zrw 3 N s9)))] : va_W)) H := hP
  have hD : va_D A (([(q, .inl (G.2.1, (2 * 3), .inl (zrw 3 N s9))), (vq, .inl (G.2.1, 3, .inl (zar 3 (zcv 3 N)))), (aq, .inl (G.2.1, 3, .inl (zar 3 (zmv (zcv 3 N) (zdg s9) a)))), (u9, .inl (G.2.1, (2 * 3), .inl (zrw 3 N s9)))] : va_W)) := hD
  refine va_castA hx hb hown (hts (.classLink RX4 27 "[I") (by decide +kernel)) hP 3 rfl (va_nm_int (hK.1.2 0 _ rfl).2) dX4_behind_60 ?_
  refine lv_astore (lv' := [(5, .ref u9), (4, .ref aq), (3, .ref vq), (2, .int (nI 3)), (0, .ref q), (1, .int (nI a))]) hx hb dX4_behind_63 hl (by decide) rfl (fun ls hl => ?_)
  refine lv_iconst (v := nI 0) hx hb dX4_behind_65 (by decide) ?_
  refine lv_istore (lv' := [(6, .int (nI 0)), (5, .ref u9), (4, .ref aq), (3, .ref vq), (2, .int (nI 3)), (0, .ref q), (1, .int (nI a))]) hx hb dX4_behind_66 hl (by decide) rfl (fun ls hl => ?_)
  refine lv_iload hx hb dX4_behind_68 (lv_at hl 0 rfl) ?_
  refine lv_iload_n hx hb dX4_behind_70 rfl (lv_at hl 4 rfl) ?_
  refine lv_icmp_ge (tgt := 92) hx hb dX4_behind_71 (by decide) (fun z => absurd z (show ¬ (nI 3) ≤ (nI 0) from (by decide))) (fun _ => ?_)
  refine lv_aload hx hb dX4_behind_74 (lv_at hl 1 rfl) ?_
  refine lv_iload_n hx hb dX4_behind_76 rfl (lv_at hl 4 rfl) ?_
  refine lv_iload hx hb dX4_behind_77 (lv_at hl 0 rfl) ?_
  refine lv_iadd hx hb dX4_behind_79 ?_
  refine zt_top (v := (nI 3)) (nI_add 3 0) ?_
  refine lv_aload hx hb dX4_behind_80 (lv_at hl 2 rfl) ?_
  refine lv_iload hx hb dX4_behind_82 (lv_at hl 0 rfl) ?_
  refine zr_iald (v := (nI (zmv (zcv 3 N) (zdg s9) a 0))) hx hb hK hP 2 rfl (by omega) (by omega) (zar_at (by omega)) dX4_behind_84 ?_
  refine zr_iast (g := upd (zrw 3 N s9) 3 (nI (zmv (zcv 3 N) (zdg s9) a 0))) hx hb hK hP hD hS 3 rfl (by omega) (by omega) (rfl) dX4_behind_85 (fun H locs hP hD hS => ?_)
  have hP : va_P G.1 vwCl (([(q, .inl (G.2.1, (2 * 3), .inl (zrw 3 N s9))), (vq, .inl (G.2.1, 3, .inl (zar 3 (zcv 3 N)))), (aq, .inl (G.2.1, 3, .inl (zar 3 (zmv (zcv 3 N) (zdg s9) a)))), (u9, .inl (G.2.1, (2 * 3), .inl (upd (zrw 3 N s9) 3 (nI (zmv (zcv 3 N) (zdg s9) a 0)))))] : va_W)) H := hP
  have hD : va_D A (([(q, .inl (G.2.1, (2 * 3), .inl (zrw 3 N s9))), (vq, .inl (G.2.1, 3, .inl (zar 3 (zcv 3 N)))), (aq, .inl (G.2.1, 3, .inl (zar 3 (zmv (zcv 3 N) (zdg s9) a)))), (u9, .inl (G.2.1, (2 * 3), .inl (upd (zrw 3 N s9) 3 (nI (zmv (zcv 3 N) (zdg s9) a 0)))))] : va_W)) := hD
  refine lv_iinc (v := (nI 1)) (lv' := [(6, .int (nI 1)), (5, .ref u9), (4, .ref aq), (3, .ref vq), (2, .int (nI 3)), (0, .ref q), (1, .int (nI a))]) hx hb dX4_behind_86 hl (k := 0) rfl (nI_1 0) (by decide) rfl (fun ls hl => ?_)
  refine lv_goto (tgt := 68) hx hb dX4_behind_89 (by decide) ?_
  refine lv_iload hx hb dX4_behind_68 (lv_at hl 0 rfl) ?_
  refine lv_iload_n hx hb dX4_behind_70 rfl (lv_at hl 4 rfl) ?_
  refine lv_icmp_ge (tgt := 92) hx hb dX4_behind_71 (by decide) (fun z => absurd z (show ¬ (nI 3) ≤ (nI 1) from (by decide))) (fun _ => ?_)
  refine lv_aload hx hb dX4_behind_74 (lv_at hl 1 rfl) ?_
  refine lv_iload_n hx hb dX4_behind_76 rfl (lv_at hl 4 rfl) ?_
  refine lv_iload hx hb dX4_behind_77 (lv_at hl 0 rfl) ?_
  refine lv_iadd hx hb dX4_behind_79 ?_
  refine zt_top (v := (nI 4)) (nI_add 3 1) ?_
  refine lv_aload hx hb dX4_behind_80 (lv_at hl 2 rfl) ?_
  refine lv_iload hx hb dX4_behind_82 (lv_at hl 0 rfl) ?_
  refine zr_iald (v := (nI (zmv (zcv 3 N) (zdg s9) a 1))) hx hb hK hP 2 rfl (by omega) (by omega) (zar_at (by omega)) dX4_behind_84 ?_
  refine zr_iast (g := upd (upd (zrw 3 N s9) 3 (nI (zmv (zcv 3 N) (zdg s9) a 0))) 4 (nI (zmv (zcv 3 N) (zdg s9) a 1))) hx hb hK hP hD hS 3 rfl (by omega) (by omega) (rfl) dX4_behind_85 (fun H locs hP hD hS => ?_)
  have hP : va_P G.1 vwCl (([(q, .inl (G.2.1, (2 * 3), .inl (zrw 3 N s9))), (vq, .inl (G.2.1, 3, .inl (zar 3 (zcv 3 N)))), (aq, .inl (G.2.1, 3, .inl (zar 3 (zmv (zcv 3 N) (zdg s9) a)))), (u9, .inl (G.2.1, (2 * 3), .inl (upd (upd (zrw 3 N s9) 3 (nI (zmv (zcv 3 N) (zdg s9) a 0))) 4 (nI (zmv (zcv 3 N) (zdg s9) a 1)))))] : va_W)) H := hP
  have hD : va_D A (([(q, .inl (G.2.1, (2 * 3), .inl (zrw 3 N s9))), (vq, .inl (G.2.1, 3, .inl (zar 3 (zcv 3 N)))), (aq, .inl (G.2.1, 3, .inl (zar 3 (zmv (zcv 3 N) (zdg s9) a)))), (u9, .inl (G.2.1, (2 * 3), .inl (upd (upd (zrw 3 N s9) 3 (nI (zmv (zcv 3 N) (zdg s9) a 0))) 4 (nI (zmv (zcv 3 N) (zdg s9) a 1)))))] : va_W)) := hD
  refine lv_iinc (v := (nI 2)) (lv' := [(6, .int (nI 2)), (5, .ref u9), (4, .ref aq), (3, .ref vq), (2, .int (nI 3)), (0, .ref q), (1, .int (nI a))]) hx hb dX4_behind_86 hl (k := 0) rfl (nI_1 1) (by decide) rfl (fun ls hl => ?_)
  refine lv_goto (tgt := 68) hx hb dX4_behind_89 (by decide) ?_
  refine lv_iload hx hb dX4_behind_68 (lv_at hl 0 rfl) ?_
  refine lv_iload_n hx hb dX4_behind_70 rfl (lv_at hl 4 rfl) ?_
  refine lv_icmp_ge (tgt := 92) hx hb dX4_behind_71 (by decide) (fun z => absurd z (show ¬ (nI 3) ≤ (nI 2) from (by decide))) (fun _ => ?_)
  refine lv_aload hx hb dX4_behind_74 (lv_at hl 1 rfl) ?_
  refine lv_iload_n hx hb dX4_behind_76 rfl (lv_at hl 4 rfl) ?_
  refine lv_iload hx hb dX4_behind_77 (lv_at hl 0 rfl) ?_
  refine lv_iadd hx hb dX4_behind_79 ?_
  refine zt_top (v := (nI 5)) (nI_add 3 2) ?_
  refine lv_aload hx hb dX4_behind_80 (lv_at hl 2 rfl) ?_
  refine lv_iload hx hb dX4_behind_82 (lv_at hl 0 rfl) ?_
  refine zr_iald (v := (nI (zmv (zcv 3 N) (zdg s9) a 2))) hx hb hK hP 2 rfl (by omega) (by omega) (zar_at (by omega)) dX4_behind_84 ?_
  refine zr_iast (g := upd (upd (upd (zrw 3 N s9) 3 (nI (zmv (zcv 3 N) (zdg s9) a 0))) 4 (nI (zmv (zcv 3 N) (zdg s9) a 1))) 5 (nI (zmv (zcv 3 N) (zdg s9) a 2))) hx hb hK hP hD hS 3 rfl (by omega) (by omega) (rfl) dX4_behind_85 (fun H locs hP hD hS => ?_)
  have hP : va_P G.1 vwCl (([(q, .inl (G.2.1, (2 * 3), .inl (zrw 3 N s9))), (vq, .inl (G.2.1, 3, .inl (zar 3 (zcv 3 N)))), (aq, .inl (G.2.1, 3, .inl (zar 3 (zmv (zcv 3 N) (zdg s9) a)))), (u9, .inl (G.2.1, (2 * 3), .inl (upd (upd (upd (zrw 3 N s9) 3 (nI (zmv (zcv 3 N) (zdg s9) a 0))) 4 (nI (zmv (zcv 3 N) (zdg s9) a 1))) 5 (nI (zmv (zcv 3 N) (zdg s9) a 2)))))] : va_W)) H := hP
  have hD : va_D A (([(q, .inl (G.2.1, (2 * 3), .inl (zrw 3 N s9))), (vq, .inl (G.2.1, 3, .inl (zar 3 (zcv 3 N)))), (aq, .inl (G.2.1, 3, .inl (zar 3 (zmv (zcv 3 N) (zdg s9) a)))), (u9, .inl (G.2.1, (2 * 3), .inl (upd (upd (upd (zrw 3 N s9) 3 (nI (zmv (zcv 3 N) (zdg s9) a 0))) 4 (nI (zmv (zcv 3 N) (zdg s9) a 1))) 5 (nI (zmv (zcv 3 N) (zdg s9) a 2)))))] : va_W)) := hD
  refine lv_iinc (v := (nI 3)) (lv' := [(6, .int (nI 3)), (5, .ref u9), (4, .ref aq), (3, .ref vq), (2, .int (nI 3)), (0, .ref q), (1, .int (nI a))]) hx hb dX4_behind_86 hl (k := 0) rfl (nI_1 2) (by decide) rfl (fun ls hl => ?_)
  refine lv_goto (tgt := 68) hx hb dX4_behind_89 (by decide) ?_
  refine lv_iload hx hb dX4_behind_68 (lv_at hl 0 rfl) ?_
  refine lv_iload_n hx hb dX4_behind_70 rfl (lv_at hl 4 rfl) ?_
  refine lv_icmp_ge (tgt := 92) hx hb dX4_behind_71 (by decide) (fun _ => ?_) (fun z => absurd (show (nI 3) ≤ (nI 3) from (by decide)) z)
  refine lv_aload hx hb dX4_behind_92 (lv_at hl 1 rfl) ?_
  rw [zrw_mk3 (s' := zbh 3 a N s9) hdg9] at hP hD
  have hP : va_P G.1 vwCl (([(q, .inl (G.2.1, (2 * 3), .inl (zrw 3 N s9))), (u9, .inl (G.2.1, (2 * 3), .inl (zrw 3 N (zbh 3 a N s9))))] : va_W)) H := hP.sub [0, 3] rfl
  have hD : va_D A (([(q, .inl (G.2.1, (2 * 3), .inl (zrw 3 N s9))), (u9, .inl (G.2.1, (2 * 3), .inl (zrw 3 N (zbh 3 a N s9))))] : va_W)) := hD.sub [0, 3] rfl rfl
  exact zr_aret F hr (Or.inr ⟨.int, rfl⟩) hlocks hP hD hS u9 (List.Perm.refl _) rfl dX4_behind_94
theorem s_behind (l : Launch) (G : zG) {n : Nat} (hn : n = 2 ∨ n = 3) {N s9 : Nat} (ok : zOK (zcv n N) (zdg s9)) {a : Nat} (ha : a < 15) (hal : zal n a) (q : Nat) : zCr l G yX4_behind wsX4_behind rm_X4_behind 3 12 [.ref q, .int (nI a)] [zrc G n (q, N, s9)] (fun u : Nat => some (.ref u)) (fun u : Nat => [zrc G n (q, N, s9), zrc G n (u, N, zbh n a N s9)]) := by
  rcases hn with rfl | rfl
  · exact s_behind2 l G ok ha hal q
  · exact s_behind3 l G ok ha hal q
