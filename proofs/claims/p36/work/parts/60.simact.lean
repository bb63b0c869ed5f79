/-! the law's own jars: an act -/
abbrev rm_X4_act : Room := { frames := 0, cells := 0, slots := 0, locals := 0 }
def zYk (X : Nat → Nat) (f t k : Nat) : Nat → Nat := fun j => if j = f then X j - k else if j = t then X j + k else X j
abbrev zwA (G : zG) (n vq aq : Nat) (V X : Nat → Nat) : va_W := [(vq, .inl (G.2.1, n, .inl (zar n V))), (aq, .inl (G.2.1, n, .inl (zar n X)))]
set_option maxHeartbeats 4000000 in
set_option maxRecDepth 100000 in
theorem s_act_0 (l : Launch) (G : zG) {n : Nat} (hn : n = 2 ∨ n = 3) {V X : Nat → Nat} (ok : zOK V X) (h0 : 0 < n) (vq aq : Nat) : zCr l G yX4_act wsX4_act rm_X4_act 0 0 [.int (nI 0), .ref vq, .ref aq] (zwA G n vq aq V X) (fun _ : Unit => some (.int (nI (zm V X 0)))) (fun _ : Unit => zwA G n vq aq V (zmv V X 0)) := by
  refine z_ofr (cc := cX4_act) (maxL := 7) (ret := (some .int)) (own := RX4) (by decide) rfl rfl (Nat.le_of_ble_eq_true rfl) ?_
  intro p e s m args below meth c A H locs ls F hr hlocks hname hK hA hP hD hS hl
  obtain ⟨hx, hb, hml, hown, hts⟩ := id F
  have hl : lv_has ls 7 [(0, .int (nI 0)), (1, .ref vq), (2, .ref aq)] := hl
  have o := ok 0 (by omega)
  refine lv_aload_n hx hb dX4_act_0 rfl (lv_at hl 2 rfl) ?_
  refine lv_iload_n hx hb dX4_act_1 rfl (lv_at hl 0 rfl) ?_
  refine lv_iconst (v := nI 3) hx hb dX4_act_2 (by decide) ?_
  refine lv_irem hx hb dX4_act_3 (by decide) ?_
  refine zt_top (v := (nI 0)) (by decide) ?_
  refine zr_iald (v := (nI (X 0))) hx hb hK hP 1 rfl (by omega) (by omega) (zar_at (by omega)) dX4_act_4 ?_
  refine lv_istore_n (lv' := [(3, .int (nI (X 0))), (0, .int (nI 0)), (1, .ref vq), (2, .ref aq)]) hx hb dX4_act_5 rfl hl (by decide) rfl (fun ls hl => ?_)
  refine lv_iload_n hx hb dX4_act_6 rfl (lv_at hl 1 rfl) ?_
  refine lv_iconst (v := nI 3) hx hb dX4_act_7 (by decide) ?_
  refine lv_icmp_ge (tgt := 23) hx hb dX4_act_8 (by decide) (fun z => absurd z (show ¬ (nI 3) ≤ (nI 0) from (by decide))) (fun _ => ?_)
  refine lv_aload_n hx hb dX4_act_11 rfl (lv_at hl 3 rfl) ?_
  refine lv_iload_n hx hb dX4_act_12 rfl (lv_at hl 1 rfl) ?_
  refine lv_aload_n hx hb dX4_act_13 rfl (lv_at hl 2 rfl) ?_
  refine lv_iload_n hx hb dX4_act_14 rfl (lv_at hl 1 rfl) ?_
  refine zr_iald (v := (nI (V 0))) hx hb hK hP 0 rfl (by omega) (by omega) (zar_at (by omega)) dX4_act_15 ?_
  refine zr_iast (g := zar n (zmv V X 0)) hx hb hK hP hD hS 1 rfl (by omega) (by omega) (zar_upd (by omega) (fun _ _ => rfl)) dX4_act_16 (fun H locs hP hD hS => ?_)
  have hP : va_P G.1 vwCl (([(vq, .inl (G.2.1, n, .inl (zar n V))), (aq, .inl (G.2.1, n, .inl (zar n (zmv V X 0))))] : va_W)) H := hP
  have hD : va_D A (([(vq, .inl (G.2.1, n, .inl (zar n V))), (aq, .inl (G.2.1, n, .inl (zar n (zmv V X 0))))] : va_W)) := hD
  refine lv_aload_n hx hb dX4_act_17 rfl (lv_at hl 2 rfl) ?_
  refine lv_iload_n hx hb dX4_act_18 rfl (lv_at hl 1 rfl) ?_
  refine zr_iald (v := (nI (V 0))) hx hb hK hP 0 rfl (by omega) (by omega) (zar_at (by omega)) dX4_act_19 ?_
  refine lv_iload_n hx hb dX4_act_20 rfl (lv_at hl 0 rfl) ?_
  refine lv_isub hx hb dX4_act_21 ?_
  refine zt_top (v := (nI ((V 0) - (X 0)))) (pk_sub (o.1)) ?_
  exact zr_iret F hr hlocks hP hD hS () (List.Perm.refl _) rfl dX4_act_22
set_option maxHeartbeats 4000000 in
set_option maxRecDepth 100000 in
theorem s_act_1 (l : Launch) (G : zG) {n : Nat} (hn : n = 2 ∨ n = 3) {V X : Nat → Nat} (ok : zOK V X) (h1 : 1 < n) (vq aq : Nat) : zCr l G yX4_act wsX4_act rm_X4_act 0 0 [.int (nI 1), .ref vq, .ref aq] (zwA G n vq aq V X) (fun _ : Unit => some (.int (nI (zm V X 1)))) (fun _ : Unit => zwA G n vq aq V (zmv V X 1)) := by
  refine z_ofr (cc := cX4_act) (maxL := 7) (ret := (some .int)) (own := RX4) (by decide) rfl rfl (Nat.le_of_ble_eq_true rfl) ?_
  intro p e s m args below meth c A H locs ls F hr hlocks hname hK hA hP hD hS hl
  obtain ⟨hx, hb, hml, hown, hts⟩ := id F
  have hl : lv_has ls 7 [(0, .int (nI 1)), (1, .ref vq), (2, .ref aq)] := hl
  have o := ok 1 (by omega)
  refine lv_aload_n hx hb dX4_act_0 rfl (lv_at hl 2 rfl) ?_
  refine lv_iload_n hx hb dX4_act_1 rfl (lv_at hl 0 rfl) ?_
  refine lv_iconst (v := nI 3) hx hb dX4_act_2 (by decide) ?_
  refine lv_irem hx hb dX4_act_3 (by decide) ?_
  refine zt_top (v := (nI 1)) (by decide) ?_
  refine zr_iald (v := (nI (X 1))) hx hb hK hP 1 rfl (by omega) (by omega) (zar_at (by omega)) dX4_act_4 ?_
  refine lv_istore_n (lv' := [(3, .int (nI (X 1))), (0, .int (nI 1)), (1, .ref vq), (2, .ref aq)]) hx hb dX4_act_5 rfl hl (by decide) rfl (fun ls hl => ?_)
  refine lv_iload_n hx hb dX4_act_6 rfl (lv_at hl 1 rfl) ?_
  refine lv_iconst (v := nI 3) hx hb dX4_act_7 (by decide) ?_
  refine lv_icmp_ge (tgt := 23) hx hb dX4_act_8 (by decide) (fun z => absurd z (show ¬ (nI 3) ≤ (nI 1) from (by decide))) (fun _ => ?_)
  refine lv_aload_n hx hb dX4_act_11 rfl (lv_at hl 3 rfl) ?_
  refine lv_iload_n hx hb dX4_act_12 rfl (lv_at hl 1 rfl) ?_
  refine lv_aload_n hx hb dX4_act_13 rfl (lv_at hl 2 rfl) ?_
  refine lv_iload_n hx hb dX4_act_14 rfl (lv_at hl 1 rfl) ?_
  refine zr_iald (v := (nI (V 1))) hx hb hK hP 0 rfl (by omega) (by omega) (zar_at (by omega)) dX4_act_15 ?_
  refine zr_iast (g := zar n (zmv V X 1)) hx hb hK hP hD hS 1 rfl (by omega) (by omega) (zar_upd (by omega) (fun _ _ => rfl)) dX4_act_16 (fun H locs hP hD hS => ?_)
  have hP : va_P G.1 vwCl (([(vq, .inl (G.2.1, n, .inl (zar n V))), (aq, .inl (G.2.1, n, .inl (zar n (zmv V X 1))))] : va_W)) H := hP
  have hD : va_D A (([(vq, .inl (G.2.1, n, .inl (zar n V))), (aq, .inl (G.2.1, n, .inl (zar n (zmv V X 1))))] : va_W)) := hD
  refine lv_aload_n hx hb dX4_act_17 rfl (lv_at hl 2 rfl) ?_
  refine lv_iload_n hx hb dX4_act_18 rfl (lv_at hl 1 rfl) ?_
  refine zr_iald (v := (nI (V 1))) hx hb hK hP 0 rfl (by omega) (by omega) (zar_at (by omega)) dX4_act_19 ?_
  refine lv_iload_n hx hb dX4_act_20 rfl (lv_at hl 0 rfl) ?_
  refine lv_isub hx hb dX4_act_21 ?_
  refine zt_top (v := (nI ((V 1) - (X 1)))) (pk_sub (o.1)) ?_
  exact zr_iret F hr hlocks hP hD hS () (List.Perm.refl _) rfl dX4_act_22
set_option maxHeartbeats 4000000 in
set_option maxRecDepth 100000 in
theorem s_act_2 (l : Launch) (G : zG) {n : Nat} (hn : n = 2 ∨ n = 3) {V X : Nat → Nat} (ok : zOK V X) (h2 : 2 < n) (vq aq : Nat) : zCr l G yX4_act wsX4_act rm_X4_act 0 0 [.int (nI 2), .ref vq, .ref aq] (zwA G n vq aq V X) (fun _ : Unit => some (.int (nI (zm V X 2)))) (fun _ : Unit => zwA G n vq aq V (zmv V X 2)) := by
  refine z_ofr (cc := cX4_act) (maxL := 7) (ret := (some .int)) (own := RX4) (by decide) rfl rfl (Nat.le_of_ble_eq_true rfl) ?_
  intro p e s m args below meth c A H locs ls F hr hlocks hname hK hA hP hD hS hl
  obtain ⟨hx, hb, hml, hown, hts⟩ := id F
  have hl : lv_has ls 7 [(0, .int (nI 2)), (1, .ref vq), (2, .ref aq)] := hl
  have o := ok 2 (by omega)
  refine lv_aload_n hx hb dX4_act_0 rfl (lv_at hl 2 rfl) ?_
  refine lv_iload_n hx hb dX4_act_1 rfl (lv_at hl 0 rfl) ?_
  refine lv_iconst (v := nI 3) hx hb dX4_act_2 (by decide) ?_
  refine lv_irem hx hb dX4_act_3 (by decide) ?_
  refine zt_top (v := (nI 2)) (by decide) ?_
  refine zr_iald (v := (nI (X 2))) hx hb hK hP 1 rfl (by omega) (by omega) (zar_at (by omega)) dX4_act_4 ?_
  refine lv_istore_n (lv' := [(3, .int (nI (X 2))), (0, .int (nI 2)), (1, .ref vq), (2, .ref aq)]) hx hb dX4_act_5 rfl hl (by decide) rfl (fun ls hl => ?_)
  refine lv_iload_n hx hb dX4_act_6 rfl (lv_at hl 1 rfl) ?_
  refine lv_iconst (v := nI 3) hx hb dX4_act_7 (by decide) ?_
  refine lv_icmp_ge (tgt := 23) hx hb dX4_act_8 (by decide) (fun z => absurd z (show ¬ (nI 3) ≤ (nI 2) from (by decide))) (fun _ => ?_)
  refine lv_aload_n hx hb dX4_act_11 rfl (lv_at hl 3 rfl) ?_
  refine lv_iload_n hx hb dX4_act_12 rfl (lv_at hl 1 rfl) ?_
  refine lv_aload_n hx hb dX4_act_13 rfl (lv_at hl 2 rfl) ?_
  refine lv_iload_n hx hb dX4_act_14 rfl (lv_at hl 1 rfl) ?_
  refine zr_iald (v := (nI (V 2))) hx hb hK hP 0 rfl (by omega) (by omega) (zar_at (by omega)) dX4_act_15 ?_
  refine zr_iast (g := zar n (zmv V X 2)) hx hb hK hP hD hS 1 rfl (by omega) (by omega) (zar_upd (by omega) (fun _ _ => rfl)) dX4_act_16 (fun H locs hP hD hS => ?_)
  have hP : va_P G.1 vwCl (([(vq, .inl (G.2.1, n, .inl (zar n V))), (aq, .inl (G.2.1, n, .inl (zar n (zmv V X 2))))] : va_W)) H := hP
  have hD : va_D A (([(vq, .inl (G.2.1, n, .inl (zar n V))), (aq, .inl (G.2.1, n, .inl (zar n (zmv V X 2))))] : va_W)) := hD
  refine lv_aload_n hx hb dX4_act_17 rfl (lv_at hl 2 rfl) ?_
  refine lv_iload_n hx hb dX4_act_18 rfl (lv_at hl 1 rfl) ?_
  refine zr_iald (v := (nI (V 2))) hx hb hK hP 0 rfl (by omega) (by omega) (zar_at (by omega)) dX4_act_19 ?_
  refine lv_iload_n hx hb dX4_act_20 rfl (lv_at hl 0 rfl) ?_
  refine lv_isub hx hb dX4_act_21 ?_
  refine zt_top (v := (nI ((V 2) - (X 2)))) (pk_sub (o.1)) ?_
  exact zr_iret F hr hlocks hP hD hS () (List.Perm.refl _) rfl dX4_act_22
set_option maxHeartbeats 4000000 in
set_option maxRecDepth 100000 in
theorem s_act_3 (l : Launch) (G : zG) {n : Nat} (hn : n = 2 ∨ n = 3) {V X : Nat → Nat} (ok : zOK V X) (h0 : 0 < n) (vq aq : Nat) : zCr l G yX4_act wsX4_act rm_X4_act 0 0 [.int (nI 3), .ref vq, .ref aq] (zwA G n vq aq V X) (fun _ : Unit => some (.int (nI (zm V X 3)))) (fun _ : Unit => zwA G n vq aq V (zmv V X 3)) := by
  refine z_ofr (cc := cX4_act) (maxL := 7) (ret := (some .int)) (own := RX4) (by decide) rfl rfl (Nat.le_of_ble_eq_true rfl) ?_
  intro p e s m args below meth c A H locs ls F hr hlocks hname hK hA hP hD hS hl
  obtain ⟨hx, hb, hml, hown, hts⟩ := id F
  have hl : lv_has ls 7 [(0, .int (nI 3)), (1, .ref vq), (2, .ref aq)] := hl
  have o := ok 0 (by omega)
  refine lv_aload_n hx hb dX4_act_0 rfl (lv_at hl 2 rfl) ?_
  refine lv_iload_n hx hb dX4_act_1 rfl (lv_at hl 0 rfl) ?_
  refine lv_iconst (v := nI 3) hx hb dX4_act_2 (by decide) ?_
  refine lv_irem hx hb dX4_act_3 (by decide) ?_
  refine zt_top (v := (nI 0)) (by decide) ?_
  refine zr_iald (v := (nI (X 0))) hx hb hK hP 1 rfl (by omega) (by omega) (zar_at (by omega)) dX4_act_4 ?_
  refine lv_istore_n (lv' := [(3, .int (nI (X 0))), (0, .int (nI 3)), (1, .ref vq), (2, .ref aq)]) hx hb dX4_act_5 rfl hl (by decide) rfl (fun ls hl => ?_)
  refine lv_iload_n hx hb dX4_act_6 rfl (lv_at hl 1 rfl) ?_
  refine lv_iconst (v := nI 3) hx hb dX4_act_7 (by decide) ?_
  refine lv_icmp_ge (tgt := 23) hx hb dX4_act_8 (by decide) (fun _ => ?_) (fun z => absurd (show (nI 3) ≤ (nI 3) from (by decide)) z)
  refine lv_iload_n hx hb dX4_act_23 rfl (lv_at hl 1 rfl) ?_
  refine lv_bipush (v := nI 6) hx hb dX4_act_24 (by decide) ?_
  refine lv_icmp_ge (tgt := 37) hx hb dX4_act_26 (by decide) (fun z => absurd z (show ¬ (nI 6) ≤ (nI 3) from (by decide))) (fun _ => ?_)
  refine lv_aload_n hx hb dX4_act_29 rfl (lv_at hl 3 rfl) ?_
  refine lv_iload_n hx hb dX4_act_30 rfl (lv_at hl 1 rfl) ?_
  refine lv_iconst (v := nI 3) hx hb dX4_act_31 (by decide) ?_
  refine lv_isub hx hb dX4_act_32 ?_
  refine zt_top (v := (nI 0)) (pk_sub (by omega)) ?_
  refine lv_iconst (v := nI 0) hx hb dX4_act_33 (by decide) ?_
  refine zr_iast (g := zar n (zmv V X 3)) hx hb hK hP hD hS 1 rfl (by omega) (by omega) (zar_upd (by omega) (fun _ _ => rfl)) dX4_act_34 (fun H locs hP hD hS => ?_)
  have hP : va_P G.1 vwCl (([(vq, .inl (G.2.1, n, .inl (zar n V))), (aq, .inl (G.2.1, n, .inl (zar n (zmv V X 3))))] : va_W)) H := hP
  have hD : va_D A (([(vq, .inl (G.2.1, n, .inl (zar n V))), (aq, .inl (G.2.1, n, .inl (zar n (zmv V X 3))))] : va_W)) := hD
  refine lv_iload_n hx hb dX4_act_35 rfl (lv_at hl 0 rfl) ?_
  exact zr_iret F hr hlocks hP hD hS () (List.Perm.refl _) rfl dX4_act_36
set_option maxHeartbeats 4000000 in
set_option maxRecDepth 100000 in
theorem s_act_4 (l : Launch) (G : zG) {n : Nat} (hn : n = 2 ∨ n = 3) {V X : Nat → Nat} (ok : zOK V X) (h1 : 1 < n) (vq aq : Nat) : zCr l G yX4_act wsX4_act rm_X4_act 0 0 [.int (nI 4), .ref vq, .ref aq] (zwA G n vq aq V X) (fun _ : Unit => some (.int (nI (zm V X 4)))) (fun _ : Unit => zwA G n vq aq V (zmv V X 4)) := by
  refine z_ofr (cc := cX4_act) (maxL := 7) (ret := (some .int)) (own := RX4) (by decide) rfl rfl (Nat.le_of_ble_eq_true rfl) ?_
  intro p e s m args below meth c A H locs ls F hr hlocks hname hK hA hP hD hS hl
  obtain ⟨hx, hb, hml, hown, hts⟩ := id F
  have hl : lv_has ls 7 [(0, .int (nI 4)), (1, .ref vq), (2, .ref aq)] := hl
  have o := ok 1 (by omega)
  refine lv_aload_n hx hb dX4_act_0 rfl (lv_at hl 2 rfl) ?_
  refine lv_iload_n hx hb dX4_act_1 rfl (lv_at hl 0 rfl) ?_
  refine lv_iconst (v := nI 3) hx hb dX4_act_2 (by decide) ?_
  refine lv_irem hx hb dX4_act_3 (by decide) ?_
  refine zt_top (v := (nI 1)) (by decide) ?_
  refine zr_iald (v := (nI (X 1))) hx hb hK hP 1 rfl (by omega) (by omega) (zar_at (by omega)) dX4_act_4 ?_
  refine lv_istore_n (lv' := [(3, .int (nI (X 1))), (0, .int (nI 4)), (1, .ref vq), (2, .ref aq)]) hx hb dX4_act_5 rfl hl (by decide) rfl (fun ls hl => ?_)
  refine lv_iload_n hx hb dX4_act_6 rfl (lv_at hl 1 rfl) ?_
  refine lv_iconst (v := nI 3) hx hb dX4_act_7 (by decide) ?_
  refine lv_icmp_ge (tgt := 23) hx hb dX4_act_8 (by decide) (fun _ => ?_) (fun z => absurd (show (nI 3) ≤ (nI 4) from (by decide)) z)
  refine lv_iload_n hx hb dX4_act_23 rfl (lv_at hl 1 rfl) ?_
  refine lv_bipush (v := nI 6) hx hb dX4_act_24 (by decide) ?_
  refine lv_icmp_ge (tgt := 37) hx hb dX4_act_26 (by decide) (fun z => absurd z (show ¬ (nI 6) ≤ (nI 4) from (by decide))) (fun _ => ?_)
  refine lv_aload_n hx hb dX4_act_29 rfl (lv_at hl 3 rfl) ?_
  refine lv_iload_n hx hb dX4_act_30 rfl (lv_at hl 1 rfl) ?_
  refine lv_iconst (v := nI 3) hx hb dX4_act_31 (by decide) ?_
  refine lv_isub hx hb dX4_act_32 ?_
  refine zt_top (v := (nI 1)) (pk_sub (by omega)) ?_
  refine lv_iconst (v := nI 0) hx hb dX4_act_33 (by decide) ?_
  refine zr_iast (g := zar n (zmv V X 4)) hx hb hK hP hD hS 1 rfl (by omega) (by omega) (zar_upd (by omega) (fun _ _ => rfl)) dX4_act_34 (fun H locs hP hD hS => ?_)
  have hP : va_P G.1 vwCl (([(vq, .inl (G.2.1, n, .inl (zar n V))), (aq, .inl (G.2.1, n, .inl (zar n (zmv V X 4))))] : va_W)) H := hP
  have hD : va_D A (([(vq, .inl (G.2.1, n, .inl (zar n V))), (aq, .inl (G.2.1, n, .inl (zar n (zmv V X 4))))] : va_W)) := hD
  refine lv_iload_n hx hb dX4_act_35 rfl (lv_at hl 0 rfl) ?_
  exact zr_iret F hr hlocks hP hD hS () (List.Perm.refl _) rfl dX4_act_36
set_option maxHeartbeats 4000000 in
set_option maxRecDepth 100000 in
theorem s_act_5 (l : Launch) (G : zG) {n : Nat} (hn : n = 2 ∨ n = 3) {V X : Nat → Nat} (ok : zOK V X) (h2 : 2 < n) (vq aq : Nat) : zCr l G yX4_act wsX4_act rm_X4_act 0 0 [.int (nI 5), .ref vq, .ref aq] (zwA G n vq aq V X) (fun _ : Unit => some (.int (nI (zm V X 5)))) (fun _ : Unit => zwA G n vq aq V (zmv V X 5)) := by
  refine z_ofr (cc := cX4_act) (maxL := 7) (ret := (some .int)) (own := RX4) (by decide) rfl rfl (Nat.le_of_ble_eq_true rfl) ?_
  intro p e s m args below meth c A H locs ls F hr hlocks hname hK hA hP hD hS hl
  obtain ⟨hx, hb, hml, hown, hts⟩ := id F
  have hl : lv_has ls 7 [(0, .int (nI 5)), (1, .ref vq), (2, .ref aq)] := hl
  have o := ok 2 (by omega)
  refine lv_aload_n hx hb dX4_act_0 rfl (lv_at hl 2 rfl) ?_
  refine lv_iload_n hx hb dX4_act_1 rfl (lv_at hl 0 rfl) ?_
  refine lv_iconst (v := nI 3) hx hb dX4_act_2 (by decide) ?_
  refine lv_irem hx hb dX4_act_3 (by decide) ?_
  refine zt_top (v := (nI 2)) (by decide) ?_
  refine zr_iald (v := (nI (X 2))) hx hb hK hP 1 rfl (by omega) (by omega) (zar_at (by omega)) dX4_act_4 ?_
  refine lv_istore_n (lv' := [(3, .int (nI (X 2))), (0, .int (nI 5)), (1, .ref vq), (2, .ref aq)]) hx hb dX4_act_5 rfl hl (by decide) rfl (fun ls hl => ?_)
  refine lv_iload_n hx hb dX4_act_6 rfl (lv_at hl 1 rfl) ?_
  refine lv_iconst (v := nI 3) hx hb dX4_act_7 (by decide) ?_
  refine lv_icmp_ge (tgt := 23) hx hb dX4_act_8 (by decide) (fun _ => ?_) (fun z => absurd (show (nI 3) ≤ (nI 5) from (by decide)) z)
  refine lv_iload_n hx hb dX4_act_23 rfl (lv_at hl 1 rfl) ?_
  refine lv_bipush (v := nI 6) hx hb dX4_act_24 (by decide) ?_
  refine lv_icmp_ge (tgt := 37) hx hb dX4_act_26 (by decide) (fun z => absurd z (show ¬ (nI 6) ≤ (nI 5) from (by decide))) (fun _ => ?_)
  refine lv_aload_n hx hb dX4_act_29 rfl (lv_at hl 3 rfl) ?_
  refine lv_iload_n hx hb dX4_act_30 rfl (lv_at hl 1 rfl) ?_
  refine lv_iconst (v := nI 3) hx hb dX4_act_31 (by decide) ?_
  refine lv_isub hx hb dX4_act_32 ?_
  refine zt_top (v := (nI 2)) (pk_sub (by omega)) ?_
  refine lv_iconst (v := nI 0) hx hb dX4_act_33 (by decide) ?_
  refine zr_iast (g := zar n (zmv V X 5)) hx hb hK hP hD hS 1 rfl (by omega) (by omega) (zar_upd (by omega) (fun _ _ => rfl)) dX4_act_34 (fun H locs hP hD hS => ?_)
  have hP : va_P G.1 vwCl (([(vq, .inl (G.2.1, n, .inl (zar n V))), (aq, .inl (G.2.1, n, .inl (zar n (zmv V X 5))))] : va_W)) H := hP
  have hD : va_D A (([(vq, .inl (G.2.1, n, .inl (zar n V))), (aq, .inl (G.2.1, n, .inl (zar n (zmv V X 5))))] : va_W)) := hD
  refine lv_iload_n hx hb dX4_act_35 rfl (lv_at hl 0 rfl) ?_
  exact zr_iret F hr hlocks hP hD hS () (List.Perm.refl _) rfl dX4_act_36
set_option maxHeartbeats 4000000 in
set_option maxRecDepth 100000 in
theorem s_act_7 (l : Launch) (G : zG) {n : Nat} (hn : n = 2 ∨ n = 3) {V X : Nat → Nat} (ok : zOK V X) (h0 : 0 < n) (h1 : 1 < n) (vq aq : Nat) : zCr l G yX4_act wsX4_act rm_X4_act 0 0 [.int (nI 7), .ref vq, .ref aq] (zwA G n vq aq V X) (fun _ : Unit => some (.int (nI (zm V X 7)))) (fun _ : Unit => zwA G n vq aq V (zmv V X 7)) := by
  refine z_ofr (cc := cX4_act) (maxL := 7) (ret := (some .int)) (own := RX4) (by decide) rfl rfl (Nat.le_of_ble_eq_true rfl) ?_
  intro p e s m args below meth c A H locs ls F hr hlocks hname hK hA hP hD hS hl
  obtain ⟨hx, hb, hml, hown, hts⟩ := id F
  have hl : lv_has ls 7 [(0, .int (nI 7)), (1, .ref vq), (2, .ref aq)] := hl
  have o1 := ok 0 (by omega)
  have o2 := ok 1 (by omega)
  have hM : zm V X 7 = min (X 0) (V 1 - X 1) := rfl
  have loop : ∀ (r k : Nat) (H : Heap) (locs : List Loc) (ls : Array Slot), k + r = zm V X 7 → va_P G.1 vwCl ([(vq, .inl (G.2.1, n, .inl (zar n V))), (aq, .inl (G.2.1, n, .inl (zar n (zYk X 0 1 k))))] : va_W) H → va_D A ([(vq, .inl (G.2.1, n, .inl (zar n V))), (aq, .inl (G.2.1, n, .inl (zar n (zYk X 0 1 k))))] : va_W) → va_S A s.heap H locs → lv_has ls 7 [(6, .int (nI k)), (5, .int (nI 1)), (4, .int (nI 0)), (2, .ref aq), (1, .ref vq)] → W p l e rm_X4_act s m args below meth c H locs 0 0 (MQ below (zQr G (fun _ : Unit => some (.int (nI (zm V X 7)))) (fun _ : Unit => zwA G n vq aq V (zmv V X 7)) A) args s 0 0 A) (F0 m 52 ls []) := by
    intro r
    induction r with
    | zero =>
      intro k H locs ls hk hP hD hS hl
      obtain rfl : k = zm V X 7 := by omega
      by_cases q : X 0 = zm V X 7
      · refine lv_aload_n hx hb dX4_act_52 rfl (lv_at hl 3 rfl) ?_
        refine lv_iload hx hb dX4_act_53 (lv_at hl 2 rfl) ?_
        refine zr_iald (v := (nI (X 0 - zm V X 7))) hx hb hK hP 1 rfl (by omega) (by omega) ((zar_at (by omega)).trans rfl) dX4_act_55 ?_
        refine lv_if_le (tgt := 92) hx hb dX4_act_56 (by decide) (fun _ => ?_) (fun z => absurd (show (nI (X 0 - zm V X 7)) ≤ (nI 0) from (nI_le (by omega) (by omega))) z)
        refine lv_iload hx hb dX4_act_92 (lv_at hl 0 rfl) ?_
        exact zr_iret F hr hlocks hP hD hS () (List.Perm.refl _) rfl dX4_act_94
      · refine lv_aload_n hx hb dX4_act_52 rfl (lv_at hl 3 rfl) ?_
        refine lv_iload hx hb dX4_act_53 (lv_at hl 2 rfl) ?_
        refine zr_iald (v := (nI (X 0 - zm V X 7))) hx hb hK hP 1 rfl (by omega) (by omega) ((zar_at (by omega)).trans rfl) dX4_act_55 ?_
        refine lv_if_le (tgt := 92) hx hb dX4_act_56 (by decide) (fun z => absurd z (show ¬ (nI (X 0 - zm V X 7)) ≤ (nI 0) from (nI_ge (by omega) (by omega)))) (fun _ => ?_)
        refine lv_aload_n hx hb dX4_act_59 rfl (lv_at hl 3 rfl) ?_
        refine lv_iload hx hb dX4_act_60 (lv_at hl 1 rfl) ?_
        refine zr_iald (v := (nI (X 1 + zm V X 7))) hx hb hK hP 1 rfl (by omega) (by omega) ((zar_at (by omega)).trans rfl) dX4_act_62 ?_
        refine lv_aload_n hx hb dX4_act_63 rfl (lv_at hl 4 rfl) ?_
        refine lv_iload hx hb dX4_act_64 (lv_at hl 1 rfl) ?_
        refine zr_iald (v := (nI (V 1))) hx hb hK hP 0 rfl (by omega) (by omega) (zar_at (by omega)) dX4_act_66 ?_
        refine lv_icmp_ge (tgt := 92) hx hb dX4_act_67 (by decide) (fun _ => ?_) (fun z => absurd (show (nI (V 1)) ≤ (nI (X 1 + zm V X 7)) from (nI_le (by omega) (by omega))) z)
        refine lv_iload hx hb dX4_act_92 (lv_at hl 0 rfl) ?_
        exact zr_iret F hr hlocks hP hD hS () (List.Perm.refl _) rfl dX4_act_94
    | succ r ih =>
      intro k H locs ls hk hP hD hS hl
      refine lv_aload_n hx hb dX4_act_52 rfl (lv_at hl 3 rfl) ?_
      refine lv_iload hx hb dX4_act_53 (lv_at hl 2 rfl) ?_
      refine zr_iald (v := (nI (X 0 - k))) hx hb hK hP 1 rfl (by omega) (by omega) ((zar_at (by omega)).trans rfl) dX4_act_55 ?_
      refine lv_if_le (tgt := 92) hx hb dX4_act_56 (by decide) (fun z => absurd z (show ¬ (nI (X 0 - k)) ≤ (nI 0) from (nI_ge (by omega) (by omega)))) (fun _ => ?_)
      refine lv_aload_n hx hb dX4_act_59 rfl (lv_at hl 3 rfl) ?_
      refine lv_iload hx hb dX4_act_60 (lv_at hl 1 rfl) ?_
      refine zr_iald (v := (nI (X 1 + k))) hx hb hK hP 1 rfl (by omega) (by omega) ((zar_at (by omega)).trans rfl) dX4_act_62 ?_
      refine lv_aload_n hx hb dX4_act_63 rfl (lv_at hl 4 rfl) ?_
      refine lv_iload hx hb dX4_act_64 (lv_at hl 1 rfl) ?_
      refine zr_iald (v := (nI (V 1))) hx hb hK hP 0 rfl (by omega) (by omega) (zar_at (by omega)) dX4_act_66 ?_
      refine lv_icmp_ge (tgt := 92) hx hb dX4_act_67 (by decide) (fun z => absurd z (show ¬ (nI (V 1)) ≤ (nI (X 1 + k)) from (nI_ge (by omega) (by omega)))) (fun _ => ?_)
      refine lv_aload_n hx hb dX4_act_70 rfl (lv_at hl 3 rfl) ?_
      refine lv_iload hx hb dX4_act_71 (lv_at hl 2 rfl) ?_
      refine lv_dup2_11 hx hb dX4_act_73 rfl rfl ?_
      refine zr_iald (v := (nI (X 0 - k))) hx hb hK hP 1 rfl (by omega) (by omega) ((zar_at (by omega)).trans rfl) dX4_act_74 ?_
      refine lv_iconst (v := nI 1) hx hb dX4_act_75 (by decide) ?_
      refine lv_isub hx hb dX4_act_76 ?_
      refine zt_top (v := (nI (X 0 - (k + 1)))) ((pk_sub (by omega)).trans (congrArg nI (by omega))) ?_
      refine zr_iast (g := zar n (fun j => if j = 0 then X j - (k + 1) else zYk X 0 1 k j)) hx hb hK hP hD hS 1 rfl (by omega) (by omega) (zar_upd (by omega) (fun i _ => by by_cases z : i = 0 <;> simp [z])) dX4_act_77 (fun H locs hP hD hS => ?_)
      have hP : va_P G.1 vwCl (([(vq, .inl (G.2.1, n, .inl (zar n V))), (aq, .inl (G.2.1, n, .inl (zar n (fun j => if j = 0 then X j - (k + 1) else zYk X 0 1 k j))))] : va_W)) H := hP
      have hD : va_D A (([(vq, .inl (G.2.1, n, .inl (zar n V))), (aq, .inl (G.2.1, n, .inl (zar n (fun j => if j = 0 then X j - (k + 1) else zYk X 0 1 k j))))] : va_W)) := hD
      refine lv_aload_n hx hb dX4_act_78 rfl (lv_at hl 3 rfl) ?_
      refine lv_iload hx hb dX4_act_79 (lv_at hl 1 rfl) ?_
      refine lv_dup2_11 hx hb dX4_act_81 rfl rfl ?_
      refine zr_iald (v := (nI (X 1 + k))) hx hb hK hP 1 rfl (by omega) (by omega) ((zar_at (by omega)).trans rfl) dX4_act_82 ?_
      refine lv_iconst (v := nI 1) hx hb dX4_act_83 (by decide) ?_
      refine lv_iadd hx hb dX4_act_84 ?_
      refine zt_top (v := (nI (X 1 + (k + 1)))) ((nI_add (X 1 + k) 1).trans (congrArg nI (by omega))) ?_
      refine zr_iast (g := zar n (zYk X 0 1 (k + 1))) hx hb hK hP hD hS 1 rfl (by omega) (by omega) (zar_upd (by omega) (fun i _ => by unfold zYk; by_cases z : i = 0 <;> by_cases y : i = 1 <;> simp [z, y] <;> omega)) dX4_act_85 (fun H locs hP hD hS => ?_)
      have hP : va_P G.1 vwCl (([(vq, .inl (G.2.1, n, .inl (zar n V))), (aq, .inl (G.2.1, n, .inl (zar n (zYk X 0 1 (k + 1)))))] : va_W)) H := hP
      have hD : va_D A (([(vq, .inl (G.2.1, n, .inl (zar n V))), (aq, .inl (G.2.1, n, .inl (zar n (zYk X 0 1 (k + 1)))))] : va_W)) := hD
      refine lv_iinc (v := (nI (k + 1))) (lv' := [(6, .int (nI (k + 1))), (5, .int (nI 1)), (4, .int (nI 0)), (2, .ref aq), (1, .ref vq)]) hx hb dX4_act_86 hl (k := 0) rfl (nI_1 k) (by decide) rfl (fun ls hl => ?_)
      refine lv_goto (tgt := 52) hx hb dX4_act_89 (by decide) ?_
      exact ih (k + 1) H locs ls (by omega) hP hD hS (lv_sub hl [0, 1, 2, 3, 4] rfl)
  refine lv_aload_n hx hb dX4_act_0 rfl (lv_at hl 2 rfl) ?_
  refine lv_iload_n hx hb dX4_act_1 rfl (lv_at hl 0 rfl) ?_
  refine lv_iconst (v := nI 3) hx hb dX4_act_2 (by decide) ?_
  refine lv_irem hx hb dX4_act_3 (by decide) ?_
  refine zt_top (v := (nI 1)) (by decide) ?_
  refine zr_iald (v := (nI (X 1))) hx hb hK hP 1 rfl (by omega) (by omega) (zar_at (by omega)) dX4_act_4 ?_
  refine lv_istore_n (lv' := [(3, .int (nI (X 1))), (0, .int (nI 7)), (1, .ref vq), (2, .ref aq)]) hx hb dX4_act_5 rfl hl (by decide) rfl (fun ls hl => ?_)
  refine lv_iload_n hx hb dX4_act_6 rfl (lv_at hl 1 rfl) ?_
  refine lv_iconst (v := nI 3) hx hb dX4_act_7 (by decide) ?_
  refine lv_icmp_ge (tgt := 23) hx hb dX4_act_8 (by decide) (fun _ => ?_) (fun z => absurd (show (nI 3) ≤ (nI 7) from (by decide)) z)
  refine lv_iload_n hx hb dX4_act_23 rfl (lv_at hl 1 rfl) ?_
  refine lv_bipush (v := nI 6) hx hb dX4_act_24 (by decide) ?_
  refine lv_icmp_ge (tgt := 37) hx hb dX4_act_26 (by decide) (fun _ => ?_) (fun z => absurd (show (nI 6) ≤ (nI 7) from (by decide)) z)
  refine lv_iload_n hx hb dX4_act_37 rfl (lv_at hl 1 rfl) ?_
  refine lv_iconst (v := nI 3) hx hb dX4_act_38 (by decide) ?_
  refine lv_idiv hx hb dX4_act_39 (by decide) ?_
  refine zt_top (v := (nI 2)) (by decide) ?_
  refine lv_iconst (v := nI 2) hx hb dX4_act_40 (by decide) ?_
  refine lv_isub hx hb dX4_act_41 ?_
  refine zt_top (v := (nI 0)) (pk_sub (by omega)) ?_
  refine lv_istore (lv' := [(4, .int (nI 0)), (3, .int (nI (X 1))), (0, .int (nI 7)), (1, .ref vq), (2, .ref aq)]) hx hb dX4_act_42 hl (by decide) rfl (fun ls hl => ?_)
  refine lv_iload_n hx hb dX4_act_44 rfl (lv_at hl 2 rfl) ?_
  refine lv_iconst (v := nI 3) hx hb dX4_act_45 (by decide) ?_
  refine lv_irem hx hb dX4_act_46 (by decide) ?_
  refine zt_top (v := (nI 1)) (by decide) ?_
  refine lv_istore (lv' := [(5, .int (nI 1)), (4, .int (nI 0)), (3, .int (nI (X 1))), (0, .int (nI 7)), (1, .ref vq), (2, .ref aq)]) hx hb dX4_act_47 hl (by decide) rfl (fun ls hl => ?_)
  refine lv_iconst (v := nI 0) hx hb dX4_act_49 (by decide) ?_
  refine lv_istore (lv' := [(6, .int (nI 0)), (5, .int (nI 1)), (4, .int (nI 0)), (3, .int (nI (X 1))), (0, .int (nI 7)), (1, .ref vq), (2, .ref aq)]) hx hb dX4_act_50 hl (by decide) rfl (fun ls hl => ?_)
  have eY : zar n X = zar n (zYk X 0 1 0) := zar_congr (fun j _ => by unfold zYk; split <;> simp)
  have hP : va_P G.1 vwCl (([(vq, .inl (G.2.1, n, .inl (zar n V))), (aq, .inl (G.2.1, n, .inl (zar n X)))] : va_W)) H := hP
  have hD : va_D A (([(vq, .inl (G.2.1, n, .inl (zar n V))), (aq, .inl (G.2.1, n, .inl (zar n X)))] : va_W)) := hD
  rw [eY] at hP hD
  exact loop (zm V X 7) 0 H locs ls (by omega) hP hD hS (lv_sub hl [0, 1, 2, 6, 5] rfl)
set_option maxHeartbeats 4000000 in
set_option maxRecDepth 100000 in
theorem s_act_8 (l : Launch) (G : zG) {n : Nat} (hn : n = 2 ∨ n = 3) {V X : Nat → Nat} (ok : zOK V X) (h0 : 0 < n) (h2 : 2 < n) (vq aq : Nat) : zCr l G yX4_act wsX4_act rm_X4_act 0 0 [.int (nI 8), .ref vq, .ref aq] (zwA G n vq aq V X) (fun _ : Unit => some (.int (nI (zm V X 8)))) (fun _ : Unit => zwA G n vq aq V (zmv V X 8)) := by
  refine z_ofr (cc := cX4_act) (maxL := 7) (ret := (some .int)) (own := RX4) (by decide) rfl rfl (Nat.le_of_ble_eq_true rfl) ?_
  intro p e s m args below meth c A H locs ls F hr hlocks hname hK hA hP hD hS hl
  obtain ⟨hx, hb, hml, hown, hts⟩ := id F
  have hl : lv_has ls 7 [(0, .int (nI 8)), (1, .ref vq), (2, .ref aq)] := hl
  have o1 := ok 0 (by omega)
  have o2 := ok 2 (by omega)
  have hM : zm V X 8 = min (X 0) (V 2 - X 2) := rfl
  have loop : ∀ (r k : Nat) (H : Heap) (locs : List Loc) (ls : Array Slot), k + r = zm V X 8 → va_P G.1 vwCl ([(vq, .inl (G.2.1, n, .inl (zar n V))), (aq, .inl (G.2.1, n, .inl (zar n (zYk X 0 2 k))))] : va_W) H → va_D A ([(vq, .inl (G.2.1, n, .inl (zar n V))), (aq, .inl (G.2.1, n, .inl (zar n (zYk X 0 2 k))))] : va_W) → va_S A s.heap H locs → lv_has ls 7 [(6, .int (nI k)), (5, .int (nI 2)), (4, .int (nI 0)), (2, .ref aq), (1, .ref vq)] → W p l e rm_X4_act s m args below meth c H locs 0 0 (MQ below (zQr G (fun _ : Unit => some (.int (nI (zm V X 8)))) (fun _ : Unit => zwA G n vq aq V (zmv V X 8)) A) args s 0 0 A) (F0 m 52 ls []) := by
    intro r
    induction r with
    | zero =>
      intro k H locs ls hk hP hD hS hl
      obtain rfl : k = zm V X 8 := by omega
      by_cases q : X 0 = zm V X 8
      · refine lv_aload_n hx hb dX4_act_52 rfl (lv_at hl 3 rfl) ?_
        refine lv_iload hx hb dX4_act_53 (lv_at hl 2 rfl) ?_
        refine zr_iald (v := (nI (X 0 - zm V X 8))) hx hb hK hP 1 rfl (by omega) (by omega) ((zar_at (by omega)).trans rfl) dX4_act_55 ?_
        refine lv_if_le (tgt := 92) hx hb dX4_act_56 (by decide) (fun _ => ?_) (fun z => absurd (show (nI (X 0 - zm V X 8)) ≤ (nI 0) from (nI_le (by omega) (by omega))) z)
        refine lv_iload hx hb dX4_act_92 (lv_at hl 0 rfl) ?_
        exact zr_iret F hr hlocks hP hD hS () (List.Perm.refl _) rfl dX4_act_94
      · refine lv_aload_n hx hb dX4_act_52 rfl (lv_at hl 3 rfl) ?_
        refine lv_iload hx hb dX4_act_53 (lv_at hl 2 rfl) ?_
        refine zr_iald (v := (nI (X 0 - zm V X 8))) hx hb hK hP 1 rfl (by omega) (by omega) ((zar_at (by omega)).trans rfl) dX4_act_55 ?_
        refine lv_if_le (tgt := 92) hx hb dX4_act_56 (by decide) (fun z => absurd z (show ¬ (nI (X 0 - zm V X 8)) ≤ (nI 0) from (nI_ge (by omega) (by omega)))) (fun _ => ?_)
        refine lv_aload_n hx hb dX4_act_59 rfl (lv_at hl 3 rfl) ?_
        refine lv_iload hx hb dX4_act_60 (lv_at hl 1 rfl) ?_
        refine zr_iald (v := (nI (X 2 + zm V X 8))) hx hb hK hP 1 rfl (by omega) (by omega) ((zar_at (by omega)).trans rfl) dX4_act_62 ?_
        refine lv_aload_n hx hb dX4_act_63 rfl (lv_at hl 4 rfl) ?_
        refine lv_iload hx hb dX4_act_64 (lv_at hl 1 rfl) ?_
        refine zr_iald (v := (nI (V 2))) hx hb hK hP 0 rfl (by omega) (by omega) (zar_at (by omega)) dX4_act_66 ?_
        refine lv_icmp_ge (tgt := 92) hx hb dX4_act_67 (by decide) (fun _ => ?_) (fun z => absurd (show (nI (V 2)) ≤ (nI (X 2 + zm V X 8)) from (nI_le (by omega) (by omega))) z)
        refine lv_iload hx hb dX4_act_92 (lv_at hl 0 rfl) ?_
        exact zr_iret F hr hlocks hP hD hS () (List.Perm.refl _) rfl dX4_act_94
    | succ r ih =>
      intro k H locs ls hk hP hD hS hl
      refine lv_aload_n hx hb dX4_act_52 rfl (lv_at hl 3 rfl) ?_
      refine lv_iload hx hb dX4_act_53 (lv_at hl 2 rfl) ?_
      refine zr_iald (v := (nI (X 0 - k))) hx hb hK hP 1 rfl (by omega) (by omega) ((zar_at (by omega)).trans rfl) dX4_act_55 ?_
      refine lv_if_le (tgt := 92) hx hb dX4_act_56 (by decide) (fun z => absurd z (show ¬ (nI (X 0 - k)) ≤ (nI 0) from (nI_ge (by omega) (by omega)))) (fun _ => ?_)
      refine lv_aload_n hx hb dX4_act_59 rfl (lv_at hl 3 rfl) ?_
      refine lv_iload hx hb dX4_act_60 (lv_at hl 1 rfl) ?_
      refine zr_iald (v := (nI (X 2 + k))) hx hb hK hP 1 rfl (by omega) (by omega) ((zar_at (by omega)).trans rfl) dX4_act_62 ?_
      refine lv_aload_n hx hb dX4_act_63 rfl (lv_at hl 4 rfl) ?_
      refine lv_iload hx hb dX4_act_64 (lv_at hl 1 rfl) ?_
      refine zr_iald (v := (nI (V 2))) hx hb hK hP 0 rfl (by omega) (by omega) (zar_at (by omega)) dX4_act_66 ?_
      refine lv_icmp_ge (tgt := 92) hx hb dX4_act_67 (by decide) (fun z => absurd z (show ¬ (nI (V 2)) ≤ (nI (X 2 + k)) from (nI_ge (by omega) (by omega)))) (fun _ => ?_)
      refine lv_aload_n hx hb dX4_act_70 rfl (lv_at hl 3 rfl) ?_
      refine lv_iload hx hb dX4_act_71 (lv_at hl 2 rfl) ?_
      refine lv_dup2_11 hx hb dX4_act_73 rfl rfl ?_
      refine zr_iald (v := (nI (X 0 - k))) hx hb hK hP 1 rfl (by omega) (by omega) ((zar_at (by omega)).trans rfl) dX4_act_74 ?_
      refine lv_iconst (v := nI 1) hx hb dX4_act_75 (by decide) ?_
      refine lv_isub hx hb dX4_act_76 ?_
      refine zt_top (v := (nI (X 0 - (k + 1)))) ((pk_sub (by omega)).trans (congrArg nI (by omega))) ?_
      refine zr_iast (g := zar n (fun j => if j = 0 then X j - (k + 1) else zYk X 0 2 k j)) hx hb hK hP hD hS 1 rfl (by omega) (by omega) (zar_upd (by omega) (fun i _ => by by_cases z : i = 0 <;> simp [z])) dX4_act_77 (fun H locs hP hD hS => ?_)
      have hP : va_P G.1 vwCl (([(vq, .inl (G.2.1, n, .inl (zar n V))), (aq, .inl (G.2.1, n, .inl (zar n (fun j => if j = 0 then X j - (k + 1) else zYk X 0 2 k j))))] : va_W)) H := hP
      have hD : va_D A (([(vq, .inl (G.2.1, n, .inl (zar n V))), (aq, .inl (G.2.1, n, .inl (zar n (fun j => if j = 0 then X j - (k + 1) else zYk X 0 2 k j))))] : va_W)) := hD
      refine lv_aload_n hx hb dX4_act_78 rfl (lv_at hl 3 rfl) ?_
      refine lv_iload hx hb dX4_act_79 (lv_at hl 1 rfl) ?_
      refine lv_dup2_11 hx hb dX4_act_81 rfl rfl ?_
      refine zr_iald (v := (nI (X 2 + k))) hx hb hK hP 1 rfl (by omega) (by omega) ((zar_at (by omega)).trans rfl) dX4_act_82 ?_
      refine lv_iconst (v := nI 1) hx hb dX4_act_83 (by decide) ?_
      refine lv_iadd hx hb dX4_act_84 ?_
      refine zt_top (v := (nI (X 2 + (k + 1)))) ((nI_add (X 2 + k) 1).trans (congrArg nI (by omega))) ?_
      refine zr_iast (g := zar n (zYk X 0 2 (k + 1))) hx hb hK hP hD hS 1 rfl (by omega) (by omega) (zar_upd (by omega) (fun i _ => by unfold zYk; by_cases z : i = 0 <;> by_cases y : i = 2 <;> simp [z, y] <;> omega)) dX4_act_85 (fun H locs hP hD hS => ?_)
      have hP : va_P G.1 vwCl (([(vq, .inl (G.2.1, n, .inl (zar n V))), (aq, .inl (G.2.1, n, .inl (zar n (zYk X 0 2 (k + 1)))))] : va_W)) H := hP
      have hD : va_D A (([(vq, .inl (G.2.1, n, .inl (zar n V))), (aq, .inl (G.2.1, n, .inl (zar n (zYk X 0 2 (k + 1)))))] : va_W)) := hD
      refine lv_iinc (v := (nI (k + 1))) (lv' := [(6, .int (nI (k + 1))), (5, .int (nI 2)), (4, .int (nI 0)), (2, .ref aq), (1, .ref vq)]) hx hb dX4_act_86 hl (k := 0) rfl (nI_1 k) (by decide) rfl (fun ls hl => ?_)
      refine lv_goto (tgt := 52) hx hb dX4_act_89 (by decide) ?_
      exact ih (k + 1) H locs ls (by omega) hP hD hS (lv_sub hl [0, 1, 2, 3, 4] rfl)
  refine lv_aload_n hx hb dX4_act_0 rfl (lv_at hl 2 rfl) ?_
  refine lv_iload_n hx hb dX4_act_1 rfl (lv_at hl 0 rfl) ?_
  refine lv_iconst (v := nI 3) hx hb dX4_act_2 (by decide) ?_
  refine lv_irem hx hb dX4_act_3 (by decide) ?_
  refine zt_top (v := (nI 2)) (by decide) ?_
  refine zr_iald (v := (nI (X 2))) hx hb hK hP 1 rfl (by omega) (by omega) (zar_at (by omega)) dX4_act_4 ?_
  refine lv_istore_n (lv' := [(3, .int (nI (X 2))), (0, .int (nI 8)), (1, .ref vq), (2, .ref aq)]) hx hb dX4_act_5 rfl hl (by decide) rfl (fun ls hl => ?_)
  refine lv_iload_n hx hb dX4_act_6 rfl (lv_at hl 1 rfl) ?_
  refine lv_iconst (v := nI 3) hx hb dX4_act_7 (by decide) ?_
  refine lv_icmp_ge (tgt := 23) hx hb dX4_act_8 (by decide) (fun _ => ?_) (fun z => absurd (show (nI 3) ≤ (nI 8) from (by decide)) z)
  refine lv_iload_n hx hb dX4_act_23 rfl (lv_at hl 1 rfl) ?_
  refine lv_bipush (v := nI 6) hx hb dX4_act_24 (by decide) ?_
  refine lv_icmp_ge (tgt := 37) hx hb dX4_act_26 (by decide) (fun _ => ?_) (fun z => absurd (show (nI 6) ≤ (nI 8) from (by decide)) z)
  refine lv_iload_n hx hb dX4_act_37 rfl (lv_at hl 1 rfl) ?_
  refine lv_iconst (v := nI 3) hx hb dX4_act_38 (by decide) ?_
  refine lv_idiv hx hb dX4_act_39 (by decide) ?_
  refine zt_top (v := (nI 2)) (by decide) ?_
  refine lv_iconst (v := nI 2) hx hb dX4_act_40 (by decide) ?_
  refine lv_isub hx hb dX4_act_41 ?_
  refine zt_top (v := (nI 0)) (pk_sub (by omega)) ?_
  refine lv_istore (lv' := [(4, .int (nI 0)), (3, .int (nI (X 2))), (0, .int (nI 8)), (1, .ref vq), (2, .ref aq)]) hx hb dX4_act_42 hl (by decide) rfl (fun ls hl => ?_)
  refine lv_iload_n hx hb dX4_act_44 rfl (lv_at hl 2 rfl) ?_
  refine lv_iconst (v := nI 3) hx hb dX4_act_45 (by decide) ?_
  refine lv_irem hx hb dX4_act_46 (by decide) ?_
  refine zt_top (v := (nI 2)) (by decide) ?_
  refine lv_istore (lv' := [(5, .int (nI 2)), (4, .int (nI 0)), (3, .int (nI (X 2))), (0, .int (nI 8)), (1, .ref vq), (2, .ref aq)]) hx hb dX4_act_47 hl (by decide) rfl (fun ls hl => ?_)
  refine lv_iconst (v := nI 0) hx hb dX4_act_49 (by decide) ?_
  refine lv_istore (lv' := [(6, .int (nI 0)), (5, .int (nI 2)), (4, .int (nI 0)), (3, .int (nI (X 2))), (0, .int (nI 8)), (1, .ref vq), (2, .ref aq)]) hx hb dX4_act_50 hl (by decide) rfl (fun ls hl => ?_)
  have eY : zar n X = zar n (zYk X 0 2 0) := zar_congr (fun j _ => by unfold zYk; split <;> simp)
  have hP : va_P G.1 vwCl (([(vq, .inl (G.2.1, n, .inl (zar n V))), (aq, .inl (G.2.1, n, .inl (zar n X)))] : va_W)) H := hP
  have hD : va_D A (([(vq, .inl (G.2.1, n, .inl (zar n V))), (aq, .inl (G.2.1, n, .inl (zar n X)))] : va_W)) := hD
  rw [eY] at hP hD
  exact loop (zm V X 8) 0 H locs ls (by omega) hP hD hS (lv_sub hl [0, 1, 2, 6, 5] rfl)
set_option maxHeartbeats 4000000 in
set_option maxRecDepth 100000 in
theorem s_act_9 (l : Launch) (G : zG) {n : Nat} (hn : n = 2 ∨ n = 3) {V X : Nat → Nat} (ok : zOK V X) (h0 : 0 < n) (h1 : 1 < n) (vq aq : Nat) : zCr l G yX4_act wsX4_act rm_X4_act 0 0 [.int (nI 9), .ref vq, .ref aq] (zwA G n vq aq V X) (fun _ : Unit => some (.int (nI (zm V X 9)))) (fun _ : Unit => zwA G n vq aq V (zmv V X 9)) := by
  refine z_ofr (cc := cX4_act) (maxL := 7) (ret := (some .int)) (own := RX4) (by decide) rfl rfl (Nat.le_of_ble_eq_true rfl) ?_
  intro p e s m args below meth c A H locs ls F hr hlocks hname hK hA hP hD hS hl
  obtain ⟨hx, hb, hml, hown, hts⟩ := id F
  have hl : lv_has ls 7 [(0, .int (nI 9)), (1, .ref vq), (2, .ref aq)] := hl
  have o1 := ok 1 (by omega)
  have o2 := ok 0 (by omega)
  have hM : zm V X 9 = min (X 1) (V 0 - X 0) := rfl
  have loop : ∀ (r k : Nat) (H : Heap) (locs : List Loc) (ls : Array Slot), k + r = zm V X 9 → va_P G.1 vwCl ([(vq, .inl (G.2.1, n, .inl (zar n V))), (aq, .inl (G.2.1, n, .inl (zar n (zYk X 1 0 k))))] : va_W) H → va_D A ([(vq, .inl (G.2.1, n, .inl (zar n V))), (aq, .inl (G.2.1, n, .inl (zar n (zYk X 1 0 k))))] : va_W) → va_S A s.heap H locs → lv_has ls 7 [(6, .int (nI k)), (5, .int (nI 0)), (4, .int (nI 1)), (2, .ref aq), (1, .ref vq)] → W p l e rm_X4_act s m args below meth c H locs 0 0 (MQ below (zQr G (fun _ : Unit => some (.int (nI (zm V X 9)))) (fun _ : Unit => zwA G n vq aq V (zmv V X 9)) A) args s 0 0 A) (F0 m 52 ls []) := by
    intro r
    induction r with
    | zero =>
      intro k H locs ls hk hP hD hS hl
      obtain rfl : k = zm V X 9 := by omega
      by_cases q : X 1 = zm V X 9
      · refine lv_aload_n hx hb dX4_act_52 rfl (lv_at hl 3 rfl) ?_
        refine lv_iload hx hb dX4_act_53 (lv_at hl 2 rfl) ?_
        refine zr_iald (v := (nI (X 1 - zm V X 9))) hx hb hK hP 1 rfl (by omega) (by omega) ((zar_at (by omega)).trans rfl) dX4_act_55 ?_
        refine lv_if_le (tgt := 92) hx hb dX4_act_56 (by decide) (fun _ => ?_) (fun z => absurd (show (nI (X 1 - zm V X 9)) ≤ (nI 0) from (nI_le (by omega) (by omega))) z)
        refine lv_iload hx hb dX4_act_92 (lv_at hl 0 rfl) ?_
        exact zr_iret F hr hlocks hP hD hS () (List.Perm.refl _) rfl dX4_act_94
      · refine lv_aload_n hx hb dX4_act_52 rfl (lv_at hl 3 rfl) ?_
        refine lv_iload hx hb dX4_act_53 (lv_at hl 2 rfl) ?_
        refine zr_iald (v := (nI (X 1 - zm V X 9))) hx hb hK hP 1 rfl (by omega) (by omega) ((zar_at (by omega)).trans rfl) dX4_act_55 ?_
        refine lv_if_le (tgt := 92) hx hb dX4_act_56 (by decide) (fun z => absurd z (show ¬ (nI (X 1 - zm V X 9)) ≤ (nI 0) from (nI_ge (by omega) (by omega)))) (fun _ => ?_)
        refine lv_aload_n hx hb dX4_act_59 rfl (lv_at hl 3 rfl) ?_
        refine lv_iload hx hb dX4_act_60 (lv_at hl 1 rfl) ?_
        refine zr_iald (v := (nI (X 0 + zm V X 9))) hx hb hK hP 1 rfl (by omega) (by omega) ((zar_at (by omega)).trans rfl) dX4_act_62 ?_
        refine lv_aload_n hx hb dX4_act_63 rfl (lv_at hl 4 rfl) ?_
        refine lv_iload hx hb dX4_act_64 (lv_at hl 1 rfl) ?_
        refine zr_iald (v := (nI (V 0))) hx hb hK hP 0 rfl (by omega) (by omega) (zar_at (by omega)) dX4_act_66 ?_
        refine lv_icmp_ge (tgt := 92) hx hb dX4_act_67 (by decide) (fun _ => ?_) (fun z => absurd (show (nI (V 0)) ≤ (nI (X 0 + zm V X 9)) from (nI_le (by omega) (by omega))) z)
        refine lv_iload hx hb dX4_act_92 (lv_at hl 0 rfl) ?_
        exact zr_iret F hr hlocks hP hD hS () (List.Perm.refl _) rfl dX4_act_94
    | succ r ih =>
      intro k H locs ls hk hP hD hS hl
      refine lv_aload_n hx hb dX4_act_52 rfl (lv_at hl 3 rfl) ?_
      refine lv_iload hx hb dX4_act_53 (lv_at hl 2 rfl) ?_
      refine zr_iald (v := (nI (X 1 - k))) hx hb hK hP 1 rfl (by omega) (by omega) ((zar_at (by omega)).trans rfl) dX4_act_55 ?_
      refine lv_if_le (tgt := 92) hx hb dX4_act_56 (by decide) (fun z => absurd z (show ¬ (nI (X 1 - k)) ≤ (nI 0) from (nI_ge (by omega) (by omega)))) (fun _ => ?_)
      refine lv_aload_n hx hb dX4_act_59 rfl (lv_at hl 3 rfl) ?_
      refine lv_iload hx hb dX4_act_60 (lv_at hl 1 rfl) ?_
      refine zr_iald (v := (nI (X 0 + k))) hx hb hK hP 1 rfl (by omega) (by omega) ((zar_at (by omega)).trans rfl) dX4_act_62 ?_
      refine lv_aload_n hx hb dX4_act_63 rfl (lv_at hl 4 rfl) ?_
      refine lv_iload hx hb dX4_act_64 (lv_at hl 1 rfl) ?_
      refine zr_iald (v := (nI (V 0))) hx hb hK hP 0 rfl (by omega) (by omega) (zar_at (by omega)) dX4_act_66 ?_
      refine lv_icmp_ge (tgt := 92) hx hb dX4_act_67 (by decide) (fun z => absurd z (show ¬ (nI (V 0)) ≤ (nI (X 0 + k)) from (nI_ge (by omega) (by omega)))) (fun _ => ?_)
      refine lv_aload_n hx hb dX4_act_70 rfl (lv_at hl 3 rfl) ?_
      refine lv_iload hx hb dX4_act_71 (lv_at hl 2 rfl) ?_
      refine lv_dup2_11 hx hb dX4_act_73 rfl rfl ?_
      refine zr_iald (v := (nI (X 1 - k))) hx hb hK hP 1 rfl (by omega) (by omega) ((zar_at (by omega)).trans rfl) dX4_act_74 ?_
      refine lv_iconst (v := nI 1) hx hb dX4_act_75 (by decide) ?_
      refine lv_isub hx hb dX4_act_76 ?_
      refine zt_top (v := (nI (X 1 - (k + 1)))) ((pk_sub (by omega)).trans (congrArg nI (by omega))) ?_
      refine zr_iast (g := zar n (fun j => if j = 1 then X j - (k + 1) else zYk X 1 0 k j)) hx hb hK hP hD hS 1 rfl (by omega) (by omega) (zar_upd (by omega) (fun i _ => by by_cases z : i = 1 <;> simp [z])) dX4_act_77 (fun H locs hP hD hS => ?_)
      have hP : va_P G.1 vwCl (([(vq, .inl (G.2.1, n, .inl (zar n V))), (aq, .inl (G.2.1, n, .inl (zar n (fun j => if j = 1 then X j - (k + 1) else zYk X 1 0 k j))))] : va_W)) H := hP
      have hD : va_D A (([(vq, .inl (G.2.1, n, .inl (zar n V))), (aq, .inl (G.2.1, n, .inl (zar n (fun j => if j = 1 then X j - (k + 1) else zYk X 1 0 k j))))] : va_W)) := hD
      refine lv_aload_n hx hb dX4_act_78 rfl (lv_at hl 3 rfl) ?_
      refine lv_iload hx hb dX4_act_79 (lv_at hl 1 rfl) ?_
      refine lv_dup2_11 hx hb dX4_act_81 rfl rfl ?_
      refine zr_iald (v := (nI (X 0 + k))) hx hb hK hP 1 rfl (by omega) (by omega) ((zar_at (by omega)).trans rfl) dX4_act_82 ?_
      refine lv_iconst (v := nI 1) hx hb dX4_act_83 (by decide) ?_
      refine lv_iadd hx hb dX4_act_84 ?_
      refine zt_top (v := (nI (X 0 + (k + 1)))) ((nI_add (X 0 + k) 1).trans (congrArg nI (by omega))) ?_
      refine zr_iast (g := zar n (zYk X 1 0 (k + 1))) hx hb hK hP hD hS 1 rfl (by omega) (by omega) (zar_upd (by omega) (fun i _ => by unfold zYk; by_cases z : i = 1 <;> by_cases y : i = 0 <;> simp [z, y] <;> omega)) dX4_act_85 (fun H locs hP hD hS => ?_)
      have hP : va_P G.1 vwCl (([(vq, .inl (G.2.1, n, .inl (zar n V))), (aq, .inl (G.2.1, n, .inl (zar n (zYk X 1 0 (k + 1)))))] : va_W)) H := hP
      have hD : va_D A (([(vq, .inl (G.2.1, n, .inl (zar n V))), (aq, .inl (G.2.1, n, .inl (zar n (zYk X 1 0 (k + 1)))))] : va_W)) := hD
      refine lv_iinc (v := (nI (k + 1))) (lv' := [(6, .int (nI (k + 1))), (5, .int (nI 0)), (4, .int (nI 1)), (2, .ref aq), (1, .ref vq)]) hx hb dX4_act_86 hl (k := 0) rfl (nI_1 k) (by decide) rfl (fun ls hl => ?_)
      refine lv_goto (tgt := 52) hx hb dX4_act_89 (by decide) ?_
      exact ih (k + 1) H locs ls (by omega) hP hD hS (lv_sub hl [0, 1, 2, 3, 4] rfl)
  refine lv_aload_n hx hb dX4_act_0 rfl (lv_at hl 2 rfl) ?_
  refine lv_iload_n hx hb dX4_act_1 rfl (lv_at hl 0 rfl) ?_
  refine lv_iconst (v := nI 3) hx hb dX4_act_2 (by decide) ?_
  refine lv_irem hx hb dX4_act_3 (by decide) ?_
  refine zt_top (v := (nI 0)) (by decide) ?_
  refine zr_iald (v := (nI (X 0))) hx hb hK hP 1 rfl (by omega) (by omega) (zar_at (by omega)) dX4_act_4 ?_
  refine lv_istore_n (lv' := [(3, .int (nI (X 0))), (0, .int (nI 9)), (1, .ref vq), (2, .ref aq)]) hx hb dX4_act_5 rfl hl (by decide) rfl (fun ls hl => ?_)
  refine lv_iload_n hx hb dX4_act_6 rfl (lv_at hl 1 rfl) ?_
  refine lv_iconst (v := nI 3) hx hb dX4_act_7 (by decide) ?_
  refine lv_icmp_ge (tgt := 23) hx hb dX4_act_8 (by decide) (fun _ => ?_) (fun z => absurd (show (nI 3) ≤ (nI 9) from (by decide)) z)
  refine lv_iload_n hx hb dX4_act_23 rfl (lv_at hl 1 rfl) ?_
  refine lv_bipush (v := nI 6) hx hb dX4_act_24 (by decide) ?_
  refine lv_icmp_ge (tgt := 37) hx hb dX4_act_26 (by decide) (fun _ => ?_) (fun z => absurd (show (nI 6) ≤ (nI 9) from (by decide)) z)
  refine lv_iload_n hx hb dX4_act_37 rfl (lv_at hl 1 rfl) ?_
  refine lv_iconst (v := nI 3) hx hb dX4_act_38 (by decide) ?_
  refine lv_idiv hx hb dX4_act_39 (by decide) ?_
  refine zt_top (v := (nI 3)) (by decide) ?_
  refine lv_iconst (v := nI 2) hx hb dX4_act_40 (by decide) ?_
  refine lv_isub hx hb dX4_act_41 ?_
  refine zt_top (v := (nI 1)) (pk_sub (by omega)) ?_
  refine lv_istore (lv' := [(4, .int (nI 1)), (3, .int (nI (X 0))), (0, .int (nI 9)), (1, .ref vq), (2, .ref aq)]) hx hb dX4_act_42 hl (by decide) rfl (fun ls hl => ?_)
  refine lv_iload_n hx hb dX4_act_44 rfl (lv_at hl 2 rfl) ?_
  refine lv_iconst (v := nI 3) hx hb dX4_act_45 (by decide) ?_
  refine lv_irem hx hb dX4_act_46 (by decide) ?_
  refine zt_top (v := (nI 0)) (by decide) ?_
  refine lv_istore (lv' := [(5, .int (nI 0)), (4, .int (nI 1)), (3, .int (nI (X 0))), (0, .int (nI 9)), (1, .ref vq), (2, .ref aq)]) hx hb dX4_act_47 hl (by decide) rfl (fun ls hl => ?_)
  refine lv_iconst (v := nI 0) hx hb dX4_act_49 (by decide) ?_
  refine lv_istore (lv' := [(6, .int (nI 0)), (5, .int (nI 0)), (4, .int (nI 1)), (3, .int (nI (X 0))), (0, .int (nI 9)), (1, .ref vq), (2, .ref aq)]) hx hb dX4_act_50 hl (by decide) rfl (fun ls hl => ?_)
  have eY : zar n X = zar n (zYk X 1 0 0) := zar_congr (fun j _ => by unfold zYk; split <;> simp)
  have hP : va_P G.1 vwCl (([(vq, .inl (G.2.1, n, .inl (zar n V))), (aq, .inl (G.2.1, n, .inl (zar n X)))] : va_W)) H := hP
  have hD : va_D A (([(vq, .inl (G.2.1, n, .inl (zar n V))), (aq, .inl (G.2.1, n, .inl (zar n X)))] : va_W)) := hD
  rw [eY] at hP hD
  exact loop (zm V X 9) 0 H locs ls (by omega) hP hD hS (lv_sub hl [0, 1, 2, 6, 5] rfl)
set_option maxHeartbeats 4000000 in
set_option maxRecDepth 100000 in
theorem s_act_11 (l : Launch) (G : zG) {n : Nat} (hn : n = 2 ∨ n = 3) {V X : Nat → Nat} (ok : zOK V X) (h1 : 1 < n) (h2 : 2 < n) (vq aq : Nat) : zCr l G yX4_act wsX4_act rm_X4_act 0 0 [.int (nI 11), .ref vq, .ref aq] (zwA G n vq aq V X) (fun _ : Unit => some (.int (nI (zm V X 11)))) (fun _ : Unit => zwA G n vq aq V (zmv V X 11)) := by
  refine z_ofr (cc := cX4_act) (maxL := 7) (ret := (some .int)) (own := RX4) (by decide) rfl rfl (Nat.le_of_ble_eq_true rfl) ?_
  intro p e s m args below meth c A H locs ls F hr hlocks hname hK hA hP hD hS hl
  obtain ⟨hx, hb, hml, hown, hts⟩ := id F
  have hl : lv_has ls 7 [(0, .int (nI 11)), (1, .ref vq), (2, .ref aq)] := hl
  have o1 := ok 1 (by omega)
  have o2 := ok 2 (by omega)
  have hM : zm V X 11 = min (X 1) (V 2 - X 2) := rfl
  have loop : ∀ (r k : Nat) (H : Heap) (locs : List Loc) (ls : Array Slot), k + r = zm V X 11 → va_P G.1 vwCl ([(vq, .inl (G.2.1, n, .inl (zar n V))), (aq, .inl (G.2.1, n, .inl (zar n (zYk X 1 2 k))))] : va_W) H → va_D A ([(vq, .inl (G.2.1, n, .inl (zar n V))), (aq, .inl (G.2.1, n, .inl (zar n (zYk X 1 2 k))))] : va_W) → va_S A s.heap H locs → lv_has ls 7 [(6, .int (nI k)), (5, .int (nI 2)), (4, .int (nI 1)), (2, .ref aq), (1, .ref vq)] → W p l e rm_X4_act s m args below meth c H locs 0 0 (MQ below (zQr G (fun _ : Unit => some (.int (nI (zm V X 11)))) (fun _ : Unit => zwA G n vq aq V (zmv V X 11)) A) args s 0 0 A) (F0 m 52 ls []) := by
    intro r
    induction r with
    | zero =>
      intro k H locs ls hk hP hD hS hl
      obtain rfl : k = zm V X 11 := by omega
      by_cases q : X 1 = zm V X 11
      · refine lv_aload_n hx hb dX4_act_52 rfl (lv_at hl 3 rfl) ?_
        refine lv_iload hx hb dX4_act_53 (lv_at hl 2 rfl) ?_
        refine zr_iald (v := (nI (X 1 - zm V X 11))) hx hb hK hP 1 rfl (by omega) (by omega) ((zar_at (by omega)).trans rfl) dX4_act_55 ?_
        refine lv_if_le (tgt := 92) hx hb dX4_act_56 (by decide) (fun _ => ?_) (fun z => absurd (show (nI (X 1 - zm V X 11)) ≤ (nI 0) from (nI_le (by omega) (by omega))) z)
        refine lv_iload hx hb dX4_act_92 (lv_at hl 0 rfl) ?_
        exact zr_iret F hr hlocks hP hD hS () (List.Perm.refl _) rfl dX4_act_94
      · refine lv_aload_n hx hb dX4_act_52 rfl (lv_at hl 3 rfl) ?_
        refine lv_iload hx hb dX4_act_53 (lv_at hl 2 rfl) ?_
        refine zr_iald (v := (nI (X 1 - zm V X 11))) hx hb hK hP 1 rfl (by omega) (by omega) ((zar_at (by omega)).trans rfl) dX4_act_55 ?_
        refine lv_if_le (tgt := 92) hx hb dX4_act_56 (by decide) (fun z => absurd z (show ¬ (nI (X 1 - zm V X 11)) ≤ (nI 0) from (nI_ge (by omega) (by omega)))) (fun _ => ?_)
        refine lv_aload_n hx hb dX4_act_59 rfl (lv_at hl 3 rfl) ?_
        refine lv_iload hx hb dX4_act_60 (lv_at hl 1 rfl) ?_
        refine zr_iald (v := (nI (X 2 + zm V X 11))) hx hb hK hP 1 rfl (by omega) (by omega) ((zar_at (by omega)).trans rfl) dX4_act_62 ?_
        refine lv_aload_n hx hb dX4_act_63 rfl (lv_at hl 4 rfl) ?_
        refine lv_iload hx hb dX4_act_64 (lv_at hl 1 rfl) ?_
        refine zr_iald (v := (nI (V 2))) hx hb hK hP 0 rfl (by omega) (by omega) (zar_at (by omega)) dX4_act_66 ?_
        refine lv_icmp_ge (tgt := 92) hx hb dX4_act_67 (by decide) (fun _ => ?_) (fun z => absurd (show (nI (V 2)) ≤ (nI (X 2 + zm V X 11)) from (nI_le (by omega) (by omega))) z)
        refine lv_iload hx hb dX4_act_92 (lv_at hl 0 rfl) ?_
        exact zr_iret F hr hlocks hP hD hS () (List.Perm.refl _) rfl dX4_act_94
    | succ r ih =>
      intro k H locs ls hk hP hD hS hl
      refine lv_aload_n hx hb dX4_act_52 rfl (lv_at hl 3 rfl) ?_
      refine lv_iload hx hb dX4_act_53 (lv_at hl 2 rfl) ?_
      refine zr_iald (v := (nI (X 1 - k))) hx hb hK hP 1 rfl (by omega) (by omega) ((zar_at (by omega)).trans rfl) dX4_act_55 ?_
      refine lv_if_le (tgt := 92) hx hb dX4_act_56 (by decide) (fun z => absurd z (show ¬ (nI (X 1 - k)) ≤ (nI 0) from (nI_ge (by omega) (by omega)))) (fun _ => ?_)
      refine lv_aload_n hx hb dX4_act_59 rfl (lv_at hl 3 rfl) ?_
      refine lv_iload hx hb dX4_act_60 (lv_at hl 1 rfl) ?_
      refine zr_iald (v := (nI (X 2 + k))) hx hb hK hP 1 rfl (by omega) (by omega) ((zar_at (by omega)).trans rfl) dX4_act_62 ?_
      refine lv_aload_n hx hb dX4_act_63 rfl (lv_at hl 4 rfl) ?_
      refine lv_iload hx hb dX4_act_64 (lv_at hl 1 rfl) ?_
      refine zr_iald (v := (nI (V 2))) hx hb hK hP 0 rfl (by omega) (by omega) (zar_at (by omega)) dX4_act_66 ?_
      refine lv_icmp_ge (tgt := 92) hx hb dX4_act_67 (by decide) (fun z => absurd z (show ¬ (nI (V 2)) ≤ (nI (X 2 + k)) from (nI_ge (by omega) (by omega)))) (fun _ => ?_)
      refine lv_aload_n hx hb dX4_act_70 rfl (lv_at hl 3 rfl) ?_
      refine lv_iload hx hb dX4_act_71 (lv_at hl 2 rfl) ?_
      refine lv_dup2_11 hx hb dX4_act_73 rfl rfl ?_
      refine zr_iald (v := (nI (X 1 - k))) hx hb hK hP 1 rfl (by omega) (by omega) ((zar_at (by omega)).trans rfl) dX4_act_74 ?_
      refine lv_iconst (v := nI 1) hx hb dX4_act_75 (by decide) ?_
      refine lv_isub hx hb dX4_act_76 ?_
      refine zt_top (v := (nI (X 1 - (k + 1)))) ((pk_sub (by omega)).trans (congrArg nI (by omega))) ?_
      refine zr_iast (g := zar n (fun j => if j = 1 then X j - (k + 1) else zYk X 1 2 k j)) hx hb hK hP hD hS 1 rfl (by omega) (by omega) (zar_upd (by omega) (fun i _ => by by_cases z : i = 1 <;> simp [z])) dX4_act_77 (fun H locs hP hD hS => ?_)
      have hP : va_P G.1 vwCl (([(vq, .inl (G.2.1, n, .inl (zar n V))), (aq, .inl (G.2.1, n, .inl (zar n (fun j => if j = 1 then X j - (k + 1) else zYk X 1 2 k j))))] : va_W)) H := hP
      have hD : va_D A (([(vq, .inl (G.2.1, n, .inl (zar n V))), (aq, .inl (G.2.1, n, .inl (zar n (fun j => if j = 1 then X j - (k + 1) else zYk X 1 2 k j))))] : va_W)) := hD
      refine lv_aload_n hx hb dX4_act_78 rfl (lv_at hl 3 rfl) ?_
      refine lv_iload hx hb dX4_act_79 (lv_at hl 1 rfl) ?_
      refine lv_dup2_11 hx hb dX4_act_81 rfl rfl ?_
      refine zr_iald (v := (nI (X 2 + k))) hx hb hK hP 1 rfl (by omega) (by omega) ((zar_at (by omega)).trans rfl) dX4_act_82 ?_
      refine lv_iconst (v := nI 1) hx hb dX4_act_83 (by decide) ?_
      refine lv_iadd hx hb dX4_act_84 ?_
      refine zt_top (v := (nI (X 2 + (k + 1)))) ((nI_add (X 2 + k) 1).trans (congrArg nI (by omega))) ?_
      refine zr_iast (g := zar n (zYk X 1 2 (k + 1))) hx hb hK hP hD hS 1 rfl (by omega) (by omega) (zar_upd (by omega) (fun i _ => by unfold zYk; by_cases z : i = 1 <;> by_cases y : i = 2 <;> simp [z, y] <;> omega)) dX4_act_85 (fun H locs hP hD hS => ?_)
      have hP : va_P G.1 vwCl (([(vq, .inl (G.2.1, n, .inl (zar n V))), (aq, .inl (G.2.1, n, .inl (zar n (zYk X 1 2 (k + 1)))))] : va_W)) H := hP
      have hD : va_D A (([(vq, .inl (G.2.1, n, .inl (zar n V))), (aq, .inl (G.2.1, n, .inl (zar n (zYk X 1 2 (k + 1)))))] : va_W)) := hD
      refine lv_iinc (v := (nI (k + 1))) (lv' := [(6, .int (nI (k + 1))), (5, .int (nI 2)), (4, .int (nI 1)), (2, .ref aq), (1, .ref vq)]) hx hb dX4_act_86 hl (k := 0) rfl (nI_1 k) (by decide) rfl (fun ls hl => ?_)
      refine lv_goto (tgt := 52) hx hb dX4_act_89 (by decide) ?_
      exact ih (k + 1) H locs ls (by omega) hP hD hS (lv_sub hl [0, 1, 2, 3, 4] rfl)
  refine lv_aload_n hx hb dX4_act_0 rfl (lv_at hl 2 rfl) ?_
  refine lv_iload_n hx hb dX4_act_1 rfl (lv_at hl 0 rfl) ?_
  refine lv_iconst (v := nI 3) hx hb dX4_act_2 (by decide) ?_
  refine lv_irem hx hb dX4_act_3 (by decide) ?_
  refine zt_top (v := (nI 2)) (by decide) ?_
  refine zr_iald (v := (nI (X 2))) hx hb hK hP 1 rfl (by omega) (by omega) (zar_at (by omega)) dX4_act_4 ?_
  refine lv_istore_n (lv' := [(3, .int (nI (X 2))), (0, .int (nI 11)), (1, .ref vq), (2, .ref aq)]) hx hb dX4_act_5 rfl hl (by decide) rfl (fun ls hl => ?_)
  refine lv_iload_n hx hb dX4_act_6 rfl (lv_at hl 1 rfl) ?_
  refine lv_iconst (v := nI 3) hx hb dX4_act_7 (by decide) ?_
  refine lv_icmp_ge (tgt := 23) hx hb dX4_act_8 (by decide) (fun _ => ?_) (fun z => absurd (show (nI 3) ≤ (nI 11) from (by decide)) z)
  refine lv_iload_n hx hb dX4_act_23 rfl (lv_at hl 1 rfl) ?_
  refine lv_bipush (v := nI 6) hx hb dX4_act_24 (by decide) ?_
  refine lv_icmp_ge (tgt := 37) hx hb dX4_act_26 (by decide) (fun _ => ?_) (fun z => absurd (show (nI 6) ≤ (nI 11) from (by decide)) z)
  refine lv_iload_n hx hb dX4_act_37 rfl (lv_at hl 1 rfl) ?_
  refine lv_iconst (v := nI 3) hx hb dX4_act_38 (by decide) ?_
  refine lv_idiv hx hb dX4_act_39 (by decide) ?_
  refine zt_top (v := (nI 3)) (by decide) ?_
  refine lv_iconst (v := nI 2) hx hb dX4_act_40 (by decide) ?_
  refine lv_isub hx hb dX4_act_41 ?_
  refine zt_top (v := (nI 1)) (pk_sub (by omega)) ?_
  refine lv_istore (lv' := [(4, .int (nI 1)), (3, .int (nI (X 2))), (0, .int (nI 11)), (1, .ref vq), (2, .ref aq)]) hx hb dX4_act_42 hl (by decide) rfl (fun ls hl => ?_)
  refine lv_iload_n hx hb dX4_act_44 rfl (lv_at hl 2 rfl) ?_
  refine lv_iconst (v := nI 3) hx hb dX4_act_45 (by decide) ?_
  refine lv_irem hx hb dX4_act_46 (by decide) ?_
  refine zt_top (v := (nI 2)) (by decide) ?_
  refine lv_istore (lv' := [(5, .int (nI 2)), (4, .int (nI 1)), (3, .int (nI (X 2))), (0, .int (nI 11)), (1, .ref vq), (2, .ref aq)]) hx hb dX4_act_47 hl (by decide) rfl (fun ls hl => ?_)
  refine lv_iconst (v := nI 0) hx hb dX4_act_49 (by decide) ?_
  refine lv_istore (lv' := [(6, .int (nI 0)), (5, .int (nI 2)), (4, .int (nI 1)), (3, .int (nI (X 2))), (0, .int (nI 11)), (1, .ref vq), (2, .ref aq)]) hx hb dX4_act_50 hl (by decide) rfl (fun ls hl => ?_)
  have eY : zar n X = zar n (zYk X 1 2 0) := zar_congr (fun j _ => by unfold zYk; split <;> simp)
  have hP : va_P G.1 vwCl (([(vq, .inl (G.2.1, n, .inl (zar n V))), (aq, .inl (G.2.1, n, .inl (zar n X)))] : va_W)) H := hP
  have hD : va_D A (([(vq, .inl (G.2.1, n, .inl (zar n V))), (aq, .inl (G.2.1, n, .inl (zar n X)))] : va_W)) := hD
  rw [eY] at hP hD
  exact loop (zm V X 11) 0 H locs ls (by omega) hP hD hS (lv_sub hl [0, 1, 2, 6, 5] rfl)
set_option maxHeartbeats 4000000 in
set_option maxRecDepth 100000 in
theorem s_act_12 (l : Launch) (G : zG) {n : Nat} (hn : n = 2 ∨ n = 3) {V X : Nat → Nat} (ok : zOK V X) (h0 : 0 < n) (h2 : 2 < n) (vq aq : Nat) : zCr l G yX4_act wsX4_act rm_X4_act 0 0 [.int (nI 12), .ref vq, .ref aq] (zwA G n vq aq V X) (fun _ : Unit => some (.int (nI (zm V X 12)))) (fun _ : Unit => zwA G n vq aq V (zmv V X 12)) := by
  refine z_ofr (cc := cX4_act) (maxL := 7) (ret := (some .int)) (own := RX4) (by decide) rfl rfl (Nat.le_of_ble_eq_true rfl) ?_
  intro p e s m args below meth c A H locs ls F hr hlocks hname hK hA hP hD hS hl
  obtain ⟨hx, hb, hml, hown, hts⟩ := id F
  have hl : lv_has ls 7 [(0, .int (nI 12)), (1, .ref vq), (2, .ref aq)] := hl
  have o1 := ok 2 (by omega)
  have o2 := ok 0 (by omega)
  have hM : zm V X 12 = min (X 2) (V 0 - X 0) := rfl
  have loop : ∀ (r k : Nat) (H : Heap) (locs : List Loc) (ls : Array Slot), k + r = zm V X 12 → va_P G.1 vwCl ([(vq, .inl (G.2.1, n, .inl (zar n V))), (aq, .inl (G.2.1, n, .inl (zar n (zYk X 2 0 k))))] : va_W) H → va_D A ([(vq, .inl (G.2.1, n, .inl (zar n V))), (aq, .inl (G.2.1, n, .inl (zar n (zYk X 2 0 k))))] : va_W) → va_S A s.heap H locs → lv_has ls 7 [(6, .int (nI k)), (5, .int (nI 0)), (4, .int (nI 2)), (2, .ref aq), (1, .ref vq)] → W p l e rm_X4_act s m args below meth c H locs 0 0 (MQ below (zQr G (fun _ : Unit => some (.int (nI (zm V X 12)))) (fun _ : Unit => zwA G n vq aq V (zmv V X 12)) A) args s 0 0 A) (F0 m 52 ls []) := by
    intro r
    induction r with
    | zero =>
      intro k H locs ls hk hP hD hS hl
      obtain rfl : k = zm V X 12 := by omega
      by_cases q : X 2 = zm V X 12
      · refine lv_aload_n hx hb dX4_act_52 rfl (lv_at hl 3 rfl) ?_
        refine lv_iload hx hb dX4_act_53 (lv_at hl 2 rfl) ?_
        refine zr_iald (v := (nI (X 2 - zm V X 12))) hx hb hK hP 1 rfl (by omega) (by omega) ((zar_at (by omega)).trans rfl) dX4_act_55 ?_
        refine lv_if_le (tgt := 92) hx hb dX4_act_56 (by decide) (fun _ => ?_) (fun z => absurd (show (nI (X 2 - zm V X 12)) ≤ (nI 0) from (nI_le (by omega) (by omega))) z)
        refine lv_iload hx hb dX4_act_92 (lv_at hl 0 rfl) ?_
        exact zr_iret F hr hlocks hP hD hS () (List.Perm.refl _) rfl dX4_act_94
      · refine lv_aload_n hx hb dX4_act_52 rfl (lv_at hl 3 rfl) ?_
        refine lv_iload hx hb dX4_act_53 (lv_at hl 2 rfl) ?_
        refine zr_iald (v := (nI (X 2 - zm V X 12))) hx hb hK hP 1 rfl (by omega) (by omega) ((zar_at (by omega)).trans rfl) dX4_act_55 ?_
        refine lv_if_le (tgt := 92) hx hb dX4_act_56 (by decide) (fun z => absurd z (show ¬ (nI (X 2 - zm V X 12)) ≤ (nI 0) from (nI_ge (by omega) (by omega)))) (fun _ => ?_)
        refine lv_aload_n hx hb dX4_act_59 rfl (lv_at hl 3 rfl) ?_
        refine lv_iload hx hb dX4_act_60 (lv_at hl 1 rfl) ?_
        refine zr_iald (v := (nI (X 0 + zm V X 12))) hx hb hK hP 1 rfl (by omega) (by omega) ((zar_at (by omega)).trans rfl) dX4_act_62 ?_
        refine lv_aload_n hx hb dX4_act_63 rfl (lv_at hl 4 rfl) ?_
        refine lv_iload hx hb dX4_act_64 (lv_at hl 1 rfl) ?_
        refine zr_iald (v := (nI (V 0))) hx hb hK hP 0 rfl (by omega) (by omega) (zar_at (by omega)) dX4_act_66 ?_
        refine lv_icmp_ge (tgt := 92) hx hb dX4_act_67 (by decide) (fun _ => ?_) (fun z => absurd (show (nI (V 0)) ≤ (nI (X 0 + zm V X 12)) from (nI_le (by omega) (by omega))) z)
        refine lv_iload hx hb dX4_act_92 (lv_at hl 0 rfl) ?_
        exact zr_iret F hr hlocks hP hD hS () (List.Perm.refl _) rfl dX4_act_94
    | succ r ih =>
      intro k H locs ls hk hP hD hS hl
      refine lv_aload_n hx hb dX4_act_52 rfl (lv_at hl 3 rfl) ?_
      refine lv_iload hx hb dX4_act_53 (lv_at hl 2 rfl) ?_
      refine zr_iald (v := (nI (X 2 - k))) hx hb hK hP 1 rfl (by omega) (by omega) ((zar_at (by omega)).trans rfl) dX4_act_55 ?_
      refine lv_if_le (tgt := 92) hx hb dX4_act_56 (by decide) (fun z => absurd z (show ¬ (nI (X 2 - k)) ≤ (nI 0) from (nI_ge (by omega) (by omega)))) (fun _ => ?_)
      refine lv_aload_n hx hb dX4_act_59 rfl (lv_at hl 3 rfl) ?_
      refine lv_iload hx hb dX4_act_60 (lv_at hl 1 rfl) ?_
      refine zr_iald (v := (nI (X 0 + k))) hx hb hK hP 1 rfl (by omega) (by omega) ((zar_at (by omega)).trans rfl) dX4_act_62 ?_
      refine lv_aload_n hx hb dX4_act_63 rfl (lv_at hl 4 rfl) ?_
      refine lv_iload hx hb dX4_act_64 (lv_at hl 1 rfl) ?_
      refine zr_iald (v := (nI (V 0))) hx hb hK hP 0 rfl (by omega) (by omega) (zar_at (by omega)) dX4_act_66 ?_
      refine lv_icmp_ge (tgt := 92) hx hb dX4_act_67 (by decide) (fun z => absurd z (show ¬ (nI (V 0)) ≤ (nI (X 0 + k)) from (nI_ge (by omega) (by omega)))) (fun _ => ?_)
      refine lv_aload_n hx hb dX4_act_70 rfl (lv_at hl 3 rfl) ?_
      refine lv_iload hx hb dX4_act_71 (lv_at hl 2 rfl) ?_
      refine lv_dup2_11 hx hb dX4_act_73 rfl rfl ?_
      refine zr_iald (v := (nI (X 2 - k))) hx hb hK hP 1 rfl (by omega) (by omega) ((zar_at (by omega)).trans rfl) dX4_act_74 ?_
      refine lv_iconst (v := nI 1) hx hb dX4_act_75 (by decide) ?_
      refine lv_isub hx hb dX4_act_76 ?_
      refine zt_top (v := (nI (X 2 - (k + 1)))) ((pk_sub (by omega)).trans (congrArg nI (by omega))) ?_
      refine zr_iast (g := zar n (fun j => if j = 2 then X j - (k + 1) else zYk X 2 0 k j)) hx hb hK hP hD hS 1 rfl (by omega) (by omega) (zar_upd (by omega) (fun i _ => by by_cases z : i = 2 <;> simp [z])) dX4_act_77 (fun H locs hP hD hS => ?_)
      have hP : va_P G.1 vwCl (([(vq, .inl (G.2.1, n, .inl (zar n V))), (aq, .inl (G.2.1, n, .inl (zar n (fun j => if j = 2 then X j - (k + 1) else zYk X 2 0 k j))))] : va_W)) H := hP
      have hD : va_D A (([(vq, .inl (G.2.1, n, .inl (zar n V))), (aq, .inl (G.2.1, n, .inl (zar n (fun j => if j = 2 then X j - (k + 1) else zYk X 2 0 k j))))] : va_W)) := hD
      refine lv_aload_n hx hb dX4_act_78 rfl (lv_at hl 3 rfl) ?_
      refine lv_iload hx hb dX4_act_79 (lv_at hl 1 rfl) ?_
      refine lv_dup2_11 hx hb dX4_act_81 rfl rfl ?_
      refine zr_iald (v := (nI (X 0 + k))) hx hb hK hP 1 rfl (by omega) (by omega) ((zar_at (by omega)).trans rfl) dX4_act_82 ?_
      refine lv_iconst (v := nI 1) hx hb dX4_act_83 (by decide) ?_
      refine lv_iadd hx hb dX4_act_84 ?_
      refine zt_top (v := (nI (X 0 + (k + 1)))) ((nI_add (X 0 + k) 1).trans (congrArg nI (by omega))) ?_
      refine zr_iast (g := zar n (zYk X 2 0 (k + 1))) hx hb hK hP hD hS 1 rfl (by omega) (by omega) (zar_upd (by omega) (fun i _ => by unfold zYk; by_cases z : i = 2 <;> by_cases y : i = 0 <;> simp [z, y] <;> omega)) dX4_act_85 (fun H locs hP hD hS => ?_)
      have hP : va_P G.1 vwCl (([(vq, .inl (G.2.1, n, .inl (zar n V))), (aq, .inl (G.2.1, n, .inl (zar n (zYk X 2 0 (k + 1)))))] : va_W)) H := hP
      have hD : va_D A (([(vq, .inl (G.2.1, n, .inl (zar n V))), (aq, .inl (G.2.1, n, .inl (zar n (zYk X 2 0 (k + 1)))))] : va_W)) := hD
      refine lv_iinc (v := (nI (k + 1))) (lv' := [(6, .int (nI (k + 1))), (5, .int (nI 0)), (4, .int (nI 2)), (2, .ref aq), (1, .ref vq)]) hx hb dX4_act_86 hl (k := 0) rfl (nI_1 k) (by decide) rfl (fun ls hl => ?_)
      refine lv_goto (tgt := 52) hx hb dX4_act_89 (by decide) ?_
      exact ih (k + 1) H locs ls (by omega) hP hD hS (lv_sub hl [0, 1, 2, 3, 4] rfl)
  refine lv_aload_n hx hb dX4_act_0 rfl (lv_at hl 2 rfl) ?_
  refine lv_iload_n hx hb dX4_act_1 rfl (lv_at hl 0 rfl) ?_
  refine lv_iconst (v := nI 3) hx hb dX4_act_2 (by decide) ?_
  refine lv_irem hx hb dX4_act_3 (by decide) ?_
  refine zt_top (v := (nI 0)) (by decide) ?_
  refine zr_iald (v := (nI (X 0))) hx hb hK hP 1 rfl (by omega) (by omega) (zar_at (by omega)) dX4_act_4 ?_
  refine lv_istore_n (lv' := [(3, .int (nI (X 0))), (0, .int (nI 12)), (1, .ref vq), (2, .ref aq)]) hx hb dX4_act_5 rfl hl (by decide) rfl (fun ls hl => ?_)
  refine lv_iload_n hx hb dX4_act_6 rfl (lv_at hl 1 rfl) ?_
  refine lv_iconst (v := nI 3) hx hb dX4_act_7 (by decide) ?_
  refine lv_icmp_ge (tgt := 23) hx hb dX4_act_8 (by decide) (fun _ => ?_) (fun z => absurd (show (nI 3) ≤ (nI 12) from (by decide)) z)
  refine lv_iload_n hx hb dX4_act_23 rfl (lv_at hl 1 rfl) ?_
  refine lv_bipush (v := nI 6) hx hb dX4_act_24 (by decide) ?_
  refine lv_icmp_ge (tgt := 37) hx hb dX4_act_26 (by decide) (fun _ => ?_) (fun z => absurd (show (nI 6) ≤ (nI 12) from (by decide)) z)
  refine lv_iload_n hx hb dX4_act_37 rfl (lv_at hl 1 rfl) ?_
  refine lv_iconst (v := nI 3) hx hb dX4_act_38 (by decide) ?_
  refine lv_idiv hx hb dX4_act_39 (by decide) ?_
  refine zt_top (v := (nI 4)) (by decide) ?_
  refine lv_iconst (v := nI 2) hx hb dX4_act_40 (by decide) ?_
  refine lv_isub hx hb dX4_act_41 ?_
  refine zt_top (v := (nI 2)) (pk_sub (by omega)) ?_
  refine lv_istore (lv' := [(4, .int (nI 2)), (3, .int (nI (X 0))), (0, .int (nI 12)), (1, .ref vq), (2, .ref aq)]) hx hb dX4_act_42 hl (by decide) rfl (fun ls hl => ?_)
  refine lv_iload_n hx hb dX4_act_44 rfl (lv_at hl 2 rfl) ?_
  refine lv_iconst (v := nI 3) hx hb dX4_act_45 (by decide) ?_
  refine lv_irem hx hb dX4_act_46 (by decide) ?_
  refine zt_top (v := (nI 0)) (by decide) ?_
  refine lv_istore (lv' := [(5, .int (nI 0)), (4, .int (nI 2)), (3, .int (nI (X 0))), (0, .int (nI 12)), (1, .ref vq), (2, .ref aq)]) hx hb dX4_act_47 hl (by decide) rfl (fun ls hl => ?_)
  refine lv_iconst (v := nI 0) hx hb dX4_act_49 (by decide) ?_
  refine lv_istore (lv' := [(6, .int (nI 0)), (5, .int (nI 0)), (4, .int (nI 2)), (3, .int (nI (X 0))), (0, .int (nI 12)), (1, .ref vq), (2, .ref aq)]) hx hb dX4_act_50 hl (by decide) rfl (fun ls hl => ?_)
  have eY : zar n X = zar n (zYk X 2 0 0) := zar_congr (fun j _ => by unfold zYk; split <;> simp)
  have hP : va_P G.1 vwCl (([(vq, .inl (G.2.1, n, .inl (zar n V))), (aq, .inl (G.2.1, n, .inl (zar n X)))] : va_W)) H := hP
  have hD : va_D A (([(vq, .inl (G.2.1, n, .inl (zar n V))), (aq, .inl (G.2.1, n, .inl (zar n X)))] : va_W)) := hD
  rw [eY] at hP hD
  exact loop (zm V X 12) 0 H locs ls (by omega) hP hD hS (lv_sub hl [0, 1, 2, 6, 5] rfl)
set_option maxHeartbeats 4000000 in
set_option maxRecDepth 100000 in
theorem s_act_13 (l : Launch) (G : zG) {n : Nat} (hn : n = 2 ∨ n = 3) {V X : Nat → Nat} (ok : zOK V X) (h1 : 1 < n) (h2 : 2 < n) (vq aq : Nat) : zCr l G yX4_act wsX4_act rm_X4_act 0 0 [.int (nI 13), .ref vq, .ref aq] (zwA G n vq aq V X) (fun _ : Unit => some (.int (nI (zm V X 13)))) (fun _ : Unit => zwA G n vq aq V (zmv V X 13)) := by
  refine z_ofr (cc := cX4_act) (maxL := 7) (ret := (some .int)) (own := RX4) (by decide) rfl rfl (Nat.le_of_ble_eq_true rfl) ?_
  intro p e s m args below meth c A H locs ls F hr hlocks hname hK hA hP hD hS hl
  obtain ⟨hx, hb, hml, hown, hts⟩ := id F
  have hl : lv_has ls 7 [(0, .int (nI 13)), (1, .ref vq), (2, .ref aq)] := hl
  have o1 := ok 2 (by omega)
  have o2 := ok 1 (by omega)
  have hM : zm V X 13 = min (X 2) (V 1 - X 1) := rfl
  have loop : ∀ (r k : Nat) (H : Heap) (locs : List Loc) (ls : Array Slot), k + r = zm V X 13 → va_P G.1 vwCl ([(vq, .inl (G.2.1, n, .inl (zar n V))), (aq, .inl (G.2.1, n, .inl (zar n (zYk X 2 1 k))))] : va_W) H → va_D A ([(vq, .inl (G.2.1, n, .inl (zar n V))), (aq, .inl (G.2.1, n, .inl (zar n (zYk X 2 1 k))))] : va_W) → va_S A s.heap H locs → lv_has ls 7 [(6, .int (nI k)), (5, .int (nI 1)), (4, .int (nI 2)), (2, .ref aq), (1, .ref vq)] → W p l e rm_X4_act s m args below meth c H locs 0 0 (MQ below (zQr G (fun _ : Unit => some (.int (nI (zm V X 13)))) (fun _ : Unit => zwA G n vq aq V (zmv V X 13)) A) args s 0 0 A) (F0 m 52 ls []) := by
    intro r
    induction r with
    | zero =>
      intro k H locs ls hk hP hD hS hl
      obtain rfl : k = zm V X 13 := by omega
      by_cases q : X 2 = zm V X 13
      · refine lv_aload_n hx hb dX4_act_52 rfl (lv_at hl 3 rfl) ?_
        refine lv_iload hx hb dX4_act_53 (lv_at hl 2 rfl) ?_
        refine zr_iald (v := (nI (X 2 - zm V X 13))) hx hb hK hP 1 rfl (by omega) (by omega) ((zar_at (by omega)).trans rfl) dX4_act_55 ?_
        refine lv_if_le (tgt := 92) hx hb dX4_act_56 (by decide) (fun _ => ?_) (fun z => absurd (show (nI (X 2 - zm V X 13)) ≤ (nI 0) from (nI_le (by omega) (by omega))) z)
        refine lv_iload hx hb dX4_act_92 (lv_at hl 0 rfl) ?_
        exact zr_iret F hr hlocks hP hD hS () (List.Perm.refl _) rfl dX4_act_94
      · refine lv_aload_n hx hb dX4_act_52 rfl (lv_at hl 3 rfl) ?_
        refine lv_iload hx hb dX4_act_53 (lv_at hl 2 rfl) ?_
        refine zr_iald (v := (nI (X 2 - zm V X 13))) hx hb hK hP 1 rfl (by omega) (by omega) ((zar_at (by omega)).trans rfl) dX4_act_55 ?_
        refine lv_if_le (tgt := 92) hx hb dX4_act_56 (by decide) (fun z => absurd z (show ¬ (nI (X 2 - zm V X 13)) ≤ (nI 0) from (nI_ge (by omega) (by omega)))) (fun _ => ?_)
        refine lv_aload_n hx hb dX4_act_59 rfl (lv_at hl 3 rfl) ?_
        refine lv_iload hx hb dX4_act_60 (lv_at hl 1 rfl) ?_
        refine zr_iald (v := (nI (X 1 + zm V X 13))) hx hb hK hP 1 rfl (by omega) (by omega) ((zar_at (by omega)).trans rfl) dX4_act_62 ?_
        refine lv_aload_n hx hb dX4_act_63 rfl (lv_at hl 4 rfl) ?_
        refine lv_iload hx hb dX4_act_64 (lv_at hl 1 rfl) ?_
        refine zr_iald (v := (nI (V 1))) hx hb hK hP 0 rfl (by omega) (by omega) (zar_at (by omega)) dX4_act_66 ?_
        refine lv_icmp_ge (tgt := 92) hx hb dX4_act_67 (by decide) (fun _ => ?_) (fun z => absurd (show (nI (V 1)) ≤ (nI (X 1 + zm V X 13)) from (nI_le (by omega) (by omega))) z)
        refine lv_iload hx hb dX4_act_92 (lv_at hl 0 rfl) ?_
        exact zr_iret F hr hlocks hP hD hS () (List.Perm.refl _) rfl dX4_act_94
    | succ r ih =>
      intro k H locs ls hk hP hD hS hl
      refine lv_aload_n hx hb dX4_act_52 rfl (lv_at hl 3 rfl) ?_
      refine lv_iload hx hb dX4_act_53 (lv_at hl 2 rfl) ?_
      refine zr_iald (v := (nI (X 2 - k))) hx hb hK hP 1 rfl (by omega) (by omega) ((zar_at (by omega)).trans rfl) dX4_act_55 ?_
      refine lv_if_le (tgt := 92) hx hb dX4_act_56 (by decide) (fun z => absurd z (show ¬ (nI (X 2 - k)) ≤ (nI 0) from (nI_ge (by omega) (by omega)))) (fun _ => ?_)
      refine lv_aload_n hx hb dX4_act_59 rfl (lv_at hl 3 rfl) ?_
      refine lv_iload hx hb dX4_act_60 (lv_at hl 1 rfl) ?_
      refine zr_iald (v := (nI (X 1 + k))) hx hb hK hP 1 rfl (by omega) (by omega) ((zar_at (by omega)).trans rfl) dX4_act_62 ?_
      refine lv_aload_n hx hb dX4_act_63 rfl (lv_at hl 4 rfl) ?_
      refine lv_iload hx hb dX4_act_64 (lv_at hl 1 rfl) ?_
      refine zr_iald (v := (nI (V 1))) hx hb hK hP 0 rfl (by omega) (by omega) (zar_at (by omega)) dX4_act_66 ?_
      refine lv_icmp_ge (tgt := 92) hx hb dX4_act_67 (by decide) (fun z => absurd z (show ¬ (nI (V 1)) ≤ (nI (X 1 + k)) from (nI_ge (by omega) (by omega)))) (fun _ => ?_)
      refine lv_aload_n hx hb dX4_act_70 rfl (lv_at hl 3 rfl) ?_
      refine lv_iload hx hb dX4_act_71 (lv_at hl 2 rfl) ?_
      refine lv_dup2_11 hx hb dX4_act_73 rfl rfl ?_
      refine zr_iald (v := (nI (X 2 - k))) hx hb hK hP 1 rfl (by omega) (by omega) ((zar_at (by omega)).trans rfl) dX4_act_74 ?_
      refine lv_iconst (v := nI 1) hx hb dX4_act_75 (by decide) ?_
      refine lv_isub hx hb dX4_act_76 ?_
      refine zt_top (v := (nI (X 2 - (k + 1)))) ((pk_sub (by omega)).trans (congrArg nI (by omega))) ?_
      refine zr_iast (g := zar n (fun j => if j = 2 then X j - (k + 1) else zYk X 2 1 k j)) hx hb hK hP hD hS 1 rfl (by omega) (by omega) (zar_upd (by omega) (fun i _ => by by_cases z : i = 2 <;> simp [z])) dX4_act_77 (fun H locs hP hD hS => ?_)
      have hP : va_P G.1 vwCl (([(vq, .inl (G.2.1, n, .inl (zar n V))), (aq, .inl (G.2.1, n, .inl (zar n (fun j => if j = 2 then X j - (k + 1) else zYk X 2 1 k j))))] : va_W)) H := hP
      have hD : va_D A (([(vq, .inl (G.2.1, n, .inl (zar n V))), (aq, .inl (G.2.1, n, .inl (zar n (fun j => if j = 2 then X j - (k + 1) else zYk X 2 1 k j))))] : va_W)) := hD
      refine lv_aload_n hx hb dX4_act_78 rfl (lv_at hl 3 rfl) ?_
      refine lv_iload hx hb dX4_act_79 (lv_at hl 1 rfl) ?_
      refine lv_dup2_11 hx hb dX4_act_81 rfl rfl ?_
      refine zr_iald (v := (nI (X 1 + k))) hx hb hK hP 1 rfl (by omega) (by omega) ((zar_at (by omega)).trans rfl) dX4_act_82 ?_
      refine lv_iconst (v := nI 1) hx hb dX4_act_83 (by decide) ?_
      refine lv_iadd hx hb dX4_act_84 ?_
      refine zt_top (v := (nI (X 1 + (k + 1)))) ((nI_add (X 1 + k) 1).trans (congrArg nI (by omega))) ?_
      refine zr_iast (g := zar n (zYk X 2 1 (k + 1))) hx hb hK hP hD hS 1 rfl (by omega) (by omega) (zar_upd (by omega) (fun i _ => by unfold zYk; by_cases z : i = 2 <;> by_cases y : i = 1 <;> simp [z, y] <;> omega)) dX4_act_85 (fun H locs hP hD hS => ?_)
      have hP : va_P G.1 vwCl (([(vq, .inl (G.2.1, n, .inl (zar n V))), (aq, .inl (G.2.1, n, .inl (zar n (zYk X 2 1 (k + 1)))))] : va_W)) H := hP
      have hD : va_D A (([(vq, .inl (G.2.1, n, .inl (zar n V))), (aq, .inl (G.2.1, n, .inl (zar n (zYk X 2 1 (k + 1)))))] : va_W)) := hD
      refine lv_iinc (v := (nI (k + 1))) (lv' := [(6, .int (nI (k + 1))), (5, .int (nI 1)), (4, .int (nI 2)), (2, .ref aq), (1, .ref vq)]) hx hb dX4_act_86 hl (k := 0) rfl (nI_1 k) (by decide) rfl (fun ls hl => ?_)
      refine lv_goto (tgt := 52) hx hb dX4_act_89 (by decide) ?_
      exact ih (k + 1) H locs ls (by omega) hP hD hS (lv_sub hl [0, 1, 2, 3, 4] rfl)
  refine lv_aload_n hx hb dX4_act_0 rfl (lv_at hl 2 rfl) ?_
  refine lv_iload_n hx hb dX4_act_1 rfl (lv_at hl 0 rfl) ?_
  refine lv_iconst (v := nI 3) hx hb dX4_act_2 (by decide) ?_
  refine lv_irem hx hb dX4_act_3 (by decide) ?_
  refine zt_top (v := (nI 1)) (by decide) ?_
  refine zr_iald (v := (nI (X 1))) hx hb hK hP 1 rfl (by omega) (by omega) (zar_at (by omega)) dX4_act_4 ?_
  refine lv_istore_n (lv' := [(3, .int (nI (X 1))), (0, .int (nI 13)), (1, .ref vq), (2, .ref aq)]) hx hb dX4_act_5 rfl hl (by decide) rfl (fun ls hl => ?_)
  refine lv_iload_n hx hb dX4_act_6 rfl (lv_at hl 1 rfl) ?_
  refine lv_iconst (v := nI 3) hx hb dX4_act_7 (by decide) ?_
  refine lv_icmp_ge (tgt := 23) hx hb dX4_act_8 (by decide) (fun _ => ?_) (fun z => absurd (show (nI 3) ≤ (nI 13) from (by decide)) z)
  refine lv_iload_n hx hb dX4_act_23 rfl (lv_at hl 1 rfl) ?_
  refine lv_bipush (v := nI 6) hx hb dX4_act_24 (by decide) ?_
  refine lv_icmp_ge (tgt := 37) hx hb dX4_act_26 (by decide) (fun _ => ?_) (fun z => absurd (show (nI 6) ≤ (nI 13) from (by decide)) z)
  refine lv_iload_n hx hb dX4_act_37 rfl (lv_at hl 1 rfl) ?_
  refine lv_iconst (v := nI 3) hx hb dX4_act_38 (by decide) ?_
  refine lv_idiv hx hb dX4_act_39 (by decide) ?_
  refine zt_top (v := (nI 4)) (by decide) ?_
  refine lv_iconst (v := nI 2) hx hb dX4_act_40 (by decide) ?_
  refine lv_isub hx hb dX4_act_41 ?_
  refine zt_top (v := (nI 2)) (pk_sub (by omega)) ?_
  refine lv_istore (lv' := [(4, .int (nI 2)), (3, .int (nI (X 1))), (0, .int (nI 13)), (1, .ref vq), (2, .ref aq)]) hx hb dX4_act_42 hl (by decide) rfl (fun ls hl => ?_)
  refine lv_iload_n hx hb dX4_act_44 rfl (lv_at hl 2 rfl) ?_
  refine lv_iconst (v := nI 3) hx hb dX4_act_45 (by decide) ?_
  refine lv_irem hx hb dX4_act_46 (by decide) ?_
  refine zt_top (v := (nI 1)) (by decide) ?_
  refine lv_istore (lv' := [(5, .int (nI 1)), (4, .int (nI 2)), (3, .int (nI (X 1))), (0, .int (nI 13)), (1, .ref vq), (2, .ref aq)]) hx hb dX4_act_47 hl (by decide) rfl (fun ls hl => ?_)
  refine lv_iconst (v := nI 0) hx hb dX4_act_49 (by decide) ?_
  refine lv_istore (lv' := [(6, .int (nI 0)), (5, .int (nI 1)), (4, .int (nI 2)), (3, .int (nI (X 1))), (0, .int (nI 13)), (1, .ref vq), (2, .ref aq)]) hx hb dX4_act_50 hl (by decide) rfl (fun ls hl => ?_)
  have eY : zar n X = zar n (zYk X 2 1 0) := zar_congr (fun j _ => by unfold zYk; split <;> simp)
  have hP : va_P G.1 vwCl (([(vq, .inl (G.2.1, n, .inl (zar n V))), (aq, .inl (G.2.1, n, .inl (zar n X)))] : va_W)) H := hP
  have hD : va_D A (([(vq, .inl (G.2.1, n, .inl (zar n V))), (aq, .inl (G.2.1, n, .inl (zar n X)))] : va_W)) := hD
  rw [eY] at hP hD
  exact loop (zm V X 13) 0 H locs ls (by omega) hP hD hS (lv_sub hl [0, 1, 2, 6, 5] rfl)
theorem s_act (l : Launch) (G : zG) {n : Nat} (hn : n = 2 ∨ n = 3) {V X : Nat → Nat} (ok : zOK V X) {a : Nat} (ha : a < 15) (hal : zal n a) (vq aq : Nat) : zCr l G yX4_act wsX4_act rm_X4_act 0 0 [.int (nI a), .ref vq, .ref aq] (zwA G n vq aq V X) (fun _ : Unit => some (.int (nI (zm V X a)))) (fun _ : Unit => zwA G n vq aq V (zmv V X a)) := by
  have hc : a = 0 ∨ a = 1 ∨ a = 2 ∨ a = 3 ∨ a = 4 ∨ a = 5 ∨ a = 6 ∨ a = 7 ∨ a = 8 ∨ a = 9 ∨ a = 10 ∨ a = 11 ∨ a = 12 ∨ a = 13 ∨ a = 14 := by omega
  unfold zal at hal
  rcases hc with rfl | rfl | rfl | rfl | rfl | rfl | rfl | rfl | rfl | rfl | rfl | rfl | rfl | rfl | rfl
  · exact s_act_0 l G hn ok (by simpa using hal) vq aq
  · exact s_act_1 l G hn ok (by simpa using hal) vq aq
  · exact s_act_2 l G hn ok (by simpa using hal) vq aq
  · exact s_act_3 l G hn ok (by simpa using hal) vq aq
  · exact s_act_4 l G hn ok (by simpa using hal) vq aq
  · exact s_act_5 l G hn ok (by simpa using hal) vq aq
  · simp at hal
  · exact s_act_7 l G hn ok (show 0 < n from by have := hal; simp at this; omega) (show 1 < n from by have := hal; simp at this; omega) vq aq
  · exact s_act_8 l G hn ok (show 0 < n from by have := hal; simp at this; omega) (show 2 < n from by have := hal; simp at this; omega) vq aq
  · exact s_act_9 l G hn ok (show 0 < n from by have := hal; simp at this; omega) (show 1 < n from by have := hal; simp at this; omega) vq aq
  · simp at hal
  · exact s_act_11 l G hn ok (show 1 < n from by have := hal; simp at this; omega) (show 2 < n from by have := hal; simp at this; omega) vq aq
  · exact s_act_12 l G hn ok (show 0 < n from by have := hal; simp at this; omega) (show 2 < n from by have := hal; simp at this; omega) vq aq
  · exact s_act_13 l G hn ok (show 1 < n from by have := hal; simp at this; omega) (show 2 < n from by have := hal; simp at this; omega) vq aq
  · simp at hal
