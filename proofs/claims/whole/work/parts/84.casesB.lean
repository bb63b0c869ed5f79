/-! the cases of the law -/
set_option maxHeartbeats 4000000 in
set_option maxRecDepth 100000 in
theorem k_jars {p : Program} {l : Launch} {e : Env} {s : State} {m : MethodId} {below : List Frame} {meth : Method} {c : Code} {b L : Nat} {xs : Nat → Int32} {G : zG} {a : Nat → Nat} {Q : State → Prop} (F : CallFix p m c cL_law 9 s #[.ref b] wsL_law RL) (hst : l.stackTraces = false) (hK : zK G s) (hZ : zZ (fun q => s.heap.size ≤ q) s s.heap) (hX : va_X b L xs s s.heap) (hbl : b < s.heap.size) {cells slots : Nat} (hc : cells + 1 ≤ 601024) (hsl : slots + 12 ≤ 7293034) {i : Nat} (hi : i + 4 ≤ L) (hL : L ≤ 2048) {c0 : zS} {t : zM} {ou : Nat → Int64} (hR : zRel c0 t) {H : Heap} {locs : List Loc} {ls : Array Slot} (hP : va_P G.1 vwCl (zLW G a c0 ou ++ zMW G a t) H) (hD : va_D (fun q => s.heap.size ≤ q) (zLW G a c0 ou ++ zMW G a t)) (hS : va_S (fun q => s.heap.size ≤ q) s.heap H locs) (hl : lv_has ls 9 [(4, .int (nI i)), (0, .ref b), (1, .ref (a 0)), (2, .ref (a 18)), (3, .ref (a 17))])
    (kk : ∀ (c0 : zS) (t : zM) (ou : Nat → Int64) (H : Heap) (locs : List Loc) (ls : Array Slot), zRel c0 t → va_P G.1 vwCl (zLW G a c0 ou ++ zMW G a t) H → va_D (fun q => s.heap.size ≤ q) (zLW G a c0 ou ++ zMW G a t) → va_S (fun q => s.heap.size ≤ q) s.heap H locs → lv_has ls 9 [(4, .int (nI i)), (0, .ref b), (1, .ref (a 0)), (2, .ref (a 18)), (3, .ref (a 17))] → W p l e room_1 s m #[.ref b] below meth c H locs (cells + 1) (slots + 12) Q (F0 m 1554 ls [])) :
    W p l e room_1 s m #[.ref b] below meth c H locs cells slots Q (F0 m 512 ls []) := by
  obtain ⟨hx, hb, hml, hown, hts⟩ := id F
  have hA : ∀ q : Nat, s.heap.size ≤ q → (fun q : Nat => s.heap.size ≤ q) q := fun _ h => h
  have hbA : ¬ (fun q : Nat => s.heap.size ≤ q) b := Nat.not_le.mpr hbl
  obtain ⟨z1, z2, e1, hR2⟩ := u_jars hR
  refine lv_aload_n hx hb dL_law_512 rfl (lv_at hl 2 rfl) ?_
  refine z_callV (As := []) (rest := []) (wr := ([(a 17, .inl (G.2.2.2, 1, .inr (.inl ou)))] : va_W) ++ zMW G a t) (w1 := fun _ : Unit => zCW3 G a (zS_jars c0)) (wj := fun _ : Unit => zLW G a (zS_jars c0) ou ++ zMW G a t) (ci := 3) (q0 := 0) F (q_C_jars l G a c0 z1) gL_law_X3_jars rfl rfl rfl zd_X3_jars ⟨Nat.le_of_ble_eq_true rfl, Nat.le_of_ble_eq_true rfl⟩ rfl rfl (Nat.le_of_ble_eq_true rfl) dL_law_513 ⟨by show cells + 0 ≤ 601024; omega, by show slots + 0 ≤ 7293034; omega⟩ hK hP hD hS hA hl.1 rfl rfl [0, 1, 2, 3, 4, 5, 6, 7, 8, 9, 10, 11, 12, 13, 14, 15, 16] [17, 18, 19, 20, 21, 22, 23, 24, 25, 26, 27] [11, 12, 13, 14, 15, 16, 17, 18, 19, 20, 21, 22, 23, 24, 25, 26, 27, 0, 1, 2, 3, 4, 5, 6, 7, 8, 9, 10] rfl rfl rfl rfl (by decide) rfl (fun _ => rfl) (fun _ H locs hP hD hS => ?_)
  have hP : va_P G.1 vwCl (zLW G a (zS_jars c0) ou ++ zMW G a t) H := hP
  have hD : va_D (fun q => s.heap.size ≤ q) (zLW G a (zS_jars c0) ou ++ zMW G a t) := hD
  generalize zS_jars c0 = c1 at hP hD hR2
  refine lv_aload_n hx hb dL_law_516 rfl (lv_at hl 3 rfl) ?_
  refine z_callV (As := []) (rest := [.int (zk_jars c0)]) (wr := zLW G a c1 ou) (w1 := fun _ : Unit => zMW G a (zM_jars t)) (wj := fun _ : Unit => zLW G a c1 ou ++ zMW G a (zM_jars t)) (ci := 4) (q0 := 18) F (q_M_jars l G a t z2) gL_law_X4_jars rfl rfl rfl zd_X4_jars ⟨Nat.le_of_ble_eq_true rfl, Nat.le_of_ble_eq_true rfl⟩ rfl rfl (Nat.le_of_ble_eq_true rfl) dL_law_517 ⟨by show cells + 0 + 0 ≤ 601024; omega, by show slots + 0 + 0 ≤ 7293034; omega⟩ hK hP hD hS hA hl.1 rfl rfl [18, 19, 20, 21, 22, 23, 24, 25, 26, 27] [0, 1, 2, 3, 4, 5, 6, 7, 8, 9, 10, 11, 12, 13, 14, 15, 16, 17] [0, 1, 2, 3, 4, 5, 6, 7, 8, 9, 10, 11, 12, 13, 14, 15, 16, 17, 18, 19, 20, 21, 22, 23, 24, 25, 26, 27] rfl rfl rfl rfl (by decide) rfl (fun _ => rfl) (fun _ H locs hP hD hS => ?_)
  have hP : va_P G.1 vwCl (zLW G a c1 ou ++ zMW G a (zM_jars t)) H := hP
  have hD : va_D (fun q => s.heap.size ≤ q) (zLW G a c1 ou ++ zMW G a (zM_jars t)) := hD
  generalize zM_jars t = t1 at hP hD hR2
  refine lv_icmp_eq (tgt := 1554) hx hb dL_law_520 (by decide) (fun _ => ?_) (fun z => absurd e1 z)
  refine W.widen (k := cells + 1) (n := slots + 12) (by omega) (by omega) ?_
  exact kk c1 t1 ou H locs ls hR2 hP hD hS (lv_sub hl [0, 1, 2, 3, 4] rfl)
set_option maxHeartbeats 4000000 in
set_option maxRecDepth 100000 in
theorem k_heldInAll {p : Program} {l : Launch} {e : Env} {s : State} {m : MethodId} {below : List Frame} {meth : Method} {c : Code} {b L : Nat} {xs : Nat → Int32} {G : zG} {a : Nat → Nat} {Q : State → Prop} (F : CallFix p m c cL_law 9 s #[.ref b] wsL_law RL) (hst : l.stackTraces = false) (hK : zK G s) (hZ : zZ (fun q => s.heap.size ≤ q) s s.heap) (hX : va_X b L xs s s.heap) (hbl : b < s.heap.size) {cells slots : Nat} (hc : cells + 1 ≤ 601024) (hsl : slots + 12 ≤ 7293034) {i : Nat} (hi : i + 4 ≤ L) (hL : L ≤ 2048) {c0 : zS} {t : zM} {ou : Nat → Int64} (hR : zRel c0 t) {H : Heap} {locs : List Loc} {ls : Array Slot} (hP : va_P G.1 vwCl (zLW G a c0 ou ++ zMW G a t) H) (hD : va_D (fun q => s.heap.size ≤ q) (zLW G a c0 ou ++ zMW G a t)) (hS : va_S (fun q => s.heap.size ≤ q) s.heap H locs) (hl : lv_has ls 9 [(4, .int (nI i)), (0, .ref b), (1, .ref (a 0)), (2, .ref (a 18)), (3, .ref (a 17))])
    (kk : ∀ (c0 : zS) (t : zM) (ou : Nat → Int64) (H : Heap) (locs : List Loc) (ls : Array Slot), zRel c0 t → va_P G.1 vwCl (zLW G a c0 ou ++ zMW G a t) H → va_D (fun q => s.heap.size ≤ q) (zLW G a c0 ou ++ zMW G a t) → va_S (fun q => s.heap.size ≤ q) s.heap H locs → lv_has ls 9 [(4, .int (nI i)), (0, .ref b), (1, .ref (a 0)), (2, .ref (a 18)), (3, .ref (a 17))] → W p l e room_1 s m #[.ref b] below meth c H locs (cells + 1) (slots + 12) Q (F0 m 1554 ls [])) :
    W p l e room_1 s m #[.ref b] below meth c H locs cells slots Q (F0 m 763 ls []) := by
  obtain ⟨hx, hb, hml, hown, hts⟩ := id F
  have hA : ∀ q : Nat, s.heap.size ≤ q → (fun q : Nat => s.heap.size ≤ q) q := fun _ h => h
  have hbA : ¬ (fun q : Nat => s.heap.size ≤ q) b := Nat.not_le.mpr hbl
  obtain ⟨z1, z2, e1, hR2⟩ := u_heldInAll hR
  refine lv_aload_n hx hb dL_law_763 rfl (lv_at hl 2 rfl) ?_
  refine z_callV (As := []) (rest := []) (wr := ([(a 17, .inl (G.2.2.2, 1, .inr (.inl ou)))] : va_W) ++ zMW G a t) (w1 := fun _ : Unit => zCW3 G a (zS_heldInAll c0)) (wj := fun _ : Unit => zLW G a (zS_heldInAll c0) ou ++ zMW G a t) (ci := 3) (q0 := 0) F (q_C_heldInAll l G a c0 z1) gL_law_X3_heldInAll rfl rfl rfl zd_X3_heldInAll ⟨Nat.le_of_ble_eq_true rfl, Nat.le_of_ble_eq_true rfl⟩ rfl rfl (Nat.le_of_ble_eq_true rfl) dL_law_764 ⟨by show cells + 0 ≤ 601024; omega, by show slots + 0 ≤ 7293034; omega⟩ hK hP hD hS hA hl.1 rfl rfl [0, 1, 2, 3, 4, 5, 6, 7, 8, 9, 10, 11, 12, 13, 14, 15, 16] [17, 18, 19, 20, 21, 22, 23, 24, 25, 26, 27] [11, 12, 13, 14, 15, 16, 17, 18, 19, 20, 21, 22, 23, 24, 25, 26, 27, 0, 1, 2, 3, 4, 5, 6, 7, 8, 9, 10] rfl rfl rfl rfl (by decide) rfl (fun _ => rfl) (fun _ H locs hP hD hS => ?_)
  have hP : va_P G.1 vwCl (zLW G a (zS_heldInAll c0) ou ++ zMW G a t) H := hP
  have hD : va_D (fun q => s.heap.size ≤ q) (zLW G a (zS_heldInAll c0) ou ++ zMW G a t) := hD
  generalize zS_heldInAll c0 = c1 at hP hD hR2
  refine lv_aload_n hx hb dL_law_767 rfl (lv_at hl 3 rfl) ?_
  refine z_callV (As := []) (rest := [.int (zk_heldInAll c0)]) (wr := zLW G a c1 ou) (w1 := fun _ : Unit => zMW G a (zM_heldInAll t)) (wj := fun _ : Unit => zLW G a c1 ou ++ zMW G a (zM_heldInAll t)) (ci := 4) (q0 := 18) F (q_M_heldInAll l G a t z2) gL_law_X4_heldInAll rfl rfl rfl zd_X4_heldInAll ⟨Nat.le_of_ble_eq_true rfl, Nat.le_of_ble_eq_true rfl⟩ rfl rfl (Nat.le_of_ble_eq_true rfl) dL_law_768 ⟨by show cells + 0 + 0 ≤ 601024; omega, by show slots + 0 + 0 ≤ 7293034; omega⟩ hK hP hD hS hA hl.1 rfl rfl [18, 19, 20, 21, 22, 23, 24, 25, 26, 27] [0, 1, 2, 3, 4, 5, 6, 7, 8, 9, 10, 11, 12, 13, 14, 15, 16, 17] [0, 1, 2, 3, 4, 5, 6, 7, 8, 9, 10, 11, 12, 13, 14, 15, 16, 17, 18, 19, 20, 21, 22, 23, 24, 25, 26, 27] rfl rfl rfl rfl (by decide) rfl (fun _ => rfl) (fun _ H locs hP hD hS => ?_)
  have hP : va_P G.1 vwCl (zLW G a c1 ou ++ zMW G a (zM_heldInAll t)) H := hP
  have hD : va_D (fun q => s.heap.size ≤ q) (zLW G a c1 ou ++ zMW G a (zM_heldInAll t)) := hD
  generalize zM_heldInAll t = t1 at hP hD hR2
  refine lv_icmp_eq (tgt := 1554) hx hb dL_law_771 (by decide) (fun _ => ?_) (fun z => absurd e1 z)
  refine W.widen (k := cells + 1) (n := slots + 12) (by omega) (by omega) ?_
  exact kk c1 t1 ou H locs ls hR2 hP hD hS (lv_sub hl [0, 1, 2, 3, 4] rfl)
set_option maxHeartbeats 4000000 in
set_option maxRecDepth 100000 in
theorem k_acts {p : Program} {l : Launch} {e : Env} {s : State} {m : MethodId} {below : List Frame} {meth : Method} {c : Code} {b L : Nat} {xs : Nat → Int32} {G : zG} {a : Nat → Nat} {Q : State → Prop} (F : CallFix p m c cL_law 9 s #[.ref b] wsL_law RL) (hst : l.stackTraces = false) (hK : zK G s) (hZ : zZ (fun q => s.heap.size ≤ q) s s.heap) (hX : va_X b L xs s s.heap) (hbl : b < s.heap.size) {cells slots : Nat} (hc : cells + 1 ≤ 601024) (hsl : slots + 12 ≤ 7293034) {i : Nat} (hi : i + 4 ≤ L) (hL : L ≤ 2048) {c0 : zS} {t : zM} {ou : Nat → Int64} (hR : zRel c0 t) {H : Heap} {locs : List Loc} {ls : Array Slot} (hP : va_P G.1 vwCl (zLW G a c0 ou ++ zMW G a t) H) (hD : va_D (fun q => s.heap.size ≤ q) (zLW G a c0 ou ++ zMW G a t)) (hS : va_S (fun q => s.heap.size ≤ q) s.heap H locs) (hl : lv_has ls 9 [(4, .int (nI i)), (0, .ref b), (1, .ref (a 0)), (2, .ref (a 18)), (3, .ref (a 17))])
    (kk : ∀ (c0 : zS) (t : zM) (ou : Nat → Int64) (H : Heap) (locs : List Loc) (ls : Array Slot), zRel c0 t → va_P G.1 vwCl (zLW G a c0 ou ++ zMW G a t) H → va_D (fun q => s.heap.size ≤ q) (zLW G a c0 ou ++ zMW G a t) → va_S (fun q => s.heap.size ≤ q) s.heap H locs → lv_has ls 9 [(4, .int (nI i)), (0, .ref b), (1, .ref (a 0)), (2, .ref (a 18)), (3, .ref (a 17))] → W p l e room_1 s m #[.ref b] below meth c H locs (cells + 1) (slots + 12) Q (F0 m 1554 ls [])) :
    W p l e room_1 s m #[.ref b] below meth c H locs cells slots Q (F0 m 776 ls []) := by
  obtain ⟨hx, hb, hml, hown, hts⟩ := id F
  have hA : ∀ q : Nat, s.heap.size ≤ q → (fun q : Nat => s.heap.size ≤ q) q := fun _ h => h
  have hbA : ¬ (fun q : Nat => s.heap.size ≤ q) b := Nat.not_le.mpr hbl
  obtain ⟨z1, z2, e1, hR2⟩ := u_acts hR
  refine lv_aload_n hx hb dL_law_776 rfl (lv_at hl 2 rfl) ?_
  refine z_callV (As := []) (rest := []) (wr := ([(a 17, .inl (G.2.2.2, 1, .inr (.inl ou)))] : va_W) ++ zMW G a t) (w1 := fun _ : Unit => zCW3 G a (zS_acts c0)) (wj := fun _ : Unit => zLW G a (zS_acts c0) ou ++ zMW G a t) (ci := 3) (q0 := 0) F (q_C_acts l G a c0 z1) gL_law_X3_acts rfl rfl rfl zd_X3_acts ⟨Nat.le_of_ble_eq_true rfl, Nat.le_of_ble_eq_true rfl⟩ rfl rfl (Nat.le_of_ble_eq_true rfl) dL_law_777 ⟨by show cells + 0 ≤ 601024; omega, by show slots + 0 ≤ 7293034; omega⟩ hK hP hD hS hA hl.1 rfl rfl [0, 1, 2, 3, 4, 5, 6, 7, 8, 9, 10, 11, 12, 13, 14, 15, 16] [17, 18, 19, 20, 21, 22, 23, 24, 25, 26, 27] [11, 12, 13, 14, 15, 16, 17, 18, 19, 20, 21, 22, 23, 24, 25, 26, 27, 0, 1, 2, 3, 4, 5, 6, 7, 8, 9, 10] rfl rfl rfl rfl (by decide) rfl (fun _ => rfl) (fun _ H locs hP hD hS => ?_)
  have hP : va_P G.1 vwCl (zLW G a (zS_acts c0) ou ++ zMW G a t) H := hP
  have hD : va_D (fun q => s.heap.size ≤ q) (zLW G a (zS_acts c0) ou ++ zMW G a t) := hD
  generalize zS_acts c0 = c1 at hP hD hR2
  refine lv_aload_n hx hb dL_law_780 rfl (lv_at hl 3 rfl) ?_
  refine z_callV (As := []) (rest := [.int (zk_acts c0)]) (wr := zLW G a c1 ou) (w1 := fun _ : Unit => zMW G a (zM_acts t)) (wj := fun _ : Unit => zLW G a c1 ou ++ zMW G a (zM_acts t)) (ci := 4) (q0 := 18) F (q_M_acts l G a t z2) gL_law_X4_acts rfl rfl rfl zd_X4_acts ⟨Nat.le_of_ble_eq_true rfl, Nat.le_of_ble_eq_true rfl⟩ rfl rfl (Nat.le_of_ble_eq_true rfl) dL_law_781 ⟨by show cells + 0 + 0 ≤ 601024; omega, by show slots + 0 + 0 ≤ 7293034; omega⟩ hK hP hD hS hA hl.1 rfl rfl [18, 19, 20, 21, 22, 23, 24, 25, 26, 27] [0, 1, 2, 3, 4, 5, 6, 7, 8, 9, 10, 11, 12, 13, 14, 15, 16, 17] [0, 1, 2, 3, 4, 5, 6, 7, 8, 9, 10, 11, 12, 13, 14, 15, 16, 17, 18, 19, 20, 21, 22, 23, 24, 25, 26, 27] rfl rfl rfl rfl (by decide) rfl (fun _ => rfl) (fun _ H locs hP hD hS => ?_)
  have hP : va_P G.1 vwCl (zLW G a c1 ou ++ zMW G a (zM_acts t)) H := hP
  have hD : va_D (fun q => s.heap.size ≤ q) (zLW G a c1 ou ++ zMW G a (zM_acts t)) := hD
  generalize zM_acts t = t1 at hP hD hR2
  refine lv_icmp_eq (tgt := 1554) hx hb dL_law_784 (by decide) (fun _ => ?_) (fun z => absurd e1 z)
  refine W.widen (k := cells + 1) (n := slots + 12) (by omega) (by omega) ?_
  exact kk c1 t1 ou H locs ls hR2 hP hD hS (lv_sub hl [0, 1, 2, 3, 4] rfl)
set_option maxHeartbeats 4000000 in
set_option maxRecDepth 100000 in
theorem k_pouredInAll {p : Program} {l : Launch} {e : Env} {s : State} {m : MethodId} {below : List Frame} {meth : Method} {c : Code} {b L : Nat} {xs : Nat → Int32} {G : zG} {a : Nat → Nat} {Q : State → Prop} (F : CallFix p m c cL_law 9 s #[.ref b] wsL_law RL) (hst : l.stackTraces = false) (hK : zK G s) (hZ : zZ (fun q => s.heap.size ≤ q) s s.heap) (hX : va_X b L xs s s.heap) (hbl : b < s.heap.size) {cells slots : Nat} (hc : cells + 1 ≤ 601024) (hsl : slots + 12 ≤ 7293034) {i : Nat} (hi : i + 4 ≤ L) (hL : L ≤ 2048) {c0 : zS} {t : zM} {ou : Nat → Int64} (hR : zRel c0 t) {H : Heap} {locs : List Loc} {ls : Array Slot} (hP : va_P G.1 vwCl (zLW G a c0 ou ++ zMW G a t) H) (hD : va_D (fun q => s.heap.size ≤ q) (zLW G a c0 ou ++ zMW G a t)) (hS : va_S (fun q => s.heap.size ≤ q) s.heap H locs) (hl : lv_has ls 9 [(4, .int (nI i)), (0, .ref b), (1, .ref (a 0)), (2, .ref (a 18)), (3, .ref (a 17))])
    (kk : ∀ (c0 : zS) (t : zM) (ou : Nat → Int64) (H : Heap) (locs : List Loc) (ls : Array Slot), zRel c0 t → va_P G.1 vwCl (zLW G a c0 ou ++ zMW G a t) H → va_D (fun q => s.heap.size ≤ q) (zLW G a c0 ou ++ zMW G a t) → va_S (fun q => s.heap.size ≤ q) s.heap H locs → lv_has ls 9 [(4, .int (nI i)), (0, .ref b), (1, .ref (a 0)), (2, .ref (a 18)), (3, .ref (a 17))] → W p l e room_1 s m #[.ref b] below meth c H locs (cells + 1) (slots + 12) Q (F0 m 1554 ls [])) :
    W p l e room_1 s m #[.ref b] below meth c H locs cells slots Q (F0 m 789 ls []) := by
  obtain ⟨hx, hb, hml, hown, hts⟩ := id F
  have hA : ∀ q : Nat, s.heap.size ≤ q → (fun q : Nat => s.heap.size ≤ q) q := fun _ h => h
  have hbA : ¬ (fun q : Nat => s.heap.size ≤ q) b := Nat.not_le.mpr hbl
  obtain ⟨z1, z2, e1, hR2⟩ := u_pouredInAll hR
  refine lv_aload_n hx hb dL_law_789 rfl (lv_at hl 2 rfl) ?_
  refine z_callV (As := []) (rest := []) (wr := ([(a 17, .inl (G.2.2.2, 1, .inr (.inl ou)))] : va_W) ++ zMW G a t) (w1 := fun _ : Unit => zCW3 G a (zS_pouredInAll c0)) (wj := fun _ : Unit => zLW G a (zS_pouredInAll c0) ou ++ zMW G a t) (ci := 3) (q0 := 0) F (q_C_pouredInAll l G a c0 z1) gL_law_X3_pouredInAll rfl rfl rfl zd_X3_pouredInAll ⟨Nat.le_of_ble_eq_true rfl, Nat.le_of_ble_eq_true rfl⟩ rfl rfl (Nat.le_of_ble_eq_true rfl) dL_law_790 ⟨by show cells + 0 ≤ 601024; omega, by show slots + 0 ≤ 7293034; omega⟩ hK hP hD hS hA hl.1 rfl rfl [0, 1, 2, 3, 4, 5, 6, 7, 8, 9, 10, 11, 12, 13, 14, 15, 16] [17, 18, 19, 20, 21, 22, 23, 24, 25, 26, 27] [11, 12, 13, 14, 15, 16, 17, 18, 19, 20, 21, 22, 23, 24, 25, 26, 27, 0, 1, 2, 3, 4, 5, 6, 7, 8, 9, 10] rfl rfl rfl rfl (by decide) rfl (fun _ => rfl) (fun _ H locs hP hD hS => ?_)
  have hP : va_P G.1 vwCl (zLW G a (zS_pouredInAll c0) ou ++ zMW G a t) H := hP
  have hD : va_D (fun q => s.heap.size ≤ q) (zLW G a (zS_pouredInAll c0) ou ++ zMW G a t) := hD
  generalize zS_pouredInAll c0 = c1 at hP hD hR2
  refine lv_aload_n hx hb dL_law_793 rfl (lv_at hl 3 rfl) ?_
  refine z_callV (As := []) (rest := [.int (zk_pouredInAll c0)]) (wr := zLW G a c1 ou) (w1 := fun _ : Unit => zMW G a (zM_pouredInAll t)) (wj := fun _ : Unit => zLW G a c1 ou ++ zMW G a (zM_pouredInAll t)) (ci := 4) (q0 := 18) F (q_M_pouredInAll l G a t z2) gL_law_X4_pouredInAll rfl rfl rfl zd_X4_pouredInAll ⟨Nat.le_of_ble_eq_true rfl, Nat.le_of_ble_eq_true rfl⟩ rfl rfl (Nat.le_of_ble_eq_true rfl) dL_law_794 ⟨by show cells + 0 + 0 ≤ 601024; omega, by show slots + 0 + 0 ≤ 7293034; omega⟩ hK hP hD hS hA hl.1 rfl rfl [18, 19, 20, 21, 22, 23, 24, 25, 26, 27] [0, 1, 2, 3, 4, 5, 6, 7, 8, 9, 10, 11, 12, 13, 14, 15, 16, 17] [0, 1, 2, 3, 4, 5, 6, 7, 8, 9, 10, 11, 12, 13, 14, 15, 16, 17, 18, 19, 20, 21, 22, 23, 24, 25, 26, 27] rfl rfl rfl rfl (by decide) rfl (fun _ => rfl) (fun _ H locs hP hD hS => ?_)
  have hP : va_P G.1 vwCl (zLW G a c1 ou ++ zMW G a (zM_pouredInAll t)) H := hP
  have hD : va_D (fun q => s.heap.size ≤ q) (zLW G a c1 ou ++ zMW G a (zM_pouredInAll t)) := hD
  generalize zM_pouredInAll t = t1 at hP hD hR2
  refine lv_icmp_eq (tgt := 1554) hx hb dL_law_797 (by decide) (fun _ => ?_) (fun z => absurd e1 z)
  refine W.widen (k := cells + 1) (n := slots + 12) (by omega) (by omega) ?_
  exact kk c1 t1 ou H locs ls hR2 hP hD hS (lv_sub hl [0, 1, 2, 3, 4] rfl)
set_option maxHeartbeats 4000000 in
set_option maxRecDepth 100000 in
theorem k_spilledInAll {p : Program} {l : Launch} {e : Env} {s : State} {m : MethodId} {below : List Frame} {meth : Method} {c : Code} {b L : Nat} {xs : Nat → Int32} {G : zG} {a : Nat → Nat} {Q : State → Prop} (F : CallFix p m c cL_law 9 s #[.ref b] wsL_law RL) (hst : l.stackTraces = false) (hK : zK G s) (hZ : zZ (fun q => s.heap.size ≤ q) s s.heap) (hX : va_X b L xs s s.heap) (hbl : b < s.heap.size) {cells slots : Nat} (hc : cells + 1 ≤ 601024) (hsl : slots + 12 ≤ 7293034) {i : Nat} (hi : i + 4 ≤ L) (hL : L ≤ 2048) {c0 : zS} {t : zM} {ou : Nat → Int64} (hR : zRel c0 t) {H : Heap} {locs : List Loc} {ls : Array Slot} (hP : va_P G.1 vwCl (zLW G a c0 ou ++ zMW G a t) H) (hD : va_D (fun q => s.heap.size ≤ q) (zLW G a c0 ou ++ zMW G a t)) (hS : va_S (fun q => s.heap.size ≤ q) s.heap H locs) (hl : lv_has ls 9 [(4, .int (nI i)), (0, .ref b), (1, .ref (a 0)), (2, .ref (a 18)), (3, .ref (a 17))])
    (kk : ∀ (c0 : zS) (t : zM) (ou : Nat → Int64) (H : Heap) (locs : List Loc) (ls : Array Slot), zRel c0 t → va_P G.1 vwCl (zLW G a c0 ou ++ zMW G a t) H → va_D (fun q => s.heap.size ≤ q) (zLW G a c0 ou ++ zMW G a t) → va_S (fun q => s.heap.size ≤ q) s.heap H locs → lv_has ls 9 [(4, .int (nI i)), (0, .ref b), (1, .ref (a 0)), (2, .ref (a 18)), (3, .ref (a 17))] → W p l e room_1 s m #[.ref b] below meth c H locs (cells + 1) (slots + 12) Q (F0 m 1554 ls [])) :
    W p l e room_1 s m #[.ref b] below meth c H locs cells slots Q (F0 m 802 ls []) := by
  obtain ⟨hx, hb, hml, hown, hts⟩ := id F
  have hA : ∀ q : Nat, s.heap.size ≤ q → (fun q : Nat => s.heap.size ≤ q) q := fun _ h => h
  have hbA : ¬ (fun q : Nat => s.heap.size ≤ q) b := Nat.not_le.mpr hbl
  obtain ⟨z1, z2, e1, hR2⟩ := u_spilledInAll hR
  refine lv_aload_n hx hb dL_law_802 rfl (lv_at hl 2 rfl) ?_
  refine z_callV (As := []) (rest := []) (wr := ([(a 17, .inl (G.2.2.2, 1, .inr (.inl ou)))] : va_W) ++ zMW G a t) (w1 := fun _ : Unit => zCW3 G a (zS_spilledInAll c0)) (wj := fun _ : Unit => zLW G a (zS_spilledInAll c0) ou ++ zMW G a t) (ci := 3) (q0 := 0) F (q_C_spilledInAll l G a c0 z1) gL_law_X3_spilledInAll rfl rfl rfl zd_X3_spilledInAll ⟨Nat.le_of_ble_eq_true rfl, Nat.le_of_ble_eq_true rfl⟩ rfl rfl (Nat.le_of_ble_eq_true rfl) dL_law_803 ⟨by show cells + 0 ≤ 601024; omega, by show slots + 0 ≤ 7293034; omega⟩ hK hP hD hS hA hl.1 rfl rfl [0, 1, 2, 3, 4, 5, 6, 7, 8, 9, 10, 11, 12, 13, 14, 15, 16] [17, 18, 19, 20, 21, 22, 23, 24, 25, 26, 27] [11, 12, 13, 14, 15, 16, 17, 18, 19, 20, 21, 22, 23, 24, 25, 26, 27, 0, 1, 2, 3, 4, 5, 6, 7, 8, 9, 10] rfl rfl rfl rfl (by decide) rfl (fun _ => rfl) (fun _ H locs hP hD hS => ?_)
  have hP : va_P G.1 vwCl (zLW G a (zS_spilledInAll c0) ou ++ zMW G a t) H := hP
  have hD : va_D (fun q => s.heap.size ≤ q) (zLW G a (zS_spilledInAll c0) ou ++ zMW G a t) := hD
  generalize zS_spilledInAll c0 = c1 at hP hD hR2
  refine lv_aload_n hx hb dL_law_806 rfl (lv_at hl 3 rfl) ?_
  refine z_callV (As := []) (rest := [.int (zk_spilledInAll c0)]) (wr := zLW G a c1 ou) (w1 := fun _ : Unit => zMW G a (zM_spilledInAll t)) (wj := fun _ : Unit => zLW G a c1 ou ++ zMW G a (zM_spilledInAll t)) (ci := 4) (q0 := 18) F (q_M_spilledInAll l G a t z2) gL_law_X4_spilledInAll rfl rfl rfl zd_X4_spilledInAll ⟨Nat.le_of_ble_eq_true rfl, Nat.le_of_ble_eq_true rfl⟩ rfl rfl (Nat.le_of_ble_eq_true rfl) dL_law_807 ⟨by show cells + 0 + 0 ≤ 601024; omega, by show slots + 0 + 0 ≤ 7293034; omega⟩ hK hP hD hS hA hl.1 rfl rfl [18, 19, 20, 21, 22, 23, 24, 25, 26, 27] [0, 1, 2, 3, 4, 5, 6, 7, 8, 9, 10, 11, 12, 13, 14, 15, 16, 17] [0, 1, 2, 3, 4, 5, 6, 7, 8, 9, 10, 11, 12, 13, 14, 15, 16, 17, 18, 19, 20, 21, 22, 23, 24, 25, 26, 27] rfl rfl rfl rfl (by decide) rfl (fun _ => rfl) (fun _ H locs hP hD hS => ?_)
  have hP : va_P G.1 vwCl (zLW G a c1 ou ++ zMW G a (zM_spilledInAll t)) H := hP
  have hD : va_D (fun q => s.heap.size ≤ q) (zLW G a c1 ou ++ zMW G a (zM_spilledInAll t)) := hD
  generalize zM_spilledInAll t = t1 at hP hD hR2
  refine lv_icmp_eq (tgt := 1554) hx hb dL_law_810 (by decide) (fun _ => ?_) (fun z => absurd e1 z)
  refine W.widen (k := cells + 1) (n := slots + 12) (by omega) (by omega) ?_
  exact kk c1 t1 ou H locs ls hR2 hP hD hS (lv_sub hl [0, 1, 2, 3, 4] rfl)
set_option maxHeartbeats 4000000 in
set_option maxRecDepth 100000 in
theorem k_takenInAll {p : Program} {l : Launch} {e : Env} {s : State} {m : MethodId} {below : List Frame} {meth : Method} {c : Code} {b L : Nat} {xs : Nat → Int32} {G : zG} {a : Nat → Nat} {Q : State → Prop} (F : CallFix p m c cL_law 9 s #[.ref b] wsL_law RL) (hst : l.stackTraces = false) (hK : zK G s) (hZ : zZ (fun q => s.heap.size ≤ q) s s.heap) (hX : va_X b L xs s s.heap) (hbl : b < s.heap.size) {cells slots : Nat} (hc : cells + 1 ≤ 601024) (hsl : slots + 12 ≤ 7293034) {i : Nat} (hi : i + 4 ≤ L) (hL : L ≤ 2048) {c0 : zS} {t : zM} {ou : Nat → Int64} (hR : zRel c0 t) {H : Heap} {locs : List Loc} {ls : Array Slot} (hP : va_P G.1 vwCl (zLW G a c0 ou ++ zMW G a t) H) (hD : va_D (fun q => s.heap.size ≤ q) (zLW G a c0 ou ++ zMW G a t)) (hS : va_S (fun q => s.heap.size ≤ q) s.heap H locs) (hl : lv_has ls 9 [(4, .int (nI i)), (0, .ref b), (1, .ref (a 0)), (2, .ref (a 18)), (3, .ref (a 17))])
    (kk : ∀ (c0 : zS) (t : zM) (ou : Nat → Int64) (H : Heap) (locs : List Loc) (ls : Array Slot), zRel c0 t → va_P G.1 vwCl (zLW G a c0 ou ++ zMW G a t) H → va_D (fun q => s.heap.size ≤ q) (zLW G a c0 ou ++ zMW G a t) → va_S (fun q => s.heap.size ≤ q) s.heap H locs → lv_has ls 9 [(4, .int (nI i)), (0, .ref b), (1, .ref (a 0)), (2, .ref (a 18)), (3, .ref (a 17))] → W p l e room_1 s m #[.ref b] below meth c H locs (cells + 1) (slots + 12) Q (F0 m 1554 ls [])) :
    W p l e room_1 s m #[.ref b] below meth c H locs cells slots Q (F0 m 815 ls []) := by
  obtain ⟨hx, hb, hml, hown, hts⟩ := id F
  have hA : ∀ q : Nat, s.heap.size ≤ q → (fun q : Nat => s.heap.size ≤ q) q := fun _ h => h
  have hbA : ¬ (fun q : Nat => s.heap.size ≤ q) b := Nat.not_le.mpr hbl
  obtain ⟨z1, z2, e1, hR2⟩ := u_takenInAll hR
  refine lv_aload_n hx hb dL_law_815 rfl (lv_at hl 2 rfl) ?_
  refine z_callV (As := []) (rest := []) (wr := ([(a 17, .inl (G.2.2.2, 1, .inr (.inl ou)))] : va_W) ++ zMW G a t) (w1 := fun _ : Unit => zCW3 G a (zS_takenInAll c0)) (wj := fun _ : Unit => zLW G a (zS_takenInAll c0) ou ++ zMW G a t) (ci := 3) (q0 := 0) F (q_C_takenInAll l G a c0 z1) gL_law_X3_takenInAll rfl rfl rfl zd_X3_takenInAll ⟨Nat.le_of_ble_eq_true rfl, Nat.le_of_ble_eq_true rfl⟩ rfl rfl (Nat.le_of_ble_eq_true rfl) dL_law_816 ⟨by show cells + 0 ≤ 601024; omega, by show slots + 0 ≤ 7293034; omega⟩ hK hP hD hS hA hl.1 rfl rfl [0, 1, 2, 3, 4, 5, 6, 7, 8, 9, 10, 11, 12, 13, 14, 15, 16] [17, 18, 19, 20, 21, 22, 23, 24, 25, 26, 27] [11, 12, 13, 14, 15, 16, 17, 18, 19, 20, 21, 22, 23, 24, 25, 26, 27, 0, 1, 2, 3, 4, 5, 6, 7, 8, 9, 10] rfl rfl rfl rfl (by decide) rfl (fun _ => rfl) (fun _ H locs hP hD hS => ?_)
  have hP : va_P G.1 vwCl (zLW G a (zS_takenInAll c0) ou ++ zMW G a t) H := hP
  have hD : va_D (fun q => s.heap.size ≤ q) (zLW G a (zS_takenInAll c0) ou ++ zMW G a t) := hD
  generalize zS_takenInAll c0 = c1 at hP hD hR2
  refine lv_aload_n hx hb dL_law_819 rfl (lv_at hl 3 rfl) ?_
  refine z_callV (As := []) (rest := [.int (zk_takenInAll c0)]) (wr := zLW G a c1 ou) (w1 := fun _ : Unit => zMW G a (zM_takenInAll t)) (wj := fun _ : Unit => zLW G a c1 ou ++ zMW G a (zM_takenInAll t)) (ci := 4) (q0 := 18) F (q_M_takenInAll l G a t z2) gL_law_X4_takenInAll rfl rfl rfl zd_X4_takenInAll ⟨Nat.le_of_ble_eq_true rfl, Nat.le_of_ble_eq_true rfl⟩ rfl rfl (Nat.le_of_ble_eq_true rfl) dL_law_820 ⟨by show cells + 0 + 0 ≤ 601024; omega, by show slots + 0 + 0 ≤ 7293034; omega⟩ hK hP hD hS hA hl.1 rfl rfl [18, 19, 20, 21, 22, 23, 24, 25, 26, 27] [0, 1, 2, 3, 4, 5, 6, 7, 8, 9, 10, 11, 12, 13, 14, 15, 16, 17] [0, 1, 2, 3, 4, 5, 6, 7, 8, 9, 10, 11, 12, 13, 14, 15, 16, 17, 18, 19, 20, 21, 22, 23, 24, 25, 26, 27] rfl rfl rfl rfl (by decide) rfl (fun _ => rfl) (fun _ H locs hP hD hS => ?_)
  have hP : va_P G.1 vwCl (zLW G a c1 ou ++ zMW G a (zM_takenInAll t)) H := hP
  have hD : va_D (fun q => s.heap.size ≤ q) (zLW G a c1 ou ++ zMW G a (zM_takenInAll t)) := hD
  generalize zM_takenInAll t = t1 at hP hD hR2
  refine lv_icmp_eq (tgt := 1554) hx hb dL_law_823 (by decide) (fun _ => ?_) (fun z => absurd e1 z)
  refine W.widen (k := cells + 1) (n := slots + 12) (by omega) (by omega) ?_
  exact kk c1 t1 ou H locs ls hR2 hP hD hS (lv_sub hl [0, 1, 2, 3, 4] rfl)
set_option maxHeartbeats 4000000 in
set_option maxRecDepth 100000 in
theorem k_amountsToHave {p : Program} {l : Launch} {e : Env} {s : State} {m : MethodId} {below : List Frame} {meth : Method} {c : Code} {b L : Nat} {xs : Nat → Int32} {G : zG} {a : Nat → Nat} {Q : State → Prop} (F : CallFix p m c cL_law 9 s #[.ref b] wsL_law RL) (hst : l.stackTraces = false) (hK : zK G s) (hZ : zZ (fun q => s.heap.size ≤ q) s s.heap) (hX : va_X b L xs s s.heap) (hbl : b < s.heap.size) {cells slots : Nat} (hc : cells + 1 ≤ 601024) (hsl : slots + 12 ≤ 7293034) {i : Nat} (hi : i + 4 ≤ L) (hL : L ≤ 2048) {c0 : zS} {t : zM} {ou : Nat → Int64} (hR : zRel c0 t) {H : Heap} {locs : List Loc} {ls : Array Slot} (hP : va_P G.1 vwCl (zLW G a c0 ou ++ zMW G a t) H) (hD : va_D (fun q => s.heap.size ≤ q) (zLW G a c0 ou ++ zMW G a t)) (hS : va_S (fun q => s.heap.size ≤ q) s.heap H locs) (hl : lv_has ls 9 [(4, .int (nI i)), (0, .ref b), (1, .ref (a 0)), (2, .ref (a 18)), (3, .ref (a 17))])
    (kk : ∀ (c0 : zS) (t : zM) (ou : Nat → Int64) (H : Heap) (locs : List Loc) (ls : Array Slot), zRel c0 t → va_P G.1 vwCl (zLW G a c0 ou ++ zMW G a t) H → va_D (fun q => s.heap.size ≤ q) (zLW G a c0 ou ++ zMW G a t) → va_S (fun q => s.heap.size ≤ q) s.heap H locs → lv_has ls 9 [(4, .int (nI i)), (0, .ref b), (1, .ref (a 0)), (2, .ref (a 18)), (3, .ref (a 17))] → W p l e room_1 s m #[.ref b] below meth c H locs (cells + 1) (slots + 12) Q (F0 m 1554 ls [])) :
    W p l e room_1 s m #[.ref b] below meth c H locs cells slots Q (F0 m 1071 ls []) := by
  obtain ⟨hx, hb, hml, hown, hts⟩ := id F
  have hA : ∀ q : Nat, s.heap.size ≤ q → (fun q : Nat => s.heap.size ≤ q) q := fun _ h => h
  have hbA : ¬ (fun q : Nat => s.heap.size ≤ q) b := Nat.not_le.mpr hbl
  obtain ⟨z1, z2, e1, hR2⟩ := u_amountsToHave hR
  refine lv_aload_n hx hb dL_law_1071 rfl (lv_at hl 2 rfl) ?_
  refine z_callV (As := []) (rest := []) (wr := ([(a 17, .inl (G.2.2.2, 1, .inr (.inl ou)))] : va_W) ++ zMW G a t) (w1 := fun _ : Unit => zCW3 G a (zS_amountsToHave c0)) (wj := fun _ : Unit => zLW G a (zS_amountsToHave c0) ou ++ zMW G a t) (ci := 3) (q0 := 0) F (q_C_amountsToHave l G a c0 z1) gL_law_X3_amountsToHave rfl rfl rfl zd_X3_amountsToHave ⟨Nat.le_of_ble_eq_true rfl, Nat.le_of_ble_eq_true rfl⟩ rfl rfl (Nat.le_of_ble_eq_true rfl) dL_law_1072 ⟨by show cells + 0 ≤ 601024; omega, by show slots + 0 ≤ 7293034; omega⟩ hK hP hD hS hA hl.1 rfl rfl [0, 1, 2, 3, 4, 5, 6, 7, 8, 9, 10, 11, 12, 13, 14, 15, 16] [17, 18, 19, 20, 21, 22, 23, 24, 25, 26, 27] [11, 12, 13, 14, 15, 16, 17, 18, 19, 20, 21, 22, 23, 24, 25, 26, 27, 0, 1, 2, 3, 4, 5, 6, 7, 8, 9, 10] rfl rfl rfl rfl (by decide) rfl (fun _ => rfl) (fun _ H locs hP hD hS => ?_)
  have hP : va_P G.1 vwCl (zLW G a (zS_amountsToHave c0) ou ++ zMW G a t) H := hP
  have hD : va_D (fun q => s.heap.size ≤ q) (zLW G a (zS_amountsToHave c0) ou ++ zMW G a t) := hD
  generalize zS_amountsToHave c0 = c1 at hP hD hR2
  refine lv_aload_n hx hb dL_law_1075 rfl (lv_at hl 3 rfl) ?_
  refine z_callV (As := []) (rest := [.int (zk_amountsToHave c0)]) (wr := zLW G a c1 ou) (w1 := fun _ : Unit => zMW G a (zM_amountsToHave t)) (wj := fun _ : Unit => zLW G a c1 ou ++ zMW G a (zM_amountsToHave t)) (ci := 4) (q0 := 18) F (q_M_amountsToHave l G a t z2) gL_law_X4_amountsToHave rfl rfl rfl zd_X4_amountsToHave ⟨Nat.le_of_ble_eq_true rfl, Nat.le_of_ble_eq_true rfl⟩ rfl rfl (Nat.le_of_ble_eq_true rfl) dL_law_1076 ⟨by show cells + 0 + 0 ≤ 601024; omega, by show slots + 0 + 0 ≤ 7293034; omega⟩ hK hP hD hS hA hl.1 rfl rfl [18, 19, 20, 21, 22, 23, 24, 25, 26, 27] [0, 1, 2, 3, 4, 5, 6, 7, 8, 9, 10, 11, 12, 13, 14, 15, 16, 17] [0, 1, 2, 3, 4, 5, 6, 7, 8, 9, 10, 11, 12, 13, 14, 15, 16, 17, 18, 19, 20, 21, 22, 23, 24, 25, 26, 27] rfl rfl rfl rfl (by decide) rfl (fun _ => rfl) (fun _ H locs hP hD hS => ?_)
  have hP : va_P G.1 vwCl (zLW G a c1 ou ++ zMW G a (zM_amountsToHave t)) H := hP
  have hD : va_D (fun q => s.heap.size ≤ q) (zLW G a c1 ou ++ zMW G a (zM_amountsToHave t)) := hD
  generalize zM_amountsToHave t = t1 at hP hD hR2
  refine lv_icmp_eq (tgt := 1554) hx hb dL_law_1079 (by decide) (fun _ => ?_) (fun z => absurd e1 z)
  refine W.widen (k := cells + 1) (n := slots + 12) (by omega) (by omega) ?_
  exact kk c1 t1 ou H locs ls hR2 hP hD hS (lv_sub hl [0, 1, 2, 3, 4] rfl)
set_option maxHeartbeats 4000000 in
set_option maxRecDepth 100000 in
theorem k_statesToReach {p : Program} {l : Launch} {e : Env} {s : State} {m : MethodId} {below : List Frame} {meth : Method} {c : Code} {b L : Nat} {xs : Nat → Int32} {G : zG} {a : Nat → Nat} {Q : State → Prop} (F : CallFix p m c cL_law 9 s #[.ref b] wsL_law RL) (hst : l.stackTraces = false) (hK : zK G s) (hZ : zZ (fun q => s.heap.size ≤ q) s s.heap) (hX : va_X b L xs s s.heap) (hbl : b < s.heap.size) {cells slots : Nat} (hc : cells + 1 ≤ 601024) (hsl : slots + 12 ≤ 7293034) {i : Nat} (hi : i + 4 ≤ L) (hL : L ≤ 2048) {c0 : zS} {t : zM} {ou : Nat → Int64} (hR : zRel c0 t) {H : Heap} {locs : List Loc} {ls : Array Slot} (hP : va_P G.1 vwCl (zLW G a c0 ou ++ zMW G a t) H) (hD : va_D (fun q => s.heap.size ≤ q) (zLW G a c0 ou ++ zMW G a t)) (hS : va_S (fun q => s.heap.size ≤ q) s.heap H locs) (hl : lv_has ls 9 [(4, .int (nI i)), (0, .ref b), (1, .ref (a 0)), (2, .ref (a 18)), (3, .ref (a 17))])
    (kk : ∀ (c0 : zS) (t : zM) (ou : Nat → Int64) (H : Heap) (locs : List Loc) (ls : Array Slot), zRel c0 t → va_P G.1 vwCl (zLW G a c0 ou ++ zMW G a t) H → va_D (fun q => s.heap.size ≤ q) (zLW G a c0 ou ++ zMW G a t) → va_S (fun q => s.heap.size ≤ q) s.heap H locs → lv_has ls 9 [(4, .int (nI i)), (0, .ref b), (1, .ref (a 0)), (2, .ref (a 18)), (3, .ref (a 17))] → W p l e room_1 s m #[.ref b] below meth c H locs (cells + 1) (slots + 12) Q (F0 m 1554 ls [])) :
    W p l e room_1 s m #[.ref b] below meth c H locs cells slots Q (F0 m 1084 ls []) := by
  obtain ⟨hx, hb, hml, hown, hts⟩ := id F
  have hA : ∀ q : Nat, s.heap.size ≤ q → (fun q : Nat => s.heap.size ≤ q) q := fun _ h => h
  have hbA : ¬ (fun q : Nat => s.heap.size ≤ q) b := Nat.not_le.mpr hbl
  obtain ⟨z1, z2, e1, hR2⟩ := u_statesToReach hR
  refine lv_aload_n hx hb dL_law_1084 rfl (lv_at hl 2 rfl) ?_
  refine z_callV (As := []) (rest := []) (wr := ([(a 17, .inl (G.2.2.2, 1, .inr (.inl ou)))] : va_W) ++ zMW G a t) (w1 := fun _ : Unit => zCW3 G a (zS_statesToReach c0)) (wj := fun _ : Unit => zLW G a (zS_statesToReach c0) ou ++ zMW G a t) (ci := 3) (q0 := 0) F (q_C_statesToReach l G a c0 z1) gL_law_X3_statesToReach rfl rfl rfl zd_X3_statesToReach ⟨Nat.le_of_ble_eq_true rfl, Nat.le_of_ble_eq_true rfl⟩ rfl rfl (Nat.le_of_ble_eq_true rfl) dL_law_1085 ⟨by show cells + 0 ≤ 601024; omega, by show slots + 0 ≤ 7293034; omega⟩ hK hP hD hS hA hl.1 rfl rfl [0, 1, 2, 3, 4, 5, 6, 7, 8, 9, 10, 11, 12, 13, 14, 15, 16] [17, 18, 19, 20, 21, 22, 23, 24, 25, 26, 27] [11, 12, 13, 14, 15, 16, 17, 18, 19, 20, 21, 22, 23, 24, 25, 26, 27, 0, 1, 2, 3, 4, 5, 6, 7, 8, 9, 10] rfl rfl rfl rfl (by decide) rfl (fun _ => rfl) (fun _ H locs hP hD hS => ?_)
  have hP : va_P G.1 vwCl (zLW G a (zS_statesToReach c0) ou ++ zMW G a t) H := hP
  have hD : va_D (fun q => s.heap.size ≤ q) (zLW G a (zS_statesToReach c0) ou ++ zMW G a t) := hD
  generalize zS_statesToReach c0 = c1 at hP hD hR2
  refine lv_aload_n hx hb dL_law_1088 rfl (lv_at hl 3 rfl) ?_
  refine z_callV (As := []) (rest := [.int (zk_statesToReach c0)]) (wr := zLW G a c1 ou) (w1 := fun _ : Unit => zMW G a (zM_statesToReach t)) (wj := fun _ : Unit => zLW G a c1 ou ++ zMW G a (zM_statesToReach t)) (ci := 4) (q0 := 18) F (q_M_statesToReach l G a t z2) gL_law_X4_statesToReach rfl rfl rfl zd_X4_statesToReach ⟨Nat.le_of_ble_eq_true rfl, Nat.le_of_ble_eq_true rfl⟩ rfl rfl (Nat.le_of_ble_eq_true rfl) dL_law_1089 ⟨by show cells + 0 + 0 ≤ 601024; omega, by show slots + 0 + 0 ≤ 7293034; omega⟩ hK hP hD hS hA hl.1 rfl rfl [18, 19, 20, 21, 22, 23, 24, 25, 26, 27] [0, 1, 2, 3, 4, 5, 6, 7, 8, 9, 10, 11, 12, 13, 14, 15, 16, 17] [0, 1, 2, 3, 4, 5, 6, 7, 8, 9, 10, 11, 12, 13, 14, 15, 16, 17, 18, 19, 20, 21, 22, 23, 24, 25, 26, 27] rfl rfl rfl rfl (by decide) rfl (fun _ => rfl) (fun _ H locs hP hD hS => ?_)
  have hP : va_P G.1 vwCl (zLW G a c1 ou ++ zMW G a (zM_statesToReach t)) H := hP
  have hD : va_D (fun q => s.heap.size ≤ q) (zLW G a c1 ou ++ zMW G a (zM_statesToReach t)) := hD
  generalize zM_statesToReach t = t1 at hP hD hR2
  refine lv_icmp_eq (tgt := 1554) hx hb dL_law_1092 (by decide) (fun _ => ?_) (fun z => absurd e1 z)
  refine W.widen (k := cells + 1) (n := slots + 12) (by omega) (by omega) ?_
  exact kk c1 t1 ou H locs ls hR2 hP hD hS (lv_sub hl [0, 1, 2, 3, 4] rfl)
set_option maxHeartbeats 4000000 in
set_option maxRecDepth 100000 in
theorem k_farthest {p : Program} {l : Launch} {e : Env} {s : State} {m : MethodId} {below : List Frame} {meth : Method} {c : Code} {b L : Nat} {xs : Nat → Int32} {G : zG} {a : Nat → Nat} {Q : State → Prop} (F : CallFix p m c cL_law 9 s #[.ref b] wsL_law RL) (hst : l.stackTraces = false) (hK : zK G s) (hZ : zZ (fun q => s.heap.size ≤ q) s s.heap) (hX : va_X b L xs s s.heap) (hbl : b < s.heap.size) {cells slots : Nat} (hc : cells + 1 ≤ 601024) (hsl : slots + 12 ≤ 7293034) {i : Nat} (hi : i + 4 ≤ L) (hL : L ≤ 2048) {c0 : zS} {t : zM} {ou : Nat → Int64} (hR : zRel c0 t) {H : Heap} {locs : List Loc} {ls : Array Slot} (hP : va_P G.1 vwCl (zLW G a c0 ou ++ zMW G a t) H) (hD : va_D (fun q => s.heap.size ≤ q) (zLW G a c0 ou ++ zMW G a t)) (hS : va_S (fun q => s.heap.size ≤ q) s.heap H locs) (hl : lv_has ls 9 [(4, .int (nI i)), (0, .ref b), (1, .ref (a 0)), (2, .ref (a 18)), (3, .ref (a 17))])
    (kk : ∀ (c0 : zS) (t : zM) (ou : Nat → Int64) (H : Heap) (locs : List Loc) (ls : Array Slot), zRel c0 t → va_P G.1 vwCl (zLW G a c0 ou ++ zMW G a t) H → va_D (fun q => s.heap.size ≤ q) (zLW G a c0 ou ++ zMW G a t) → va_S (fun q => s.heap.size ≤ q) s.heap H locs → lv_has ls 9 [(4, .int (nI i)), (0, .ref b), (1, .ref (a 0)), (2, .ref (a 18)), (3, .ref (a 17))] → W p l e room_1 s m #[.ref b] below meth c H locs (cells + 1) (slots + 12) Q (F0 m 1554 ls [])) :
    W p l e room_1 s m #[.ref b] below meth c H locs cells slots Q (F0 m 1153 ls []) := by
  obtain ⟨hx, hb, hml, hown, hts⟩ := id F
  have hA : ∀ q : Nat, s.heap.size ≤ q → (fun q : Nat => s.heap.size ≤ q) q := fun _ h => h
  have hbA : ¬ (fun q : Nat => s.heap.size ≤ q) b := Nat.not_le.mpr hbl
  obtain ⟨z1, z2, e1, hR2⟩ := u_farthest hR
  refine lv_aload_n hx hb dL_law_1153 rfl (lv_at hl 2 rfl) ?_
  refine z_callV (As := []) (rest := []) (wr := ([(a 17, .inl (G.2.2.2, 1, .inr (.inl ou)))] : va_W) ++ zMW G a t) (w1 := fun _ : Unit => zCW3 G a (zS_farthest c0)) (wj := fun _ : Unit => zLW G a (zS_farthest c0) ou ++ zMW G a t) (ci := 3) (q0 := 0) F (q_C_farthest l G a c0 z1) gL_law_X3_farthest rfl rfl rfl zd_X3_farthest ⟨Nat.le_of_ble_eq_true rfl, Nat.le_of_ble_eq_true rfl⟩ rfl rfl (Nat.le_of_ble_eq_true rfl) dL_law_1154 ⟨by show cells + 0 ≤ 601024; omega, by show slots + 0 ≤ 7293034; omega⟩ hK hP hD hS hA hl.1 rfl rfl [0, 1, 2, 3, 4, 5, 6, 7, 8, 9, 10, 11, 12, 13, 14, 15, 16] [17, 18, 19, 20, 21, 22, 23, 24, 25, 26, 27] [11, 12, 13, 14, 15, 16, 17, 18, 19, 20, 21, 22, 23, 24, 25, 26, 27, 0, 1, 2, 3, 4, 5, 6, 7, 8, 9, 10] rfl rfl rfl rfl (by decide) rfl (fun _ => rfl) (fun _ H locs hP hD hS => ?_)
  have hP : va_P G.1 vwCl (zLW G a (zS_farthest c0) ou ++ zMW G a t) H := hP
  have hD : va_D (fun q => s.heap.size ≤ q) (zLW G a (zS_farthest c0) ou ++ zMW G a t) := hD
  generalize zS_farthest c0 = c1 at hP hD hR2
  refine lv_aload_n hx hb dL_law_1157 rfl (lv_at hl 3 rfl) ?_
  refine z_callV (As := []) (rest := [.int (zk_farthest c0)]) (wr := zLW G a c1 ou) (w1 := fun _ : Unit => zMW G a (zM_farthest t)) (wj := fun _ : Unit => zLW G a c1 ou ++ zMW G a (zM_farthest t)) (ci := 4) (q0 := 18) F (q_M_farthest l G a t z2) gL_law_X4_farthest rfl rfl rfl zd_X4_farthest ⟨Nat.le_of_ble_eq_true rfl, Nat.le_of_ble_eq_true rfl⟩ rfl rfl (Nat.le_of_ble_eq_true rfl) dL_law_1158 ⟨by show cells + 0 + 0 ≤ 601024; omega, by show slots + 0 + 0 ≤ 7293034; omega⟩ hK hP hD hS hA hl.1 rfl rfl [18, 19, 20, 21, 22, 23, 24, 25, 26, 27] [0, 1, 2, 3, 4, 5, 6, 7, 8, 9, 10, 11, 12, 13, 14, 15, 16, 17] [0, 1, 2, 3, 4, 5, 6, 7, 8, 9, 10, 11, 12, 13, 14, 15, 16, 17, 18, 19, 20, 21, 22, 23, 24, 25, 26, 27] rfl rfl rfl rfl (by decide) rfl (fun _ => rfl) (fun _ H locs hP hD hS => ?_)
  have hP : va_P G.1 vwCl (zLW G a c1 ou ++ zMW G a (zM_farthest t)) H := hP
  have hD : va_D (fun q => s.heap.size ≤ q) (zLW G a c1 ou ++ zMW G a (zM_farthest t)) := hD
  generalize zM_farthest t = t1 at hP hD hR2
  refine lv_icmp_eq (tgt := 1554) hx hb dL_law_1161 (by decide) (fun _ => ?_) (fun z => absurd e1 z)
  refine W.widen (k := cells + 1) (n := slots + 12) (by omega) (by omega) ?_
  exact kk c1 t1 ou H locs ls hR2 hP hD hS (lv_sub hl [0, 1, 2, 3, 4] rfl)
set_option maxHeartbeats 4000000 in
set_option maxRecDepth 100000 in
theorem k_candidates {p : Program} {l : Launch} {e : Env} {s : State} {m : MethodId} {below : List Frame} {meth : Method} {c : Code} {b L : Nat} {xs : Nat → Int32} {G : zG} {a : Nat → Nat} {Q : State → Prop} (F : CallFix p m c cL_law 9 s #[.ref b] wsL_law RL) (hst : l.stackTraces = false) (hK : zK G s) (hZ : zZ (fun q => s.heap.size ≤ q) s s.heap) (hX : va_X b L xs s s.heap) (hbl : b < s.heap.size) {cells slots : Nat} (hc : cells + 1 ≤ 601024) (hsl : slots + 12 ≤ 7293034) {i : Nat} (hi : i + 4 ≤ L) (hL : L ≤ 2048) {c0 : zS} {t : zM} {ou : Nat → Int64} (hR : zRel c0 t) {H : Heap} {locs : List Loc} {ls : Array Slot} (hP : va_P G.1 vwCl (zLW G a c0 ou ++ zMW G a t) H) (hD : va_D (fun q => s.heap.size ≤ q) (zLW G a c0 ou ++ zMW G a t)) (hS : va_S (fun q => s.heap.size ≤ q) s.heap H locs) (hl : lv_has ls 9 [(4, .int (nI i)), (0, .ref b), (1, .ref (a 0)), (2, .ref (a 18)), (3, .ref (a 17))])
    (kk : ∀ (c0 : zS) (t : zM) (ou : Nat → Int64) (H : Heap) (locs : List Loc) (ls : Array Slot), zRel c0 t → va_P G.1 vwCl (zLW G a c0 ou ++ zMW G a t) H → va_D (fun q => s.heap.size ≤ q) (zLW G a c0 ou ++ zMW G a t) → va_S (fun q => s.heap.size ≤ q) s.heap H locs → lv_has ls 9 [(4, .int (nI i)), (0, .ref b), (1, .ref (a 0)), (2, .ref (a 18)), (3, .ref (a 17))] → W p l e room_1 s m #[.ref b] below meth c H locs (cells + 1) (slots + 12) Q (F0 m 1554 ls [])) :
    W p l e room_1 s m #[.ref b] below meth c H locs cells slots Q (F0 m 1166 ls []) := by
  obtain ⟨hx, hb, hml, hown, hts⟩ := id F
  have hA : ∀ q : Nat, s.heap.size ≤ q → (fun q : Nat => s.heap.size ≤ q) q := fun _ h => h
  have hbA : ¬ (fun q : Nat => s.heap.size ≤ q) b := Nat.not_le.mpr hbl
  obtain ⟨z1, z2, e1, hR2⟩ := u_candidates hR
  refine lv_aload_n hx hb dL_law_1166 rfl (lv_at hl 2 rfl) ?_
  refine z_callV (As := []) (rest := []) (wr := ([(a 17, .inl (G.2.2.2, 1, .inr (.inl ou)))] : va_W) ++ zMW G a t) (w1 := fun _ : Unit => zCW3 G a (zS_candidates c0)) (wj := fun _ : Unit => zLW G a (zS_candidates c0) ou ++ zMW G a t) (ci := 3) (q0 := 0) F (q_C_candidates l G a c0 z1) gL_law_X3_candidates rfl rfl rfl zd_X3_candidates ⟨Nat.le_of_ble_eq_true rfl, Nat.le_of_ble_eq_true rfl⟩ rfl rfl (Nat.le_of_ble_eq_true rfl) dL_law_1167 ⟨by show cells + 0 ≤ 601024; omega, by show slots + 0 ≤ 7293034; omega⟩ hK hP hD hS hA hl.1 rfl rfl [0, 1, 2, 3, 4, 5, 6, 7, 8, 9, 10, 11, 12, 13, 14, 15, 16] [17, 18, 19, 20, 21, 22, 23, 24, 25, 26, 27] [11, 12, 13, 14, 15, 16, 17, 18, 19, 20, 21, 22, 23, 24, 25, 26, 27, 0, 1, 2, 3, 4, 5, 6, 7, 8, 9, 10] rfl rfl rfl rfl (by decide) rfl (fun _ => rfl) (fun _ H locs hP hD hS => ?_)
  have hP : va_P G.1 vwCl (zLW G a (zS_candidates c0) ou ++ zMW G a t) H := hP
  have hD : va_D (fun q => s.heap.size ≤ q) (zLW G a (zS_candidates c0) ou ++ zMW G a t) := hD
  generalize zS_candidates c0 = c1 at hP hD hR2
  refine lv_aload_n hx hb dL_law_1170 rfl (lv_at hl 3 rfl) ?_
  refine z_callV (As := []) (rest := [.int (zk_candidates c0)]) (wr := zLW G a c1 ou) (w1 := fun _ : Unit => zMW G a (zM_candidates t)) (wj := fun _ : Unit => zLW G a c1 ou ++ zMW G a (zM_candidates t)) (ci := 4) (q0 := 18) F (q_M_candidates l G a t z2) gL_law_X4_candidates rfl rfl rfl zd_X4_candidates ⟨Nat.le_of_ble_eq_true rfl, Nat.le_of_ble_eq_true rfl⟩ rfl rfl (Nat.le_of_ble_eq_true rfl) dL_law_1171 ⟨by show cells + 0 + 0 ≤ 601024; omega, by show slots + 0 + 0 ≤ 7293034; omega⟩ hK hP hD hS hA hl.1 rfl rfl [18, 19, 20, 21, 22, 23, 24, 25, 26, 27] [0, 1, 2, 3, 4, 5, 6, 7, 8, 9, 10, 11, 12, 13, 14, 15, 16, 17] [0, 1, 2, 3, 4, 5, 6, 7, 8, 9, 10, 11, 12, 13, 14, 15, 16, 17, 18, 19, 20, 21, 22, 23, 24, 25, 26, 27] rfl rfl rfl rfl (by decide) rfl (fun _ => rfl) (fun _ H locs hP hD hS => ?_)
  have hP : va_P G.1 vwCl (zLW G a c1 ou ++ zMW G a (zM_candidates t)) H := hP
  have hD : va_D (fun q => s.heap.size ≤ q) (zLW G a c1 ou ++ zMW G a (zM_candidates t)) := hD
  generalize zM_candidates t = t1 at hP hD hR2
  refine lv_icmp_eq (tgt := 1554) hx hb dL_law_1174 (by decide) (fun _ => ?_) (fun z => absurd e1 z)
  refine W.widen (k := cells + 1) (n := slots + 12) (by omega) (by omega) ?_
  exact kk c1 t1 ou H locs ls hR2 hP hD hS (lv_sub hl [0, 1, 2, 3, 4] rfl)
set_option maxHeartbeats 4000000 in
set_option maxRecDepth 100000 in
theorem k_guesses {p : Program} {l : Launch} {e : Env} {s : State} {m : MethodId} {below : List Frame} {meth : Method} {c : Code} {b L : Nat} {xs : Nat → Int32} {G : zG} {a : Nat → Nat} {Q : State → Prop} (F : CallFix p m c cL_law 9 s #[.ref b] wsL_law RL) (hst : l.stackTraces = false) (hK : zK G s) (hZ : zZ (fun q => s.heap.size ≤ q) s s.heap) (hX : va_X b L xs s s.heap) (hbl : b < s.heap.size) {cells slots : Nat} (hc : cells + 1 ≤ 601024) (hsl : slots + 12 ≤ 7293034) {i : Nat} (hi : i + 4 ≤ L) (hL : L ≤ 2048) {c0 : zS} {t : zM} {ou : Nat → Int64} (hR : zRel c0 t) {H : Heap} {locs : List Loc} {ls : Array Slot} (hP : va_P G.1 vwCl (zLW G a c0 ou ++ zMW G a t) H) (hD : va_D (fun q => s.heap.size ≤ q) (zLW G a c0 ou ++ zMW G a t)) (hS : va_S (fun q => s.heap.size ≤ q) s.heap H locs) (hl : lv_has ls 9 [(4, .int (nI i)), (0, .ref b), (1, .ref (a 0)), (2, .ref (a 18)), (3, .ref (a 17))])
    (kk : ∀ (c0 : zS) (t : zM) (ou : Nat → Int64) (H : Heap) (locs : List Loc) (ls : Array Slot), zRel c0 t → va_P G.1 vwCl (zLW G a c0 ou ++ zMW G a t) H → va_D (fun q => s.heap.size ≤ q) (zLW G a c0 ou ++ zMW G a t) → va_S (fun q => s.heap.size ≤ q) s.heap H locs → lv_has ls 9 [(4, .int (nI i)), (0, .ref b), (1, .ref (a 0)), (2, .ref (a 18)), (3, .ref (a 17))] → W p l e room_1 s m #[.ref b] below meth c H locs (cells + 1) (slots + 12) Q (F0 m 1554 ls [])) :
    W p l e room_1 s m #[.ref b] below meth c H locs cells slots Q (F0 m 1392 ls []) := by
  obtain ⟨hx, hb, hml, hown, hts⟩ := id F
  have hA : ∀ q : Nat, s.heap.size ≤ q → (fun q : Nat => s.heap.size ≤ q) q := fun _ h => h
  have hbA : ¬ (fun q : Nat => s.heap.size ≤ q) b := Nat.not_le.mpr hbl
  obtain ⟨z1, z2, e1, hR2⟩ := u_guesses hR
  refine lv_aload_n hx hb dL_law_1392 rfl (lv_at hl 2 rfl) ?_
  refine z_callV (As := []) (rest := []) (wr := ([(a 17, .inl (G.2.2.2, 1, .inr (.inl ou)))] : va_W) ++ zMW G a t) (w1 := fun _ : Unit => zCW3 G a (zS_guesses c0)) (wj := fun _ : Unit => zLW G a (zS_guesses c0) ou ++ zMW G a t) (ci := 3) (q0 := 0) F (q_C_guesses l G a c0 z1) gL_law_X3_guesses rfl rfl rfl zd_X3_guesses ⟨Nat.le_of_ble_eq_true rfl, Nat.le_of_ble_eq_true rfl⟩ rfl rfl (Nat.le_of_ble_eq_true rfl) dL_law_1393 ⟨by show cells + 0 ≤ 601024; omega, by show slots + 0 ≤ 7293034; omega⟩ hK hP hD hS hA hl.1 rfl rfl [0, 1, 2, 3, 4, 5, 6, 7, 8, 9, 10, 11, 12, 13, 14, 15, 16] [17, 18, 19, 20, 21, 22, 23, 24, 25, 26, 27] [11, 12, 13, 14, 15, 16, 17, 18, 19, 20, 21, 22, 23, 24, 25, 26, 27, 0, 1, 2, 3, 4, 5, 6, 7, 8, 9, 10] rfl rfl rfl rfl (by decide) rfl (fun _ => rfl) (fun _ H locs hP hD hS => ?_)
  have hP : va_P G.1 vwCl (zLW G a (zS_guesses c0) ou ++ zMW G a t) H := hP
  have hD : va_D (fun q => s.heap.size ≤ q) (zLW G a (zS_guesses c0) ou ++ zMW G a t) := hD
  generalize zS_guesses c0 = c1 at hP hD hR2
  refine lv_aload_n hx hb dL_law_1396 rfl (lv_at hl 3 rfl) ?_
  refine z_callV (As := []) (rest := [.int (zk_guesses c0)]) (wr := zLW G a c1 ou) (w1 := fun _ : Unit => zMW G a (zM_guesses t)) (wj := fun _ : Unit => zLW G a c1 ou ++ zMW G a (zM_guesses t)) (ci := 4) (q0 := 18) F (q_M_guesses l G a t z2) gL_law_X4_guesses rfl rfl rfl zd_X4_guesses ⟨Nat.le_of_ble_eq_true rfl, Nat.le_of_ble_eq_true rfl⟩ rfl rfl (Nat.le_of_ble_eq_true rfl) dL_law_1397 ⟨by show cells + 0 + 0 ≤ 601024; omega, by show slots + 0 + 0 ≤ 7293034; omega⟩ hK hP hD hS hA hl.1 rfl rfl [18, 19, 20, 21, 22, 23, 24, 25, 26, 27] [0, 1, 2, 3, 4, 5, 6, 7, 8, 9, 10, 11, 12, 13, 14, 15, 16, 17] [0, 1, 2, 3, 4, 5, 6, 7, 8, 9, 10, 11, 12, 13, 14, 15, 16, 17, 18, 19, 20, 21, 22, 23, 24, 25, 26, 27] rfl rfl rfl rfl (by decide) rfl (fun _ => rfl) (fun _ H locs hP hD hS => ?_)
  have hP : va_P G.1 vwCl (zLW G a c1 ou ++ zMW G a (zM_guesses t)) H := hP
  have hD : va_D (fun q => s.heap.size ≤ q) (zLW G a c1 ou ++ zMW G a (zM_guesses t)) := hD
  generalize zM_guesses t = t1 at hP hD hR2
  refine lv_icmp_eq (tgt := 1554) hx hb dL_law_1400 (by decide) (fun _ => ?_) (fun z => absurd e1 z)
  refine W.widen (k := cells + 1) (n := slots + 12) (by omega) (by omega) ?_
  exact kk c1 t1 ou H locs ls hR2 hP hD hS (lv_sub hl [0, 1, 2, 3, 4] rfl)
set_option maxHeartbeats 4000000 in
set_option maxRecDepth 100000 in
theorem k_wrongGuesses {p : Program} {l : Launch} {e : Env} {s : State} {m : MethodId} {below : List Frame} {meth : Method} {c : Code} {b L : Nat} {xs : Nat → Int32} {G : zG} {a : Nat → Nat} {Q : State → Prop} (F : CallFix p m c cL_law 9 s #[.ref b] wsL_law RL) (hst : l.stackTraces = false) (hK : zK G s) (hZ : zZ (fun q => s.heap.size ≤ q) s s.heap) (hX : va_X b L xs s s.heap) (hbl : b < s.heap.size) {cells slots : Nat} (hc : cells + 1 ≤ 601024) (hsl : slots + 12 ≤ 7293034) {i : Nat} (hi : i + 4 ≤ L) (hL : L ≤ 2048) {c0 : zS} {t : zM} {ou : Nat → Int64} (hR : zRel c0 t) {H : Heap} {locs : List Loc} {ls : Array Slot} (hP : va_P G.1 vwCl (zLW G a c0 ou ++ zMW G a t) H) (hD : va_D (fun q => s.heap.size ≤ q) (zLW G a c0 ou ++ zMW G a t)) (hS : va_S (fun q => s.heap.size ≤ q) s.heap H locs) (hl : lv_has ls 9 [(4, .int (nI i)), (0, .ref b), (1, .ref (a 0)), (2, .ref (a 18)), (3, .ref (a 17))])
    (kk : ∀ (c0 : zS) (t : zM) (ou : Nat → Int64) (H : Heap) (locs : List Loc) (ls : Array Slot), zRel c0 t → va_P G.1 vwCl (zLW G a c0 ou ++ zMW G a t) H → va_D (fun q => s.heap.size ≤ q) (zLW G a c0 ou ++ zMW G a t) → va_S (fun q => s.heap.size ≤ q) s.heap H locs → lv_has ls 9 [(4, .int (nI i)), (0, .ref b), (1, .ref (a 0)), (2, .ref (a 18)), (3, .ref (a 17))] → W p l e room_1 s m #[.ref b] below meth c H locs (cells + 1) (slots + 12) Q (F0 m 1554 ls [])) :
    W p l e room_1 s m #[.ref b] below meth c H locs cells slots Q (F0 m 1405 ls []) := by
  obtain ⟨hx, hb, hml, hown, hts⟩ := id F
  have hA : ∀ q : Nat, s.heap.size ≤ q → (fun q : Nat => s.heap.size ≤ q) q := fun _ h => h
  have hbA : ¬ (fun q : Nat => s.heap.size ≤ q) b := Nat.not_le.mpr hbl
  obtain ⟨z1, z2, e1, hR2⟩ := u_wrongGuesses hR
  refine lv_aload_n hx hb dL_law_1405 rfl (lv_at hl 2 rfl) ?_
  refine z_callV (As := []) (rest := []) (wr := ([(a 17, .inl (G.2.2.2, 1, .inr (.inl ou)))] : va_W) ++ zMW G a t) (w1 := fun _ : Unit => zCW3 G a (zS_wrongGuesses c0)) (wj := fun _ : Unit => zLW G a (zS_wrongGuesses c0) ou ++ zMW G a t) (ci := 3) (q0 := 0) F (q_C_wrongGuesses l G a c0 z1) gL_law_X3_wrongGuesses rfl rfl rfl zd_X3_wrongGuesses ⟨Nat.le_of_ble_eq_true rfl, Nat.le_of_ble_eq_true rfl⟩ rfl rfl (Nat.le_of_ble_eq_true rfl) dL_law_1406 ⟨by show cells + 0 ≤ 601024; omega, by show slots + 0 ≤ 7293034; omega⟩ hK hP hD hS hA hl.1 rfl rfl [0, 1, 2, 3, 4, 5, 6, 7, 8, 9, 10, 11, 12, 13, 14, 15, 16] [17, 18, 19, 20, 21, 22, 23, 24, 25, 26, 27] [11, 12, 13, 14, 15, 16, 17, 18, 19, 20, 21, 22, 23, 24, 25, 26, 27, 0, 1, 2, 3, 4, 5, 6, 7, 8, 9, 10] rfl rfl rfl rfl (by decide) rfl (fun _ => rfl) (fun _ H locs hP hD hS => ?_)
  have hP : va_P G.1 vwCl (zLW G a (zS_wrongGuesses c0) ou ++ zMW G a t) H := hP
  have hD : va_D (fun q => s.heap.size ≤ q) (zLW G a (zS_wrongGuesses c0) ou ++ zMW G a t) := hD
  generalize zS_wrongGuesses c0 = c1 at hP hD hR2
  refine lv_aload_n hx hb dL_law_1409 rfl (lv_at hl 3 rfl) ?_
  refine z_callV (As := []) (rest := [.int (zk_wrongGuesses c0)]) (wr := zLW G a c1 ou) (w1 := fun _ : Unit => zMW G a (zM_wrongGuesses t)) (wj := fun _ : Unit => zLW G a c1 ou ++ zMW G a (zM_wrongGuesses t)) (ci := 4) (q0 := 18) F (q_M_wrongGuesses l G a t z2) gL_law_X4_wrongGuesses rfl rfl rfl zd_X4_wrongGuesses ⟨Nat.le_of_ble_eq_true rfl, Nat.le_of_ble_eq_true rfl⟩ rfl rfl (Nat.le_of_ble_eq_true rfl) dL_law_1410 ⟨by show cells + 0 + 0 ≤ 601024; omega, by show slots + 0 + 0 ≤ 7293034; omega⟩ hK hP hD hS hA hl.1 rfl rfl [18, 19, 20, 21, 22, 23, 24, 25, 26, 27] [0, 1, 2, 3, 4, 5, 6, 7, 8, 9, 10, 11, 12, 13, 14, 15, 16, 17] [0, 1, 2, 3, 4, 5, 6, 7, 8, 9, 10, 11, 12, 13, 14, 15, 16, 17, 18, 19, 20, 21, 22, 23, 24, 25, 26, 27] rfl rfl rfl rfl (by decide) rfl (fun _ => rfl) (fun _ H locs hP hD hS => ?_)
  have hP : va_P G.1 vwCl (zLW G a c1 ou ++ zMW G a (zM_wrongGuesses t)) H := hP
  have hD : va_D (fun q => s.heap.size ≤ q) (zLW G a c1 ou ++ zMW G a (zM_wrongGuesses t)) := hD
  generalize zM_wrongGuesses t = t1 at hP hD hR2
  refine lv_icmp_eq (tgt := 1554) hx hb dL_law_1413 (by decide) (fun _ => ?_) (fun z => absurd e1 z)
  refine W.widen (k := cells + 1) (n := slots + 12) (by omega) (by omega) ?_
  exact kk c1 t1 ou H locs ls hR2 hP hD hS (lv_sub hl [0, 1, 2, 3, 4] rfl)
set_option maxHeartbeats 4000000 in
set_option maxRecDepth 100000 in
theorem k_bestPour {p : Program} {l : Launch} {e : Env} {s : State} {m : MethodId} {below : List Frame} {meth : Method} {c : Code} {b L : Nat} {xs : Nat → Int32} {G : zG} {a : Nat → Nat} {Q : State → Prop} (F : CallFix p m c cL_law 9 s #[.ref b] wsL_law RL) (hst : l.stackTraces = false) (hK : zK G s) (hZ : zZ (fun q => s.heap.size ≤ q) s s.heap) (hX : va_X b L xs s s.heap) (hbl : b < s.heap.size) {cells slots : Nat} (hc : cells + 1 ≤ 601024) (hsl : slots + 12 ≤ 7293034) {i : Nat} (hi : i + 4 ≤ L) (hL : L ≤ 2048) {c0 : zS} {t : zM} {ou : Nat → Int64} (hR : zRel c0 t) {H : Heap} {locs : List Loc} {ls : Array Slot} (hP : va_P G.1 vwCl (zLW G a c0 ou ++ zMW G a t) H) (hD : va_D (fun q => s.heap.size ≤ q) (zLW G a c0 ou ++ zMW G a t)) (hS : va_S (fun q => s.heap.size ≤ q) s.heap H locs) (hl : lv_has ls 9 [(4, .int (nI i)), (0, .ref b), (1, .ref (a 0)), (2, .ref (a 18)), (3, .ref (a 17))])
    (kk : ∀ (c0 : zS) (t : zM) (ou : Nat → Int64) (H : Heap) (locs : List Loc) (ls : Array Slot), zRel c0 t → va_P G.1 vwCl (zLW G a c0 ou ++ zMW G a t) H → va_D (fun q => s.heap.size ≤ q) (zLW G a c0 ou ++ zMW G a t) → va_S (fun q => s.heap.size ≤ q) s.heap H locs → lv_has ls 9 [(4, .int (nI i)), (0, .ref b), (1, .ref (a 0)), (2, .ref (a 18)), (3, .ref (a 17))] → W p l e room_1 s m #[.ref b] below meth c H locs (cells + 1) (slots + 12) Q (F0 m 1554 ls [])) :
    W p l e room_1 s m #[.ref b] below meth c H locs cells slots Q (F0 m 1486 ls []) := by
  obtain ⟨hx, hb, hml, hown, hts⟩ := id F
  have hA : ∀ q : Nat, s.heap.size ≤ q → (fun q : Nat => s.heap.size ≤ q) q := fun _ h => h
  have hbA : ¬ (fun q : Nat => s.heap.size ≤ q) b := Nat.not_le.mpr hbl
  obtain ⟨z1, z2, e1, hR2⟩ := u_bestPour hR
  refine lv_aload_n hx hb dL_law_1486 rfl (lv_at hl 2 rfl) ?_
  refine z_callV (As := []) (rest := []) (wr := ([(a 17, .inl (G.2.2.2, 1, .inr (.inl ou)))] : va_W) ++ zMW G a t) (w1 := fun _ : Unit => zCW3 G a (zS_bestPour c0)) (wj := fun _ : Unit => zLW G a (zS_bestPour c0) ou ++ zMW G a t) (ci := 3) (q0 := 0) F (q_C_bestPour l G a c0 z1) gL_law_X3_bestPour rfl rfl rfl zd_X3_bestPour ⟨Nat.le_of_ble_eq_true rfl, Nat.le_of_ble_eq_true rfl⟩ rfl rfl (Nat.le_of_ble_eq_true rfl) dL_law_1487 ⟨by show cells + 0 ≤ 601024; omega, by show slots + 0 ≤ 7293034; omega⟩ hK hP hD hS hA hl.1 rfl rfl [0, 1, 2, 3, 4, 5, 6, 7, 8, 9, 10, 11, 12, 13, 14, 15, 16] [17, 18, 19, 20, 21, 22, 23, 24, 25, 26, 27] [11, 12, 13, 14, 15, 16, 17, 18, 19, 20, 21, 22, 23, 24, 25, 26, 27, 0, 1, 2, 3, 4, 5, 6, 7, 8, 9, 10] rfl rfl rfl rfl (by decide) rfl (fun _ => rfl) (fun _ H locs hP hD hS => ?_)
  have hP : va_P G.1 vwCl (zLW G a (zS_bestPour c0) ou ++ zMW G a t) H := hP
  have hD : va_D (fun q => s.heap.size ≤ q) (zLW G a (zS_bestPour c0) ou ++ zMW G a t) := hD
  generalize zS_bestPour c0 = c1 at hP hD hR2
  refine lv_aload_n hx hb dL_law_1490 rfl (lv_at hl 3 rfl) ?_
  refine z_callV (As := []) (rest := [.int (zk_bestPour c0)]) (wr := zLW G a c1 ou) (w1 := fun _ : Unit => zMW G a (zM_bestPour t)) (wj := fun _ : Unit => zLW G a c1 ou ++ zMW G a (zM_bestPour t)) (ci := 4) (q0 := 18) F (q_M_bestPour l G a t z2) gL_law_X4_bestPour rfl rfl rfl zd_X4_bestPour ⟨Nat.le_of_ble_eq_true rfl, Nat.le_of_ble_eq_true rfl⟩ rfl rfl (Nat.le_of_ble_eq_true rfl) dL_law_1491 ⟨by show cells + 0 + 0 ≤ 601024; omega, by show slots + 0 + 0 ≤ 7293034; omega⟩ hK hP hD hS hA hl.1 rfl rfl [18, 19, 20, 21, 22, 23, 24, 25, 26, 27] [0, 1, 2, 3, 4, 5, 6, 7, 8, 9, 10, 11, 12, 13, 14, 15, 16, 17] [0, 1, 2, 3, 4, 5, 6, 7, 8, 9, 10, 11, 12, 13, 14, 15, 16, 17, 18, 19, 20, 21, 22, 23, 24, 25, 26, 27] rfl rfl rfl rfl (by decide) rfl (fun _ => rfl) (fun _ H locs hP hD hS => ?_)
  have hP : va_P G.1 vwCl (zLW G a c1 ou ++ zMW G a (zM_bestPour t)) H := hP
  have hD : va_D (fun q => s.heap.size ≤ q) (zLW G a c1 ou ++ zMW G a (zM_bestPour t)) := hD
  generalize zM_bestPour t = t1 at hP hD hR2
  refine lv_icmp_eq (tgt := 1554) hx hb dL_law_1494 (by decide) (fun _ => ?_) (fun z => absurd e1 z)
  refine W.widen (k := cells + 1) (n := slots + 12) (by omega) (by omega) ?_
  exact kk c1 t1 ou H locs ls hR2 hP hD hS (lv_sub hl [0, 1, 2, 3, 4] rfl)
set_option maxHeartbeats 4000000 in
set_option maxRecDepth 100000 in
theorem k_meanAmount {p : Program} {l : Launch} {e : Env} {s : State} {m : MethodId} {below : List Frame} {meth : Method} {c : Code} {b L : Nat} {xs : Nat → Int32} {G : zG} {a : Nat → Nat} {Q : State → Prop} (F : CallFix p m c cL_law 9 s #[.ref b] wsL_law RL) (hst : l.stackTraces = false) (hK : zK G s) (hZ : zZ (fun q => s.heap.size ≤ q) s s.heap) (hX : va_X b L xs s s.heap) (hbl : b < s.heap.size) {cells slots : Nat} (hc : cells + 1 ≤ 601024) (hsl : slots + 12 ≤ 7293034) {i : Nat} (hi : i + 4 ≤ L) (hL : L ≤ 2048) {c0 : zS} {t : zM} {ou : Nat → Int64} (hR : zRel c0 t) {H : Heap} {locs : List Loc} {ls : Array Slot} (hP : va_P G.1 vwCl (zLW G a c0 ou ++ zMW G a t) H) (hD : va_D (fun q => s.heap.size ≤ q) (zLW G a c0 ou ++ zMW G a t)) (hS : va_S (fun q => s.heap.size ≤ q) s.heap H locs) (hl : lv_has ls 9 [(4, .int (nI i)), (0, .ref b), (1, .ref (a 0)), (2, .ref (a 18)), (3, .ref (a 17))])
    (kk : ∀ (c0 : zS) (t : zM) (ou : Nat → Int64) (H : Heap) (locs : List Loc) (ls : Array Slot), zRel c0 t → va_P G.1 vwCl (zLW G a c0 ou ++ zMW G a t) H → va_D (fun q => s.heap.size ≤ q) (zLW G a c0 ou ++ zMW G a t) → va_S (fun q => s.heap.size ≤ q) s.heap H locs → lv_has ls 9 [(4, .int (nI i)), (0, .ref b), (1, .ref (a 0)), (2, .ref (a 18)), (3, .ref (a 17))] → W p l e room_1 s m #[.ref b] below meth c H locs (cells + 1) (slots + 12) Q (F0 m 1554 ls [])) :
    W p l e room_1 s m #[.ref b] below meth c H locs cells slots Q (F0 m 1499 ls []) := by
  obtain ⟨hx, hb, hml, hown, hts⟩ := id F
  have hA : ∀ q : Nat, s.heap.size ≤ q → (fun q : Nat => s.heap.size ≤ q) q := fun _ h => h
  have hbA : ¬ (fun q : Nat => s.heap.size ≤ q) b := Nat.not_le.mpr hbl
  obtain ⟨z1, z2, e1, hR2⟩ := u_meanAmount hR
  have e9 := zo_meanCmp hR
  refine lv_aload_n hx hb dL_law_1499 rfl (lv_at hl 2 rfl) ?_
  refine z_callV (As := []) (rest := []) (wr := ([(a 17, .inl (G.2.2.2, 1, .inr (.inl ou)))] : va_W) ++ zMW G a t) (w1 := fun _ : Unit => zCW3 G a (zS_meanAmount c0)) (wj := fun _ : Unit => zLW G a (zS_meanAmount c0) ou ++ zMW G a t) (ci := 3) (q0 := 0) F (q_C_meanAmount l G a c0 z1) gL_law_X3_meanAmount rfl rfl rfl zd_X3_meanAmount ⟨Nat.le_of_ble_eq_true rfl, Nat.le_of_ble_eq_true rfl⟩ rfl rfl (Nat.le_of_ble_eq_true rfl) dL_law_1500 ⟨by show cells + 0 ≤ 601024; omega, by show slots + 0 ≤ 7293034; omega⟩ hK hP hD hS hA hl.1 rfl rfl [0, 1, 2, 3, 4, 5, 6, 7, 8, 9, 10, 11, 12, 13, 14, 15, 16] [17, 18, 19, 20, 21, 22, 23, 24, 25, 26, 27] [11, 12, 13, 14, 15, 16, 17, 18, 19, 20, 21, 22, 23, 24, 25, 26, 27, 0, 1, 2, 3, 4, 5, 6, 7, 8, 9, 10] rfl rfl rfl rfl (by decide) rfl (fun _ => rfl) (fun _ H locs hP hD hS => ?_)
  have hP : va_P G.1 vwCl (zLW G a (zS_meanAmount c0) ou ++ zMW G a t) H := hP
  have hD : va_D (fun q => s.heap.size ≤ q) (zLW G a (zS_meanAmount c0) ou ++ zMW G a t) := hD
  generalize zS_meanAmount c0 = c1 at hP hD hR2
  refine lv_dstore (lv' := [(5, .double (zk_meanAmount c0)), (4, .int (nI i)), (0, .ref b), (1, .ref (a 0)), (2, .ref (a 18)), (3, .ref (a 17))]) hx hb dL_law_1503 hl (by decide) rfl (fun ls hl => ?_)
  refine lv_aload_n hx hb dL_law_1505 rfl (lv_at hl 4 rfl) ?_
  refine z_callV (As := []) (rest := []) (wr := zLW G a c1 ou) (w1 := fun _ : Unit => zMW G a (zM_meanAmount t)) (wj := fun _ : Unit => zLW G a c1 ou ++ zMW G a (zM_meanAmount t)) (ci := 4) (q0 := 18) F (q_M_meanAmount l G a t z2) gL_law_X4_meanAmount rfl rfl rfl zd_X4_meanAmount ⟨Nat.le_of_ble_eq_true rfl, Nat.le_of_ble_eq_true rfl⟩ rfl rfl (Nat.le_of_ble_eq_true rfl) dL_law_1506 ⟨by show cells + 0 + 0 ≤ 601024; omega, by show slots + 0 + 0 ≤ 7293034; omega⟩ hK hP hD hS hA hl.1 rfl rfl [18, 19, 20, 21, 22, 23, 24, 25, 26, 27] [0, 1, 2, 3, 4, 5, 6, 7, 8, 9, 10, 11, 12, 13, 14, 15, 16, 17] [0, 1, 2, 3, 4, 5, 6, 7, 8, 9, 10, 11, 12, 13, 14, 15, 16, 17, 18, 19, 20, 21, 22, 23, 24, 25, 26, 27] rfl rfl rfl rfl (by decide) rfl (fun _ => rfl) (fun _ H locs hP hD hS => ?_)
  have hP : va_P G.1 vwCl (zLW G a c1 ou ++ zMW G a (zM_meanAmount t)) H := hP
  have hD : va_D (fun q => s.heap.size ≤ q) (zLW G a c1 ou ++ zMW G a (zM_meanAmount t)) := hD
  generalize zM_meanAmount t = t1 at hP hD hR2
  refine lv_dstore (lv' := [(7, .double (mk_meanAmount t)), (5, .double (zk_meanAmount c0)), (4, .int (nI i)), (0, .ref b), (1, .ref (a 0)), (2, .ref (a 18)), (3, .ref (a 17))]) hx hb dL_law_1509 hl (by decide) rfl (fun ls hl => ?_)
  refine lv_dload hx hb dL_law_1511 (lv_at hl 1 rfl) ?_
  refine lv_dload hx hb dL_law_1513 (lv_at hl 0 rfl) ?_
  refine lv_dcmp hx hb dL_law_1515 ?_
  have e8 : Op.cmpValue (FP.dcmp (zk_meanAmount c0) (mk_meanAmount t)) .l = 0 := by rw [← e1, e9]; rfl
  refine lv_if_eq (tgt := 1537) hx hb dL_law_1516 (by decide) (fun _ => ?_) (fun z => absurd e8 z)
  refine lv_goto (tgt := 1554) hx hb dL_law_1537 (by decide) ?_
  refine W.widen (k := cells + 1) (n := slots + 12) (by omega) (by omega) ?_
  exact kk c1 t1 ou H locs ls hR2 hP hD hS (lv_sub hl [2, 3, 4, 5, 6] rfl)
set_option maxHeartbeats 4000000 in
set_option maxRecDepth 100000 in
theorem k_digest {p : Program} {l : Launch} {e : Env} {s : State} {m : MethodId} {below : List Frame} {meth : Method} {c : Code} {b L : Nat} {xs : Nat → Int32} {G : zG} {a : Nat → Nat} {Q : State → Prop} (F : CallFix p m c cL_law 9 s #[.ref b] wsL_law RL) (hst : l.stackTraces = false) (hK : zK G s) (hZ : zZ (fun q => s.heap.size ≤ q) s s.heap) (hX : va_X b L xs s s.heap) (hbl : b < s.heap.size) {cells slots : Nat} (hc : cells + 1 ≤ 601024) (hsl : slots + 12 ≤ 7293034) {i : Nat} (hi : i + 4 ≤ L) (hL : L ≤ 2048) {c0 : zS} {t : zM} {ou : Nat → Int64} (hR : zRel c0 t) {H : Heap} {locs : List Loc} {ls : Array Slot} (hP : va_P G.1 vwCl (zLW G a c0 ou ++ zMW G a t) H) (hD : va_D (fun q => s.heap.size ≤ q) (zLW G a c0 ou ++ zMW G a t)) (hS : va_S (fun q => s.heap.size ≤ q) s.heap H locs) (hl : lv_has ls 9 [(4, .int (nI i)), (0, .ref b), (1, .ref (a 0)), (2, .ref (a 18)), (3, .ref (a 17))])
    (kk : ∀ (c0 : zS) (t : zM) (ou : Nat → Int64) (H : Heap) (locs : List Loc) (ls : Array Slot), zRel c0 t → va_P G.1 vwCl (zLW G a c0 ou ++ zMW G a t) H → va_D (fun q => s.heap.size ≤ q) (zLW G a c0 ou ++ zMW G a t) → va_S (fun q => s.heap.size ≤ q) s.heap H locs → lv_has ls 9 [(4, .int (nI i)), (0, .ref b), (1, .ref (a 0)), (2, .ref (a 18)), (3, .ref (a 17))] → W p l e room_1 s m #[.ref b] below meth c H locs (cells + 1) (slots + 12) Q (F0 m 1554 ls [])) :
    W p l e room_1 s m #[.ref b] below meth c H locs cells slots Q (F0 m 1540 ls []) := by
  obtain ⟨hx, hb, hml, hown, hts⟩ := id F
  have hA : ∀ q : Nat, s.heap.size ≤ q → (fun q : Nat => s.heap.size ≤ q) q := fun _ h => h
  have hbA : ¬ (fun q : Nat => s.heap.size ≤ q) b := Nat.not_le.mpr hbl
  obtain ⟨z1, z2, e1, hR2⟩ := u_digest hR
  refine lv_aload_n hx hb dL_law_1540 rfl (lv_at hl 2 rfl) ?_
  refine z_callV (As := []) (rest := []) (wr := ([(a 17, .inl (G.2.2.2, 1, .inr (.inl ou)))] : va_W) ++ zMW G a t) (w1 := fun _ : Unit => zCW3 G a (zS_digest c0)) (wj := fun _ : Unit => zLW G a (zS_digest c0) ou ++ zMW G a t) (ci := 3) (q0 := 0) F (q_C_digest l G a c0 z1) gL_law_X3_digest rfl rfl rfl zd_X3_digest ⟨Nat.le_of_ble_eq_true rfl, Nat.le_of_ble_eq_true rfl⟩ rfl rfl (Nat.le_of_ble_eq_true rfl) dL_law_1541 ⟨by show cells + 0 ≤ 601024; omega, by show slots + 0 ≤ 7293034; omega⟩ hK hP hD hS hA hl.1 rfl rfl [0, 1, 2, 3, 4, 5, 6, 7, 8, 9, 10, 11, 12, 13, 14, 15, 16] [17, 18, 19, 20, 21, 22, 23, 24, 25, 26, 27] [11, 12, 13, 14, 15, 16, 17, 18, 19, 20, 21, 22, 23, 24, 25, 26, 27, 0, 1, 2, 3, 4, 5, 6, 7, 8, 9, 10] rfl rfl rfl rfl (by decide) rfl (fun _ => rfl) (fun _ H locs hP hD hS => ?_)
  have hP : va_P G.1 vwCl (zLW G a (zS_digest c0) ou ++ zMW G a t) H := hP
  have hD : va_D (fun q => s.heap.size ≤ q) (zLW G a (zS_digest c0) ou ++ zMW G a t) := hD
  generalize zS_digest c0 = c1 at hP hD hR2
  refine lv_aload_n hx hb dL_law_1544 rfl (lv_at hl 3 rfl) ?_
  refine z_callV (As := []) (rest := [.long (zk_digest c0)]) (wr := zLW G a c1 ou) (w1 := fun _ : Unit => zMW G a (zM_digest t)) (wj := fun _ : Unit => zLW G a c1 ou ++ zMW G a (zM_digest t)) (ci := 4) (q0 := 18) F (q_M_digest l G a t z2) gL_law_X4_digest rfl rfl rfl zd_X4_digest ⟨Nat.le_of_ble_eq_true rfl, Nat.le_of_ble_eq_true rfl⟩ rfl rfl (Nat.le_of_ble_eq_true rfl) dL_law_1545 ⟨by show cells + 0 + 1 ≤ 601024; omega, by show slots + 0 + 12 ≤ 7293034; omega⟩ hK hP hD hS hA hl.1 rfl rfl [18, 19, 20, 21, 22, 23, 24, 25, 26, 27] [0, 1, 2, 3, 4, 5, 6, 7, 8, 9, 10, 11, 12, 13, 14, 15, 16, 17] [0, 1, 2, 3, 4, 5, 6, 7, 8, 9, 10, 11, 12, 13, 14, 15, 16, 17, 18, 19, 20, 21, 22, 23, 24, 25, 26, 27] rfl rfl rfl rfl (by decide) rfl (fun _ => rfl) (fun _ H locs hP hD hS => ?_)
  have hP : va_P G.1 vwCl (zLW G a c1 ou ++ zMW G a (zM_digest t)) H := hP
  have hD : va_D (fun q => s.heap.size ≤ q) (zLW G a c1 ou ++ zMW G a (zM_digest t)) := hD
  generalize zM_digest t = t1 at hP hD hR2
  refine W.lcmp hx hb dL_law_1548 ?_
  refine lv_if_eq (tgt := 1554) hx hb dL_law_1549 (by decide) (fun _ => ?_) (fun z => absurd ((lg_cmp_eq _ _).mpr e1) z)
  refine W.widen (k := cells + 1) (n := slots + 12) (by omega) (by omega) ?_
  exact kk c1 t1 ou H locs ls hR2 hP hD hS (lv_sub hl [0, 1, 2, 3, 4] rfl)
