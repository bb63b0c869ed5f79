/-! the cases of the law -/
set_option maxHeartbeats 4000000 in
set_option maxRecDepth 100000 in
theorem k_isThere {p : Program} {l : Launch} {e : Env} {s : State} {m : MethodId} {below : List Frame} {meth : Method} {c : Code} {b L : Nat} {xs : Nat → Int32} {G : zG} {a : Nat → Nat} {Q : State → Prop} (F : CallFix p m c cL_law 9 s #[.ref b] wsL_law RL) (hst : l.stackTraces = false) (hK : zK G s) (hZ : zZ (fun q => s.heap.size ≤ q) s s.heap) (hX : va_X b L xs s s.heap) (hbl : b < s.heap.size) {cells slots : Nat} (hc : cells + 1 ≤ 601024) (hsl : slots + 12 ≤ 7293034) {i : Nat} (hi : i + 4 ≤ L) (hL : L ≤ 2048) {c0 : zS} {t : zM} {ou : Nat → Int64} (hR : zRel c0 t) {H : Heap} {locs : List Loc} {ls : Array Slot} (hP : va_P G.1 vwCl (zLW G a c0 ou ++ zMW G a t) H) (hD : va_D (fun q => s.heap.size ≤ q) (zLW G a c0 ou ++ zMW G a t)) (hS : va_S (fun q => s.heap.size ≤ q) s.heap H locs) (hl : lv_has ls 9 [(4, .int (nI i)), (0, .ref b), (1, .ref (a 0)), (2, .ref (a 18)), (3, .ref (a 17))])
    (kk : ∀ (c0 : zS) (t : zM) (ou : Nat → Int64) (H : Heap) (locs : List Loc) (ls : Array Slot), zRel c0 t → va_P G.1 vwCl (zLW G a c0 ou ++ zMW G a t) H → va_D (fun q => s.heap.size ≤ q) (zLW G a c0 ou ++ zMW G a t) → va_S (fun q => s.heap.size ≤ q) s.heap H locs → lv_has ls 9 [(4, .int (nI i)), (0, .ref b), (1, .ref (a 0)), (2, .ref (a 18)), (3, .ref (a 17))] → W p l e room_1 s m #[.ref b] below meth c H locs (cells + 1) (slots + 12) Q (F0 m 1554 ls [])) :
    W p l e room_1 s m #[.ref b] below meth c H locs cells slots Q (F0 m 828 ls []) := by
  obtain ⟨hx, hb, hml, hown, hts⟩ := id F
  have hA : ∀ q : Nat, s.heap.size ≤ q → (fun q : Nat => s.heap.size ≤ q) q := fun _ h => h
  have hbA : ¬ (fun q : Nat => s.heap.size ≤ q) b := Nat.not_le.mpr hbl
  have v1 : vp_in (nI i + 1) L := by
    rw [show (1 : Int32) = nI 1 from rfl, nI_add]; exact vp_in_nI (by omega) (by omega)
  obtain ⟨z1, z2, ⟨e1, e2⟩, hR2⟩ := zo_isThere hR ou (xs (nI i + 1).toNatClampNeg)
  have hbz := zb_isThere t (xs (nI i + 1).toNatClampNeg)
  refine lv_aload_n hx hb dL_law_828 rfl (lv_at hl 2 rfl) ?_
  refine lv_aload_n hx hb dL_law_829 rfl (lv_at hl 1 rfl) ?_
  refine lv_iload hx hb dL_law_830 (lv_at hl 0 rfl) ?_
  refine lv_iconst (v := (1 : Int32)) hx hb dL_law_832 (by decide) ?_
  refine lv_iadd hx hb dL_law_833 ?_
  refine va_sld hx hb hX hbl hbA hS v1 dL_law_834 ?_
  refine lv_aload_n hx hb dL_law_835 rfl (lv_at hl 4 rfl) ?_
  refine z_callSW (As := [.ref (a 0), .int (xs (nI i + 1).toNatClampNeg), .ref (a 17)]) (rest := []) (wr := zMW G a t) (w1 := fun _ : Unit => zLW G a (zS_isThere c0 ou (xs (nI i + 1).toNatClampNeg)) (zO_isThere c0 ou (xs (nI i + 1).toNatClampNeg))) (wj := fun _ : Unit => zLW G a (zS_isThere c0 ou (xs (nI i + 1).toNatClampNeg)) (zO_isThere c0 ou (xs (nI i + 1).toNatClampNeg)) ++ zMW G a t) F (q_L_isThere l G a c0 ou (xs (nI i + 1).toNatClampNeg) z1 hst) gL_law_L_isThere rfl rfl rfl zd_L_isThere ⟨Nat.le_of_ble_eq_true rfl, Nat.le_of_ble_eq_true rfl⟩ rfl rfl (Nat.le_of_ble_eq_true rfl) dL_law_836 ⟨by show cells + 1 ≤ 601024; omega, by show slots + 6 ≤ 7293034; omega⟩ hK hZ hP hD hS hA hl.1 [0, 1, 2, 3, 4, 5, 6, 7, 8, 9, 10, 11, 12, 13, 14, 15, 16, 17] [18, 19, 20, 21, 22, 23, 24, 25, 26, 27] [10, 11, 12, 13, 14, 15, 16, 17, 18, 19, 20, 21, 22, 23, 24, 25, 26, 27, 0, 1, 2, 3, 4, 5, 6, 7, 8, 9] rfl rfl rfl rfl (by decide) rfl (fun _ => rfl) (fun _ H locs hP hD hS => ?_)
  have hP : va_P G.1 vwCl (zLW G a (zS_isThere c0 ou (xs (nI i + 1).toNatClampNeg)) (zO_isThere c0 ou (xs (nI i + 1).toNatClampNeg)) ++ zMW G a t) H := hP
  have hD : va_D (fun q => s.heap.size ≤ q) (zLW G a (zS_isThere c0 ou (xs (nI i + 1).toNatClampNeg)) (zO_isThere c0 ou (xs (nI i + 1).toNatClampNeg)) ++ zMW G a t) := hD
  generalize zS_isThere c0 ou (xs (nI i + 1).toNatClampNeg) = c1 at hP hD hR2
  generalize zO_isThere c0 ou (xs (nI i + 1).toNatClampNeg) = o1 at hP hD e2
  refine lv_istore (lv' := [(5, .int (zk_isThere c0 ou (xs (nI i + 1).toNatClampNeg))), (4, .int (nI i)), (0, .ref b), (1, .ref (a 0)), (2, .ref (a 18)), (3, .ref (a 17))]) hx hb dL_law_839 hl (by decide) rfl (fun ls hl => ?_)
  refine lv_aload_n hx hb dL_law_841 rfl (lv_at hl 4 rfl) ?_
  refine lv_aload_n hx hb dL_law_842 rfl (lv_at hl 2 rfl) ?_
  refine lv_iload hx hb dL_law_843 (lv_at hl 1 rfl) ?_
  refine lv_iconst (v := (1 : Int32)) hx hb dL_law_845 (by decide) ?_
  refine lv_iadd hx hb dL_law_846 ?_
  refine va_sld hx hb hX hbl hbA hS v1 dL_law_847 ?_
  refine z_callV (As := [.int (xs (nI i + 1).toNatClampNeg)]) (rest := []) (wr := zLW G a c1 o1) (w1 := fun _ : Unit => zMW G a (zM_isThere t (xs (nI i + 1).toNatClampNeg))) (wj := fun _ : Unit => zLW G a c1 o1 ++ zMW G a (zM_isThere t (xs (nI i + 1).toNatClampNeg))) (ci := 4) (q0 := 18) F (q_M_isThere l G a t (xs (nI i + 1).toNatClampNeg) z2) gL_law_X4_isThere rfl rfl rfl zd_X4_isThere ⟨Nat.le_of_ble_eq_true rfl, Nat.le_of_ble_eq_true rfl⟩ rfl rfl (Nat.le_of_ble_eq_true rfl) dL_law_848 ⟨by show cells + 1 + 0 ≤ 601024; omega, by show slots + 6 + 0 ≤ 7293034; omega⟩ hK hP hD hS hA hl.1 rfl rfl [18, 19, 20, 21, 22, 23, 24, 25, 26, 27] [0, 1, 2, 3, 4, 5, 6, 7, 8, 9, 10, 11, 12, 13, 14, 15, 16, 17] [0, 1, 2, 3, 4, 5, 6, 7, 8, 9, 10, 11, 12, 13, 14, 15, 16, 17, 18, 19, 20, 21, 22, 23, 24, 25, 26, 27] rfl rfl rfl rfl (by decide) rfl (fun _ => rfl) (fun _ H locs hP hD hS => ?_)
  have hP : va_P G.1 vwCl (zLW G a c1 o1 ++ zMW G a (zM_isThere t (xs (nI i + 1).toNatClampNeg))) H := hP
  have hD : va_D (fun q => s.heap.size ≤ q) (zLW G a c1 o1 ++ zMW G a (zM_isThere t (xs (nI i + 1).toNatClampNeg))) := hD
  generalize zM_isThere t (xs (nI i + 1).toNatClampNeg) = t1 at hP hD hR2 e1
  refine lv_istore (lv' := [(6, .int (mk_isThere t (xs (nI i + 1).toNatClampNeg))), (5, .int (zk_isThere c0 ou (xs (nI i + 1).toNatClampNeg))), (4, .int (nI i)), (0, .ref b), (1, .ref (a 0)), (2, .ref (a 18)), (3, .ref (a 17))]) hx hb dL_law_851 hl (by decide) rfl (fun ls hl => ?_)
  refine lv_aload_n hx hb dL_law_853 rfl (lv_at hl 5 rfl) ?_
  refine z_callV (As := []) (rest := []) (wr := zLW G a c1 o1) (w1 := fun _ : Unit => zMW G a t1) (wj := fun _ : Unit => zLW G a c1 o1 ++ zMW G a t1) (ci := 4) (q0 := 18) F (q_M_thrown l G a t1) gL_law_X4_thrown rfl rfl rfl zd_X4_thrown ⟨Nat.le_of_ble_eq_true rfl, Nat.le_of_ble_eq_true rfl⟩ rfl rfl (Nat.le_of_ble_eq_true rfl) dL_law_854 ⟨by show cells + 1 + 0 + 0 ≤ 601024; omega, by show slots + 6 + 0 + 0 ≤ 7293034; omega⟩ hK hP hD hS hA hl.1 rfl rfl [18, 19, 20, 21, 22, 23, 24, 25, 26, 27] [0, 1, 2, 3, 4, 5, 6, 7, 8, 9, 10, 11, 12, 13, 14, 15, 16, 17] [0, 1, 2, 3, 4, 5, 6, 7, 8, 9, 10, 11, 12, 13, 14, 15, 16, 17, 18, 19, 20, 21, 22, 23, 24, 25, 26, 27] rfl rfl rfl rfl (by decide) rfl (fun _ => rfl) (fun _ H locs hP hD hS => ?_)
  have hP : va_P G.1 vwCl (zLW G a c1 o1 ++ zMW G a t1) H := hP
  have hD : va_D (fun q => s.heap.size ≤ q) (zLW G a c1 o1 ++ zMW G a t1) := hD
  refine lv_iload hx hb dL_law_857 (lv_at hl 1 rfl) ?_
  refine lv_icmp_eq (tgt := 864) hx hb dL_law_859 (by decide) (fun _ => ?_) (fun z => absurd e1 z)
  refine lv_iload hx hb dL_law_864 (lv_at hl 1 rfl) ?_
  refine lv_if_ne (tgt := 888) hx hb dL_law_866 (by decide) (fun _ => ?_) (fun z0 => ?_)
  · refine lv_goto (tgt := 1554) hx hb dL_law_888 (by decide) ?_
    refine W.widen (k := cells + 1) (n := slots + 12) (by omega) (by omega) ?_
    exact kk c1 t1 o1 H locs ls hR2 hP hD hS (lv_sub hl [2, 3, 4, 5, 6] rfl)
  · refine lv_aload_n hx hb dL_law_869 rfl (lv_at hl 6 rfl) ?_
    refine lv_iconst (v := (0 : Int32)) hx hb dL_law_870 (by decide) ?_
    refine va_lald hx hb hK.1 hP 17 2 rfl rfl (vp_in_nI (n := 0) (N := 1) (by decide) (by decide)) dL_law_871 ?_
    refine lv_iload hx hb dL_law_872 (lv_at hl 0 rfl) ?_
    refine lv_if_eq (tgt := 881) hx hb dL_law_874 (by decide) (fun y0 => ?_) (fun y0 => ?_)
    · have e3 : o1 0 = (0 : Int64) := by rw [e2 z0, y0]; rfl
      refine lv_lconst (v := (0 : Int64)) hx hb dL_law_881 (by decide) ?_
      refine W.lcmp hx hb dL_law_882 ?_
      refine lv_if_eq (tgt := 888) hx hb dL_law_883 (by decide) (fun _ => ?_) (fun z => absurd ((lg_cmp_eq _ _).mpr e3) z)
      refine lv_goto (tgt := 1554) hx hb dL_law_888 (by decide) ?_
      refine W.widen (k := cells + 1) (n := slots + 12) (by omega) (by omega) ?_
      exact kk c1 t1 o1 H locs ls hR2 hP hD hS (lv_sub hl [2, 3, 4, 5, 6] rfl)
    · have e3 : o1 0 = (1 : Int64) := by rw [e2 z0, hbz.resolve_left y0]; rfl
      refine lv_lconst (v := (1 : Int64)) hx hb dL_law_877 (by decide) ?_
      refine lv_goto (tgt := 882) hx hb dL_law_878 (by decide) ?_
      refine W.lcmp hx hb dL_law_882 ?_
      refine lv_if_eq (tgt := 888) hx hb dL_law_883 (by decide) (fun _ => ?_) (fun z => absurd ((lg_cmp_eq _ _).mpr e3) z)
      refine lv_goto (tgt := 1554) hx hb dL_law_888 (by decide) ?_
      refine W.widen (k := cells + 1) (n := slots + 12) (by omega) (by omega) ?_
      exact kk c1 t1 o1 H locs ls hR2 hP hD hS (lv_sub hl [2, 3, 4, 5, 6] rfl)
set_option maxHeartbeats 4000000 in
set_option maxRecDepth 100000 in
theorem k_leastActs {p : Program} {l : Launch} {e : Env} {s : State} {m : MethodId} {below : List Frame} {meth : Method} {c : Code} {b L : Nat} {xs : Nat → Int32} {G : zG} {a : Nat → Nat} {Q : State → Prop} (F : CallFix p m c cL_law 9 s #[.ref b] wsL_law RL) (hst : l.stackTraces = false) (hK : zK G s) (hZ : zZ (fun q => s.heap.size ≤ q) s s.heap) (hX : va_X b L xs s s.heap) (hbl : b < s.heap.size) {cells slots : Nat} (hc : cells + 1 ≤ 601024) (hsl : slots + 12 ≤ 7293034) {i : Nat} (hi : i + 4 ≤ L) (hL : L ≤ 2048) {c0 : zS} {t : zM} {ou : Nat → Int64} (hR : zRel c0 t) {H : Heap} {locs : List Loc} {ls : Array Slot} (hP : va_P G.1 vwCl (zLW G a c0 ou ++ zMW G a t) H) (hD : va_D (fun q => s.heap.size ≤ q) (zLW G a c0 ou ++ zMW G a t)) (hS : va_S (fun q => s.heap.size ≤ q) s.heap H locs) (hl : lv_has ls 9 [(4, .int (nI i)), (0, .ref b), (1, .ref (a 0)), (2, .ref (a 18)), (3, .ref (a 17))])
    (kk : ∀ (c0 : zS) (t : zM) (ou : Nat → Int64) (H : Heap) (locs : List Loc) (ls : Array Slot), zRel c0 t → va_P G.1 vwCl (zLW G a c0 ou ++ zMW G a t) H → va_D (fun q => s.heap.size ≤ q) (zLW G a c0 ou ++ zMW G a t) → va_S (fun q => s.heap.size ≤ q) s.heap H locs → lv_has ls 9 [(4, .int (nI i)), (0, .ref b), (1, .ref (a 0)), (2, .ref (a 18)), (3, .ref (a 17))] → W p l e room_1 s m #[.ref b] below meth c H locs (cells + 1) (slots + 12) Q (F0 m 1554 ls [])) :
    W p l e room_1 s m #[.ref b] below meth c H locs cells slots Q (F0 m 891 ls []) := by
  obtain ⟨hx, hb, hml, hown, hts⟩ := id F
  have hA : ∀ q : Nat, s.heap.size ≤ q → (fun q : Nat => s.heap.size ≤ q) q := fun _ h => h
  have hbA : ¬ (fun q : Nat => s.heap.size ≤ q) b := Nat.not_le.mpr hbl
  have v1 : vp_in (nI i + 1) L := by
    rw [show (1 : Int32) = nI 1 from rfl, nI_add]; exact vp_in_nI (by omega) (by omega)
  obtain ⟨z1, z2, ⟨e1, e2⟩, hR2⟩ := zo_leastActs hR ou (xs (nI i + 1).toNatClampNeg)
  refine lv_aload_n hx hb dL_law_891 rfl (lv_at hl 2 rfl) ?_
  refine lv_aload_n hx hb dL_law_892 rfl (lv_at hl 1 rfl) ?_
  refine lv_iload hx hb dL_law_893 (lv_at hl 0 rfl) ?_
  refine lv_iconst (v := (1 : Int32)) hx hb dL_law_895 (by decide) ?_
  refine lv_iadd hx hb dL_law_896 ?_
  refine va_sld hx hb hX hbl hbA hS v1 dL_law_897 ?_
  refine lv_aload_n hx hb dL_law_898 rfl (lv_at hl 4 rfl) ?_
  refine z_callSW (As := [.ref (a 0), .int (xs (nI i + 1).toNatClampNeg), .ref (a 17)]) (rest := []) (wr := zMW G a t) (w1 := fun _ : Unit => zLW G a (zS_leastActs c0 ou (xs (nI i + 1).toNatClampNeg)) (zO_leastActs c0 ou (xs (nI i + 1).toNatClampNeg))) (wj := fun _ : Unit => zLW G a (zS_leastActs c0 ou (xs (nI i + 1).toNatClampNeg)) (zO_leastActs c0 ou (xs (nI i + 1).toNatClampNeg)) ++ zMW G a t) F (q_L_leastActs l G a c0 ou (xs (nI i + 1).toNatClampNeg) z1 hst) gL_law_L_leastActs rfl rfl rfl zd_L_leastActs ⟨Nat.le_of_ble_eq_true rfl, Nat.le_of_ble_eq_true rfl⟩ rfl rfl (Nat.le_of_ble_eq_true rfl) dL_law_899 ⟨by show cells + 1 ≤ 601024; omega, by show slots + 6 ≤ 7293034; omega⟩ hK hZ hP hD hS hA hl.1 [0, 1, 2, 3, 4, 5, 6, 7, 8, 9, 10, 11, 12, 13, 14, 15, 16, 17] [18, 19, 20, 21, 22, 23, 24, 25, 26, 27] [10, 11, 12, 13, 14, 15, 16, 17, 18, 19, 20, 21, 22, 23, 24, 25, 26, 27, 0, 1, 2, 3, 4, 5, 6, 7, 8, 9] rfl rfl rfl rfl (by decide) rfl (fun _ => rfl) (fun _ H locs hP hD hS => ?_)
  have hP : va_P G.1 vwCl (zLW G a (zS_leastActs c0 ou (xs (nI i + 1).toNatClampNeg)) (zO_leastActs c0 ou (xs (nI i + 1).toNatClampNeg)) ++ zMW G a t) H := hP
  have hD : va_D (fun q => s.heap.size ≤ q) (zLW G a (zS_leastActs c0 ou (xs (nI i + 1).toNatClampNeg)) (zO_leastActs c0 ou (xs (nI i + 1).toNatClampNeg)) ++ zMW G a t) := hD
  generalize zS_leastActs c0 ou (xs (nI i + 1).toNatClampNeg) = c1 at hP hD hR2
  generalize zO_leastActs c0 ou (xs (nI i + 1).toNatClampNeg) = o1 at hP hD e2
  refine lv_istore (lv' := [(5, .int (zk_leastActs c0 ou (xs (nI i + 1).toNatClampNeg))), (4, .int (nI i)), (0, .ref b), (1, .ref (a 0)), (2, .ref (a 18)), (3, .ref (a 17))]) hx hb dL_law_902 hl (by decide) rfl (fun ls hl => ?_)
  refine lv_aload_n hx hb dL_law_904 rfl (lv_at hl 4 rfl) ?_
  refine lv_aload_n hx hb dL_law_905 rfl (lv_at hl 2 rfl) ?_
  refine lv_iload hx hb dL_law_906 (lv_at hl 1 rfl) ?_
  refine lv_iconst (v := (1 : Int32)) hx hb dL_law_908 (by decide) ?_
  refine lv_iadd hx hb dL_law_909 ?_
  refine va_sld hx hb hX hbl hbA hS v1 dL_law_910 ?_
  refine z_callV (As := [.int (xs (nI i + 1).toNatClampNeg)]) (rest := []) (wr := zLW G a c1 o1) (w1 := fun _ : Unit => zMW G a (zM_leastActs t (xs (nI i + 1).toNatClampNeg))) (wj := fun _ : Unit => zLW G a c1 o1 ++ zMW G a (zM_leastActs t (xs (nI i + 1).toNatClampNeg))) (ci := 4) (q0 := 18) F (q_M_leastActs l G a t (xs (nI i + 1).toNatClampNeg) z2) gL_law_X4_leastActs rfl rfl rfl zd_X4_leastActs ⟨Nat.le_of_ble_eq_true rfl, Nat.le_of_ble_eq_true rfl⟩ rfl rfl (Nat.le_of_ble_eq_true rfl) dL_law_911 ⟨by show cells + 1 + 0 ≤ 601024; omega, by show slots + 6 + 0 ≤ 7293034; omega⟩ hK hP hD hS hA hl.1 rfl rfl [18, 19, 20, 21, 22, 23, 24, 25, 26, 27] [0, 1, 2, 3, 4, 5, 6, 7, 8, 9, 10, 11, 12, 13, 14, 15, 16, 17] [0, 1, 2, 3, 4, 5, 6, 7, 8, 9, 10, 11, 12, 13, 14, 15, 16, 17, 18, 19, 20, 21, 22, 23, 24, 25, 26, 27] rfl rfl rfl rfl (by decide) rfl (fun _ => rfl) (fun _ H locs hP hD hS => ?_)
  have hP : va_P G.1 vwCl (zLW G a c1 o1 ++ zMW G a (zM_leastActs t (xs (nI i + 1).toNatClampNeg))) H := hP
  have hD : va_D (fun q => s.heap.size ≤ q) (zLW G a c1 o1 ++ zMW G a (zM_leastActs t (xs (nI i + 1).toNatClampNeg))) := hD
  generalize zM_leastActs t (xs (nI i + 1).toNatClampNeg) = t1 at hP hD hR2 e1
  refine lv_istore (lv' := [(6, .int (mk_leastActs t (xs (nI i + 1).toNatClampNeg))), (5, .int (zk_leastActs c0 ou (xs (nI i + 1).toNatClampNeg))), (4, .int (nI i)), (0, .ref b), (1, .ref (a 0)), (2, .ref (a 18)), (3, .ref (a 17))]) hx hb dL_law_914 hl (by decide) rfl (fun ls hl => ?_)
  refine lv_aload_n hx hb dL_law_916 rfl (lv_at hl 5 rfl) ?_
  refine z_callV (As := []) (rest := []) (wr := zLW G a c1 o1) (w1 := fun _ : Unit => zMW G a t1) (wj := fun _ : Unit => zLW G a c1 o1 ++ zMW G a t1) (ci := 4) (q0 := 18) F (q_M_thrown l G a t1) gL_law_X4_thrown rfl rfl rfl zd_X4_thrown ⟨Nat.le_of_ble_eq_true rfl, Nat.le_of_ble_eq_true rfl⟩ rfl rfl (Nat.le_of_ble_eq_true rfl) dL_law_917 ⟨by show cells + 1 + 0 + 0 ≤ 601024; omega, by show slots + 6 + 0 + 0 ≤ 7293034; omega⟩ hK hP hD hS hA hl.1 rfl rfl [18, 19, 20, 21, 22, 23, 24, 25, 26, 27] [0, 1, 2, 3, 4, 5, 6, 7, 8, 9, 10, 11, 12, 13, 14, 15, 16, 17] [0, 1, 2, 3, 4, 5, 6, 7, 8, 9, 10, 11, 12, 13, 14, 15, 16, 17, 18, 19, 20, 21, 22, 23, 24, 25, 26, 27] rfl rfl rfl rfl (by decide) rfl (fun _ => rfl) (fun _ H locs hP hD hS => ?_)
  have hP : va_P G.1 vwCl (zLW G a c1 o1 ++ zMW G a t1) H := hP
  have hD : va_D (fun q => s.heap.size ≤ q) (zLW G a c1 o1 ++ zMW G a t1) := hD
  refine lv_iload hx hb dL_law_920 (lv_at hl 1 rfl) ?_
  refine lv_icmp_eq (tgt := 927) hx hb dL_law_922 (by decide) (fun _ => ?_) (fun z => absurd e1 z)
  refine lv_iload hx hb dL_law_927 (lv_at hl 1 rfl) ?_
  refine lv_if_ne (tgt := 944) hx hb dL_law_929 (by decide) (fun _ => ?_) (fun z0 => ?_)
  · refine lv_goto (tgt := 1554) hx hb dL_law_944 (by decide) ?_
    refine W.widen (k := cells + 1) (n := slots + 12) (by omega) (by omega) ?_
    exact kk c1 t1 o1 H locs ls hR2 hP hD hS (lv_sub hl [2, 3, 4, 5, 6] rfl)
  · refine lv_aload_n hx hb dL_law_932 rfl (lv_at hl 6 rfl) ?_
    refine lv_iconst (v := (0 : Int32)) hx hb dL_law_933 (by decide) ?_
    refine va_lald hx hb hK.1 hP 17 2 rfl rfl (vp_in_nI (n := 0) (N := 1) (by decide) (by decide)) dL_law_934 ?_
    refine lv_iload hx hb dL_law_935 (lv_at hl 0 rfl) ?_
    refine lv_i2l (v := (mk_leastActs t (xs (nI i + 1).toNatClampNeg)).toInt64) hx hb dL_law_937 rfl ?_
    refine W.lcmp hx hb dL_law_938 ?_
    refine lv_if_eq (tgt := 944) hx hb dL_law_939 (by decide) (fun _ => ?_) (fun z => absurd ((lg_cmp_eq _ _).mpr (e2 z0)) z)
    refine lv_goto (tgt := 1554) hx hb dL_law_944 (by decide) ?_
    refine W.widen (k := cells + 1) (n := slots + 12) (by omega) (by omega) ?_
    exact kk c1 t1 o1 H locs ls hR2 hP hD hS (lv_sub hl [2, 3, 4, 5, 6] rfl)
set_option maxHeartbeats 4000000 in
set_option maxRecDepth 100000 in
theorem k_leastActsIn {p : Program} {l : Launch} {e : Env} {s : State} {m : MethodId} {below : List Frame} {meth : Method} {c : Code} {b L : Nat} {xs : Nat → Int32} {G : zG} {a : Nat → Nat} {Q : State → Prop} (F : CallFix p m c cL_law 9 s #[.ref b] wsL_law RL) (hst : l.stackTraces = false) (hK : zK G s) (hZ : zZ (fun q => s.heap.size ≤ q) s s.heap) (hX : va_X b L xs s s.heap) (hbl : b < s.heap.size) {cells slots : Nat} (hc : cells + 1 ≤ 601024) (hsl : slots + 12 ≤ 7293034) {i : Nat} (hi : i + 4 ≤ L) (hL : L ≤ 2048) {c0 : zS} {t : zM} {ou : Nat → Int64} (hR : zRel c0 t) {H : Heap} {locs : List Loc} {ls : Array Slot} (hP : va_P G.1 vwCl (zLW G a c0 ou ++ zMW G a t) H) (hD : va_D (fun q => s.heap.size ≤ q) (zLW G a c0 ou ++ zMW G a t)) (hS : va_S (fun q => s.heap.size ≤ q) s.heap H locs) (hl : lv_has ls 9 [(4, .int (nI i)), (0, .ref b), (1, .ref (a 0)), (2, .ref (a 18)), (3, .ref (a 17))])
    (kk : ∀ (c0 : zS) (t : zM) (ou : Nat → Int64) (H : Heap) (locs : List Loc) (ls : Array Slot), zRel c0 t → va_P G.1 vwCl (zLW G a c0 ou ++ zMW G a t) H → va_D (fun q => s.heap.size ≤ q) (zLW G a c0 ou ++ zMW G a t) → va_S (fun q => s.heap.size ≤ q) s.heap H locs → lv_has ls 9 [(4, .int (nI i)), (0, .ref b), (1, .ref (a 0)), (2, .ref (a 18)), (3, .ref (a 17))] → W p l e room_1 s m #[.ref b] below meth c H locs (cells + 1) (slots + 12) Q (F0 m 1554 ls [])) :
    W p l e room_1 s m #[.ref b] below meth c H locs cells slots Q (F0 m 947 ls []) := by
  obtain ⟨hx, hb, hml, hown, hts⟩ := id F
  have hA : ∀ q : Nat, s.heap.size ≤ q → (fun q : Nat => s.heap.size ≤ q) q := fun _ h => h
  have hbA : ¬ (fun q : Nat => s.heap.size ≤ q) b := Nat.not_le.mpr hbl
  have v1 : vp_in (nI i + 1) L := by
    rw [show (1 : Int32) = nI 1 from rfl, nI_add]; exact vp_in_nI (by omega) (by omega)
  have v2 : vp_in (nI i + 2) L := by
    rw [show (2 : Int32) = nI 2 from rfl, nI_add]; exact vp_in_nI (by omega) (by omega)
  obtain ⟨z1, z2, ⟨e1, e2⟩, hR2⟩ := zo_leastActsIn hR ou (xs (nI i + 1).toNatClampNeg) (xs (nI i + 2).toNatClampNeg)
  refine lv_aload_n hx hb dL_law_947 rfl (lv_at hl 2 rfl) ?_
  refine lv_aload_n hx hb dL_law_948 rfl (lv_at hl 1 rfl) ?_
  refine lv_iload hx hb dL_law_949 (lv_at hl 0 rfl) ?_
  refine lv_iconst (v := (1 : Int32)) hx hb dL_law_951 (by decide) ?_
  refine lv_iadd hx hb dL_law_952 ?_
  refine va_sld hx hb hX hbl hbA hS v1 dL_law_953 ?_
  refine lv_aload_n hx hb dL_law_954 rfl (lv_at hl 1 rfl) ?_
  refine lv_iload hx hb dL_law_955 (lv_at hl 0 rfl) ?_
  refine lv_iconst (v := (2 : Int32)) hx hb dL_law_957 (by decide) ?_
  refine lv_iadd hx hb dL_law_958 ?_
  refine va_sld hx hb hX hbl hbA hS v2 dL_law_959 ?_
  refine lv_aload_n hx hb dL_law_960 rfl (lv_at hl 4 rfl) ?_
  refine z_callSW (As := [.ref (a 0), .int (xs (nI i + 1).toNatClampNeg), .int (xs (nI i + 2).toNatClampNeg), .ref (a 17)]) (rest := []) (wr := zMW G a t) (w1 := fun _ : Unit => zLW G a (zS_leastActsIn c0 ou (xs (nI i + 1).toNatClampNeg) (xs (nI i + 2).toNatClampNeg)) (zO_leastActsIn c0 ou (xs (nI i + 1).toNatClampNeg) (xs (nI i + 2).toNatClampNeg))) (wj := fun _ : Unit => zLW G a (zS_leastActsIn c0 ou (xs (nI i + 1).toNatClampNeg) (xs (nI i + 2).toNatClampNeg)) (zO_leastActsIn c0 ou (xs (nI i + 1).toNatClampNeg) (xs (nI i + 2).toNatClampNeg)) ++ zMW G a t) F (q_L_leastActsIn l G a c0 ou (xs (nI i + 1).toNatClampNeg) (xs (nI i + 2).toNatClampNeg) z1 hst) gL_law_L_leastActsIn rfl rfl rfl zd_L_leastActsIn ⟨Nat.le_of_ble_eq_true rfl, Nat.le_of_ble_eq_true rfl⟩ rfl rfl (Nat.le_of_ble_eq_true rfl) dL_law_961 ⟨by show cells + 1 ≤ 601024; omega, by show slots + 6 ≤ 7293034; omega⟩ hK hZ hP hD hS hA hl.1 [0, 1, 2, 3, 4, 5, 6, 7, 8, 9, 10, 11, 12, 13, 14, 15, 16, 17] [18, 19, 20, 21, 22, 23, 24, 25, 26, 27] [10, 11, 12, 13, 14, 15, 16, 17, 18, 19, 20, 21, 22, 23, 24, 25, 26, 27, 0, 1, 2, 3, 4, 5, 6, 7, 8, 9] rfl rfl rfl rfl (by decide) rfl (fun _ => rfl) (fun _ H locs hP hD hS => ?_)
  have hP : va_P G.1 vwCl (zLW G a (zS_leastActsIn c0 ou (xs (nI i + 1).toNatClampNeg) (xs (nI i + 2).toNatClampNeg)) (zO_leastActsIn c0 ou (xs (nI i + 1).toNatClampNeg) (xs (nI i + 2).toNatClampNeg)) ++ zMW G a t) H := hP
  have hD : va_D (fun q => s.heap.size ≤ q) (zLW G a (zS_leastActsIn c0 ou (xs (nI i + 1).toNatClampNeg) (xs (nI i + 2).toNatClampNeg)) (zO_leastActsIn c0 ou (xs (nI i + 1).toNatClampNeg) (xs (nI i + 2).toNatClampNeg)) ++ zMW G a t) := hD
  generalize zS_leastActsIn c0 ou (xs (nI i + 1).toNatClampNeg) (xs (nI i + 2).toNatClampNeg) = c1 at hP hD hR2
  generalize zO_leastActsIn c0 ou (xs (nI i + 1).toNatClampNeg) (xs (nI i + 2).toNatClampNeg) = o1 at hP hD e2
  refine lv_istore (lv' := [(5, .int (zk_leastActsIn c0 ou (xs (nI i + 1).toNatClampNeg) (xs (nI i + 2).toNatClampNeg))), (4, .int (nI i)), (0, .ref b), (1, .ref (a 0)), (2, .ref (a 18)), (3, .ref (a 17))]) hx hb dL_law_964 hl (by decide) rfl (fun ls hl => ?_)
  refine lv_aload_n hx hb dL_law_966 rfl (lv_at hl 4 rfl) ?_
  refine lv_aload_n hx hb dL_law_967 rfl (lv_at hl 2 rfl) ?_
  refine lv_iload hx hb dL_law_968 (lv_at hl 1 rfl) ?_
  refine lv_iconst (v := (1 : Int32)) hx hb dL_law_970 (by decide) ?_
  refine lv_iadd hx hb dL_law_971 ?_
  refine va_sld hx hb hX hbl hbA hS v1 dL_law_972 ?_
  refine lv_aload_n hx hb dL_law_973 rfl (lv_at hl 2 rfl) ?_
  refine lv_iload hx hb dL_law_974 (lv_at hl 1 rfl) ?_
  refine lv_iconst (v := (2 : Int32)) hx hb dL_law_976 (by decide) ?_
  refine lv_iadd hx hb dL_law_977 ?_
  refine va_sld hx hb hX hbl hbA hS v2 dL_law_978 ?_
  refine z_callV (As := [.int (xs (nI i + 1).toNatClampNeg), .int (xs (nI i + 2).toNatClampNeg)]) (rest := []) (wr := zLW G a c1 o1) (w1 := fun _ : Unit => zMW G a (zM_leastActsIn t (xs (nI i + 1).toNatClampNeg) (xs (nI i + 2).toNatClampNeg))) (wj := fun _ : Unit => zLW G a c1 o1 ++ zMW G a (zM_leastActsIn t (xs (nI i + 1).toNatClampNeg) (xs (nI i + 2).toNatClampNeg))) (ci := 4) (q0 := 18) F (q_M_leastActsIn l G a t (xs (nI i + 1).toNatClampNeg) (xs (nI i + 2).toNatClampNeg) z2) gL_law_X4_leastActsIn rfl rfl rfl zd_X4_leastActsIn ⟨Nat.le_of_ble_eq_true rfl, Nat.le_of_ble_eq_true rfl⟩ rfl rfl (Nat.le_of_ble_eq_true rfl) dL_law_979 ⟨by show cells + 1 + 0 ≤ 601024; omega, by show slots + 6 + 0 ≤ 7293034; omega⟩ hK hP hD hS hA hl.1 rfl rfl [18, 19, 20, 21, 22, 23, 24, 25, 26, 27] [0, 1, 2, 3, 4, 5, 6, 7, 8, 9, 10, 11, 12, 13, 14, 15, 16, 17] [0, 1, 2, 3, 4, 5, 6, 7, 8, 9, 10, 11, 12, 13, 14, 15, 16, 17, 18, 19, 20, 21, 22, 23, 24, 25, 26, 27] rfl rfl rfl rfl (by decide) rfl (fun _ => rfl) (fun _ H locs hP hD hS => ?_)
  have hP : va_P G.1 vwCl (zLW G a c1 o1 ++ zMW G a (zM_leastActsIn t (xs (nI i + 1).toNatClampNeg) (xs (nI i + 2).toNatClampNeg))) H := hP
  have hD : va_D (fun q => s.heap.size ≤ q) (zLW G a c1 o1 ++ zMW G a (zM_leastActsIn t (xs (nI i + 1).toNatClampNeg) (xs (nI i + 2).toNatClampNeg))) := hD
  generalize zM_leastActsIn t (xs (nI i + 1).toNatClampNeg) (xs (nI i + 2).toNatClampNeg) = t1 at hP hD hR2 e1
  refine lv_istore (lv' := [(6, .int (mk_leastActsIn t (xs (nI i + 1).toNatClampNeg) (xs (nI i + 2).toNatClampNeg))), (5, .int (zk_leastActsIn c0 ou (xs (nI i + 1).toNatClampNeg) (xs (nI i + 2).toNatClampNeg))), (4, .int (nI i)), (0, .ref b), (1, .ref (a 0)), (2, .ref (a 18)), (3, .ref (a 17))]) hx hb dL_law_982 hl (by decide) rfl (fun ls hl => ?_)
  refine lv_aload_n hx hb dL_law_984 rfl (lv_at hl 5 rfl) ?_
  refine z_callV (As := []) (rest := []) (wr := zLW G a c1 o1) (w1 := fun _ : Unit => zMW G a t1) (wj := fun _ : Unit => zLW G a c1 o1 ++ zMW G a t1) (ci := 4) (q0 := 18) F (q_M_thrown l G a t1) gL_law_X4_thrown rfl rfl rfl zd_X4_thrown ⟨Nat.le_of_ble_eq_true rfl, Nat.le_of_ble_eq_true rfl⟩ rfl rfl (Nat.le_of_ble_eq_true rfl) dL_law_985 ⟨by show cells + 1 + 0 + 0 ≤ 601024; omega, by show slots + 6 + 0 + 0 ≤ 7293034; omega⟩ hK hP hD hS hA hl.1 rfl rfl [18, 19, 20, 21, 22, 23, 24, 25, 26, 27] [0, 1, 2, 3, 4, 5, 6, 7, 8, 9, 10, 11, 12, 13, 14, 15, 16, 17] [0, 1, 2, 3, 4, 5, 6, 7, 8, 9, 10, 11, 12, 13, 14, 15, 16, 17, 18, 19, 20, 21, 22, 23, 24, 25, 26, 27] rfl rfl rfl rfl (by decide) rfl (fun _ => rfl) (fun _ H locs hP hD hS => ?_)
  have hP : va_P G.1 vwCl (zLW G a c1 o1 ++ zMW G a t1) H := hP
  have hD : va_D (fun q => s.heap.size ≤ q) (zLW G a c1 o1 ++ zMW G a t1) := hD
  refine lv_iload hx hb dL_law_988 (lv_at hl 1 rfl) ?_
  refine lv_icmp_eq (tgt := 995) hx hb dL_law_990 (by decide) (fun _ => ?_) (fun z => absurd e1 z)
  refine lv_iload hx hb dL_law_995 (lv_at hl 1 rfl) ?_
  refine lv_if_ne (tgt := 1012) hx hb dL_law_997 (by decide) (fun _ => ?_) (fun z0 => ?_)
  · refine lv_goto (tgt := 1554) hx hb dL_law_1012 (by decide) ?_
    refine W.widen (k := cells + 1) (n := slots + 12) (by omega) (by omega) ?_
    exact kk c1 t1 o1 H locs ls hR2 hP hD hS (lv_sub hl [2, 3, 4, 5, 6] rfl)
  · refine lv_aload_n hx hb dL_law_1000 rfl (lv_at hl 6 rfl) ?_
    refine lv_iconst (v := (0 : Int32)) hx hb dL_law_1001 (by decide) ?_
    refine va_lald hx hb hK.1 hP 17 2 rfl rfl (vp_in_nI (n := 0) (N := 1) (by decide) (by decide)) dL_law_1002 ?_
    refine lv_iload hx hb dL_law_1003 (lv_at hl 0 rfl) ?_
    refine lv_i2l (v := (mk_leastActsIn t (xs (nI i + 1).toNatClampNeg) (xs (nI i + 2).toNatClampNeg)).toInt64) hx hb dL_law_1005 rfl ?_
    refine W.lcmp hx hb dL_law_1006 ?_
    refine lv_if_eq (tgt := 1012) hx hb dL_law_1007 (by decide) (fun _ => ?_) (fun z => absurd ((lg_cmp_eq _ _).mpr (e2 z0)) z)
    refine lv_goto (tgt := 1554) hx hb dL_law_1012 (by decide) ?_
    refine W.widen (k := cells + 1) (n := slots + 12) (by omega) (by omega) ?_
    exact kk c1 t1 o1 H locs ls hR2 hP hD hS (lv_sub hl [2, 3, 4, 5, 6] rfl)
set_option maxHeartbeats 4000000 in
set_option maxRecDepth 100000 in
theorem k_nextAct {p : Program} {l : Launch} {e : Env} {s : State} {m : MethodId} {below : List Frame} {meth : Method} {c : Code} {b L : Nat} {xs : Nat → Int32} {G : zG} {a : Nat → Nat} {Q : State → Prop} (F : CallFix p m c cL_law 9 s #[.ref b] wsL_law RL) (hst : l.stackTraces = false) (hK : zK G s) (hZ : zZ (fun q => s.heap.size ≤ q) s s.heap) (hX : va_X b L xs s s.heap) (hbl : b < s.heap.size) {cells slots : Nat} (hc : cells + 1 ≤ 601024) (hsl : slots + 12 ≤ 7293034) {i : Nat} (hi : i + 4 ≤ L) (hL : L ≤ 2048) {c0 : zS} {t : zM} {ou : Nat → Int64} (hR : zRel c0 t) {H : Heap} {locs : List Loc} {ls : Array Slot} (hP : va_P G.1 vwCl (zLW G a c0 ou ++ zMW G a t) H) (hD : va_D (fun q => s.heap.size ≤ q) (zLW G a c0 ou ++ zMW G a t)) (hS : va_S (fun q => s.heap.size ≤ q) s.heap H locs) (hl : lv_has ls 9 [(4, .int (nI i)), (0, .ref b), (1, .ref (a 0)), (2, .ref (a 18)), (3, .ref (a 17))])
    (kk : ∀ (c0 : zS) (t : zM) (ou : Nat → Int64) (H : Heap) (locs : List Loc) (ls : Array Slot), zRel c0 t → va_P G.1 vwCl (zLW G a c0 ou ++ zMW G a t) H → va_D (fun q => s.heap.size ≤ q) (zLW G a c0 ou ++ zMW G a t) → va_S (fun q => s.heap.size ≤ q) s.heap H locs → lv_has ls 9 [(4, .int (nI i)), (0, .ref b), (1, .ref (a 0)), (2, .ref (a 18)), (3, .ref (a 17))] → W p l e room_1 s m #[.ref b] below meth c H locs (cells + 1) (slots + 12) Q (F0 m 1554 ls [])) :
    W p l e room_1 s m #[.ref b] below meth c H locs cells slots Q (F0 m 1015 ls []) := by
  obtain ⟨hx, hb, hml, hown, hts⟩ := id F
  have hA : ∀ q : Nat, s.heap.size ≤ q → (fun q : Nat => s.heap.size ≤ q) q := fun _ h => h
  have hbA : ¬ (fun q : Nat => s.heap.size ≤ q) b := Nat.not_le.mpr hbl
  have v1 : vp_in (nI i + 1) L := by
    rw [show (1 : Int32) = nI 1 from rfl, nI_add]; exact vp_in_nI (by omega) (by omega)
  obtain ⟨z1, z2, ⟨e1, e2⟩, hR2⟩ := zo_nextAct hR ou (xs (nI i + 1).toNatClampNeg)
  refine lv_aload_n hx hb dL_law_1015 rfl (lv_at hl 2 rfl) ?_
  refine lv_aload_n hx hb dL_law_1016 rfl (lv_at hl 1 rfl) ?_
  refine lv_iload hx hb dL_law_1017 (lv_at hl 0 rfl) ?_
  refine lv_iconst (v := (1 : Int32)) hx hb dL_law_1019 (by decide) ?_
  refine lv_iadd hx hb dL_law_1020 ?_
  refine va_sld hx hb hX hbl hbA hS v1 dL_law_1021 ?_
  refine lv_aload_n hx hb dL_law_1022 rfl (lv_at hl 4 rfl) ?_
  refine z_callSW (As := [.ref (a 0), .int (xs (nI i + 1).toNatClampNeg), .ref (a 17)]) (rest := []) (wr := zMW G a t) (w1 := fun _ : Unit => zLW G a (zS_nextAct c0 ou (xs (nI i + 1).toNatClampNeg)) (zO_nextAct c0 ou (xs (nI i + 1).toNatClampNeg))) (wj := fun _ : Unit => zLW G a (zS_nextAct c0 ou (xs (nI i + 1).toNatClampNeg)) (zO_nextAct c0 ou (xs (nI i + 1).toNatClampNeg)) ++ zMW G a t) F (q_L_nextAct l G a c0 ou (xs (nI i + 1).toNatClampNeg) z1 hst) gL_law_L_nextAct rfl rfl rfl zd_L_nextAct ⟨Nat.le_of_ble_eq_true rfl, Nat.le_of_ble_eq_true rfl⟩ rfl rfl (Nat.le_of_ble_eq_true rfl) dL_law_1023 ⟨by show cells + 1 ≤ 601024; omega, by show slots + 6 ≤ 7293034; omega⟩ hK hZ hP hD hS hA hl.1 [0, 1, 2, 3, 4, 5, 6, 7, 8, 9, 10, 11, 12, 13, 14, 15, 16, 17] [18, 19, 20, 21, 22, 23, 24, 25, 26, 27] [10, 11, 12, 13, 14, 15, 16, 17, 18, 19, 20, 21, 22, 23, 24, 25, 26, 27, 0, 1, 2, 3, 4, 5, 6, 7, 8, 9] rfl rfl rfl rfl (by decide) rfl (fun _ => rfl) (fun _ H locs hP hD hS => ?_)
  have hP : va_P G.1 vwCl (zLW G a (zS_nextAct c0 ou (xs (nI i + 1).toNatClampNeg)) (zO_nextAct c0 ou (xs (nI i + 1).toNatClampNeg)) ++ zMW G a t) H := hP
  have hD : va_D (fun q => s.heap.size ≤ q) (zLW G a (zS_nextAct c0 ou (xs (nI i + 1).toNatClampNeg)) (zO_nextAct c0 ou (xs (nI i + 1).toNatClampNeg)) ++ zMW G a t) := hD
  generalize zS_nextAct c0 ou (xs (nI i + 1).toNatClampNeg) = c1 at hP hD hR2
  generalize zO_nextAct c0 ou (xs (nI i + 1).toNatClampNeg) = o1 at hP hD e2
  refine lv_istore (lv' := [(5, .int (zk_nextAct c0 ou (xs (nI i + 1).toNatClampNeg))), (4, .int (nI i)), (0, .ref b), (1, .ref (a 0)), (2, .ref (a 18)), (3, .ref (a 17))]) hx hb dL_law_1026 hl (by decide) rfl (fun ls hl => ?_)
  refine lv_aload_n hx hb dL_law_1028 rfl (lv_at hl 4 rfl) ?_
  refine lv_aload_n hx hb dL_law_1029 rfl (lv_at hl 2 rfl) ?_
  refine lv_iload hx hb dL_law_1030 (lv_at hl 1 rfl) ?_
  refine lv_iconst (v := (1 : Int32)) hx hb dL_law_1032 (by decide) ?_
  refine lv_iadd hx hb dL_law_1033 ?_
  refine va_sld hx hb hX hbl hbA hS v1 dL_law_1034 ?_
  refine z_callV (As := [.int (xs (nI i + 1).toNatClampNeg)]) (rest := []) (wr := zLW G a c1 o1) (w1 := fun _ : Unit => zMW G a (zM_nextAct t (xs (nI i + 1).toNatClampNeg))) (wj := fun _ : Unit => zLW G a c1 o1 ++ zMW G a (zM_nextAct t (xs (nI i + 1).toNatClampNeg))) (ci := 4) (q0 := 18) F (q_M_nextAct l G a t (xs (nI i + 1).toNatClampNeg) z2) gL_law_X4_nextAct rfl rfl rfl zd_X4_nextAct ⟨Nat.le_of_ble_eq_true rfl, Nat.le_of_ble_eq_true rfl⟩ rfl rfl (Nat.le_of_ble_eq_true rfl) dL_law_1035 ⟨by show cells + 1 + 0 ≤ 601024; omega, by show slots + 6 + 0 ≤ 7293034; omega⟩ hK hP hD hS hA hl.1 rfl rfl [18, 19, 20, 21, 22, 23, 24, 25, 26, 27] [0, 1, 2, 3, 4, 5, 6, 7, 8, 9, 10, 11, 12, 13, 14, 15, 16, 17] [0, 1, 2, 3, 4, 5, 6, 7, 8, 9, 10, 11, 12, 13, 14, 15, 16, 17, 18, 19, 20, 21, 22, 23, 24, 25, 26, 27] rfl rfl rfl rfl (by decide) rfl (fun _ => rfl) (fun _ H locs hP hD hS => ?_)
  have hP : va_P G.1 vwCl (zLW G a c1 o1 ++ zMW G a (zM_nextAct t (xs (nI i + 1).toNatClampNeg))) H := hP
  have hD : va_D (fun q => s.heap.size ≤ q) (zLW G a c1 o1 ++ zMW G a (zM_nextAct t (xs (nI i + 1).toNatClampNeg))) := hD
  generalize zM_nextAct t (xs (nI i + 1).toNatClampNeg) = t1 at hP hD hR2 e1
  refine lv_istore (lv' := [(6, .int (mk_nextAct t (xs (nI i + 1).toNatClampNeg))), (5, .int (zk_nextAct c0 ou (xs (nI i + 1).toNatClampNeg))), (4, .int (nI i)), (0, .ref b), (1, .ref (a 0)), (2, .ref (a 18)), (3, .ref (a 17))]) hx hb dL_law_1038 hl (by decide) rfl (fun ls hl => ?_)
  refine lv_aload_n hx hb dL_law_1040 rfl (lv_at hl 5 rfl) ?_
  refine z_callV (As := []) (rest := []) (wr := zLW G a c1 o1) (w1 := fun _ : Unit => zMW G a t1) (wj := fun _ : Unit => zLW G a c1 o1 ++ zMW G a t1) (ci := 4) (q0 := 18) F (q_M_thrown l G a t1) gL_law_X4_thrown rfl rfl rfl zd_X4_thrown ⟨Nat.le_of_ble_eq_true rfl, Nat.le_of_ble_eq_true rfl⟩ rfl rfl (Nat.le_of_ble_eq_true rfl) dL_law_1041 ⟨by show cells + 1 + 0 + 0 ≤ 601024; omega, by show slots + 6 + 0 + 0 ≤ 7293034; omega⟩ hK hP hD hS hA hl.1 rfl rfl [18, 19, 20, 21, 22, 23, 24, 25, 26, 27] [0, 1, 2, 3, 4, 5, 6, 7, 8, 9, 10, 11, 12, 13, 14, 15, 16, 17] [0, 1, 2, 3, 4, 5, 6, 7, 8, 9, 10, 11, 12, 13, 14, 15, 16, 17, 18, 19, 20, 21, 22, 23, 24, 25, 26, 27] rfl rfl rfl rfl (by decide) rfl (fun _ => rfl) (fun _ H locs hP hD hS => ?_)
  have hP : va_P G.1 vwCl (zLW G a c1 o1 ++ zMW G a t1) H := hP
  have hD : va_D (fun q => s.heap.size ≤ q) (zLW G a c1 o1 ++ zMW G a t1) := hD
  refine lv_iload hx hb dL_law_1044 (lv_at hl 1 rfl) ?_
  refine lv_icmp_eq (tgt := 1051) hx hb dL_law_1046 (by decide) (fun _ => ?_) (fun z => absurd e1 z)
  refine lv_iload hx hb dL_law_1051 (lv_at hl 1 rfl) ?_
  refine lv_if_ne (tgt := 1068) hx hb dL_law_1053 (by decide) (fun _ => ?_) (fun z0 => ?_)
  · refine lv_goto (tgt := 1554) hx hb dL_law_1068 (by decide) ?_
    refine W.widen (k := cells + 1) (n := slots + 12) (by omega) (by omega) ?_
    exact kk c1 t1 o1 H locs ls hR2 hP hD hS (lv_sub hl [2, 3, 4, 5, 6] rfl)
  · refine lv_aload_n hx hb dL_law_1056 rfl (lv_at hl 6 rfl) ?_
    refine lv_iconst (v := (0 : Int32)) hx hb dL_law_1057 (by decide) ?_
    refine va_lald hx hb hK.1 hP 17 2 rfl rfl (vp_in_nI (n := 0) (N := 1) (by decide) (by decide)) dL_law_1058 ?_
    refine lv_iload hx hb dL_law_1059 (lv_at hl 0 rfl) ?_
    refine lv_i2l (v := (mk_nextAct t (xs (nI i + 1).toNatClampNeg)).toInt64) hx hb dL_law_1061 rfl ?_
    refine W.lcmp hx hb dL_law_1062 ?_
    refine lv_if_eq (tgt := 1068) hx hb dL_law_1063 (by decide) (fun _ => ?_) (fun z => absurd ((lg_cmp_eq _ _).mpr (e2 z0)) z)
    refine lv_goto (tgt := 1554) hx hb dL_law_1068 (by decide) ?_
    refine W.widen (k := cells + 1) (n := slots + 12) (by omega) (by omega) ?_
    exact kk c1 t1 o1 H locs ls hR2 hP hD hS (lv_sub hl [2, 3, 4, 5, 6] rfl)
set_option maxHeartbeats 4000000 in
set_option maxRecDepth 100000 in
theorem k_statesAway {p : Program} {l : Launch} {e : Env} {s : State} {m : MethodId} {below : List Frame} {meth : Method} {c : Code} {b L : Nat} {xs : Nat → Int32} {G : zG} {a : Nat → Nat} {Q : State → Prop} (F : CallFix p m c cL_law 9 s #[.ref b] wsL_law RL) (hst : l.stackTraces = false) (hK : zK G s) (hZ : zZ (fun q => s.heap.size ≤ q) s s.heap) (hX : va_X b L xs s s.heap) (hbl : b < s.heap.size) {cells slots : Nat} (hc : cells + 1 ≤ 601024) (hsl : slots + 12 ≤ 7293034) {i : Nat} (hi : i + 4 ≤ L) (hL : L ≤ 2048) {c0 : zS} {t : zM} {ou : Nat → Int64} (hR : zRel c0 t) {H : Heap} {locs : List Loc} {ls : Array Slot} (hP : va_P G.1 vwCl (zLW G a c0 ou ++ zMW G a t) H) (hD : va_D (fun q => s.heap.size ≤ q) (zLW G a c0 ou ++ zMW G a t)) (hS : va_S (fun q => s.heap.size ≤ q) s.heap H locs) (hl : lv_has ls 9 [(4, .int (nI i)), (0, .ref b), (1, .ref (a 0)), (2, .ref (a 18)), (3, .ref (a 17))])
    (kk : ∀ (c0 : zS) (t : zM) (ou : Nat → Int64) (H : Heap) (locs : List Loc) (ls : Array Slot), zRel c0 t → va_P G.1 vwCl (zLW G a c0 ou ++ zMW G a t) H → va_D (fun q => s.heap.size ≤ q) (zLW G a c0 ou ++ zMW G a t) → va_S (fun q => s.heap.size ≤ q) s.heap H locs → lv_has ls 9 [(4, .int (nI i)), (0, .ref b), (1, .ref (a 0)), (2, .ref (a 18)), (3, .ref (a 17))] → W p l e room_1 s m #[.ref b] below meth c H locs (cells + 1) (slots + 12) Q (F0 m 1554 ls [])) :
    W p l e room_1 s m #[.ref b] below meth c H locs cells slots Q (F0 m 1097 ls []) := by
  obtain ⟨hx, hb, hml, hown, hts⟩ := id F
  have hA : ∀ q : Nat, s.heap.size ≤ q → (fun q : Nat => s.heap.size ≤ q) q := fun _ h => h
  have hbA : ¬ (fun q : Nat => s.heap.size ≤ q) b := Nat.not_le.mpr hbl
  have v1 : vp_in (nI i + 1) L := by
    rw [show (1 : Int32) = nI 1 from rfl, nI_add]; exact vp_in_nI (by omega) (by omega)
  obtain ⟨z1, z2, ⟨e1, e2⟩, hR2⟩ := zo_statesAway hR ou (xs (nI i + 1).toNatClampNeg)
  refine lv_aload_n hx hb dL_law_1097 rfl (lv_at hl 2 rfl) ?_
  refine lv_aload_n hx hb dL_law_1098 rfl (lv_at hl 1 rfl) ?_
  refine lv_iload hx hb dL_law_1099 (lv_at hl 0 rfl) ?_
  refine lv_iconst (v := (1 : Int32)) hx hb dL_law_1101 (by decide) ?_
  refine lv_iadd hx hb dL_law_1102 ?_
  refine va_sld hx hb hX hbl hbA hS v1 dL_law_1103 ?_
  refine lv_aload_n hx hb dL_law_1104 rfl (lv_at hl 4 rfl) ?_
  refine z_callSW (As := [.ref (a 0), .int (xs (nI i + 1).toNatClampNeg), .ref (a 17)]) (rest := []) (wr := zMW G a t) (w1 := fun _ : Unit => zLW G a (zS_statesAway c0 ou (xs (nI i + 1).toNatClampNeg)) (zO_statesAway c0 ou (xs (nI i + 1).toNatClampNeg))) (wj := fun _ : Unit => zLW G a (zS_statesAway c0 ou (xs (nI i + 1).toNatClampNeg)) (zO_statesAway c0 ou (xs (nI i + 1).toNatClampNeg)) ++ zMW G a t) F (q_L_statesAway l G a c0 ou (xs (nI i + 1).toNatClampNeg) z1 hst) gL_law_L_statesAway rfl rfl rfl zd_L_statesAway ⟨Nat.le_of_ble_eq_true rfl, Nat.le_of_ble_eq_true rfl⟩ rfl rfl (Nat.le_of_ble_eq_true rfl) dL_law_1105 ⟨by show cells + 1 ≤ 601024; omega, by show slots + 6 ≤ 7293034; omega⟩ hK hZ hP hD hS hA hl.1 [0, 1, 2, 3, 4, 5, 6, 7, 8, 9, 10, 11, 12, 13, 14, 15, 16, 17] [18, 19, 20, 21, 22, 23, 24, 25, 26, 27] [10, 11, 12, 13, 14, 15, 16, 17, 18, 19, 20, 21, 22, 23, 24, 25, 26, 27, 0, 1, 2, 3, 4, 5, 6, 7, 8, 9] rfl rfl rfl rfl (by decide) rfl (fun _ => rfl) (fun _ H locs hP hD hS => ?_)
  have hP : va_P G.1 vwCl (zLW G a (zS_statesAway c0 ou (xs (nI i + 1).toNatClampNeg)) (zO_statesAway c0 ou (xs (nI i + 1).toNatClampNeg)) ++ zMW G a t) H := hP
  have hD : va_D (fun q => s.heap.size ≤ q) (zLW G a (zS_statesAway c0 ou (xs (nI i + 1).toNatClampNeg)) (zO_statesAway c0 ou (xs (nI i + 1).toNatClampNeg)) ++ zMW G a t) := hD
  generalize zS_statesAway c0 ou (xs (nI i + 1).toNatClampNeg) = c1 at hP hD hR2
  generalize zO_statesAway c0 ou (xs (nI i + 1).toNatClampNeg) = o1 at hP hD e2
  refine lv_istore (lv' := [(5, .int (zk_statesAway c0 ou (xs (nI i + 1).toNatClampNeg))), (4, .int (nI i)), (0, .ref b), (1, .ref (a 0)), (2, .ref (a 18)), (3, .ref (a 17))]) hx hb dL_law_1108 hl (by decide) rfl (fun ls hl => ?_)
  refine lv_aload_n hx hb dL_law_1110 rfl (lv_at hl 4 rfl) ?_
  refine lv_aload_n hx hb dL_law_1111 rfl (lv_at hl 2 rfl) ?_
  refine lv_iload hx hb dL_law_1112 (lv_at hl 1 rfl) ?_
  refine lv_iconst (v := (1 : Int32)) hx hb dL_law_1114 (by decide) ?_
  refine lv_iadd hx hb dL_law_1115 ?_
  refine va_sld hx hb hX hbl hbA hS v1 dL_law_1116 ?_
  refine z_callV (As := [.int (xs (nI i + 1).toNatClampNeg)]) (rest := []) (wr := zLW G a c1 o1) (w1 := fun _ : Unit => zMW G a (zM_statesAway t (xs (nI i + 1).toNatClampNeg))) (wj := fun _ : Unit => zLW G a c1 o1 ++ zMW G a (zM_statesAway t (xs (nI i + 1).toNatClampNeg))) (ci := 4) (q0 := 18) F (q_M_statesAway l G a t (xs (nI i + 1).toNatClampNeg) z2) gL_law_X4_statesAway rfl rfl rfl zd_X4_statesAway ⟨Nat.le_of_ble_eq_true rfl, Nat.le_of_ble_eq_true rfl⟩ rfl rfl (Nat.le_of_ble_eq_true rfl) dL_law_1117 ⟨by show cells + 1 + 0 ≤ 601024; omega, by show slots + 6 + 0 ≤ 7293034; omega⟩ hK hP hD hS hA hl.1 rfl rfl [18, 19, 20, 21, 22, 23, 24, 25, 26, 27] [0, 1, 2, 3, 4, 5, 6, 7, 8, 9, 10, 11, 12, 13, 14, 15, 16, 17] [0, 1, 2, 3, 4, 5, 6, 7, 8, 9, 10, 11, 12, 13, 14, 15, 16, 17, 18, 19, 20, 21, 22, 23, 24, 25, 26, 27] rfl rfl rfl rfl (by decide) rfl (fun _ => rfl) (fun _ H locs hP hD hS => ?_)
  have hP : va_P G.1 vwCl (zLW G a c1 o1 ++ zMW G a (zM_statesAway t (xs (nI i + 1).toNatClampNeg))) H := hP
  have hD : va_D (fun q => s.heap.size ≤ q) (zLW G a c1 o1 ++ zMW G a (zM_statesAway t (xs (nI i + 1).toNatClampNeg))) := hD
  generalize zM_statesAway t (xs (nI i + 1).toNatClampNeg) = t1 at hP hD hR2 e1
  refine lv_istore (lv' := [(6, .int (mk_statesAway t (xs (nI i + 1).toNatClampNeg))), (5, .int (zk_statesAway c0 ou (xs (nI i + 1).toNatClampNeg))), (4, .int (nI i)), (0, .ref b), (1, .ref (a 0)), (2, .ref (a 18)), (3, .ref (a 17))]) hx hb dL_law_1120 hl (by decide) rfl (fun ls hl => ?_)
  refine lv_aload_n hx hb dL_law_1122 rfl (lv_at hl 5 rfl) ?_
  refine z_callV (As := []) (rest := []) (wr := zLW G a c1 o1) (w1 := fun _ : Unit => zMW G a t1) (wj := fun _ : Unit => zLW G a c1 o1 ++ zMW G a t1) (ci := 4) (q0 := 18) F (q_M_thrown l G a t1) gL_law_X4_thrown rfl rfl rfl zd_X4_thrown ⟨Nat.le_of_ble_eq_true rfl, Nat.le_of_ble_eq_true rfl⟩ rfl rfl (Nat.le_of_ble_eq_true rfl) dL_law_1123 ⟨by show cells + 1 + 0 + 0 ≤ 601024; omega, by show slots + 6 + 0 + 0 ≤ 7293034; omega⟩ hK hP hD hS hA hl.1 rfl rfl [18, 19, 20, 21, 22, 23, 24, 25, 26, 27] [0, 1, 2, 3, 4, 5, 6, 7, 8, 9, 10, 11, 12, 13, 14, 15, 16, 17] [0, 1, 2, 3, 4, 5, 6, 7, 8, 9, 10, 11, 12, 13, 14, 15, 16, 17, 18, 19, 20, 21, 22, 23, 24, 25, 26, 27] rfl rfl rfl rfl (by decide) rfl (fun _ => rfl) (fun _ H locs hP hD hS => ?_)
  have hP : va_P G.1 vwCl (zLW G a c1 o1 ++ zMW G a t1) H := hP
  have hD : va_D (fun q => s.heap.size ≤ q) (zLW G a c1 o1 ++ zMW G a t1) := hD
  refine lv_iload hx hb dL_law_1126 (lv_at hl 1 rfl) ?_
  refine lv_icmp_eq (tgt := 1133) hx hb dL_law_1128 (by decide) (fun _ => ?_) (fun z => absurd e1 z)
  refine lv_iload hx hb dL_law_1133 (lv_at hl 1 rfl) ?_
  refine lv_if_ne (tgt := 1150) hx hb dL_law_1135 (by decide) (fun _ => ?_) (fun z0 => ?_)
  · refine lv_goto (tgt := 1554) hx hb dL_law_1150 (by decide) ?_
    refine W.widen (k := cells + 1) (n := slots + 12) (by omega) (by omega) ?_
    exact kk c1 t1 o1 H locs ls hR2 hP hD hS (lv_sub hl [2, 3, 4, 5, 6] rfl)
  · refine lv_aload_n hx hb dL_law_1138 rfl (lv_at hl 6 rfl) ?_
    refine lv_iconst (v := (0 : Int32)) hx hb dL_law_1139 (by decide) ?_
    refine va_lald hx hb hK.1 hP 17 2 rfl rfl (vp_in_nI (n := 0) (N := 1) (by decide) (by decide)) dL_law_1140 ?_
    refine lv_iload hx hb dL_law_1141 (lv_at hl 0 rfl) ?_
    refine lv_i2l (v := (mk_statesAway t (xs (nI i + 1).toNatClampNeg)).toInt64) hx hb dL_law_1143 rfl ?_
    refine W.lcmp hx hb dL_law_1144 ?_
    refine lv_if_eq (tgt := 1150) hx hb dL_law_1145 (by decide) (fun _ => ?_) (fun z => absurd ((lg_cmp_eq _ _).mpr (e2 z0)) z)
    refine lv_goto (tgt := 1554) hx hb dL_law_1150 (by decide) ?_
    refine W.widen (k := cells + 1) (n := slots + 12) (by omega) (by omega) ?_
    exact kk c1 t1 o1 H locs ls hR2 hP hD hS (lv_sub hl [2, 3, 4, 5, 6] rfl)
set_option maxHeartbeats 4000000 in
set_option maxRecDepth 100000 in
theorem k_mayBe {p : Program} {l : Launch} {e : Env} {s : State} {m : MethodId} {below : List Frame} {meth : Method} {c : Code} {b L : Nat} {xs : Nat → Int32} {G : zG} {a : Nat → Nat} {Q : State → Prop} (F : CallFix p m c cL_law 9 s #[.ref b] wsL_law RL) (hst : l.stackTraces = false) (hK : zK G s) (hZ : zZ (fun q => s.heap.size ≤ q) s s.heap) (hX : va_X b L xs s s.heap) (hbl : b < s.heap.size) {cells slots : Nat} (hc : cells + 1 ≤ 601024) (hsl : slots + 12 ≤ 7293034) {i : Nat} (hi : i + 4 ≤ L) (hL : L ≤ 2048) {c0 : zS} {t : zM} {ou : Nat → Int64} (hR : zRel c0 t) {H : Heap} {locs : List Loc} {ls : Array Slot} (hP : va_P G.1 vwCl (zLW G a c0 ou ++ zMW G a t) H) (hD : va_D (fun q => s.heap.size ≤ q) (zLW G a c0 ou ++ zMW G a t)) (hS : va_S (fun q => s.heap.size ≤ q) s.heap H locs) (hl : lv_has ls 9 [(4, .int (nI i)), (0, .ref b), (1, .ref (a 0)), (2, .ref (a 18)), (3, .ref (a 17))])
    (kk : ∀ (c0 : zS) (t : zM) (ou : Nat → Int64) (H : Heap) (locs : List Loc) (ls : Array Slot), zRel c0 t → va_P G.1 vwCl (zLW G a c0 ou ++ zMW G a t) H → va_D (fun q => s.heap.size ≤ q) (zLW G a c0 ou ++ zMW G a t) → va_S (fun q => s.heap.size ≤ q) s.heap H locs → lv_has ls 9 [(4, .int (nI i)), (0, .ref b), (1, .ref (a 0)), (2, .ref (a 18)), (3, .ref (a 17))] → W p l e room_1 s m #[.ref b] below meth c H locs (cells + 1) (slots + 12) Q (F0 m 1554 ls [])) :
    W p l e room_1 s m #[.ref b] below meth c H locs cells slots Q (F0 m 1179 ls []) := by
  obtain ⟨hx, hb, hml, hown, hts⟩ := id F
  have hA : ∀ q : Nat, s.heap.size ≤ q → (fun q : Nat => s.heap.size ≤ q) q := fun _ h => h
  have hbA : ¬ (fun q : Nat => s.heap.size ≤ q) b := Nat.not_le.mpr hbl
  have v1 : vp_in (nI i + 1) L := by
    rw [show (1 : Int32) = nI 1 from rfl, nI_add]; exact vp_in_nI (by omega) (by omega)
  have v2 : vp_in (nI i + 2) L := by
    rw [show (2 : Int32) = nI 2 from rfl, nI_add]; exact vp_in_nI (by omega) (by omega)
  obtain ⟨z1, z2, ⟨e1, e2⟩, hR2⟩ := zo_mayBe hR ou (xs (nI i + 1).toNatClampNeg) (xs (nI i + 2).toNatClampNeg)
  have hbz := zb_mayBe t (xs (nI i + 1).toNatClampNeg) (xs (nI i + 2).toNatClampNeg)
  refine lv_aload_n hx hb dL_law_1179 rfl (lv_at hl 2 rfl) ?_
  refine lv_aload_n hx hb dL_law_1180 rfl (lv_at hl 1 rfl) ?_
  refine lv_iload hx hb dL_law_1181 (lv_at hl 0 rfl) ?_
  refine lv_iconst (v := (1 : Int32)) hx hb dL_law_1183 (by decide) ?_
  refine lv_iadd hx hb dL_law_1184 ?_
  refine va_sld hx hb hX hbl hbA hS v1 dL_law_1185 ?_
  refine lv_aload_n hx hb dL_law_1186 rfl (lv_at hl 1 rfl) ?_
  refine lv_iload hx hb dL_law_1187 (lv_at hl 0 rfl) ?_
  refine lv_iconst (v := (2 : Int32)) hx hb dL_law_1189 (by decide) ?_
  refine lv_iadd hx hb dL_law_1190 ?_
  refine va_sld hx hb hX hbl hbA hS v2 dL_law_1191 ?_
  refine lv_aload_n hx hb dL_law_1192 rfl (lv_at hl 4 rfl) ?_
  refine z_callSW (As := [.ref (a 0), .int (xs (nI i + 1).toNatClampNeg), .int (xs (nI i + 2).toNatClampNeg), .ref (a 17)]) (rest := []) (wr := zMW G a t) (w1 := fun _ : Unit => zLW G a (zS_mayBe c0 ou (xs (nI i + 1).toNatClampNeg) (xs (nI i + 2).toNatClampNeg)) (zO_mayBe c0 ou (xs (nI i + 1).toNatClampNeg) (xs (nI i + 2).toNatClampNeg))) (wj := fun _ : Unit => zLW G a (zS_mayBe c0 ou (xs (nI i + 1).toNatClampNeg) (xs (nI i + 2).toNatClampNeg)) (zO_mayBe c0 ou (xs (nI i + 1).toNatClampNeg) (xs (nI i + 2).toNatClampNeg)) ++ zMW G a t) F (q_L_mayBe l G a c0 ou (xs (nI i + 1).toNatClampNeg) (xs (nI i + 2).toNatClampNeg) z1 hst) gL_law_L_mayBe rfl rfl rfl zd_L_mayBe ⟨Nat.le_of_ble_eq_true rfl, Nat.le_of_ble_eq_true rfl⟩ rfl rfl (Nat.le_of_ble_eq_true rfl) dL_law_1193 ⟨by show cells + 1 ≤ 601024; omega, by show slots + 6 ≤ 7293034; omega⟩ hK hZ hP hD hS hA hl.1 [0, 1, 2, 3, 4, 5, 6, 7, 8, 9, 10, 11, 12, 13, 14, 15, 16, 17] [18, 19, 20, 21, 22, 23, 24, 25, 26, 27] [10, 11, 12, 13, 14, 15, 16, 17, 18, 19, 20, 21, 22, 23, 24, 25, 26, 27, 0, 1, 2, 3, 4, 5, 6, 7, 8, 9] rfl rfl rfl rfl (by decide) rfl (fun _ => rfl) (fun _ H locs hP hD hS => ?_)
  have hP : va_P G.1 vwCl (zLW G a (zS_mayBe c0 ou (xs (nI i + 1).toNatClampNeg) (xs (nI i + 2).toNatClampNeg)) (zO_mayBe c0 ou (xs (nI i + 1).toNatClampNeg) (xs (nI i + 2).toNatClampNeg)) ++ zMW G a t) H := hP
  have hD : va_D (fun q => s.heap.size ≤ q) (zLW G a (zS_mayBe c0 ou (xs (nI i + 1).toNatClampNeg) (xs (nI i + 2).toNatClampNeg)) (zO_mayBe c0 ou (xs (nI i + 1).toNatClampNeg) (xs (nI i + 2).toNatClampNeg)) ++ zMW G a t) := hD
  generalize zS_mayBe c0 ou (xs (nI i + 1).toNatClampNeg) (xs (nI i + 2).toNatClampNeg) = c1 at hP hD hR2
  generalize zO_mayBe c0 ou (xs (nI i + 1).toNatClampNeg) (xs (nI i + 2).toNatClampNeg) = o1 at hP hD e2
  refine lv_istore (lv' := [(5, .int (zk_mayBe c0 ou (xs (nI i + 1).toNatClampNeg) (xs (nI i + 2).toNatClampNeg))), (4, .int (nI i)), (0, .ref b), (1, .ref (a 0)), (2, .ref (a 18)), (3, .ref (a 17))]) hx hb dL_law_1196 hl (by decide) rfl (fun ls hl => ?_)
  refine lv_aload_n hx hb dL_law_1198 rfl (lv_at hl 4 rfl) ?_
  refine lv_aload_n hx hb dL_law_1199 rfl (lv_at hl 2 rfl) ?_
  refine lv_iload hx hb dL_law_1200 (lv_at hl 1 rfl) ?_
  refine lv_iconst (v := (1 : Int32)) hx hb dL_law_1202 (by decide) ?_
  refine lv_iadd hx hb dL_law_1203 ?_
  refine va_sld hx hb hX hbl hbA hS v1 dL_law_1204 ?_
  refine lv_aload_n hx hb dL_law_1205 rfl (lv_at hl 2 rfl) ?_
  refine lv_iload hx hb dL_law_1206 (lv_at hl 1 rfl) ?_
  refine lv_iconst (v := (2 : Int32)) hx hb dL_law_1208 (by decide) ?_
  refine lv_iadd hx hb dL_law_1209 ?_
  refine va_sld hx hb hX hbl hbA hS v2 dL_law_1210 ?_
  refine z_callV (As := [.int (xs (nI i + 1).toNatClampNeg), .int (xs (nI i + 2).toNatClampNeg)]) (rest := []) (wr := zLW G a c1 o1) (w1 := fun _ : Unit => zMW G a (zM_mayBe t (xs (nI i + 1).toNatClampNeg) (xs (nI i + 2).toNatClampNeg))) (wj := fun _ : Unit => zLW G a c1 o1 ++ zMW G a (zM_mayBe t (xs (nI i + 1).toNatClampNeg) (xs (nI i + 2).toNatClampNeg))) (ci := 4) (q0 := 18) F (q_M_mayBe l G a t (xs (nI i + 1).toNatClampNeg) (xs (nI i + 2).toNatClampNeg) z2) gL_law_X4_mayBe rfl rfl rfl zd_X4_mayBe ⟨Nat.le_of_ble_eq_true rfl, Nat.le_of_ble_eq_true rfl⟩ rfl rfl (Nat.le_of_ble_eq_true rfl) dL_law_1211 ⟨by show cells + 1 + 0 ≤ 601024; omega, by show slots + 6 + 0 ≤ 7293034; omega⟩ hK hP hD hS hA hl.1 rfl rfl [18, 19, 20, 21, 22, 23, 24, 25, 26, 27] [0, 1, 2, 3, 4, 5, 6, 7, 8, 9, 10, 11, 12, 13, 14, 15, 16, 17] [0, 1, 2, 3, 4, 5, 6, 7, 8, 9, 10, 11, 12, 13, 14, 15, 16, 17, 18, 19, 20, 21, 22, 23, 24, 25, 26, 27] rfl rfl rfl rfl (by decide) rfl (fun _ => rfl) (fun _ H locs hP hD hS => ?_)
  have hP : va_P G.1 vwCl (zLW G a c1 o1 ++ zMW G a (zM_mayBe t (xs (nI i + 1).toNatClampNeg) (xs (nI i + 2).toNatClampNeg))) H := hP
  have hD : va_D (fun q => s.heap.size ≤ q) (zLW G a c1 o1 ++ zMW G a (zM_mayBe t (xs (nI i + 1).toNatClampNeg) (xs (nI i + 2).toNatClampNeg))) := hD
  generalize zM_mayBe t (xs (nI i + 1).toNatClampNeg) (xs (nI i + 2).toNatClampNeg) = t1 at hP hD hR2 e1
  refine lv_istore (lv' := [(6, .int (mk_mayBe t (xs (nI i + 1).toNatClampNeg) (xs (nI i + 2).toNatClampNeg))), (5, .int (zk_mayBe c0 ou (xs (nI i + 1).toNatClampNeg) (xs (nI i + 2).toNatClampNeg))), (4, .int (nI i)), (0, .ref b), (1, .ref (a 0)), (2, .ref (a 18)), (3, .ref (a 17))]) hx hb dL_law_1214 hl (by decide) rfl (fun ls hl => ?_)
  refine lv_aload_n hx hb dL_law_1216 rfl (lv_at hl 5 rfl) ?_
  refine z_callV (As := []) (rest := []) (wr := zLW G a c1 o1) (w1 := fun _ : Unit => zMW G a t1) (wj := fun _ : Unit => zLW G a c1 o1 ++ zMW G a t1) (ci := 4) (q0 := 18) F (q_M_thrown l G a t1) gL_law_X4_thrown rfl rfl rfl zd_X4_thrown ⟨Nat.le_of_ble_eq_true rfl, Nat.le_of_ble_eq_true rfl⟩ rfl rfl (Nat.le_of_ble_eq_true rfl) dL_law_1217 ⟨by show cells + 1 + 0 + 0 ≤ 601024; omega, by show slots + 6 + 0 + 0 ≤ 7293034; omega⟩ hK hP hD hS hA hl.1 rfl rfl [18, 19, 20, 21, 22, 23, 24, 25, 26, 27] [0, 1, 2, 3, 4, 5, 6, 7, 8, 9, 10, 11, 12, 13, 14, 15, 16, 17] [0, 1, 2, 3, 4, 5, 6, 7, 8, 9, 10, 11, 12, 13, 14, 15, 16, 17, 18, 19, 20, 21, 22, 23, 24, 25, 26, 27] rfl rfl rfl rfl (by decide) rfl (fun _ => rfl) (fun _ H locs hP hD hS => ?_)
  have hP : va_P G.1 vwCl (zLW G a c1 o1 ++ zMW G a t1) H := hP
  have hD : va_D (fun q => s.heap.size ≤ q) (zLW G a c1 o1 ++ zMW G a t1) := hD
  refine lv_iload hx hb dL_law_1220 (lv_at hl 1 rfl) ?_
  refine lv_icmp_eq (tgt := 1227) hx hb dL_law_1222 (by decide) (fun _ => ?_) (fun z => absurd e1 z)
  refine lv_iload hx hb dL_law_1227 (lv_at hl 1 rfl) ?_
  refine lv_if_ne (tgt := 1251) hx hb dL_law_1229 (by decide) (fun _ => ?_) (fun z0 => ?_)
  · refine lv_goto (tgt := 1554) hx hb dL_law_1251 (by decide) ?_
    refine W.widen (k := cells + 1) (n := slots + 12) (by omega) (by omega) ?_
    exact kk c1 t1 o1 H locs ls hR2 hP hD hS (lv_sub hl [2, 3, 4, 5, 6] rfl)
  · refine lv_aload_n hx hb dL_law_1232 rfl (lv_at hl 6 rfl) ?_
    refine lv_iconst (v := (0 : Int32)) hx hb dL_law_1233 (by decide) ?_
    refine va_lald hx hb hK.1 hP 17 2 rfl rfl (vp_in_nI (n := 0) (N := 1) (by decide) (by decide)) dL_law_1234 ?_
    refine lv_iload hx hb dL_law_1235 (lv_at hl 0 rfl) ?_
    refine lv_if_eq (tgt := 1244) hx hb dL_law_1237 (by decide) (fun y0 => ?_) (fun y0 => ?_)
    · have e3 : o1 0 = (0 : Int64) := by rw [e2 z0, y0]; rfl
      refine lv_lconst (v := (0 : Int64)) hx hb dL_law_1244 (by decide) ?_
      refine W.lcmp hx hb dL_law_1245 ?_
      refine lv_if_eq (tgt := 1251) hx hb dL_law_1246 (by decide) (fun _ => ?_) (fun z => absurd ((lg_cmp_eq _ _).mpr e3) z)
      refine lv_goto (tgt := 1554) hx hb dL_law_1251 (by decide) ?_
      refine W.widen (k := cells + 1) (n := slots + 12) (by omega) (by omega) ?_
      exact kk c1 t1 o1 H locs ls hR2 hP hD hS (lv_sub hl [2, 3, 4, 5, 6] rfl)
    · have e3 : o1 0 = (1 : Int64) := by rw [e2 z0, hbz.resolve_left y0]; rfl
      refine lv_lconst (v := (1 : Int64)) hx hb dL_law_1240 (by decide) ?_
      refine lv_goto (tgt := 1245) hx hb dL_law_1241 (by decide) ?_
      refine W.lcmp hx hb dL_law_1245 ?_
      refine lv_if_eq (tgt := 1251) hx hb dL_law_1246 (by decide) (fun _ => ?_) (fun z => absurd ((lg_cmp_eq _ _).mpr e3) z)
      refine lv_goto (tgt := 1554) hx hb dL_law_1251 (by decide) ?_
      refine W.widen (k := cells + 1) (n := slots + 12) (by omega) (by omega) ?_
      exact kk c1 t1 o1 H locs ls hR2 hP hD hS (lv_sub hl [2, 3, 4, 5, 6] rfl)
set_option maxHeartbeats 4000000 in
set_option maxRecDepth 100000 in
theorem k_isKnown {p : Program} {l : Launch} {e : Env} {s : State} {m : MethodId} {below : List Frame} {meth : Method} {c : Code} {b L : Nat} {xs : Nat → Int32} {G : zG} {a : Nat → Nat} {Q : State → Prop} (F : CallFix p m c cL_law 9 s #[.ref b] wsL_law RL) (hst : l.stackTraces = false) (hK : zK G s) (hZ : zZ (fun q => s.heap.size ≤ q) s s.heap) (hX : va_X b L xs s s.heap) (hbl : b < s.heap.size) {cells slots : Nat} (hc : cells + 1 ≤ 601024) (hsl : slots + 12 ≤ 7293034) {i : Nat} (hi : i + 4 ≤ L) (hL : L ≤ 2048) {c0 : zS} {t : zM} {ou : Nat → Int64} (hR : zRel c0 t) {H : Heap} {locs : List Loc} {ls : Array Slot} (hP : va_P G.1 vwCl (zLW G a c0 ou ++ zMW G a t) H) (hD : va_D (fun q => s.heap.size ≤ q) (zLW G a c0 ou ++ zMW G a t)) (hS : va_S (fun q => s.heap.size ≤ q) s.heap H locs) (hl : lv_has ls 9 [(4, .int (nI i)), (0, .ref b), (1, .ref (a 0)), (2, .ref (a 18)), (3, .ref (a 17))])
    (kk : ∀ (c0 : zS) (t : zM) (ou : Nat → Int64) (H : Heap) (locs : List Loc) (ls : Array Slot), zRel c0 t → va_P G.1 vwCl (zLW G a c0 ou ++ zMW G a t) H → va_D (fun q => s.heap.size ≤ q) (zLW G a c0 ou ++ zMW G a t) → va_S (fun q => s.heap.size ≤ q) s.heap H locs → lv_has ls 9 [(4, .int (nI i)), (0, .ref b), (1, .ref (a 0)), (2, .ref (a 18)), (3, .ref (a 17))] → W p l e room_1 s m #[.ref b] below meth c H locs (cells + 1) (slots + 12) Q (F0 m 1554 ls [])) :
    W p l e room_1 s m #[.ref b] below meth c H locs cells slots Q (F0 m 1254 ls []) := by
  obtain ⟨hx, hb, hml, hown, hts⟩ := id F
  have hA : ∀ q : Nat, s.heap.size ≤ q → (fun q : Nat => s.heap.size ≤ q) q := fun _ h => h
  have hbA : ¬ (fun q : Nat => s.heap.size ≤ q) b := Nat.not_le.mpr hbl
  have v1 : vp_in (nI i + 1) L := by
    rw [show (1 : Int32) = nI 1 from rfl, nI_add]; exact vp_in_nI (by omega) (by omega)
  obtain ⟨z1, z2, ⟨e1, e2⟩, hR2⟩ := zo_isKnown hR ou (xs (nI i + 1).toNatClampNeg)
  have hbz := zb_isKnown t (xs (nI i + 1).toNatClampNeg)
  refine lv_aload_n hx hb dL_law_1254 rfl (lv_at hl 2 rfl) ?_
  refine lv_aload_n hx hb dL_law_1255 rfl (lv_at hl 1 rfl) ?_
  refine lv_iload hx hb dL_law_1256 (lv_at hl 0 rfl) ?_
  refine lv_iconst (v := (1 : Int32)) hx hb dL_law_1258 (by decide) ?_
  refine lv_iadd hx hb dL_law_1259 ?_
  refine va_sld hx hb hX hbl hbA hS v1 dL_law_1260 ?_
  refine lv_aload_n hx hb dL_law_1261 rfl (lv_at hl 4 rfl) ?_
  refine z_callSW (As := [.ref (a 0), .int (xs (nI i + 1).toNatClampNeg), .ref (a 17)]) (rest := []) (wr := zMW G a t) (w1 := fun _ : Unit => zLW G a (zS_isKnown c0 ou (xs (nI i + 1).toNatClampNeg)) (zO_isKnown c0 ou (xs (nI i + 1).toNatClampNeg))) (wj := fun _ : Unit => zLW G a (zS_isKnown c0 ou (xs (nI i + 1).toNatClampNeg)) (zO_isKnown c0 ou (xs (nI i + 1).toNatClampNeg)) ++ zMW G a t) F (q_L_isKnown l G a c0 ou (xs (nI i + 1).toNatClampNeg) z1 hst) gL_law_L_isKnown rfl rfl rfl zd_L_isKnown ⟨Nat.le_of_ble_eq_true rfl, Nat.le_of_ble_eq_true rfl⟩ rfl rfl (Nat.le_of_ble_eq_true rfl) dL_law_1262 ⟨by show cells + 1 ≤ 601024; omega, by show slots + 6 ≤ 7293034; omega⟩ hK hZ hP hD hS hA hl.1 [0, 1, 2, 3, 4, 5, 6, 7, 8, 9, 10, 11, 12, 13, 14, 15, 16, 17] [18, 19, 20, 21, 22, 23, 24, 25, 26, 27] [10, 11, 12, 13, 14, 15, 16, 17, 18, 19, 20, 21, 22, 23, 24, 25, 26, 27, 0, 1, 2, 3, 4, 5, 6, 7, 8, 9] rfl rfl rfl rfl (by decide) rfl (fun _ => rfl) (fun _ H locs hP hD hS => ?_)
  have hP : va_P G.1 vwCl (zLW G a (zS_isKnown c0 ou (xs (nI i + 1).toNatClampNeg)) (zO_isKnown c0 ou (xs (nI i + 1).toNatClampNeg)) ++ zMW G a t) H := hP
  have hD : va_D (fun q => s.heap.size ≤ q) (zLW G a (zS_isKnown c0 ou (xs (nI i + 1).toNatClampNeg)) (zO_isKnown c0 ou (xs (nI i + 1).toNatClampNeg)) ++ zMW G a t) := hD
  generalize zS_isKnown c0 ou (xs (nI i + 1).toNatClampNeg) = c1 at hP hD hR2
  generalize zO_isKnown c0 ou (xs (nI i + 1).toNatClampNeg) = o1 at hP hD e2
  refine lv_istore (lv' := [(5, .int (zk_isKnown c0 ou (xs (nI i + 1).toNatClampNeg))), (4, .int (nI i)), (0, .ref b), (1, .ref (a 0)), (2, .ref (a 18)), (3, .ref (a 17))]) hx hb dL_law_1265 hl (by decide) rfl (fun ls hl => ?_)
  refine lv_aload_n hx hb dL_law_1267 rfl (lv_at hl 4 rfl) ?_
  refine lv_aload_n hx hb dL_law_1268 rfl (lv_at hl 2 rfl) ?_
  refine lv_iload hx hb dL_law_1269 (lv_at hl 1 rfl) ?_
  refine lv_iconst (v := (1 : Int32)) hx hb dL_law_1271 (by decide) ?_
  refine lv_iadd hx hb dL_law_1272 ?_
  refine va_sld hx hb hX hbl hbA hS v1 dL_law_1273 ?_
  refine z_callV (As := [.int (xs (nI i + 1).toNatClampNeg)]) (rest := []) (wr := zLW G a c1 o1) (w1 := fun _ : Unit => zMW G a (zM_isKnown t (xs (nI i + 1).toNatClampNeg))) (wj := fun _ : Unit => zLW G a c1 o1 ++ zMW G a (zM_isKnown t (xs (nI i + 1).toNatClampNeg))) (ci := 4) (q0 := 18) F (q_M_isKnown l G a t (xs (nI i + 1).toNatClampNeg) z2) gL_law_X4_isKnown rfl rfl rfl zd_X4_isKnown ⟨Nat.le_of_ble_eq_true rfl, Nat.le_of_ble_eq_true rfl⟩ rfl rfl (Nat.le_of_ble_eq_true rfl) dL_law_1274 ⟨by show cells + 1 + 0 ≤ 601024; omega, by show slots + 6 + 0 ≤ 7293034; omega⟩ hK hP hD hS hA hl.1 rfl rfl [18, 19, 20, 21, 22, 23, 24, 25, 26, 27] [0, 1, 2, 3, 4, 5, 6, 7, 8, 9, 10, 11, 12, 13, 14, 15, 16, 17] [0, 1, 2, 3, 4, 5, 6, 7, 8, 9, 10, 11, 12, 13, 14, 15, 16, 17, 18, 19, 20, 21, 22, 23, 24, 25, 26, 27] rfl rfl rfl rfl (by decide) rfl (fun _ => rfl) (fun _ H locs hP hD hS => ?_)
  have hP : va_P G.1 vwCl (zLW G a c1 o1 ++ zMW G a (zM_isKnown t (xs (nI i + 1).toNatClampNeg))) H := hP
  have hD : va_D (fun q => s.heap.size ≤ q) (zLW G a c1 o1 ++ zMW G a (zM_isKnown t (xs (nI i + 1).toNatClampNeg))) := hD
  generalize zM_isKnown t (xs (nI i + 1).toNatClampNeg) = t1 at hP hD hR2 e1
  refine lv_istore (lv' := [(6, .int (mk_isKnown t (xs (nI i + 1).toNatClampNeg))), (5, .int (zk_isKnown c0 ou (xs (nI i + 1).toNatClampNeg))), (4, .int (nI i)), (0, .ref b), (1, .ref (a 0)), (2, .ref (a 18)), (3, .ref (a 17))]) hx hb dL_law_1277 hl (by decide) rfl (fun ls hl => ?_)
  refine lv_aload_n hx hb dL_law_1279 rfl (lv_at hl 5 rfl) ?_
  refine z_callV (As := []) (rest := []) (wr := zLW G a c1 o1) (w1 := fun _ : Unit => zMW G a t1) (wj := fun _ : Unit => zLW G a c1 o1 ++ zMW G a t1) (ci := 4) (q0 := 18) F (q_M_thrown l G a t1) gL_law_X4_thrown rfl rfl rfl zd_X4_thrown ⟨Nat.le_of_ble_eq_true rfl, Nat.le_of_ble_eq_true rfl⟩ rfl rfl (Nat.le_of_ble_eq_true rfl) dL_law_1280 ⟨by show cells + 1 + 0 + 0 ≤ 601024; omega, by show slots + 6 + 0 + 0 ≤ 7293034; omega⟩ hK hP hD hS hA hl.1 rfl rfl [18, 19, 20, 21, 22, 23, 24, 25, 26, 27] [0, 1, 2, 3, 4, 5, 6, 7, 8, 9, 10, 11, 12, 13, 14, 15, 16, 17] [0, 1, 2, 3, 4, 5, 6, 7, 8, 9, 10, 11, 12, 13, 14, 15, 16, 17, 18, 19, 20, 21, 22, 23, 24, 25, 26, 27] rfl rfl rfl rfl (by decide) rfl (fun _ => rfl) (fun _ H locs hP hD hS => ?_)
  have hP : va_P G.1 vwCl (zLW G a c1 o1 ++ zMW G a t1) H := hP
  have hD : va_D (fun q => s.heap.size ≤ q) (zLW G a c1 o1 ++ zMW G a t1) := hD
  refine lv_iload hx hb dL_law_1283 (lv_at hl 1 rfl) ?_
  refine lv_icmp_eq (tgt := 1290) hx hb dL_law_1285 (by decide) (fun _ => ?_) (fun z => absurd e1 z)
  refine lv_iload hx hb dL_law_1290 (lv_at hl 1 rfl) ?_
  refine lv_if_ne (tgt := 1314) hx hb dL_law_1292 (by decide) (fun _ => ?_) (fun z0 => ?_)
  · refine lv_goto (tgt := 1554) hx hb dL_law_1314 (by decide) ?_
    refine W.widen (k := cells + 1) (n := slots + 12) (by omega) (by omega) ?_
    exact kk c1 t1 o1 H locs ls hR2 hP hD hS (lv_sub hl [2, 3, 4, 5, 6] rfl)
  · refine lv_aload_n hx hb dL_law_1295 rfl (lv_at hl 6 rfl) ?_
    refine lv_iconst (v := (0 : Int32)) hx hb dL_law_1296 (by decide) ?_
    refine va_lald hx hb hK.1 hP 17 2 rfl rfl (vp_in_nI (n := 0) (N := 1) (by decide) (by decide)) dL_law_1297 ?_
    refine lv_iload hx hb dL_law_1298 (lv_at hl 0 rfl) ?_
    refine lv_if_eq (tgt := 1307) hx hb dL_law_1300 (by decide) (fun y0 => ?_) (fun y0 => ?_)
    · have e3 : o1 0 = (0 : Int64) := by rw [e2 z0, y0]; rfl
      refine lv_lconst (v := (0 : Int64)) hx hb dL_law_1307 (by decide) ?_
      refine W.lcmp hx hb dL_law_1308 ?_
      refine lv_if_eq (tgt := 1314) hx hb dL_law_1309 (by decide) (fun _ => ?_) (fun z => absurd ((lg_cmp_eq _ _).mpr e3) z)
      refine lv_goto (tgt := 1554) hx hb dL_law_1314 (by decide) ?_
      refine W.widen (k := cells + 1) (n := slots + 12) (by omega) (by omega) ?_
      exact kk c1 t1 o1 H locs ls hR2 hP hD hS (lv_sub hl [2, 3, 4, 5, 6] rfl)
    · have e3 : o1 0 = (1 : Int64) := by rw [e2 z0, hbz.resolve_left y0]; rfl
      refine lv_lconst (v := (1 : Int64)) hx hb dL_law_1303 (by decide) ?_
      refine lv_goto (tgt := 1308) hx hb dL_law_1304 (by decide) ?_
      refine W.lcmp hx hb dL_law_1308 ?_
      refine lv_if_eq (tgt := 1314) hx hb dL_law_1309 (by decide) (fun _ => ?_) (fun z => absurd ((lg_cmp_eq _ _).mpr e3) z)
      refine lv_goto (tgt := 1554) hx hb dL_law_1314 (by decide) ?_
      refine W.widen (k := cells + 1) (n := slots + 12) (by omega) (by omega) ?_
      exact kk c1 t1 o1 H locs ls hR2 hP hD hS (lv_sub hl [2, 3, 4, 5, 6] rfl)
set_option maxHeartbeats 4000000 in
set_option maxRecDepth 100000 in
theorem k_guess {p : Program} {l : Launch} {e : Env} {s : State} {m : MethodId} {below : List Frame} {meth : Method} {c : Code} {b L : Nat} {xs : Nat → Int32} {G : zG} {a : Nat → Nat} {Q : State → Prop} (F : CallFix p m c cL_law 9 s #[.ref b] wsL_law RL) (hst : l.stackTraces = false) (hK : zK G s) (hZ : zZ (fun q => s.heap.size ≤ q) s s.heap) (hX : va_X b L xs s s.heap) (hbl : b < s.heap.size) {cells slots : Nat} (hc : cells + 1 ≤ 601024) (hsl : slots + 12 ≤ 7293034) {i : Nat} (hi : i + 4 ≤ L) (hL : L ≤ 2048) {c0 : zS} {t : zM} {ou : Nat → Int64} (hR : zRel c0 t) {H : Heap} {locs : List Loc} {ls : Array Slot} (hP : va_P G.1 vwCl (zLW G a c0 ou ++ zMW G a t) H) (hD : va_D (fun q => s.heap.size ≤ q) (zLW G a c0 ou ++ zMW G a t)) (hS : va_S (fun q => s.heap.size ≤ q) s.heap H locs) (hl : lv_has ls 9 [(4, .int (nI i)), (0, .ref b), (1, .ref (a 0)), (2, .ref (a 18)), (3, .ref (a 17))])
    (kk : ∀ (c0 : zS) (t : zM) (ou : Nat → Int64) (H : Heap) (locs : List Loc) (ls : Array Slot), zRel c0 t → va_P G.1 vwCl (zLW G a c0 ou ++ zMW G a t) H → va_D (fun q => s.heap.size ≤ q) (zLW G a c0 ou ++ zMW G a t) → va_S (fun q => s.heap.size ≤ q) s.heap H locs → lv_has ls 9 [(4, .int (nI i)), (0, .ref b), (1, .ref (a 0)), (2, .ref (a 18)), (3, .ref (a 17))] → W p l e room_1 s m #[.ref b] below meth c H locs (cells + 1) (slots + 12) Q (F0 m 1554 ls [])) :
    W p l e room_1 s m #[.ref b] below meth c H locs cells slots Q (F0 m 1317 ls []) := by
  obtain ⟨hx, hb, hml, hown, hts⟩ := id F
  have hA : ∀ q : Nat, s.heap.size ≤ q → (fun q : Nat => s.heap.size ≤ q) q := fun _ h => h
  have hbA : ¬ (fun q : Nat => s.heap.size ≤ q) b := Nat.not_le.mpr hbl
  have v1 : vp_in (nI i + 1) L := by
    rw [show (1 : Int32) = nI 1 from rfl, nI_add]; exact vp_in_nI (by omega) (by omega)
  have v2 : vp_in (nI i + 2) L := by
    rw [show (2 : Int32) = nI 2 from rfl, nI_add]; exact vp_in_nI (by omega) (by omega)
  obtain ⟨z1, z2, ⟨e1, e2⟩, hR2⟩ := zo_guess hR ou (xs (nI i + 1).toNatClampNeg) (xs (nI i + 2).toNatClampNeg)
  have hbz := zb_guess t (xs (nI i + 1).toNatClampNeg) (xs (nI i + 2).toNatClampNeg)
  refine lv_aload_n hx hb dL_law_1317 rfl (lv_at hl 2 rfl) ?_
  refine lv_aload_n hx hb dL_law_1318 rfl (lv_at hl 1 rfl) ?_
  refine lv_iload hx hb dL_law_1319 (lv_at hl 0 rfl) ?_
  refine lv_iconst (v := (1 : Int32)) hx hb dL_law_1321 (by decide) ?_
  refine lv_iadd hx hb dL_law_1322 ?_
  refine va_sld hx hb hX hbl hbA hS v1 dL_law_1323 ?_
  refine lv_aload_n hx hb dL_law_1324 rfl (lv_at hl 1 rfl) ?_
  refine lv_iload hx hb dL_law_1325 (lv_at hl 0 rfl) ?_
  refine lv_iconst (v := (2 : Int32)) hx hb dL_law_1327 (by decide) ?_
  refine lv_iadd hx hb dL_law_1328 ?_
  refine va_sld hx hb hX hbl hbA hS v2 dL_law_1329 ?_
  refine lv_aload_n hx hb dL_law_1330 rfl (lv_at hl 4 rfl) ?_
  refine z_callSW (As := [.ref (a 0), .int (xs (nI i + 1).toNatClampNeg), .int (xs (nI i + 2).toNatClampNeg), .ref (a 17)]) (rest := []) (wr := zMW G a t) (w1 := fun _ : Unit => zLW G a (zS_guess c0 ou (xs (nI i + 1).toNatClampNeg) (xs (nI i + 2).toNatClampNeg)) (zO_guess c0 ou (xs (nI i + 1).toNatClampNeg) (xs (nI i + 2).toNatClampNeg))) (wj := fun _ : Unit => zLW G a (zS_guess c0 ou (xs (nI i + 1).toNatClampNeg) (xs (nI i + 2).toNatClampNeg)) (zO_guess c0 ou (xs (nI i + 1).toNatClampNeg) (xs (nI i + 2).toNatClampNeg)) ++ zMW G a t) F (q_L_guess l G a c0 ou (xs (nI i + 1).toNatClampNeg) (xs (nI i + 2).toNatClampNeg) z1 hst) gL_law_L_guess rfl rfl rfl zd_L_guess ⟨Nat.le_of_ble_eq_true rfl, Nat.le_of_ble_eq_true rfl⟩ rfl rfl (Nat.le_of_ble_eq_true rfl) dL_law_1331 ⟨by show cells + 1 ≤ 601024; omega, by show slots + 6 ≤ 7293034; omega⟩ hK hZ hP hD hS hA hl.1 [0, 1, 2, 3, 4, 5, 6, 7, 8, 9, 10, 11, 12, 13, 14, 15, 16, 17] [18, 19, 20, 21, 22, 23, 24, 25, 26, 27] [10, 11, 12, 13, 14, 15, 16, 17, 18, 19, 20, 21, 22, 23, 24, 25, 26, 27, 0, 1, 2, 3, 4, 5, 6, 7, 8, 9] rfl rfl rfl rfl (by decide) rfl (fun _ => rfl) (fun _ H locs hP hD hS => ?_)
  have hP : va_P G.1 vwCl (zLW G a (zS_guess c0 ou (xs (nI i + 1).toNatClampNeg) (xs (nI i + 2).toNatClampNeg)) (zO_guess c0 ou (xs (nI i + 1).toNatClampNeg) (xs (nI i + 2).toNatClampNeg)) ++ zMW G a t) H := hP
  have hD : va_D (fun q => s.heap.size ≤ q) (zLW G a (zS_guess c0 ou (xs (nI i + 1).toNatClampNeg) (xs (nI i + 2).toNatClampNeg)) (zO_guess c0 ou (xs (nI i + 1).toNatClampNeg) (xs (nI i + 2).toNatClampNeg)) ++ zMW G a t) := hD
  generalize zS_guess c0 ou (xs (nI i + 1).toNatClampNeg) (xs (nI i + 2).toNatClampNeg) = c1 at hP hD hR2
  generalize zO_guess c0 ou (xs (nI i + 1).toNatClampNeg) (xs (nI i + 2).toNatClampNeg) = o1 at hP hD e2
  refine lv_istore (lv' := [(5, .int (zk_guess c0 ou (xs (nI i + 1).toNatClampNeg) (xs (nI i + 2).toNatClampNeg))), (4, .int (nI i)), (0, .ref b), (1, .ref (a 0)), (2, .ref (a 18)), (3, .ref (a 17))]) hx hb dL_law_1334 hl (by decide) rfl (fun ls hl => ?_)
  refine lv_aload_n hx hb dL_law_1336 rfl (lv_at hl 4 rfl) ?_
  refine lv_aload_n hx hb dL_law_1337 rfl (lv_at hl 2 rfl) ?_
  refine lv_iload hx hb dL_law_1338 (lv_at hl 1 rfl) ?_
  refine lv_iconst (v := (1 : Int32)) hx hb dL_law_1340 (by decide) ?_
  refine lv_iadd hx hb dL_law_1341 ?_
  refine va_sld hx hb hX hbl hbA hS v1 dL_law_1342 ?_
  refine lv_aload_n hx hb dL_law_1343 rfl (lv_at hl 2 rfl) ?_
  refine lv_iload hx hb dL_law_1344 (lv_at hl 1 rfl) ?_
  refine lv_iconst (v := (2 : Int32)) hx hb dL_law_1346 (by decide) ?_
  refine lv_iadd hx hb dL_law_1347 ?_
  refine va_sld hx hb hX hbl hbA hS v2 dL_law_1348 ?_
  refine z_callV (As := [.int (xs (nI i + 1).toNatClampNeg), .int (xs (nI i + 2).toNatClampNeg)]) (rest := []) (wr := zLW G a c1 o1) (w1 := fun _ : Unit => zMW G a (zM_guess t (xs (nI i + 1).toNatClampNeg) (xs (nI i + 2).toNatClampNeg))) (wj := fun _ : Unit => zLW G a c1 o1 ++ zMW G a (zM_guess t (xs (nI i + 1).toNatClampNeg) (xs (nI i + 2).toNatClampNeg))) (ci := 4) (q0 := 18) F (q_M_guess l G a t (xs (nI i + 1).toNatClampNeg) (xs (nI i + 2).toNatClampNeg) z2) gL_law_X4_guess rfl rfl rfl zd_X4_guess ⟨Nat.le_of_ble_eq_true rfl, Nat.le_of_ble_eq_true rfl⟩ rfl rfl (Nat.le_of_ble_eq_true rfl) dL_law_1349 ⟨by show cells + 1 + 0 ≤ 601024; omega, by show slots + 6 + 0 ≤ 7293034; omega⟩ hK hP hD hS hA hl.1 rfl rfl [18, 19, 20, 21, 22, 23, 24, 25, 26, 27] [0, 1, 2, 3, 4, 5, 6, 7, 8, 9, 10, 11, 12, 13, 14, 15, 16, 17] [0, 1, 2, 3, 4, 5, 6, 7, 8, 9, 10, 11, 12, 13, 14, 15, 16, 17, 18, 19, 20, 21, 22, 23, 24, 25, 26, 27] rfl rfl rfl rfl (by decide) rfl (fun _ => rfl) (fun _ H locs hP hD hS => ?_)
  have hP : va_P G.1 vwCl (zLW G a c1 o1 ++ zMW G a (zM_guess t (xs (nI i + 1).toNatClampNeg) (xs (nI i + 2).toNatClampNeg))) H := hP
  have hD : va_D (fun q => s.heap.size ≤ q) (zLW G a c1 o1 ++ zMW G a (zM_guess t (xs (nI i + 1).toNatClampNeg) (xs (nI i + 2).toNatClampNeg))) := hD
  generalize zM_guess t (xs (nI i + 1).toNatClampNeg) (xs (nI i + 2).toNatClampNeg) = t1 at hP hD hR2 e1
  refine lv_istore (lv' := [(6, .int (mk_guess t (xs (nI i + 1).toNatClampNeg) (xs (nI i + 2).toNatClampNeg))), (5, .int (zk_guess c0 ou (xs (nI i + 1).toNatClampNeg) (xs (nI i + 2).toNatClampNeg))), (4, .int (nI i)), (0, .ref b), (1, .ref (a 0)), (2, .ref (a 18)), (3, .ref (a 17))]) hx hb dL_law_1352 hl (by decide) rfl (fun ls hl => ?_)
  refine lv_aload_n hx hb dL_law_1354 rfl (lv_at hl 5 rfl) ?_
  refine z_callV (As := []) (rest := []) (wr := zLW G a c1 o1) (w1 := fun _ : Unit => zMW G a t1) (wj := fun _ : Unit => zLW G a c1 o1 ++ zMW G a t1) (ci := 4) (q0 := 18) F (q_M_thrown l G a t1) gL_law_X4_thrown rfl rfl rfl zd_X4_thrown ⟨Nat.le_of_ble_eq_true rfl, Nat.le_of_ble_eq_true rfl⟩ rfl rfl (Nat.le_of_ble_eq_true rfl) dL_law_1355 ⟨by show cells + 1 + 0 + 0 ≤ 601024; omega, by show slots + 6 + 0 + 0 ≤ 7293034; omega⟩ hK hP hD hS hA hl.1 rfl rfl [18, 19, 20, 21, 22, 23, 24, 25, 26, 27] [0, 1, 2, 3, 4, 5, 6, 7, 8, 9, 10, 11, 12, 13, 14, 15, 16, 17] [0, 1, 2, 3, 4, 5, 6, 7, 8, 9, 10, 11, 12, 13, 14, 15, 16, 17, 18, 19, 20, 21, 22, 23, 24, 25, 26, 27] rfl rfl rfl rfl (by decide) rfl (fun _ => rfl) (fun _ H locs hP hD hS => ?_)
  have hP : va_P G.1 vwCl (zLW G a c1 o1 ++ zMW G a t1) H := hP
  have hD : va_D (fun q => s.heap.size ≤ q) (zLW G a c1 o1 ++ zMW G a t1) := hD
  refine lv_iload hx hb dL_law_1358 (lv_at hl 1 rfl) ?_
  refine lv_icmp_eq (tgt := 1365) hx hb dL_law_1360 (by decide) (fun _ => ?_) (fun z => absurd e1 z)
  refine lv_iload hx hb dL_law_1365 (lv_at hl 1 rfl) ?_
  refine lv_if_ne (tgt := 1389) hx hb dL_law_1367 (by decide) (fun _ => ?_) (fun z0 => ?_)
  · refine lv_goto (tgt := 1554) hx hb dL_law_1389 (by decide) ?_
    refine W.widen (k := cells + 1) (n := slots + 12) (by omega) (by omega) ?_
    exact kk c1 t1 o1 H locs ls hR2 hP hD hS (lv_sub hl [2, 3, 4, 5, 6] rfl)
  · refine lv_aload_n hx hb dL_law_1370 rfl (lv_at hl 6 rfl) ?_
    refine lv_iconst (v := (0 : Int32)) hx hb dL_law_1371 (by decide) ?_
    refine va_lald hx hb hK.1 hP 17 2 rfl rfl (vp_in_nI (n := 0) (N := 1) (by decide) (by decide)) dL_law_1372 ?_
    refine lv_iload hx hb dL_law_1373 (lv_at hl 0 rfl) ?_
    refine lv_if_eq (tgt := 1382) hx hb dL_law_1375 (by decide) (fun y0 => ?_) (fun y0 => ?_)
    · have e3 : o1 0 = (0 : Int64) := by rw [e2 z0, y0]; rfl
      refine lv_lconst (v := (0 : Int64)) hx hb dL_law_1382 (by decide) ?_
      refine W.lcmp hx hb dL_law_1383 ?_
      refine lv_if_eq (tgt := 1389) hx hb dL_law_1384 (by decide) (fun _ => ?_) (fun z => absurd ((lg_cmp_eq _ _).mpr e3) z)
      refine lv_goto (tgt := 1554) hx hb dL_law_1389 (by decide) ?_
      refine W.widen (k := cells + 1) (n := slots + 12) (by omega) (by omega) ?_
      exact kk c1 t1 o1 H locs ls hR2 hP hD hS (lv_sub hl [2, 3, 4, 5, 6] rfl)
    · have e3 : o1 0 = (1 : Int64) := by rw [e2 z0, hbz.resolve_left y0]; rfl
      refine lv_lconst (v := (1 : Int64)) hx hb dL_law_1378 (by decide) ?_
      refine lv_goto (tgt := 1383) hx hb dL_law_1379 (by decide) ?_
      refine W.lcmp hx hb dL_law_1383 ?_
      refine lv_if_eq (tgt := 1389) hx hb dL_law_1384 (by decide) (fun _ => ?_) (fun z => absurd ((lg_cmp_eq _ _).mpr e3) z)
      refine lv_goto (tgt := 1554) hx hb dL_law_1389 (by decide) ?_
      refine W.widen (k := cells + 1) (n := slots + 12) (by omega) (by omega) ?_
      exact kk c1 t1 o1 H locs ls hR2 hP hD hS (lv_sub hl [2, 3, 4, 5, 6] rfl)
set_option maxHeartbeats 4000000 in
set_option maxRecDepth 100000 in
theorem k_leftAtMost {p : Program} {l : Launch} {e : Env} {s : State} {m : MethodId} {below : List Frame} {meth : Method} {c : Code} {b L : Nat} {xs : Nat → Int32} {G : zG} {a : Nat → Nat} {Q : State → Prop} (F : CallFix p m c cL_law 9 s #[.ref b] wsL_law RL) (hst : l.stackTraces = false) (hK : zK G s) (hZ : zZ (fun q => s.heap.size ≤ q) s s.heap) (hX : va_X b L xs s s.heap) (hbl : b < s.heap.size) {cells slots : Nat} (hc : cells + 1 ≤ 601024) (hsl : slots + 12 ≤ 7293034) {i : Nat} (hi : i + 4 ≤ L) (hL : L ≤ 2048) {c0 : zS} {t : zM} {ou : Nat → Int64} (hR : zRel c0 t) {H : Heap} {locs : List Loc} {ls : Array Slot} (hP : va_P G.1 vwCl (zLW G a c0 ou ++ zMW G a t) H) (hD : va_D (fun q => s.heap.size ≤ q) (zLW G a c0 ou ++ zMW G a t)) (hS : va_S (fun q => s.heap.size ≤ q) s.heap H locs) (hl : lv_has ls 9 [(4, .int (nI i)), (0, .ref b), (1, .ref (a 0)), (2, .ref (a 18)), (3, .ref (a 17))])
    (kk : ∀ (c0 : zS) (t : zM) (ou : Nat → Int64) (H : Heap) (locs : List Loc) (ls : Array Slot), zRel c0 t → va_P G.1 vwCl (zLW G a c0 ou ++ zMW G a t) H → va_D (fun q => s.heap.size ≤ q) (zLW G a c0 ou ++ zMW G a t) → va_S (fun q => s.heap.size ≤ q) s.heap H locs → lv_has ls 9 [(4, .int (nI i)), (0, .ref b), (1, .ref (a 0)), (2, .ref (a 18)), (3, .ref (a 17))] → W p l e room_1 s m #[.ref b] below meth c H locs (cells + 1) (slots + 12) Q (F0 m 1554 ls [])) :
    W p l e room_1 s m #[.ref b] below meth c H locs cells slots Q (F0 m 1418 ls []) := by
  obtain ⟨hx, hb, hml, hown, hts⟩ := id F
  have hA : ∀ q : Nat, s.heap.size ≤ q → (fun q : Nat => s.heap.size ≤ q) q := fun _ h => h
  have hbA : ¬ (fun q : Nat => s.heap.size ≤ q) b := Nat.not_le.mpr hbl
  have v1 : vp_in (nI i + 1) L := by
    rw [show (1 : Int32) = nI 1 from rfl, nI_add]; exact vp_in_nI (by omega) (by omega)
  have v2 : vp_in (nI i + 2) L := by
    rw [show (2 : Int32) = nI 2 from rfl, nI_add]; exact vp_in_nI (by omega) (by omega)
  obtain ⟨z1, z2, ⟨e1, e2⟩, hR2⟩ := zo_leftAtMost hR ou (xs (nI i + 1).toNatClampNeg) (xs (nI i + 2).toNatClampNeg)
  refine lv_aload_n hx hb dL_law_1418 rfl (lv_at hl 2 rfl) ?_
  refine lv_aload_n hx hb dL_law_1419 rfl (lv_at hl 1 rfl) ?_
  refine lv_iload hx hb dL_law_1420 (lv_at hl 0 rfl) ?_
  refine lv_iconst (v := (1 : Int32)) hx hb dL_law_1422 (by decide) ?_
  refine lv_iadd hx hb dL_law_1423 ?_
  refine va_sld hx hb hX hbl hbA hS v1 dL_law_1424 ?_
  refine lv_aload_n hx hb dL_law_1425 rfl (lv_at hl 1 rfl) ?_
  refine lv_iload hx hb dL_law_1426 (lv_at hl 0 rfl) ?_
  refine lv_iconst (v := (2 : Int32)) hx hb dL_law_1428 (by decide) ?_
  refine lv_iadd hx hb dL_law_1429 ?_
  refine va_sld hx hb hX hbl hbA hS v2 dL_law_1430 ?_
  refine lv_aload_n hx hb dL_law_1431 rfl (lv_at hl 4 rfl) ?_
  refine z_callSW (As := [.ref (a 0), .int (xs (nI i + 1).toNatClampNeg), .int (xs (nI i + 2).toNatClampNeg), .ref (a 17)]) (rest := []) (wr := zMW G a t) (w1 := fun _ : Unit => zLW G a (zS_leftAtMost c0 ou (xs (nI i + 1).toNatClampNeg) (xs (nI i + 2).toNatClampNeg)) (zO_leftAtMost c0 ou (xs (nI i + 1).toNatClampNeg) (xs (nI i + 2).toNatClampNeg))) (wj := fun _ : Unit => zLW G a (zS_leftAtMost c0 ou (xs (nI i + 1).toNatClampNeg) (xs (nI i + 2).toNatClampNeg)) (zO_leftAtMost c0 ou (xs (nI i + 1).toNatClampNeg) (xs (nI i + 2).toNatClampNeg)) ++ zMW G a t) F (q_L_leftAtMost l G a c0 ou (xs (nI i + 1).toNatClampNeg) (xs (nI i + 2).toNatClampNeg) z1 hst) gL_law_L_leftAtMost rfl rfl rfl zd_L_leftAtMost ⟨Nat.le_of_ble_eq_true rfl, Nat.le_of_ble_eq_true rfl⟩ rfl rfl (Nat.le_of_ble_eq_true rfl) dL_law_1432 ⟨by show cells + 1 ≤ 601024; omega, by show slots + 6 ≤ 7293034; omega⟩ hK hZ hP hD hS hA hl.1 [0, 1, 2, 3, 4, 5, 6, 7, 8, 9, 10, 11, 12, 13, 14, 15, 16, 17] [18, 19, 20, 21, 22, 23, 24, 25, 26, 27] [10, 11, 12, 13, 14, 15, 16, 17, 18, 19, 20, 21, 22, 23, 24, 25, 26, 27, 0, 1, 2, 3, 4, 5, 6, 7, 8, 9] rfl rfl rfl rfl (by decide) rfl (fun _ => rfl) (fun _ H locs hP hD hS => ?_)
  have hP : va_P G.1 vwCl (zLW G a (zS_leftAtMost c0 ou (xs (nI i + 1).toNatClampNeg) (xs (nI i + 2).toNatClampNeg)) (zO_leftAtMost c0 ou (xs (nI i + 1).toNatClampNeg) (xs (nI i + 2).toNatClampNeg)) ++ zMW G a t) H := hP
  have hD : va_D (fun q => s.heap.size ≤ q) (zLW G a (zS_leftAtMost c0 ou (xs (nI i + 1).toNatClampNeg) (xs (nI i + 2).toNatClampNeg)) (zO_leftAtMost c0 ou (xs (nI i + 1).toNatClampNeg) (xs (nI i + 2).toNatClampNeg)) ++ zMW G a t) := hD
  generalize zS_leftAtMost c0 ou (xs (nI i + 1).toNatClampNeg) (xs (nI i + 2).toNatClampNeg) = c1 at hP hD hR2
  generalize zO_leftAtMost c0 ou (xs (nI i + 1).toNatClampNeg) (xs (nI i + 2).toNatClampNeg) = o1 at hP hD e2
  refine lv_istore (lv' := [(5, .int (zk_leftAtMost c0 ou (xs (nI i + 1).toNatClampNeg) (xs (nI i + 2).toNatClampNeg))), (4, .int (nI i)), (0, .ref b), (1, .ref (a 0)), (2, .ref (a 18)), (3, .ref (a 17))]) hx hb dL_law_1435 hl (by decide) rfl (fun ls hl => ?_)
  refine lv_aload_n hx hb dL_law_1437 rfl (lv_at hl 4 rfl) ?_
  refine lv_aload_n hx hb dL_law_1438 rfl (lv_at hl 2 rfl) ?_
  refine lv_iload hx hb dL_law_1439 (lv_at hl 1 rfl) ?_
  refine lv_iconst (v := (1 : Int32)) hx hb dL_law_1441 (by decide) ?_
  refine lv_iadd hx hb dL_law_1442 ?_
  refine va_sld hx hb hX hbl hbA hS v1 dL_law_1443 ?_
  refine lv_aload_n hx hb dL_law_1444 rfl (lv_at hl 2 rfl) ?_
  refine lv_iload hx hb dL_law_1445 (lv_at hl 1 rfl) ?_
  refine lv_iconst (v := (2 : Int32)) hx hb dL_law_1447 (by decide) ?_
  refine lv_iadd hx hb dL_law_1448 ?_
  refine va_sld hx hb hX hbl hbA hS v2 dL_law_1449 ?_
  refine z_callV (As := [.int (xs (nI i + 1).toNatClampNeg), .int (xs (nI i + 2).toNatClampNeg)]) (rest := []) (wr := zLW G a c1 o1) (w1 := fun _ : Unit => zMW G a (zM_leftAtMost t (xs (nI i + 1).toNatClampNeg) (xs (nI i + 2).toNatClampNeg))) (wj := fun _ : Unit => zLW G a c1 o1 ++ zMW G a (zM_leftAtMost t (xs (nI i + 1).toNatClampNeg) (xs (nI i + 2).toNatClampNeg))) (ci := 4) (q0 := 18) F (q_M_leftAtMost l G a t (xs (nI i + 1).toNatClampNeg) (xs (nI i + 2).toNatClampNeg) z2) gL_law_X4_leftAtMost rfl rfl rfl zd_X4_leftAtMost ⟨Nat.le_of_ble_eq_true rfl, Nat.le_of_ble_eq_true rfl⟩ rfl rfl (Nat.le_of_ble_eq_true rfl) dL_law_1450 ⟨by show cells + 1 + 0 ≤ 601024; omega, by show slots + 6 + 0 ≤ 7293034; omega⟩ hK hP hD hS hA hl.1 rfl rfl [18, 19, 20, 21, 22, 23, 24, 25, 26, 27] [0, 1, 2, 3, 4, 5, 6, 7, 8, 9, 10, 11, 12, 13, 14, 15, 16, 17] [0, 1, 2, 3, 4, 5, 6, 7, 8, 9, 10, 11, 12, 13, 14, 15, 16, 17, 18, 19, 20, 21, 22, 23, 24, 25, 26, 27] rfl rfl rfl rfl (by decide) rfl (fun _ => rfl) (fun _ H locs hP hD hS => ?_)
  have hP : va_P G.1 vwCl (zLW G a c1 o1 ++ zMW G a (zM_leftAtMost t (xs (nI i + 1).toNatClampNeg) (xs (nI i + 2).toNatClampNeg))) H := hP
  have hD : va_D (fun q => s.heap.size ≤ q) (zLW G a c1 o1 ++ zMW G a (zM_leftAtMost t (xs (nI i + 1).toNatClampNeg) (xs (nI i + 2).toNatClampNeg))) := hD
  generalize zM_leftAtMost t (xs (nI i + 1).toNatClampNeg) (xs (nI i + 2).toNatClampNeg) = t1 at hP hD hR2 e1
  refine lv_istore (lv' := [(6, .int (mk_leftAtMost t (xs (nI i + 1).toNatClampNeg) (xs (nI i + 2).toNatClampNeg))), (5, .int (zk_leftAtMost c0 ou (xs (nI i + 1).toNatClampNeg) (xs (nI i + 2).toNatClampNeg))), (4, .int (nI i)), (0, .ref b), (1, .ref (a 0)), (2, .ref (a 18)), (3, .ref (a 17))]) hx hb dL_law_1453 hl (by decide) rfl (fun ls hl => ?_)
  refine lv_aload_n hx hb dL_law_1455 rfl (lv_at hl 5 rfl) ?_
  refine z_callV (As := []) (rest := []) (wr := zLW G a c1 o1) (w1 := fun _ : Unit => zMW G a t1) (wj := fun _ : Unit => zLW G a c1 o1 ++ zMW G a t1) (ci := 4) (q0 := 18) F (q_M_thrown l G a t1) gL_law_X4_thrown rfl rfl rfl zd_X4_thrown ⟨Nat.le_of_ble_eq_true rfl, Nat.le_of_ble_eq_true rfl⟩ rfl rfl (Nat.le_of_ble_eq_true rfl) dL_law_1456 ⟨by show cells + 1 + 0 + 0 ≤ 601024; omega, by show slots + 6 + 0 + 0 ≤ 7293034; omega⟩ hK hP hD hS hA hl.1 rfl rfl [18, 19, 20, 21, 22, 23, 24, 25, 26, 27] [0, 1, 2, 3, 4, 5, 6, 7, 8, 9, 10, 11, 12, 13, 14, 15, 16, 17] [0, 1, 2, 3, 4, 5, 6, 7, 8, 9, 10, 11, 12, 13, 14, 15, 16, 17, 18, 19, 20, 21, 22, 23, 24, 25, 26, 27] rfl rfl rfl rfl (by decide) rfl (fun _ => rfl) (fun _ H locs hP hD hS => ?_)
  have hP : va_P G.1 vwCl (zLW G a c1 o1 ++ zMW G a t1) H := hP
  have hD : va_D (fun q => s.heap.size ≤ q) (zLW G a c1 o1 ++ zMW G a t1) := hD
  refine lv_iload hx hb dL_law_1459 (lv_at hl 1 rfl) ?_
  refine lv_icmp_eq (tgt := 1466) hx hb dL_law_1461 (by decide) (fun _ => ?_) (fun z => absurd e1 z)
  refine lv_iload hx hb dL_law_1466 (lv_at hl 1 rfl) ?_
  refine lv_if_ne (tgt := 1483) hx hb dL_law_1468 (by decide) (fun _ => ?_) (fun z0 => ?_)
  · refine lv_goto (tgt := 1554) hx hb dL_law_1483 (by decide) ?_
    refine W.widen (k := cells + 1) (n := slots + 12) (by omega) (by omega) ?_
    exact kk c1 t1 o1 H locs ls hR2 hP hD hS (lv_sub hl [2, 3, 4, 5, 6] rfl)
  · refine lv_aload_n hx hb dL_law_1471 rfl (lv_at hl 6 rfl) ?_
    refine lv_iconst (v := (0 : Int32)) hx hb dL_law_1472 (by decide) ?_
    refine va_lald hx hb hK.1 hP 17 2 rfl rfl (vp_in_nI (n := 0) (N := 1) (by decide) (by decide)) dL_law_1473 ?_
    refine lv_iload hx hb dL_law_1474 (lv_at hl 0 rfl) ?_
    refine lv_i2l (v := (mk_leftAtMost t (xs (nI i + 1).toNatClampNeg) (xs (nI i + 2).toNatClampNeg)).toInt64) hx hb dL_law_1476 rfl ?_
    refine W.lcmp hx hb dL_law_1477 ?_
    refine lv_if_eq (tgt := 1483) hx hb dL_law_1478 (by decide) (fun _ => ?_) (fun z => absurd ((lg_cmp_eq _ _).mpr (e2 z0)) z)
    refine lv_goto (tgt := 1554) hx hb dL_law_1483 (by decide) ?_
    refine W.widen (k := cells + 1) (n := slots + 12) (by omega) (by omega) ?_
    exact kk c1 t1 o1 H locs ls hR2 hP hD hS (lv_sub hl [2, 3, 4, 5, 6] rfl)
