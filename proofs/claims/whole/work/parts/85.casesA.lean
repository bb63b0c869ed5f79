/-! the cases of the law -/
set_option maxHeartbeats 4000000 in
set_option maxRecDepth 100000 in
theorem k_layOut {p : Program} {l : Launch} {e : Env} {s : State} {m : MethodId} {below : List Frame} {meth : Method} {c : Code} {b L : Nat} {xs : Nat → Int32} {G : zG} {a : Nat → Nat} {Q : State → Prop} (F : CallFix p m c cL_law 9 s #[.ref b] wsL_law RL) (hst : l.stackTraces = false) (hK : zK G s) (hZ : zZ (fun q => s.heap.size ≤ q) s s.heap) (hX : va_X b L xs s s.heap) (hbl : b < s.heap.size) {cells slots : Nat} (hc : cells + 1 ≤ 601024) (hsl : slots + 12 ≤ 7293034) {i : Nat} (hi : i + 4 ≤ L) (hL : L ≤ 2048) {c0 : zS} {t : zM} {ou : Nat → Int64} (hR : zRel c0 t) {H : Heap} {locs : List Loc} {ls : Array Slot} (hP : va_P G.1 vwCl (zLW G a c0 ou ++ zMW G a t) H) (hD : va_D (fun q => s.heap.size ≤ q) (zLW G a c0 ou ++ zMW G a t)) (hS : va_S (fun q => s.heap.size ≤ q) s.heap H locs) (hl : lv_has ls 9 [(4, .int (nI i)), (0, .ref b), (1, .ref (a 0)), (2, .ref (a 18)), (3, .ref (a 17))])
    (kk : ∀ (c0 : zS) (t : zM) (ou : Nat → Int64) (H : Heap) (locs : List Loc) (ls : Array Slot), zRel c0 t → va_P G.1 vwCl (zLW G a c0 ou ++ zMW G a t) H → va_D (fun q => s.heap.size ≤ q) (zLW G a c0 ou ++ zMW G a t) → va_S (fun q => s.heap.size ≤ q) s.heap H locs → lv_has ls 9 [(4, .int (nI i)), (0, .ref b), (1, .ref (a 0)), (2, .ref (a 18)), (3, .ref (a 17))] → W p l e room_1 s m #[.ref b] below meth c H locs (cells + 1) (slots + 12) Q (F0 m 1554 ls [])) :
    W p l e room_1 s m #[.ref b] below meth c H locs cells slots Q (F0 m 184 ls []) := by
  obtain ⟨hx, hb, hml, hown, hts⟩ := id F
  have hA : ∀ q : Nat, s.heap.size ≤ q → (fun q : Nat => s.heap.size ≤ q) q := fun _ h => h
  have hbA : ¬ (fun q : Nat => s.heap.size ≤ q) b := Nat.not_le.mpr hbl
  have v1 : vp_in (nI i + 1) L := by
    rw [show (1 : Int32) = nI 1 from rfl, nI_add]; exact vp_in_nI (by omega) (by omega)
  have v2 : vp_in (nI i + 2) L := by
    rw [show (2 : Int32) = nI 2 from rfl, nI_add]; exact vp_in_nI (by omega) (by omega)
  have v3 : vp_in (nI i + 3) L := by
    rw [show (3 : Int32) = nI 3 from rfl, nI_add]; exact vp_in_nI (by omega) (by omega)
  obtain ⟨z1, z2, ⟨e1, e2⟩, hR2⟩ := zo_layOut hR ou (xs (nI i + 1).toNatClampNeg) (xs (nI i + 2).toNatClampNeg) (xs (nI i + 3).toNatClampNeg)
  refine lv_aload_n hx hb dL_law_184 rfl (lv_at hl 2 rfl) ?_
  refine lv_aload_n hx hb dL_law_185 rfl (lv_at hl 1 rfl) ?_
  refine lv_iload hx hb dL_law_186 (lv_at hl 0 rfl) ?_
  refine lv_iconst (v := (1 : Int32)) hx hb dL_law_188 (by decide) ?_
  refine lv_iadd hx hb dL_law_189 ?_
  refine va_sld hx hb hX hbl hbA hS v1 dL_law_190 ?_
  refine lv_aload_n hx hb dL_law_191 rfl (lv_at hl 1 rfl) ?_
  refine lv_iload hx hb dL_law_192 (lv_at hl 0 rfl) ?_
  refine lv_iconst (v := (2 : Int32)) hx hb dL_law_194 (by decide) ?_
  refine lv_iadd hx hb dL_law_195 ?_
  refine va_sld hx hb hX hbl hbA hS v2 dL_law_196 ?_
  refine lv_aload_n hx hb dL_law_197 rfl (lv_at hl 1 rfl) ?_
  refine lv_iload hx hb dL_law_198 (lv_at hl 0 rfl) ?_
  refine lv_iconst (v := (3 : Int32)) hx hb dL_law_200 (by decide) ?_
  refine lv_iadd hx hb dL_law_201 ?_
  refine va_sld hx hb hX hbl hbA hS v3 dL_law_202 ?_
  refine lv_aload_n hx hb dL_law_203 rfl (lv_at hl 4 rfl) ?_
  refine z_callSW (As := [.ref (a 0), .int (xs (nI i + 1).toNatClampNeg), .int (xs (nI i + 2).toNatClampNeg), .int (xs (nI i + 3).toNatClampNeg), .ref (a 17)]) (rest := []) (wr := zMW G a t) (w1 := fun _ : Unit => zLW G a (zS_layOut c0 ou (xs (nI i + 1).toNatClampNeg) (xs (nI i + 2).toNatClampNeg) (xs (nI i + 3).toNatClampNeg)) (zO_layOut c0 ou (xs (nI i + 1).toNatClampNeg) (xs (nI i + 2).toNatClampNeg) (xs (nI i + 3).toNatClampNeg))) (wj := fun _ : Unit => zLW G a (zS_layOut c0 ou (xs (nI i + 1).toNatClampNeg) (xs (nI i + 2).toNatClampNeg) (xs (nI i + 3).toNatClampNeg)) (zO_layOut c0 ou (xs (nI i + 1).toNatClampNeg) (xs (nI i + 2).toNatClampNeg) (xs (nI i + 3).toNatClampNeg)) ++ zMW G a t) F (q_L_layOut l G a c0 ou (xs (nI i + 1).toNatClampNeg) (xs (nI i + 2).toNatClampNeg) (xs (nI i + 3).toNatClampNeg) z1 hst) gL_law_L_layOut rfl rfl rfl zd_L_layOut ⟨Nat.le_of_ble_eq_true rfl, Nat.le_of_ble_eq_true rfl⟩ rfl rfl (Nat.le_of_ble_eq_true rfl) dL_law_204 ⟨by show cells + 1 ≤ 601024; omega, by show slots + 6 ≤ 7293034; omega⟩ hK hZ hP hD hS hA hl.1 [0, 1, 2, 3, 4, 5, 6, 7, 8, 9, 10, 11, 12, 13, 14, 15, 16, 17] [18, 19, 20, 21, 22, 23, 24, 25, 26, 27] [10, 11, 12, 13, 14, 15, 16, 17, 18, 19, 20, 21, 22, 23, 24, 25, 26, 27, 0, 1, 2, 3, 4, 5, 6, 7, 8, 9] rfl rfl rfl rfl (by decide) rfl (fun _ => rfl) (fun _ H locs hP hD hS => ?_)
  have hP : va_P G.1 vwCl (zLW G a (zS_layOut c0 ou (xs (nI i + 1).toNatClampNeg) (xs (nI i + 2).toNatClampNeg) (xs (nI i + 3).toNatClampNeg)) (zO_layOut c0 ou (xs (nI i + 1).toNatClampNeg) (xs (nI i + 2).toNatClampNeg) (xs (nI i + 3).toNatClampNeg)) ++ zMW G a t) H := hP
  have hD : va_D (fun q => s.heap.size ≤ q) (zLW G a (zS_layOut c0 ou (xs (nI i + 1).toNatClampNeg) (xs (nI i + 2).toNatClampNeg) (xs (nI i + 3).toNatClampNeg)) (zO_layOut c0 ou (xs (nI i + 1).toNatClampNeg) (xs (nI i + 2).toNatClampNeg) (xs (nI i + 3).toNatClampNeg)) ++ zMW G a t) := hD
  generalize zS_layOut c0 ou (xs (nI i + 1).toNatClampNeg) (xs (nI i + 2).toNatClampNeg) (xs (nI i + 3).toNatClampNeg) = c1 at hP hD hR2
  generalize zO_layOut c0 ou (xs (nI i + 1).toNatClampNeg) (xs (nI i + 2).toNatClampNeg) (xs (nI i + 3).toNatClampNeg) = o1 at hP hD e2
  refine lv_istore (lv' := [(5, .int (zk_layOut c0 ou (xs (nI i + 1).toNatClampNeg) (xs (nI i + 2).toNatClampNeg) (xs (nI i + 3).toNatClampNeg))), (4, .int (nI i)), (0, .ref b), (1, .ref (a 0)), (2, .ref (a 18)), (3, .ref (a 17))]) hx hb dL_law_207 hl (by decide) rfl (fun ls hl => ?_)
  refine lv_aload_n hx hb dL_law_209 rfl (lv_at hl 4 rfl) ?_
  refine lv_aload_n hx hb dL_law_210 rfl (lv_at hl 2 rfl) ?_
  refine lv_iload hx hb dL_law_211 (lv_at hl 1 rfl) ?_
  refine lv_iconst (v := (1 : Int32)) hx hb dL_law_213 (by decide) ?_
  refine lv_iadd hx hb dL_law_214 ?_
  refine va_sld hx hb hX hbl hbA hS v1 dL_law_215 ?_
  refine lv_aload_n hx hb dL_law_216 rfl (lv_at hl 2 rfl) ?_
  refine lv_iload hx hb dL_law_217 (lv_at hl 1 rfl) ?_
  refine lv_iconst (v := (2 : Int32)) hx hb dL_law_219 (by decide) ?_
  refine lv_iadd hx hb dL_law_220 ?_
  refine va_sld hx hb hX hbl hbA hS v2 dL_law_221 ?_
  refine lv_aload_n hx hb dL_law_222 rfl (lv_at hl 2 rfl) ?_
  refine lv_iload hx hb dL_law_223 (lv_at hl 1 rfl) ?_
  refine lv_iconst (v := (3 : Int32)) hx hb dL_law_225 (by decide) ?_
  refine lv_iadd hx hb dL_law_226 ?_
  refine va_sld hx hb hX hbl hbA hS v3 dL_law_227 ?_
  refine z_callV (As := [.int (xs (nI i + 1).toNatClampNeg), .int (xs (nI i + 2).toNatClampNeg), .int (xs (nI i + 3).toNatClampNeg)]) (rest := []) (wr := zLW G a c1 o1) (w1 := fun _ : Unit => zMW G a (zM_layOut t (xs (nI i + 1).toNatClampNeg) (xs (nI i + 2).toNatClampNeg) (xs (nI i + 3).toNatClampNeg))) (wj := fun _ : Unit => zLW G a c1 o1 ++ zMW G a (zM_layOut t (xs (nI i + 1).toNatClampNeg) (xs (nI i + 2).toNatClampNeg) (xs (nI i + 3).toNatClampNeg))) (ci := 4) (q0 := 18) F (q_M_layOut l G a t (xs (nI i + 1).toNatClampNeg) (xs (nI i + 2).toNatClampNeg) (xs (nI i + 3).toNatClampNeg) z2) gL_law_X4_layOut rfl rfl rfl zd_X4_layOut ⟨Nat.le_of_ble_eq_true rfl, Nat.le_of_ble_eq_true rfl⟩ rfl rfl (Nat.le_of_ble_eq_true rfl) dL_law_228 ⟨by show cells + 1 + 0 ≤ 601024; omega, by show slots + 6 + 0 ≤ 7293034; omega⟩ hK hP hD hS hA hl.1 rfl rfl [18, 19, 20, 21, 22, 23, 24, 25, 26, 27] [0, 1, 2, 3, 4, 5, 6, 7, 8, 9, 10, 11, 12, 13, 14, 15, 16, 17] [0, 1, 2, 3, 4, 5, 6, 7, 8, 9, 10, 11, 12, 13, 14, 15, 16, 17, 18, 19, 20, 21, 22, 23, 24, 25, 26, 27] rfl rfl rfl rfl (by decide) rfl (fun _ => rfl) (fun _ H locs hP hD hS => ?_)
  have hP : va_P G.1 vwCl (zLW G a c1 o1 ++ zMW G a (zM_layOut t (xs (nI i + 1).toNatClampNeg) (xs (nI i + 2).toNatClampNeg) (xs (nI i + 3).toNatClampNeg))) H := hP
  have hD : va_D (fun q => s.heap.size ≤ q) (zLW G a c1 o1 ++ zMW G a (zM_layOut t (xs (nI i + 1).toNatClampNeg) (xs (nI i + 2).toNatClampNeg) (xs (nI i + 3).toNatClampNeg))) := hD
  generalize zM_layOut t (xs (nI i + 1).toNatClampNeg) (xs (nI i + 2).toNatClampNeg) (xs (nI i + 3).toNatClampNeg) = t1 at hP hD hR2 e1
  refine lv_istore (lv' := [(6, .int (mk_layOut t (xs (nI i + 1).toNatClampNeg) (xs (nI i + 2).toNatClampNeg) (xs (nI i + 3).toNatClampNeg))), (5, .int (zk_layOut c0 ou (xs (nI i + 1).toNatClampNeg) (xs (nI i + 2).toNatClampNeg) (xs (nI i + 3).toNatClampNeg))), (4, .int (nI i)), (0, .ref b), (1, .ref (a 0)), (2, .ref (a 18)), (3, .ref (a 17))]) hx hb dL_law_231 hl (by decide) rfl (fun ls hl => ?_)
  refine lv_aload_n hx hb dL_law_233 rfl (lv_at hl 5 rfl) ?_
  refine z_callV (As := []) (rest := []) (wr := zLW G a c1 o1) (w1 := fun _ : Unit => zMW G a t1) (wj := fun _ : Unit => zLW G a c1 o1 ++ zMW G a t1) (ci := 4) (q0 := 18) F (q_M_thrown l G a t1) gL_law_X4_thrown rfl rfl rfl zd_X4_thrown ⟨Nat.le_of_ble_eq_true rfl, Nat.le_of_ble_eq_true rfl⟩ rfl rfl (Nat.le_of_ble_eq_true rfl) dL_law_234 ⟨by show cells + 1 + 0 + 0 ≤ 601024; omega, by show slots + 6 + 0 + 0 ≤ 7293034; omega⟩ hK hP hD hS hA hl.1 rfl rfl [18, 19, 20, 21, 22, 23, 24, 25, 26, 27] [0, 1, 2, 3, 4, 5, 6, 7, 8, 9, 10, 11, 12, 13, 14, 15, 16, 17] [0, 1, 2, 3, 4, 5, 6, 7, 8, 9, 10, 11, 12, 13, 14, 15, 16, 17, 18, 19, 20, 21, 22, 23, 24, 25, 26, 27] rfl rfl rfl rfl (by decide) rfl (fun _ => rfl) (fun _ H locs hP hD hS => ?_)
  have hP : va_P G.1 vwCl (zLW G a c1 o1 ++ zMW G a t1) H := hP
  have hD : va_D (fun q => s.heap.size ≤ q) (zLW G a c1 o1 ++ zMW G a t1) := hD
  refine lv_iload hx hb dL_law_237 (lv_at hl 1 rfl) ?_
  refine lv_icmp_eq (tgt := 244) hx hb dL_law_239 (by decide) (fun _ => ?_) (fun z => absurd e1 z)
  refine lv_iload hx hb dL_law_244 (lv_at hl 1 rfl) ?_
  refine lv_if_ne (tgt := 261) hx hb dL_law_246 (by decide) (fun _ => ?_) (fun z0 => ?_)
  · refine lv_goto (tgt := 1554) hx hb dL_law_261 (by decide) ?_
    refine W.widen (k := cells + 1) (n := slots + 12) (by omega) (by omega) ?_
    exact kk c1 t1 o1 H locs ls hR2 hP hD hS (lv_sub hl [2, 3, 4, 5, 6] rfl)
  · refine lv_aload_n hx hb dL_law_249 rfl (lv_at hl 6 rfl) ?_
    refine lv_iconst (v := (0 : Int32)) hx hb dL_law_250 (by decide) ?_
    refine va_lald hx hb hK.1 hP 17 2 rfl rfl (vp_in_nI (n := 0) (N := 1) (by decide) (by decide)) dL_law_251 ?_
    refine lv_iload hx hb dL_law_252 (lv_at hl 0 rfl) ?_
    refine lv_i2l (v := (mk_layOut t (xs (nI i + 1).toNatClampNeg) (xs (nI i + 2).toNatClampNeg) (xs (nI i + 3).toNatClampNeg)).toInt64) hx hb dL_law_254 rfl ?_
    refine W.lcmp hx hb dL_law_255 ?_
    refine lv_if_eq (tgt := 261) hx hb dL_law_256 (by decide) (fun _ => ?_) (fun z => absurd ((lg_cmp_eq _ _).mpr (e2 z0)) z)
    refine lv_goto (tgt := 1554) hx hb dL_law_261 (by decide) ?_
    refine W.widen (k := cells + 1) (n := slots + 12) (by omega) (by omega) ?_
    exact kk c1 t1 o1 H locs ls hR2 hP hD hS (lv_sub hl [2, 3, 4, 5, 6] rfl)
set_option maxHeartbeats 4000000 in
set_option maxRecDepth 100000 in
theorem k_fill {p : Program} {l : Launch} {e : Env} {s : State} {m : MethodId} {below : List Frame} {meth : Method} {c : Code} {b L : Nat} {xs : Nat → Int32} {G : zG} {a : Nat → Nat} {Q : State → Prop} (F : CallFix p m c cL_law 9 s #[.ref b] wsL_law RL) (hst : l.stackTraces = false) (hK : zK G s) (hZ : zZ (fun q => s.heap.size ≤ q) s s.heap) (hX : va_X b L xs s s.heap) (hbl : b < s.heap.size) {cells slots : Nat} (hc : cells + 1 ≤ 601024) (hsl : slots + 12 ≤ 7293034) {i : Nat} (hi : i + 4 ≤ L) (hL : L ≤ 2048) {c0 : zS} {t : zM} {ou : Nat → Int64} (hR : zRel c0 t) {H : Heap} {locs : List Loc} {ls : Array Slot} (hP : va_P G.1 vwCl (zLW G a c0 ou ++ zMW G a t) H) (hD : va_D (fun q => s.heap.size ≤ q) (zLW G a c0 ou ++ zMW G a t)) (hS : va_S (fun q => s.heap.size ≤ q) s.heap H locs) (hl : lv_has ls 9 [(4, .int (nI i)), (0, .ref b), (1, .ref (a 0)), (2, .ref (a 18)), (3, .ref (a 17))])
    (kk : ∀ (c0 : zS) (t : zM) (ou : Nat → Int64) (H : Heap) (locs : List Loc) (ls : Array Slot), zRel c0 t → va_P G.1 vwCl (zLW G a c0 ou ++ zMW G a t) H → va_D (fun q => s.heap.size ≤ q) (zLW G a c0 ou ++ zMW G a t) → va_S (fun q => s.heap.size ≤ q) s.heap H locs → lv_has ls 9 [(4, .int (nI i)), (0, .ref b), (1, .ref (a 0)), (2, .ref (a 18)), (3, .ref (a 17))] → W p l e room_1 s m #[.ref b] below meth c H locs (cells + 1) (slots + 12) Q (F0 m 1554 ls [])) :
    W p l e room_1 s m #[.ref b] below meth c H locs cells slots Q (F0 m 264 ls []) := by
  obtain ⟨hx, hb, hml, hown, hts⟩ := id F
  have hA : ∀ q : Nat, s.heap.size ≤ q → (fun q : Nat => s.heap.size ≤ q) q := fun _ h => h
  have hbA : ¬ (fun q : Nat => s.heap.size ≤ q) b := Nat.not_le.mpr hbl
  have v1 : vp_in (nI i + 1) L := by
    rw [show (1 : Int32) = nI 1 from rfl, nI_add]; exact vp_in_nI (by omega) (by omega)
  obtain ⟨z1, z2, ⟨e1, e2⟩, hR2⟩ := zo_fill hR ou (xs (nI i + 1).toNatClampNeg)
  refine lv_aload_n hx hb dL_law_264 rfl (lv_at hl 2 rfl) ?_
  refine lv_aload_n hx hb dL_law_265 rfl (lv_at hl 1 rfl) ?_
  refine lv_iload hx hb dL_law_266 (lv_at hl 0 rfl) ?_
  refine lv_iconst (v := (1 : Int32)) hx hb dL_law_268 (by decide) ?_
  refine lv_iadd hx hb dL_law_269 ?_
  refine va_sld hx hb hX hbl hbA hS v1 dL_law_270 ?_
  refine lv_aload_n hx hb dL_law_271 rfl (lv_at hl 4 rfl) ?_
  refine z_callSW (As := [.ref (a 0), .int (xs (nI i + 1).toNatClampNeg), .ref (a 17)]) (rest := []) (wr := zMW G a t) (w1 := fun _ : Unit => zLW G a (zS_fill c0 ou (xs (nI i + 1).toNatClampNeg)) (zO_fill c0 ou (xs (nI i + 1).toNatClampNeg))) (wj := fun _ : Unit => zLW G a (zS_fill c0 ou (xs (nI i + 1).toNatClampNeg)) (zO_fill c0 ou (xs (nI i + 1).toNatClampNeg)) ++ zMW G a t) F (q_L_fill l G a c0 ou (xs (nI i + 1).toNatClampNeg) z1 hst) gL_law_L_fill rfl rfl rfl zd_L_fill ⟨Nat.le_of_ble_eq_true rfl, Nat.le_of_ble_eq_true rfl⟩ rfl rfl (Nat.le_of_ble_eq_true rfl) dL_law_272 ⟨by show cells + 1 ≤ 601024; omega, by show slots + 6 ≤ 7293034; omega⟩ hK hZ hP hD hS hA hl.1 [0, 1, 2, 3, 4, 5, 6, 7, 8, 9, 10, 11, 12, 13, 14, 15, 16, 17] [18, 19, 20, 21, 22, 23, 24, 25, 26, 27] [10, 11, 12, 13, 14, 15, 16, 17, 18, 19, 20, 21, 22, 23, 24, 25, 26, 27, 0, 1, 2, 3, 4, 5, 6, 7, 8, 9] rfl rfl rfl rfl (by decide) rfl (fun _ => rfl) (fun _ H locs hP hD hS => ?_)
  have hP : va_P G.1 vwCl (zLW G a (zS_fill c0 ou (xs (nI i + 1).toNatClampNeg)) (zO_fill c0 ou (xs (nI i + 1).toNatClampNeg)) ++ zMW G a t) H := hP
  have hD : va_D (fun q => s.heap.size ≤ q) (zLW G a (zS_fill c0 ou (xs (nI i + 1).toNatClampNeg)) (zO_fill c0 ou (xs (nI i + 1).toNatClampNeg)) ++ zMW G a t) := hD
  generalize zS_fill c0 ou (xs (nI i + 1).toNatClampNeg) = c1 at hP hD hR2
  generalize zO_fill c0 ou (xs (nI i + 1).toNatClampNeg) = o1 at hP hD e2
  refine lv_istore (lv' := [(5, .int (zk_fill c0 ou (xs (nI i + 1).toNatClampNeg))), (4, .int (nI i)), (0, .ref b), (1, .ref (a 0)), (2, .ref (a 18)), (3, .ref (a 17))]) hx hb dL_law_275 hl (by decide) rfl (fun ls hl => ?_)
  refine lv_aload_n hx hb dL_law_277 rfl (lv_at hl 4 rfl) ?_
  refine lv_aload_n hx hb dL_law_278 rfl (lv_at hl 2 rfl) ?_
  refine lv_iload hx hb dL_law_279 (lv_at hl 1 rfl) ?_
  refine lv_iconst (v := (1 : Int32)) hx hb dL_law_281 (by decide) ?_
  refine lv_iadd hx hb dL_law_282 ?_
  refine va_sld hx hb hX hbl hbA hS v1 dL_law_283 ?_
  refine z_callV (As := [.int (xs (nI i + 1).toNatClampNeg)]) (rest := []) (wr := zLW G a c1 o1) (w1 := fun _ : Unit => zMW G a (zM_fill t (xs (nI i + 1).toNatClampNeg))) (wj := fun _ : Unit => zLW G a c1 o1 ++ zMW G a (zM_fill t (xs (nI i + 1).toNatClampNeg))) (ci := 4) (q0 := 18) F (q_M_fill l G a t (xs (nI i + 1).toNatClampNeg) z2) gL_law_X4_fill rfl rfl rfl zd_X4_fill ⟨Nat.le_of_ble_eq_true rfl, Nat.le_of_ble_eq_true rfl⟩ rfl rfl (Nat.le_of_ble_eq_true rfl) dL_law_284 ⟨by show cells + 1 + 0 ≤ 601024; omega, by show slots + 6 + 0 ≤ 7293034; omega⟩ hK hP hD hS hA hl.1 rfl rfl [18, 19, 20, 21, 22, 23, 24, 25, 26, 27] [0, 1, 2, 3, 4, 5, 6, 7, 8, 9, 10, 11, 12, 13, 14, 15, 16, 17] [0, 1, 2, 3, 4, 5, 6, 7, 8, 9, 10, 11, 12, 13, 14, 15, 16, 17, 18, 19, 20, 21, 22, 23, 24, 25, 26, 27] rfl rfl rfl rfl (by decide) rfl (fun _ => rfl) (fun _ H locs hP hD hS => ?_)
  have hP : va_P G.1 vwCl (zLW G a c1 o1 ++ zMW G a (zM_fill t (xs (nI i + 1).toNatClampNeg))) H := hP
  have hD : va_D (fun q => s.heap.size ≤ q) (zLW G a c1 o1 ++ zMW G a (zM_fill t (xs (nI i + 1).toNatClampNeg))) := hD
  generalize zM_fill t (xs (nI i + 1).toNatClampNeg) = t1 at hP hD hR2 e1
  refine lv_istore (lv' := [(6, .int (mk_fill t (xs (nI i + 1).toNatClampNeg))), (5, .int (zk_fill c0 ou (xs (nI i + 1).toNatClampNeg))), (4, .int (nI i)), (0, .ref b), (1, .ref (a 0)), (2, .ref (a 18)), (3, .ref (a 17))]) hx hb dL_law_287 hl (by decide) rfl (fun ls hl => ?_)
  refine lv_aload_n hx hb dL_law_289 rfl (lv_at hl 5 rfl) ?_
  refine z_callV (As := []) (rest := []) (wr := zLW G a c1 o1) (w1 := fun _ : Unit => zMW G a t1) (wj := fun _ : Unit => zLW G a c1 o1 ++ zMW G a t1) (ci := 4) (q0 := 18) F (q_M_thrown l G a t1) gL_law_X4_thrown rfl rfl rfl zd_X4_thrown ⟨Nat.le_of_ble_eq_true rfl, Nat.le_of_ble_eq_true rfl⟩ rfl rfl (Nat.le_of_ble_eq_true rfl) dL_law_290 ⟨by show cells + 1 + 0 + 0 ≤ 601024; omega, by show slots + 6 + 0 + 0 ≤ 7293034; omega⟩ hK hP hD hS hA hl.1 rfl rfl [18, 19, 20, 21, 22, 23, 24, 25, 26, 27] [0, 1, 2, 3, 4, 5, 6, 7, 8, 9, 10, 11, 12, 13, 14, 15, 16, 17] [0, 1, 2, 3, 4, 5, 6, 7, 8, 9, 10, 11, 12, 13, 14, 15, 16, 17, 18, 19, 20, 21, 22, 23, 24, 25, 26, 27] rfl rfl rfl rfl (by decide) rfl (fun _ => rfl) (fun _ H locs hP hD hS => ?_)
  have hP : va_P G.1 vwCl (zLW G a c1 o1 ++ zMW G a t1) H := hP
  have hD : va_D (fun q => s.heap.size ≤ q) (zLW G a c1 o1 ++ zMW G a t1) := hD
  refine lv_iload hx hb dL_law_293 (lv_at hl 1 rfl) ?_
  refine lv_icmp_eq (tgt := 300) hx hb dL_law_295 (by decide) (fun _ => ?_) (fun z => absurd e1 z)
  refine lv_iload hx hb dL_law_300 (lv_at hl 1 rfl) ?_
  refine lv_if_ne (tgt := 317) hx hb dL_law_302 (by decide) (fun _ => ?_) (fun z0 => ?_)
  · refine lv_goto (tgt := 1554) hx hb dL_law_317 (by decide) ?_
    refine W.widen (k := cells + 1) (n := slots + 12) (by omega) (by omega) ?_
    exact kk c1 t1 o1 H locs ls hR2 hP hD hS (lv_sub hl [2, 3, 4, 5, 6] rfl)
  · refine lv_aload_n hx hb dL_law_305 rfl (lv_at hl 6 rfl) ?_
    refine lv_iconst (v := (0 : Int32)) hx hb dL_law_306 (by decide) ?_
    refine va_lald hx hb hK.1 hP 17 2 rfl rfl (vp_in_nI (n := 0) (N := 1) (by decide) (by decide)) dL_law_307 ?_
    refine lv_iload hx hb dL_law_308 (lv_at hl 0 rfl) ?_
    refine lv_i2l (v := (mk_fill t (xs (nI i + 1).toNatClampNeg)).toInt64) hx hb dL_law_310 rfl ?_
    refine W.lcmp hx hb dL_law_311 ?_
    refine lv_if_eq (tgt := 317) hx hb dL_law_312 (by decide) (fun _ => ?_) (fun z => absurd ((lg_cmp_eq _ _).mpr (e2 z0)) z)
    refine lv_goto (tgt := 1554) hx hb dL_law_317 (by decide) ?_
    refine W.widen (k := cells + 1) (n := slots + 12) (by omega) (by omega) ?_
    exact kk c1 t1 o1 H locs ls hR2 hP hD hS (lv_sub hl [2, 3, 4, 5, 6] rfl)
set_option maxHeartbeats 4000000 in
set_option maxRecDepth 100000 in
theorem k_empty {p : Program} {l : Launch} {e : Env} {s : State} {m : MethodId} {below : List Frame} {meth : Method} {c : Code} {b L : Nat} {xs : Nat → Int32} {G : zG} {a : Nat → Nat} {Q : State → Prop} (F : CallFix p m c cL_law 9 s #[.ref b] wsL_law RL) (hst : l.stackTraces = false) (hK : zK G s) (hZ : zZ (fun q => s.heap.size ≤ q) s s.heap) (hX : va_X b L xs s s.heap) (hbl : b < s.heap.size) {cells slots : Nat} (hc : cells + 1 ≤ 601024) (hsl : slots + 12 ≤ 7293034) {i : Nat} (hi : i + 4 ≤ L) (hL : L ≤ 2048) {c0 : zS} {t : zM} {ou : Nat → Int64} (hR : zRel c0 t) {H : Heap} {locs : List Loc} {ls : Array Slot} (hP : va_P G.1 vwCl (zLW G a c0 ou ++ zMW G a t) H) (hD : va_D (fun q => s.heap.size ≤ q) (zLW G a c0 ou ++ zMW G a t)) (hS : va_S (fun q => s.heap.size ≤ q) s.heap H locs) (hl : lv_has ls 9 [(4, .int (nI i)), (0, .ref b), (1, .ref (a 0)), (2, .ref (a 18)), (3, .ref (a 17))])
    (kk : ∀ (c0 : zS) (t : zM) (ou : Nat → Int64) (H : Heap) (locs : List Loc) (ls : Array Slot), zRel c0 t → va_P G.1 vwCl (zLW G a c0 ou ++ zMW G a t) H → va_D (fun q => s.heap.size ≤ q) (zLW G a c0 ou ++ zMW G a t) → va_S (fun q => s.heap.size ≤ q) s.heap H locs → lv_has ls 9 [(4, .int (nI i)), (0, .ref b), (1, .ref (a 0)), (2, .ref (a 18)), (3, .ref (a 17))] → W p l e room_1 s m #[.ref b] below meth c H locs (cells + 1) (slots + 12) Q (F0 m 1554 ls [])) :
    W p l e room_1 s m #[.ref b] below meth c H locs cells slots Q (F0 m 320 ls []) := by
  obtain ⟨hx, hb, hml, hown, hts⟩ := id F
  have hA : ∀ q : Nat, s.heap.size ≤ q → (fun q : Nat => s.heap.size ≤ q) q := fun _ h => h
  have hbA : ¬ (fun q : Nat => s.heap.size ≤ q) b := Nat.not_le.mpr hbl
  have v1 : vp_in (nI i + 1) L := by
    rw [show (1 : Int32) = nI 1 from rfl, nI_add]; exact vp_in_nI (by omega) (by omega)
  obtain ⟨z1, z2, ⟨e1, e2⟩, hR2⟩ := zo_empty hR ou (xs (nI i + 1).toNatClampNeg)
  refine lv_aload_n hx hb dL_law_320 rfl (lv_at hl 2 rfl) ?_
  refine lv_aload_n hx hb dL_law_321 rfl (lv_at hl 1 rfl) ?_
  refine lv_iload hx hb dL_law_322 (lv_at hl 0 rfl) ?_
  refine lv_iconst (v := (1 : Int32)) hx hb dL_law_324 (by decide) ?_
  refine lv_iadd hx hb dL_law_325 ?_
  refine va_sld hx hb hX hbl hbA hS v1 dL_law_326 ?_
  refine lv_aload_n hx hb dL_law_327 rfl (lv_at hl 4 rfl) ?_
  refine z_callSW (As := [.ref (a 0), .int (xs (nI i + 1).toNatClampNeg), .ref (a 17)]) (rest := []) (wr := zMW G a t) (w1 := fun _ : Unit => zLW G a (zS_empty c0 ou (xs (nI i + 1).toNatClampNeg)) (zO_empty c0 ou (xs (nI i + 1).toNatClampNeg))) (wj := fun _ : Unit => zLW G a (zS_empty c0 ou (xs (nI i + 1).toNatClampNeg)) (zO_empty c0 ou (xs (nI i + 1).toNatClampNeg)) ++ zMW G a t) F (q_L_empty l G a c0 ou (xs (nI i + 1).toNatClampNeg) z1 hst) gL_law_L_empty rfl rfl rfl zd_L_empty ⟨Nat.le_of_ble_eq_true rfl, Nat.le_of_ble_eq_true rfl⟩ rfl rfl (Nat.le_of_ble_eq_true rfl) dL_law_328 ⟨by show cells + 1 ≤ 601024; omega, by show slots + 6 ≤ 7293034; omega⟩ hK hZ hP hD hS hA hl.1 [0, 1, 2, 3, 4, 5, 6, 7, 8, 9, 10, 11, 12, 13, 14, 15, 16, 17] [18, 19, 20, 21, 22, 23, 24, 25, 26, 27] [10, 11, 12, 13, 14, 15, 16, 17, 18, 19, 20, 21, 22, 23, 24, 25, 26, 27, 0, 1, 2, 3, 4, 5, 6, 7, 8, 9] rfl rfl rfl rfl (by decide) rfl (fun _ => rfl) (fun _ H locs hP hD hS => ?_)
  have hP : va_P G.1 vwCl (zLW G a (zS_empty c0 ou (xs (nI i + 1).toNatClampNeg)) (zO_empty c0 ou (xs (nI i + 1).toNatClampNeg)) ++ zMW G a t) H := hP
  have hD : va_D (fun q => s.heap.size ≤ q) (zLW G a (zS_empty c0 ou (xs (nI i + 1).toNatClampNeg)) (zO_empty c0 ou (xs (nI i + 1).toNatClampNeg)) ++ zMW G a t) := hD
  generalize zS_empty c0 ou (xs (nI i + 1).toNatClampNeg) = c1 at hP hD hR2
  generalize zO_empty c0 ou (xs (nI i + 1).toNatClampNeg) = o1 at hP hD e2
  refine lv_istore (lv' := [(5, .int (zk_empty c0 ou (xs (nI i + 1).toNatClampNeg))), (4, .int (nI i)), (0, .ref b), (1, .ref (a 0)), (2, .ref (a 18)), (3, .ref (a 17))]) hx hb dL_law_331 hl (by decide) rfl (fun ls hl => ?_)
  refine lv_aload_n hx hb dL_law_333 rfl (lv_at hl 4 rfl) ?_
  refine lv_aload_n hx hb dL_law_334 rfl (lv_at hl 2 rfl) ?_
  refine lv_iload hx hb dL_law_335 (lv_at hl 1 rfl) ?_
  refine lv_iconst (v := (1 : Int32)) hx hb dL_law_337 (by decide) ?_
  refine lv_iadd hx hb dL_law_338 ?_
  refine va_sld hx hb hX hbl hbA hS v1 dL_law_339 ?_
  refine z_callV (As := [.int (xs (nI i + 1).toNatClampNeg)]) (rest := []) (wr := zLW G a c1 o1) (w1 := fun _ : Unit => zMW G a (zM_empty t (xs (nI i + 1).toNatClampNeg))) (wj := fun _ : Unit => zLW G a c1 o1 ++ zMW G a (zM_empty t (xs (nI i + 1).toNatClampNeg))) (ci := 4) (q0 := 18) F (q_M_empty l G a t (xs (nI i + 1).toNatClampNeg) z2) gL_law_X4_empty rfl rfl rfl zd_X4_empty ⟨Nat.le_of_ble_eq_true rfl, Nat.le_of_ble_eq_true rfl⟩ rfl rfl (Nat.le_of_ble_eq_true rfl) dL_law_340 ⟨by show cells + 1 + 0 ≤ 601024; omega, by show slots + 6 + 0 ≤ 7293034; omega⟩ hK hP hD hS hA hl.1 rfl rfl [18, 19, 20, 21, 22, 23, 24, 25, 26, 27] [0, 1, 2, 3, 4, 5, 6, 7, 8, 9, 10, 11, 12, 13, 14, 15, 16, 17] [0, 1, 2, 3, 4, 5, 6, 7, 8, 9, 10, 11, 12, 13, 14, 15, 16, 17, 18, 19, 20, 21, 22, 23, 24, 25, 26, 27] rfl rfl rfl rfl (by decide) rfl (fun _ => rfl) (fun _ H locs hP hD hS => ?_)
  have hP : va_P G.1 vwCl (zLW G a c1 o1 ++ zMW G a (zM_empty t (xs (nI i + 1).toNatClampNeg))) H := hP
  have hD : va_D (fun q => s.heap.size ≤ q) (zLW G a c1 o1 ++ zMW G a (zM_empty t (xs (nI i + 1).toNatClampNeg))) := hD
  generalize zM_empty t (xs (nI i + 1).toNatClampNeg) = t1 at hP hD hR2 e1
  refine lv_istore (lv' := [(6, .int (mk_empty t (xs (nI i + 1).toNatClampNeg))), (5, .int (zk_empty c0 ou (xs (nI i + 1).toNatClampNeg))), (4, .int (nI i)), (0, .ref b), (1, .ref (a 0)), (2, .ref (a 18)), (3, .ref (a 17))]) hx hb dL_law_343 hl (by decide) rfl (fun ls hl => ?_)
  refine lv_aload_n hx hb dL_law_345 rfl (lv_at hl 5 rfl) ?_
  refine z_callV (As := []) (rest := []) (wr := zLW G a c1 o1) (w1 := fun _ : Unit => zMW G a t1) (wj := fun _ : Unit => zLW G a c1 o1 ++ zMW G a t1) (ci := 4) (q0 := 18) F (q_M_thrown l G a t1) gL_law_X4_thrown rfl rfl rfl zd_X4_thrown ⟨Nat.le_of_ble_eq_true rfl, Nat.le_of_ble_eq_true rfl⟩ rfl rfl (Nat.le_of_ble_eq_true rfl) dL_law_346 ⟨by show cells + 1 + 0 + 0 ≤ 601024; omega, by show slots + 6 + 0 + 0 ≤ 7293034; omega⟩ hK hP hD hS hA hl.1 rfl rfl [18, 19, 20, 21, 22, 23, 24, 25, 26, 27] [0, 1, 2, 3, 4, 5, 6, 7, 8, 9, 10, 11, 12, 13, 14, 15, 16, 17] [0, 1, 2, 3, 4, 5, 6, 7, 8, 9, 10, 11, 12, 13, 14, 15, 16, 17, 18, 19, 20, 21, 22, 23, 24, 25, 26, 27] rfl rfl rfl rfl (by decide) rfl (fun _ => rfl) (fun _ H locs hP hD hS => ?_)
  have hP : va_P G.1 vwCl (zLW G a c1 o1 ++ zMW G a t1) H := hP
  have hD : va_D (fun q => s.heap.size ≤ q) (zLW G a c1 o1 ++ zMW G a t1) := hD
  refine lv_iload hx hb dL_law_349 (lv_at hl 1 rfl) ?_
  refine lv_icmp_eq (tgt := 356) hx hb dL_law_351 (by decide) (fun _ => ?_) (fun z => absurd e1 z)
  refine lv_iload hx hb dL_law_356 (lv_at hl 1 rfl) ?_
  refine lv_if_ne (tgt := 373) hx hb dL_law_358 (by decide) (fun _ => ?_) (fun z0 => ?_)
  · refine lv_goto (tgt := 1554) hx hb dL_law_373 (by decide) ?_
    refine W.widen (k := cells + 1) (n := slots + 12) (by omega) (by omega) ?_
    exact kk c1 t1 o1 H locs ls hR2 hP hD hS (lv_sub hl [2, 3, 4, 5, 6] rfl)
  · refine lv_aload_n hx hb dL_law_361 rfl (lv_at hl 6 rfl) ?_
    refine lv_iconst (v := (0 : Int32)) hx hb dL_law_362 (by decide) ?_
    refine va_lald hx hb hK.1 hP 17 2 rfl rfl (vp_in_nI (n := 0) (N := 1) (by decide) (by decide)) dL_law_363 ?_
    refine lv_iload hx hb dL_law_364 (lv_at hl 0 rfl) ?_
    refine lv_i2l (v := (mk_empty t (xs (nI i + 1).toNatClampNeg)).toInt64) hx hb dL_law_366 rfl ?_
    refine W.lcmp hx hb dL_law_367 ?_
    refine lv_if_eq (tgt := 373) hx hb dL_law_368 (by decide) (fun _ => ?_) (fun z => absurd ((lg_cmp_eq _ _).mpr (e2 z0)) z)
    refine lv_goto (tgt := 1554) hx hb dL_law_373 (by decide) ?_
    refine W.widen (k := cells + 1) (n := slots + 12) (by omega) (by omega) ?_
    exact kk c1 t1 o1 H locs ls hR2 hP hD hS (lv_sub hl [2, 3, 4, 5, 6] rfl)
set_option maxHeartbeats 4000000 in
set_option maxRecDepth 100000 in
theorem k_pour {p : Program} {l : Launch} {e : Env} {s : State} {m : MethodId} {below : List Frame} {meth : Method} {c : Code} {b L : Nat} {xs : Nat → Int32} {G : zG} {a : Nat → Nat} {Q : State → Prop} (F : CallFix p m c cL_law 9 s #[.ref b] wsL_law RL) (hst : l.stackTraces = false) (hK : zK G s) (hZ : zZ (fun q => s.heap.size ≤ q) s s.heap) (hX : va_X b L xs s s.heap) (hbl : b < s.heap.size) {cells slots : Nat} (hc : cells + 1 ≤ 601024) (hsl : slots + 12 ≤ 7293034) {i : Nat} (hi : i + 4 ≤ L) (hL : L ≤ 2048) {c0 : zS} {t : zM} {ou : Nat → Int64} (hR : zRel c0 t) {H : Heap} {locs : List Loc} {ls : Array Slot} (hP : va_P G.1 vwCl (zLW G a c0 ou ++ zMW G a t) H) (hD : va_D (fun q => s.heap.size ≤ q) (zLW G a c0 ou ++ zMW G a t)) (hS : va_S (fun q => s.heap.size ≤ q) s.heap H locs) (hl : lv_has ls 9 [(4, .int (nI i)), (0, .ref b), (1, .ref (a 0)), (2, .ref (a 18)), (3, .ref (a 17))])
    (kk : ∀ (c0 : zS) (t : zM) (ou : Nat → Int64) (H : Heap) (locs : List Loc) (ls : Array Slot), zRel c0 t → va_P G.1 vwCl (zLW G a c0 ou ++ zMW G a t) H → va_D (fun q => s.heap.size ≤ q) (zLW G a c0 ou ++ zMW G a t) → va_S (fun q => s.heap.size ≤ q) s.heap H locs → lv_has ls 9 [(4, .int (nI i)), (0, .ref b), (1, .ref (a 0)), (2, .ref (a 18)), (3, .ref (a 17))] → W p l e room_1 s m #[.ref b] below meth c H locs (cells + 1) (slots + 12) Q (F0 m 1554 ls [])) :
    W p l e room_1 s m #[.ref b] below meth c H locs cells slots Q (F0 m 376 ls []) := by
  obtain ⟨hx, hb, hml, hown, hts⟩ := id F
  have hA : ∀ q : Nat, s.heap.size ≤ q → (fun q : Nat => s.heap.size ≤ q) q := fun _ h => h
  have hbA : ¬ (fun q : Nat => s.heap.size ≤ q) b := Nat.not_le.mpr hbl
  have v1 : vp_in (nI i + 1) L := by
    rw [show (1 : Int32) = nI 1 from rfl, nI_add]; exact vp_in_nI (by omega) (by omega)
  have v2 : vp_in (nI i + 2) L := by
    rw [show (2 : Int32) = nI 2 from rfl, nI_add]; exact vp_in_nI (by omega) (by omega)
  obtain ⟨z1, z2, ⟨e1, e2⟩, hR2⟩ := zo_pour hR ou (xs (nI i + 1).toNatClampNeg) (xs (nI i + 2).toNatClampNeg)
  refine lv_aload_n hx hb dL_law_376 rfl (lv_at hl 2 rfl) ?_
  refine lv_aload_n hx hb dL_law_377 rfl (lv_at hl 1 rfl) ?_
  refine lv_iload hx hb dL_law_378 (lv_at hl 0 rfl) ?_
  refine lv_iconst (v := (1 : Int32)) hx hb dL_law_380 (by decide) ?_
  refine lv_iadd hx hb dL_law_381 ?_
  refine va_sld hx hb hX hbl hbA hS v1 dL_law_382 ?_
  refine lv_aload_n hx hb dL_law_383 rfl (lv_at hl 1 rfl) ?_
  refine lv_iload hx hb dL_law_384 (lv_at hl 0 rfl) ?_
  refine lv_iconst (v := (2 : Int32)) hx hb dL_law_386 (by decide) ?_
  refine lv_iadd hx hb dL_law_387 ?_
  refine va_sld hx hb hX hbl hbA hS v2 dL_law_388 ?_
  refine lv_aload_n hx hb dL_law_389 rfl (lv_at hl 4 rfl) ?_
  refine z_callSW (As := [.ref (a 0), .int (xs (nI i + 1).toNatClampNeg), .int (xs (nI i + 2).toNatClampNeg), .ref (a 17)]) (rest := []) (wr := zMW G a t) (w1 := fun _ : Unit => zLW G a (zS_pour c0 ou (xs (nI i + 1).toNatClampNeg) (xs (nI i + 2).toNatClampNeg)) (zO_pour c0 ou (xs (nI i + 1).toNatClampNeg) (xs (nI i + 2).toNatClampNeg))) (wj := fun _ : Unit => zLW G a (zS_pour c0 ou (xs (nI i + 1).toNatClampNeg) (xs (nI i + 2).toNatClampNeg)) (zO_pour c0 ou (xs (nI i + 1).toNatClampNeg) (xs (nI i + 2).toNatClampNeg)) ++ zMW G a t) F (q_L_pour l G a c0 ou (xs (nI i + 1).toNatClampNeg) (xs (nI i + 2).toNatClampNeg) z1 hst) gL_law_L_pour rfl rfl rfl zd_L_pour ⟨Nat.le_of_ble_eq_true rfl, Nat.le_of_ble_eq_true rfl⟩ rfl rfl (Nat.le_of_ble_eq_true rfl) dL_law_390 ⟨by show cells + 1 ≤ 601024; omega, by show slots + 6 ≤ 7293034; omega⟩ hK hZ hP hD hS hA hl.1 [0, 1, 2, 3, 4, 5, 6, 7, 8, 9, 10, 11, 12, 13, 14, 15, 16, 17] [18, 19, 20, 21, 22, 23, 24, 25, 26, 27] [10, 11, 12, 13, 14, 15, 16, 17, 18, 19, 20, 21, 22, 23, 24, 25, 26, 27, 0, 1, 2, 3, 4, 5, 6, 7, 8, 9] rfl rfl rfl rfl (by decide) rfl (fun _ => rfl) (fun _ H locs hP hD hS => ?_)
  have hP : va_P G.1 vwCl (zLW G a (zS_pour c0 ou (xs (nI i + 1).toNatClampNeg) (xs (nI i + 2).toNatClampNeg)) (zO_pour c0 ou (xs (nI i + 1).toNatClampNeg) (xs (nI i + 2).toNatClampNeg)) ++ zMW G a t) H := hP
  have hD : va_D (fun q => s.heap.size ≤ q) (zLW G a (zS_pour c0 ou (xs (nI i + 1).toNatClampNeg) (xs (nI i + 2).toNatClampNeg)) (zO_pour c0 ou (xs (nI i + 1).toNatClampNeg) (xs (nI i + 2).toNatClampNeg)) ++ zMW G a t) := hD
  generalize zS_pour c0 ou (xs (nI i + 1).toNatClampNeg) (xs (nI i + 2).toNatClampNeg) = c1 at hP hD hR2
  generalize zO_pour c0 ou (xs (nI i + 1).toNatClampNeg) (xs (nI i + 2).toNatClampNeg) = o1 at hP hD e2
  refine lv_istore (lv' := [(5, .int (zk_pour c0 ou (xs (nI i + 1).toNatClampNeg) (xs (nI i + 2).toNatClampNeg))), (4, .int (nI i)), (0, .ref b), (1, .ref (a 0)), (2, .ref (a 18)), (3, .ref (a 17))]) hx hb dL_law_393 hl (by decide) rfl (fun ls hl => ?_)
  refine lv_aload_n hx hb dL_law_395 rfl (lv_at hl 4 rfl) ?_
  refine lv_aload_n hx hb dL_law_396 rfl (lv_at hl 2 rfl) ?_
  refine lv_iload hx hb dL_law_397 (lv_at hl 1 rfl) ?_
  refine lv_iconst (v := (1 : Int32)) hx hb dL_law_399 (by decide) ?_
  refine lv_iadd hx hb dL_law_400 ?_
  refine va_sld hx hb hX hbl hbA hS v1 dL_law_401 ?_
  refine lv_aload_n hx hb dL_law_402 rfl (lv_at hl 2 rfl) ?_
  refine lv_iload hx hb dL_law_403 (lv_at hl 1 rfl) ?_
  refine lv_iconst (v := (2 : Int32)) hx hb dL_law_405 (by decide) ?_
  refine lv_iadd hx hb dL_law_406 ?_
  refine va_sld hx hb hX hbl hbA hS v2 dL_law_407 ?_
  refine z_callV (As := [.int (xs (nI i + 1).toNatClampNeg), .int (xs (nI i + 2).toNatClampNeg)]) (rest := []) (wr := zLW G a c1 o1) (w1 := fun _ : Unit => zMW G a (zM_pour t (xs (nI i + 1).toNatClampNeg) (xs (nI i + 2).toNatClampNeg))) (wj := fun _ : Unit => zLW G a c1 o1 ++ zMW G a (zM_pour t (xs (nI i + 1).toNatClampNeg) (xs (nI i + 2).toNatClampNeg))) (ci := 4) (q0 := 18) F (q_M_pour l G a t (xs (nI i + 1).toNatClampNeg) (xs (nI i + 2).toNatClampNeg) z2) gL_law_X4_pour rfl rfl rfl zd_X4_pour ⟨Nat.le_of_ble_eq_true rfl, Nat.le_of_ble_eq_true rfl⟩ rfl rfl (Nat.le_of_ble_eq_true rfl) dL_law_408 ⟨by show cells + 1 + 0 ≤ 601024; omega, by show slots + 6 + 0 ≤ 7293034; omega⟩ hK hP hD hS hA hl.1 rfl rfl [18, 19, 20, 21, 22, 23, 24, 25, 26, 27] [0, 1, 2, 3, 4, 5, 6, 7, 8, 9, 10, 11, 12, 13, 14, 15, 16, 17] [0, 1, 2, 3, 4, 5, 6, 7, 8, 9, 10, 11, 12, 13, 14, 15, 16, 17, 18, 19, 20, 21, 22, 23, 24, 25, 26, 27] rfl rfl rfl rfl (by decide) rfl (fun _ => rfl) (fun _ H locs hP hD hS => ?_)
  have hP : va_P G.1 vwCl (zLW G a c1 o1 ++ zMW G a (zM_pour t (xs (nI i + 1).toNatClampNeg) (xs (nI i + 2).toNatClampNeg))) H := hP
  have hD : va_D (fun q => s.heap.size ≤ q) (zLW G a c1 o1 ++ zMW G a (zM_pour t (xs (nI i + 1).toNatClampNeg) (xs (nI i + 2).toNatClampNeg))) := hD
  generalize zM_pour t (xs (nI i + 1).toNatClampNeg) (xs (nI i + 2).toNatClampNeg) = t1 at hP hD hR2 e1
  refine lv_istore (lv' := [(6, .int (mk_pour t (xs (nI i + 1).toNatClampNeg) (xs (nI i + 2).toNatClampNeg))), (5, .int (zk_pour c0 ou (xs (nI i + 1).toNatClampNeg) (xs (nI i + 2).toNatClampNeg))), (4, .int (nI i)), (0, .ref b), (1, .ref (a 0)), (2, .ref (a 18)), (3, .ref (a 17))]) hx hb dL_law_411 hl (by decide) rfl (fun ls hl => ?_)
  refine lv_aload_n hx hb dL_law_413 rfl (lv_at hl 5 rfl) ?_
  refine z_callV (As := []) (rest := []) (wr := zLW G a c1 o1) (w1 := fun _ : Unit => zMW G a t1) (wj := fun _ : Unit => zLW G a c1 o1 ++ zMW G a t1) (ci := 4) (q0 := 18) F (q_M_thrown l G a t1) gL_law_X4_thrown rfl rfl rfl zd_X4_thrown ⟨Nat.le_of_ble_eq_true rfl, Nat.le_of_ble_eq_true rfl⟩ rfl rfl (Nat.le_of_ble_eq_true rfl) dL_law_414 ⟨by show cells + 1 + 0 + 0 ≤ 601024; omega, by show slots + 6 + 0 + 0 ≤ 7293034; omega⟩ hK hP hD hS hA hl.1 rfl rfl [18, 19, 20, 21, 22, 23, 24, 25, 26, 27] [0, 1, 2, 3, 4, 5, 6, 7, 8, 9, 10, 11, 12, 13, 14, 15, 16, 17] [0, 1, 2, 3, 4, 5, 6, 7, 8, 9, 10, 11, 12, 13, 14, 15, 16, 17, 18, 19, 20, 21, 22, 23, 24, 25, 26, 27] rfl rfl rfl rfl (by decide) rfl (fun _ => rfl) (fun _ H locs hP hD hS => ?_)
  have hP : va_P G.1 vwCl (zLW G a c1 o1 ++ zMW G a t1) H := hP
  have hD : va_D (fun q => s.heap.size ≤ q) (zLW G a c1 o1 ++ zMW G a t1) := hD
  refine lv_iload hx hb dL_law_417 (lv_at hl 1 rfl) ?_
  refine lv_icmp_eq (tgt := 424) hx hb dL_law_419 (by decide) (fun _ => ?_) (fun z => absurd e1 z)
  refine lv_iload hx hb dL_law_424 (lv_at hl 1 rfl) ?_
  refine lv_if_ne (tgt := 441) hx hb dL_law_426 (by decide) (fun _ => ?_) (fun z0 => ?_)
  · refine lv_goto (tgt := 1554) hx hb dL_law_441 (by decide) ?_
    refine W.widen (k := cells + 1) (n := slots + 12) (by omega) (by omega) ?_
    exact kk c1 t1 o1 H locs ls hR2 hP hD hS (lv_sub hl [2, 3, 4, 5, 6] rfl)
  · refine lv_aload_n hx hb dL_law_429 rfl (lv_at hl 6 rfl) ?_
    refine lv_iconst (v := (0 : Int32)) hx hb dL_law_430 (by decide) ?_
    refine va_lald hx hb hK.1 hP 17 2 rfl rfl (vp_in_nI (n := 0) (N := 1) (by decide) (by decide)) dL_law_431 ?_
    refine lv_iload hx hb dL_law_432 (lv_at hl 0 rfl) ?_
    refine lv_i2l (v := (mk_pour t (xs (nI i + 1).toNatClampNeg) (xs (nI i + 2).toNatClampNeg)).toInt64) hx hb dL_law_434 rfl ?_
    refine W.lcmp hx hb dL_law_435 ?_
    refine lv_if_eq (tgt := 441) hx hb dL_law_436 (by decide) (fun _ => ?_) (fun z => absurd ((lg_cmp_eq _ _).mpr (e2 z0)) z)
    refine lv_goto (tgt := 1554) hx hb dL_law_441 (by decide) ?_
    refine W.widen (k := cells + 1) (n := slots + 12) (by omega) (by omega) ?_
    exact kk c1 t1 o1 H locs ls hR2 hP hD hS (lv_sub hl [2, 3, 4, 5, 6] rfl)
set_option maxHeartbeats 4000000 in
set_option maxRecDepth 100000 in
theorem k_follow {p : Program} {l : Launch} {e : Env} {s : State} {m : MethodId} {below : List Frame} {meth : Method} {c : Code} {b L : Nat} {xs : Nat → Int32} {G : zG} {a : Nat → Nat} {Q : State → Prop} (F : CallFix p m c cL_law 9 s #[.ref b] wsL_law RL) (hst : l.stackTraces = false) (hK : zK G s) (hZ : zZ (fun q => s.heap.size ≤ q) s s.heap) (hX : va_X b L xs s s.heap) (hbl : b < s.heap.size) {cells slots : Nat} (hc : cells + 1 ≤ 601024) (hsl : slots + 12 ≤ 7293034) {i : Nat} (hi : i + 4 ≤ L) (hL : L ≤ 2048) {c0 : zS} {t : zM} {ou : Nat → Int64} (hR : zRel c0 t) {H : Heap} {locs : List Loc} {ls : Array Slot} (hP : va_P G.1 vwCl (zLW G a c0 ou ++ zMW G a t) H) (hD : va_D (fun q => s.heap.size ≤ q) (zLW G a c0 ou ++ zMW G a t)) (hS : va_S (fun q => s.heap.size ≤ q) s.heap H locs) (hl : lv_has ls 9 [(4, .int (nI i)), (0, .ref b), (1, .ref (a 0)), (2, .ref (a 18)), (3, .ref (a 17))])
    (kk : ∀ (c0 : zS) (t : zM) (ou : Nat → Int64) (H : Heap) (locs : List Loc) (ls : Array Slot), zRel c0 t → va_P G.1 vwCl (zLW G a c0 ou ++ zMW G a t) H → va_D (fun q => s.heap.size ≤ q) (zLW G a c0 ou ++ zMW G a t) → va_S (fun q => s.heap.size ≤ q) s.heap H locs → lv_has ls 9 [(4, .int (nI i)), (0, .ref b), (1, .ref (a 0)), (2, .ref (a 18)), (3, .ref (a 17))] → W p l e room_1 s m #[.ref b] below meth c H locs (cells + 1) (slots + 12) Q (F0 m 1554 ls [])) :
    W p l e room_1 s m #[.ref b] below meth c H locs cells slots Q (F0 m 444 ls []) := by
  obtain ⟨hx, hb, hml, hown, hts⟩ := id F
  have hA : ∀ q : Nat, s.heap.size ≤ q → (fun q : Nat => s.heap.size ≤ q) q := fun _ h => h
  have hbA : ¬ (fun q : Nat => s.heap.size ≤ q) b := Nat.not_le.mpr hbl
  have v1 : vp_in (nI i + 1) L := by
    rw [show (1 : Int32) = nI 1 from rfl, nI_add]; exact vp_in_nI (by omega) (by omega)
  have v2 : vp_in (nI i + 2) L := by
    rw [show (2 : Int32) = nI 2 from rfl, nI_add]; exact vp_in_nI (by omega) (by omega)
  obtain ⟨z1, z2, ⟨e1, e2⟩, hR2⟩ := zo_follow hR ou (xs (nI i + 1).toNatClampNeg) (xs (nI i + 2).toNatClampNeg)
  refine lv_aload_n hx hb dL_law_444 rfl (lv_at hl 2 rfl) ?_
  refine lv_aload_n hx hb dL_law_445 rfl (lv_at hl 1 rfl) ?_
  refine lv_iload hx hb dL_law_446 (lv_at hl 0 rfl) ?_
  refine lv_iconst (v := (1 : Int32)) hx hb dL_law_448 (by decide) ?_
  refine lv_iadd hx hb dL_law_449 ?_
  refine va_sld hx hb hX hbl hbA hS v1 dL_law_450 ?_
  refine lv_aload_n hx hb dL_law_451 rfl (lv_at hl 1 rfl) ?_
  refine lv_iload hx hb dL_law_452 (lv_at hl 0 rfl) ?_
  refine lv_iconst (v := (2 : Int32)) hx hb dL_law_454 (by decide) ?_
  refine lv_iadd hx hb dL_law_455 ?_
  refine va_sld hx hb hX hbl hbA hS v2 dL_law_456 ?_
  refine lv_aload_n hx hb dL_law_457 rfl (lv_at hl 4 rfl) ?_
  refine z_callSW (As := [.ref (a 0), .int (xs (nI i + 1).toNatClampNeg), .int (xs (nI i + 2).toNatClampNeg), .ref (a 17)]) (rest := []) (wr := zMW G a t) (w1 := fun _ : Unit => zLW G a (zS_follow c0 ou (xs (nI i + 1).toNatClampNeg) (xs (nI i + 2).toNatClampNeg)) (zO_follow c0 ou (xs (nI i + 1).toNatClampNeg) (xs (nI i + 2).toNatClampNeg))) (wj := fun _ : Unit => zLW G a (zS_follow c0 ou (xs (nI i + 1).toNatClampNeg) (xs (nI i + 2).toNatClampNeg)) (zO_follow c0 ou (xs (nI i + 1).toNatClampNeg) (xs (nI i + 2).toNatClampNeg)) ++ zMW G a t) F (q_L_follow l G a c0 ou (xs (nI i + 1).toNatClampNeg) (xs (nI i + 2).toNatClampNeg) z1 hst) gL_law_L_follow rfl rfl rfl zd_L_follow ⟨Nat.le_of_ble_eq_true rfl, Nat.le_of_ble_eq_true rfl⟩ rfl rfl (Nat.le_of_ble_eq_true rfl) dL_law_458 ⟨by show cells + 1 ≤ 601024; omega, by show slots + 6 ≤ 7293034; omega⟩ hK hZ hP hD hS hA hl.1 [0, 1, 2, 3, 4, 5, 6, 7, 8, 9, 10, 11, 12, 13, 14, 15, 16, 17] [18, 19, 20, 21, 22, 23, 24, 25, 26, 27] [10, 11, 12, 13, 14, 15, 16, 17, 18, 19, 20, 21, 22, 23, 24, 25, 26, 27, 0, 1, 2, 3, 4, 5, 6, 7, 8, 9] rfl rfl rfl rfl (by decide) rfl (fun _ => rfl) (fun _ H locs hP hD hS => ?_)
  have hP : va_P G.1 vwCl (zLW G a (zS_follow c0 ou (xs (nI i + 1).toNatClampNeg) (xs (nI i + 2).toNatClampNeg)) (zO_follow c0 ou (xs (nI i + 1).toNatClampNeg) (xs (nI i + 2).toNatClampNeg)) ++ zMW G a t) H := hP
  have hD : va_D (fun q => s.heap.size ≤ q) (zLW G a (zS_follow c0 ou (xs (nI i + 1).toNatClampNeg) (xs (nI i + 2).toNatClampNeg)) (zO_follow c0 ou (xs (nI i + 1).toNatClampNeg) (xs (nI i + 2).toNatClampNeg)) ++ zMW G a t) := hD
  generalize zS_follow c0 ou (xs (nI i + 1).toNatClampNeg) (xs (nI i + 2).toNatClampNeg) = c1 at hP hD hR2
  generalize zO_follow c0 ou (xs (nI i + 1).toNatClampNeg) (xs (nI i + 2).toNatClampNeg) = o1 at hP hD e2
  refine lv_istore (lv' := [(5, .int (zk_follow c0 ou (xs (nI i + 1).toNatClampNeg) (xs (nI i + 2).toNatClampNeg))), (4, .int (nI i)), (0, .ref b), (1, .ref (a 0)), (2, .ref (a 18)), (3, .ref (a 17))]) hx hb dL_law_461 hl (by decide) rfl (fun ls hl => ?_)
  refine lv_aload_n hx hb dL_law_463 rfl (lv_at hl 4 rfl) ?_
  refine lv_aload_n hx hb dL_law_464 rfl (lv_at hl 2 rfl) ?_
  refine lv_iload hx hb dL_law_465 (lv_at hl 1 rfl) ?_
  refine lv_iconst (v := (1 : Int32)) hx hb dL_law_467 (by decide) ?_
  refine lv_iadd hx hb dL_law_468 ?_
  refine va_sld hx hb hX hbl hbA hS v1 dL_law_469 ?_
  refine lv_aload_n hx hb dL_law_470 rfl (lv_at hl 2 rfl) ?_
  refine lv_iload hx hb dL_law_471 (lv_at hl 1 rfl) ?_
  refine lv_iconst (v := (2 : Int32)) hx hb dL_law_473 (by decide) ?_
  refine lv_iadd hx hb dL_law_474 ?_
  refine va_sld hx hb hX hbl hbA hS v2 dL_law_475 ?_
  refine z_callV (As := [.int (xs (nI i + 1).toNatClampNeg), .int (xs (nI i + 2).toNatClampNeg)]) (rest := []) (wr := zLW G a c1 o1) (w1 := fun _ : Unit => zMW G a (zM_follow t (xs (nI i + 1).toNatClampNeg) (xs (nI i + 2).toNatClampNeg))) (wj := fun _ : Unit => zLW G a c1 o1 ++ zMW G a (zM_follow t (xs (nI i + 1).toNatClampNeg) (xs (nI i + 2).toNatClampNeg))) (ci := 4) (q0 := 18) F (q_M_follow l G a t (xs (nI i + 1).toNatClampNeg) (xs (nI i + 2).toNatClampNeg) z2) gL_law_X4_follow rfl rfl rfl zd_X4_follow ⟨Nat.le_of_ble_eq_true rfl, Nat.le_of_ble_eq_true rfl⟩ rfl rfl (Nat.le_of_ble_eq_true rfl) dL_law_476 ⟨by show cells + 1 + 0 ≤ 601024; omega, by show slots + 6 + 0 ≤ 7293034; omega⟩ hK hP hD hS hA hl.1 rfl rfl [18, 19, 20, 21, 22, 23, 24, 25, 26, 27] [0, 1, 2, 3, 4, 5, 6, 7, 8, 9, 10, 11, 12, 13, 14, 15, 16, 17] [0, 1, 2, 3, 4, 5, 6, 7, 8, 9, 10, 11, 12, 13, 14, 15, 16, 17, 18, 19, 20, 21, 22, 23, 24, 25, 26, 27] rfl rfl rfl rfl (by decide) rfl (fun _ => rfl) (fun _ H locs hP hD hS => ?_)
  have hP : va_P G.1 vwCl (zLW G a c1 o1 ++ zMW G a (zM_follow t (xs (nI i + 1).toNatClampNeg) (xs (nI i + 2).toNatClampNeg))) H := hP
  have hD : va_D (fun q => s.heap.size ≤ q) (zLW G a c1 o1 ++ zMW G a (zM_follow t (xs (nI i + 1).toNatClampNeg) (xs (nI i + 2).toNatClampNeg))) := hD
  generalize zM_follow t (xs (nI i + 1).toNatClampNeg) (xs (nI i + 2).toNatClampNeg) = t1 at hP hD hR2 e1
  refine lv_istore (lv' := [(6, .int (mk_follow t (xs (nI i + 1).toNatClampNeg) (xs (nI i + 2).toNatClampNeg))), (5, .int (zk_follow c0 ou (xs (nI i + 1).toNatClampNeg) (xs (nI i + 2).toNatClampNeg))), (4, .int (nI i)), (0, .ref b), (1, .ref (a 0)), (2, .ref (a 18)), (3, .ref (a 17))]) hx hb dL_law_479 hl (by decide) rfl (fun ls hl => ?_)
  refine lv_aload_n hx hb dL_law_481 rfl (lv_at hl 5 rfl) ?_
  refine z_callV (As := []) (rest := []) (wr := zLW G a c1 o1) (w1 := fun _ : Unit => zMW G a t1) (wj := fun _ : Unit => zLW G a c1 o1 ++ zMW G a t1) (ci := 4) (q0 := 18) F (q_M_thrown l G a t1) gL_law_X4_thrown rfl rfl rfl zd_X4_thrown ⟨Nat.le_of_ble_eq_true rfl, Nat.le_of_ble_eq_true rfl⟩ rfl rfl (Nat.le_of_ble_eq_true rfl) dL_law_482 ⟨by show cells + 1 + 0 + 0 ≤ 601024; omega, by show slots + 6 + 0 + 0 ≤ 7293034; omega⟩ hK hP hD hS hA hl.1 rfl rfl [18, 19, 20, 21, 22, 23, 24, 25, 26, 27] [0, 1, 2, 3, 4, 5, 6, 7, 8, 9, 10, 11, 12, 13, 14, 15, 16, 17] [0, 1, 2, 3, 4, 5, 6, 7, 8, 9, 10, 11, 12, 13, 14, 15, 16, 17, 18, 19, 20, 21, 22, 23, 24, 25, 26, 27] rfl rfl rfl rfl (by decide) rfl (fun _ => rfl) (fun _ H locs hP hD hS => ?_)
  have hP : va_P G.1 vwCl (zLW G a c1 o1 ++ zMW G a t1) H := hP
  have hD : va_D (fun q => s.heap.size ≤ q) (zLW G a c1 o1 ++ zMW G a t1) := hD
  refine lv_iload hx hb dL_law_485 (lv_at hl 1 rfl) ?_
  refine lv_icmp_eq (tgt := 492) hx hb dL_law_487 (by decide) (fun _ => ?_) (fun z => absurd e1 z)
  refine lv_iload hx hb dL_law_492 (lv_at hl 1 rfl) ?_
  refine lv_if_ne (tgt := 509) hx hb dL_law_494 (by decide) (fun _ => ?_) (fun z0 => ?_)
  · refine lv_goto (tgt := 1554) hx hb dL_law_509 (by decide) ?_
    refine W.widen (k := cells + 1) (n := slots + 12) (by omega) (by omega) ?_
    exact kk c1 t1 o1 H locs ls hR2 hP hD hS (lv_sub hl [2, 3, 4, 5, 6] rfl)
  · refine lv_aload_n hx hb dL_law_497 rfl (lv_at hl 6 rfl) ?_
    refine lv_iconst (v := (0 : Int32)) hx hb dL_law_498 (by decide) ?_
    refine va_lald hx hb hK.1 hP 17 2 rfl rfl (vp_in_nI (n := 0) (N := 1) (by decide) (by decide)) dL_law_499 ?_
    refine lv_iload hx hb dL_law_500 (lv_at hl 0 rfl) ?_
    refine lv_i2l (v := (mk_follow t (xs (nI i + 1).toNatClampNeg) (xs (nI i + 2).toNatClampNeg)).toInt64) hx hb dL_law_502 rfl ?_
    refine W.lcmp hx hb dL_law_503 ?_
    refine lv_if_eq (tgt := 509) hx hb dL_law_504 (by decide) (fun _ => ?_) (fun z => absurd ((lg_cmp_eq _ _).mpr (e2 z0)) z)
    refine lv_goto (tgt := 1554) hx hb dL_law_509 (by decide) ?_
    refine W.widen (k := cells + 1) (n := slots + 12) (by omega) (by omega) ?_
    exact kk c1 t1 o1 H locs ls hR2 hP hD hS (lv_sub hl [2, 3, 4, 5, 6] rfl)
set_option maxHeartbeats 4000000 in
set_option maxRecDepth 100000 in
theorem k_volumeOf {p : Program} {l : Launch} {e : Env} {s : State} {m : MethodId} {below : List Frame} {meth : Method} {c : Code} {b L : Nat} {xs : Nat → Int32} {G : zG} {a : Nat → Nat} {Q : State → Prop} (F : CallFix p m c cL_law 9 s #[.ref b] wsL_law RL) (hst : l.stackTraces = false) (hK : zK G s) (hZ : zZ (fun q => s.heap.size ≤ q) s s.heap) (hX : va_X b L xs s s.heap) (hbl : b < s.heap.size) {cells slots : Nat} (hc : cells + 1 ≤ 601024) (hsl : slots + 12 ≤ 7293034) {i : Nat} (hi : i + 4 ≤ L) (hL : L ≤ 2048) {c0 : zS} {t : zM} {ou : Nat → Int64} (hR : zRel c0 t) {H : Heap} {locs : List Loc} {ls : Array Slot} (hP : va_P G.1 vwCl (zLW G a c0 ou ++ zMW G a t) H) (hD : va_D (fun q => s.heap.size ≤ q) (zLW G a c0 ou ++ zMW G a t)) (hS : va_S (fun q => s.heap.size ≤ q) s.heap H locs) (hl : lv_has ls 9 [(4, .int (nI i)), (0, .ref b), (1, .ref (a 0)), (2, .ref (a 18)), (3, .ref (a 17))])
    (kk : ∀ (c0 : zS) (t : zM) (ou : Nat → Int64) (H : Heap) (locs : List Loc) (ls : Array Slot), zRel c0 t → va_P G.1 vwCl (zLW G a c0 ou ++ zMW G a t) H → va_D (fun q => s.heap.size ≤ q) (zLW G a c0 ou ++ zMW G a t) → va_S (fun q => s.heap.size ≤ q) s.heap H locs → lv_has ls 9 [(4, .int (nI i)), (0, .ref b), (1, .ref (a 0)), (2, .ref (a 18)), (3, .ref (a 17))] → W p l e room_1 s m #[.ref b] below meth c H locs (cells + 1) (slots + 12) Q (F0 m 1554 ls [])) :
    W p l e room_1 s m #[.ref b] below meth c H locs cells slots Q (F0 m 525 ls []) := by
  obtain ⟨hx, hb, hml, hown, hts⟩ := id F
  have hA : ∀ q : Nat, s.heap.size ≤ q → (fun q : Nat => s.heap.size ≤ q) q := fun _ h => h
  have hbA : ¬ (fun q : Nat => s.heap.size ≤ q) b := Nat.not_le.mpr hbl
  have v1 : vp_in (nI i + 1) L := by
    rw [show (1 : Int32) = nI 1 from rfl, nI_add]; exact vp_in_nI (by omega) (by omega)
  obtain ⟨z1, z2, ⟨e1, e2⟩, hR2⟩ := zo_volumeOf hR ou (xs (nI i + 1).toNatClampNeg)
  refine lv_aload_n hx hb dL_law_525 rfl (lv_at hl 2 rfl) ?_
  refine lv_aload_n hx hb dL_law_526 rfl (lv_at hl 1 rfl) ?_
  refine lv_iload hx hb dL_law_527 (lv_at hl 0 rfl) ?_
  refine lv_iconst (v := (1 : Int32)) hx hb dL_law_529 (by decide) ?_
  refine lv_iadd hx hb dL_law_530 ?_
  refine va_sld hx hb hX hbl hbA hS v1 dL_law_531 ?_
  refine lv_aload_n hx hb dL_law_532 rfl (lv_at hl 4 rfl) ?_
  refine z_callSW (As := [.ref (a 0), .int (xs (nI i + 1).toNatClampNeg), .ref (a 17)]) (rest := []) (wr := zMW G a t) (w1 := fun _ : Unit => zLW G a (zS_volumeOf c0 ou (xs (nI i + 1).toNatClampNeg)) (zO_volumeOf c0 ou (xs (nI i + 1).toNatClampNeg))) (wj := fun _ : Unit => zLW G a (zS_volumeOf c0 ou (xs (nI i + 1).toNatClampNeg)) (zO_volumeOf c0 ou (xs (nI i + 1).toNatClampNeg)) ++ zMW G a t) F (q_L_volumeOf l G a c0 ou (xs (nI i + 1).toNatClampNeg) z1 hst) gL_law_L_volumeOf rfl rfl rfl zd_L_volumeOf ⟨Nat.le_of_ble_eq_true rfl, Nat.le_of_ble_eq_true rfl⟩ rfl rfl (Nat.le_of_ble_eq_true rfl) dL_law_533 ⟨by show cells + 1 ≤ 601024; omega, by show slots + 6 ≤ 7293034; omega⟩ hK hZ hP hD hS hA hl.1 [0, 1, 2, 3, 4, 5, 6, 7, 8, 9, 10, 11, 12, 13, 14, 15, 16, 17] [18, 19, 20, 21, 22, 23, 24, 25, 26, 27] [10, 11, 12, 13, 14, 15, 16, 17, 18, 19, 20, 21, 22, 23, 24, 25, 26, 27, 0, 1, 2, 3, 4, 5, 6, 7, 8, 9] rfl rfl rfl rfl (by decide) rfl (fun _ => rfl) (fun _ H locs hP hD hS => ?_)
  have hP : va_P G.1 vwCl (zLW G a (zS_volumeOf c0 ou (xs (nI i + 1).toNatClampNeg)) (zO_volumeOf c0 ou (xs (nI i + 1).toNatClampNeg)) ++ zMW G a t) H := hP
  have hD : va_D (fun q => s.heap.size ≤ q) (zLW G a (zS_volumeOf c0 ou (xs (nI i + 1).toNatClampNeg)) (zO_volumeOf c0 ou (xs (nI i + 1).toNatClampNeg)) ++ zMW G a t) := hD
  generalize zS_volumeOf c0 ou (xs (nI i + 1).toNatClampNeg) = c1 at hP hD hR2
  generalize zO_volumeOf c0 ou (xs (nI i + 1).toNatClampNeg) = o1 at hP hD e2
  refine lv_istore (lv' := [(5, .int (zk_volumeOf c0 ou (xs (nI i + 1).toNatClampNeg))), (4, .int (nI i)), (0, .ref b), (1, .ref (a 0)), (2, .ref (a 18)), (3, .ref (a 17))]) hx hb dL_law_536 hl (by decide) rfl (fun ls hl => ?_)
  refine lv_aload_n hx hb dL_law_538 rfl (lv_at hl 4 rfl) ?_
  refine lv_aload_n hx hb dL_law_539 rfl (lv_at hl 2 rfl) ?_
  refine lv_iload hx hb dL_law_540 (lv_at hl 1 rfl) ?_
  refine lv_iconst (v := (1 : Int32)) hx hb dL_law_542 (by decide) ?_
  refine lv_iadd hx hb dL_law_543 ?_
  refine va_sld hx hb hX hbl hbA hS v1 dL_law_544 ?_
  refine z_callV (As := [.int (xs (nI i + 1).toNatClampNeg)]) (rest := []) (wr := zLW G a c1 o1) (w1 := fun _ : Unit => zMW G a (zM_volumeOf t (xs (nI i + 1).toNatClampNeg))) (wj := fun _ : Unit => zLW G a c1 o1 ++ zMW G a (zM_volumeOf t (xs (nI i + 1).toNatClampNeg))) (ci := 4) (q0 := 18) F (q_M_volumeOf l G a t (xs (nI i + 1).toNatClampNeg) z2) gL_law_X4_volumeOf rfl rfl rfl zd_X4_volumeOf ⟨Nat.le_of_ble_eq_true rfl, Nat.le_of_ble_eq_true rfl⟩ rfl rfl (Nat.le_of_ble_eq_true rfl) dL_law_545 ⟨by show cells + 1 + 0 ≤ 601024; omega, by show slots + 6 + 0 ≤ 7293034; omega⟩ hK hP hD hS hA hl.1 rfl rfl [18, 19, 20, 21, 22, 23, 24, 25, 26, 27] [0, 1, 2, 3, 4, 5, 6, 7, 8, 9, 10, 11, 12, 13, 14, 15, 16, 17] [0, 1, 2, 3, 4, 5, 6, 7, 8, 9, 10, 11, 12, 13, 14, 15, 16, 17, 18, 19, 20, 21, 22, 23, 24, 25, 26, 27] rfl rfl rfl rfl (by decide) rfl (fun _ => rfl) (fun _ H locs hP hD hS => ?_)
  have hP : va_P G.1 vwCl (zLW G a c1 o1 ++ zMW G a (zM_volumeOf t (xs (nI i + 1).toNatClampNeg))) H := hP
  have hD : va_D (fun q => s.heap.size ≤ q) (zLW G a c1 o1 ++ zMW G a (zM_volumeOf t (xs (nI i + 1).toNatClampNeg))) := hD
  generalize zM_volumeOf t (xs (nI i + 1).toNatClampNeg) = t1 at hP hD hR2 e1
  refine lv_istore (lv' := [(6, .int (mk_volumeOf t (xs (nI i + 1).toNatClampNeg))), (5, .int (zk_volumeOf c0 ou (xs (nI i + 1).toNatClampNeg))), (4, .int (nI i)), (0, .ref b), (1, .ref (a 0)), (2, .ref (a 18)), (3, .ref (a 17))]) hx hb dL_law_548 hl (by decide) rfl (fun ls hl => ?_)
  refine lv_aload_n hx hb dL_law_550 rfl (lv_at hl 5 rfl) ?_
  refine z_callV (As := []) (rest := []) (wr := zLW G a c1 o1) (w1 := fun _ : Unit => zMW G a t1) (wj := fun _ : Unit => zLW G a c1 o1 ++ zMW G a t1) (ci := 4) (q0 := 18) F (q_M_thrown l G a t1) gL_law_X4_thrown rfl rfl rfl zd_X4_thrown ⟨Nat.le_of_ble_eq_true rfl, Nat.le_of_ble_eq_true rfl⟩ rfl rfl (Nat.le_of_ble_eq_true rfl) dL_law_551 ⟨by show cells + 1 + 0 + 0 ≤ 601024; omega, by show slots + 6 + 0 + 0 ≤ 7293034; omega⟩ hK hP hD hS hA hl.1 rfl rfl [18, 19, 20, 21, 22, 23, 24, 25, 26, 27] [0, 1, 2, 3, 4, 5, 6, 7, 8, 9, 10, 11, 12, 13, 14, 15, 16, 17] [0, 1, 2, 3, 4, 5, 6, 7, 8, 9, 10, 11, 12, 13, 14, 15, 16, 17, 18, 19, 20, 21, 22, 23, 24, 25, 26, 27] rfl rfl rfl rfl (by decide) rfl (fun _ => rfl) (fun _ H locs hP hD hS => ?_)
  have hP : va_P G.1 vwCl (zLW G a c1 o1 ++ zMW G a t1) H := hP
  have hD : va_D (fun q => s.heap.size ≤ q) (zLW G a c1 o1 ++ zMW G a t1) := hD
  refine lv_iload hx hb dL_law_554 (lv_at hl 1 rfl) ?_
  refine lv_icmp_eq (tgt := 561) hx hb dL_law_556 (by decide) (fun _ => ?_) (fun z => absurd e1 z)
  refine lv_iload hx hb dL_law_561 (lv_at hl 1 rfl) ?_
  refine lv_if_ne (tgt := 578) hx hb dL_law_563 (by decide) (fun _ => ?_) (fun z0 => ?_)
  · refine lv_goto (tgt := 1554) hx hb dL_law_578 (by decide) ?_
    refine W.widen (k := cells + 1) (n := slots + 12) (by omega) (by omega) ?_
    exact kk c1 t1 o1 H locs ls hR2 hP hD hS (lv_sub hl [2, 3, 4, 5, 6] rfl)
  · refine lv_aload_n hx hb dL_law_566 rfl (lv_at hl 6 rfl) ?_
    refine lv_iconst (v := (0 : Int32)) hx hb dL_law_567 (by decide) ?_
    refine va_lald hx hb hK.1 hP 17 2 rfl rfl (vp_in_nI (n := 0) (N := 1) (by decide) (by decide)) dL_law_568 ?_
    refine lv_iload hx hb dL_law_569 (lv_at hl 0 rfl) ?_
    refine lv_i2l (v := (mk_volumeOf t (xs (nI i + 1).toNatClampNeg)).toInt64) hx hb dL_law_571 rfl ?_
    refine W.lcmp hx hb dL_law_572 ?_
    refine lv_if_eq (tgt := 578) hx hb dL_law_573 (by decide) (fun _ => ?_) (fun z => absurd ((lg_cmp_eq _ _).mpr (e2 z0)) z)
    refine lv_goto (tgt := 1554) hx hb dL_law_578 (by decide) ?_
    refine W.widen (k := cells + 1) (n := slots + 12) (by omega) (by omega) ?_
    exact kk c1 t1 o1 H locs ls hR2 hP hD hS (lv_sub hl [2, 3, 4, 5, 6] rfl)
set_option maxHeartbeats 4000000 in
set_option maxRecDepth 100000 in
theorem k_amountOf {p : Program} {l : Launch} {e : Env} {s : State} {m : MethodId} {below : List Frame} {meth : Method} {c : Code} {b L : Nat} {xs : Nat → Int32} {G : zG} {a : Nat → Nat} {Q : State → Prop} (F : CallFix p m c cL_law 9 s #[.ref b] wsL_law RL) (hst : l.stackTraces = false) (hK : zK G s) (hZ : zZ (fun q => s.heap.size ≤ q) s s.heap) (hX : va_X b L xs s s.heap) (hbl : b < s.heap.size) {cells slots : Nat} (hc : cells + 1 ≤ 601024) (hsl : slots + 12 ≤ 7293034) {i : Nat} (hi : i + 4 ≤ L) (hL : L ≤ 2048) {c0 : zS} {t : zM} {ou : Nat → Int64} (hR : zRel c0 t) {H : Heap} {locs : List Loc} {ls : Array Slot} (hP : va_P G.1 vwCl (zLW G a c0 ou ++ zMW G a t) H) (hD : va_D (fun q => s.heap.size ≤ q) (zLW G a c0 ou ++ zMW G a t)) (hS : va_S (fun q => s.heap.size ≤ q) s.heap H locs) (hl : lv_has ls 9 [(4, .int (nI i)), (0, .ref b), (1, .ref (a 0)), (2, .ref (a 18)), (3, .ref (a 17))])
    (kk : ∀ (c0 : zS) (t : zM) (ou : Nat → Int64) (H : Heap) (locs : List Loc) (ls : Array Slot), zRel c0 t → va_P G.1 vwCl (zLW G a c0 ou ++ zMW G a t) H → va_D (fun q => s.heap.size ≤ q) (zLW G a c0 ou ++ zMW G a t) → va_S (fun q => s.heap.size ≤ q) s.heap H locs → lv_has ls 9 [(4, .int (nI i)), (0, .ref b), (1, .ref (a 0)), (2, .ref (a 18)), (3, .ref (a 17))] → W p l e room_1 s m #[.ref b] below meth c H locs (cells + 1) (slots + 12) Q (F0 m 1554 ls [])) :
    W p l e room_1 s m #[.ref b] below meth c H locs cells slots Q (F0 m 581 ls []) := by
  obtain ⟨hx, hb, hml, hown, hts⟩ := id F
  have hA : ∀ q : Nat, s.heap.size ≤ q → (fun q : Nat => s.heap.size ≤ q) q := fun _ h => h
  have hbA : ¬ (fun q : Nat => s.heap.size ≤ q) b := Nat.not_le.mpr hbl
  have v1 : vp_in (nI i + 1) L := by
    rw [show (1 : Int32) = nI 1 from rfl, nI_add]; exact vp_in_nI (by omega) (by omega)
  obtain ⟨z1, z2, ⟨e1, e2⟩, hR2⟩ := zo_amountOf hR ou (xs (nI i + 1).toNatClampNeg)
  refine lv_aload_n hx hb dL_law_581 rfl (lv_at hl 2 rfl) ?_
  refine lv_aload_n hx hb dL_law_582 rfl (lv_at hl 1 rfl) ?_
  refine lv_iload hx hb dL_law_583 (lv_at hl 0 rfl) ?_
  refine lv_iconst (v := (1 : Int32)) hx hb dL_law_585 (by decide) ?_
  refine lv_iadd hx hb dL_law_586 ?_
  refine va_sld hx hb hX hbl hbA hS v1 dL_law_587 ?_
  refine lv_aload_n hx hb dL_law_588 rfl (lv_at hl 4 rfl) ?_
  refine z_callSW (As := [.ref (a 0), .int (xs (nI i + 1).toNatClampNeg), .ref (a 17)]) (rest := []) (wr := zMW G a t) (w1 := fun _ : Unit => zLW G a (zS_amountOf c0 ou (xs (nI i + 1).toNatClampNeg)) (zO_amountOf c0 ou (xs (nI i + 1).toNatClampNeg))) (wj := fun _ : Unit => zLW G a (zS_amountOf c0 ou (xs (nI i + 1).toNatClampNeg)) (zO_amountOf c0 ou (xs (nI i + 1).toNatClampNeg)) ++ zMW G a t) F (q_L_amountOf l G a c0 ou (xs (nI i + 1).toNatClampNeg) z1 hst) gL_law_L_amountOf rfl rfl rfl zd_L_amountOf ⟨Nat.le_of_ble_eq_true rfl, Nat.le_of_ble_eq_true rfl⟩ rfl rfl (Nat.le_of_ble_eq_true rfl) dL_law_589 ⟨by show cells + 1 ≤ 601024; omega, by show slots + 6 ≤ 7293034; omega⟩ hK hZ hP hD hS hA hl.1 [0, 1, 2, 3, 4, 5, 6, 7, 8, 9, 10, 11, 12, 13, 14, 15, 16, 17] [18, 19, 20, 21, 22, 23, 24, 25, 26, 27] [10, 11, 12, 13, 14, 15, 16, 17, 18, 19, 20, 21, 22, 23, 24, 25, 26, 27, 0, 1, 2, 3, 4, 5, 6, 7, 8, 9] rfl rfl rfl rfl (by decide) rfl (fun _ => rfl) (fun _ H locs hP hD hS => ?_)
  have hP : va_P G.1 vwCl (zLW G a (zS_amountOf c0 ou (xs (nI i + 1).toNatClampNeg)) (zO_amountOf c0 ou (xs (nI i + 1).toNatClampNeg)) ++ zMW G a t) H := hP
  have hD : va_D (fun q => s.heap.size ≤ q) (zLW G a (zS_amountOf c0 ou (xs (nI i + 1).toNatClampNeg)) (zO_amountOf c0 ou (xs (nI i + 1).toNatClampNeg)) ++ zMW G a t) := hD
  generalize zS_amountOf c0 ou (xs (nI i + 1).toNatClampNeg) = c1 at hP hD hR2
  generalize zO_amountOf c0 ou (xs (nI i + 1).toNatClampNeg) = o1 at hP hD e2
  refine lv_istore (lv' := [(5, .int (zk_amountOf c0 ou (xs (nI i + 1).toNatClampNeg))), (4, .int (nI i)), (0, .ref b), (1, .ref (a 0)), (2, .ref (a 18)), (3, .ref (a 17))]) hx hb dL_law_592 hl (by decide) rfl (fun ls hl => ?_)
  refine lv_aload_n hx hb dL_law_594 rfl (lv_at hl 4 rfl) ?_
  refine lv_aload_n hx hb dL_law_595 rfl (lv_at hl 2 rfl) ?_
  refine lv_iload hx hb dL_law_596 (lv_at hl 1 rfl) ?_
  refine lv_iconst (v := (1 : Int32)) hx hb dL_law_598 (by decide) ?_
  refine lv_iadd hx hb dL_law_599 ?_
  refine va_sld hx hb hX hbl hbA hS v1 dL_law_600 ?_
  refine z_callV (As := [.int (xs (nI i + 1).toNatClampNeg)]) (rest := []) (wr := zLW G a c1 o1) (w1 := fun _ : Unit => zMW G a (zM_amountOf t (xs (nI i + 1).toNatClampNeg))) (wj := fun _ : Unit => zLW G a c1 o1 ++ zMW G a (zM_amountOf t (xs (nI i + 1).toNatClampNeg))) (ci := 4) (q0 := 18) F (q_M_amountOf l G a t (xs (nI i + 1).toNatClampNeg) z2) gL_law_X4_amountOf rfl rfl rfl zd_X4_amountOf ⟨Nat.le_of_ble_eq_true rfl, Nat.le_of_ble_eq_true rfl⟩ rfl rfl (Nat.le_of_ble_eq_true rfl) dL_law_601 ⟨by show cells + 1 + 0 ≤ 601024; omega, by show slots + 6 + 0 ≤ 7293034; omega⟩ hK hP hD hS hA hl.1 rfl rfl [18, 19, 20, 21, 22, 23, 24, 25, 26, 27] [0, 1, 2, 3, 4, 5, 6, 7, 8, 9, 10, 11, 12, 13, 14, 15, 16, 17] [0, 1, 2, 3, 4, 5, 6, 7, 8, 9, 10, 11, 12, 13, 14, 15, 16, 17, 18, 19, 20, 21, 22, 23, 24, 25, 26, 27] rfl rfl rfl rfl (by decide) rfl (fun _ => rfl) (fun _ H locs hP hD hS => ?_)
  have hP : va_P G.1 vwCl (zLW G a c1 o1 ++ zMW G a (zM_amountOf t (xs (nI i + 1).toNatClampNeg))) H := hP
  have hD : va_D (fun q => s.heap.size ≤ q) (zLW G a c1 o1 ++ zMW G a (zM_amountOf t (xs (nI i + 1).toNatClampNeg))) := hD
  generalize zM_amountOf t (xs (nI i + 1).toNatClampNeg) = t1 at hP hD hR2 e1
  refine lv_istore (lv' := [(6, .int (mk_amountOf t (xs (nI i + 1).toNatClampNeg))), (5, .int (zk_amountOf c0 ou (xs (nI i + 1).toNatClampNeg))), (4, .int (nI i)), (0, .ref b), (1, .ref (a 0)), (2, .ref (a 18)), (3, .ref (a 17))]) hx hb dL_law_604 hl (by decide) rfl (fun ls hl => ?_)
  refine lv_aload_n hx hb dL_law_606 rfl (lv_at hl 5 rfl) ?_
  refine z_callV (As := []) (rest := []) (wr := zLW G a c1 o1) (w1 := fun _ : Unit => zMW G a t1) (wj := fun _ : Unit => zLW G a c1 o1 ++ zMW G a t1) (ci := 4) (q0 := 18) F (q_M_thrown l G a t1) gL_law_X4_thrown rfl rfl rfl zd_X4_thrown ⟨Nat.le_of_ble_eq_true rfl, Nat.le_of_ble_eq_true rfl⟩ rfl rfl (Nat.le_of_ble_eq_true rfl) dL_law_607 ⟨by show cells + 1 + 0 + 0 ≤ 601024; omega, by show slots + 6 + 0 + 0 ≤ 7293034; omega⟩ hK hP hD hS hA hl.1 rfl rfl [18, 19, 20, 21, 22, 23, 24, 25, 26, 27] [0, 1, 2, 3, 4, 5, 6, 7, 8, 9, 10, 11, 12, 13, 14, 15, 16, 17] [0, 1, 2, 3, 4, 5, 6, 7, 8, 9, 10, 11, 12, 13, 14, 15, 16, 17, 18, 19, 20, 21, 22, 23, 24, 25, 26, 27] rfl rfl rfl rfl (by decide) rfl (fun _ => rfl) (fun _ H locs hP hD hS => ?_)
  have hP : va_P G.1 vwCl (zLW G a c1 o1 ++ zMW G a t1) H := hP
  have hD : va_D (fun q => s.heap.size ≤ q) (zLW G a c1 o1 ++ zMW G a t1) := hD
  refine lv_iload hx hb dL_law_610 (lv_at hl 1 rfl) ?_
  refine lv_icmp_eq (tgt := 617) hx hb dL_law_612 (by decide) (fun _ => ?_) (fun z => absurd e1 z)
  refine lv_iload hx hb dL_law_617 (lv_at hl 1 rfl) ?_
  refine lv_if_ne (tgt := 634) hx hb dL_law_619 (by decide) (fun _ => ?_) (fun z0 => ?_)
  · refine lv_goto (tgt := 1554) hx hb dL_law_634 (by decide) ?_
    refine W.widen (k := cells + 1) (n := slots + 12) (by omega) (by omega) ?_
    exact kk c1 t1 o1 H locs ls hR2 hP hD hS (lv_sub hl [2, 3, 4, 5, 6] rfl)
  · refine lv_aload_n hx hb dL_law_622 rfl (lv_at hl 6 rfl) ?_
    refine lv_iconst (v := (0 : Int32)) hx hb dL_law_623 (by decide) ?_
    refine va_lald hx hb hK.1 hP 17 2 rfl rfl (vp_in_nI (n := 0) (N := 1) (by decide) (by decide)) dL_law_624 ?_
    refine lv_iload hx hb dL_law_625 (lv_at hl 0 rfl) ?_
    refine lv_i2l (v := (mk_amountOf t (xs (nI i + 1).toNatClampNeg)).toInt64) hx hb dL_law_627 rfl ?_
    refine W.lcmp hx hb dL_law_628 ?_
    refine lv_if_eq (tgt := 634) hx hb dL_law_629 (by decide) (fun _ => ?_) (fun z => absurd ((lg_cmp_eq _ _).mpr (e2 z0)) z)
    refine lv_goto (tgt := 1554) hx hb dL_law_634 (by decide) ?_
    refine W.widen (k := cells + 1) (n := slots + 12) (by omega) (by omega) ?_
    exact kk c1 t1 o1 H locs ls hR2 hP hD hS (lv_sub hl [2, 3, 4, 5, 6] rfl)
set_option maxHeartbeats 4000000 in
set_option maxRecDepth 100000 in
theorem k_isEmpty {p : Program} {l : Launch} {e : Env} {s : State} {m : MethodId} {below : List Frame} {meth : Method} {c : Code} {b L : Nat} {xs : Nat → Int32} {G : zG} {a : Nat → Nat} {Q : State → Prop} (F : CallFix p m c cL_law 9 s #[.ref b] wsL_law RL) (hst : l.stackTraces = false) (hK : zK G s) (hZ : zZ (fun q => s.heap.size ≤ q) s s.heap) (hX : va_X b L xs s s.heap) (hbl : b < s.heap.size) {cells slots : Nat} (hc : cells + 1 ≤ 601024) (hsl : slots + 12 ≤ 7293034) {i : Nat} (hi : i + 4 ≤ L) (hL : L ≤ 2048) {c0 : zS} {t : zM} {ou : Nat → Int64} (hR : zRel c0 t) {H : Heap} {locs : List Loc} {ls : Array Slot} (hP : va_P G.1 vwCl (zLW G a c0 ou ++ zMW G a t) H) (hD : va_D (fun q => s.heap.size ≤ q) (zLW G a c0 ou ++ zMW G a t)) (hS : va_S (fun q => s.heap.size ≤ q) s.heap H locs) (hl : lv_has ls 9 [(4, .int (nI i)), (0, .ref b), (1, .ref (a 0)), (2, .ref (a 18)), (3, .ref (a 17))])
    (kk : ∀ (c0 : zS) (t : zM) (ou : Nat → Int64) (H : Heap) (locs : List Loc) (ls : Array Slot), zRel c0 t → va_P G.1 vwCl (zLW G a c0 ou ++ zMW G a t) H → va_D (fun q => s.heap.size ≤ q) (zLW G a c0 ou ++ zMW G a t) → va_S (fun q => s.heap.size ≤ q) s.heap H locs → lv_has ls 9 [(4, .int (nI i)), (0, .ref b), (1, .ref (a 0)), (2, .ref (a 18)), (3, .ref (a 17))] → W p l e room_1 s m #[.ref b] below meth c H locs (cells + 1) (slots + 12) Q (F0 m 1554 ls [])) :
    W p l e room_1 s m #[.ref b] below meth c H locs cells slots Q (F0 m 637 ls []) := by
  obtain ⟨hx, hb, hml, hown, hts⟩ := id F
  have hA : ∀ q : Nat, s.heap.size ≤ q → (fun q : Nat => s.heap.size ≤ q) q := fun _ h => h
  have hbA : ¬ (fun q : Nat => s.heap.size ≤ q) b := Nat.not_le.mpr hbl
  have v1 : vp_in (nI i + 1) L := by
    rw [show (1 : Int32) = nI 1 from rfl, nI_add]; exact vp_in_nI (by omega) (by omega)
  obtain ⟨z1, z2, ⟨e1, e2⟩, hR2⟩ := zo_isEmpty hR ou (xs (nI i + 1).toNatClampNeg)
  have hbz := zb_isEmpty t (xs (nI i + 1).toNatClampNeg)
  refine lv_aload_n hx hb dL_law_637 rfl (lv_at hl 2 rfl) ?_
  refine lv_aload_n hx hb dL_law_638 rfl (lv_at hl 1 rfl) ?_
  refine lv_iload hx hb dL_law_639 (lv_at hl 0 rfl) ?_
  refine lv_iconst (v := (1 : Int32)) hx hb dL_law_641 (by decide) ?_
  refine lv_iadd hx hb dL_law_642 ?_
  refine va_sld hx hb hX hbl hbA hS v1 dL_law_643 ?_
  refine lv_aload_n hx hb dL_law_644 rfl (lv_at hl 4 rfl) ?_
  refine z_callSW (As := [.ref (a 0), .int (xs (nI i + 1).toNatClampNeg), .ref (a 17)]) (rest := []) (wr := zMW G a t) (w1 := fun _ : Unit => zLW G a (zS_isEmpty c0 ou (xs (nI i + 1).toNatClampNeg)) (zO_isEmpty c0 ou (xs (nI i + 1).toNatClampNeg))) (wj := fun _ : Unit => zLW G a (zS_isEmpty c0 ou (xs (nI i + 1).toNatClampNeg)) (zO_isEmpty c0 ou (xs (nI i + 1).toNatClampNeg)) ++ zMW G a t) F (q_L_isEmpty l G a c0 ou (xs (nI i + 1).toNatClampNeg) z1 hst) gL_law_L_isEmpty rfl rfl rfl zd_L_isEmpty ⟨Nat.le_of_ble_eq_true rfl, Nat.le_of_ble_eq_true rfl⟩ rfl rfl (Nat.le_of_ble_eq_true rfl) dL_law_645 ⟨by show cells + 1 ≤ 601024; omega, by show slots + 6 ≤ 7293034; omega⟩ hK hZ hP hD hS hA hl.1 [0, 1, 2, 3, 4, 5, 6, 7, 8, 9, 10, 11, 12, 13, 14, 15, 16, 17] [18, 19, 20, 21, 22, 23, 24, 25, 26, 27] [10, 11, 12, 13, 14, 15, 16, 17, 18, 19, 20, 21, 22, 23, 24, 25, 26, 27, 0, 1, 2, 3, 4, 5, 6, 7, 8, 9] rfl rfl rfl rfl (by decide) rfl (fun _ => rfl) (fun _ H locs hP hD hS => ?_)
  have hP : va_P G.1 vwCl (zLW G a (zS_isEmpty c0 ou (xs (nI i + 1).toNatClampNeg)) (zO_isEmpty c0 ou (xs (nI i + 1).toNatClampNeg)) ++ zMW G a t) H := hP
  have hD : va_D (fun q => s.heap.size ≤ q) (zLW G a (zS_isEmpty c0 ou (xs (nI i + 1).toNatClampNeg)) (zO_isEmpty c0 ou (xs (nI i + 1).toNatClampNeg)) ++ zMW G a t) := hD
  generalize zS_isEmpty c0 ou (xs (nI i + 1).toNatClampNeg) = c1 at hP hD hR2
  generalize zO_isEmpty c0 ou (xs (nI i + 1).toNatClampNeg) = o1 at hP hD e2
  refine lv_istore (lv' := [(5, .int (zk_isEmpty c0 ou (xs (nI i + 1).toNatClampNeg))), (4, .int (nI i)), (0, .ref b), (1, .ref (a 0)), (2, .ref (a 18)), (3, .ref (a 17))]) hx hb dL_law_648 hl (by decide) rfl (fun ls hl => ?_)
  refine lv_aload_n hx hb dL_law_650 rfl (lv_at hl 4 rfl) ?_
  refine lv_aload_n hx hb dL_law_651 rfl (lv_at hl 2 rfl) ?_
  refine lv_iload hx hb dL_law_652 (lv_at hl 1 rfl) ?_
  refine lv_iconst (v := (1 : Int32)) hx hb dL_law_654 (by decide) ?_
  refine lv_iadd hx hb dL_law_655 ?_
  refine va_sld hx hb hX hbl hbA hS v1 dL_law_656 ?_
  refine z_callV (As := [.int (xs (nI i + 1).toNatClampNeg)]) (rest := []) (wr := zLW G a c1 o1) (w1 := fun _ : Unit => zMW G a (zM_isEmpty t (xs (nI i + 1).toNatClampNeg))) (wj := fun _ : Unit => zLW G a c1 o1 ++ zMW G a (zM_isEmpty t (xs (nI i + 1).toNatClampNeg))) (ci := 4) (q0 := 18) F (q_M_isEmpty l G a t (xs (nI i + 1).toNatClampNeg) z2) gL_law_X4_isEmpty rfl rfl rfl zd_X4_isEmpty ⟨Nat.le_of_ble_eq_true rfl, Nat.le_of_ble_eq_true rfl⟩ rfl rfl (Nat.le_of_ble_eq_true rfl) dL_law_657 ⟨by show cells + 1 + 0 ≤ 601024; omega, by show slots + 6 + 0 ≤ 7293034; omega⟩ hK hP hD hS hA hl.1 rfl rfl [18, 19, 20, 21, 22, 23, 24, 25, 26, 27] [0, 1, 2, 3, 4, 5, 6, 7, 8, 9, 10, 11, 12, 13, 14, 15, 16, 17] [0, 1, 2, 3, 4, 5, 6, 7, 8, 9, 10, 11, 12, 13, 14, 15, 16, 17, 18, 19, 20, 21, 22, 23, 24, 25, 26, 27] rfl rfl rfl rfl (by decide) rfl (fun _ => rfl) (fun _ H locs hP hD hS => ?_)
  have hP : va_P G.1 vwCl (zLW G a c1 o1 ++ zMW G a (zM_isEmpty t (xs (nI i + 1).toNatClampNeg))) H := hP
  have hD : va_D (fun q => s.heap.size ≤ q) (zLW G a c1 o1 ++ zMW G a (zM_isEmpty t (xs (nI i + 1).toNatClampNeg))) := hD
  generalize zM_isEmpty t (xs (nI i + 1).toNatClampNeg) = t1 at hP hD hR2 e1
  refine lv_istore (lv' := [(6, .int (mk_isEmpty t (xs (nI i + 1).toNatClampNeg))), (5, .int (zk_isEmpty c0 ou (xs (nI i + 1).toNatClampNeg))), (4, .int (nI i)), (0, .ref b), (1, .ref (a 0)), (2, .ref (a 18)), (3, .ref (a 17))]) hx hb dL_law_660 hl (by decide) rfl (fun ls hl => ?_)
  refine lv_aload_n hx hb dL_law_662 rfl (lv_at hl 5 rfl) ?_
  refine z_callV (As := []) (rest := []) (wr := zLW G a c1 o1) (w1 := fun _ : Unit => zMW G a t1) (wj := fun _ : Unit => zLW G a c1 o1 ++ zMW G a t1) (ci := 4) (q0 := 18) F (q_M_thrown l G a t1) gL_law_X4_thrown rfl rfl rfl zd_X4_thrown ⟨Nat.le_of_ble_eq_true rfl, Nat.le_of_ble_eq_true rfl⟩ rfl rfl (Nat.le_of_ble_eq_true rfl) dL_law_663 ⟨by show cells + 1 + 0 + 0 ≤ 601024; omega, by show slots + 6 + 0 + 0 ≤ 7293034; omega⟩ hK hP hD hS hA hl.1 rfl rfl [18, 19, 20, 21, 22, 23, 24, 25, 26, 27] [0, 1, 2, 3, 4, 5, 6, 7, 8, 9, 10, 11, 12, 13, 14, 15, 16, 17] [0, 1, 2, 3, 4, 5, 6, 7, 8, 9, 10, 11, 12, 13, 14, 15, 16, 17, 18, 19, 20, 21, 22, 23, 24, 25, 26, 27] rfl rfl rfl rfl (by decide) rfl (fun _ => rfl) (fun _ H locs hP hD hS => ?_)
  have hP : va_P G.1 vwCl (zLW G a c1 o1 ++ zMW G a t1) H := hP
  have hD : va_D (fun q => s.heap.size ≤ q) (zLW G a c1 o1 ++ zMW G a t1) := hD
  refine lv_iload hx hb dL_law_666 (lv_at hl 1 rfl) ?_
  refine lv_icmp_eq (tgt := 673) hx hb dL_law_668 (by decide) (fun _ => ?_) (fun z => absurd e1 z)
  refine lv_iload hx hb dL_law_673 (lv_at hl 1 rfl) ?_
  refine lv_if_ne (tgt := 697) hx hb dL_law_675 (by decide) (fun _ => ?_) (fun z0 => ?_)
  · refine lv_goto (tgt := 1554) hx hb dL_law_697 (by decide) ?_
    refine W.widen (k := cells + 1) (n := slots + 12) (by omega) (by omega) ?_
    exact kk c1 t1 o1 H locs ls hR2 hP hD hS (lv_sub hl [2, 3, 4, 5, 6] rfl)
  · refine lv_aload_n hx hb dL_law_678 rfl (lv_at hl 6 rfl) ?_
    refine lv_iconst (v := (0 : Int32)) hx hb dL_law_679 (by decide) ?_
    refine va_lald hx hb hK.1 hP 17 2 rfl rfl (vp_in_nI (n := 0) (N := 1) (by decide) (by decide)) dL_law_680 ?_
    refine lv_iload hx hb dL_law_681 (lv_at hl 0 rfl) ?_
    refine lv_if_eq (tgt := 690) hx hb dL_law_683 (by decide) (fun y0 => ?_) (fun y0 => ?_)
    · have e3 : o1 0 = (0 : Int64) := by rw [e2 z0, y0]; rfl
      refine lv_lconst (v := (0 : Int64)) hx hb dL_law_690 (by decide) ?_
      refine W.lcmp hx hb dL_law_691 ?_
      refine lv_if_eq (tgt := 697) hx hb dL_law_692 (by decide) (fun _ => ?_) (fun z => absurd ((lg_cmp_eq _ _).mpr e3) z)
      refine lv_goto (tgt := 1554) hx hb dL_law_697 (by decide) ?_
      refine W.widen (k := cells + 1) (n := slots + 12) (by omega) (by omega) ?_
      exact kk c1 t1 o1 H locs ls hR2 hP hD hS (lv_sub hl [2, 3, 4, 5, 6] rfl)
    · have e3 : o1 0 = (1 : Int64) := by rw [e2 z0, hbz.resolve_left y0]; rfl
      refine lv_lconst (v := (1 : Int64)) hx hb dL_law_686 (by decide) ?_
      refine lv_goto (tgt := 691) hx hb dL_law_687 (by decide) ?_
      refine W.lcmp hx hb dL_law_691 ?_
      refine lv_if_eq (tgt := 697) hx hb dL_law_692 (by decide) (fun _ => ?_) (fun z => absurd ((lg_cmp_eq _ _).mpr e3) z)
      refine lv_goto (tgt := 1554) hx hb dL_law_697 (by decide) ?_
      refine W.widen (k := cells + 1) (n := slots + 12) (by omega) (by omega) ?_
      exact kk c1 t1 o1 H locs ls hR2 hP hD hS (lv_sub hl [2, 3, 4, 5, 6] rfl)
set_option maxHeartbeats 4000000 in
set_option maxRecDepth 100000 in
theorem k_isFull {p : Program} {l : Launch} {e : Env} {s : State} {m : MethodId} {below : List Frame} {meth : Method} {c : Code} {b L : Nat} {xs : Nat → Int32} {G : zG} {a : Nat → Nat} {Q : State → Prop} (F : CallFix p m c cL_law 9 s #[.ref b] wsL_law RL) (hst : l.stackTraces = false) (hK : zK G s) (hZ : zZ (fun q => s.heap.size ≤ q) s s.heap) (hX : va_X b L xs s s.heap) (hbl : b < s.heap.size) {cells slots : Nat} (hc : cells + 1 ≤ 601024) (hsl : slots + 12 ≤ 7293034) {i : Nat} (hi : i + 4 ≤ L) (hL : L ≤ 2048) {c0 : zS} {t : zM} {ou : Nat → Int64} (hR : zRel c0 t) {H : Heap} {locs : List Loc} {ls : Array Slot} (hP : va_P G.1 vwCl (zLW G a c0 ou ++ zMW G a t) H) (hD : va_D (fun q => s.heap.size ≤ q) (zLW G a c0 ou ++ zMW G a t)) (hS : va_S (fun q => s.heap.size ≤ q) s.heap H locs) (hl : lv_has ls 9 [(4, .int (nI i)), (0, .ref b), (1, .ref (a 0)), (2, .ref (a 18)), (3, .ref (a 17))])
    (kk : ∀ (c0 : zS) (t : zM) (ou : Nat → Int64) (H : Heap) (locs : List Loc) (ls : Array Slot), zRel c0 t → va_P G.1 vwCl (zLW G a c0 ou ++ zMW G a t) H → va_D (fun q => s.heap.size ≤ q) (zLW G a c0 ou ++ zMW G a t) → va_S (fun q => s.heap.size ≤ q) s.heap H locs → lv_has ls 9 [(4, .int (nI i)), (0, .ref b), (1, .ref (a 0)), (2, .ref (a 18)), (3, .ref (a 17))] → W p l e room_1 s m #[.ref b] below meth c H locs (cells + 1) (slots + 12) Q (F0 m 1554 ls [])) :
    W p l e room_1 s m #[.ref b] below meth c H locs cells slots Q (F0 m 700 ls []) := by
  obtain ⟨hx, hb, hml, hown, hts⟩ := id F
  have hA : ∀ q : Nat, s.heap.size ≤ q → (fun q : Nat => s.heap.size ≤ q) q := fun _ h => h
  have hbA : ¬ (fun q : Nat => s.heap.size ≤ q) b := Nat.not_le.mpr hbl
  have v1 : vp_in (nI i + 1) L := by
    rw [show (1 : Int32) = nI 1 from rfl, nI_add]; exact vp_in_nI (by omega) (by omega)
  obtain ⟨z1, z2, ⟨e1, e2⟩, hR2⟩ := zo_isFull hR ou (xs (nI i + 1).toNatClampNeg)
  have hbz := zb_isFull t (xs (nI i + 1).toNatClampNeg)
  refine lv_aload_n hx hb dL_law_700 rfl (lv_at hl 2 rfl) ?_
  refine lv_aload_n hx hb dL_law_701 rfl (lv_at hl 1 rfl) ?_
  refine lv_iload hx hb dL_law_702 (lv_at hl 0 rfl) ?_
  refine lv_iconst (v := (1 : Int32)) hx hb dL_law_704 (by decide) ?_
  refine lv_iadd hx hb dL_law_705 ?_
  refine va_sld hx hb hX hbl hbA hS v1 dL_law_706 ?_
  refine lv_aload_n hx hb dL_law_707 rfl (lv_at hl 4 rfl) ?_
  refine z_callSW (As := [.ref (a 0), .int (xs (nI i + 1).toNatClampNeg), .ref (a 17)]) (rest := []) (wr := zMW G a t) (w1 := fun _ : Unit => zLW G a (zS_isFull c0 ou (xs (nI i + 1).toNatClampNeg)) (zO_isFull c0 ou (xs (nI i + 1).toNatClampNeg))) (wj := fun _ : Unit => zLW G a (zS_isFull c0 ou (xs (nI i + 1).toNatClampNeg)) (zO_isFull c0 ou (xs (nI i + 1).toNatClampNeg)) ++ zMW G a t) F (q_L_isFull l G a c0 ou (xs (nI i + 1).toNatClampNeg) z1 hst) gL_law_L_isFull rfl rfl rfl zd_L_isFull ⟨Nat.le_of_ble_eq_true rfl, Nat.le_of_ble_eq_true rfl⟩ rfl rfl (Nat.le_of_ble_eq_true rfl) dL_law_708 ⟨by show cells + 1 ≤ 601024; omega, by show slots + 6 ≤ 7293034; omega⟩ hK hZ hP hD hS hA hl.1 [0, 1, 2, 3, 4, 5, 6, 7, 8, 9, 10, 11, 12, 13, 14, 15, 16, 17] [18, 19, 20, 21, 22, 23, 24, 25, 26, 27] [10, 11, 12, 13, 14, 15, 16, 17, 18, 19, 20, 21, 22, 23, 24, 25, 26, 27, 0, 1, 2, 3, 4, 5, 6, 7, 8, 9] rfl rfl rfl rfl (by decide) rfl (fun _ => rfl) (fun _ H locs hP hD hS => ?_)
  have hP : va_P G.1 vwCl (zLW G a (zS_isFull c0 ou (xs (nI i + 1).toNatClampNeg)) (zO_isFull c0 ou (xs (nI i + 1).toNatClampNeg)) ++ zMW G a t) H := hP
  have hD : va_D (fun q => s.heap.size ≤ q) (zLW G a (zS_isFull c0 ou (xs (nI i + 1).toNatClampNeg)) (zO_isFull c0 ou (xs (nI i + 1).toNatClampNeg)) ++ zMW G a t) := hD
  generalize zS_isFull c0 ou (xs (nI i + 1).toNatClampNeg) = c1 at hP hD hR2
  generalize zO_isFull c0 ou (xs (nI i + 1).toNatClampNeg) = o1 at hP hD e2
  refine lv_istore (lv' := [(5, .int (zk_isFull c0 ou (xs (nI i + 1).toNatClampNeg))), (4, .int (nI i)), (0, .ref b), (1, .ref (a 0)), (2, .ref (a 18)), (3, .ref (a 17))]) hx hb dL_law_711 hl (by decide) rfl (fun ls hl => ?_)
  refine lv_aload_n hx hb dL_law_713 rfl (lv_at hl 4 rfl) ?_
  refine lv_aload_n hx hb dL_law_714 rfl (lv_at hl 2 rfl) ?_
  refine lv_iload hx hb dL_law_715 (lv_at hl 1 rfl) ?_
  refine lv_iconst (v := (1 : Int32)) hx hb dL_law_717 (by decide) ?_
  refine lv_iadd hx hb dL_law_718 ?_
  refine va_sld hx hb hX hbl hbA hS v1 dL_law_719 ?_
  refine z_callV (As := [.int (xs (nI i + 1).toNatClampNeg)]) (rest := []) (wr := zLW G a c1 o1) (w1 := fun _ : Unit => zMW G a (zM_isFull t (xs (nI i + 1).toNatClampNeg))) (wj := fun _ : Unit => zLW G a c1 o1 ++ zMW G a (zM_isFull t (xs (nI i + 1).toNatClampNeg))) (ci := 4) (q0 := 18) F (q_M_isFull l G a t (xs (nI i + 1).toNatClampNeg) z2) gL_law_X4_isFull rfl rfl rfl zd_X4_isFull ⟨Nat.le_of_ble_eq_true rfl, Nat.le_of_ble_eq_true rfl⟩ rfl rfl (Nat.le_of_ble_eq_true rfl) dL_law_720 ⟨by show cells + 1 + 0 ≤ 601024; omega, by show slots + 6 + 0 ≤ 7293034; omega⟩ hK hP hD hS hA hl.1 rfl rfl [18, 19, 20, 21, 22, 23, 24, 25, 26, 27] [0, 1, 2, 3, 4, 5, 6, 7, 8, 9, 10, 11, 12, 13, 14, 15, 16, 17] [0, 1, 2, 3, 4, 5, 6, 7, 8, 9, 10, 11, 12, 13, 14, 15, 16, 17, 18, 19, 20, 21, 22, 23, 24, 25, 26, 27] rfl rfl rfl rfl (by decide) rfl (fun _ => rfl) (fun _ H locs hP hD hS => ?_)
  have hP : va_P G.1 vwCl (zLW G a c1 o1 ++ zMW G a (zM_isFull t (xs (nI i + 1).toNatClampNeg))) H := hP
  have hD : va_D (fun q => s.heap.size ≤ q) (zLW G a c1 o1 ++ zMW G a (zM_isFull t (xs (nI i + 1).toNatClampNeg))) := hD
  generalize zM_isFull t (xs (nI i + 1).toNatClampNeg) = t1 at hP hD hR2 e1
  refine lv_istore (lv' := [(6, .int (mk_isFull t (xs (nI i + 1).toNatClampNeg))), (5, .int (zk_isFull c0 ou (xs (nI i + 1).toNatClampNeg))), (4, .int (nI i)), (0, .ref b), (1, .ref (a 0)), (2, .ref (a 18)), (3, .ref (a 17))]) hx hb dL_law_723 hl (by decide) rfl (fun ls hl => ?_)
  refine lv_aload_n hx hb dL_law_725 rfl (lv_at hl 5 rfl) ?_
  refine z_callV (As := []) (rest := []) (wr := zLW G a c1 o1) (w1 := fun _ : Unit => zMW G a t1) (wj := fun _ : Unit => zLW G a c1 o1 ++ zMW G a t1) (ci := 4) (q0 := 18) F (q_M_thrown l G a t1) gL_law_X4_thrown rfl rfl rfl zd_X4_thrown ⟨Nat.le_of_ble_eq_true rfl, Nat.le_of_ble_eq_true rfl⟩ rfl rfl (Nat.le_of_ble_eq_true rfl) dL_law_726 ⟨by show cells + 1 + 0 + 0 ≤ 601024; omega, by show slots + 6 + 0 + 0 ≤ 7293034; omega⟩ hK hP hD hS hA hl.1 rfl rfl [18, 19, 20, 21, 22, 23, 24, 25, 26, 27] [0, 1, 2, 3, 4, 5, 6, 7, 8, 9, 10, 11, 12, 13, 14, 15, 16, 17] [0, 1, 2, 3, 4, 5, 6, 7, 8, 9, 10, 11, 12, 13, 14, 15, 16, 17, 18, 19, 20, 21, 22, 23, 24, 25, 26, 27] rfl rfl rfl rfl (by decide) rfl (fun _ => rfl) (fun _ H locs hP hD hS => ?_)
  have hP : va_P G.1 vwCl (zLW G a c1 o1 ++ zMW G a t1) H := hP
  have hD : va_D (fun q => s.heap.size ≤ q) (zLW G a c1 o1 ++ zMW G a t1) := hD
  refine lv_iload hx hb dL_law_729 (lv_at hl 1 rfl) ?_
  refine lv_icmp_eq (tgt := 736) hx hb dL_law_731 (by decide) (fun _ => ?_) (fun z => absurd e1 z)
  refine lv_iload hx hb dL_law_736 (lv_at hl 1 rfl) ?_
  refine lv_if_ne (tgt := 760) hx hb dL_law_738 (by decide) (fun _ => ?_) (fun z0 => ?_)
  · refine lv_goto (tgt := 1554) hx hb dL_law_760 (by decide) ?_
    refine W.widen (k := cells + 1) (n := slots + 12) (by omega) (by omega) ?_
    exact kk c1 t1 o1 H locs ls hR2 hP hD hS (lv_sub hl [2, 3, 4, 5, 6] rfl)
  · refine lv_aload_n hx hb dL_law_741 rfl (lv_at hl 6 rfl) ?_
    refine lv_iconst (v := (0 : Int32)) hx hb dL_law_742 (by decide) ?_
    refine va_lald hx hb hK.1 hP 17 2 rfl rfl (vp_in_nI (n := 0) (N := 1) (by decide) (by decide)) dL_law_743 ?_
    refine lv_iload hx hb dL_law_744 (lv_at hl 0 rfl) ?_
    refine lv_if_eq (tgt := 753) hx hb dL_law_746 (by decide) (fun y0 => ?_) (fun y0 => ?_)
    · have e3 : o1 0 = (0 : Int64) := by rw [e2 z0, y0]; rfl
      refine lv_lconst (v := (0 : Int64)) hx hb dL_law_753 (by decide) ?_
      refine W.lcmp hx hb dL_law_754 ?_
      refine lv_if_eq (tgt := 760) hx hb dL_law_755 (by decide) (fun _ => ?_) (fun z => absurd ((lg_cmp_eq _ _).mpr e3) z)
      refine lv_goto (tgt := 1554) hx hb dL_law_760 (by decide) ?_
      refine W.widen (k := cells + 1) (n := slots + 12) (by omega) (by omega) ?_
      exact kk c1 t1 o1 H locs ls hR2 hP hD hS (lv_sub hl [2, 3, 4, 5, 6] rfl)
    · have e3 : o1 0 = (1 : Int64) := by rw [e2 z0, hbz.resolve_left y0]; rfl
      refine lv_lconst (v := (1 : Int64)) hx hb dL_law_749 (by decide) ?_
      refine lv_goto (tgt := 754) hx hb dL_law_750 (by decide) ?_
      refine W.lcmp hx hb dL_law_754 ?_
      refine lv_if_eq (tgt := 760) hx hb dL_law_755 (by decide) (fun _ => ?_) (fun z => absurd ((lg_cmp_eq _ _).mpr e3) z)
      refine lv_goto (tgt := 1554) hx hb dL_law_760 (by decide) ?_
      refine W.widen (k := cells + 1) (n := slots + 12) (by omega) (by omega) ?_
      exact kk c1 t1 o1 H locs ls hR2 hP hD hS (lv_sub hl [2, 3, 4, 5, 6] rfl)
