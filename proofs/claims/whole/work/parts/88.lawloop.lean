/-! the law's loop -/
theorem z_andn (a b : Nat) : nI a &&& nI b = nI (a &&& b) := by
  apply Int32.toBitVec_inj.1
  show BitVec.ofNat 32 a &&& BitVec.ofNat 32 b = BitVec.ofNat 32 (a &&& b)
  apply BitVec.eq_of_getLsbD_eq
  intro i hi
  simp [hi]
theorem z_and63 (x : Int32) : ∃ k, k < 64 ∧ x &&& 63 = nI k := by
  have e : x = nI x.toBitVec.toNat := by
    apply Int32.toBitVec_inj.1
    show x.toBitVec = BitVec.ofNat 32 x.toBitVec.toNat
    simp
  have h : ∀ k, nI k &&& 63 = nI (k % 64) := by
    intro k
    show nI k &&& nI 63 = _
    rw [z_andn, show (63 : Nat) = 2 ^ 6 - 1 from rfl, Nat.and_two_pow_sub_one_eq_mod]
  refine ⟨x.toBitVec.toNat % 64, Nat.mod_lt _ (by omega), ?_⟩
  rw [← h, ← e]
theorem z_exit {L i : Nat} (hL : L ≤ 2048) (hi : i < 4096) : (Int32.ofNat L - 4 < nI i) ↔ L < i + 4 := by
  show (nI L - nI 4 < nI i) ↔ _
  rw [Int32.lt_iff_toInt_lt, pk_sub_toInt (by omega) (by omega), nI_toInt (by omega)]
  omega
theorem z_33 {k : Nat} : k = 0 ∨ k = 1 ∨ k = 2 ∨ k = 3 ∨ k = 4 ∨ k = 5 ∨ k = 6 ∨ k = 7 ∨ k = 8 ∨ k = 9 ∨ k = 10 ∨ k = 11 ∨ k = 12 ∨ k = 13 ∨ k = 14 ∨ k = 15 ∨ k = 16 ∨ k = 17 ∨ k = 18 ∨ k = 19 ∨ k = 20 ∨ k = 21 ∨ k = 22 ∨ k = 23 ∨ k = 24 ∨ k = 25 ∨ k = 26 ∨ k = 27 ∨ k = 28 ∨ k = 29 ∨ k = 30 ∨ k = 31 ∨ k = 32 ∨ 33 ≤ k := by omega
set_option maxHeartbeats 4000000 in
set_option maxRecDepth 100000 in
theorem law_step {p : Program} {l : Launch} {e : Env} {s : State} {m : MethodId} {below : List Frame} {meth : Method} {c : Code} {b L : Nat} {xs : Nat → Int32} {G : zG} {a : Nat → Nat} {Q : State → Prop} (F : CallFix p m c cL_law 9 s #[.ref b] wsL_law RL) (hst : l.stackTraces = false) (hK : zK G s) (hZ : zZ (fun q => s.heap.size ≤ q) s s.heap) (hX : va_X b L xs s s.heap) (hbl : b < s.heap.size) {cells slots : Nat} (hc : cells + 1 ≤ 601024) (hsl : slots + 12 ≤ 7293034) {i : Nat} (hi : i + 4 ≤ L) (hL : L ≤ 2048) {c0 : zS} {t : zM} {ou : Nat → Int64} (hR : zRel c0 t) {H : Heap} {locs : List Loc} {ls : Array Slot} (hP : va_P G.1 vwCl (zLW G a c0 ou ++ zMW G a t) H) (hD : va_D (fun q => s.heap.size ≤ q) (zLW G a c0 ou ++ zMW G a t)) (hS : va_S (fun q => s.heap.size ≤ q) s.heap H locs) (hl : lv_has ls 9 [(4, .int (nI i)), (0, .ref b), (1, .ref (a 0)), (2, .ref (a 18)), (3, .ref (a 17))])
    (kk : ∀ (c0 : zS) (t : zM) (ou : Nat → Int64) (H : Heap) (locs : List Loc) (ls : Array Slot), zRel c0 t → va_P G.1 vwCl (zLW G a c0 ou ++ zMW G a t) H → va_D (fun q => s.heap.size ≤ q) (zLW G a c0 ou ++ zMW G a t) → va_S (fun q => s.heap.size ≤ q) s.heap H locs → lv_has ls 9 [(4, .int (nI i)), (0, .ref b), (1, .ref (a 0)), (2, .ref (a 18)), (3, .ref (a 17))] → W p l e room_1 s m #[.ref b] below meth c H locs (cells + 1) (slots + 12) Q (F0 m 1554 ls [])) :
    W p l e room_1 s m #[.ref b] below meth c H locs cells slots Q (F0 m 32 ls []) := by
  obtain ⟨hx, hb, hml, hown, hts⟩ := id F
  have hA : ∀ q : Nat, s.heap.size ≤ q → (fun q : Nat => s.heap.size ≤ q) q := fun _ h => h
  have hbA : ¬ (fun q : Nat => s.heap.size ≤ q) b := Nat.not_le.mpr hbl
  have v0 : vp_in (nI i) L := vp_in_nI (by omega) (by omega)
  refine lv_aload_n hx hb dL_law_32 rfl (lv_at hl 1 rfl) ?_
  refine lv_iload hx hb dL_law_33 (lv_at hl 0 rfl) ?_
  refine va_sld hx hb hX hbl hbA hS v0 dL_law_35 ?_
  refine lv_bipush (v := (63 : Int32)) hx hb dL_law_36 (by decide) ?_
  refine lv_iand hx hb dL_law_38 ?_
  obtain ⟨k, hk, ek⟩ := z_and63 (xs (nI i).toNatClampNeg)
  rw [ek]
  rcases z_33 (k := k) with rfl | rfl | rfl | rfl | rfl | rfl | rfl | rfl | rfl | rfl | rfl | rfl | rfl | rfl | rfl | rfl | rfl | rfl | rfl | rfl | rfl | rfl | rfl | rfl | rfl | rfl | rfl | rfl | rfl | rfl | rfl | rfl | rfl | h
  · refine lv_tableIn (off := 145) (tgt := 184) hx hb dL_law_39 (by decide) (by decide) (by decide +kernel) (by decide) ?_
    exact k_layOut F hst hK hZ hX hbl hc hsl hi hL hR hP hD hS hl kk
  · refine lv_tableIn (off := 225) (tgt := 264) hx hb dL_law_39 (by decide) (by decide) (by decide +kernel) (by decide) ?_
    exact k_fill F hst hK hZ hX hbl hc hsl hi hL hR hP hD hS hl kk
  · refine lv_tableIn (off := 281) (tgt := 320) hx hb dL_law_39 (by decide) (by decide) (by decide +kernel) (by decide) ?_
    exact k_empty F hst hK hZ hX hbl hc hsl hi hL hR hP hD hS hl kk
  · refine lv_tableIn (off := 337) (tgt := 376) hx hb dL_law_39 (by decide) (by decide) (by decide +kernel) (by decide) ?_
    exact k_pour F hst hK hZ hX hbl hc hsl hi hL hR hP hD hS hl kk
  · refine lv_tableIn (off := 405) (tgt := 444) hx hb dL_law_39 (by decide) (by decide) (by decide +kernel) (by decide) ?_
    exact k_follow F hst hK hZ hX hbl hc hsl hi hL hR hP hD hS hl kk
  · refine lv_tableIn (off := 473) (tgt := 512) hx hb dL_law_39 (by decide) (by decide) (by decide +kernel) (by decide) ?_
    exact k_jars F hst hK hZ hX hbl hc hsl hi hL hR hP hD hS hl kk
  · refine lv_tableIn (off := 486) (tgt := 525) hx hb dL_law_39 (by decide) (by decide) (by decide +kernel) (by decide) ?_
    exact k_volumeOf F hst hK hZ hX hbl hc hsl hi hL hR hP hD hS hl kk
  · refine lv_tableIn (off := 542) (tgt := 581) hx hb dL_law_39 (by decide) (by decide) (by decide +kernel) (by decide) ?_
    exact k_amountOf F hst hK hZ hX hbl hc hsl hi hL hR hP hD hS hl kk
  · refine lv_tableIn (off := 598) (tgt := 637) hx hb dL_law_39 (by decide) (by decide) (by decide +kernel) (by decide) ?_
    exact k_isEmpty F hst hK hZ hX hbl hc hsl hi hL hR hP hD hS hl kk
  · refine lv_tableIn (off := 661) (tgt := 700) hx hb dL_law_39 (by decide) (by decide) (by decide +kernel) (by decide) ?_
    exact k_isFull F hst hK hZ hX hbl hc hsl hi hL hR hP hD hS hl kk
  · refine lv_tableIn (off := 724) (tgt := 763) hx hb dL_law_39 (by decide) (by decide) (by decide +kernel) (by decide) ?_
    exact k_heldInAll F hst hK hZ hX hbl hc hsl hi hL hR hP hD hS hl kk
  · refine lv_tableIn (off := 737) (tgt := 776) hx hb dL_law_39 (by decide) (by decide) (by decide +kernel) (by decide) ?_
    exact k_acts F hst hK hZ hX hbl hc hsl hi hL hR hP hD hS hl kk
  · refine lv_tableIn (off := 750) (tgt := 789) hx hb dL_law_39 (by decide) (by decide) (by decide +kernel) (by decide) ?_
    exact k_pouredInAll F hst hK hZ hX hbl hc hsl hi hL hR hP hD hS hl kk
  · refine lv_tableIn (off := 763) (tgt := 802) hx hb dL_law_39 (by decide) (by decide) (by decide +kernel) (by decide) ?_
    exact k_spilledInAll F hst hK hZ hX hbl hc hsl hi hL hR hP hD hS hl kk
  · refine lv_tableIn (off := 776) (tgt := 815) hx hb dL_law_39 (by decide) (by decide) (by decide +kernel) (by decide) ?_
    exact k_takenInAll F hst hK hZ hX hbl hc hsl hi hL hR hP hD hS hl kk
  · refine lv_tableIn (off := 789) (tgt := 828) hx hb dL_law_39 (by decide) (by decide) (by decide +kernel) (by decide) ?_
    exact k_isThere F hst hK hZ hX hbl hc hsl hi hL hR hP hD hS hl kk
  · refine lv_tableIn (off := 852) (tgt := 891) hx hb dL_law_39 (by decide) (by decide) (by decide +kernel) (by decide) ?_
    exact k_leastActs F hst hK hZ hX hbl hc hsl hi hL hR hP hD hS hl kk
  · refine lv_tableIn (off := 908) (tgt := 947) hx hb dL_law_39 (by decide) (by decide) (by decide +kernel) (by decide) ?_
    exact k_leastActsIn F hst hK hZ hX hbl hc hsl hi hL hR hP hD hS hl kk
  · refine lv_tableIn (off := 976) (tgt := 1015) hx hb dL_law_39 (by decide) (by decide) (by decide +kernel) (by decide) ?_
    exact k_nextAct F hst hK hZ hX hbl hc hsl hi hL hR hP hD hS hl kk
  · refine lv_tableIn (off := 1032) (tgt := 1071) hx hb dL_law_39 (by decide) (by decide) (by decide +kernel) (by decide) ?_
    exact k_amountsToHave F hst hK hZ hX hbl hc hsl hi hL hR hP hD hS hl kk
  · refine lv_tableIn (off := 1045) (tgt := 1084) hx hb dL_law_39 (by decide) (by decide) (by decide +kernel) (by decide) ?_
    exact k_statesToReach F hst hK hZ hX hbl hc hsl hi hL hR hP hD hS hl kk
  · refine lv_tableIn (off := 1058) (tgt := 1097) hx hb dL_law_39 (by decide) (by decide) (by decide +kernel) (by decide) ?_
    exact k_statesAway F hst hK hZ hX hbl hc hsl hi hL hR hP hD hS hl kk
  · refine lv_tableIn (off := 1114) (tgt := 1153) hx hb dL_law_39 (by decide) (by decide) (by decide +kernel) (by decide) ?_
    exact k_farthest F hst hK hZ hX hbl hc hsl hi hL hR hP hD hS hl kk
  · refine lv_tableIn (off := 1127) (tgt := 1166) hx hb dL_law_39 (by decide) (by decide) (by decide +kernel) (by decide) ?_
    exact k_candidates F hst hK hZ hX hbl hc hsl hi hL hR hP hD hS hl kk
  · refine lv_tableIn (off := 1140) (tgt := 1179) hx hb dL_law_39 (by decide) (by decide) (by decide +kernel) (by decide) ?_
    exact k_mayBe F hst hK hZ hX hbl hc hsl hi hL hR hP hD hS hl kk
  · refine lv_tableIn (off := 1215) (tgt := 1254) hx hb dL_law_39 (by decide) (by decide) (by decide +kernel) (by decide) ?_
    exact k_isKnown F hst hK hZ hX hbl hc hsl hi hL hR hP hD hS hl kk
  · refine lv_tableIn (off := 1278) (tgt := 1317) hx hb dL_law_39 (by decide) (by decide) (by decide +kernel) (by decide) ?_
    exact k_guess F hst hK hZ hX hbl hc hsl hi hL hR hP hD hS hl kk
  · refine lv_tableIn (off := 1353) (tgt := 1392) hx hb dL_law_39 (by decide) (by decide) (by decide +kernel) (by decide) ?_
    exact k_guesses F hst hK hZ hX hbl hc hsl hi hL hR hP hD hS hl kk
  · refine lv_tableIn (off := 1366) (tgt := 1405) hx hb dL_law_39 (by decide) (by decide) (by decide +kernel) (by decide) ?_
    exact k_wrongGuesses F hst hK hZ hX hbl hc hsl hi hL hR hP hD hS hl kk
  · refine lv_tableIn (off := 1379) (tgt := 1418) hx hb dL_law_39 (by decide) (by decide) (by decide +kernel) (by decide) ?_
    exact k_leftAtMost F hst hK hZ hX hbl hc hsl hi hL hR hP hD hS hl kk
  · refine lv_tableIn (off := 1447) (tgt := 1486) hx hb dL_law_39 (by decide) (by decide) (by decide +kernel) (by decide) ?_
    exact k_bestPour F hst hK hZ hX hbl hc hsl hi hL hR hP hD hS hl kk
  · refine lv_tableIn (off := 1460) (tgt := 1499) hx hb dL_law_39 (by decide) (by decide) (by decide +kernel) (by decide) ?_
    exact k_meanAmount F hst hK hZ hX hbl hc hsl hi hL hR hP hD hS hl kk
  · refine lv_tableIn (off := 1501) (tgt := 1540) hx hb dL_law_39 (by decide) (by decide) (by decide +kernel) (by decide) ?_
    exact k_digest F hst hK hZ hX hbl hc hsl hi hL hR hP hD hS hl kk
  · refine lv_tableOut (tgt := 1554) hx hb dL_law_39 (Or.inr (by rw [nI_toInt (by omega)]; omega)) (by decide) ?_
    refine W.widen (k := cells + 1) (n := slots + 12) (by omega) (by omega) ?_
    exact kk c0 t ou H locs ls hR hP hD hS hl
set_option maxHeartbeats 4000000 in
set_option maxRecDepth 100000 in
theorem law_loop {p : Program} {l : Launch} {e : Env} {s : State} {m : MethodId} {below : List Frame} {meth : Method} {c : Code} {b L : Nat} {xs : Nat → Int32} {G : zG} {a : Nat → Nat} (F : CallFix p m c cL_law 9 s #[.ref b] wsL_law RL) (hst : l.stackTraces = false) (hr : meth.sig.returnType = ret) (hlocks : meth.locks = false) (hK : zK G s) (hZ : zZ (fun q => s.heap.size ≤ q) s s.heap) (hX : va_X b L xs s s.heap) (hbl : b < s.heap.size) (hL : L ≤ 2048) : ∀ (n i cells slots : Nat) (c0 : zS) (t : zM) (ou : Nat → Int64) (H : Heap) (locs : List Loc) (ls : Array Slot), L < i + 4 * n + 4 → i ≤ L → cells + n ≤ 601024 → slots + 12 * n ≤ 7293034 → zRel c0 t → va_P G.1 vwCl (zLW G a c0 ou ++ zMW G a t) H → va_D (fun q => s.heap.size ≤ q) (zLW G a c0 ou ++ zMW G a t) → va_S (fun q => s.heap.size ≤ q) s.heap H locs → lv_has ls 9 [(4, .int (nI i)), (0, .ref b), (1, .ref (a 0)), (2, .ref (a 18)), (3, .ref (a 17))] → W p l e room_1 s m #[.ref b] below meth c H locs cells slots (lw_Z below #[Value.ref b] s) (F0 m 23 ls []) := by
  obtain ⟨hx, hb, hml, hown, hts⟩ := id F
  have hbA : ¬ (fun q : Nat => s.heap.size ≤ q) b := Nat.not_le.mpr hbl
  intro n
  induction n with
  | zero =>
    intro i cells slots c0 t ou H locs ls h1 h2 h3 h4 hR hP hD hS hl
    refine lv_iload hx hb dL_law_23 (lv_at hl 0 rfl) ?_
    refine lv_aload_n hx hb dL_law_25 rfl (lv_at hl 1 rfl) ?_
    refine va_slen hx hb hX hbl hbA hS dL_law_26 ?_
    refine lv_iconst (v := (4 : Int32)) hx hb dL_law_27 (by decide) ?_
    refine lv_isub hx hb dL_law_28 ?_
    refine lv_icmp_gt (tgt := 1560) hx hb dL_law_29 (by decide) (fun _ => ?_) (fun z => absurd ((z_exit hL (by omega)).mpr (by omega)) z)
    refine lv_iconst (v := (1 : Int32)) hx hb dL_law_1560 (by decide) ?_
    refine va_forget (fun q hq => hS.2.2 q hq) ?_
    refine W.widen (k := 601024) (n := 7293034) (by omega) (by omega) ?_
    refine W.base ?_
    exact lw_ret (Drawn.sameBut.refl s.drawn lw_cs) hx hb hr hlocks dL_law_1561
  | succ n ih =>
    intro i cells slots c0 t ou H locs ls h1 h2 h3 h4 hR hP hD hS hl
    refine lv_iload hx hb dL_law_23 (lv_at hl 0 rfl) ?_
    refine lv_aload_n hx hb dL_law_25 rfl (lv_at hl 1 rfl) ?_
    refine va_slen hx hb hX hbl hbA hS dL_law_26 ?_
    refine lv_iconst (v := (4 : Int32)) hx hb dL_law_27 (by decide) ?_
    refine lv_isub hx hb dL_law_28 ?_
    refine lv_icmp_gt (tgt := 1560) hx hb dL_law_29 (by decide) (fun _ => ?_) (fun z => ?_)
    · refine lv_iconst (v := (1 : Int32)) hx hb dL_law_1560 (by decide) ?_
      refine va_forget (fun q hq => hS.2.2 q hq) ?_
      refine W.widen (k := 601024) (n := 7293034) (by omega) (by omega) ?_
      refine W.base ?_
      exact lw_ret (Drawn.sameBut.refl s.drawn lw_cs) hx hb hr hlocks dL_law_1561
    · have hi : i + 4 ≤ L := by
        rcases Nat.lt_or_ge L (i + 4) with q | q
        · exact absurd ((z_exit hL (by omega)).mpr q) z
        · exact q
      refine law_step (a := a) (c0 := c0) (t := t) (ou := ou) F hst hK hZ hX hbl (by omega) (by omega) hi hL hR hP hD hS hl ?_
      intro c0 t ou H locs ls hR hP hD hS hl
      refine lv_iinc (v := nI (i + 4)) (lv' := [(4, .int (nI (i + 4))), (0, .ref b), (1, .ref (a 0)), (2, .ref (a 18)), (3, .ref (a 17))]) hx hb dL_law_1554 hl (k := 0) rfl (nI_add i 4) (by decide) rfl (fun ls hl => ?_)
      refine lv_goto (tgt := 23) hx hb dL_law_1557 (by decide) ?_
      exact ih (i + 4) (cells + 1) (slots + 12) c0 t ou H locs ls (by omega) hi (by omega) (by omega) hR hP hD hS hl
