/-! the law's best pour, and its ways to an amount -/
theorem zd_L_done9 : yL_done.cls ≠ "java/lang/invoke/MethodHandle" ∧ yL_done.cls ≠ "java/lang/invoke/VarHandle" ∧ (parseMethodDescriptor yL_done.desc).map (fun d => d.parameters.length) = some 2 := zd_L_done
set_option maxHeartbeats 4000000 in
set_option maxRecDepth 100000 in
theorem lw_best {p : Program} {l : Launch} {e : Env} {s : State} {m : MethodId} {below : List Frame} {meth : Method} {c9 : Code} {b L : Nat} {xs : Nat → Int32} {G : zG} {a : Nat → Nat} {Q : State → Prop} (F : CallFix p m c9 cL_law 19 s #[.ref b] wsL_law RL) (hst : l.stackTraces = false) (hK : zK G s) (hZ : zZ (fun q => s.heap.size ≤ q) s s.heap) (hX : va_X b L xs s s.heap) (hbl : b < s.heap.size) (hL9 : L ≤ 260) (ht2 : ∀ w ∈ lw_tbl, w.before #[Value.ref b] s = true) {K0 : Nat} {V X : Nat → Nat} {C : zCs} {t : zU} {c : zS} {sh sv sa sc sl : Nat} {rows : zRows} (hL : zLok K0 V X C t c (sv, sa, sc, sl, rows)) (hKb : K0 ≤ 900) {cells0 slots0 : Nat} (hcs : cells0 + 2189 ≤ 732097 ∧ slots0 + 9483 ≤ 6905176) {tm : Nat} {x : Int32} {H : Heap} {locs : List Loc} {ls : Array Slot} (hP : va_P G.1 vwCl (zCW3 G a c ++ (([(sh, .inr (4, [.ref sv, .ref sa, .ref sc, .ref sl])), (sv, .inl (G.2.1, zn V, .inl (zar (zn V) V))), (sa, .inl (G.2.1, zn V, .inl (zar (zn V) X))), (sc, .inl (G.2.1, 6, .inl (zkt t))), (sl, .inl (G.2.2.1, rows.length, .inr (.inr (.inr (.inr (zlf rows))))))] : va_W) ++ rows.map (zrc G (zn V)))) H) (hD : va_D (fun q : Nat => s.heap.size ≤ q) (zCW3 G a c ++ (([(sh, .inr (4, [.ref sv, .ref sa, .ref sc, .ref sl])), (sv, .inl (G.2.1, zn V, .inl (zar (zn V) V))), (sa, .inl (G.2.1, zn V, .inl (zar (zn V) X))), (sc, .inl (G.2.1, 6, .inl (zkt t))), (sl, .inl (G.2.2.1, rows.length, .inr (.inr (.inr (.inr (zlf rows))))))] : va_W) ++ rows.map (zrc G (zn V))))) (hS : va_S (fun q : Nat => s.heap.size ≤ q) s.heap H locs) (hl : lv_has ls 19 [(14, .int (zBq (zn V) C 9 6 (-1) (zNm C 729)).1), (13, .int (nI ((zBq (zn V) C 9 6 (-1) (zNm C 729)).2))), (9, .int (nI (zNm C 729))), (5, .long (zDig V X C t)), (3, .int (nI tm)), (4, .int x), (0, .ref b), (1, .ref (a 0)), (2, .ref sh)])
    (kk : (∀ (K : Nat) (X : Nat → Nat) (C : zCs) (t : zU) (c : zS) (sv sa sc sl : Nat) (rows : zRows) (cells slots : Nat) (H : Heap) (locs : List Loc) (ls : Array Slot), zLok K V X C t c (sv, sa, sc, sl, rows) → K ≤ K0 + 1 → cells ≤ cells0 + 2189 → slots ≤ slots0 + 9483 → va_P G.1 vwCl (zCW3 G a c ++ (([(sh, .inr (4, [.ref sv, .ref sa, .ref sc, .ref sl])), (sv, .inl (G.2.1, zn V, .inl (zar (zn V) V))), (sa, .inl (G.2.1, zn V, .inl (zar (zn V) X))), (sc, .inl (G.2.1, 6, .inl (zkt t))), (sl, .inl (G.2.2.1, rows.length, .inr (.inr (.inr (.inr (zlf rows))))))] : va_W) ++ rows.map (zrc G (zn V)))) H → va_D (fun q : Nat => s.heap.size ≤ q) (zCW3 G a c ++ (([(sh, .inr (4, [.ref sv, .ref sa, .ref sc, .ref sl])), (sv, .inl (G.2.1, zn V, .inl (zar (zn V) V))), (sa, .inl (G.2.1, zn V, .inl (zar (zn V) X))), (sc, .inl (G.2.1, 6, .inl (zkt t))), (sl, .inl (G.2.2.1, rows.length, .inr (.inr (.inr (.inr (zlf rows))))))] : va_W) ++ rows.map (zrc G (zn V)))) → va_S (fun q : Nat => s.heap.size ≤ q) s.heap H locs → lv_has ls 19 [(9, .int (nI (zNm C 729))), (3, .int (nI tm)), (4, .int x), (0, .ref b), (1, .ref (a 0)), (2, .ref sh)] → W p l e room_1 s m #[.ref b] below meth c9 H locs cells slots Q (F0 m 695 ls []))) :
    W p l e room_1 s m #[.ref b] below meth c9 H locs cells0 slots0 Q (F0 m 613 ls []) := by
  obtain ⟨hx, hb, hml, hown, hts⟩ := id F
  have hA : ∀ q : Nat, s.heap.size ≤ q → (fun q : Nat => s.heap.size ≤ q) q := fun _ h => h
  have hbA : ¬ (fun q : Nat => s.heap.size ≤ q) b := Nat.not_le.mpr hbl
  have hz := zn_23 V
  have hR := hL.1
  have hu := hL.2.1
  have ok := hR.ok
  have hr9 := hu.ok hR.cok
  have hN := hL.2.2.2.2.1
  have hac := hL.2.2.2.2.2.1
  have hgu := hL.2.2.2.2.2.2
  have h1c := hL.2.2.1.one hR.cok
  have h9c := zNm_le C 729
  obtain ⟨cells, hce⟩ : ∃ k, k = cells0 := ⟨_, rfl⟩
  obtain ⟨slots, hsl⟩ : ∃ k, k = slots0 := ⟨_, rfl⟩
  rw [← hce, ← hsl]
  refine lv_aload_n hx hb dL_law_613 rfl (lv_at hl 7 rfl) ?_
  refine zl_C (As := []) (rest := []) F (q_bestPour l G a hR) gL_law_X3_bestPour rfl rfl rfl zd_X3_bestPour ⟨(Nat.le_of_ble_eq_true rfl), (Nat.le_of_ble_eq_true rfl)⟩ rfl rfl (Nat.le_of_ble_eq_true rfl) dL_law_614 ⟨by show cells ≤ 732097; omega, by show slots ≤ 6905176; omega⟩ hK hP hD hS hA hl.1 (fun c H locs hR hP hD hS => ?_)
  refine lv_iload hx hb dL_law_617 (lv_at hl 0 rfl) ?_
  refine lv_icmp_ne (tgt := 632) hx hb dL_law_619 (by decide) (fun z => absurd (show (zBq (zn V) C 9 6 (-1) (zNm C 729)).1 = (zBq (zn V) C 9 6 (-1) (zNm C 729)).1 from rfl) z) (fun _ => ?_)
  refine lv_aload_n hx hb dL_law_622 rfl (lv_at hl 7 rfl) ?_
  refine zl_C (As := []) (rest := []) F (q_digest l G a hR) gL_law_X3_digest rfl rfl rfl zd_X3_digest ⟨(Nat.le_of_ble_eq_true rfl), (Nat.le_of_ble_eq_true rfl)⟩ rfl rfl (Nat.le_of_ble_eq_true rfl) dL_law_623 ⟨by show cells ≤ 732097; omega, by show slots ≤ 6905176; omega⟩ hK hP hD hS hA hl.1 (fun c H locs hR hP hD hS => ?_)
  refine lv_lload hx hb dL_law_626 (lv_at hl 3 rfl) ?_
  refine W.lcmp hx hb dL_law_628 ?_
  refine lv_if_eq (tgt := 634) hx hb dL_law_629 (by decide) (fun _ => ?_) (fun z => absurd (show (lg_cmp (zDig V X C t) (zDig V X C t)) = (nI 0) from (zcmp_0 _)) z)
  refine lv_iload hx hb dL_law_634 (lv_at hl 0 rfl) ?_
  have kk0 : ∀ (c : zS) (H : Heap) (locs : List Loc) (ls : Array Slot), zR V X C c t → va_P G.1 vwCl (zCW3 G a c ++ (([(sh, .inr (4, [.ref sv, .ref sa, .ref sc, .ref sl])), (sv, .inl (G.2.1, zn V, .inl (zar (zn V) V))), (sa, .inl (G.2.1, zn V, .inl (zar (zn V) X))), (sc, .inl (G.2.1, 6, .inl (zkt t))), (sl, .inl (G.2.2.1, rows.length, .inr (.inr (.inr (.inr (zlf rows))))))] : va_W) ++ rows.map (zrc G (zn V)))) H → va_D (fun q : Nat => s.heap.size ≤ q) (zCW3 G a c ++ (([(sh, .inr (4, [.ref sv, .ref sa, .ref sc, .ref sl])), (sv, .inl (G.2.1, zn V, .inl (zar (zn V) V))), (sa, .inl (G.2.1, zn V, .inl (zar (zn V) X))), (sc, .inl (G.2.1, 6, .inl (zkt t))), (sl, .inl (G.2.2.1, rows.length, .inr (.inr (.inr (.inr (zlf rows))))))] : va_W) ++ rows.map (zrc G (zn V)))) → va_S (fun q : Nat => s.heap.size ≤ q) s.heap H locs → lv_has ls 19 [(9, .int (nI (zNm C 729))), (3, .int (nI tm)), (4, .int x), (0, .ref b), (1, .ref (a 0)), (2, .ref sh)] → W p l e room_1 s m #[.ref b] below meth c9 H locs cells slots Q (F0 m 695 ls []) := by
    intro c H locs ls hR hP hD hS hl
    exact kk K0 X C t c sv sa sc sl rows cells slots H locs ls (hL.re hR) (by omega) (by omega) (by omega) hP hD hS hl
  rcases zBq_is (zn V) C 9 6 (-1) (zNm C 729) rfl (by omega) (Or.inl rfl) with hb9 | ⟨j, hj6, hj15, hbj, hal, hwj⟩
  · have hlt : (zBq (zn V) C 9 6 (-1) (zNm C 729)).1 < (0 : Int32) := by rw [hb9]; decide
    refine lv_if_lt (tgt := 695) hx hb dL_law_636 (by decide) (fun _ => ?_) (fun z => absurd (show (zBq (zn V) C 9 6 (-1) (zNm C 729)).1 < (nI 0) from hlt) z)
    exact kk0 c H locs ls hR hP hD hS (lv_sub hl [2, 4, 5, 6, 7, 8] rfl)
  · rw [hbj] at hl ⊢
    refine lv_if_lt (tgt := 695) hx hb dL_law_636 (by decide) (fun z => absurd z (show ¬ (nI j) < (nI 0) from (nI_nlt (by omega) (by omega)))) (fun _ => ?_)
    refine lv_iload hx hb dL_law_639 (lv_at hl 5 rfl) ?_
    refine lv_iconst (v := nI 5) hx hb dL_law_641 (by decide) ?_
    refine lv_ishr hx hb dL_law_642 ?_
    refine lv_iconst (v := nI 2) hx hb dL_law_643 (by decide) ?_
    refine zr_S (As := [.int (x >>> ((nI 5) &&& 31)), .int (nI 2)]) (rest := []) (wr := zCW3 G a c ++ (([(sh, .inr (4, [.ref sv, .ref sa, .ref sc, .ref sl])), (sv, .inl (G.2.1, zn V, .inl (zar (zn V) V))), (sa, .inl (G.2.1, zn V, .inl (zar (zn V) X))), (sc, .inl (G.2.1, 6, .inl (zkt t))), (sl, .inl (G.2.2.1, rows.length, .inr (.inr (.inr (.inr (zlf rows))))))] : va_W) ++ rows.map (zrc G (zn V)))) F (l_below l G ((x >>> ((nI 5) &&& 31))) (n := 2) (by omega) (by omega)) gL_law_L_below rfl rfl rfl zd_L_below ⟨(Nat.le_of_ble_eq_true rfl), (Nat.le_of_ble_eq_true rfl)⟩ rfl rfl (Nat.le_of_ble_eq_true rfl) dL_law_644 ⟨by show cells ≤ 732097; omega, by show slots ≤ 6905176; omega⟩ hK hP hD hS hA hl.1 (List.Perm.refl _) (fun _ H locs hP hD hS => ?_)
    have hP : va_P G.1 vwCl (zCW3 G a c ++ (([(sh, .inr (4, [.ref sv, .ref sa, .ref sc, .ref sl])), (sv, .inl (G.2.1, zn V, .inl (zar (zn V) V))), (sa, .inl (G.2.1, zn V, .inl (zar (zn V) X))), (sc, .inl (G.2.1, 6, .inl (zkt t))), (sl, .inl (G.2.2.1, rows.length, .inr (.inr (.inr (.inr (zlf rows))))))] : va_W) ++ rows.map (zrc G (zn V)))) H := hP
    have hD : va_D (fun q : Nat => s.heap.size ≤ q) (zCW3 G a c ++ (([(sh, .inr (4, [.ref sv, .ref sa, .ref sc, .ref sl])), (sv, .inl (G.2.1, zn V, .inl (zar (zn V) V))), (sa, .inl (G.2.1, zn V, .inl (zar (zn V) X))), (sc, .inl (G.2.1, 6, .inl (zkt t))), (sl, .inl (G.2.2.1, rows.length, .inr (.inr (.inr (.inr (zlf rows))))))] : va_W) ++ rows.map (zrc G (zn V)))) := hD
    obtain ⟨g, hg, eg⟩ : ∃ r, r < 2 ∧ zbl ((x >>> ((nI 5) &&& 31))) 2 = r := ⟨_, zbl_lt _ (by omega), rfl⟩
    rw [eg]
    by_cases q : g = 0
    · refine lv_if_ne (tgt := 695) hx hb dL_law_647 (by decide) (fun z => absurd (show (nI g) = (nI 0) from (show nI g = nI 0 from congrArg nI q)) z) (fun _ => ?_)
      refine lv_aload_n hx hb dL_law_650 rfl (lv_at hl 7 rfl) ?_
      refine lv_iload hx hb dL_law_651 (lv_at hl 0 rfl) ?_
      refine zr_S (As := [.ref (a 0), .int (nI j)]) (rest := []) (wr := zSW G sh (zn V) V X t (sv, sa, sc, sl, rows)) F (l_done l G a hR (by omega) (hal)) gL_law_L_done rfl rfl rfl zd_L_done ⟨(Nat.le_of_ble_eq_true rfl), (Nat.le_of_ble_eq_true rfl)⟩ rfl rfl (Nat.le_of_ble_eq_true rfl) dL_law_653 ⟨by show cells ≤ 732097; omega, by show slots ≤ 6905176; omega⟩ hK hP hD hS hA hl.1 (List.Perm.refl _) (fun u9 H locs hP hD hS => ?_)
      obtain ⟨c2, hR2⟩ := u9
      have hP : va_P G.1 vwCl (zCW3 G a c2 ++ (([(sh, .inr (4, [.ref sv, .ref sa, .ref sc, .ref sl])), (sv, .inl (G.2.1, zn V, .inl (zar (zn V) V))), (sa, .inl (G.2.1, zn V, .inl (zar (zn V) X))), (sc, .inl (G.2.1, 6, .inl (zkt t))), (sl, .inl (G.2.2.1, rows.length, .inr (.inr (.inr (.inr (zlf rows))))))] : va_W) ++ rows.map (zrc G (zn V)))) H := hP
      have hD : va_D (fun q : Nat => s.heap.size ≤ q) (zCW3 G a c2 ++ (([(sh, .inr (4, [.ref sv, .ref sa, .ref sc, .ref sl])), (sv, .inl (G.2.1, zn V, .inl (zar (zn V) V))), (sa, .inl (G.2.1, zn V, .inl (zar (zn V) X))), (sc, .inl (G.2.1, 6, .inl (zkt t))), (sl, .inl (G.2.2.1, rows.length, .inr (.inr (.inr (.inr (zlf rows))))))] : va_W) ++ rows.map (zrc G (zn V)))) := hD
      refine lv_aload_n hx hb dL_law_656 rfl (lv_at hl 8 rfl) ?_
      refine lv_iload hx hb dL_law_657 (lv_at hl 0 rfl) ?_
      refine zl_M (As := [.int (nI j)]) (rest := [.int (nI (zm V X j))]) (u := (sv, sa, sc, sl, rows)) F (s_go l G sh sv sa sc sl rows hz hL.1.ok hr9 (by omega) (hal)) gL_law_X4_go rfl rfl rfl zd_X4_go ⟨(Nat.le_of_ble_eq_true rfl), (Nat.le_of_ble_eq_true rfl)⟩ rfl rfl (Nat.le_of_ble_eq_true rfl) dL_law_659 ⟨show cells + 2189 ≤ 732097 by omega, show slots + 9483 ≤ 6905176 by omega⟩ hK hP hD hS hA hl.1 (fun u9 H locs hP hD hS => ?_)
      obtain ⟨⟨sv2, sa2, sc2, sl2, rows2⟩, hu2⟩ := u9
      have hP : va_P G.1 vwCl (zCW3 G a c2 ++ (([(sh, .inr (4, [.ref sv2, .ref sa2, .ref sc2, .ref sl2])), (sv2, .inl (G.2.1, zn V, .inl (zar (zn V) V))), (sa2, .inl (G.2.1, zn V, .inl (zar (zn V) (zmv V X j)))), (sc2, .inl (G.2.1, 6, .inl (zkt (zUact V X j t)))), (sl2, .inl (G.2.2.1, rows2.length, .inr (.inr (.inr (.inr (zlf rows2))))))] : va_W) ++ rows2.map (zrc G (zn V)))) H := hP
      have hD : va_D (fun q : Nat => s.heap.size ≤ q) (zCW3 G a c2 ++ (([(sh, .inr (4, [.ref sv2, .ref sa2, .ref sc2, .ref sl2])), (sv2, .inl (G.2.1, zn V, .inl (zar (zn V) V))), (sa2, .inl (G.2.1, zn V, .inl (zar (zn V) (zmv V X j)))), (sc2, .inl (G.2.1, 6, .inl (zkt (zUact V X j t)))), (sl2, .inl (G.2.2.1, rows2.length, .inr (.inr (.inr (.inr (zlf rows2))))))] : va_W) ++ rows2.map (zrc G (zn V)))) := hD
      have hL2 := hL.act (by omega) hal hR2 hu2
      have hM := zMost_new ok hL.1.cok (a := j) (by omega)
      have hq9 := zNm_le (zNew V X j C) 729
      have hwl := zBq_le (zn V) C 9 6 (-1) (zNm C 729)
      have hR := hR2
      have hac2 := hL2.2.2.2.2.2.1
      refine lv_icmp_ne (tgt := 687) hx hb dL_law_662 (by decide) (fun z => absurd (show (nI (zm V X j)) = (nI (zm V X j)) from rfl) z) (fun _ => ?_)
      refine lv_aload_n hx hb dL_law_665 rfl (lv_at hl 7 rfl) ?_
      refine zl_C (As := []) (rest := []) F (q_candidates l G a hR) gL_law_X3_candidates rfl rfl rfl zd_X3_candidates ⟨(Nat.le_of_ble_eq_true rfl), (Nat.le_of_ble_eq_true rfl)⟩ rfl rfl (Nat.le_of_ble_eq_true rfl) dL_law_666 ⟨by show cells + 2189 ≤ 732097; omega, by show slots + 9483 ≤ 6905176; omega⟩ hK hP hD hS hA hl.1 (fun c2 H locs hR hP hD hS => ?_)
      refine lv_iload hx hb dL_law_669 (lv_at hl 1 rfl) ?_
      refine lv_icmp_gt (tgt := 687) hx hb dL_law_671 (by decide) (fun z => absurd z (show ¬ (nI ((zBq (zn V) C 9 6 (-1) (zNm C 729)).2)) < (nI (zNm (zNew V X j C) 729)) from (nI_nlt (by rw [hwj]; exact hM.1) (by omega)))) (fun _ => ?_)
      refine lv_aload_n hx hb dL_law_674 rfl (lv_at hl 7 rfl) ?_
      refine zl_C (As := []) (rest := []) F (q_acts l G a hR) gL_law_X3_acts rfl rfl rfl zd_X3_acts ⟨(Nat.le_of_ble_eq_true rfl), (Nat.le_of_ble_eq_true rfl)⟩ rfl rfl (Nat.le_of_ble_eq_true rfl) dL_law_675 ⟨by show cells + 2189 ≤ 732097; omega, by show slots + 9483 ≤ 6905176; omega⟩ hK hP hD hS hA hl.1 (fun c2 H locs hR hP hD hS => ?_)
      refine lv_aload_n hx hb dL_law_678 rfl (lv_at hl 8 rfl) ?_
      refine va_get (D := G.1) (ci := 4) (v := .ref sc2) (C := RX4) (T := TX4) (N := 4) hx hb hts inlX4 hown hK.1 hP 17 rfl rfl 2 (by decide) (ht2 _ (List.mem_of_getElem? (i := 719) (by decide +kernel))) (fun _ h9 => h9) rfl dL_law_679 ?_
      refine lv_iconst (v := nI 0) hx hb dL_law_682 (by decide) ?_
      refine zr_iald (v := (nI ((zUact V X j t).ac))) hx hb hK hP 20 rfl (by omega) (by omega) (rfl) dL_law_683 ?_
      refine lv_icmp_eq (tgt := 689) hx hb dL_law_684 (by decide) (fun _ => ?_) (fun z => absurd (show (nI ((zUact V X j t).ac)) = (nI ((zUact V X j t).ac)) from rfl) z)
      refine lv_aload_n hx hb dL_law_689 rfl (lv_at hl 7 rfl) ?_
      refine zl_C (As := []) (rest := []) F (q_candidates l G a hR) gL_law_X3_candidates rfl rfl rfl zd_X3_candidates ⟨(Nat.le_of_ble_eq_true rfl), (Nat.le_of_ble_eq_true rfl)⟩ rfl rfl (Nat.le_of_ble_eq_true rfl) dL_law_690 ⟨by show cells + 2189 ≤ 732097; omega, by show slots + 9483 ≤ 6905176; omega⟩ hK hP hD hS hA hl.1 (fun c2 H locs hR hP hD hS => ?_)
      refine lv_istore (lv' := [(9, .int (nI (zNm (zNew V X j C) 729))), (14, .int (nI j)), (13, .int (nI ((zBq (zn V) C 9 6 (-1) (zNm C 729)).2))), (5, .long (zDig V X C t)), (3, .int (nI tm)), (4, .int x), (0, .ref b), (1, .ref (a 0)), (2, .ref sh)]) hx hb dL_law_693 hl (by decide) rfl (fun ls hl => ?_)
      exact kk (K0 + 1) _ _ _ c2 sv2 sa2 sc2 sl2 rows2 (cells + 2189) (slots + 9483) H locs ls (hL2.re hR) (by omega) (by omega) (by omega) hP hD hS (lv_sub hl [0, 4, 5, 6, 7, 8] rfl)
    · refine lv_if_ne (tgt := 695) hx hb dL_law_647 (by decide) (fun _ => ?_) (fun z => absurd z (show ¬ (nI g) = (nI 0) from (fun z => q ((nI_eq (by omega) (by omega)).mp z))))
      exact kk0 c H locs ls hR hP hD hS (lv_sub hl [2, 4, 5, 6, 7, 8] rfl)
set_option maxHeartbeats 4000000 in
set_option maxRecDepth 100000 in
theorem lw_G {p : Program} {l : Launch} {e : Env} {s : State} {m : MethodId} {below : List Frame} {meth : Method} {c9 : Code} {b L : Nat} {xs : Nat → Int32} {G : zG} {a : Nat → Nat} {Q : State → Prop} (F : CallFix p m c9 cL_law 19 s #[.ref b] wsL_law RL) (hst : l.stackTraces = false) (hK : zK G s) (hZ : zZ (fun q => s.heap.size ≤ q) s s.heap) (hX : va_X b L xs s s.heap) (hbl : b < s.heap.size) (hL9 : L ≤ 260) (ht2 : ∀ w ∈ lw_tbl, w.before #[Value.ref b] s = true) {K0 : Nat} {V : Nat → Nat} {sh : Nat} (hKb : K0 ≤ 900) {cells0 slots0 : Nat} (hcs : cells0 + 18 * 2189 ≤ 732097 ∧ slots0 + 18 * 9483 ≤ 6905176) {tm : Nat} {x : Int32} {v : Nat} (hv : v ≤ 9) {A0 cand : Nat} (hA0 : A0 ≤ 18) (hcd : cand ≤ 729) (kk : (∀ (K : Nat) (X : Nat → Nat) (C : zCs) (t : zU) (c : zS) (sv sa sc sl : Nat) (rows : zRows) (cells slots : Nat) (H : Heap) (locs : List Loc) (ls : Array Slot), zLok K V X C t c (sv, sa, sc, sl, rows) → K ≤ K0 + 18 → cells ≤ cells0 + 18 * 2189 → slots ≤ slots0 + 18 * 9483 → va_P G.1 vwCl (zCW3 G a c ++ (([(sh, .inr (4, [.ref sv, .ref sa, .ref sc, .ref sl])), (sv, .inl (G.2.1, zn V, .inl (zar (zn V) V))), (sa, .inl (G.2.1, zn V, .inl (zar (zn V) X))), (sc, .inl (G.2.1, 6, .inl (zkt t))), (sl, .inl (G.2.2.1, rows.length, .inr (.inr (.inr (.inr (zlf rows))))))] : va_W) ++ rows.map (zrc G (zn V)))) H → va_D (fun q : Nat => s.heap.size ≤ q) (zCW3 G a c ++ (([(sh, .inr (4, [.ref sv, .ref sa, .ref sc, .ref sl])), (sv, .inl (G.2.1, zn V, .inl (zar (zn V) V))), (sa, .inl (G.2.1, zn V, .inl (zar (zn V) X))), (sc, .inl (G.2.1, 6, .inl (zkt t))), (sl, .inl (G.2.2.1, rows.length, .inr (.inr (.inr (.inr (zlf rows))))))] : va_W) ++ rows.map (zrc G (zn V)))) → va_S (fun q : Nat => s.heap.size ≤ q) s.heap H locs → lv_has ls 19 [(3, .int (nI tm)), (4, .int x), (0, .ref b), (1, .ref (a 0)), (2, .ref sh)] → W p l e room_1 s m #[.ref b] below meth c9 H locs cells slots Q (F0 m 966 ls []))) :
    ∀ (g k : Nat) (e9 : Nat × Nat × Nat) (K : Nat) (X : Nat → Nat) (C : zCs) (t : zU) (c : zS) (sv sa sc sl : Nat) (rows : zRows) (cells slots : Nat) (H : Heap) (locs : List Loc) (ls : Array Slot), g ≤ 3 → zLok K V X C t c (sv, sa, sc, sl, rows) → zF V X v = some e9 → e9.2.1 = k → k ≤ A0 → zNm C 729 ≤ cand → K ≤ K0 + (A0 - k) → cells + 2189 * k ≤ cells0 + 2189 * A0 → slots + 9483 * k ≤ slots0 + 9483 * A0 → va_P G.1 vwCl (zCW3 G a c ++ (([(sh, .inr (4, [.ref sv, .ref sa, .ref sc, .ref sl])), (sv, .inl (G.2.1, zn V, .inl (zar (zn V) V))), (sa, .inl (G.2.1, zn V, .inl (zar (zn V) X))), (sc, .inl (G.2.1, 6, .inl (zkt t))), (sl, .inl (G.2.2.1, rows.length, .inr (.inr (.inr (.inr (zlf rows))))))] : va_W) ++ rows.map (zrc G (zn V)))) H → va_D (fun q : Nat => s.heap.size ≤ q) (zCW3 G a c ++ (([(sh, .inr (4, [.ref sv, .ref sa, .ref sc, .ref sl])), (sv, .inl (G.2.1, zn V, .inl (zar (zn V) V))), (sa, .inl (G.2.1, zn V, .inl (zar (zn V) X))), (sc, .inl (G.2.1, 6, .inl (zkt t))), (sl, .inl (G.2.2.1, rows.length, .inr (.inr (.inr (.inr (zlf rows))))))] : va_W) ++ rows.map (zrc G (zn V)))) → va_S (fun q : Nat => s.heap.size ≤ q) s.heap H locs → lv_has ls 19 [(17, .int (nI g)), (16, .int (nI k)), (9, .int (nI cand)), (15, .int (nI v)), (3, .int (nI tm)), (4, .int x), (0, .ref b), (1, .ref (a 0)), (2, .ref sh)] → W p l e room_1 s m #[.ref b] below meth c9 H locs cells slots Q (F0 m 847 ls []) := by
  obtain ⟨hx, hb, hml, hown, hts⟩ := id F
  have hA : ∀ q : Nat, s.heap.size ≤ q → (fun q : Nat => s.heap.size ≤ q) q := fun _ h => h
  have hbA : ¬ (fun q : Nat => s.heap.size ≤ q) b := Nat.not_le.mpr hbl
  have k948 : ∀ (k : Nat) (e9 : Nat × Nat × Nat) (K : Nat) (X : Nat → Nat) (C : zCs) (t : zU) (c : zS) (sv sa sc sl : Nat) (rows : zRows) (cells slots : Nat) (H : Heap) (locs : List Loc) (ls : Array Slot), zLok K V X C t c (sv, sa, sc, sl, rows) → zF V X v = some e9 → e9.2.1 = k → k ≤ A0 → zNm C 729 ≤ cand → K ≤ K0 + (A0 - k) → cells + 2189 * k ≤ cells0 + 2189 * A0 → slots + 9483 * k ≤ slots0 + 9483 * A0 → va_P G.1 vwCl (zCW3 G a c ++ (([(sh, .inr (4, [.ref sv, .ref sa, .ref sc, .ref sl])), (sv, .inl (G.2.1, zn V, .inl (zar (zn V) V))), (sa, .inl (G.2.1, zn V, .inl (zar (zn V) X))), (sc, .inl (G.2.1, 6, .inl (zkt t))), (sl, .inl (G.2.2.1, rows.length, .inr (.inr (.inr (.inr (zlf rows))))))] : va_W) ++ rows.map (zrc G (zn V)))) H → va_D (fun q : Nat => s.heap.size ≤ q) (zCW3 G a c ++ (([(sh, .inr (4, [.ref sv, .ref sa, .ref sc, .ref sl])), (sv, .inl (G.2.1, zn V, .inl (zar (zn V) V))), (sa, .inl (G.2.1, zn V, .inl (zar (zn V) X))), (sc, .inl (G.2.1, 6, .inl (zkt t))), (sl, .inl (G.2.2.1, rows.length, .inr (.inr (.inr (.inr (zlf rows))))))] : va_W) ++ rows.map (zrc G (zn V)))) → va_S (fun q : Nat => s.heap.size ≤ q) s.heap H locs → lv_has ls 19 [(16, .int (nI k)), (9, .int (nI cand)), (15, .int (nI v)), (3, .int (nI tm)), (4, .int x), (0, .ref b), (1, .ref (a 0)), (2, .ref sh)] → W p l e room_1 s m #[.ref b] below meth c9 H locs cells slots Q (F0 m 948 ls []) := by
    intro k e9 K X C t c sv sa sc sl rows cells slots H locs ls hL he hk hkA hnc hKk hce hsl hP hD hS hl
    have hz := zn_23 V
    have hR := hL.1
    have hu := hL.2.1
    have ok := hR.ok
    have hr9 := hu.ok hR.cok
    have hN := hL.2.2.2.2.1
    have hac := hL.2.2.2.2.2.1
    have hgu := hL.2.2.2.2.2.2
    have h1c := hL.2.2.1.one hR.cok
    have h9c := zNm_le C 729
    have fin : ∀ (c : zS) (H : Heap) (locs : List Loc) (ls : Array Slot), zR V X C c t → va_P G.1 vwCl (zCW3 G a c ++ (([(sh, .inr (4, [.ref sv, .ref sa, .ref sc, .ref sl])), (sv, .inl (G.2.1, zn V, .inl (zar (zn V) V))), (sa, .inl (G.2.1, zn V, .inl (zar (zn V) X))), (sc, .inl (G.2.1, 6, .inl (zkt t))), (sl, .inl (G.2.2.1, rows.length, .inr (.inr (.inr (.inr (zlf rows))))))] : va_W) ++ rows.map (zrc G (zn V)))) H → va_D (fun q : Nat => s.heap.size ≤ q) (zCW3 G a c ++ (([(sh, .inr (4, [.ref sv, .ref sa, .ref sc, .ref sl])), (sv, .inl (G.2.1, zn V, .inl (zar (zn V) V))), (sa, .inl (G.2.1, zn V, .inl (zar (zn V) X))), (sc, .inl (G.2.1, 6, .inl (zkt t))), (sl, .inl (G.2.2.1, rows.length, .inr (.inr (.inr (.inr (zlf rows))))))] : va_W) ++ rows.map (zrc G (zn V)))) → va_S (fun q : Nat => s.heap.size ≤ q) s.heap H locs → lv_has ls 19 [(3, .int (nI tm)), (4, .int x), (0, .ref b), (1, .ref (a 0)), (2, .ref sh)] → W p l e room_1 s m #[.ref b] below meth c9 H locs cells slots Q (F0 m 966 ls []) := by
      intro c H locs ls hR hP hD hS hl
      exact kk K X C t c sv sa sc sl rows cells slots H locs ls (hL.re hR) (by omega) (by omega) (by omega) hP hD hS hl
    by_cases q : k = 0
    · refine lv_iload hx hb dL_law_948 (lv_at hl 0 rfl) ?_
      refine lv_if_ne (tgt := 966) hx hb dL_law_950 (by decide) (fun z => absurd (show (nI k) = (nI 0) from (show nI k = nI 0 from congrArg nI q)) z) (fun _ => ?_)
      refine lv_aload_n hx hb dL_law_953 rfl (lv_at hl 6 rfl) ?_
      refine lv_iload hx hb dL_law_954 (lv_at hl 2 rfl) ?_
      refine lv_bipush (v := nI 50) hx hb dL_law_956 (by decide) ?_
      refine zl_C (As := [.int (nI v), .int (nI 50)]) (rest := []) F (q_follow0 l G a hR hv he (by omega)) gL_law_X3_follow rfl rfl rfl zd_X3_follow ⟨(Nat.le_of_ble_eq_true rfl), (Nat.le_of_ble_eq_true rfl)⟩ rfl rfl (Nat.le_of_ble_eq_true rfl) dL_law_958 ⟨by show cells ≤ 732097; omega, by show slots ≤ 6905176; omega⟩ hK hP hD hS hA hl.1 (fun c H locs hR hP hD hS => ?_)
      refine lv_if_eq (tgt := 966) hx hb dL_law_961 (by decide) (fun _ => ?_) (fun z => absurd (show (nI 0) = (nI 0) from rfl) z)
      exact fin c H locs ls hR hP hD hS (lv_sub hl [3, 4, 5, 6, 7] rfl)
    · refine lv_iload hx hb dL_law_948 (lv_at hl 0 rfl) ?_
      refine lv_if_ne (tgt := 966) hx hb dL_law_950 (by decide) (fun _ => ?_) (fun z => absurd z (show ¬ (nI k) = (nI 0) from (fun z => q ((nI_eq (by omega) (by omega)).mp z))))
      exact fin c H locs ls hR hP hD hS (lv_sub hl [3, 4, 5, 6, 7] rfl)
  intro g
  induction g with
  | zero =>
    intro k e9 K X C t c sv sa sc sl rows cells slots H locs ls hg hL he hk hkA hnc hKk hce hsl hP hD hS hl
    refine lv_iload hx hb dL_law_847 (lv_at hl 0 rfl) ?_
    refine lv_if_le (tgt := 948) hx hb dL_law_849 (by decide) (fun _ => ?_) (fun z => absurd (show (nI 0) ≤ (nI 0) from (by decide)) z)
    exact k948 k e9 K X C t c sv sa sc sl rows cells slots H locs ls hL he hk hkA hnc hKk hce hsl hP hD hS (lv_sub hl [1, 2, 3, 4, 5, 6, 7, 8] rfl)
  | succ g ih =>
    intro k e9 K X C t c sv sa sc sl rows cells slots H locs ls hg hL he hk hkA hnc hKk hce hsl hP hD hS hl
    have hz := zn_23 V
    have hR := hL.1
    have hu := hL.2.1
    have ok := hR.ok
    have hr9 := hu.ok hR.cok
    have hN := hL.2.2.2.2.1
    have hac := hL.2.2.2.2.2.1
    have hgu := hL.2.2.2.2.2.2
    have h1c := hL.2.2.1.one hR.cok
    have h9c := zNm_le C 729
    refine lv_iload hx hb dL_law_847 (lv_at hl 0 rfl) ?_
    refine lv_if_le (tgt := 948) hx hb dL_law_849 (by decide) (fun z => absurd z (show ¬ (nI (g + 1)) ≤ (nI 0) from (nI_ge (by omega) (by omega)))) (fun _ => ?_)
    refine lv_iload hx hb dL_law_852 (lv_at hl 1 rfl) ?_
    by_cases q : k = 0
    · refine lv_if_le (tgt := 948) hx hb dL_law_854 (by decide) (fun _ => ?_) (fun z => absurd (show (nI k) ≤ (nI 0) from (show nI k ≤ nI 0 from nI_le (by omega) (by omega))) z)
      exact k948 k e9 K X C t c sv sa sc sl rows cells slots H locs ls hL he hk hkA hnc hKk hce hsl hP hD hS (lv_sub hl [1, 2, 3, 4, 5, 6, 7, 8] rfl)
    · obtain ⟨h15, hal, x9, hx9, hx1⟩ := zF_next ok he (by omega)
      refine lv_if_le (tgt := 948) hx hb dL_law_854 (by decide) (fun z => absurd z (show ¬ (nI k) ≤ (nI 0) from (nI_nle (by omega) (by omega)))) (fun _ => ?_)
      refine lv_aload_n hx hb dL_law_857 rfl (lv_at hl 7 rfl) ?_
      refine lv_iload hx hb dL_law_858 (lv_at hl 3 rfl) ?_
      refine zl_C (As := [.int (nI v)]) (rest := []) F (q_nextAct l G a hR hv he (by omega)) gL_law_X3_nextAct rfl rfl rfl zd_X3_nextAct ⟨(Nat.le_of_ble_eq_true rfl), (Nat.le_of_ble_eq_true rfl)⟩ rfl rfl (Nat.le_of_ble_eq_true rfl) dL_law_860 ⟨by show cells ≤ 732097; omega, by show slots ≤ 6905176; omega⟩ hK hP hD hS hA hl.1 (fun c H locs hR hP hD hS => ?_)
      refine lv_istore (lv' := [(18, .int (nI e9.2.2)), (17, .int (nI (g + 1))), (16, .int (nI k)), (9, .int (nI cand)), (15, .int (nI v)), (3, .int (nI tm)), (4, .int x), (0, .ref b), (1, .ref (a 0)), (2, .ref sh)]) hx hb dL_law_863 hl (by decide) rfl (fun ls hl => ?_)
      refine lv_aload_n hx hb dL_law_865 rfl (lv_at hl 8 rfl) ?_
      refine lv_iload hx hb dL_law_866 (lv_at hl 4 rfl) ?_
      refine lv_iconst (v := nI 1) hx hb dL_law_868 (by decide) ?_
      refine zl_C (As := [.int (nI v), .int (nI 1)]) (rest := []) F (q_follow1 l G a hR hv he (by omega)) gL_law_X3_follow rfl rfl rfl zd_X3_follow ⟨(Nat.le_of_ble_eq_true rfl), (Nat.le_of_ble_eq_true rfl)⟩ rfl rfl (Nat.le_of_ble_eq_true rfl) dL_law_869 ⟨by show cells ≤ 732097; omega, by show slots ≤ 6905176; omega⟩ hK hP hD hS hA hl.1 (fun c2 H locs hR2 hP hD hS => ?_)
      refine lv_iconst (v := nI 1) hx hb dL_law_872 (by decide) ?_
      refine lv_icmp_eq (tgt := 878) hx hb dL_law_873 (by decide) (fun _ => ?_) (fun z => absurd (show (nI 1) = (nI 1) from rfl) z)
      refine lv_aload_n hx hb dL_law_878 rfl (lv_at hl 9 rfl) ?_
      refine lv_iload hx hb dL_law_879 (lv_at hl 0 rfl) ?_
      refine zl_M (As := [.int (nI e9.2.2)]) (rest := []) (u := (sv, sa, sc, sl, rows)) F (s_go l G sh sv sa sc sl rows hz hL.1.ok hr9 (h15) (hal)) gL_law_X4_go rfl rfl rfl zd_X4_go ⟨(Nat.le_of_ble_eq_true rfl), (Nat.le_of_ble_eq_true rfl)⟩ rfl rfl (Nat.le_of_ble_eq_true rfl) dL_law_881 ⟨show cells + 2189 ≤ 732097 by omega, show slots + 9483 ≤ 6905176 by omega⟩ hK hP hD hS hA hl.1 (fun u9 H locs hP hD hS => ?_)
      obtain ⟨⟨sv2, sa2, sc2, sl2, rows2⟩, hu2⟩ := u9
      have hP : va_P G.1 vwCl (zCW3 G a c2 ++ (([(sh, .inr (4, [.ref sv2, .ref sa2, .ref sc2, .ref sl2])), (sv2, .inl (G.2.1, zn V, .inl (zar (zn V) V))), (sa2, .inl (G.2.1, zn V, .inl (zar (zn V) (zmv V X e9.2.2)))), (sc2, .inl (G.2.1, 6, .inl (zkt (zUact V X e9.2.2 t)))), (sl2, .inl (G.2.2.1, rows2.length, .inr (.inr (.inr (.inr (zlf rows2))))))] : va_W) ++ rows2.map (zrc G (zn V)))) H := hP
      have hD : va_D (fun q : Nat => s.heap.size ≤ q) (zCW3 G a c2 ++ (([(sh, .inr (4, [.ref sv2, .ref sa2, .ref sc2, .ref sl2])), (sv2, .inl (G.2.1, zn V, .inl (zar (zn V) V))), (sa2, .inl (G.2.1, zn V, .inl (zar (zn V) (zmv V X e9.2.2)))), (sc2, .inl (G.2.1, 6, .inl (zkt (zUact V X e9.2.2 t)))), (sl2, .inl (G.2.2.1, rows2.length, .inr (.inr (.inr (.inr (zlf rows2))))))] : va_W) ++ rows2.map (zrc G (zn V)))) := hD
      have hL2 := hL.act h15 hal hR2 hu2
      have hR := hR2
      have ok2 := hR2.ok
      have hup := zNm_up C (zgSee (zn V) e9.2.2 (zlk V (zmv V X e9.2.2))) 729
      have hq9 := zNm_le (zNew V X e9.2.2 C) 729
      have hac2 := hL2.2.2.2.2.2.1
      have hnc2 : zNm (zNew V X e9.2.2 C) 729 ≤ cand := Nat.le_trans hup hnc
      have ek : k - 1 = x9.2.1 := by omega
      refine lv_pop hx hb dL_law_884 rfl ?_
      refine lv_iinc (v := (nI (k - 1))) (lv' := [(16, .int (nI (k - 1))), (18, .int (nI e9.2.2)), (17, .int (nI (g + 1))), (9, .int (nI cand)), (15, .int (nI v)), (3, .int (nI tm)), (4, .int x), (0, .ref b), (1, .ref (a 0)), (2, .ref sh)]) hx hb dL_law_885 hl (k := 2) rfl (pk_pred (by omega)) (by decide) rfl (fun ls hl => ?_)
      refine lv_aload_n hx hb dL_law_888 rfl (lv_at hl 8 rfl) ?_
      refine lv_iload hx hb dL_law_889 (lv_at hl 4 rfl) ?_
      refine zl_C (As := [.int (nI v)]) (rest := []) F (q_leastActs l G a hR hv) gL_law_X3_leastActs rfl rfl rfl zd_X3_leastActs ⟨(Nat.le_of_ble_eq_true rfl), (Nat.le_of_ble_eq_true rfl)⟩ rfl rfl (Nat.le_of_ble_eq_true rfl) dL_law_891 ⟨by show cells + 2189 ≤ 732097; omega, by show slots + 9483 ≤ 6905176; omega⟩ hK hP hD hS hA hl.1 (fun c2 H locs hR hP hD hS => ?_)
      refine zt_top (v := nI x9.2.1) (by rw [hx9]; rfl) ?_
      refine lv_iload hx hb dL_law_894 (lv_at hl 0 rfl) ?_
      refine lv_icmp_ne (tgt := 940) hx hb dL_law_896 (by decide) (fun z => absurd (show (nI x9.2.1) = (nI (k - 1)) from (congrArg nI ek.symm)) z) (fun _ => ?_)
      refine lv_aload_n hx hb dL_law_899 rfl (lv_at hl 8 rfl) ?_
      refine lv_iload hx hb dL_law_900 (lv_at hl 4 rfl) ?_
      refine zl_C (As := [.int (nI v)]) (rest := []) F (q_isThere l G a hR hv) gL_law_X3_isThere rfl rfl rfl zd_X3_isThere ⟨(Nat.le_of_ble_eq_true rfl), (Nat.le_of_ble_eq_true rfl)⟩ rfl rfl (Nat.le_of_ble_eq_true rfl) dL_law_902 ⟨by show cells + 2189 ≤ 732097; omega, by show slots + 9483 ≤ 6905176; omega⟩ hK hP hD hS hA hl.1 (fun c2 H locs hR hP hD hS => ?_)
      refine lv_iload hx hb dL_law_905 (lv_at hl 0 rfl) ?_
      have hth : (zhas (zn V) (zmv V X e9.2.2) v = true) ↔ x9.2.1 = 0 := by
        rw [← zhas_congr (fun j hj => zdg_st ok2 hj)]
        exact zF_here ok2 hx9
      have k918 : ∀ (c2 : zS) (H : Heap) (locs : List Loc) (ls : Array Slot), zR V (zmv V X e9.2.2) (zNew V X e9.2.2 C) c2 (zUact V X e9.2.2 t) → va_P G.1 vwCl (zCW3 G a c2 ++ (([(sh, .inr (4, [.ref sv2, .ref sa2, .ref sc2, .ref sl2])), (sv2, .inl (G.2.1, zn V, .inl (zar (zn V) V))), (sa2, .inl (G.2.1, zn V, .inl (zar (zn V) (zmv V X e9.2.2)))), (sc2, .inl (G.2.1, 6, .inl (zkt (zUact V X e9.2.2 t)))), (sl2, .inl (G.2.2.1, rows2.length, .inr (.inr (.inr (.inr (zlf rows2))))))] : va_W) ++ rows2.map (zrc G (zn V)))) H → va_D (fun q : Nat => s.heap.size ≤ q) (zCW3 G a c2 ++ (([(sh, .inr (4, [.ref sv2, .ref sa2, .ref sc2, .ref sl2])), (sv2, .inl (G.2.1, zn V, .inl (zar (zn V) V))), (sa2, .inl (G.2.1, zn V, .inl (zar (zn V) (zmv V X e9.2.2)))), (sc2, .inl (G.2.1, 6, .inl (zkt (zUact V X e9.2.2 t)))), (sl2, .inl (G.2.2.1, rows2.length, .inr (.inr (.inr (.inr (zlf rows2))))))] : va_W) ++ rows2.map (zrc G (zn V)))) → va_S (fun q : Nat => s.heap.size ≤ q) s.heap H locs → lv_has ls 19 [(16, .int (nI (k - 1))), (18, .int (nI e9.2.2)), (17, .int (nI (g + 1))), (9, .int (nI cand)), (15, .int (nI v)), (3, .int (nI tm)), (4, .int x), (0, .ref b), (1, .ref (a 0)), (2, .ref sh)] → W p l e room_1 s m #[.ref b] below meth c9 H locs (cells + 2189) (slots + 9483) Q (F0 m 918 ls []) := by
        intro c2 H locs ls hR hP hD hS hl
        refine lv_aload_n hx hb dL_law_918 rfl (lv_at hl 8 rfl) ?_
        refine zl_C (As := []) (rest := []) F (q_acts l G a hR) gL_law_X3_acts rfl rfl rfl zd_X3_acts ⟨(Nat.le_of_ble_eq_true rfl), (Nat.le_of_ble_eq_true rfl)⟩ rfl rfl (Nat.le_of_ble_eq_true rfl) dL_law_919 ⟨by show cells + 2189 ≤ 732097; omega, by show slots + 9483 ≤ 6905176; omega⟩ hK hP hD hS hA hl.1 (fun c2 H locs hR hP hD hS => ?_)
        refine lv_aload_n hx hb dL_law_922 rfl (lv_at hl 9 rfl) ?_
        refine va_get (D := G.1) (ci := 4) (v := .ref sc2) (C := RX4) (T := TX4) (N := 4) hx hb hts inlX4 hown hK.1 hP 17 rfl rfl 2 (by decide) (ht2 _ (List.mem_of_getElem? (i := 719) (by decide +kernel))) (fun _ h9 => h9) rfl dL_law_923 ?_
        refine lv_iconst (v := nI 0) hx hb dL_law_926 (by decide) ?_
        refine zr_iald (v := (nI ((zUact V X e9.2.2 t).ac))) hx hb hK hP 20 rfl (by omega) (by omega) (rfl) dL_law_927 ?_
        refine lv_icmp_ne (tgt := 940) hx hb dL_law_928 (by decide) (fun z => absurd (show (nI ((zUact V X e9.2.2 t).ac)) = (nI ((zUact V X e9.2.2 t).ac)) from rfl) z) (fun _ => ?_)
        refine lv_aload_n hx hb dL_law_931 rfl (lv_at hl 8 rfl) ?_
        refine zl_C (As := []) (rest := []) F (q_candidates l G a hR) gL_law_X3_candidates rfl rfl rfl zd_X3_candidates ⟨(Nat.le_of_ble_eq_true rfl), (Nat.le_of_ble_eq_true rfl)⟩ rfl rfl (Nat.le_of_ble_eq_true rfl) dL_law_932 ⟨by show cells + 2189 ≤ 732097; omega, by show slots + 9483 ≤ 6905176; omega⟩ hK hP hD hS hA hl.1 (fun c2 H locs hR hP hD hS => ?_)
        refine lv_iload hx hb dL_law_935 (lv_at hl 3 rfl) ?_
        refine lv_icmp_le (tgt := 942) hx hb dL_law_937 (by decide) (fun _ => ?_) (fun z => absurd (show (nI (zNm (zNew V X e9.2.2 C) 729)) ≤ (nI cand) from (nI_le (by omega) (by omega))) z)
        refine lv_iinc (v := (nI g)) (lv' := [(17, .int (nI g)), (16, .int (nI (k - 1))), (18, .int (nI e9.2.2)), (9, .int (nI cand)), (15, .int (nI v)), (3, .int (nI tm)), (4, .int x), (0, .ref b), (1, .ref (a 0)), (2, .ref sh)]) hx hb dL_law_942 hl (k := 2) rfl (pk_pred1 g) (by decide) rfl (fun ls hl => ?_)
        refine lv_goto (tgt := 847) hx hb dL_law_945 (by decide) ?_
        exact ih (k - 1) x9 (K + 1) _ _ _ c2 sv2 sa2 sc2 sl2 rows2 (cells + 2189) (slots + 9483) H locs ls (by omega) (hL2.re hR) hx9 (by omega) (by omega) hnc2 (by omega) (by omega) (by omega) hP hD hS (lv_sub hl [0, 1, 3, 4, 5, 6, 7, 8, 9] rfl)
      by_cases q2 : k - 1 = 0
      · refine lv_if_ne (tgt := 914) hx hb dL_law_907 (by decide) (fun z => absurd (show (nI (k - 1)) = (nI 0) from (show nI (k - 1) = nI 0 from congrArg nI q2)) z) (fun _ => ?_)
        refine lv_iconst (v := nI 1) hx hb dL_law_910 (by decide) ?_
        refine lv_goto (tgt := 915) hx hb dL_law_911 (by decide) ?_
        refine lv_icmp_ne (tgt := 940) hx hb dL_law_915 (by decide) (fun z => absurd (show (zb01 (zhas (zn V) (zmv V X e9.2.2) v)) = (nI 1) from (by rw [hth.mpr (by omega)]; rfl)) z) (fun _ => ?_)
        exact k918 c2 H locs ls hR hP hD hS hl
      · refine lv_if_ne (tgt := 914) hx hb dL_law_907 (by decide) (fun _ => ?_) (fun z => absurd z (show ¬ (nI (k - 1)) = (nI 0) from (fun z => q2 ((nI_eq (by omega) (by omega)).mp z))))
        refine lv_iconst (v := nI 0) hx hb dL_law_914 (by decide) ?_
        refine lv_icmp_ne (tgt := 940) hx hb dL_law_915 (by decide) (fun z => absurd (show (zb01 (zhas (zn V) (zmv V X e9.2.2) v)) = (nI 0) from (by rw [show zhas (zn V) (zmv V X e9.2.2) v = false from Bool.eq_false_iff.mpr (fun z => by have := hth.mp z; omega)]; rfl)) z) (fun _ => ?_)
        exact k918 c2 H locs ls hR hP hD hS hl
set_option maxHeartbeats 4000000 in
set_option maxRecDepth 100000 in
theorem lw_F {p : Program} {l : Launch} {e : Env} {s : State} {m : MethodId} {below : List Frame} {meth : Method} {c9 : Code} {b L : Nat} {xs : Nat → Int32} {G : zG} {a : Nat → Nat} {Q : State → Prop} (F : CallFix p m c9 cL_law 19 s #[.ref b] wsL_law RL) (hst : l.stackTraces = false) (hK : zK G s) (hZ : zZ (fun q => s.heap.size ≤ q) s s.heap) (hX : va_X b L xs s s.heap) (hbl : b < s.heap.size) (hL9 : L ≤ 260) (ht2 : ∀ w ∈ lw_tbl, w.before #[Value.ref b] s = true) {K0 : Nat} {V : Nat → Nat} {sh : Nat} (hKb : K0 ≤ 900) {cells0 slots0 : Nat} (hcs : cells0 + 18 * 2189 ≤ 732097 ∧ slots0 + 18 * 9483 ≤ 6905176) {tm : Nat} {x : Int32} {v : Nat} (hv : v ≤ 9) {A0 cand : Nat} (hA0 : A0 ≤ 18) (hcd : cand ≤ 729) (kk : (∀ (K : Nat) (X : Nat → Nat) (C : zCs) (t : zU) (c : zS) (sv sa sc sl : Nat) (rows : zRows) (cells slots : Nat) (H : Heap) (locs : List Loc) (ls : Array Slot), zLok K V X C t c (sv, sa, sc, sl, rows) → K ≤ K0 + 18 → cells ≤ cells0 + 18 * 2189 → slots ≤ slots0 + 18 * 9483 → va_P G.1 vwCl (zCW3 G a c ++ (([(sh, .inr (4, [.ref sv, .ref sa, .ref sc, .ref sl])), (sv, .inl (G.2.1, zn V, .inl (zar (zn V) V))), (sa, .inl (G.2.1, zn V, .inl (zar (zn V) X))), (sc, .inl (G.2.1, 6, .inl (zkt t))), (sl, .inl (G.2.2.1, rows.length, .inr (.inr (.inr (.inr (zlf rows))))))] : va_W) ++ rows.map (zrc G (zn V)))) H → va_D (fun q : Nat => s.heap.size ≤ q) (zCW3 G a c ++ (([(sh, .inr (4, [.ref sv, .ref sa, .ref sc, .ref sl])), (sv, .inl (G.2.1, zn V, .inl (zar (zn V) V))), (sa, .inl (G.2.1, zn V, .inl (zar (zn V) X))), (sc, .inl (G.2.1, 6, .inl (zkt t))), (sl, .inl (G.2.2.1, rows.length, .inr (.inr (.inr (.inr (zlf rows))))))] : va_W) ++ rows.map (zrc G (zn V)))) → va_S (fun q : Nat => s.heap.size ≤ q) s.heap H locs → lv_has ls 19 [(3, .int (nI tm)), (4, .int x), (0, .ref b), (1, .ref (a 0)), (2, .ref sh)] → W p l e room_1 s m #[.ref b] below meth c9 H locs cells slots Q (F0 m 966 ls []))) :
    ∀ (k : Nat) (e9 : Nat × Nat × Nat) (K : Nat) (X : Nat → Nat) (C : zCs) (t : zU) (c : zS) (sv sa sc sl : Nat) (rows : zRows) (cells slots : Nat) (H : Heap) (locs : List Loc) (ls : Array Slot), zLok K V X C t c (sv, sa, sc, sl, rows) → zF V X v = some e9 → e9.2.1 = k → k ≤ A0 → zNm C 729 ≤ cand → K ≤ K0 + (A0 - k) → cells + 2189 * k ≤ cells0 + 2189 * A0 → slots + 9483 * k ≤ slots0 + 9483 * A0 → va_P G.1 vwCl (zCW3 G a c ++ (([(sh, .inr (4, [.ref sv, .ref sa, .ref sc, .ref sl])), (sv, .inl (G.2.1, zn V, .inl (zar (zn V) V))), (sa, .inl (G.2.1, zn V, .inl (zar (zn V) X))), (sc, .inl (G.2.1, 6, .inl (zkt t))), (sl, .inl (G.2.2.1, rows.length, .inr (.inr (.inr (.inr (zlf rows))))))] : va_W) ++ rows.map (zrc G (zn V)))) H → va_D (fun q : Nat => s.heap.size ≤ q) (zCW3 G a c ++ (([(sh, .inr (4, [.ref sv, .ref sa, .ref sc, .ref sl])), (sv, .inl (G.2.1, zn V, .inl (zar (zn V) V))), (sa, .inl (G.2.1, zn V, .inl (zar (zn V) X))), (sc, .inl (G.2.1, 6, .inl (zkt t))), (sl, .inl (G.2.2.1, rows.length, .inr (.inr (.inr (.inr (zlf rows))))))] : va_W) ++ rows.map (zrc G (zn V)))) → va_S (fun q : Nat => s.heap.size ≤ q) s.heap H locs → lv_has ls 19 [(17, .int (nI k)), (16, .int (nI A0)), (9, .int (nI cand)), (15, .int (nI v)), (3, .int (nI tm)), (4, .int x), (0, .ref b), (1, .ref (a 0)), (2, .ref sh)] → W p l e room_1 s m #[.ref b] below meth c9 H locs cells slots Q (F0 m 719 ls []) := by
  obtain ⟨hx, hb, hml, hown, hts⟩ := id F
  have hA : ∀ q : Nat, s.heap.size ≤ q → (fun q : Nat => s.heap.size ≤ q) q := fun _ h => h
  have hbA : ¬ (fun q : Nat => s.heap.size ≤ q) b := Nat.not_le.mpr hbl
  have k821 : ∀ (k : Nat) (e9 : Nat × Nat × Nat) (K : Nat) (X : Nat → Nat) (C : zCs) (t : zU) (c : zS) (sv sa sc sl : Nat) (rows : zRows) (cells slots : Nat) (H : Heap) (locs : List Loc) (ls : Array Slot), zLok K V X C t c (sv, sa, sc, sl, rows) → zF V X v = some e9 → e9.2.1 = k → k ≤ A0 → zNm C 729 ≤ cand → K ≤ K0 + (A0 - k) → cells + 2189 * k ≤ cells0 + 2189 * A0 → slots + 9483 * k ≤ slots0 + 9483 * A0 → va_P G.1 vwCl (zCW3 G a c ++ (([(sh, .inr (4, [.ref sv, .ref sa, .ref sc, .ref sl])), (sv, .inl (G.2.1, zn V, .inl (zar (zn V) V))), (sa, .inl (G.2.1, zn V, .inl (zar (zn V) X))), (sc, .inl (G.2.1, 6, .inl (zkt t))), (sl, .inl (G.2.2.1, rows.length, .inr (.inr (.inr (.inr (zlf rows))))))] : va_W) ++ rows.map (zrc G (zn V)))) H → va_D (fun q : Nat => s.heap.size ≤ q) (zCW3 G a c ++ (([(sh, .inr (4, [.ref sv, .ref sa, .ref sc, .ref sl])), (sv, .inl (G.2.1, zn V, .inl (zar (zn V) V))), (sa, .inl (G.2.1, zn V, .inl (zar (zn V) X))), (sc, .inl (G.2.1, 6, .inl (zkt t))), (sl, .inl (G.2.2.1, rows.length, .inr (.inr (.inr (.inr (zlf rows))))))] : va_W) ++ rows.map (zrc G (zn V)))) → va_S (fun q : Nat => s.heap.size ≤ q) s.heap H locs → lv_has ls 19 [(16, .int (nI A0)), (9, .int (nI cand)), (15, .int (nI v)), (3, .int (nI tm)), (4, .int x), (0, .ref b), (1, .ref (a 0)), (2, .ref sh)] → W p l e room_1 s m #[.ref b] below meth c9 H locs cells slots Q (F0 m 821 ls []) := by
    intro k e9 K X C t c sv sa sc sl rows cells slots H locs ls hL he hk hkA hnc hKk hce hsl hP hD hS hl
    have hz := zn_23 V
    have hR := hL.1
    have hu := hL.2.1
    have ok := hR.ok
    have hr9 := hu.ok hR.cok
    have hN := hL.2.2.2.2.1
    have hac := hL.2.2.2.2.2.1
    have hgu := hL.2.2.2.2.2.2
    have h1c := hL.2.2.1.one hR.cok
    have h9c := zNm_le C 729
    refine lv_iload hx hb dL_law_821 (lv_at hl 0 rfl) ?_
    refine lv_if_ge (tgt := 829) hx hb dL_law_823 (by decide) (fun _ => ?_) (fun z => absurd (show (nI 0) ≤ (nI A0) from (nI_le (by omega) (by omega))) z)
    refine lv_aload_n hx hb dL_law_829 rfl (lv_at hl 6 rfl) ?_
    refine lv_iload hx hb dL_law_830 (lv_at hl 2 rfl) ?_
    refine zl_C (As := [.int (nI v)]) (rest := []) F (q_leastActs l G a hR hv) gL_law_X3_leastActs rfl rfl rfl zd_X3_leastActs ⟨(Nat.le_of_ble_eq_true rfl), (Nat.le_of_ble_eq_true rfl)⟩ rfl rfl (Nat.le_of_ble_eq_true rfl) dL_law_832 ⟨by show cells ≤ 732097; omega, by show slots ≤ 6905176; omega⟩ hK hP hD hS hA hl.1 (fun c H locs hR hP hD hS => ?_)
    refine zt_top (v := nI k) (by rw [he, ← hk]; rfl) ?_
    refine lv_istore (lv' := [(16, .int (nI k)), (9, .int (nI cand)), (15, .int (nI v)), (3, .int (nI tm)), (4, .int x), (0, .ref b), (1, .ref (a 0)), (2, .ref sh)]) hx hb dL_law_835 hl (by decide) rfl (fun ls hl => ?_)
    refine lv_iload hx hb dL_law_837 (lv_at hl 4 rfl) ?_
    refine lv_iconst (v := nI 4) hx hb dL_law_839 (by decide) ?_
    refine lv_ishr hx hb dL_law_840 ?_
    refine lv_iconst (v := nI 4) hx hb dL_law_841 (by decide) ?_
    refine zr_S (As := [.int (x >>> ((nI 4) &&& 31)), .int (nI 4)]) (rest := []) (wr := zCW3 G a c ++ (([(sh, .inr (4, [.ref sv, .ref sa, .ref sc, .ref sl])), (sv, .inl (G.2.1, zn V, .inl (zar (zn V) V))), (sa, .inl (G.2.1, zn V, .inl (zar (zn V) X))), (sc, .inl (G.2.1, 6, .inl (zkt t))), (sl, .inl (G.2.2.1, rows.length, .inr (.inr (.inr (.inr (zlf rows))))))] : va_W) ++ rows.map (zrc G (zn V)))) F (l_below l G ((x >>> ((nI 4) &&& 31))) (n := 4) (by omega) (by omega)) gL_law_L_below rfl rfl rfl zd_L_below ⟨(Nat.le_of_ble_eq_true rfl), (Nat.le_of_ble_eq_true rfl)⟩ rfl rfl (Nat.le_of_ble_eq_true rfl) dL_law_842 ⟨by show cells ≤ 732097; omega, by show slots ≤ 6905176; omega⟩ hK hP hD hS hA hl.1 (List.Perm.refl _) (fun _ H locs hP hD hS => ?_)
    have hP : va_P G.1 vwCl (zCW3 G a c ++ (([(sh, .inr (4, [.ref sv, .ref sa, .ref sc, .ref sl])), (sv, .inl (G.2.1, zn V, .inl (zar (zn V) V))), (sa, .inl (G.2.1, zn V, .inl (zar (zn V) X))), (sc, .inl (G.2.1, 6, .inl (zkt t))), (sl, .inl (G.2.2.1, rows.length, .inr (.inr (.inr (.inr (zlf rows))))))] : va_W) ++ rows.map (zrc G (zn V)))) H := hP
    have hD : va_D (fun q : Nat => s.heap.size ≤ q) (zCW3 G a c ++ (([(sh, .inr (4, [.ref sv, .ref sa, .ref sc, .ref sl])), (sv, .inl (G.2.1, zn V, .inl (zar (zn V) V))), (sa, .inl (G.2.1, zn V, .inl (zar (zn V) X))), (sc, .inl (G.2.1, 6, .inl (zkt t))), (sl, .inl (G.2.2.1, rows.length, .inr (.inr (.inr (.inr (zlf rows))))))] : va_W) ++ rows.map (zrc G (zn V)))) := hD
    obtain ⟨g, hg, eg⟩ : ∃ r, r < 4 ∧ zbl ((x >>> ((nI 4) &&& 31))) 4 = r := ⟨_, zbl_lt _ (by omega), rfl⟩
    rw [eg]
    refine lv_istore (lv' := [(17, .int (nI g)), (16, .int (nI k)), (9, .int (nI cand)), (15, .int (nI v)), (3, .int (nI tm)), (4, .int x), (0, .ref b), (1, .ref (a 0)), (2, .ref sh)]) hx hb dL_law_845 hl (by decide) rfl (fun ls hl => ?_)
    exact lw_G F hst hK hZ hX hbl hL9 ht2 hKb hcs hv hA0 hcd kk g k e9 K X C t c sv sa sc sl rows cells slots H locs ls (by omega) (hL.re hR) he hk hkA hnc hKk hce hsl hP hD hS (lv_sub hl [0, 1, 2, 3, 4, 5, 6, 7, 8] rfl)
  intro k
  induction k with
  | zero =>
    intro e9 K X C t c sv sa sc sl rows cells slots H locs ls hL he hk hkA hnc hKk hce hsl hP hD hS hl
    refine lv_iload hx hb dL_law_719 (lv_at hl 0 rfl) ?_
    refine lv_if_le (tgt := 821) hx hb dL_law_721 (by decide) (fun _ => ?_) (fun z => absurd (show (nI 0) ≤ (nI 0) from (by decide)) z)
    exact k821 0 e9 K X C t c sv sa sc sl rows cells slots H locs ls hL he hk hkA hnc hKk hce hsl hP hD hS (lv_sub hl [1, 2, 3, 4, 5, 6, 7, 8] rfl)
  | succ k ih =>
    intro e9 K X C t c sv sa sc sl rows cells slots H locs ls hL he hk hkA hnc hKk hce hsl hP hD hS hl
    have hz := zn_23 V
    have hR := hL.1
    have hu := hL.2.1
    have ok := hR.ok
    have hr9 := hu.ok hR.cok
    have hN := hL.2.2.2.2.1
    have hac := hL.2.2.2.2.2.1
    have hgu := hL.2.2.2.2.2.2
    have h1c := hL.2.2.1.one hR.cok
    have h9c := zNm_le C 729
    have k746 : ∀ (c : zS) (H : Heap) (locs : List Loc) (ls : Array Slot), zR V X C c t → va_P G.1 vwCl (zCW3 G a c ++ (([(sh, .inr (4, [.ref sv, .ref sa, .ref sc, .ref sl])), (sv, .inl (G.2.1, zn V, .inl (zar (zn V) V))), (sa, .inl (G.2.1, zn V, .inl (zar (zn V) X))), (sc, .inl (G.2.1, 6, .inl (zkt t))), (sl, .inl (G.2.2.1, rows.length, .inr (.inr (.inr (.inr (zlf rows))))))] : va_W) ++ rows.map (zrc G (zn V)))) H → va_D (fun q : Nat => s.heap.size ≤ q) (zCW3 G a c ++ (([(sh, .inr (4, [.ref sv, .ref sa, .ref sc, .ref sl])), (sv, .inl (G.2.1, zn V, .inl (zar (zn V) V))), (sa, .inl (G.2.1, zn V, .inl (zar (zn V) X))), (sc, .inl (G.2.1, 6, .inl (zkt t))), (sl, .inl (G.2.2.1, rows.length, .inr (.inr (.inr (.inr (zlf rows))))))] : va_W) ++ rows.map (zrc G (zn V)))) → va_S (fun q : Nat => s.heap.size ≤ q) s.heap H locs → lv_has ls 19 [(17, .int (nI (k + 1))), (16, .int (nI A0)), (9, .int (nI cand)), (15, .int (nI v)), (3, .int (nI tm)), (4, .int x), (0, .ref b), (1, .ref (a 0)), (2, .ref sh)] → W p l e room_1 s m #[.ref b] below meth c9 H locs cells slots Q (F0 m 746 ls []) := by
      intro c H locs ls hR hP hD hS hl
      obtain ⟨h15, hal, x9, hx9, hx1⟩ := zF_next ok he (by omega)
      have hth : ¬ zhas (zn V) X v = true := fun z => by
        rw [← zhas_congr (fun j hj => zdg_st ok hj)] at z
        have := (zF_here ok he).mp z
        omega
      refine lv_aload_n hx hb dL_law_746 rfl (lv_at hl 7 rfl) ?_
      refine lv_iload hx hb dL_law_747 (lv_at hl 3 rfl) ?_
      refine zl_C (As := [.int (nI v)]) (rest := []) F (q_nextAct l G a hR hv he (by omega)) gL_law_X3_nextAct rfl rfl rfl zd_X3_nextAct ⟨(Nat.le_of_ble_eq_true rfl), (Nat.le_of_ble_eq_true rfl)⟩ rfl rfl (Nat.le_of_ble_eq_true rfl) dL_law_749 ⟨by show cells ≤ 732097; omega, by show slots ≤ 6905176; omega⟩ hK hP hD hS hA hl.1 (fun c H locs hR hP hD hS => ?_)
      refine lv_istore (lv' := [(18, .int (nI e9.2.2)), (17, .int (nI (k + 1))), (16, .int (nI A0)), (9, .int (nI cand)), (15, .int (nI v)), (3, .int (nI tm)), (4, .int x), (0, .ref b), (1, .ref (a 0)), (2, .ref sh)]) hx hb dL_law_752 hl (by decide) rfl (fun ls hl => ?_)
      refine lv_aload_n hx hb dL_law_754 rfl (lv_at hl 8 rfl) ?_
      refine lv_iload hx hb dL_law_755 (lv_at hl 4 rfl) ?_
      refine zl_C (As := [.int (nI v)]) (rest := []) F (q_leastActs l G a hR hv) gL_law_X3_leastActs rfl rfl rfl zd_X3_leastActs ⟨(Nat.le_of_ble_eq_true rfl), (Nat.le_of_ble_eq_true rfl)⟩ rfl rfl (Nat.le_of_ble_eq_true rfl) dL_law_757 ⟨by show cells ≤ 732097; omega, by show slots ≤ 6905176; omega⟩ hK hP hD hS hA hl.1 (fun c H locs hR hP hD hS => ?_)
      refine zt_top (v := nI e9.2.1) (by rw [he]; rfl) ?_
      refine lv_iload hx hb dL_law_760 (lv_at hl 1 rfl) ?_
      refine lv_icmp_ne (tgt := 783) hx hb dL_law_762 (by decide) (fun z => absurd (show (nI e9.2.1) = (nI (k + 1)) from (congrArg nI hk)) z) (fun _ => ?_)
      refine lv_aload_n hx hb dL_law_765 rfl (lv_at hl 8 rfl) ?_
      refine lv_iload hx hb dL_law_766 (lv_at hl 4 rfl) ?_
      refine zl_C (As := [.int (nI v)]) (rest := []) F (q_isThere l G a hR hv) gL_law_X3_isThere rfl rfl rfl zd_X3_isThere ⟨(Nat.le_of_ble_eq_true rfl), (Nat.le_of_ble_eq_true rfl)⟩ rfl rfl (Nat.le_of_ble_eq_true rfl) dL_law_768 ⟨by show cells ≤ 732097; omega, by show slots ≤ 6905176; omega⟩ hK hP hD hS hA hl.1 (fun c H locs hR hP hD hS => ?_)
      refine lv_if_ne (tgt := 783) hx hb dL_law_771 (by decide) (fun z => absurd (show (zb01 (zhas (zn V) X v)) = (nI 0) from (by rw [Bool.eq_false_iff.mpr hth]; rfl)) z) (fun _ => ?_)
      refine lv_aload_n hx hb dL_law_774 rfl (lv_at hl 9 rfl) ?_
      refine lv_iload hx hb dL_law_775 (lv_at hl 0 rfl) ?_
      refine zl_M (As := [.int (nI e9.2.2)]) (rest := []) (u := (sv, sa, sc, sl, rows)) F (s_can l G hz h15 sh sv sa sc sl rows) gL_law_X4_can rfl rfl rfl zd_X4_can ⟨(Nat.le_of_ble_eq_true rfl), (Nat.le_of_ble_eq_true rfl)⟩ rfl rfl (Nat.le_of_ble_eq_true rfl) dL_law_777 ⟨by show cells ≤ 732097; omega, by show slots ≤ 6905176; omega⟩ hK hP hD hS hA hl.1 (fun _ H locs hP hD hS => ?_)
      have hP : va_P G.1 vwCl (zCW3 G a c ++ (([(sh, .inr (4, [.ref sv, .ref sa, .ref sc, .ref sl])), (sv, .inl (G.2.1, zn V, .inl (zar (zn V) V))), (sa, .inl (G.2.1, zn V, .inl (zar (zn V) X))), (sc, .inl (G.2.1, 6, .inl (zkt t))), (sl, .inl (G.2.2.1, rows.length, .inr (.inr (.inr (.inr (zlf rows))))))] : va_W) ++ rows.map (zrc G (zn V)))) H := hP
      have hD : va_D (fun q : Nat => s.heap.size ≤ q) (zCW3 G a c ++ (([(sh, .inr (4, [.ref sv, .ref sa, .ref sc, .ref sl])), (sv, .inl (G.2.1, zn V, .inl (zar (zn V) V))), (sa, .inl (G.2.1, zn V, .inl (zar (zn V) X))), (sc, .inl (G.2.1, 6, .inl (zkt t))), (sl, .inl (G.2.2.1, rows.length, .inr (.inr (.inr (.inr (zlf rows))))))] : va_W) ++ rows.map (zrc G (zn V)))) := hD
      refine lv_if_ne (tgt := 785) hx hb dL_law_780 (by decide) (fun _ => ?_) (fun z => absurd z (show ¬ (zb01 (zalB (zn V) e9.2.2)) = (nI 0) from (by rw [zalB_iff.mpr hal]; decide)))
      refine lv_aload_n hx hb dL_law_785 rfl (lv_at hl 8 rfl) ?_
      refine lv_iload hx hb dL_law_786 (lv_at hl 0 rfl) ?_
      refine zr_S (As := [.ref (a 0), .int (nI e9.2.2)]) (rest := []) (wr := zSW G sh (zn V) V X t (sv, sa, sc, sl, rows)) F (l_done l G a hR (h15) (hal)) gL_law_L_done rfl rfl rfl zd_L_done ⟨(Nat.le_of_ble_eq_true rfl), (Nat.le_of_ble_eq_true rfl)⟩ rfl rfl (Nat.le_of_ble_eq_true rfl) dL_law_788 ⟨by show cells ≤ 732097; omega, by show slots ≤ 6905176; omega⟩ hK hP hD hS hA hl.1 (List.Perm.refl _) (fun u9 H locs hP hD hS => ?_)
      obtain ⟨c2, hR2⟩ := u9
      have hP : va_P G.1 vwCl (zCW3 G a c2 ++ (([(sh, .inr (4, [.ref sv, .ref sa, .ref sc, .ref sl])), (sv, .inl (G.2.1, zn V, .inl (zar (zn V) V))), (sa, .inl (G.2.1, zn V, .inl (zar (zn V) X))), (sc, .inl (G.2.1, 6, .inl (zkt t))), (sl, .inl (G.2.2.1, rows.length, .inr (.inr (.inr (.inr (zlf rows))))))] : va_W) ++ rows.map (zrc G (zn V)))) H := hP
      have hD : va_D (fun q : Nat => s.heap.size ≤ q) (zCW3 G a c2 ++ (([(sh, .inr (4, [.ref sv, .ref sa, .ref sc, .ref sl])), (sv, .inl (G.2.1, zn V, .inl (zar (zn V) V))), (sa, .inl (G.2.1, zn V, .inl (zar (zn V) X))), (sc, .inl (G.2.1, 6, .inl (zkt t))), (sl, .inl (G.2.2.1, rows.length, .inr (.inr (.inr (.inr (zlf rows))))))] : va_W) ++ rows.map (zrc G (zn V)))) := hD
      refine lv_aload_n hx hb dL_law_791 rfl (lv_at hl 9 rfl) ?_
      refine lv_iload hx hb dL_law_792 (lv_at hl 0 rfl) ?_
      refine zl_M (As := [.int (nI e9.2.2)]) (rest := [.int (nI (zm V X e9.2.2))]) (u := (sv, sa, sc, sl, rows)) F (s_go l G sh sv sa sc sl rows hz hL.1.ok hr9 (h15) (hal)) gL_law_X4_go rfl rfl rfl zd_X4_go ⟨(Nat.le_of_ble_eq_true rfl), (Nat.le_of_ble_eq_true rfl)⟩ rfl rfl (Nat.le_of_ble_eq_true rfl) dL_law_794 ⟨show cells + 2189 ≤ 732097 by omega, show slots + 9483 ≤ 6905176 by omega⟩ hK hP hD hS hA hl.1 (fun u9 H locs hP hD hS => ?_)
      obtain ⟨⟨sv2, sa2, sc2, sl2, rows2⟩, hu2⟩ := u9
      have hP : va_P G.1 vwCl (zCW3 G a c2 ++ (([(sh, .inr (4, [.ref sv2, .ref sa2, .ref sc2, .ref sl2])), (sv2, .inl (G.2.1, zn V, .inl (zar (zn V) V))), (sa2, .inl (G.2.1, zn V, .inl (zar (zn V) (zmv V X e9.2.2)))), (sc2, .inl (G.2.1, 6, .inl (zkt (zUact V X e9.2.2 t)))), (sl2, .inl (G.2.2.1, rows2.length, .inr (.inr (.inr (.inr (zlf rows2))))))] : va_W) ++ rows2.map (zrc G (zn V)))) H := hP
      have hD : va_D (fun q : Nat => s.heap.size ≤ q) (zCW3 G a c2 ++ (([(sh, .inr (4, [.ref sv2, .ref sa2, .ref sc2, .ref sl2])), (sv2, .inl (G.2.1, zn V, .inl (zar (zn V) V))), (sa2, .inl (G.2.1, zn V, .inl (zar (zn V) (zmv V X e9.2.2)))), (sc2, .inl (G.2.1, 6, .inl (zkt (zUact V X e9.2.2 t)))), (sl2, .inl (G.2.2.1, rows2.length, .inr (.inr (.inr (.inr (zlf rows2))))))] : va_W) ++ rows2.map (zrc G (zn V)))) := hD
      have hL2 := hL.act h15 hal hR2 hu2
      have hR := hR2
      have hup := zNm_up C (zgSee (zn V) e9.2.2 (zlk V (zmv V X e9.2.2))) 729
      have hnc2 : zNm (zNew V X e9.2.2 C) 729 ≤ cand := Nat.le_trans hup hnc
      have ek : x9.2.1 = k := by omega
      refine lv_icmp_ne (tgt := 813) hx hb dL_law_797 (by decide) (fun z => absurd (show (nI (zm V X e9.2.2)) = (nI (zm V X e9.2.2)) from rfl) z) (fun _ => ?_)
      refine lv_aload_n hx hb dL_law_800 rfl (lv_at hl 8 rfl) ?_
      refine lv_iload hx hb dL_law_801 (lv_at hl 4 rfl) ?_
      refine zl_C (As := [.int (nI v)]) (rest := []) F (q_leastActs l G a hR hv) gL_law_X3_leastActs rfl rfl rfl zd_X3_leastActs ⟨(Nat.le_of_ble_eq_true rfl), (Nat.le_of_ble_eq_true rfl)⟩ rfl rfl (Nat.le_of_ble_eq_true rfl) dL_law_803 ⟨by show cells + 2189 ≤ 732097; omega, by show slots + 9483 ≤ 6905176; omega⟩ hK hP hD hS hA hl.1 (fun c2 H locs hR hP hD hS => ?_)
      refine zt_top (v := nI x9.2.1) (by rw [hx9]; rfl) ?_
      refine lv_iload hx hb dL_law_806 (lv_at hl 1 rfl) ?_
      refine lv_iconst (v := nI 1) hx hb dL_law_808 (by decide) ?_
      refine lv_isub hx hb dL_law_809 ?_
      refine zt_top (v := (nI k)) ((pk_sub (by omega)).trans (congrArg nI (by omega))) ?_
      refine lv_icmp_eq (tgt := 815) hx hb dL_law_810 (by decide) (fun _ => ?_) (fun z => absurd (show (nI x9.2.1) = (nI k) from (congrArg nI ek)) z)
      refine lv_iinc (v := (nI k)) (lv' := [(17, .int (nI k)), (18, .int (nI e9.2.2)), (16, .int (nI A0)), (9, .int (nI cand)), (15, .int (nI v)), (3, .int (nI tm)), (4, .int x), (0, .ref b), (1, .ref (a 0)), (2, .ref sh)]) hx hb dL_law_815 hl (k := 1) rfl (pk_pred1 k) (by decide) rfl (fun ls hl => ?_)
      refine lv_goto (tgt := 719) hx hb dL_law_818 (by decide) ?_
      exact ih x9 (K + 1) _ _ _ c2 sv2 sa2 sc2 sl2 rows2 (cells + 2189) (slots + 9483) H locs ls (hL2.re hR) hx9 ek (by omega) hnc2 (by omega) (by omega) (by omega) hP hD hS (lv_sub hl [0, 2, 3, 4, 5, 6, 7, 8, 9] rfl)
    refine lv_iload hx hb dL_law_719 (lv_at hl 0 rfl) ?_
    refine lv_if_le (tgt := 821) hx hb dL_law_721 (by decide) (fun z => absurd z (show ¬ (nI (k + 1)) ≤ (nI 0) from (nI_ge (by omega) (by omega)))) (fun _ => ?_)
    refine lv_iload hx hb dL_law_724 (lv_at hl 5 rfl) ?_
    refine lv_bipush (v := nI 7) hx hb dL_law_726 (by decide) ?_
    refine lv_ishr hx hb dL_law_728 ?_
    refine lv_iconst (v := nI 2) hx hb dL_law_729 (by decide) ?_
    refine zr_S (As := [.int (x >>> ((nI 7) &&& 31)), .int (nI 2)]) (rest := []) (wr := zCW3 G a c ++ (([(sh, .inr (4, [.ref sv, .ref sa, .ref sc, .ref sl])), (sv, .inl (G.2.1, zn V, .inl (zar (zn V) V))), (sa, .inl (G.2.1, zn V, .inl (zar (zn V) X))), (sc, .inl (G.2.1, 6, .inl (zkt t))), (sl, .inl (G.2.2.1, rows.length, .inr (.inr (.inr (.inr (zlf rows))))))] : va_W) ++ rows.map (zrc G (zn V)))) F (l_below l G ((x >>> ((nI 7) &&& 31))) (n := 2) (by omega) (by omega)) gL_law_L_below rfl rfl rfl zd_L_below ⟨(Nat.le_of_ble_eq_true rfl), (Nat.le_of_ble_eq_true rfl)⟩ rfl rfl (Nat.le_of_ble_eq_true rfl) dL_law_730 ⟨by show cells ≤ 732097; omega, by show slots ≤ 6905176; omega⟩ hK hP hD hS hA hl.1 (List.Perm.refl _) (fun _ H locs hP hD hS => ?_)
    have hP : va_P G.1 vwCl (zCW3 G a c ++ (([(sh, .inr (4, [.ref sv, .ref sa, .ref sc, .ref sl])), (sv, .inl (G.2.1, zn V, .inl (zar (zn V) V))), (sa, .inl (G.2.1, zn V, .inl (zar (zn V) X))), (sc, .inl (G.2.1, 6, .inl (zkt t))), (sl, .inl (G.2.2.1, rows.length, .inr (.inr (.inr (.inr (zlf rows))))))] : va_W) ++ rows.map (zrc G (zn V)))) H := hP
    have hD : va_D (fun q : Nat => s.heap.size ≤ q) (zCW3 G a c ++ (([(sh, .inr (4, [.ref sv, .ref sa, .ref sc, .ref sl])), (sv, .inl (G.2.1, zn V, .inl (zar (zn V) V))), (sa, .inl (G.2.1, zn V, .inl (zar (zn V) X))), (sc, .inl (G.2.1, 6, .inl (zkt t))), (sl, .inl (G.2.2.1, rows.length, .inr (.inr (.inr (.inr (zlf rows))))))] : va_W) ++ rows.map (zrc G (zn V)))) := hD
    obtain ⟨g, hg, eg⟩ : ∃ r, r < 2 ∧ zbl ((x >>> ((nI 7) &&& 31))) 2 = r := ⟨_, zbl_lt _ (by omega), rfl⟩
    rw [eg]
    by_cases q : g = 0
    · refine lv_if_ne (tgt := 746) hx hb dL_law_733 (by decide) (fun z => absurd (show (nI g) = (nI 0) from (show nI g = nI 0 from congrArg nI q)) z) (fun _ => ?_)
      refine lv_iload hx hb dL_law_736 (lv_at hl 0 rfl) ?_
      refine lv_iload hx hb dL_law_738 (lv_at hl 1 rfl) ?_
      by_cases q2 : k + 1 < A0
      · refine lv_icmp_ge (tgt := 746) hx hb dL_law_740 (by decide) (fun z => absurd z (show ¬ (nI A0) ≤ (nI (k + 1)) from (nI_ge (by omega) (by omega)))) (fun _ => ?_)
        refine lv_goto (tgt := 821) hx hb dL_law_743 (by decide) ?_
        exact k821 (k + 1) e9 K X C t c sv sa sc sl rows cells slots H locs ls hL he hk hkA hnc hKk hce hsl hP hD hS (lv_sub hl [1, 2, 3, 4, 5, 6, 7, 8] rfl)
      · refine lv_icmp_ge (tgt := 746) hx hb dL_law_740 (by decide) (fun _ => ?_) (fun z => absurd (show (nI A0) ≤ (nI (k + 1)) from (nI_le (by omega) (by omega))) z)
        exact k746 c H locs ls hR hP hD hS (lv_sub hl [0, 1, 2, 3, 4, 5, 6, 7, 8] rfl)
    · refine lv_if_ne (tgt := 746) hx hb dL_law_733 (by decide) (fun _ => ?_) (fun z => absurd z (show ¬ (nI g) = (nI 0) from (fun z => q ((nI_eq (by omega) (by omega)).mp z))))
      exact k746 c H locs ls hR hP hD hS (lv_sub hl [0, 1, 2, 3, 4, 5, 6, 7, 8] rfl)
set_option maxHeartbeats 4000000 in
set_option maxRecDepth 100000 in
theorem lw_ways {p : Program} {l : Launch} {e : Env} {s : State} {m : MethodId} {below : List Frame} {meth : Method} {c9 : Code} {b L : Nat} {xs : Nat → Int32} {G : zG} {a : Nat → Nat} {Q : State → Prop} (F : CallFix p m c9 cL_law 19 s #[.ref b] wsL_law RL) (hst : l.stackTraces = false) (hK : zK G s) (hZ : zZ (fun q => s.heap.size ≤ q) s s.heap) (hX : va_X b L xs s s.heap) (hbl : b < s.heap.size) (hL9 : L ≤ 260) (ht2 : ∀ w ∈ lw_tbl, w.before #[Value.ref b] s = true) {V X : Nat → Nat} {C : zCs} {t : zU} {c : zS} {sh sv sa sc sl : Nat} {rows : zRows} {K0 cells0 slots0 tm : Nat} {x : Int32} (hKb : K0 ≤ 900) (hcs : cells0 + 18 * 2189 ≤ 732097 ∧ slots0 + 18 * 9483 ≤ 6905176) (hL : zLok K0 V X C t c (sv, sa, sc, sl, rows)) {H : Heap} {locs : List Loc} {ls : Array Slot} (hP : va_P G.1 vwCl (zCW3 G a c ++ (([(sh, .inr (4, [.ref sv, .ref sa, .ref sc, .ref sl])), (sv, .inl (G.2.1, zn V, .inl (zar (zn V) V))), (sa, .inl (G.2.1, zn V, .inl (zar (zn V) X))), (sc, .inl (G.2.1, 6, .inl (zkt t))), (sl, .inl (G.2.2.1, rows.length, .inr (.inr (.inr (.inr (zlf rows))))))] : va_W) ++ rows.map (zrc G (zn V)))) H) (hD : va_D (fun q : Nat => s.heap.size ≤ q) (zCW3 G a c ++ (([(sh, .inr (4, [.ref sv, .ref sa, .ref sc, .ref sl])), (sv, .inl (G.2.1, zn V, .inl (zar (zn V) V))), (sa, .inl (G.2.1, zn V, .inl (zar (zn V) X))), (sc, .inl (G.2.1, 6, .inl (zkt t))), (sl, .inl (G.2.2.1, rows.length, .inr (.inr (.inr (.inr (zlf rows))))))] : va_W) ++ rows.map (zrc G (zn V))))) (hS : va_S (fun q : Nat => s.heap.size ≤ q) s.heap H locs) (hl : lv_has ls 19 [(9, .int (nI (zNm C 729))), (3, .int (nI tm)), (4, .int x), (0, .ref b), (1, .ref (a 0)), (2, .ref sh)])
    (kk : (∀ (K : Nat) (X : Nat → Nat) (C : zCs) (t : zU) (c : zS) (sv sa sc sl : Nat) (rows : zRows) (cells slots : Nat) (H : Heap) (locs : List Loc) (ls : Array Slot), zLok K V X C t c (sv, sa, sc, sl, rows) → K ≤ K0 + 18 → cells ≤ cells0 + 18 * 2189 → slots ≤ slots0 + 18 * 9483 → va_P G.1 vwCl (zCW3 G a c ++ (([(sh, .inr (4, [.ref sv, .ref sa, .ref sc, .ref sl])), (sv, .inl (G.2.1, zn V, .inl (zar (zn V) V))), (sa, .inl (G.2.1, zn V, .inl (zar (zn V) X))), (sc, .inl (G.2.1, 6, .inl (zkt t))), (sl, .inl (G.2.2.1, rows.length, .inr (.inr (.inr (.inr (zlf rows))))))] : va_W) ++ rows.map (zrc G (zn V)))) H → va_D (fun q : Nat => s.heap.size ≤ q) (zCW3 G a c ++ (([(sh, .inr (4, [.ref sv, .ref sa, .ref sc, .ref sl])), (sv, .inl (G.2.1, zn V, .inl (zar (zn V) V))), (sa, .inl (G.2.1, zn V, .inl (zar (zn V) X))), (sc, .inl (G.2.1, 6, .inl (zkt t))), (sl, .inl (G.2.2.1, rows.length, .inr (.inr (.inr (.inr (zlf rows))))))] : va_W) ++ rows.map (zrc G (zn V)))) → va_S (fun q : Nat => s.heap.size ≤ q) s.heap H locs → lv_has ls 19 [(3, .int (nI tm)), (4, .int x), (0, .ref b), (1, .ref (a 0)), (2, .ref sh)] → W p l e room_1 s m #[.ref b] below meth c9 H locs cells slots Q (F0 m 966 ls []))) :
    W p l e room_1 s m #[.ref b] below meth c9 H locs cells0 slots0 Q (F0 m 695 ls []) := by
  obtain ⟨hx, hb, hml, hown, hts⟩ := id F
  have hA : ∀ q : Nat, s.heap.size ≤ q → (fun q : Nat => s.heap.size ≤ q) q := fun _ h => h
  have hbA : ¬ (fun q : Nat => s.heap.size ≤ q) b := Nat.not_le.mpr hbl
  have hz := zn_23 V
  have hR := hL.1
  have hu := hL.2.1
  have ok := hR.ok
  have hr9 := hu.ok hR.cok
  have hN := hL.2.2.2.2.1
  have hac := hL.2.2.2.2.2.1
  have hgu := hL.2.2.2.2.2.2
  have h1c := hL.2.2.1.one hR.cok
  have h9c := zNm_le C 729
  obtain ⟨cells, hce⟩ : ∃ k, k = cells0 := ⟨_, rfl⟩
  obtain ⟨slots, hsl⟩ : ∃ k, k = slots0 := ⟨_, rfl⟩
  rw [← hce, ← hsl]
  refine lv_iload hx hb dL_law_695 (lv_at hl 2 rfl) ?_
  refine lv_bipush (v := nI 6) hx hb dL_law_697 (by decide) ?_
  refine lv_ishr hx hb dL_law_699 ?_
  refine lv_bipush (v := nI 10) hx hb dL_law_700 (by decide) ?_
  refine zr_S (As := [.int (x >>> ((nI 6) &&& 31)), .int (nI 10)]) (rest := []) (wr := zCW3 G a c ++ (([(sh, .inr (4, [.ref sv, .ref sa, .ref sc, .ref sl])), (sv, .inl (G.2.1, zn V, .inl (zar (zn V) V))), (sa, .inl (G.2.1, zn V, .inl (zar (zn V) X))), (sc, .inl (G.2.1, 6, .inl (zkt t))), (sl, .inl (G.2.2.1, rows.length, .inr (.inr (.inr (.inr (zlf rows))))))] : va_W) ++ rows.map (zrc G (zn V)))) F (l_below l G ((x >>> ((nI 6) &&& 31))) (n := 10) (by omega) (by omega)) gL_law_L_below rfl rfl rfl zd_L_below ⟨(Nat.le_of_ble_eq_true rfl), (Nat.le_of_ble_eq_true rfl)⟩ rfl rfl (Nat.le_of_ble_eq_true rfl) dL_law_702 ⟨by show cells ≤ 732097; omega, by show slots ≤ 6905176; omega⟩ hK hP hD hS hA hl.1 (List.Perm.refl _) (fun _ H locs hP hD hS => ?_)
  have hP : va_P G.1 vwCl (zCW3 G a c ++ (([(sh, .inr (4, [.ref sv, .ref sa, .ref sc, .ref sl])), (sv, .inl (G.2.1, zn V, .inl (zar (zn V) V))), (sa, .inl (G.2.1, zn V, .inl (zar (zn V) X))), (sc, .inl (G.2.1, 6, .inl (zkt t))), (sl, .inl (G.2.2.1, rows.length, .inr (.inr (.inr (.inr (zlf rows))))))] : va_W) ++ rows.map (zrc G (zn V)))) H := hP
  have hD : va_D (fun q : Nat => s.heap.size ≤ q) (zCW3 G a c ++ (([(sh, .inr (4, [.ref sv, .ref sa, .ref sc, .ref sl])), (sv, .inl (G.2.1, zn V, .inl (zar (zn V) V))), (sa, .inl (G.2.1, zn V, .inl (zar (zn V) X))), (sc, .inl (G.2.1, 6, .inl (zkt t))), (sl, .inl (G.2.2.1, rows.length, .inr (.inr (.inr (.inr (zlf rows))))))] : va_W) ++ rows.map (zrc G (zn V)))) := hD
  obtain ⟨v, hv, ev⟩ : ∃ r, r < 10 ∧ zbl ((x >>> ((nI 6) &&& 31))) 10 = r := ⟨_, zbl_lt _ (by omega), rfl⟩
  rw [ev]
  refine lv_istore (lv' := [(15, .int (nI v)), (9, .int (nI (zNm C 729))), (3, .int (nI tm)), (4, .int x), (0, .ref b), (1, .ref (a 0)), (2, .ref sh)]) hx hb dL_law_705 hl (by decide) rfl (fun ls hl => ?_)
  refine lv_aload_n hx hb dL_law_707 rfl (lv_at hl 5 rfl) ?_
  refine lv_iload hx hb dL_law_708 (lv_at hl 0 rfl) ?_
  refine zl_C (As := [.int (nI v)]) (rest := []) F (q_leastActs l G a hR (show v ≤ 9 by omega)) gL_law_X3_leastActs rfl rfl rfl zd_X3_leastActs ⟨(Nat.le_of_ble_eq_true rfl), (Nat.le_of_ble_eq_true rfl)⟩ rfl rfl (Nat.le_of_ble_eq_true rfl) dL_law_710 ⟨by show cells ≤ 732097; omega, by show slots ≤ 6905176; omega⟩ hK hP hD hS hA hl.1 (fun c H locs hR hP hD hS => ?_)
  cases hF9 : zF V X v with
  | none =>
    refine zt_top (v := (-1 : Int32)) rfl ?_
    refine lv_istore (lv' := [(16, .int (-1 : Int32)), (15, .int (nI v)), (9, .int (nI (zNm C 729))), (3, .int (nI tm)), (4, .int x), (0, .ref b), (1, .ref (a 0)), (2, .ref sh)]) hx hb dL_law_713 hl (by decide) rfl (fun ls hl => ?_)
    refine lv_iload hx hb dL_law_715 (lv_at hl 0 rfl) ?_
    refine lv_istore (lv' := [(17, .int (-1 : Int32)), (16, .int (-1 : Int32)), (15, .int (nI v)), (9, .int (nI (zNm C 729))), (3, .int (nI tm)), (4, .int x), (0, .ref b), (1, .ref (a 0)), (2, .ref sh)]) hx hb dL_law_717 hl (by decide) rfl (fun ls hl => ?_)
    refine lv_iload hx hb dL_law_719 (lv_at hl 0 rfl) ?_
    refine lv_if_le (tgt := 821) hx hb dL_law_721 (by decide) (fun _ => ?_) (fun z => absurd (show (-1 : Int32) ≤ (nI 0) from (show (-1 : Int32) ≤ 0 from by decide)) z)
    refine lv_iload hx hb dL_law_821 (lv_at hl 1 rfl) ?_
    refine lv_if_ge (tgt := 829) hx hb dL_law_823 (by decide) (fun z => absurd z (show ¬ (nI 0) ≤ (-1 : Int32) from (show ¬ (0 : Int32) ≤ -1 from by decide))) (fun _ => ?_)
    refine lv_goto (tgt := 966) hx hb dL_law_826 (by decide) ?_
    exact kk K0 X C t c sv sa sc sl rows cells slots H locs ls (hL.re hR) (by omega) (by omega) (by omega) hP hD hS (lv_sub hl [4, 5, 6, 7, 8] rfl)
  | some e9 =>
    refine zt_top (v := nI e9.2.1) rfl ?_
    have h18 := zF_18 ok hL.1.pv hL.2.2.2.1 (show v ≤ 9 by omega) hF9
    refine lv_istore (lv' := [(16, .int (nI e9.2.1)), (15, .int (nI v)), (9, .int (nI (zNm C 729))), (3, .int (nI tm)), (4, .int x), (0, .ref b), (1, .ref (a 0)), (2, .ref sh)]) hx hb dL_law_713 hl (by decide) rfl (fun ls hl => ?_)
    refine lv_iload hx hb dL_law_715 (lv_at hl 0 rfl) ?_
    refine lv_istore (lv' := [(17, .int (nI e9.2.1)), (16, .int (nI e9.2.1)), (15, .int (nI v)), (9, .int (nI (zNm C 729))), (3, .int (nI tm)), (4, .int x), (0, .ref b), (1, .ref (a 0)), (2, .ref sh)]) hx hb dL_law_717 hl (by decide) rfl (fun ls hl => ?_)
    exact lw_F F hst hK hZ hX hbl hL9 ht2 hKb hcs (show v ≤ 9 by omega) (A0 := e9.2.1) (cand := zNm C 729) h18 h9c kk e9.2.1 e9 K0 X C t c sv sa sc sl rows cells slots H locs ls (hL.re hR) hF9 rfl (Nat.le_refl _) (Nat.le_refl _) (by omega) (by omega) (by omega) hP hD hS (lv_sub hl [0, 1, 3, 2, 4, 5, 6, 7, 8] rfl)
