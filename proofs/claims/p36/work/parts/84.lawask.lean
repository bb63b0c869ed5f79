/-! the law's questions: nothing changes -/
set_option maxHeartbeats 4000000 in
set_option maxRecDepth 100000 in
theorem lw_ask {p : Program} {l : Launch} {e : Env} {s : State} {m : MethodId} {below : List Frame} {meth : Method} {c9 : Code} {b L : Nat} {xs : Nat → Int32} {G : zG} {a : Nat → Nat} {Q : State → Prop} (F : CallFix p m c9 cL_law 19 s #[.ref b] wsL_law RL) (hst : l.stackTraces = false) (hK : zK G s) (hZ : zZ (fun q => s.heap.size ≤ q) s s.heap) (hX : va_X b L xs s s.heap) (hbl : b < s.heap.size) (hL9 : L ≤ 260) {K : Nat} {V X : Nat → Nat} {C : zCs} {t : zU} {c : zS} {sh sv sa sc sl : Nat} {rows : zRows} (hL : zLok K V X C t c (sv, sa, sc, sl, rows)) (hKb : K ≤ 1000) {cells slots : Nat} {tm : Nat} {x : Int32} (hcs : cells ≤ room_1.cells ∧ slots ≤ room_1.slots) {H : Heap} {locs : List Loc} {ls : Array Slot} (hP : va_P G.1 vwCl (zCW3 G a c ++ (([(sh, .inr (4, [.ref sv, .ref sa, .ref sc, .ref sl])), (sv, .inl (G.2.1, zn V, .inl (zar (zn V) V))), (sa, .inl (G.2.1, zn V, .inl (zar (zn V) X))), (sc, .inl (G.2.1, 6, .inl (zkt t))), (sl, .inl (G.2.2.1, rows.length, .inr (.inr (.inr (.inr (zlf rows))))))] : va_W) ++ rows.map (zrc G (zn V)))) H) (hD : va_D (fun q : Nat => s.heap.size ≤ q) (zCW3 G a c ++ (([(sh, .inr (4, [.ref sv, .ref sa, .ref sc, .ref sl])), (sv, .inl (G.2.1, zn V, .inl (zar (zn V) V))), (sa, .inl (G.2.1, zn V, .inl (zar (zn V) X))), (sc, .inl (G.2.1, 6, .inl (zkt t))), (sl, .inl (G.2.2.1, rows.length, .inr (.inr (.inr (.inr (zlf rows))))))] : va_W) ++ rows.map (zrc G (zn V))))) (hS : va_S (fun q : Nat => s.heap.size ≤ q) s.heap H locs) (hl : lv_has ls 19 [(3, .int (nI tm)), (4, .int x), (0, .ref b), (1, .ref (a 0)), (2, .ref sh)])
    (kk : ∀ (c : zS) (H : Heap) (locs : List Loc) (ls : Array Slot), zR V X C c t → va_P G.1 vwCl (zCW3 G a c ++ (([(sh, .inr (4, [.ref sv, .ref sa, .ref sc, .ref sl])), (sv, .inl (G.2.1, zn V, .inl (zar (zn V) V))), (sa, .inl (G.2.1, zn V, .inl (zar (zn V) X))), (sc, .inl (G.2.1, 6, .inl (zkt t))), (sl, .inl (G.2.2.1, rows.length, .inr (.inr (.inr (.inr (zlf rows))))))] : va_W) ++ rows.map (zrc G (zn V)))) H → va_D (fun q : Nat => s.heap.size ≤ q) (zCW3 G a c ++ (([(sh, .inr (4, [.ref sv, .ref sa, .ref sc, .ref sl])), (sv, .inl (G.2.1, zn V, .inl (zar (zn V) V))), (sa, .inl (G.2.1, zn V, .inl (zar (zn V) X))), (sc, .inl (G.2.1, 6, .inl (zkt t))), (sl, .inl (G.2.2.1, rows.length, .inr (.inr (.inr (.inr (zlf rows))))))] : va_W) ++ rows.map (zrc G (zn V)))) → va_S (fun q : Nat => s.heap.size ≤ q) s.heap H locs → lv_has ls 19 [(14, .int (zBq (zn V) C 9 6 (-1) (zNm C 729)).1), (13, .int (nI ((zBq (zn V) C 9 6 (-1) (zNm C 729)).2))), (9, .int (nI (zNm C 729))), (5, .long (zDig V X C t)), (3, .int (nI tm)), (4, .int x), (0, .ref b), (1, .ref (a 0)), (2, .ref sh)] → W p l e room_1 s m #[.ref b] below meth c9 H locs cells slots Q (F0 m 613 ls [])) :
    W p l e room_1 s m #[.ref b] below meth c9 H locs cells slots Q (F0 m 80 ls []) := by
  obtain ⟨hx, hb, hml, hown, hts⟩ := id F
  have hA : ∀ q : Nat, s.heap.size ≤ q → (fun q : Nat => s.heap.size ≤ q) q := fun _ h => h
  have hbA : ¬ (fun q : Nat => s.heap.size ≤ q) b := Nat.not_le.mpr hbl
  have hz := zn_23 V
  have hR := hL.1
  have hu := hL.2.1
  have ok := hR.ok
  have hr9 := hu.ok hR.cok
  have hN := hL.2.2.2.2.1
  have hac := hL.2.2.2.2.2.1
  have hgu := hL.2.2.2.2.2.2
  have h1c := hL.2.2.1.one hR.cok
  have h9c := zNm_le C 729
  have hs3 := zsum_n ok
  have hb3 := zsum_le ok (zn V) (by omega)
  have hbc : ∀ f k, zBc f k ≤ k := fun f k => by
    induction k with
    | zero => exact Nat.le_refl _
    | succ k ih => unfold zBc; split <;> omega
  obtain ⟨D, hFr, hD9, hlen9, hE1, hE0, hEn, hEl, hEc⟩ := zBd ok
  have hcnt := zNm_cnt hR.cok 729
  have loopE : ∀ (r k : Nat) (best : Int32) (w : Nat) (c : zS) (H : Heap) (locs : List Loc) (ls : Array Slot), k + r = 15 → 6 ≤ k → w ≤ zNm C 729 → zBq (zn V) C r k best w = (zBq (zn V) C 9 6 (-1) (zNm C 729)) → zR V X C c t → va_P G.1 vwCl (zCW3 G a c ++ (([(sh, .inr (4, [.ref sv, .ref sa, .ref sc, .ref sl])), (sv, .inl (G.2.1, zn V, .inl (zar (zn V) V))), (sa, .inl (G.2.1, zn V, .inl (zar (zn V) X))), (sc, .inl (G.2.1, 6, .inl (zkt t))), (sl, .inl (G.2.2.1, rows.length, .inr (.inr (.inr (.inr (zlf rows))))))] : va_W) ++ rows.map (zrc G (zn V)))) H → va_D (fun q : Nat => s.heap.size ≤ q) (zCW3 G a c ++ (([(sh, .inr (4, [.ref sv, .ref sa, .ref sc, .ref sl])), (sv, .inl (G.2.1, zn V, .inl (zar (zn V) V))), (sa, .inl (G.2.1, zn V, .inl (zar (zn V) X))), (sc, .inl (G.2.1, 6, .inl (zkt t))), (sl, .inl (G.2.2.1, rows.length, .inr (.inr (.inr (.inr (zlf rows))))))] : va_W) ++ rows.map (zrc G (zn V)))) → va_S (fun q : Nat => s.heap.size ≤ q) s.heap H locs → lv_has ls 19 [(15, .int (nI k)), (14, .int best), (13, .int (nI w)), (9, .int (nI (zNm C 729))), (5, .long (zDig V X C t)), (3, .int (nI tm)), (4, .int x), (0, .ref b), (1, .ref (a 0)), (2, .ref sh)] → W p l e room_1 s m #[.ref b] below meth c9 H locs cells slots Q (F0 m 539 ls []) := by
    intro r
    induction r with
    | zero =>
      intro k best w c H locs ls hk h6 hw hq hR hP hD hS hl
      obtain rfl : k = 15 := by omega
      refine lv_iload hx hb dL_law_539 (lv_at hl 0 rfl) ?_
      refine lv_bipush (v := nI 15) hx hb dL_law_541 (by decide) ?_
      refine lv_icmp_ge (tgt := 613) hx hb dL_law_543 (by decide) (fun _ => ?_) (fun z => absurd (show (nI 15) ≤ (nI 15) from (by decide)) z)
      have e1 : best = (zBq (zn V) C 9 6 (-1) (zNm C 729)).1 := congrArg Prod.fst hq
      have e2 : w = (zBq (zn V) C 9 6 (-1) (zNm C 729)).2 := congrArg Prod.snd hq
      rw [e1, e2] at hl
      exact kk c H locs ls hR hP hD hS (lv_sub hl [1, 2, 3, 4, 5, 6, 7, 8, 9] rfl)
    | succ r ih =>
      intro k best w c H locs ls hk h6 hw hq hR hP hD hS hl
      have hq2 := hq
      unfold zBq at hq2
      refine lv_iload hx hb dL_law_539 (lv_at hl 0 rfl) ?_
      refine lv_bipush (v := nI 15) hx hb dL_law_541 (by decide) ?_
      refine lv_icmp_ge (tgt := 613) hx hb dL_law_543 (by decide) (fun z => absurd z (show ¬ (nI 15) ≤ (nI k) from (nI_ge (by omega) (by omega)))) (fun _ => ?_)
      refine lv_aload_n hx hb dL_law_546 rfl (lv_at hl 9 rfl) ?_
      refine lv_iload hx hb dL_law_547 (lv_at hl 0 rfl) ?_
      refine zl_M (As := [.int (nI k)]) (rest := []) (u := (sv, sa, sc, sl, rows)) F (s_can l G hz (show k < 15 by omega) sh sv sa sc sl rows) gL_law_X4_can rfl rfl rfl zd_X4_can ⟨(Nat.le_of_ble_eq_true rfl), (Nat.le_of_ble_eq_true rfl)⟩ rfl rfl (Nat.le_of_ble_eq_true rfl) dL_law_549 hcs hK hP hD hS hA hl.1 (fun _ H locs hP hD hS => ?_)
      have hP : va_P G.1 vwCl (zCW3 G a c ++ (([(sh, .inr (4, [.ref sv, .ref sa, .ref sc, .ref sl])), (sv, .inl (G.2.1, zn V, .inl (zar (zn V) V))), (sa, .inl (G.2.1, zn V, .inl (zar (zn V) X))), (sc, .inl (G.2.1, 6, .inl (zkt t))), (sl, .inl (G.2.2.1, rows.length, .inr (.inr (.inr (.inr (zlf rows))))))] : va_W) ++ rows.map (zrc G (zn V)))) H := hP
      have hD : va_D (fun q : Nat => s.heap.size ≤ q) (zCW3 G a c ++ (([(sh, .inr (4, [.ref sv, .ref sa, .ref sc, .ref sl])), (sv, .inl (G.2.1, zn V, .inl (zar (zn V) V))), (sa, .inl (G.2.1, zn V, .inl (zar (zn V) X))), (sc, .inl (G.2.1, 6, .inl (zkt t))), (sl, .inl (G.2.2.1, rows.length, .inr (.inr (.inr (.inr (zlf rows))))))] : va_W) ++ rows.map (zrc G (zn V)))) := hD
      by_cases q : zalB (zn V) k = true
      · rw [if_pos q] at hq2
        have hal := zalB_iff.mp q
        unfold zal at hal
        rw [if_neg (by omega), if_neg (by omega)] at hal
        have ek : k = 6 + 3 * ((k - 6) / 3) + (k - 6) % 3 := by omega
        have hM := zMost_new ok hR.cok (a := k) (by omega)
        refine lv_if_ne (tgt := 558) hx hb dL_law_552 (by decide) (fun _ => ?_) (fun z => absurd z (show ¬ (zb01 (zalB (zn V) k)) = (nI 0) from (by rw [q]; decide)))
        refine lv_aload_n hx hb dL_law_558 rfl (lv_at hl 8 rfl) ?_
        refine lv_iload hx hb dL_law_559 (lv_at hl 0 rfl) ?_
        refine lv_iconst (v := nI 3) hx hb dL_law_561 (by decide) ?_
        refine lv_idiv hx hb dL_law_562 (by decide) ?_
        refine zt_top (v := (nI ((k - 6) / 3 + 2))) ((pk_div (by omega) (by omega) (by omega)).trans (congrArg nI (by omega))) ?_
        refine lv_iconst (v := nI 2) hx hb dL_law_563 (by decide) ?_
        refine lv_isub hx hb dL_law_564 ?_
        refine zt_top (v := (nI ((k - 6) / 3))) ((pk_sub (by omega)).trans (congrArg nI (by omega))) ?_
        refine lv_iload hx hb dL_law_565 (lv_at hl 0 rfl) ?_
        refine lv_iconst (v := nI 3) hx hb dL_law_567 (by decide) ?_
        refine lv_irem hx hb dL_law_568 (by decide) ?_
        refine zt_top (v := (nI ((k - 6) % 3))) ((pk_rem (by omega) (by omega) (by omega)).trans (congrArg nI (by omega))) ?_
        refine zl_C (As := [.int (nI ((k - 6) / 3)), .int (nI ((k - 6) % 3))]) (rest := []) F (q_leftAtMost l G a hR hal.1 hal.2.1 hal.2.2) gL_law_X3_leftAtMost rfl rfl rfl zd_X3_leftAtMost ⟨(Nat.le_of_ble_eq_true rfl), (Nat.le_of_ble_eq_true rfl)⟩ rfl rfl (Nat.le_of_ble_eq_true rfl) dL_law_569 hcs hK hP hD hS hA hl.1 (fun c H locs hR hP hD hS => ?_)
        rw [← ek]
        have m1 := hM.2.2 (by omega)
        have m2 := hM.2.1
        refine lv_istore (lv' := [(16, .int (nI (zMost (zn V) C k))), (15, .int (nI k)), (14, .int best), (13, .int (nI w)), (9, .int (nI (zNm C 729))), (5, .long (zDig V X C t)), (3, .int (nI tm)), (4, .int x), (0, .ref b), (1, .ref (a 0)), (2, .ref sh)]) hx hb dL_law_572 hl (by decide) rfl (fun ls hl => ?_)
        refine lv_iload hx hb dL_law_574 (lv_at hl 0 rfl) ?_
        refine lv_iconst (v := nI 1) hx hb dL_law_576 (by decide) ?_
        refine lv_icmp_lt (tgt := 587) hx hb dL_law_577 (by decide) (fun z => absurd z (show ¬ (nI (zMost (zn V) C k)) < (nI 1) from (nI_nlt (by omega) (by omega)))) (fun _ => ?_)
        refine lv_iload hx hb dL_law_580 (lv_at hl 0 rfl) ?_
        refine lv_iload hx hb dL_law_582 (lv_at hl 4 rfl) ?_
        refine lv_icmp_le (tgt := 589) hx hb dL_law_584 (by decide) (fun _ => ?_) (fun z => absurd (show (nI (zMost (zn V) C k)) ≤ (nI (zNm C 729)) from (nI_le (by omega) (by omega))) z)
        refine lv_iload hx hb dL_law_589 (lv_at hl 0 rfl) ?_
        refine lv_iload hx hb dL_law_591 (lv_at hl 3 rfl) ?_
        by_cases q2 : zMost (zn V) C k < w
        · rw [if_pos q2] at hq2
          refine lv_icmp_lt (tgt := 599) hx hb dL_law_593 (by decide) (fun _ => ?_) (fun z => absurd (show (nI (zMost (zn V) C k)) < (nI w) from (nI_lt q2 (by omega))) z)
          refine lv_iload hx hb dL_law_599 (lv_at hl 0 rfl) ?_
          refine lv_istore (lv' := [(13, .int (nI (zMost (zn V) C k))), (16, .int (nI (zMost (zn V) C k))), (15, .int (nI k)), (14, .int best), (9, .int (nI (zNm C 729))), (5, .long (zDig V X C t)), (3, .int (nI tm)), (4, .int x), (0, .ref b), (1, .ref (a 0)), (2, .ref sh)]) hx hb dL_law_601 hl (by decide) rfl (fun ls hl => ?_)
          refine lv_iload hx hb dL_law_603 (lv_at hl 2 rfl) ?_
          refine lv_istore (lv' := [(14, .int (nI k)), (13, .int (nI (zMost (zn V) C k))), (16, .int (nI (zMost (zn V) C k))), (15, .int (nI k)), (9, .int (nI (zNm C 729))), (5, .long (zDig V X C t)), (3, .int (nI tm)), (4, .int x), (0, .ref b), (1, .ref (a 0)), (2, .ref sh)]) hx hb dL_law_605 hl (by decide) rfl (fun ls hl => ?_)
          refine lv_iinc (v := (nI (k + 1))) (lv' := [(15, .int (nI (k + 1))), (14, .int (nI k)), (13, .int (nI (zMost (zn V) C k))), (16, .int (nI (zMost (zn V) C k))), (9, .int (nI (zNm C 729))), (5, .long (zDig V X C t)), (3, .int (nI tm)), (4, .int x), (0, .ref b), (1, .ref (a 0)), (2, .ref sh)]) hx hb dL_law_607 hl (k := 3) rfl (nI_1 k) (by decide) rfl (fun ls hl => ?_)
          refine lv_goto (tgt := 539) hx hb dL_law_610 (by decide) ?_
          exact ih (k + 1) (nI k) (zMost (zn V) C k) c H locs ls (by omega) (by omega) m2 hq2 hR hP hD hS (lv_sub hl [0, 1, 2, 4, 5, 6, 7, 8, 9, 10] rfl)
        · rw [if_neg q2] at hq2
          refine lv_icmp_lt (tgt := 599) hx hb dL_law_593 (by decide) (fun z => absurd z (show ¬ (nI (zMost (zn V) C k)) < (nI w) from (nI_nlt (by omega) (by omega)))) (fun _ => ?_)
          refine lv_goto (tgt := 607) hx hb dL_law_596 (by decide) ?_
          refine lv_iinc (v := (nI (k + 1))) (lv' := [(15, .int (nI (k + 1))), (16, .int (nI (zMost (zn V) C k))), (14, .int best), (13, .int (nI w)), (9, .int (nI (zNm C 729))), (5, .long (zDig V X C t)), (3, .int (nI tm)), (4, .int x), (0, .ref b), (1, .ref (a 0)), (2, .ref sh)]) hx hb dL_law_607 hl (k := 1) rfl (nI_1 k) (by decide) rfl (fun ls hl => ?_)
          refine lv_goto (tgt := 539) hx hb dL_law_610 (by decide) ?_
          exact ih (k + 1) best w c H locs ls (by omega) (by omega) hw hq2 hR hP hD hS (lv_sub hl [0, 2, 3, 4, 5, 6, 7, 8, 9, 10] rfl)
      · rw [if_neg q] at hq2
        refine lv_if_ne (tgt := 558) hx hb dL_law_552 (by decide) (fun z => absurd (show (zb01 (zalB (zn V) k)) = (nI 0) from (by rw [Bool.eq_false_iff.mpr q]; rfl)) z) (fun _ => ?_)
        refine lv_goto (tgt := 607) hx hb dL_law_555 (by decide) ?_
        refine lv_iinc (v := (nI (k + 1))) (lv' := [(15, .int (nI (k + 1))), (14, .int best), (13, .int (nI w)), (9, .int (nI (zNm C 729))), (5, .long (zDig V X C t)), (3, .int (nI tm)), (4, .int x), (0, .ref b), (1, .ref (a 0)), (2, .ref sh)]) hx hb dL_law_607 hl (k := 0) rfl (nI_1 k) (by decide) rfl (fun ls hl => ?_)
        refine lv_goto (tgt := 539) hx hb dL_law_610 (by decide) ?_
        exact ih (k + 1) best w c H locs ls (by omega) (by omega) hw hq2 hR hP hD hS (lv_sub hl [0, 1, 2, 3, 4, 5, 6, 7, 8, 9] rfl)
  have loopD : ∀ (r k : Nat) (c : zS) (H : Heap) (locs : List Loc) (ls : Array Slot), k + r = 10 → zR V X C c t → va_P G.1 vwCl (zCW3 G a c ++ (([(sh, .inr (4, [.ref sv, .ref sa, .ref sc, .ref sl])), (sv, .inl (G.2.1, zn V, .inl (zar (zn V) V))), (sa, .inl (G.2.1, zn V, .inl (zar (zn V) X))), (sc, .inl (G.2.1, 6, .inl (zkt t))), (sl, .inl (G.2.2.1, rows.length, .inr (.inr (.inr (.inr (zlf rows))))))] : va_W) ++ rows.map (zrc G (zn V)))) H → va_D (fun q : Nat => s.heap.size ≤ q) (zCW3 G a c ++ (([(sh, .inr (4, [.ref sv, .ref sa, .ref sc, .ref sl])), (sv, .inl (G.2.1, zn V, .inl (zar (zn V) V))), (sa, .inl (G.2.1, zn V, .inl (zar (zn V) X))), (sc, .inl (G.2.1, 6, .inl (zkt t))), (sl, .inl (G.2.2.1, rows.length, .inr (.inr (.inr (.inr (zlf rows))))))] : va_W) ++ rows.map (zrc G (zn V)))) → va_S (fun q : Nat => s.heap.size ≤ q) s.heap H locs → lv_has ls 19 [(13, .int (nI k)), (12, .int (nI (zHad V X k))), (9, .int (nI (zNm C 729))), (5, .long (zDig V X C t)), (3, .int (nI tm)), (4, .int x), (0, .ref b), (1, .ref (a 0)), (2, .ref sh)] → W p l e room_1 s m #[.ref b] below meth c9 H locs cells slots Q (F0 m 468 ls []) := by
    intro r
    induction r with
    | zero =>
      intro k c H locs ls hk hR hP hD hS hl
      obtain rfl : k = 10 := by omega
      obtain ⟨e0, he0, hle0⟩ := zF_0 ok
      have hb0 := zF_b ok he0
      refine lv_iload hx hb dL_law_468 (lv_at hl 0 rfl) ?_
      refine lv_bipush (v := nI 10) hx hb dL_law_470 (by decide) ?_
      refine lv_icmp_ge (tgt := 500) hx hb dL_law_472 (by decide) (fun _ => ?_) (fun z => absurd (show (nI 10) ≤ (nI 10) from (by decide)) z)
      refine lv_iload hx hb dL_law_500 (lv_at hl 1 rfl) ?_
      refine lv_aload_n hx hb dL_law_502 rfl (lv_at hl 7 rfl) ?_
      refine zl_C (As := []) (rest := [.int (nI (zHad V X 10))]) F (q_amountsToHave l G a hR) gL_law_X3_amountsToHave rfl rfl rfl zd_X3_amountsToHave ⟨(Nat.le_of_ble_eq_true rfl), (Nat.le_of_ble_eq_true rfl)⟩ rfl rfl (Nat.le_of_ble_eq_true rfl) dL_law_503 hcs hK hP hD hS hA hl.1 (fun c H locs hR hP hD hS => ?_)
      refine zt_top (v := nI (zHad V X 10)) (zAmn_had ok) ?_
      refine lv_icmp_ne (tgt := 526) hx hb dL_law_506 (by decide) (fun z => absurd (show (nI (zHad V X 10)) = (nI (zHad V X 10)) from rfl) z) (fun _ => ?_)
      refine lv_aload_n hx hb dL_law_509 rfl (lv_at hl 7 rfl) ?_
      refine lv_iconst (v := nI 0) hx hb dL_law_510 (by decide) ?_
      refine zl_C (As := [.int (nI 0)]) (rest := []) F (q_leastActs l G a hR (Nat.zero_le 9)) gL_law_X3_leastActs rfl rfl rfl zd_X3_leastActs ⟨(Nat.le_of_ble_eq_true rfl), (Nat.le_of_ble_eq_true rfl)⟩ rfl rfl (Nat.le_of_ble_eq_true rfl) dL_law_511 hcs hK hP hD hS hA hl.1 (fun c H locs hR hP hD hS => ?_)
      refine zt_top (v := nI e0.2.1) (by rw [he0]; rfl) ?_
      refine lv_if_lt (tgt := 526) hx hb dL_law_514 (by decide) (fun z => absurd z (show ¬ (nI e0.2.1) < (nI 0) from (nI_nlt (by omega) (by omega)))) (fun _ => ?_)
      refine lv_aload_n hx hb dL_law_517 rfl (lv_at hl 7 rfl) ?_
      refine lv_iconst (v := nI 0) hx hb dL_law_518 (by decide) ?_
      refine zl_C (As := [.int (nI 0)]) (rest := []) F (q_leastActs l G a hR (Nat.zero_le 9)) gL_law_X3_leastActs rfl rfl rfl zd_X3_leastActs ⟨(Nat.le_of_ble_eq_true rfl), (Nat.le_of_ble_eq_true rfl)⟩ rfl rfl (Nat.le_of_ble_eq_true rfl) dL_law_519 hcs hK hP hD hS hA hl.1 (fun c H locs hR hP hD hS => ?_)
      refine zt_top (v := nI e0.2.1) (by rw [he0]; rfl) ?_
      refine lv_iconst (v := nI 1) hx hb dL_law_522 (by decide) ?_
      refine lv_icmp_le (tgt := 528) hx hb dL_law_523 (by decide) (fun _ => ?_) (fun z => absurd (show (nI e0.2.1) ≤ (nI 1) from (nI_le (by omega) (by omega))) z)
      refine lv_iload hx hb dL_law_528 (lv_at hl 2 rfl) ?_
      refine lv_istore (lv' := [(13, .int (nI (zNm C 729))), (12, .int (nI (zHad V X 10))), (9, .int (nI (zNm C 729))), (5, .long (zDig V X C t)), (3, .int (nI tm)), (4, .int x), (0, .ref b), (1, .ref (a 0)), (2, .ref sh)]) hx hb dL_law_530 hl (by decide) rfl (fun ls hl => ?_)
      refine lv_iconst (v := (-1 : Int32)) hx hb dL_law_532 (by decide) ?_
      refine lv_istore (lv' := [(14, .int (-1 : Int32)), (13, .int (nI (zNm C 729))), (12, .int (nI (zHad V X 10))), (9, .int (nI (zNm C 729))), (5, .long (zDig V X C t)), (3, .int (nI tm)), (4, .int x), (0, .ref b), (1, .ref (a 0)), (2, .ref sh)]) hx hb dL_law_533 hl (by decide) rfl (fun ls hl => ?_)
      refine lv_bipush (v := nI 6) hx hb dL_law_535 (by decide) ?_
      refine lv_istore (lv' := [(15, .int (nI 6)), (14, .int (-1 : Int32)), (13, .int (nI (zNm C 729))), (12, .int (nI (zHad V X 10))), (9, .int (nI (zNm C 729))), (5, .long (zDig V X C t)), (3, .int (nI tm)), (4, .int x), (0, .ref b), (1, .ref (a 0)), (2, .ref sh)]) hx hb dL_law_537 hl (by decide) rfl (fun ls hl => ?_)
      exact loopE 9 6 (-1) (zNm C 729) c H locs ls rfl (by omega) (Nat.le_refl _) rfl hR hP hD hS (lv_sub hl [0, 1, 2, 4, 5, 6, 7, 8, 9, 10] rfl)
    | succ r ih =>
      intro k c H locs ls hk hR hP hD hS hl
      have hh := zHad_le V X k
      refine lv_iload hx hb dL_law_468 (lv_at hl 0 rfl) ?_
      refine lv_bipush (v := nI 10) hx hb dL_law_470 (by decide) ?_
      refine lv_icmp_ge (tgt := 500) hx hb dL_law_472 (by decide) (fun z => absurd z (show ¬ (nI 10) ≤ (nI k) from (nI_ge (by omega) (by omega)))) (fun _ => ?_)
      refine lv_iload hx hb dL_law_475 (lv_at hl 1 rfl) ?_
      refine lv_aload_n hx hb dL_law_477 rfl (lv_at hl 7 rfl) ?_
      refine lv_iload hx hb dL_law_478 (lv_at hl 0 rfl) ?_
      refine zl_C (As := [.int (nI k)]) (rest := [.int (nI (zHad V X k))]) F (q_leastActs l G a hR (show k ≤ 9 by omega)) gL_law_X3_leastActs rfl rfl rfl zd_X3_leastActs ⟨(Nat.le_of_ble_eq_true rfl), (Nat.le_of_ble_eq_true rfl)⟩ rfl rfl (Nat.le_of_ble_eq_true rfl) dL_law_480 hcs hK hP hD hS hA hl.1 (fun c H locs hR hP hD hS => ?_)
      have eh : zHad V X (k + 1) = zHad V X k + (if (zF V X k).isSome = true then 1 else 0) := rfl
      cases hF9 : zF V X k with
      | none =>
        rw [hF9] at eh
        rw [if_neg (by decide)] at eh
        refine lv_if_ge (tgt := 490) hx hb dL_law_483 (by decide) (fun z => absurd z (show ¬ (nI 0) ≤ (zDi none) from (by decide))) (fun _ => ?_)
        refine lv_iconst (v := nI 0) hx hb dL_law_486 (by decide) ?_
        refine lv_goto (tgt := 491) hx hb dL_law_487 (by decide) ?_
        refine lv_iadd hx hb dL_law_491 ?_
        refine zt_top (v := (nI (zHad V X (k + 1)))) ((nI_add (zHad V X k) 0).trans (congrArg nI (by omega))) ?_
        refine lv_istore (lv' := [(12, .int (nI (zHad V X (k + 1)))), (13, .int (nI k)), (9, .int (nI (zNm C 729))), (5, .long (zDig V X C t)), (3, .int (nI tm)), (4, .int x), (0, .ref b), (1, .ref (a 0)), (2, .ref sh)]) hx hb dL_law_492 hl (by decide) rfl (fun ls hl => ?_)
        refine lv_iinc (v := (nI (k + 1))) (lv' := [(13, .int (nI (k + 1))), (12, .int (nI (zHad V X (k + 1)))), (9, .int (nI (zNm C 729))), (5, .long (zDig V X C t)), (3, .int (nI tm)), (4, .int x), (0, .ref b), (1, .ref (a 0)), (2, .ref sh)]) hx hb dL_law_494 hl (k := 1) rfl (nI_1 k) (by decide) rfl (fun ls hl => ?_)
        refine lv_goto (tgt := 468) hx hb dL_law_497 (by decide) ?_
        exact ih (k + 1) c H locs ls (by omega) hR hP hD hS (lv_sub hl [0, 1, 2, 3, 4, 5, 6, 7, 8] rfl)
      | some e9 =>
        have hb9 := zF_b ok hF9
        rw [hF9] at eh
        rw [if_pos (show (some e9).isSome = true from rfl)] at eh
        refine zt_top (v := nI e9.2.1) rfl ?_
        refine lv_if_ge (tgt := 490) hx hb dL_law_483 (by decide) (fun _ => ?_) (fun z => absurd (show (nI 0) ≤ (nI e9.2.1) from (nI_le (by omega) (by omega))) z)
        refine lv_iconst (v := nI 1) hx hb dL_law_490 (by decide) ?_
        refine lv_iadd hx hb dL_law_491 ?_
        refine zt_top (v := (nI (zHad V X (k + 1)))) ((nI_add (zHad V X k) 1).trans (congrArg nI (by omega))) ?_
        refine lv_istore (lv' := [(12, .int (nI (zHad V X (k + 1)))), (13, .int (nI k)), (9, .int (nI (zNm C 729))), (5, .long (zDig V X C t)), (3, .int (nI tm)), (4, .int x), (0, .ref b), (1, .ref (a 0)), (2, .ref sh)]) hx hb dL_law_492 hl (by decide) rfl (fun ls hl => ?_)
        refine lv_iinc (v := (nI (k + 1))) (lv' := [(13, .int (nI (k + 1))), (12, .int (nI (zHad V X (k + 1)))), (9, .int (nI (zNm C 729))), (5, .long (zDig V X C t)), (3, .int (nI tm)), (4, .int x), (0, .ref b), (1, .ref (a 0)), (2, .ref sh)]) hx hb dL_law_494 hl (k := 1) rfl (nI_1 k) (by decide) rfl (fun ls hl => ?_)
        refine lv_goto (tgt := 468) hx hb dL_law_497 (by decide) ?_
        exact ih (k + 1) c H locs ls (by omega) hR hP hD hS (lv_sub hl [0, 1, 2, 3, 4, 5, 6, 7, 8] rfl)
  have k424 : ∀ (E : Nat) (c : zS) (H : Heap) (locs : List Loc) (ls : Array Slot), (D < 50 → E = D + 1) → E ≤ 51 → zR V X C c t → va_P G.1 vwCl (zCW3 G a c ++ (([(sh, .inr (4, [.ref sv, .ref sa, .ref sc, .ref sl])), (sv, .inl (G.2.1, zn V, .inl (zar (zn V) V))), (sa, .inl (G.2.1, zn V, .inl (zar (zn V) X))), (sc, .inl (G.2.1, 6, .inl (zkt t))), (sl, .inl (G.2.2.1, rows.length, .inr (.inr (.inr (.inr (zlf rows))))))] : va_W) ++ rows.map (zrc G (zn V)))) H → va_D (fun q : Nat => s.heap.size ≤ q) (zCW3 G a c ++ (([(sh, .inr (4, [.ref sv, .ref sa, .ref sc, .ref sl])), (sv, .inl (G.2.1, zn V, .inl (zar (zn V) V))), (sa, .inl (G.2.1, zn V, .inl (zar (zn V) X))), (sc, .inl (G.2.1, 6, .inl (zkt t))), (sl, .inl (G.2.2.1, rows.length, .inr (.inr (.inr (.inr (zlf rows))))))] : va_W) ++ rows.map (zrc G (zn V)))) → va_S (fun q : Nat => s.heap.size ≤ q) s.heap H locs → lv_has ls 19 [(11, .int (nI (zcnL (zBFS V (zst X)) E))), (10, .int (nI D)), (9, .int (nI (zNm C 729))), (5, .long (zDig V X C t)), (3, .int (nI tm)), (4, .int x), (0, .ref b), (1, .ref (a 0)), (2, .ref sh)] → W p l e room_1 s m #[.ref b] below meth c9 H locs cells slots Q (F0 m 424 ls []) := by
    intro E c H locs ls hED hE5 hR hP hD hS hl
    refine lv_aload_n hx hb dL_law_424 rfl (lv_at hl 7 rfl) ?_
    refine lv_iconst (v := nI 0) hx hb dL_law_425 (by decide) ?_
    refine zl_C (As := [.int (nI 0)]) (rest := []) F (q_statesAway l G a hR (Nat.zero_le 50)) gL_law_X3_statesAway rfl rfl rfl zd_X3_statesAway ⟨(Nat.le_of_ble_eq_true rfl), (Nat.le_of_ble_eq_true rfl)⟩ rfl rfl (Nat.le_of_ble_eq_true rfl) dL_law_426 hcs hK hP hD hS hA hl.1 (fun c H locs hR hP hD hS => ?_)
    refine zt_top (v := nI 1) ((hEc 0 (by omega)).trans (congrArg nI (by first | rfl | omega))) ?_
    refine lv_iconst (v := nI 1) hx hb dL_law_429 (by decide) ?_
    refine lv_icmp_ne (tgt := 460) hx hb dL_law_430 (by decide) (fun z => absurd (show (nI 1) = (nI 1) from rfl) z) (fun _ => ?_)
    refine lv_iload hx hb dL_law_433 (lv_at hl 1 rfl) ?_
    refine lv_bipush (v := nI 50) hx hb dL_law_435 (by decide) ?_
    have k462 : ∀ (c : zS) (H : Heap) (locs : List Loc) (ls : Array Slot), zR V X C c t → va_P G.1 vwCl (zCW3 G a c ++ (([(sh, .inr (4, [.ref sv, .ref sa, .ref sc, .ref sl])), (sv, .inl (G.2.1, zn V, .inl (zar (zn V) V))), (sa, .inl (G.2.1, zn V, .inl (zar (zn V) X))), (sc, .inl (G.2.1, 6, .inl (zkt t))), (sl, .inl (G.2.2.1, rows.length, .inr (.inr (.inr (.inr (zlf rows))))))] : va_W) ++ rows.map (zrc G (zn V)))) H → va_D (fun q : Nat => s.heap.size ≤ q) (zCW3 G a c ++ (([(sh, .inr (4, [.ref sv, .ref sa, .ref sc, .ref sl])), (sv, .inl (G.2.1, zn V, .inl (zar (zn V) V))), (sa, .inl (G.2.1, zn V, .inl (zar (zn V) X))), (sc, .inl (G.2.1, 6, .inl (zkt t))), (sl, .inl (G.2.2.1, rows.length, .inr (.inr (.inr (.inr (zlf rows))))))] : va_W) ++ rows.map (zrc G (zn V)))) → va_S (fun q : Nat => s.heap.size ≤ q) s.heap H locs → lv_has ls 19 [(9, .int (nI (zNm C 729))), (5, .long (zDig V X C t)), (3, .int (nI tm)), (4, .int x), (0, .ref b), (1, .ref (a 0)), (2, .ref sh)] → W p l e room_1 s m #[.ref b] below meth c9 H locs cells slots Q (F0 m 462 ls []) := by
      intro c H locs ls hR hP hD hS hl
      refine lv_iconst (v := nI 0) hx hb dL_law_462 (by decide) ?_
      refine lv_istore (lv' := [(12, .int (nI 0)), (9, .int (nI (zNm C 729))), (5, .long (zDig V X C t)), (3, .int (nI tm)), (4, .int x), (0, .ref b), (1, .ref (a 0)), (2, .ref sh)]) hx hb dL_law_463 hl (by decide) rfl (fun ls hl => ?_)
      refine lv_iconst (v := nI 0) hx hb dL_law_465 (by decide) ?_
      refine lv_istore (lv' := [(13, .int (nI 0)), (12, .int (nI 0)), (9, .int (nI (zNm C 729))), (5, .long (zDig V X C t)), (3, .int (nI tm)), (4, .int x), (0, .ref b), (1, .ref (a 0)), (2, .ref sh)]) hx hb dL_law_466 hl (by decide) rfl (fun ls hl => ?_)
      exact loopD 10 0 c H locs ls rfl hR hP hD hS (lv_sub hl [0, 1, 2, 3, 4, 5, 6, 7, 8] rfl)
    by_cases q : 50 ≤ D
    · refine lv_icmp_ge (tgt := 462) hx hb dL_law_437 (by decide) (fun _ => ?_) (fun z => absurd (show (nI 50) ≤ (nI D) from (nI_le (by omega) (by omega))) z)
      exact k462 c H locs ls hR hP hD hS (lv_sub hl [2, 3, 4, 5, 6, 7, 8] rfl)
    · obtain rfl := hED (by omega)
      rw [hEl] at hl
      refine lv_icmp_ge (tgt := 462) hx hb dL_law_437 (by decide) (fun z => absurd z (show ¬ (nI 50) ≤ (nI D) from (nI_ge (by omega) (by omega)))) (fun _ => ?_)
      refine lv_iload hx hb dL_law_440 (lv_at hl 0 rfl) ?_
      refine lv_aload_n hx hb dL_law_442 rfl (lv_at hl 7 rfl) ?_
      refine zl_C (As := []) (rest := [.int (nI ((zBFS V (zst X)).length))]) F (q_statesToReach l G a hR) gL_law_X3_statesToReach rfl rfl rfl zd_X3_statesToReach ⟨(Nat.le_of_ble_eq_true rfl), (Nat.le_of_ble_eq_true rfl)⟩ rfl rfl (Nat.le_of_ble_eq_true rfl) dL_law_443 hcs hK hP hD hS hA hl.1 (fun c H locs hR hP hD hS => ?_)
      refine lv_icmp_ne (tgt := 460) hx hb dL_law_446 (by decide) (fun z => absurd (show (nI ((zBFS V (zst X)).length)) = (nI ((zBFS V (zst X)).length)) from rfl) z) (fun _ => ?_)
      refine lv_aload_n hx hb dL_law_449 rfl (lv_at hl 7 rfl) ?_
      refine lv_iload hx hb dL_law_450 (lv_at hl 1 rfl) ?_
      refine lv_iconst (v := nI 1) hx hb dL_law_452 (by decide) ?_
      refine lv_iadd hx hb dL_law_453 ?_
      refine zt_top (v := (nI (D + 1))) (nI_add D 1) ?_
      refine zl_C (As := [.int (nI (D + 1))]) (rest := []) F (q_statesAway l G a hR (show D + 1 ≤ 50 by omega)) gL_law_X3_statesAway rfl rfl rfl zd_X3_statesAway ⟨(Nat.le_of_ble_eq_true rfl), (Nat.le_of_ble_eq_true rfl)⟩ rfl rfl (Nat.le_of_ble_eq_true rfl) dL_law_454 hcs hK hP hD hS hA hl.1 (fun c H locs hR hP hD hS => ?_)
      refine zt_top (v := nI 0) ((hEc (D + 1) (by omega)).trans (congrArg nI (by first | rfl | omega))) ?_
      refine lv_if_eq (tgt := 462) hx hb dL_law_457 (by decide) (fun _ => ?_) (fun z => absurd (show (nI 0) = (nI 0) from rfl) z)
      exact k462 c H locs ls hR hP hD hS (lv_sub hl [2, 3, 4, 5, 6, 7, 8] rfl)
  have loopC : ∀ (r k : Nat) (c : zS) (H : Heap) (locs : List Loc) (ls : Array Slot), k + r = min (D + 1) 51 → zR V X C c t → va_P G.1 vwCl (zCW3 G a c ++ (([(sh, .inr (4, [.ref sv, .ref sa, .ref sc, .ref sl])), (sv, .inl (G.2.1, zn V, .inl (zar (zn V) V))), (sa, .inl (G.2.1, zn V, .inl (zar (zn V) X))), (sc, .inl (G.2.1, 6, .inl (zkt t))), (sl, .inl (G.2.2.1, rows.length, .inr (.inr (.inr (.inr (zlf rows))))))] : va_W) ++ rows.map (zrc G (zn V)))) H → va_D (fun q : Nat => s.heap.size ≤ q) (zCW3 G a c ++ (([(sh, .inr (4, [.ref sv, .ref sa, .ref sc, .ref sl])), (sv, .inl (G.2.1, zn V, .inl (zar (zn V) V))), (sa, .inl (G.2.1, zn V, .inl (zar (zn V) X))), (sc, .inl (G.2.1, 6, .inl (zkt t))), (sl, .inl (G.2.2.1, rows.length, .inr (.inr (.inr (.inr (zlf rows))))))] : va_W) ++ rows.map (zrc G (zn V)))) → va_S (fun q : Nat => s.heap.size ≤ q) s.heap H locs → lv_has ls 19 [(12, .int (nI k)), (11, .int (nI (zcnL (zBFS V (zst X)) k))), (10, .int (nI D)), (9, .int (nI (zNm C 729))), (5, .long (zDig V X C t)), (3, .int (nI tm)), (4, .int x), (0, .ref b), (1, .ref (a 0)), (2, .ref sh)] → W p l e room_1 s m #[.ref b] below meth c9 H locs cells slots Q (F0 m 381 ls []) := by
    intro r
    induction r with
    | zero =>
      intro k c H locs ls hk hR hP hD hS hl
      refine lv_iload hx hb dL_law_381 (lv_at hl 0 rfl) ?_
      refine lv_iload hx hb dL_law_383 (lv_at hl 2 rfl) ?_
      by_cases q : D < k
      · refine lv_icmp_gt (tgt := 424) hx hb dL_law_385 (by decide) (fun _ => ?_) (fun z => absurd (show (nI D) < (nI k) from (nI_lt (by omega) (by omega))) z)
        exact k424 k c H locs ls (fun _ => by omega) (by omega) hR hP hD hS (lv_sub hl [1, 2, 3, 4, 5, 6, 7, 8, 9] rfl)
      · refine lv_icmp_gt (tgt := 424) hx hb dL_law_385 (by decide) (fun z => absurd z (show ¬ (nI D) < (nI k) from (nI_nlt (by omega) (by omega)))) (fun _ => ?_)
        refine lv_iload hx hb dL_law_388 (lv_at hl 0 rfl) ?_
        refine lv_bipush (v := nI 51) hx hb dL_law_390 (by decide) ?_
        refine lv_icmp_ge (tgt := 424) hx hb dL_law_392 (by decide) (fun _ => ?_) (fun z => absurd (show (nI 51) ≤ (nI k) from (nI_le (by omega) (by omega))) z)
        exact k424 k c H locs ls (fun _ => by omega) (by omega) hR hP hD hS (lv_sub hl [1, 2, 3, 4, 5, 6, 7, 8, 9] rfl)
    | succ r ih =>
      intro k c H locs ls hk hR hP hD hS hl
      have h1 := hE1 k (by omega)
      have h2 := zcnE_le (zBFS V (zst X)) k
      have h3 := zcnL_succ (zBFS V (zst X)) k
      refine lv_iload hx hb dL_law_381 (lv_at hl 0 rfl) ?_
      refine lv_iload hx hb dL_law_383 (lv_at hl 2 rfl) ?_
      refine lv_icmp_gt (tgt := 424) hx hb dL_law_385 (by decide) (fun z => absurd z (show ¬ (nI D) < (nI k) from (nI_nlt (by omega) (by omega)))) (fun _ => ?_)
      refine lv_iload hx hb dL_law_388 (lv_at hl 0 rfl) ?_
      refine lv_bipush (v := nI 51) hx hb dL_law_390 (by decide) ?_
      refine lv_icmp_ge (tgt := 424) hx hb dL_law_392 (by decide) (fun z => absurd z (show ¬ (nI 51) ≤ (nI k) from (nI_ge (by omega) (by omega)))) (fun _ => ?_)
      refine lv_aload_n hx hb dL_law_395 rfl (lv_at hl 8 rfl) ?_
      refine lv_iload hx hb dL_law_396 (lv_at hl 0 rfl) ?_
      refine zl_C (As := [.int (nI k)]) (rest := []) F (q_statesAway l G a hR (show k ≤ 50 by omega)) gL_law_X3_statesAway rfl rfl rfl zd_X3_statesAway ⟨(Nat.le_of_ble_eq_true rfl), (Nat.le_of_ble_eq_true rfl)⟩ rfl rfl (Nat.le_of_ble_eq_true rfl) dL_law_398 hcs hK hP hD hS hA hl.1 (fun c H locs hR hP hD hS => ?_)
      refine zt_top (v := nI (zcnE (zBFS V (zst X)) k)) (hEc k (by omega)) ?_
      refine lv_iconst (v := nI 1) hx hb dL_law_401 (by decide) ?_
      refine lv_icmp_ge (tgt := 407) hx hb dL_law_402 (by decide) (fun _ => ?_) (fun z => absurd (show (nI 1) ≤ (nI (zcnE (zBFS V (zst X)) k)) from (nI_le (by omega) (by omega))) z)
      refine lv_iload hx hb dL_law_407 (lv_at hl 1 rfl) ?_
      refine lv_aload_n hx hb dL_law_409 rfl (lv_at hl 8 rfl) ?_
      refine lv_iload hx hb dL_law_410 (lv_at hl 0 rfl) ?_
      refine zl_C (As := [.int (nI k)]) (rest := [.int (nI (zcnL (zBFS V (zst X)) k))]) F (q_statesAway l G a hR (show k ≤ 50 by omega)) gL_law_X3_statesAway rfl rfl rfl zd_X3_statesAway ⟨(Nat.le_of_ble_eq_true rfl), (Nat.le_of_ble_eq_true rfl)⟩ rfl rfl (Nat.le_of_ble_eq_true rfl) dL_law_412 hcs hK hP hD hS hA hl.1 (fun c H locs hR hP hD hS => ?_)
      refine zt_top (v := nI (zcnE (zBFS V (zst X)) k)) (hEc k (by omega)) ?_
      refine lv_iadd hx hb dL_law_415 ?_
      refine zt_top (v := (nI (zcnL (zBFS V (zst X)) (k + 1)))) ((nI_add (zcnL (zBFS V (zst X)) k) (zcnE (zBFS V (zst X)) k)).trans (congrArg nI (h3.symm))) ?_
      refine lv_istore (lv' := [(11, .int (nI (zcnL (zBFS V (zst X)) (k + 1)))), (12, .int (nI k)), (10, .int (nI D)), (9, .int (nI (zNm C 729))), (5, .long (zDig V X C t)), (3, .int (nI tm)), (4, .int x), (0, .ref b), (1, .ref (a 0)), (2, .ref sh)]) hx hb dL_law_416 hl (by decide) rfl (fun ls hl => ?_)
      refine lv_iinc (v := (nI (k + 1))) (lv' := [(12, .int (nI (k + 1))), (11, .int (nI (zcnL (zBFS V (zst X)) (k + 1)))), (10, .int (nI D)), (9, .int (nI (zNm C 729))), (5, .long (zDig V X C t)), (3, .int (nI tm)), (4, .int x), (0, .ref b), (1, .ref (a 0)), (2, .ref sh)]) hx hb dL_law_418 hl (k := 1) rfl (nI_1 k) (by decide) rfl (fun ls hl => ?_)
      refine lv_goto (tgt := 381) hx hb dL_law_421 (by decide) ?_
      exact ih (k + 1) c H locs ls (by omega) hR hP hD hS (lv_sub hl [0, 1, 2, 3, 4, 5, 6, 7, 8, 9] rfl)
  have k281 : ∀ (c : zS) (H : Heap) (locs : List Loc) (ls : Array Slot), zR V X C c t → va_P G.1 vwCl (zCW3 G a c ++ (([(sh, .inr (4, [.ref sv, .ref sa, .ref sc, .ref sl])), (sv, .inl (G.2.1, zn V, .inl (zar (zn V) V))), (sa, .inl (G.2.1, zn V, .inl (zar (zn V) X))), (sc, .inl (G.2.1, 6, .inl (zkt t))), (sl, .inl (G.2.2.1, rows.length, .inr (.inr (.inr (.inr (zlf rows))))))] : va_W) ++ rows.map (zrc G (zn V)))) H → va_D (fun q : Nat => s.heap.size ≤ q) (zCW3 G a c ++ (([(sh, .inr (4, [.ref sv, .ref sa, .ref sc, .ref sl])), (sv, .inl (G.2.1, zn V, .inl (zar (zn V) V))), (sa, .inl (G.2.1, zn V, .inl (zar (zn V) X))), (sc, .inl (G.2.1, 6, .inl (zkt t))), (sl, .inl (G.2.2.1, rows.length, .inr (.inr (.inr (.inr (zlf rows))))))] : va_W) ++ rows.map (zrc G (zn V)))) → va_S (fun q : Nat => s.heap.size ≤ q) s.heap H locs → lv_has ls 19 [(8, .int (nI (zsum X (zn V)))), (7, .int (nI (zn V))), (5, .long (zDig V X C t)), (3, .int (nI tm)), (4, .int x), (0, .ref b), (1, .ref (a 0)), (2, .ref sh)] → W p l e room_1 s m #[.ref b] below meth c9 H locs cells slots Q (F0 m 281 ls []) := by
    intro c H locs ls hR hP hD hS hl
    rw [hs3] at hl
    refine lv_aload_n hx hb dL_law_281 rfl (lv_at hl 6 rfl) ?_
    refine zl_C (As := []) (rest := []) F (q_candidates l G a hR) gL_law_X3_candidates rfl rfl rfl zd_X3_candidates ⟨(Nat.le_of_ble_eq_true rfl), (Nat.le_of_ble_eq_true rfl)⟩ rfl rfl (Nat.le_of_ble_eq_true rfl) dL_law_282 hcs hK hP hD hS hA hl.1 (fun c H locs hR hP hD hS => ?_)
    refine lv_istore (lv' := [(9, .int (nI (zNm C 729))), (8, .int (nI (X 0 + X 1 + X 2))), (7, .int (nI (zn V))), (5, .long (zDig V X C t)), (3, .int (nI tm)), (4, .int x), (0, .ref b), (1, .ref (a 0)), (2, .ref sh)]) hx hb dL_law_285 hl (by decide) rfl (fun ls hl => ?_)
    refine lv_iload hx hb dL_law_287 (lv_at hl 1 rfl) ?_
    refine lv_aload_n hx hb dL_law_289 rfl (lv_at hl 7 rfl) ?_
    refine zl_C (As := []) (rest := [.int (nI (X 0 + X 1 + X 2))]) F (q_heldInAll l G a hR) gL_law_X3_heldInAll rfl rfl rfl zd_X3_heldInAll ⟨(Nat.le_of_ble_eq_true rfl), (Nat.le_of_ble_eq_true rfl)⟩ rfl rfl (Nat.le_of_ble_eq_true rfl) dL_law_290 hcs hK hP hD hS hA hl.1 (fun c H locs hR hP hD hS => ?_)
    refine lv_icmp_ne (tgt := 367) hx hb dL_law_293 (by decide) (fun z => absurd (show (nI (X 0 + X 1 + X 2)) = (nI (X 0 + X 1 + X 2)) from rfl) z) (fun _ => ?_)
    refine lv_aload_n hx hb dL_law_296 rfl (lv_at hl 7 rfl) ?_
    refine zl_C (As := []) (rest := []) F (q_takenInAll l G a hR) gL_law_X3_takenInAll rfl rfl rfl zd_X3_takenInAll ⟨(Nat.le_of_ble_eq_true rfl), (Nat.le_of_ble_eq_true rfl)⟩ rfl rfl (Nat.le_of_ble_eq_true rfl) dL_law_297 hcs hK hP hD hS hA hl.1 (fun c H locs hR hP hD hS => ?_)
    refine lv_iload hx hb dL_law_300 (lv_at hl 1 rfl) ?_
    refine lv_aload_n hx hb dL_law_302 rfl (lv_at hl 7 rfl) ?_
    refine zl_C (As := []) (rest := [.int (nI (X 0 + X 1 + X 2)), .int (nI t.ta)]) F (q_spilledInAll l G a hR) gL_law_X3_spilledInAll rfl rfl rfl zd_X3_spilledInAll ⟨(Nat.le_of_ble_eq_true rfl), (Nat.le_of_ble_eq_true rfl)⟩ rfl rfl (Nat.le_of_ble_eq_true rfl) dL_law_303 hcs hK hP hD hS hA hl.1 (fun c H locs hR hP hD hS => ?_)
    refine lv_iadd hx hb dL_law_306 ?_
    refine zt_top (v := (nI ((X 0 + X 1 + X 2) + t.si))) (nI_add (X 0 + X 1 + X 2) t.si) ?_
    refine lv_icmp_ne (tgt := 367) hx hb dL_law_307 (by decide) (fun z => absurd (show (nI t.ta) = (nI ((X 0 + X 1 + X 2) + t.si)) from (congrArg nI hN.1)) z) (fun _ => ?_)
    refine lv_aload_n hx hb dL_law_310 rfl (lv_at hl 7 rfl) ?_
    refine zl_C (As := []) (rest := []) F (q_pouredInAll l G a hR) gL_law_X3_pouredInAll rfl rfl rfl zd_X3_pouredInAll ⟨(Nat.le_of_ble_eq_true rfl), (Nat.le_of_ble_eq_true rfl)⟩ rfl rfl (Nat.le_of_ble_eq_true rfl) dL_law_311 hcs hK hP hD hS hA hl.1 (fun c H locs hR hP hD hS => ?_)
    have hN2 := hN.2.1
    refine lv_if_lt (tgt := 367) hx hb dL_law_314 (by decide) (fun z => absurd z (show ¬ (nI t.po) < (nI 0) from (nI_nlt (by omega) (by omega)))) (fun _ => ?_)
    refine lv_aload_n hx hb dL_law_317 rfl (lv_at hl 7 rfl) ?_
    refine zl_C (As := []) (rest := []) F (q_pouredInAll l G a hR) gL_law_X3_pouredInAll rfl rfl rfl zd_X3_pouredInAll ⟨(Nat.le_of_ble_eq_true rfl), (Nat.le_of_ble_eq_true rfl)⟩ rfl rfl (Nat.le_of_ble_eq_true rfl) dL_law_318 hcs hK hP hD hS hA hl.1 (fun c H locs hR hP hD hS => ?_)
    refine lv_bipush (v := nI 9) hx hb dL_law_321 (by decide) ?_
    refine lv_aload_n hx hb dL_law_323 rfl (lv_at hl 7 rfl) ?_
    refine zl_C (As := []) (rest := [.int (nI 9), .int (nI t.po)]) F (q_acts l G a hR) gL_law_X3_acts rfl rfl rfl zd_X3_acts ⟨(Nat.le_of_ble_eq_true rfl), (Nat.le_of_ble_eq_true rfl)⟩ rfl rfl (Nat.le_of_ble_eq_true rfl) dL_law_324 hcs hK hP hD hS hA hl.1 (fun c H locs hR hP hD hS => ?_)
    refine lv_imul hx hb dL_law_327 ?_
    refine zt_top (v := (nI (9 * t.ac))) (pk_mul 9 t.ac) ?_
    refine lv_icmp_gt (tgt := 367) hx hb dL_law_328 (by decide) (fun z => absurd z (show ¬ (nI (9 * t.ac)) < (nI t.po) from (nI_nlt (by omega) (by omega)))) (fun _ => ?_)
    refine lv_iload hx hb dL_law_331 (lv_at hl 0 rfl) ?_
    refine lv_iconst (v := nI 1) hx hb dL_law_333 (by decide) ?_
    refine lv_icmp_lt (tgt := 367) hx hb dL_law_334 (by decide) (fun z => absurd z (show ¬ (nI (zNm C 729)) < (nI 1) from (nI_nlt (by omega) (by omega)))) (fun _ => ?_)
    refine lv_iload hx hb dL_law_337 (lv_at hl 0 rfl) ?_
    refine lv_iload hx hb dL_law_339 (lv_at hl 2 rfl) ?_
    refine lv_iconst (v := nI 2) hx hb dL_law_341 (by decide) ?_
    have k356 : ∀ (c : zS) (H : Heap) (locs : List Loc) (ls : Array Slot), zR V X C c t → va_P G.1 vwCl (zCW3 G a c ++ (([(sh, .inr (4, [.ref sv, .ref sa, .ref sc, .ref sl])), (sv, .inl (G.2.1, zn V, .inl (zar (zn V) V))), (sa, .inl (G.2.1, zn V, .inl (zar (zn V) X))), (sc, .inl (G.2.1, 6, .inl (zkt t))), (sl, .inl (G.2.2.1, rows.length, .inr (.inr (.inr (.inr (zlf rows))))))] : va_W) ++ rows.map (zrc G (zn V)))) H → va_D (fun q : Nat => s.heap.size ≤ q) (zCW3 G a c ++ (([(sh, .inr (4, [.ref sv, .ref sa, .ref sc, .ref sl])), (sv, .inl (G.2.1, zn V, .inl (zar (zn V) V))), (sa, .inl (G.2.1, zn V, .inl (zar (zn V) X))), (sc, .inl (G.2.1, 6, .inl (zkt t))), (sl, .inl (G.2.2.1, rows.length, .inr (.inr (.inr (.inr (zlf rows))))))] : va_W) ++ rows.map (zrc G (zn V)))) → va_S (fun q : Nat => s.heap.size ≤ q) s.heap H locs → lv_has ls 19 [(9, .int (nI (zNm C 729))), (5, .long (zDig V X C t)), (3, .int (nI tm)), (4, .int x), (0, .ref b), (1, .ref (a 0)), (2, .ref sh)] → W p l e room_1 s m #[.ref b] below meth c9 H locs cells slots Q (F0 m 356 ls []) := by
      intro c H locs ls hR hP hD hS hl
      have hN3 := hN.2.2
      refine lv_aload_n hx hb dL_law_356 rfl (lv_at hl 5 rfl) ?_
      refine zl_C (As := []) (rest := []) F (q_wrongGuesses l G a hR) gL_law_X3_wrongGuesses rfl rfl rfl zd_X3_wrongGuesses ⟨(Nat.le_of_ble_eq_true rfl), (Nat.le_of_ble_eq_true rfl)⟩ rfl rfl (Nat.le_of_ble_eq_true rfl) dL_law_357 hcs hK hP hD hS hA hl.1 (fun c H locs hR hP hD hS => ?_)
      refine lv_aload_n hx hb dL_law_360 rfl (lv_at hl 5 rfl) ?_
      refine zl_C (As := []) (rest := [.int (nI t.wr)]) F (q_guesses l G a hR) gL_law_X3_guesses rfl rfl rfl zd_X3_guesses ⟨(Nat.le_of_ble_eq_true rfl), (Nat.le_of_ble_eq_true rfl)⟩ rfl rfl (Nat.le_of_ble_eq_true rfl) dL_law_361 hcs hK hP hD hS hA hl.1 (fun c H locs hR hP hD hS => ?_)
      refine lv_icmp_le (tgt := 369) hx hb dL_law_364 (by decide) (fun _ => ?_) (fun z => absurd (show (nI t.wr) ≤ (nI t.gu) from (nI_le (by omega) (by omega))) z)
      refine lv_aload_n hx hb dL_law_369 rfl (lv_at hl 5 rfl) ?_
      refine zl_C (As := []) (rest := []) F (q_farthest l G a hR) gL_law_X3_farthest rfl rfl rfl zd_X3_farthest ⟨(Nat.le_of_ble_eq_true rfl), (Nat.le_of_ble_eq_true rfl)⟩ rfl rfl (Nat.le_of_ble_eq_true rfl) dL_law_370 hcs hK hP hD hS hA hl.1 (fun c H locs hR hP hD hS => ?_)
      refine zt_top (v := nI D) hFr ?_
      refine lv_istore (lv' := [(10, .int (nI D)), (9, .int (nI (zNm C 729))), (5, .long (zDig V X C t)), (3, .int (nI tm)), (4, .int x), (0, .ref b), (1, .ref (a 0)), (2, .ref sh)]) hx hb dL_law_373 hl (by decide) rfl (fun ls hl => ?_)
      refine lv_iconst (v := nI 0) hx hb dL_law_375 (by decide) ?_
      refine lv_istore (lv' := [(11, .int (nI 0)), (10, .int (nI D)), (9, .int (nI (zNm C 729))), (5, .long (zDig V X C t)), (3, .int (nI tm)), (4, .int x), (0, .ref b), (1, .ref (a 0)), (2, .ref sh)]) hx hb dL_law_376 hl (by decide) rfl (fun ls hl => ?_)
      refine lv_iconst (v := nI 0) hx hb dL_law_378 (by decide) ?_
      refine lv_istore (lv' := [(12, .int (nI 0)), (11, .int (nI 0)), (10, .int (nI D)), (9, .int (nI (zNm C 729))), (5, .long (zDig V X C t)), (3, .int (nI tm)), (4, .int x), (0, .ref b), (1, .ref (a 0)), (2, .ref sh)]) hx hb dL_law_379 hl (by decide) rfl (fun ls hl => ?_)
      have hl : lv_has ls 19 [(12, .int (nI 0)), (11, .int (nI (zcnL (zBFS V (zst X)) 0))), (10, .int (nI D)), (9, .int (nI (zNm C 729))), (5, .long (zDig V X C t)), (3, .int (nI tm)), (4, .int x), (0, .ref b), (1, .ref (a 0)), (2, .ref sh)] := by rw [zcnL_0]; exact (lv_sub hl [0, 1, 2, 3, 4, 5, 6, 7, 8, 9] rfl)
      exact loopC (min (D + 1) 51) 0 c H locs ls (by omega) hR hP hD hS hl
    have hcn : zNm C 729 ≤ (if zn V = 2 then 81 else 729) := hcnt
    by_cases q : zn V = 2
    · rw [if_pos q] at hcn
      refine lv_icmp_ne (tgt := 350) hx hb dL_law_342 (by decide) (fun z => absurd (show (nI (zn V)) = (nI 2) from (congrArg nI q)) z) (fun _ => ?_)
      refine lv_bipush (v := nI 81) hx hb dL_law_345 (by decide) ?_
      refine lv_goto (tgt := 353) hx hb dL_law_347 (by decide) ?_
      refine lv_icmp_gt (tgt := 367) hx hb dL_law_353 (by decide) (fun z => absurd z (show ¬ (nI 81) < (nI (zNm C 729)) from (nI_nlt (by omega) (by omega)))) (fun _ => ?_)
      exact k356 c H locs ls hR hP hD hS (lv_sub hl [0, 3, 4, 5, 6, 7, 8] rfl)
    · rw [if_neg q] at hcn
      refine lv_icmp_ne (tgt := 350) hx hb dL_law_342 (by decide) (fun _ => ?_) (fun z => absurd z (show ¬ (nI (zn V)) = (nI 2) from (fun z => q ((nI_eq (by omega) (by omega)).mp z))))
      refine lv_sipush (v := nI 729) hx hb dL_law_350 (by decide) ?_
      refine lv_icmp_gt (tgt := 367) hx hb dL_law_353 (by decide) (fun z => absurd z (show ¬ (nI 729) < (nI (zNm C 729)) from (nI_nlt (by omega) (by omega)))) (fun _ => ?_)
      exact k356 c H locs ls hR hP hD hS (lv_sub hl [0, 3, 4, 5, 6, 7, 8] rfl)
  have loopV : ∀ (j : Nat), j < zn V → (∀ (c : zS) (H : Heap) (locs : List Loc) (ls : Array Slot), zR V X C c t → va_P G.1 vwCl (zCW3 G a c ++ (([(sh, .inr (4, [.ref sv, .ref sa, .ref sc, .ref sl])), (sv, .inl (G.2.1, zn V, .inl (zar (zn V) V))), (sa, .inl (G.2.1, zn V, .inl (zar (zn V) X))), (sc, .inl (G.2.1, 6, .inl (zkt t))), (sl, .inl (G.2.2.1, rows.length, .inr (.inr (.inr (.inr (zlf rows))))))] : va_W) ++ rows.map (zrc G (zn V)))) H → va_D (fun q : Nat => s.heap.size ≤ q) (zCW3 G a c ++ (([(sh, .inr (4, [.ref sv, .ref sa, .ref sc, .ref sl])), (sv, .inl (G.2.1, zn V, .inl (zar (zn V) V))), (sa, .inl (G.2.1, zn V, .inl (zar (zn V) X))), (sc, .inl (G.2.1, 6, .inl (zkt t))), (sl, .inl (G.2.2.1, rows.length, .inr (.inr (.inr (.inr (zlf rows))))))] : va_W) ++ rows.map (zrc G (zn V)))) → va_S (fun q : Nat => s.heap.size ≤ q) s.heap H locs → lv_has ls 19 [(12, .int (nI (zBc (zMay (zn V) C j) 9))), (9, .int (nI j)), (8, .int (nI (zsum X (j + 1)))), (7, .int (nI (zn V))), (5, .long (zDig V X C t)), (3, .int (nI tm)), (4, .int x), (0, .ref b), (1, .ref (a 0)), (2, .ref sh)] → W p l e room_1 s m #[.ref b] below meth c9 H locs cells slots Q (F0 m 253 ls [])) → ∀ (r v : Nat) (c : zS) (H : Heap) (locs : List Loc) (ls : Array Slot), v + r = 9 → zR V X C c t → va_P G.1 vwCl (zCW3 G a c ++ (([(sh, .inr (4, [.ref sv, .ref sa, .ref sc, .ref sl])), (sv, .inl (G.2.1, zn V, .inl (zar (zn V) V))), (sa, .inl (G.2.1, zn V, .inl (zar (zn V) X))), (sc, .inl (G.2.1, 6, .inl (zkt t))), (sl, .inl (G.2.2.1, rows.length, .inr (.inr (.inr (.inr (zlf rows))))))] : va_W) ++ rows.map (zrc G (zn V)))) H → va_D (fun q : Nat => s.heap.size ≤ q) (zCW3 G a c ++ (([(sh, .inr (4, [.ref sv, .ref sa, .ref sc, .ref sl])), (sv, .inl (G.2.1, zn V, .inl (zar (zn V) V))), (sa, .inl (G.2.1, zn V, .inl (zar (zn V) X))), (sc, .inl (G.2.1, 6, .inl (zkt t))), (sl, .inl (G.2.2.1, rows.length, .inr (.inr (.inr (.inr (zlf rows))))))] : va_W) ++ rows.map (zrc G (zn V)))) → va_S (fun q : Nat => s.heap.size ≤ q) s.heap H locs → lv_has ls 19 [(13, .int (nI (v + 1))), (12, .int (nI (zBc (zMay (zn V) C j) v))), (9, .int (nI j)), (8, .int (nI (zsum X (j + 1)))), (7, .int (nI (zn V))), (5, .long (zDig V X C t)), (3, .int (nI tm)), (4, .int x), (0, .ref b), (1, .ref (a 0)), (2, .ref sh)] → W p l e room_1 s m #[.ref b] below meth c9 H locs cells slots Q (F0 m 219 ls []) := by
    intro j hj kk r
    induction r with
    | zero =>
      intro v c H locs ls hv hR hP hD hS hl
      obtain rfl : v = 9 := by omega
      refine lv_iload hx hb dL_law_219 (lv_at hl 0 rfl) ?_
      refine lv_bipush (v := nI 10) hx hb dL_law_221 (by decide) ?_
      refine lv_icmp_ge (tgt := 253) hx hb dL_law_223 (by decide) (fun _ => ?_) (fun z => absurd (show (nI 10) ≤ (nI 10) from (by decide)) z)
      exact kk c H locs ls hR hP hD hS (lv_sub hl [1, 2, 3, 4, 5, 6, 7, 8, 9, 10] rfl)
    | succ r ih =>
      intro v c H locs ls hv hR hP hD hS hl
      have hb1 := hbc (zMay (zn V) C j) v
      refine lv_iload hx hb dL_law_219 (lv_at hl 0 rfl) ?_
      refine lv_bipush (v := nI 10) hx hb dL_law_221 (by decide) ?_
      refine lv_icmp_ge (tgt := 253) hx hb dL_law_223 (by decide) (fun z => absurd z (show ¬ (nI 10) ≤ (nI (v + 1)) from (nI_ge (by omega) (by omega)))) (fun _ => ?_)
      refine lv_iload hx hb dL_law_226 (lv_at hl 1 rfl) ?_
      refine lv_aload_n hx hb dL_law_228 rfl (lv_at hl 9 rfl) ?_
      refine lv_iload hx hb dL_law_229 (lv_at hl 2 rfl) ?_
      refine lv_iload hx hb dL_law_231 (lv_at hl 0 rfl) ?_
      refine zl_C (As := [.int (nI j), .int (nI (v + 1))]) (rest := [.int (nI (zBc (zMay (zn V) C j) v))]) F (q_mayBe l G a hR hj (by omega) (by omega)) gL_law_X3_mayBe rfl rfl rfl zd_X3_mayBe ⟨(Nat.le_of_ble_eq_true rfl), (Nat.le_of_ble_eq_true rfl)⟩ rfl rfl (Nat.le_of_ble_eq_true rfl) dL_law_233 hcs hK hP hD hS hA hl.1 (fun c H locs hR hP hD hS => ?_)
      by_cases q : zMay (zn V) C j (v + 1) = true
      · refine lv_if_eq (tgt := 243) hx hb dL_law_236 (by decide) (fun z => absurd z (show ¬ (zb01 (zMay (zn V) C j (v + 1))) = (nI 0) from (by rw [q]; decide))) (fun _ => ?_)
        refine lv_iconst (v := nI 1) hx hb dL_law_239 (by decide) ?_
        refine lv_goto (tgt := 244) hx hb dL_law_240 (by decide) ?_
        refine lv_iadd hx hb dL_law_244 ?_
        refine zt_top (v := (nI (zBc (zMay (zn V) C j) (v + 1)))) ((nI_add (zBc (zMay (zn V) C j) v) 1).trans (congrArg nI (show zBc (zMay (zn V) C j) v + 1 = zBc (zMay (zn V) C j) v + (if zMay (zn V) C j (v + 1) = true then 1 else 0) by rw [if_pos q]))) ?_
        refine lv_istore (lv' := [(12, .int (nI (zBc (zMay (zn V) C j) (v + 1)))), (13, .int (nI (v + 1))), (9, .int (nI j)), (8, .int (nI (zsum X (j + 1)))), (7, .int (nI (zn V))), (5, .long (zDig V X C t)), (3, .int (nI tm)), (4, .int x), (0, .ref b), (1, .ref (a 0)), (2, .ref sh)]) hx hb dL_law_245 hl (by decide) rfl (fun ls hl => ?_)
        refine lv_iinc (v := (nI ((v + 1) + 1))) (lv' := [(13, .int (nI ((v + 1) + 1))), (12, .int (nI (zBc (zMay (zn V) C j) (v + 1)))), (9, .int (nI j)), (8, .int (nI (zsum X (j + 1)))), (7, .int (nI (zn V))), (5, .long (zDig V X C t)), (3, .int (nI tm)), (4, .int x), (0, .ref b), (1, .ref (a 0)), (2, .ref sh)]) hx hb dL_law_247 hl (k := 1) rfl (nI_1 (v + 1)) (by decide) rfl (fun ls hl => ?_)
        refine lv_goto (tgt := 219) hx hb dL_law_250 (by decide) ?_
        exact ih (v + 1) c H locs ls (by omega) hR hP hD hS (lv_sub hl [0, 1, 2, 3, 4, 5, 6, 7, 8, 9, 10] rfl)
      · refine lv_if_eq (tgt := 243) hx hb dL_law_236 (by decide) (fun _ => ?_) (fun z => absurd (show (zb01 (zMay (zn V) C j (v + 1))) = (nI 0) from (by rw [Bool.eq_false_iff.mpr q]; rfl)) z)
        refine lv_iconst (v := nI 0) hx hb dL_law_243 (by decide) ?_
        refine lv_iadd hx hb dL_law_244 ?_
        refine zt_top (v := (nI (zBc (zMay (zn V) C j) (v + 1)))) ((nI_add (zBc (zMay (zn V) C j) v) 0).trans (congrArg nI (show zBc (zMay (zn V) C j) v = zBc (zMay (zn V) C j) v + (if zMay (zn V) C j (v + 1) = true then 1 else 0) by rw [if_neg q, Nat.add_zero]))) ?_
        refine lv_istore (lv' := [(12, .int (nI (zBc (zMay (zn V) C j) (v + 1)))), (13, .int (nI (v + 1))), (9, .int (nI j)), (8, .int (nI (zsum X (j + 1)))), (7, .int (nI (zn V))), (5, .long (zDig V X C t)), (3, .int (nI tm)), (4, .int x), (0, .ref b), (1, .ref (a 0)), (2, .ref sh)]) hx hb dL_law_245 hl (by decide) rfl (fun ls hl => ?_)
        refine lv_iinc (v := (nI ((v + 1) + 1))) (lv' := [(13, .int (nI ((v + 1) + 1))), (12, .int (nI (zBc (zMay (zn V) C j) (v + 1)))), (9, .int (nI j)), (8, .int (nI (zsum X (j + 1)))), (7, .int (nI (zn V))), (5, .long (zDig V X C t)), (3, .int (nI tm)), (4, .int x), (0, .ref b), (1, .ref (a 0)), (2, .ref sh)]) hx hb dL_law_247 hl (k := 1) rfl (nI_1 (v + 1)) (by decide) rfl (fun ls hl => ?_)
        refine lv_goto (tgt := 219) hx hb dL_law_250 (by decide) ?_
        exact ih (v + 1) c H locs ls (by omega) hR hP hD hS (lv_sub hl [0, 1, 2, 3, 4, 5, 6, 7, 8, 9, 10] rfl)
  have loopB : ∀ (r j : Nat) (c : zS) (H : Heap) (locs : List Loc) (ls : Array Slot), j + r = zn V → zR V X C c t → va_P G.1 vwCl (zCW3 G a c ++ (([(sh, .inr (4, [.ref sv, .ref sa, .ref sc, .ref sl])), (sv, .inl (G.2.1, zn V, .inl (zar (zn V) V))), (sa, .inl (G.2.1, zn V, .inl (zar (zn V) X))), (sc, .inl (G.2.1, 6, .inl (zkt t))), (sl, .inl (G.2.2.1, rows.length, .inr (.inr (.inr (.inr (zlf rows))))))] : va_W) ++ rows.map (zrc G (zn V)))) H → va_D (fun q : Nat => s.heap.size ≤ q) (zCW3 G a c ++ (([(sh, .inr (4, [.ref sv, .ref sa, .ref sc, .ref sl])), (sv, .inl (G.2.1, zn V, .inl (zar (zn V) V))), (sa, .inl (G.2.1, zn V, .inl (zar (zn V) X))), (sc, .inl (G.2.1, 6, .inl (zkt t))), (sl, .inl (G.2.2.1, rows.length, .inr (.inr (.inr (.inr (zlf rows))))))] : va_W) ++ rows.map (zrc G (zn V)))) → va_S (fun q : Nat => s.heap.size ≤ q) s.heap H locs → lv_has ls 19 [(9, .int (nI j)), (8, .int (nI (zsum X j))), (7, .int (nI (zn V))), (5, .long (zDig V X C t)), (3, .int (nI tm)), (4, .int x), (0, .ref b), (1, .ref (a 0)), (2, .ref sh)] → W p l e room_1 s m #[.ref b] below meth c9 H locs cells slots Q (F0 m 98 ls []) := by
    intro r
    induction r with
    | zero =>
      intro j c H locs ls hj hR hP hD hS hl
      obtain rfl : j = zn V := by omega
      refine lv_iload hx hb dL_law_98 (lv_at hl 0 rfl) ?_
      refine lv_iload hx hb dL_law_100 (lv_at hl 2 rfl) ?_
      refine lv_icmp_ge (tgt := 281) hx hb dL_law_102 (by decide) (fun _ => ?_) (fun z => absurd (show (nI (zn V)) ≤ (nI (zn V)) from (nI_le (by omega) (by omega))) z)
      exact k281 c H locs ls hR hP hD hS (lv_sub hl [1, 2, 3, 4, 5, 6, 7, 8] rfl)
    | succ r ih =>
      intro j c H locs ls hj hR hP hD hS hl
      have hj2 : j < zn V := by omega
      have o9 := ok j (by omega)
      have v9 := zV_1 hL.1.pv hj2
      have hmy := hL.2.2.1.may hL.1.cok (j := j) (by omega)
      refine lv_iload hx hb dL_law_98 (lv_at hl 0 rfl) ?_
      refine lv_iload hx hb dL_law_100 (lv_at hl 2 rfl) ?_
      refine lv_icmp_ge (tgt := 281) hx hb dL_law_102 (by decide) (fun z => absurd z (show ¬ (nI (zn V)) ≤ (nI j) from (nI_ge (by omega) (by omega)))) (fun _ => ?_)
      refine lv_aload_n hx hb dL_law_105 rfl (lv_at hl 7 rfl) ?_
      refine lv_iload hx hb dL_law_106 (lv_at hl 0 rfl) ?_
      refine zl_C (As := [.int (nI j)]) (rest := []) F (q_volumeOf l G a hR hj2) gL_law_X3_volumeOf rfl rfl rfl zd_X3_volumeOf ⟨(Nat.le_of_ble_eq_true rfl), (Nat.le_of_ble_eq_true rfl)⟩ rfl rfl (Nat.le_of_ble_eq_true rfl) dL_law_108 hcs hK hP hD hS hA hl.1 (fun c H locs hR hP hD hS => ?_)
      refine lv_istore (lv' := [(10, .int (nI (V j))), (9, .int (nI j)), (8, .int (nI (zsum X j))), (7, .int (nI (zn V))), (5, .long (zDig V X C t)), (3, .int (nI tm)), (4, .int x), (0, .ref b), (1, .ref (a 0)), (2, .ref sh)]) hx hb dL_law_111 hl (by decide) rfl (fun ls hl => ?_)
      refine lv_aload_n hx hb dL_law_113 rfl (lv_at hl 8 rfl) ?_
      refine lv_iload hx hb dL_law_114 (lv_at hl 1 rfl) ?_
      refine zl_C (As := [.int (nI j)]) (rest := []) F (q_amountOf l G a hR hj2) gL_law_X3_amountOf rfl rfl rfl zd_X3_amountOf ⟨(Nat.le_of_ble_eq_true rfl), (Nat.le_of_ble_eq_true rfl)⟩ rfl rfl (Nat.le_of_ble_eq_true rfl) dL_law_116 hcs hK hP hD hS hA hl.1 (fun c H locs hR hP hD hS => ?_)
      refine lv_istore (lv' := [(11, .int (nI (X j))), (10, .int (nI (V j))), (9, .int (nI j)), (8, .int (nI (zsum X j))), (7, .int (nI (zn V))), (5, .long (zDig V X C t)), (3, .int (nI tm)), (4, .int x), (0, .ref b), (1, .ref (a 0)), (2, .ref sh)]) hx hb dL_law_119 hl (by decide) rfl (fun ls hl => ?_)
      refine lv_iload hx hb dL_law_121 (lv_at hl 3 rfl) ?_
      refine lv_iload hx hb dL_law_123 (lv_at hl 0 rfl) ?_
      refine lv_iadd hx hb dL_law_125 ?_
      refine zt_top (v := (nI (zsum X (j + 1)))) ((nI_add (zsum X j) (X j)).trans (congrArg nI (rfl))) ?_
      refine lv_istore (lv' := [(8, .int (nI (zsum X (j + 1)))), (11, .int (nI (X j))), (10, .int (nI (V j))), (9, .int (nI j)), (7, .int (nI (zn V))), (5, .long (zDig V X C t)), (3, .int (nI tm)), (4, .int x), (0, .ref b), (1, .ref (a 0)), (2, .ref sh)]) hx hb dL_law_126 hl (by decide) rfl (fun ls hl => ?_)
      refine lv_iload hx hb dL_law_128 (lv_at hl 1 rfl) ?_
      refine lv_if_lt (tgt := 211) hx hb dL_law_130 (by decide) (fun z => absurd z (show ¬ (nI (X j)) < (nI 0) from (nI_nlt (by omega) (by omega)))) (fun _ => ?_)
      refine lv_iload hx hb dL_law_133 (lv_at hl 1 rfl) ?_
      refine lv_iload hx hb dL_law_135 (lv_at hl 2 rfl) ?_
      refine lv_icmp_gt (tgt := 211) hx hb dL_law_137 (by decide) (fun z => absurd z (show ¬ (nI (V j)) < (nI (X j)) from (nI_nlt (by omega) (by omega)))) (fun _ => ?_)
      refine lv_aload_n hx hb dL_law_140 rfl (lv_at hl 9 rfl) ?_
      refine lv_iload hx hb dL_law_141 (lv_at hl 3 rfl) ?_
      refine zl_C (As := [.int (nI j)]) (rest := []) F (q_isEmpty l G a hR hj2) gL_law_X3_isEmpty rfl rfl rfl zd_X3_isEmpty ⟨(Nat.le_of_ble_eq_true rfl), (Nat.le_of_ble_eq_true rfl)⟩ rfl rfl (Nat.le_of_ble_eq_true rfl) dL_law_143 hcs hK hP hD hS hA hl.1 (fun c H locs hR hP hD hS => ?_)
      refine lv_iload hx hb dL_law_146 (lv_at hl 1 rfl) ?_
      have key : ∀ (c : zS) (H : Heap) (locs : List Loc) (ls : Array Slot), zR V X C c t → va_P G.1 vwCl (zCW3 G a c ++ (([(sh, .inr (4, [.ref sv, .ref sa, .ref sc, .ref sl])), (sv, .inl (G.2.1, zn V, .inl (zar (zn V) V))), (sa, .inl (G.2.1, zn V, .inl (zar (zn V) X))), (sc, .inl (G.2.1, 6, .inl (zkt t))), (sl, .inl (G.2.2.1, rows.length, .inr (.inr (.inr (.inr (zlf rows))))))] : va_W) ++ rows.map (zrc G (zn V)))) H → va_D (fun q : Nat => s.heap.size ≤ q) (zCW3 G a c ++ (([(sh, .inr (4, [.ref sv, .ref sa, .ref sc, .ref sl])), (sv, .inl (G.2.1, zn V, .inl (zar (zn V) V))), (sa, .inl (G.2.1, zn V, .inl (zar (zn V) X))), (sc, .inl (G.2.1, 6, .inl (zkt t))), (sl, .inl (G.2.2.1, rows.length, .inr (.inr (.inr (.inr (zlf rows))))))] : va_W) ++ rows.map (zrc G (zn V)))) → va_S (fun q : Nat => s.heap.size ≤ q) s.heap H locs → lv_has ls 19 [(11, .int (nI (X j))), (10, .int (nI (V j))), (9, .int (nI j)), (8, .int (nI (zsum X (j + 1)))), (7, .int (nI (zn V))), (5, .long (zDig V X C t)), (3, .int (nI tm)), (4, .int x), (0, .ref b), (1, .ref (a 0)), (2, .ref sh)] → W p l e room_1 s m #[.ref b] below meth c9 H locs cells slots Q (F0 m 159 ls []) := by
        intro c H locs ls hR hP hD hS hl
        refine lv_aload_n hx hb dL_law_159 rfl (lv_at hl 9 rfl) ?_
        refine lv_iload hx hb dL_law_160 (lv_at hl 2 rfl) ?_
        refine zl_C (As := [.int (nI j)]) (rest := []) F (q_isFull l G a hR hj2) gL_law_X3_isFull rfl rfl rfl zd_X3_isFull ⟨(Nat.le_of_ble_eq_true rfl), (Nat.le_of_ble_eq_true rfl)⟩ rfl rfl (Nat.le_of_ble_eq_true rfl) dL_law_162 hcs hK hP hD hS hA hl.1 (fun c H locs hR hP hD hS => ?_)
        refine lv_iload hx hb dL_law_165 (lv_at hl 0 rfl) ?_
        refine lv_iload hx hb dL_law_167 (lv_at hl 1 rfl) ?_
        have key2 : ∀ (c : zS) (H : Heap) (locs : List Loc) (ls : Array Slot), zR V X C c t → va_P G.1 vwCl (zCW3 G a c ++ (([(sh, .inr (4, [.ref sv, .ref sa, .ref sc, .ref sl])), (sv, .inl (G.2.1, zn V, .inl (zar (zn V) V))), (sa, .inl (G.2.1, zn V, .inl (zar (zn V) X))), (sc, .inl (G.2.1, 6, .inl (zkt t))), (sl, .inl (G.2.2.1, rows.length, .inr (.inr (.inr (.inr (zlf rows))))))] : va_W) ++ rows.map (zrc G (zn V)))) H → va_D (fun q : Nat => s.heap.size ≤ q) (zCW3 G a c ++ (([(sh, .inr (4, [.ref sv, .ref sa, .ref sc, .ref sl])), (sv, .inl (G.2.1, zn V, .inl (zar (zn V) V))), (sa, .inl (G.2.1, zn V, .inl (zar (zn V) X))), (sc, .inl (G.2.1, 6, .inl (zkt t))), (sl, .inl (G.2.2.1, rows.length, .inr (.inr (.inr (.inr (zlf rows))))))] : va_W) ++ rows.map (zrc G (zn V)))) → va_S (fun q : Nat => s.heap.size ≤ q) s.heap H locs → lv_has ls 19 [(11, .int (nI (X j))), (10, .int (nI (V j))), (9, .int (nI j)), (8, .int (nI (zsum X (j + 1)))), (7, .int (nI (zn V))), (5, .long (zDig V X C t)), (3, .int (nI tm)), (4, .int x), (0, .ref b), (1, .ref (a 0)), (2, .ref sh)] → W p l e room_1 s m #[.ref b] below meth c9 H locs cells slots Q (F0 m 180 ls []) := by
          intro c H locs ls hR hP hD hS hl
          refine lv_aload_n hx hb dL_law_180 rfl (lv_at hl 9 rfl) ?_
          refine lv_iload hx hb dL_law_181 (lv_at hl 2 rfl) ?_
          refine lv_iload hx hb dL_law_183 (lv_at hl 1 rfl) ?_
          refine zl_C (As := [.int (nI j), .int (nI (V j))]) (rest := []) F (q_mayBe l G a hR hj2 v9 o9.2) gL_law_X3_mayBe rfl rfl rfl zd_X3_mayBe ⟨(Nat.le_of_ble_eq_true rfl), (Nat.le_of_ble_eq_true rfl)⟩ rfl rfl (Nat.le_of_ble_eq_true rfl) dL_law_185 hcs hK hP hD hS hA hl.1 (fun c H locs hR hP hD hS => ?_)
          refine lv_if_eq (tgt := 211) hx hb dL_law_188 (by decide) (fun z => absurd z (show ¬ (zb01 (zMay (zn V) C j (V j))) = (nI 0) from (by rw [hmy]; decide))) (fun _ => ?_)
          refine lv_aload_n hx hb dL_law_191 rfl (lv_at hl 9 rfl) ?_
          refine lv_iload hx hb dL_law_192 (lv_at hl 2 rfl) ?_
          refine lv_iload hx hb dL_law_194 (lv_at hl 0 rfl) ?_
          refine zl_C (As := [.int (nI j), .int (nI (X j))]) (rest := []) F (q_leastActsIn l G a hR hj2 (Nat.le_trans o9.1 o9.2)) gL_law_X3_leastActsIn rfl rfl rfl zd_X3_leastActsIn ⟨(Nat.le_of_ble_eq_true rfl), (Nat.le_of_ble_eq_true rfl)⟩ rfl rfl (Nat.le_of_ble_eq_true rfl) dL_law_196 hcs hK hP hD hS hA hl.1 (fun c H locs hR hP hD hS => ?_)
          refine zt_top (v := nI 0) (zWith_0 ok (by omega)) ?_
          refine lv_if_ne (tgt := 211) hx hb dL_law_199 (by decide) (fun z => absurd (show (nI 0) = (nI 0) from rfl) z) (fun _ => ?_)
          refine lv_aload_n hx hb dL_law_202 rfl (lv_at hl 9 rfl) ?_
          refine lv_iload hx hb dL_law_203 (lv_at hl 0 rfl) ?_
          refine zl_C (As := [.int (nI (X j))]) (rest := []) F (q_isThere l G a hR (Nat.le_trans o9.1 o9.2)) gL_law_X3_isThere rfl rfl rfl zd_X3_isThere ⟨(Nat.le_of_ble_eq_true rfl), (Nat.le_of_ble_eq_true rfl)⟩ rfl rfl (Nat.le_of_ble_eq_true rfl) dL_law_205 hcs hK hP hD hS hA hl.1 (fun c H locs hR hP hD hS => ?_)
          refine lv_if_ne (tgt := 213) hx hb dL_law_208 (by decide) (fun _ => ?_) (fun z => absurd z (show ¬ (zb01 (zhas (zn V) X (X j))) = (nI 0) from (by rw [zhas_own hj2]; decide)))
          refine lv_iconst (v := nI 0) hx hb dL_law_213 (by decide) ?_
          refine lv_istore (lv' := [(12, .int (nI 0)), (11, .int (nI (X j))), (10, .int (nI (V j))), (9, .int (nI j)), (8, .int (nI (zsum X (j + 1)))), (7, .int (nI (zn V))), (5, .long (zDig V X C t)), (3, .int (nI tm)), (4, .int x), (0, .ref b), (1, .ref (a 0)), (2, .ref sh)]) hx hb dL_law_214 hl (by decide) rfl (fun ls hl => ?_)
          refine lv_iconst (v := nI 1) hx hb dL_law_216 (by decide) ?_
          refine lv_istore (lv' := [(13, .int (nI 1)), (12, .int (nI 0)), (11, .int (nI (X j))), (10, .int (nI (V j))), (9, .int (nI j)), (8, .int (nI (zsum X (j + 1)))), (7, .int (nI (zn V))), (5, .long (zDig V X C t)), (3, .int (nI tm)), (4, .int x), (0, .ref b), (1, .ref (a 0)), (2, .ref sh)]) hx hb dL_law_217 hl (by decide) rfl (fun ls hl => ?_)
          refine loopV j hj2 ?_ 9 0 c H locs ls (by omega) hR hP hD hS (lv_sub hl [0, 1, 4, 5, 6, 7, 8, 9, 10, 11, 12] rfl)
          intro c H locs ls hR hP hD hS hl
          have hb1 := hbc (zMay (zn V) C j) 9
          refine lv_aload_n hx hb dL_law_253 rfl (lv_at hl 8 rfl) ?_
          refine lv_iload hx hb dL_law_254 (lv_at hl 1 rfl) ?_
          refine zl_C (As := [.int (nI j)]) (rest := []) F (q_isKnown l G a hR hj2) gL_law_X3_isKnown rfl rfl rfl zd_X3_isKnown ⟨(Nat.le_of_ble_eq_true rfl), (Nat.le_of_ble_eq_true rfl)⟩ rfl rfl (Nat.le_of_ble_eq_true rfl) dL_law_256 hcs hK hP hD hS hA hl.1 (fun c H locs hR hP hD hS => ?_)
          refine lv_iload hx hb dL_law_259 (lv_at hl 0 rfl) ?_
          refine lv_iconst (v := nI 1) hx hb dL_law_261 (by decide) ?_
          by_cases q : zBc (zMay (zn V) C j) 9 = 1
          · refine lv_icmp_ne (tgt := 269) hx hb dL_law_262 (by decide) (fun z => absurd (show (nI (zBc (zMay (zn V) C j) 9)) = (nI 1) from (congrArg nI q)) z) (fun _ => ?_)
            refine lv_iconst (v := nI 1) hx hb dL_law_265 (by decide) ?_
            refine lv_goto (tgt := 270) hx hb dL_law_266 (by decide) ?_
            refine lv_icmp_eq (tgt := 275) hx hb dL_law_270 (by decide) (fun _ => ?_) (fun z => absurd (show (zb01 (decide (zBc (zMay (zn V) C j) 9 = 1))) = (nI 1) from (by rw [decide_eq_true q]; rfl)) z)
            refine lv_iinc (v := (nI (j + 1))) (lv' := [(9, .int (nI (j + 1))), (12, .int (nI (zBc (zMay (zn V) C j) 9))), (8, .int (nI (zsum X (j + 1)))), (7, .int (nI (zn V))), (5, .long (zDig V X C t)), (3, .int (nI tm)), (4, .int x), (0, .ref b), (1, .ref (a 0)), (2, .ref sh)]) hx hb dL_law_275 hl (k := 1) rfl (nI_1 j) (by decide) rfl (fun ls hl => ?_)
            refine lv_goto (tgt := 98) hx hb dL_law_278 (by decide) ?_
            exact ih (j + 1) c H locs ls (by omega) hR hP hD hS (lv_sub hl [0, 2, 3, 4, 5, 6, 7, 8, 9] rfl)
          · refine lv_icmp_ne (tgt := 269) hx hb dL_law_262 (by decide) (fun _ => ?_) (fun z => absurd z (show ¬ (nI (zBc (zMay (zn V) C j) 9)) = (nI 1) from (fun z => q ((nI_eq (by omega) (by omega)).mp z))))
            refine lv_iconst (v := nI 0) hx hb dL_law_269 (by decide) ?_
            refine lv_icmp_eq (tgt := 275) hx hb dL_law_270 (by decide) (fun _ => ?_) (fun z => absurd (show (zb01 (decide (zBc (zMay (zn V) C j) 9 = 1))) = (nI 0) from (by rw [decide_eq_false q]; rfl)) z)
            refine lv_iinc (v := (nI (j + 1))) (lv' := [(9, .int (nI (j + 1))), (12, .int (nI (zBc (zMay (zn V) C j) 9))), (8, .int (nI (zsum X (j + 1)))), (7, .int (nI (zn V))), (5, .long (zDig V X C t)), (3, .int (nI tm)), (4, .int x), (0, .ref b), (1, .ref (a 0)), (2, .ref sh)]) hx hb dL_law_275 hl (k := 1) rfl (nI_1 j) (by decide) rfl (fun ls hl => ?_)
            refine lv_goto (tgt := 98) hx hb dL_law_278 (by decide) ?_
            exact ih (j + 1) c H locs ls (by omega) hR hP hD hS (lv_sub hl [0, 2, 3, 4, 5, 6, 7, 8, 9] rfl)
        by_cases q : X j = V j
        · refine lv_icmp_ne (tgt := 176) hx hb dL_law_169 (by decide) (fun z => absurd (show (nI (X j)) = (nI (V j)) from (congrArg nI q)) z) (fun _ => ?_)
          refine lv_iconst (v := nI 1) hx hb dL_law_172 (by decide) ?_
          refine lv_goto (tgt := 177) hx hb dL_law_173 (by decide) ?_
          refine lv_icmp_ne (tgt := 211) hx hb dL_law_177 (by decide) (fun z => absurd (show (zb01 (decide (X j = V j))) = (nI 1) from (by rw [decide_eq_true q]; rfl)) z) (fun _ => ?_)
          exact key2 c H locs ls hR hP hD hS hl
        · refine lv_icmp_ne (tgt := 176) hx hb dL_law_169 (by decide) (fun _ => ?_) (fun z => absurd z (show ¬ (nI (X j)) = (nI (V j)) from (fun z => q ((nI_eq (by omega) (by omega)).mp z))))
          refine lv_iconst (v := nI 0) hx hb dL_law_176 (by decide) ?_
          refine lv_icmp_ne (tgt := 211) hx hb dL_law_177 (by decide) (fun z => absurd (show (zb01 (decide (X j = V j))) = (nI 0) from (by rw [decide_eq_false q]; rfl)) z) (fun _ => ?_)
          exact key2 c H locs ls hR hP hD hS hl
      by_cases q : X j = 0
      · refine lv_if_ne (tgt := 155) hx hb dL_law_148 (by decide) (fun z => absurd (show (nI (X j)) = (nI 0) from (show nI (X j) = nI 0 from congrArg nI q)) z) (fun _ => ?_)
        refine lv_iconst (v := nI 1) hx hb dL_law_151 (by decide) ?_
        refine lv_goto (tgt := 156) hx hb dL_law_152 (by decide) ?_
        refine lv_icmp_ne (tgt := 211) hx hb dL_law_156 (by decide) (fun z => absurd (show (zb01 (decide (X j = 0))) = (nI 1) from (by rw [decide_eq_true q]; rfl)) z) (fun _ => ?_)
        exact key c H locs ls hR hP hD hS (lv_sub hl [1, 2, 3, 0, 4, 5, 6, 7, 8, 9, 10] rfl)
      · refine lv_if_ne (tgt := 155) hx hb dL_law_148 (by decide) (fun _ => ?_) (fun z => absurd z (show ¬ (nI (X j)) = (nI 0) from (fun z => q ((nI_eq (by omega) (by omega)).mp z))))
        refine lv_iconst (v := nI 0) hx hb dL_law_155 (by decide) ?_
        refine lv_icmp_ne (tgt := 211) hx hb dL_law_156 (by decide) (fun z => absurd (show (zb01 (decide (X j = 0))) = (nI 0) from (by rw [decide_eq_false q]; rfl)) z) (fun _ => ?_)
        exact key c H locs ls hR hP hD hS (lv_sub hl [1, 2, 3, 0, 4, 5, 6, 7, 8, 9, 10] rfl)
  refine lv_aload_n hx hb dL_law_80 rfl (lv_at hl 3 rfl) ?_
  refine zl_C (As := []) (rest := []) F (q_digest l G a hR) gL_law_X3_digest rfl rfl rfl zd_X3_digest ⟨(Nat.le_of_ble_eq_true rfl), (Nat.le_of_ble_eq_true rfl)⟩ rfl rfl (Nat.le_of_ble_eq_true rfl) dL_law_81 hcs hK hP hD hS hA hl.1 (fun c H locs hR hP hD hS => ?_)
  refine lv_lstore (lv' := [(5, .long (zDig V X C t)), (3, .int (nI tm)), (4, .int x), (0, .ref b), (1, .ref (a 0)), (2, .ref sh)]) hx hb dL_law_84 hl (by decide) rfl (fun ls hl => ?_)
  refine lv_aload_n hx hb dL_law_86 rfl (lv_at hl 4 rfl) ?_
  refine zl_C (As := []) (rest := []) F (q_jars l G a hR) gL_law_X3_jars rfl rfl rfl zd_X3_jars ⟨(Nat.le_of_ble_eq_true rfl), (Nat.le_of_ble_eq_true rfl)⟩ rfl rfl (Nat.le_of_ble_eq_true rfl) dL_law_87 hcs hK hP hD hS hA hl.1 (fun c H locs hR hP hD hS => ?_)
  refine lv_istore (lv' := [(7, .int (nI (zn V))), (5, .long (zDig V X C t)), (3, .int (nI tm)), (4, .int x), (0, .ref b), (1, .ref (a 0)), (2, .ref sh)]) hx hb dL_law_90 hl (by decide) rfl (fun ls hl => ?_)
  refine lv_iconst (v := nI 0) hx hb dL_law_92 (by decide) ?_
  refine lv_istore (lv' := [(8, .int (nI 0)), (7, .int (nI (zn V))), (5, .long (zDig V X C t)), (3, .int (nI tm)), (4, .int x), (0, .ref b), (1, .ref (a 0)), (2, .ref sh)]) hx hb dL_law_93 hl (by decide) rfl (fun ls hl => ?_)
  refine lv_iconst (v := nI 0) hx hb dL_law_95 (by decide) ?_
  refine lv_istore (lv' := [(9, .int (nI 0)), (8, .int (nI 0)), (7, .int (nI (zn V))), (5, .long (zDig V X C t)), (3, .int (nI tm)), (4, .int x), (0, .ref b), (1, .ref (a 0)), (2, .ref sh)]) hx hb dL_law_96 hl (by decide) rfl (fun ls hl => ?_)
  exact loopB (zn V) 0 c H locs ls (by omega) hR hP hD hS (lv_sub hl [0, 1, 2, 3, 4, 5, 6, 7, 8] rfl)
