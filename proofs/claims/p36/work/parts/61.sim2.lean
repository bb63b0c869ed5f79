/-! the law's own jars: can, sight, own, behind -/
theorem in_X4_can_X4 : ∀ w ∈ u_ws RX4 TX4 4, w ∈ wsX4_can := by decide +kernel
theorem in_X4_own_X4 : ∀ w ∈ u_ws RX4 TX4 4, w ∈ wsX4_own := by decide +kernel
abbrev rm_X4_can : Room := { frames := 0, cells := 0, slots := 0, locals := 0 }
abbrev rm_X4_sight : Room := { frames := 0, cells := 0, slots := 0, locals := 0 }
abbrev rm_X4_own : Room := { frames := 0, cells := 1, slots := 6, locals := 0 }
abbrev rm_X4_behind : Room := { frames := 1, cells := 3, slots := 12, locals := 40 }
theorem zd_X4_act : yX4_act.cls ≠ "java/lang/invoke/MethodHandle" ∧ yX4_act.cls ≠ "java/lang/invoke/VarHandle" ∧ (parseMethodDescriptor yX4_act.desc).map (fun d => d.parameters.length) = some 3 := by decide +kernel
theorem zd_X4_sight : yX4_sight.cls ≠ "java/lang/invoke/MethodHandle" ∧ yX4_sight.cls ≠ "java/lang/invoke/VarHandle" ∧ (parseMethodDescriptor yX4_sight.desc).map (fun d => d.parameters.length) = some 1 := by decide +kernel
theorem zd_X4_behind : yX4_behind.cls ≠ "java/lang/invoke/MethodHandle" ∧ yX4_behind.cls ≠ "java/lang/invoke/VarHandle" ∧ (parseMethodDescriptor yX4_behind.desc).map (fun d => d.parameters.length) = some 2 := by decide +kernel
theorem zd_X4_own : yX4_own.cls = RX4 ∧ yX4_own.cls ≠ "java/lang/invoke/MethodHandle" ∧ yX4_own.cls ≠ "java/lang/invoke/VarHandle" ∧ (parseMethodDescriptor yX4_own.desc).map (fun d => d.parameters.length) = some 0 := by decide +kernel
theorem zd_X4_can : yX4_can.cls = RX4 ∧ yX4_can.cls ≠ "java/lang/invoke/MethodHandle" ∧ yX4_can.cls ≠ "java/lang/invoke/VarHandle" ∧ (parseMethodDescriptor yX4_can.desc).map (fun d => d.parameters.length) = some 1 := by decide +kernel
/-- what is seen -/
def zsd (V X : Nat → Nat) (j : Nat) : Nat := if X j = 0 then 1 else if X j = V j then 2 else 0
def zsi (V X : Nat → Nat) : Nat → Nat
  | 0 => 0
  | j + 1 => 3 * zsi V X j + zsd V X j
theorem zsi_lt (V X : Nat → Nat) : ∀ j, zsi V X j < 3 ^ j := by
  intro j
  induction j with
  | zero => exact Nat.le_refl _
  | succ j ih =>
    have : zsd V X j ≤ 2 := by unfold zsd; split; omega; split <;> omega
    unfold zsi
    rw [Nat.pow_succ]
    omega
/-- the true row, made anew -/
def zow (n : Nat) (V X : Nat → Nat) : Nat → Int32 := fun i => if i < n then nI (V i) else if i < 2 * n then nI (X (i - n)) else 0
set_option maxHeartbeats 4000000 in
set_option maxRecDepth 100000 in
theorem s_can (l : Launch) (G : zG) {n : Nat} (hn : n = 2 ∨ n = 3) {V X : Nat → Nat} {t : zU} {a : Nat} (ha : a < 15) (sh sv sa sc sl : Nat) (rows : zRows) : zCr l G yX4_can wsX4_can rm_X4_can 0 0 [.ref sh, .int (nI a)] (zSW G sh n V X t (sv, sa, sc, sl, rows)) (fun _ : Unit => some (.int (zb01 (zalB n a)))) (fun _ : Unit => (zSW G sh n V X t (sv, sa, sc, sl, rows))) := by
  refine z_ofr (cc := cX4_can) (maxL := 3) (ret := (some .boolean)) (own := RX4) (by decide) rfl rfl (Nat.le_of_ble_eq_true rfl) ?_
  intro p e s m args below meth c A H locs ls F hr hlocks hname hK hA hP hD hS hl
  obtain ⟨hx, hb, hml, hown, hts⟩ := id F
  have hl : lv_has ls 3 [(0, .ref sh), (1, .int (nI a))] := hl
  have hP : va_P G.1 vwCl (([(sh, .inr (4, [.ref sv, .ref sa, .ref sc, .ref sl])), (sv, .inl (G.2.1, n, .inl (zar n V))), (sa, .inl (G.2.1, n, .inl (zar n X))), (sc, .inl (G.2.1, 6, .inl (zkt t))), (sl, .inl (G.2.2.1, rows.length, .inr (.inr (.inr (.inr (zlf rows))))))] : va_W) ++ rows.map (zrc G n)) H := hP
  have hD : va_D A (([(sh, .inr (4, [.ref sv, .ref sa, .ref sc, .ref sl])), (sv, .inl (G.2.1, n, .inl (zar n V))), (sa, .inl (G.2.1, n, .inl (zar n X))), (sc, .inl (G.2.1, 6, .inl (zkt t))), (sl, .inl (G.2.2.1, rows.length, .inr (.inr (.inr (.inr (zlf rows))))))] : va_W) ++ rows.map (zrc G n)) := hD
  refine lv_aload_n hx hb dX4_can_0 rfl (lv_at hl 0 rfl) ?_
  refine va_get (D := G.1) (ci := 4) (v := .ref sv) (C := RX4) (T := TX4) (N := 4) hx hb hts in_X4_can_X4 hown hK.1 hP 0 rfl rfl 0 (by decide) (hts (.fieldLink RX4 7 "JarRiddleLaw$Sim" "volume" "[I") (by decide +kernel)) (fun _ h9 => h9) rfl dX4_can_1 ?_
  refine zr_alen hx hb hK hP 1 rfl dX4_can_4 ?_
  refine lv_istore_n (lv' := [(2, .int (nI n)), (0, .ref sh), (1, .int (nI a))]) hx hb dX4_can_5 rfl hl (by decide) rfl (fun ls hl => ?_)
  refine lv_iload_n hx hb dX4_can_6 rfl (lv_at hl 2 rfl) ?_
  refine lv_iconst (v := nI 3) hx hb dX4_can_7 (by decide) ?_
  refine lv_irem hx hb dX4_can_8 (by decide) ?_
  refine zt_top (v := (nI (a % 3))) (pk_rem (by omega) (by omega) (by omega)) ?_
  refine lv_iload_n hx hb dX4_can_9 rfl (lv_at hl 0 rfl) ?_
  refine lv_icmp_ge (tgt := 43) hx hb dX4_can_10 (by decide) (fun h1 => ?_) (fun h1 => ?_)
  · have g1 : n ≤ a % 3 := (nI_leI (by omega) (by omega)).mp h1
    refine lv_iconst (v := nI 0) hx hb dX4_can_43 (by decide) ?_
    have kz : zalB n a = false := by
      refine Bool.eq_false_iff.mpr (fun z => ?_)
      have z2 := zalB_iff.mp z
      unfold zal at z2
      by_cases y1 : a < 3
      · rw [if_pos y1] at z2; omega
      · rw [if_neg y1] at z2
        by_cases y2 : a < 6
        · rw [if_pos y2] at z2; omega
        · rw [if_neg y2] at z2; omega
    exact zr_zret F hr hlocks hP hD hS () (List.Perm.refl _) (by rw [kz]; rfl) rfl dX4_can_44
  · have g1 : ¬ n ≤ a % 3 := fun z => h1 ((nI_leI (by omega) (by omega)).mpr z)
    refine lv_iload_n hx hb dX4_can_13 rfl (lv_at hl 2 rfl) ?_
    refine lv_bipush (v := nI 6) hx hb dX4_can_14 (by decide) ?_
    refine lv_icmp_lt (tgt := 39) hx hb dX4_can_16 (by decide) (fun h2 => ?_) (fun h2 => ?_)
    · have g2 : a < 6 := (nI_ltI (by omega) (by omega)).mp h2
      refine lv_iconst (v := nI 1) hx hb dX4_can_39 (by decide) ?_
      refine lv_goto (tgt := 44) hx hb dX4_can_40 (by decide) ?_
      have kz : zalB n a = true := by
        refine zalB_iff.mpr ?_
        unfold zal
        by_cases y1 : a < 3
        · rw [if_pos y1]; omega
        · rw [if_neg y1]
          by_cases y2 : a < 6
          · rw [if_pos y2]; omega
          · rw [if_neg y2]; refine ⟨?_, ?_, ?_⟩ <;> omega
      exact zr_zret F hr hlocks hP hD hS () (List.Perm.refl _) (by rw [kz]; rfl) rfl dX4_can_44
    · have g2 : ¬ a < 6 := fun z => h2 ((nI_ltI (by omega) (by omega)).mpr z)
      refine lv_iload_n hx hb dX4_can_19 rfl (lv_at hl 2 rfl) ?_
      refine lv_iconst (v := nI 3) hx hb dX4_can_20 (by decide) ?_
      refine lv_idiv hx hb dX4_can_21 (by decide) ?_
      refine zt_top (v := (nI (a / 3))) (pk_div (by omega) (by omega) (by omega)) ?_
      refine lv_iconst (v := nI 2) hx hb dX4_can_22 (by decide) ?_
      refine lv_isub hx hb dX4_can_23 ?_
      refine zt_top (v := (nI ((a / 3) - 2))) (pk_sub (by omega)) ?_
      refine lv_iload_n hx hb dX4_can_24 rfl (lv_at hl 0 rfl) ?_
      refine lv_icmp_ge (tgt := 43) hx hb dX4_can_25 (by decide) (fun h3 => ?_) (fun h3 => ?_)
      · have g3 : n ≤ a / 3 - 2 := (nI_leI (by omega) (by omega)).mp h3
        refine lv_iconst (v := nI 0) hx hb dX4_can_43 (by decide) ?_
        have kz : zalB n a = false := by
          refine Bool.eq_false_iff.mpr (fun z => ?_)
          have z2 := zalB_iff.mp z
          unfold zal at z2
          by_cases y1 : a < 3
          · rw [if_pos y1] at z2; omega
          · rw [if_neg y1] at z2
            by_cases y2 : a < 6
            · rw [if_pos y2] at z2; omega
            · rw [if_neg y2] at z2; omega
        exact zr_zret F hr hlocks hP hD hS () (List.Perm.refl _) (by rw [kz]; rfl) rfl dX4_can_44
      · have g3 : ¬ n ≤ a / 3 - 2 := fun z => h3 ((nI_leI (by omega) (by omega)).mpr z)
        refine lv_iload_n hx hb dX4_can_28 rfl (lv_at hl 2 rfl) ?_
        refine lv_iconst (v := nI 3) hx hb dX4_can_29 (by decide) ?_
        refine lv_idiv hx hb dX4_can_30 (by decide) ?_
        refine zt_top (v := (nI (a / 3))) (pk_div (by omega) (by omega) (by omega)) ?_
        refine lv_iconst (v := nI 2) hx hb dX4_can_31 (by decide) ?_
        refine lv_isub hx hb dX4_can_32 ?_
        refine zt_top (v := (nI ((a / 3) - 2))) (pk_sub (by omega)) ?_
        refine lv_iload_n hx hb dX4_can_33 rfl (lv_at hl 2 rfl) ?_
        refine lv_iconst (v := nI 3) hx hb dX4_can_34 (by decide) ?_
        refine lv_irem hx hb dX4_can_35 (by decide) ?_
        refine zt_top (v := (nI (a % 3))) (pk_rem (by omega) (by omega) (by omega)) ?_
        refine lv_icmp_eq (tgt := 43) hx hb dX4_can_36 (by decide) (fun h4 => ?_) (fun h4 => ?_)
        · have g4 : a / 3 - 2 = a % 3 := (nI_eq (by omega) (by omega)).mp h4
          refine lv_iconst (v := nI 0) hx hb dX4_can_43 (by decide) ?_
          have kz : zalB n a = false := by
            refine Bool.eq_false_iff.mpr (fun z => ?_)
            have z2 := zalB_iff.mp z
            unfold zal at z2
            by_cases y1 : a < 3
            · rw [if_pos y1] at z2; omega
            · rw [if_neg y1] at z2
              by_cases y2 : a < 6
              · rw [if_pos y2] at z2; omega
              · rw [if_neg y2] at z2; omega
          exact zr_zret F hr hlocks hP hD hS () (List.Perm.refl _) (by rw [kz]; rfl) rfl dX4_can_44
        · have g4 : ¬ a / 3 - 2 = a % 3 := fun z => h4 (congrArg nI z)
          refine lv_iconst (v := nI 1) hx hb dX4_can_39 (by decide) ?_
          refine lv_goto (tgt := 44) hx hb dX4_can_40 (by decide) ?_
          have kz : zalB n a = true := by
            refine zalB_iff.mpr ?_
            unfold zal
            by_cases y1 : a < 3
            · rw [if_pos y1]; omega
            · rw [if_neg y1]
              by_cases y2 : a < 6
              · rw [if_pos y2]; omega
              · rw [if_neg y2]; refine ⟨?_, ?_, ?_⟩ <;> omega
          exact zr_zret F hr hlocks hP hD hS () (List.Perm.refl _) (by rw [kz]; rfl) rfl dX4_can_44
set_option maxHeartbeats 4000000 in
set_option maxRecDepth 100000 in
theorem s_sight (l : Launch) (G : zG) {n : Nat} (hn : n = 2 ∨ n = 3) {V X : Nat → Nat} {f : Nat → Int32} (hv : ∀ i, i < n → f i = nI (V i)) (hx9 : ∀ i, i < n → f (n + i) = nI (X i)) (hb9 : ∀ i, i < n → V i ≤ 9 ∧ X i ≤ 9) (q : Nat) : zCr l G yX4_sight wsX4_sight rm_X4_sight 0 0 [.ref q] [(q, .inl (G.2.1, 2 * n, .inl f))] (fun _ : Unit => some (.int (nI (zsi V X n)))) (fun _ : Unit => [(q, .inl (G.2.1, 2 * n, .inl f))]) := by
  refine z_ofr (cc := cX4_sight) (maxL := 4) (ret := (some .int)) (own := RX4) (by decide) rfl rfl (Nat.le_of_ble_eq_true rfl) ?_
  intro p e s m args below meth c A H locs ls F hr hlocks hname hK hA hP hD hS hl
  obtain ⟨hx, hb, hml, hown, hts⟩ := id F
  have hl : lv_has ls 4 [(0, .ref q)] := hl
  have loop : ∀ (r j : Nat) (ls : Array Slot), j + r = n → lv_has ls 4 [(3, .int (nI j)), (2, .int (nI (zsi V X j))), (1, .int (nI n)), (0, .ref q)] → W p l e rm_X4_sight s m args below meth c H locs 0 0 (MQ below (zQr G (fun _ : Unit => some (.int (nI (zsi V X n)))) (fun _ : Unit => [(q, .inl (G.2.1, 2 * n, .inl f))]) A) args s 0 0 A) (F0 m 9 ls []) := by
    intro r
    induction r with
    | zero =>
      intro j ls hj hl
      obtain rfl : j = n := by omega
      refine lv_iload_n hx hb dX4_sight_9 rfl (lv_at hl 0 rfl) ?_
      refine lv_iload_n hx hb dX4_sight_10 rfl (lv_at hl 2 rfl) ?_
      refine lv_icmp_ge (tgt := 53) hx hb dX4_sight_11 (by decide) (fun _ => ?_) (fun z => absurd (show (nI j) ≤ (nI j) from (nI_le (by omega) (by omega))) z)
      refine lv_iload_n hx hb dX4_sight_53 rfl (lv_at hl 1 rfl) ?_
      exact zr_iret F hr hlocks hP hD hS () (List.Perm.refl _) rfl dX4_sight_54
    | succ r ih =>
      intro j ls hj hl
      have hbj := hb9 j (by omega)
      have hs9 := zsi_lt V X j
      have h3 : 3 ^ j ≤ 27 := by rcases (by omega : j = 0 ∨ j = 1 ∨ j = 2) with rfl | rfl | rfl <;> decide
      refine lv_iload_n hx hb dX4_sight_9 rfl (lv_at hl 0 rfl) ?_
      refine lv_iload_n hx hb dX4_sight_10 rfl (lv_at hl 2 rfl) ?_
      refine lv_icmp_ge (tgt := 53) hx hb dX4_sight_11 (by decide) (fun z => absurd z (show ¬ (nI n) ≤ (nI j) from (nI_ge (by omega) (by omega)))) (fun _ => ?_)
      refine lv_iconst (v := nI 3) hx hb dX4_sight_14 (by decide) ?_
      refine lv_iload_n hx hb dX4_sight_15 rfl (lv_at hl 1 rfl) ?_
      refine lv_imul hx hb dX4_sight_16 ?_
      refine zt_top (v := (nI (3 * (zsi V X j)))) (pk_mul 3 (zsi V X j)) ?_
      refine lv_aload_n hx hb dX4_sight_17 rfl (lv_at hl 3 rfl) ?_
      refine lv_iload_n hx hb dX4_sight_18 rfl (lv_at hl 2 rfl) ?_
      refine lv_iload_n hx hb dX4_sight_19 rfl (lv_at hl 0 rfl) ?_
      refine lv_iadd hx hb dX4_sight_20 ?_
      refine zt_top (v := (nI (n + j))) (nI_add n j) ?_
      refine zr_iald (v := (nI (X j))) hx hb hK hP 0 rfl (by omega) (by omega) (hx9 j (by omega)) dX4_sight_21 ?_
      by_cases q1 : X j = 0
      · refine lv_if_ne (tgt := 29) hx hb dX4_sight_22 (by decide) (fun z => absurd (show (nI (X j)) = (nI 0) from (congrArg nI (by omega))) z) (fun _ => ?_)
        refine lv_iconst (v := nI 1) hx hb dX4_sight_25 (by decide) ?_
        refine lv_goto (tgt := 45) hx hb dX4_sight_26 (by decide) ?_
        refine lv_iadd hx hb dX4_sight_45 ?_
        refine zt_top (v := (nI (zsi V X (j + 1)))) ((nI_add (3 * (zsi V X j)) 1).trans (congrArg nI (show 3 * zsi V X j + 1 = 3 * zsi V X j + zsd V X j by rw [zsd, if_pos q1]))) ?_
        refine lv_istore_n (lv' := [(2, .int (nI (zsi V X (j + 1)))), (3, .int (nI j)), (1, .int (nI n)), (0, .ref q)]) hx hb dX4_sight_46 rfl hl (by decide) rfl (fun ls hl => ?_)
        refine lv_iinc (v := (nI (j + 1))) (lv' := [(3, .int (nI (j + 1))), (2, .int (nI (zsi V X (j + 1)))), (1, .int (nI n)), (0, .ref q)]) hx hb dX4_sight_47 hl (k := 1) rfl (nI_1 j) (by decide) rfl (fun ls hl => ?_)
        refine lv_goto (tgt := 9) hx hb dX4_sight_50 (by decide) ?_
        exact ih (j + 1) ls (by omega) (lv_sub hl [0, 1, 2, 3] rfl)
      · by_cases q2 : X j = V j
        · refine lv_if_ne (tgt := 29) hx hb dX4_sight_22 (by decide) (fun _ => ?_) (fun z => absurd z (show ¬ (nI (X j)) = (nI 0) from (fun z => absurd ((nI_eq (by omega) (by omega)).mp z) (by omega))))
          refine lv_aload_n hx hb dX4_sight_29 rfl (lv_at hl 3 rfl) ?_
          refine lv_iload_n hx hb dX4_sight_30 rfl (lv_at hl 2 rfl) ?_
          refine lv_iload_n hx hb dX4_sight_31 rfl (lv_at hl 0 rfl) ?_
          refine lv_iadd hx hb dX4_sight_32 ?_
          refine zt_top (v := (nI (n + j))) (nI_add n j) ?_
          refine zr_iald (v := (nI (X j))) hx hb hK hP 0 rfl (by omega) (by omega) (hx9 j (by omega)) dX4_sight_33 ?_
          refine lv_aload_n hx hb dX4_sight_34 rfl (lv_at hl 3 rfl) ?_
          refine lv_iload_n hx hb dX4_sight_35 rfl (lv_at hl 0 rfl) ?_
          refine zr_iald (v := (nI (V j))) hx hb hK hP 0 rfl (by omega) (by omega) (hv j (by omega)) dX4_sight_36 ?_
          refine lv_icmp_ne (tgt := 44) hx hb dX4_sight_37 (by decide) (fun z => absurd (show (nI (X j)) = (nI (V j)) from (congrArg nI (by omega))) z) (fun _ => ?_)
          refine lv_iconst (v := nI 2) hx hb dX4_sight_40 (by decide) ?_
          refine lv_goto (tgt := 45) hx hb dX4_sight_41 (by decide) ?_
          refine lv_iadd hx hb dX4_sight_45 ?_
          refine zt_top (v := (nI (zsi V X (j + 1)))) ((nI_add (3 * (zsi V X j)) 2).trans (congrArg nI (show 3 * zsi V X j + 2 = 3 * zsi V X j + zsd V X j by rw [zsd, if_neg q1, if_pos q2]))) ?_
          refine lv_istore_n (lv' := [(2, .int (nI (zsi V X (j + 1)))), (3, .int (nI j)), (1, .int (nI n)), (0, .ref q)]) hx hb dX4_sight_46 rfl hl (by decide) rfl (fun ls hl => ?_)
          refine lv_iinc (v := (nI (j + 1))) (lv' := [(3, .int (nI (j + 1))), (2, .int (nI (zsi V X (j + 1)))), (1, .int (nI n)), (0, .ref q)]) hx hb dX4_sight_47 hl (k := 1) rfl (nI_1 j) (by decide) rfl (fun ls hl => ?_)
          refine lv_goto (tgt := 9) hx hb dX4_sight_50 (by decide) ?_
          exact ih (j + 1) ls (by omega) (lv_sub hl [0, 1, 2, 3] rfl)
        · refine lv_if_ne (tgt := 29) hx hb dX4_sight_22 (by decide) (fun _ => ?_) (fun z => absurd z (show ¬ (nI (X j)) = (nI 0) from (fun z => absurd ((nI_eq (by omega) (by omega)).mp z) (by omega))))
          refine lv_aload_n hx hb dX4_sight_29 rfl (lv_at hl 3 rfl) ?_
          refine lv_iload_n hx hb dX4_sight_30 rfl (lv_at hl 2 rfl) ?_
          refine lv_iload_n hx hb dX4_sight_31 rfl (lv_at hl 0 rfl) ?_
          refine lv_iadd hx hb dX4_sight_32 ?_
          refine zt_top (v := (nI (n + j))) (nI_add n j) ?_
          refine zr_iald (v := (nI (X j))) hx hb hK hP 0 rfl (by omega) (by omega) (hx9 j (by omega)) dX4_sight_33 ?_
          refine lv_aload_n hx hb dX4_sight_34 rfl (lv_at hl 3 rfl) ?_
          refine lv_iload_n hx hb dX4_sight_35 rfl (lv_at hl 0 rfl) ?_
          refine zr_iald (v := (nI (V j))) hx hb hK hP 0 rfl (by omega) (by omega) (hv j (by omega)) dX4_sight_36 ?_
          refine lv_icmp_ne (tgt := 44) hx hb dX4_sight_37 (by decide) (fun _ => ?_) (fun z => absurd z (show ¬ (nI (X j)) = (nI (V j)) from (fun z => absurd ((nI_eq (by omega) (by omega)).mp z) (by omega))))
          refine lv_iconst (v := nI 0) hx hb dX4_sight_44 (by decide) ?_
          refine lv_iadd hx hb dX4_sight_45 ?_
          refine zt_top (v := (nI (zsi V X (j + 1)))) ((nI_add (3 * (zsi V X j)) 0).trans (congrArg nI (show 3 * zsi V X j = 3 * zsi V X j + zsd V X j by rw [zsd, if_neg q1, if_neg q2, Nat.add_zero]))) ?_
          refine lv_istore_n (lv' := [(2, .int (nI (zsi V X (j + 1)))), (3, .int (nI j)), (1, .int (nI n)), (0, .ref q)]) hx hb dX4_sight_46 rfl hl (by decide) rfl (fun ls hl => ?_)
          refine lv_iinc (v := (nI (j + 1))) (lv' := [(3, .int (nI (j + 1))), (2, .int (nI (zsi V X (j + 1)))), (1, .int (nI n)), (0, .ref q)]) hx hb dX4_sight_47 hl (k := 1) rfl (nI_1 j) (by decide) rfl (fun ls hl => ?_)
          refine lv_goto (tgt := 9) hx hb dX4_sight_50 (by decide) ?_
          exact ih (j + 1) ls (by omega) (lv_sub hl [0, 1, 2, 3] rfl)
  refine lv_aload_n hx hb dX4_sight_0 rfl (lv_at hl 0 rfl) ?_
  refine zr_alen hx hb hK hP 0 rfl dX4_sight_1 ?_
  refine lv_iconst (v := nI 2) hx hb dX4_sight_2 (by decide) ?_
  refine lv_idiv hx hb dX4_sight_3 (by decide) ?_
  refine zt_top (v := (nI n)) ((pk_div (by omega) (by omega) (by omega)).trans (congrArg nI (by omega))) ?_
  refine lv_istore_n (lv' := [(1, .int (nI n)), (0, .ref q)]) hx hb dX4_sight_4 rfl hl (by decide) rfl (fun ls hl => ?_)
  refine lv_iconst (v := nI 0) hx hb dX4_sight_5 (by decide) ?_
  refine lv_istore_n (lv' := [(2, .int (nI 0)), (1, .int (nI n)), (0, .ref q)]) hx hb dX4_sight_6 rfl hl (by decide) rfl (fun ls hl => ?_)
  refine lv_iconst (v := nI 0) hx hb dX4_sight_7 (by decide) ?_
  refine lv_istore_n (lv' := [(3, .int (nI 0)), (2, .int (nI 0)), (1, .int (nI n)), (0, .ref q)]) hx hb dX4_sight_8 rfl hl (by decide) rfl (fun ls hl => ?_)
  exact loop n 0 ls (by omega) (lv_sub hl [0, 1, 2, 3] rfl)
set_option maxHeartbeats 4000000 in
set_option maxRecDepth 100000 in
theorem s_own2 (l : Launch) (G : zG) {V X : Nat → Nat} {t : zU} (sh sv sa sc sl : Nat) (rows : zRows) : zCr l G yX4_own wsX4_own rm_X4_own 1 6 [.ref sh] (zSW G sh 2 V X t (sv, sa, sc, sl, rows)) (fun q : Nat => some (.ref q)) (fun q : Nat => zSW G sh 2 V X t (sv, sa, sc, sl, rows) ++ [(q, .inl (G.2.1, 2 * 2, .inl (zow 2 V X)))]) := by
  refine z_ofr (cc := cX4_own) (maxL := 4) (ret := (some (.array .int))) (own := RX4) (by decide) rfl rfl (Nat.le_of_ble_eq_true rfl) ?_
  intro p e s m args below meth c A H locs ls F hr hlocks hname hK hA hP hD hS hl
  obtain ⟨hx, hb, hml, hown, hts⟩ := id F
  have hl : lv_has ls 4 [(0, .ref sh)] := hl
  have hP : va_P G.1 vwCl (([(sh, .inr (4, [.ref sv, .ref sa, .ref sc, .ref sl])), (sv, .inl (G.2.1, 2, .inl (zar 2 V))), (sa, .inl (G.2.1, 2, .inl (zar 2 X))), (sc, .inl (G.2.1, 6, .inl (zkt t))), (sl, .inl (G.2.2.1, rows.length, .inr (.inr (.inr (.inr (zlf rows))))))] : va_W) ++ rows.map (zrc G 2)) H := hP
  have hD : va_D A (([(sh, .inr (4, [.ref sv, .ref sa, .ref sc, .ref sl])), (sv, .inl (G.2.1, 2, .inl (zar 2 V))), (sa, .inl (G.2.1, 2, .inl (zar 2 X))), (sc, .inl (G.2.1, 6, .inl (zkt t))), (sl, .inl (G.2.2.1, rows.length, .inr (.inr (.inr (.inr (zlf rows))))))] : va_W) ++ rows.map (zrc G 2)) := hD
  refine lv_aload_n hx hb dX4_own_0 rfl (lv_at hl 0 rfl) ?_
  refine va_get (D := G.1) (ci := 4) (v := .ref sv) (C := RX4) (T := TX4) (N := 4) hx hb hts in_X4_own_X4 hown hK.1 hP 0 rfl rfl 0 (by decide) (hts (.fieldLink RX4 7 "JarRiddleLaw$Sim" "volume" "[I") (by decide +kernel)) (fun _ h9 => h9) rfl dX4_own_1 ?_
  refine zr_alen hx hb hK hP 1 rfl dX4_own_4 ?_
  refine lv_istore_n (lv' := [(1, .int (nI 2)), (0, .ref sh)]) hx hb dX4_own_5 rfl hl (by decide) rfl (fun ls hl => ?_)
  refine lv_iconst (v := nI 2) hx hb dX4_own_6 (by decide) ?_
  refine lv_iload_n hx hb dX4_own_7 rfl (lv_at hl 0 rfl) ?_
  refine lv_imul hx hb dX4_own_8 ?_
  refine zt_top (v := (nI 4)) (pk_mul 2 2) ?_
  refine zr_new (N := 4) hx hb (hts (.arrayClass .int) (by decide +kernel)) hK hP hD hS hA (by omega) (Nat.le_of_ble_eq_true rfl) (Nat.le_of_ble_eq_true rfl) dX4_own_9 (fun q H hP hD hS => ?_)
  have hp9 := zj_move ([(sh, .inr (4, [.ref sv, .ref sa, .ref sc, .ref sl])), (sv, .inl (G.2.1, 2, .inl (zar 2 V))), (sa, .inl (G.2.1, 2, .inl (zar 2 X))), (sc, .inl (G.2.1, 6, .inl (zkt t))), (sl, .inl (G.2.2.1, rows.length, .inr (.inr (.inr (.inr (zlf rows))))))] : va_W) (rows.map (zrc G 2)) (q, .inl (G.2.1, 4, .inl (fun _ => 0)))
  have hP := hP.perm hp9
  have hD := hD.perm hp9
  have hP : va_P G.1 vwCl (([(sh, .inr (4, [.ref sv, .ref sa, .ref sc, .ref sl])), (sv, .inl (G.2.1, 2, .inl (zar 2 V))), (sa, .inl (G.2.1, 2, .inl (zar 2 X))), (sc, .inl (G.2.1, 6, .inl (zkt t))), (sl, .inl (G.2.2.1, rows.length, .inr (.inr (.inr (.inr (zlf rows)))))), (q, .inl (G.2.1, 4, .inl (fun _ => 0)))] : va_W) ++ rows.map (zrc G 2)) H := hP
  have hD : va_D A (([(sh, .inr (4, [.ref sv, .ref sa, .ref sc, .ref sl])), (sv, .inl (G.2.1, 2, .inl (zar 2 V))), (sa, .inl (G.2.1, 2, .inl (zar 2 X))), (sc, .inl (G.2.1, 6, .inl (zkt t))), (sl, .inl (G.2.2.1, rows.length, .inr (.inr (.inr (.inr (zlf rows)))))), (q, .inl (G.2.1, 4, .inl (fun _ => 0)))] : va_W) ++ rows.map (zrc G 2)) := hD
  refine lv_astore_n (lv' := [(2, .ref q), (1, .int (nI 2)), (0, .ref sh)]) hx hb dX4_own_11 rfl hl (by decide) rfl (fun ls hl => ?_)
  refine lv_iconst (v := nI 0) hx hb dX4_own_12 (by decide) ?_
  refine lv_istore_n (lv' := [(3, .int (nI 0)), (2, .ref q), (1, .int (nI 2)), (0, .ref sh)]) hx hb dX4_own_13 rfl hl (by decide) rfl (fun ls hl => ?_)
  refine lv_iload_n hx hb dX4_own_14 rfl (lv_at hl 0 rfl) ?_
  refine lv_iload_n hx hb dX4_own_15 rfl (lv_at hl 2 rfl) ?_
  refine lv_icmp_ge (tgt := 45) hx hb dX4_own_16 (by decide) (fun z => absurd z (show ¬ (nI 2) ≤ (nI 0) from (by decide))) (fun _ => ?_)
  refine lv_aload_n hx hb dX4_own_19 rfl (lv_at hl 1 rfl) ?_
  refine lv_iload_n hx hb dX4_own_20 rfl (lv_at hl 0 rfl) ?_
  refine lv_aload_n hx hb dX4_own_21 rfl (lv_at hl 3 rfl) ?_
  refine va_get (D := G.1) (ci := 4) (v := .ref sv) (C := RX4) (T := TX4) (N := 4) hx hb hts in_X4_own_X4 hown hK.1 hP 0 rfl rfl 0 (by decide) (hts (.fieldLink RX4 7 "JarRiddleLaw$Sim" "volume" "[I") (by decide +kernel)) (fun _ h9 => h9) rfl dX4_own_22 ?_
  refine lv_iload_n hx hb dX4_own_25 rfl (lv_at hl 0 rfl) ?_
  refine zr_iald (v := (nI (V 0))) hx hb hK hP 1 rfl (by omega) (by omega) (zar_at (by omega)) dX4_own_26 ?_
  refine zr_iast (g := upd (fun _ => 0) 0 (nI (V 0))) hx hb hK hP hD hS 5 rfl (by omega) (by omega) (rfl) dX4_own_27 (fun H locs hP hD hS => ?_)
  have hP : va_P G.1 vwCl (([(sh, .inr (4, [.ref sv, .ref sa, .ref sc, .ref sl])), (sv, .inl (G.2.1, 2, .inl (zar 2 V))), (sa, .inl (G.2.1, 2, .inl (zar 2 X))), (sc, .inl (G.2.1, 6, .inl (zkt t))), (sl, .inl (G.2.2.1, rows.length, .inr (.inr (.inr (.inr (zlf rows)))))), (q, .inl (G.2.1, 4, .inl (upd (fun _ => 0) 0 (nI (V 0)))))] : va_W) ++ rows.map (zrc G 2)) H := hP
  have hD : va_D A (([(sh, .inr (4, [.ref sv, .ref sa, .ref sc, .ref sl])), (sv, .inl (G.2.1, 2, .inl (zar 2 V))), (sa, .inl (G.2.1, 2, .inl (zar 2 X))), (sc, .inl (G.2.1, 6, .inl (zkt t))), (sl, .inl (G.2.2.1, rows.length, .inr (.inr (.inr (.inr (zlf rows)))))), (q, .inl (G.2.1, 4, .inl (upd (fun _ => 0) 0 (nI (V 0)))))] : va_W) ++ rows.map (zrc G 2)) := hD
  refine lv_aload_n hx hb dX4_own_28 rfl (lv_at hl 1 rfl) ?_
  refine lv_iload_n hx hb dX4_own_29 rfl (lv_at hl 2 rfl) ?_
  refine lv_iload_n hx hb dX4_own_30 rfl (lv_at hl 0 rfl) ?_
  refine lv_iadd hx hb dX4_own_31 ?_
  refine zt_top (v := (nI 2)) (nI_add 2 0) ?_
  refine lv_aload_n hx hb dX4_own_32 rfl (lv_at hl 3 rfl) ?_
  refine va_get (D := G.1) (ci := 4) (v := .ref sa) (C := RX4) (T := TX4) (N := 4) hx hb hts in_X4_own_X4 hown hK.1 hP 0 rfl rfl 1 (by decide) (hts (.fieldLink RX4 13 "JarRiddleLaw$Sim" "amount" "[I") (by decide +kernel)) (fun _ h9 => h9) rfl dX4_own_33 ?_
  refine lv_iload_n hx hb dX4_own_36 rfl (lv_at hl 0 rfl) ?_
  refine zr_iald (v := (nI (X 0))) hx hb hK hP 2 rfl (by omega) (by omega) (zar_at (by omega)) dX4_own_37 ?_
  refine zr_iast (g := upd (upd (fun _ => 0) 0 (nI (V 0))) 2 (nI (X 0))) hx hb hK hP hD hS 5 rfl (by omega) (by omega) (rfl) dX4_own_38 (fun H locs hP hD hS => ?_)
  have hP : va_P G.1 vwCl (([(sh, .inr (4, [.ref sv, .ref sa, .ref sc, .ref sl])), (sv, .inl (G.2.1, 2, .inl (zar 2 V))), (sa, .inl (G.2.1, 2, .inl (zar 2 X))), (sc, .inl (G.2.1, 6, .inl (zkt t))), (sl, .inl (G.2.2.1, rows.length, .inr (.inr (.inr (.inr (zlf rows)))))), (q, .inl (G.2.1, 4, .inl (upd (upd (fun _ => 0) 0 (nI (V 0))) 2 (nI (X 0)))))] : va_W) ++ rows.map (zrc G 2)) H := hP
  have hD : va_D A (([(sh, .inr (4, [.ref sv, .ref sa, .ref sc, .ref sl])), (sv, .inl (G.2.1, 2, .inl (zar 2 V))), (sa, .inl (G.2.1, 2, .inl (zar 2 X))), (sc, .inl (G.2.1, 6, .inl (zkt t))), (sl, .inl (G.2.2.1, rows.length, .inr (.inr (.inr (.inr (zlf rows)))))), (q, .inl (G.2.1, 4, .inl (upd (upd (fun _ => 0) 0 (nI (V 0))) 2 (nI (X 0)))))] : va_W) ++ rows.map (zrc G 2)) := hD
  refine lv_iinc (v := (nI 1)) (lv' := [(3, .int (nI 1)), (2, .ref q), (1, .int (nI 2)), (0, .ref sh)]) hx hb dX4_own_39 hl (k := 0) rfl (nI_1 0) (by decide) rfl (fun ls hl => ?_)
  refine lv_goto (tgt := 14) hx hb dX4_own_42 (by decide) ?_
  refine lv_iload_n hx hb dX4_own_14 rfl (lv_at hl 0 rfl) ?_
  refine lv_iload_n hx hb dX4_own_15 rfl (lv_at hl 2 rfl) ?_
  refine lv_icmp_ge (tgt := 45) hx hb dX4_own_16 (by decide) (fun z => absurd z (show ¬ (nI 2) ≤ (nI 1) from (by decide))) (fun _ => ?_)
  refine lv_aload_n hx hb dX4_own_19 rfl (lv_at hl 1 rfl) ?_
  refine lv_iload_n hx hb dX4_own_20 rfl (lv_at hl 0 rfl) ?_
  refine lv_aload_n hx hb dX4_own_21 rfl (lv_at hl 3 rfl) ?_
  refine va_get (D := G.1) (ci := 4) (v := .ref sv) (C := RX4) (T := TX4) (N := 4) hx hb hts in_X4_own_X4 hown hK.1 hP 0 rfl rfl 0 (by decide) (hts (.fieldLink RX4 7 "JarRiddleLaw$Sim" "volume" "[I") (by decide +kernel)) (fun _ h9 => h9) rfl dX4_own_22 ?_
  refine lv_iload_n hx hb dX4_own_25 rfl (lv_at hl 0 rfl) ?_
  refine zr_iald (v := (nI (V 1))) hx hb hK hP 1 rfl (by omega) (by omega) (zar_at (by omega)) dX4_own_26 ?_
  refine zr_iast (g := upd (upd (upd (fun _ => 0) 0 (nI (V 0))) 2 (nI (X 0))) 1 (nI (V 1))) hx hb hK hP hD hS 5 rfl (by omega) (by omega) (rfl) dX4_own_27 (fun H locs hP hD hS => ?_)
  have hP : va_P G.1 vwCl (([(sh, .inr (4, [.ref sv, .ref sa, .ref sc, .ref sl])), (sv, .inl (G.2.1, 2, .inl (zar 2 V))), (sa, .inl (G.2.1, 2, .inl (zar 2 X))), (sc, .inl (G.2.1, 6, .inl (zkt t))), (sl, .inl (G.2.2.1, rows.length, .inr (.inr (.inr (.inr (zlf rows)))))), (q, .inl (G.2.1, 4, .inl (upd (upd (upd (fun _ => 0) 0 (nI (V 0))) 2 (nI (X 0))) 1 (nI (V 1)))))] : va_W) ++ rows.map (zrc G 2)) H := hP
  have hD : va_D A (([(sh, .inr (4, [.ref sv, .ref sa, .ref sc, .ref sl])), (sv, .inl (G.2.1, 2, .inl (zar 2 V))), (sa, .inl (G.2.1, 2, .inl (zar 2 X))), (sc, .inl (G.2.1, 6, .inl (zkt t))), (sl, .inl (G.2.2.1, rows.length, .inr (.inr (.inr (.inr (zlf rows)))))), (q, .inl (G.2.1, 4, .inl (upd (upd (upd (fun _ => 0) 0 (nI (V 0))) 2 (nI (X 0))) 1 (nI (V 1)))))] : va_W) ++ rows.map (zrc G 2)) := hD
  refine lv_aload_n hx hb dX4_own_28 rfl (lv_at hl 1 rfl) ?_
  refine lv_iload_n hx hb dX4_own_29 rfl (lv_at hl 2 rfl) ?_
  refine lv_iload_n hx hb dX4_own_30 rfl (lv_at hl 0 rfl) ?_
  refine lv_iadd hx hb dX4_own_31 ?_
  refine zt_top (v := (nI 3)) (nI_add 2 1) ?_
  refine lv_aload_n hx hb dX4_own_32 rfl (lv_at hl 3 rfl) ?_
  refine va_get (D := G.1) (ci := 4) (v := .ref sa) (C := RX4) (T := TX4) (N := 4) hx hb hts in_X4_own_X4 hown hK.1 hP 0 rfl rfl 1 (by decide) (hts (.fieldLink RX4 13 "JarRiddleLaw$Sim" "amount" "[I") (by decide +kernel)) (fun _ h9 => h9) rfl dX4_own_33 ?_
  refine lv_iload_n hx hb dX4_own_36 rfl (lv_at hl 0 rfl) ?_
  refine zr_iald (v := (nI (X 1))) hx hb hK hP 2 rfl (by omega) (by omega) (zar_at (by omega)) dX4_own_37 ?_
  refine zr_iast (g := upd (upd (upd (upd (fun _ => 0) 0 (nI (V 0))) 2 (nI (X 0))) 1 (nI (V 1))) 3 (nI (X 1))) hx hb hK hP hD hS 5 rfl (by omega) (by omega) (rfl) dX4_own_38 (fun H locs hP hD hS => ?_)
  have hP : va_P G.1 vwCl (([(sh, .inr (4, [.ref sv, .ref sa, .ref sc, .ref sl])), (sv, .inl (G.2.1, 2, .inl (zar 2 V))), (sa, .inl (G.2.1, 2, .inl (zar 2 X))), (sc, .inl (G.2.1, 6, .inl (zkt t))), (sl, .inl (G.2.2.1, rows.length, .inr (.inr (.inr (.inr (zlf rows)))))), (q, .inl (G.2.1, 4, .inl (upd (upd (upd (upd (fun _ => 0) 0 (nI (V 0))) 2 (nI (X 0))) 1 (nI (V 1))) 3 (nI (X 1)))))] : va_W) ++ rows.map (zrc G 2)) H := hP
  have hD : va_D A (([(sh, .inr (4, [.ref sv, .ref sa, .ref sc, .ref sl])), (sv, .inl (G.2.1, 2, .inl (zar 2 V))), (sa, .inl (G.2.1, 2, .inl (zar 2 X))), (sc, .inl (G.2.1, 6, .inl (zkt t))), (sl, .inl (G.2.2.1, rows.length, .inr (.inr (.inr (.inr (zlf rows)))))), (q, .inl (G.2.1, 4, .inl (upd (upd (upd (upd (fun _ => 0) 0 (nI (V 0))) 2 (nI (X 0))) 1 (nI (V 1))) 3 (nI (X 1)))))] : va_W) ++ rows.map (zrc G 2)) := hD
  refine lv_iinc (v := (nI 2)) (lv' := [(3, .int (nI 2)), (2, .ref q), (1, .int (nI 2)), (0, .ref sh)]) hx hb dX4_own_39 hl (k := 0) rfl (nI_1 1) (by decide) rfl (fun ls hl => ?_)
  refine lv_goto (tgt := 14) hx hb dX4_own_42 (by decide) ?_
  refine lv_iload_n hx hb dX4_own_14 rfl (lv_at hl 0 rfl) ?_
  refine lv_iload_n hx hb dX4_own_15 rfl (lv_at hl 2 rfl) ?_
  refine lv_icmp_ge (tgt := 45) hx hb dX4_own_16 (by decide) (fun _ => ?_) (fun z => absurd (show (nI 2) ≤ (nI 2) from (by decide)) z)
  refine lv_aload_n hx hb dX4_own_45 rfl (lv_at hl 1 rfl) ?_
  have eg : (upd (upd (upd (upd (fun _ => 0) 0 (nI (V 0))) 2 (nI (X 0))) 1 (nI (V 1))) 3 (nI (X 1))) = zow 2 V X := by
    funext i
    unfold zow upd
    rcases (by omega : i = 0 ∨ i = 1 ∨ i = 2 ∨ i = 3 ∨ 4 ≤ i) with rfl | rfl | rfl | rfl | h9
    · rfl
    · rfl
    · rfl
    · rfl
    · rw [if_neg (by omega), if_neg (by omega), if_neg (by omega), if_neg (by omega), if_neg (by omega), if_neg (by omega)]
  rw [eg] at hP hD
  have hp9 : List.Perm (([(sh, .inr (4, [.ref sv, .ref sa, .ref sc, .ref sl])), (sv, .inl (G.2.1, 2, .inl (zar 2 V))), (sa, .inl (G.2.1, 2, .inl (zar 2 X))), (sc, .inl (G.2.1, 6, .inl (zkt t))), (sl, .inl (G.2.2.1, rows.length, .inr (.inr (.inr (.inr (zlf rows)))))), (q, .inl (G.2.1, 4, .inl (zow 2 V X)))] : va_W) ++ rows.map (zrc G 2)) (zSW G sh 2 V X t (sv, sa, sc, sl, rows) ++ [(q, .inl (G.2.1, 2 * 2, .inl (zow 2 V X)))]) := (zj_move [(sh, .inr (4, [.ref sv, .ref sa, .ref sc, .ref sl])), (sv, .inl (G.2.1, 2, .inl (zar 2 V))), (sa, .inl (G.2.1, 2, .inl (zar 2 X))), (sc, .inl (G.2.1, 6, .inl (zkt t))), (sl, .inl (G.2.2.1, rows.length, .inr (.inr (.inr (.inr (zlf rows))))))] (rows.map (zrc G 2)) (q, .inl (G.2.1, 4, .inl (zow 2 V X)))).symm
  refine W.widen (k := 1) (n := 6) (by omega) (by omega) ?_
  exact zr_aret F hr (Or.inr ⟨.int, rfl⟩) hlocks hP hD hS q hp9 rfl dX4_own_46
set_option maxHeartbeats 4000000 in
set_option maxRecDepth 100000 in
theorem s_own3 (l : Launch) (G : zG) {V X : Nat → Nat} {t : zU} (sh sv sa sc sl : Nat) (rows : zRows) : zCr l G yX4_own wsX4_own rm_X4_own 1 6 [.ref sh] (zSW G sh 3 V X t (sv, sa, sc, sl, rows)) (fun q : Nat => some (.ref q)) (fun q : Nat => zSW G sh 3 V X t (sv, sa, sc, sl, rows) ++ [(q, .inl (G.2.1, 2 * 3, .inl (zow 3 V X)))]) := by
  refine z_ofr (cc := cX4_own) (maxL := 4) (ret := (some (.array .int))) (own := RX4) (by decide) rfl rfl (Nat.le_of_ble_eq_true rfl) ?_
  intro p e s m args below meth c A H locs ls F hr hlocks hname hK hA hP hD hS hl
  obtain ⟨hx, hb, hml, hown, hts⟩ := id F
  have hl : lv_has ls 4 [(0, .ref sh)] := hl
  have hP : va_P G.1 vwCl (([(sh, .inr (4, [.ref sv, .ref sa, .ref sc, .ref sl])), (sv, .inl (G.2.1, 3, .inl (zar 3 V))), (sa, .inl (G.2.1, 3, .inl (zar 3 X))), (sc, .inl (G.2.1, 6, .inl (zkt t))), (sl, .inl (G.2.2.1, rows.length, .inr (.inr (.inr (.inr (zlf rows))))))] : va_W) ++ rows.map (zrc G 3)) H := hP
  have hD : va_D A (([(sh, .inr (4, [.ref sv, .ref sa, .ref sc, .ref sl])), (sv, .inl (G.2.1, 3, .inl (zar 3 V))), (sa, .inl (G.2.1, 3, .inl (zar 3 X))), (sc, .inl (G.2.1, 6, .inl (zkt t))), (sl, .inl (G.2.2.1, rows.length, .inr (.inr (.inr (.inr (zlf rows))))))] : va_W) ++ rows.map (zrc G 3)) := hD
  refine lv_aload_n hx hb dX4_own_0 rfl (lv_at hl 0 rfl) ?_
  refine va_get (D := G.1) (ci := 4) (v := .ref sv) (C := RX4) (T := TX4) (N := 4) hx hb hts in_X4_own_X4 hown hK.1 hP 0 rfl rfl 0 (by decide) (hts (.fieldLink RX4 7 "JarRiddleLaw$Sim" "volume" "[I") (by decide +kernel)) (fun _ h9 => h9) rfl dX4_own_1 ?_
  refine zr_alen hx hb hK hP 1 rfl dX4_own_4 ?_
  refine lv_istore_n (lv' := [(1, .int (nI 3)), (0, .ref sh)]) hx hb dX4_own_5 rfl hl (by decide) rfl (fun ls hl => ?_)
  refine lv_iconst (v := nI 2) hx hb dX4_own_6 (by decide) ?_
  refine lv_iload_n hx hb dX4_own_7 rfl (lv_at hl 0 rfl) ?_
  refine lv_imul hx hb dX4_own_8 ?_
  refine zt_top (v := (nI 6)) (pk_mul 2 3) ?_
  refine zr_new (N := 6) hx hb (hts (.arrayClass .int) (by decide +kernel)) hK hP hD hS hA (by omega) (Nat.le_of_ble_eq_true rfl) (Nat.le_of_ble_eq_true rfl) dX4_own_9 (fun q H hP hD hS => ?_)
  have hp9 := zj_move ([(sh, .inr (4, [.ref sv, .ref sa, .ref sc, .ref sl])), (sv, .inl (G.2.1, 3, .inl (zar 3 V))), (sa, .inl (G.2.1, 3, .inl (zar 3 X))), (sc, .inl (G.2.1, 6, .inl (zkt t))), (sl, .inl (G.2.2.1, rows.length, .inr (.inr (.inr (.inr (zlf rows))))))] : va_W) (rows.map (zrc G 3)) (q, .inl (G.2.1, 6, .inl (fun _ => 0)))
  have hP := hP.perm hp9
  have hD := hD.perm hp9
  have hP : va_P G.1 vwCl (([(sh, .inr (4, [.ref sv, .ref sa, .ref sc, .ref sl])), (sv, .inl (G.2.1, 3, .inl (zar 3 V))), (sa, .inl (G.2.1, 3, .inl (zar 3 X))), (sc, .inl (G.2.1, 6, .inl (zkt t))), (sl, .inl (G.2.2.1, rows.length, .inr (.inr (.inr (.inr (zlf rows)))))), (q, .inl (G.2.1, 6, .inl (fun _ => 0)))] : va_W) ++ rows.map (zrc G 3)) H := hP
  have hD : va_D A (([(sh, .inr (4, [.ref sv, .ref sa, .ref sc, .ref sl])), (sv, .inl (G.2.1, 3, .inl (zar 3 V))), (sa, .inl (G.2.1, 3, .inl (zar 3 X))), (sc, .inl (G.2.1, 6, .inl (zkt t))), (sl, .inl (G.2.2.1, rows.length, .inr (.inr (.inr (.inr (zlf rows)))))), (q, .inl (G.2.1, 6, .inl (fun _ => 0)))] : va_W) ++ rows.map (zrc G 3)) := hD
  refine lv_astore_n (lv' := [(2, .ref q), (1, .int (nI 3)), (0, .ref sh)]) hx hb dX4_own_11 rfl hl (by decide) rfl (fun ls hl => ?_)
  refine lv_iconst (v := nI 0) hx hb dX4_own_12 (by decide) ?_
  refine lv_istore_n (lv' := [(3, .int (nI 0)), (2, .ref q), (1, .int (nI 3)), (0, .ref sh)]) hx hb dX4_own_13 rfl hl (by decide) rfl (fun ls hl => ?_)
  refine lv_iload_n hx hb dX4_own_14 rfl (lv_at hl 0 rfl) ?_
  refine lv_iload_n hx hb dX4_own_15 rfl (lv_at hl 2 rfl) ?_
  refine lv_icmp_ge (tgt := 45) hx hb dX4_own_16 (by decide) (fun z => absurd z (show ¬ (nI 3) ≤ (nI 0) from (by decide))) (fun _ => ?_)
  refine lv_aload_n hx hb dX4_own_19 rfl (lv_at hl 1 rfl) ?_
  refine lv_iload_n hx hb dX4_own_20 rfl (lv_at hl 0 rfl) ?_
  refine lv_aload_n hx hb dX4_own_21 rfl (lv_at hl 3 rfl) ?_
  refine va_get (D := G.1) (ci := 4) (v := .ref sv) (C := RX4) (T := TX4) (N := 4) hx hb hts in_X4_own_X4 hown hK.1 hP 0 rfl rfl 0 (by decide) (hts (.fieldLink RX4 7 "JarRiddleLaw$Sim" "volume" "[I") (by decide +kernel)) (fun _ h9 => h9) rfl dX4_own_22 ?_
  refine lv_iload_n hx hb dX4_own_25 rfl (lv_at hl 0 rfl) ?_
  refine zr_iald (v := (nI (V 0))) hx hb hK hP 1 rfl (by omega) (by omega) (zar_at (by omega)) dX4_own_26 ?_
  refine zr_iast (g := upd (fun _ => 0) 0 (nI (V 0))) hx hb hK hP hD hS 5 rfl (by omega) (by omega) (rfl) dX4_own_27 (fun H locs hP hD hS => ?_)
  have hP : va_P G.1 vwCl (([(sh, .inr (4, [.ref sv, .ref sa, .ref sc, .ref sl])), (sv, .inl (G.2.1, 3, .inl (zar 3 V))), (sa, .inl (G.2.1, 3, .inl (zar 3 X))), (sc, .inl (G.2.1, 6, .inl (zkt t))), (sl, .inl (G.2.2.1, rows.length, .inr (.inr (.inr (.inr (zlf rows)))))), (q, .inl (G.2.1, 6, .inl (upd (fun _ => 0) 0 (nI (V 0)))))] : va_W) ++ rows.map (zrc G 3)) H := hP
  have hD : va_D A (([(sh, .inr (4, [.ref sv, .ref sa, .ref sc, .ref sl])), (sv, .inl (G.2.1, 3, .inl (zar 3 V))), (sa, .inl (G.2.1, 3, .inl (zar 3 X))), (sc, .inl (G.2.1, 6, .inl (zkt t))), (sl, .inl (G.2.2.1, rows.length, .inr (.inr (.inr (.inr (zlf rows)))))), (q, .inl (G.2.1, 6, .inl (upd (fun _ => 0) 0 (nI (V 0)))))] : va_W) ++ rows.map (zrc G 3)) := hD
  refine lv_aload_n hx hb dX4_own_28 rfl (lv_at hl 1 rfl) ?_
  refine lv_iload_n hx hb dX4_own_29 rfl (lv_at hl 2 rfl) ?_
  refine lv_iload_n hx hb dX4_own_30 rfl (lv_at hl 0 rfl) ?_
  refine lv_iadd hx hb dX4_own_31 ?_
  refine zt_top (v := (nI 3)) (nI_add 3 0) ?_
  refine lv_aload_n hx hb dX4_own_32 rfl (lv_at hl 3 rfl) ?_
  refine va_get (D := G.1) (ci := 4) (v := .ref sa) (C := RX4) (T := TX4) (N := 4) hx hb hts in_X4_own_X4 hown hK.1 hP 0 rfl rfl 1 (by decide) (hts (.fieldLink RX4 13 "JarRiddleLaw$Sim" "amount" "[I") (by decide +kernel)) (fun _ h9 => h9) rfl dX4_own_33 ?_
  refine lv_iload_n hx hb dX4_own_36 rfl (lv_at hl 0 rfl) ?_
  refine zr_iald (v := (nI (X 0))) hx hb hK hP 2 rfl (by omega) (by omega) (zar_at (by omega)) dX4_own_37 ?_
  refine zr_iast (g := upd (upd (fun _ => 0) 0 (nI (V 0))) 3 (nI (X 0))) hx hb hK hP hD hS 5 rfl (by omega) (by omega) (rfl) dX4_own_38 (fun H locs hP hD hS => ?_)
  have hP : va_P G.1 vwCl (([(sh, .inr (4, [.ref sv, .ref sa, .ref sc, .ref sl])), (sv, .inl (G.2.1, 3, .inl (zar 3 V))), (sa, .inl (G.2.1, 3, .inl (zar 3 X))), (sc, .inl (G.2.1, 6, .inl (zkt t))), (sl, .inl (G.2.2.1, rows.length, .inr (.inr (.inr (.inr (zlf rows)))))), (q, .inl (G.2.1, 6, .inl (upd (upd (fun _ => 0) 0 (nI (V 0))) 3 (nI (X 0)))))] : va_W) ++ rows.map (zrc G 3)) H := hP
  have hD : va_D A (([(sh, .inr (4, [.ref sv, .ref sa, .ref sc, .ref sl])), (sv, .inl (G.2.1, 3, .inl (zar 3 V))), (sa, .inl (G.2.1, 3, .inl (zar 3 X))), (sc, .inl (G.2.1, 6, .inl (zkt t))), (sl, .inl (G.2.2.1, rows.length, .inr (.inr (.inr (.inr (zlf rows)))))), (q, .inl (G.2.1, 6, .inl (upd (upd (fun _ => 0) 0 (nI (V 0))) 3 (nI (X 0)))))] : va_W) ++ rows.map (zrc G 3)) := hD
  refine lv_iinc (v := (nI 1)) (lv' := [(3, .int (nI 1)), (2, .ref q), (1, .int (nI 3)), (0, .ref sh)]) hx hb dX4_own_39 hl (k := 0) rfl (nI_1 0) (by decide) rfl (fun ls hl => ?_)
  refine lv_goto (tgt := 14) hx hb dX4_own_42 (by decide) ?_
  refine lv_iload_n hx hb dX4_own_14 rfl (lv_at hl 0 rfl) ?_
  refine lv_iload_n hx hb dX4_own_15 rfl (lv_at hl 2 rfl) ?_
  refine lv_icmp_ge (tgt := 45) hx hb dX4_own_16 (by decide) (fun z => absurd z (show ¬ (nI 3) ≤ (nI 1) from (by decide))) (fun _ => ?_)
  refine lv_aload_n hx hb dX4_own_19 rfl (lv_at hl 1 rfl) ?_
  refine lv_iload_n hx hb dX4_own_20 rfl (lv_at hl 0 rfl) ?_
  refine lv_aload_n hx hb dX4_own_21 rfl (lv_at hl 3 rfl) ?_
  refine va_get (D := G.1) (ci := 4) (v := .ref sv) (C := RX4) (T := TX4) (N := 4) hx hb hts in_X4_own_X4 hown hK.1 hP 0 rfl rfl 0 (by decide) (hts (.fieldLink RX4 7 "JarRiddleLaw$Sim" "volume" "[I") (by decide +kernel)) (fun _ h9 => h9) rfl dX4_own_22 ?_
  refine lv_iload_n hx hb dX4_own_25 rfl (lv_at hl 0 rfl) ?_
  refine zr_iald (v := (nI (V 1))) hx hb hK hP 1 rfl (by omega) (by omega) (zar_at (by omega)) dX4_own_26 ?_
  refine zr_iast (g := upd (upd (upd (fun _ => 0) 0 (nI (V 0))) 3 (nI (X 0))) 1 (nI (V 1))) hx hb hK hP hD hS 5 rfl (by omega) (by omega) (rfl) dX4_own_27 (fun H locs hP hD hS => ?_)
  have hP : va_P G.1 vwCl (([(sh, .inr (4, [.ref sv, .ref sa, .ref sc, .ref sl])), (sv, .inl (G.2.1, 3, .inl (zar 3 V))), (sa, .inl (G.2.1, 3, .inl (zar 3 X))), (sc, .inl (G.2.1, 6, .inl (zkt t))), (sl, .inl (G.2.2.1, rows.length, .inr (.inr (.inr (.inr (zlf rows)))))), (q, .inl (G.2.1, 6, .inl (upd (upd (upd (fun _ => 0) 0 (nI (V 0))) 3 (nI (X 0))) 1 (nI (V 1)))))] : va_W) ++ rows.map (zrc G 3)) H := hP
  have hD : va_D A (([(sh, .inr (4, [.ref sv, .ref sa, .ref sc, .ref sl])), (sv, .inl (G.2.1, 3, .inl (zar 3 V))), (sa, .inl (G.2.1, 3, .inl (zar 3 X))), (sc, .inl (G.2.1, 6, .inl (zkt t))), (sl, .inl (G.2.2.1, rows.length, .inr (.inr (.inr (.inr (zlf rows)))))), (q, .inl (G.2.1, 6, .inl (upd (upd (upd (fun _ => 0) 0 (nI (V 0))) 3 (nI (X 0))) 1 (nI (V 1)))))] : va_W) ++ rows.map (zrc G 3)) := hD
  refine lv_aload_n hx hb dX4_own_28 rfl (lv_at hl 1 rfl) ?_
  refine lv_iload_n hx hb dX4_own_29 rfl (lv_at hl 2 rfl) ?_
  refine lv_iload_n hx hb dX4_own_30 rfl (lv_at hl 0 rfl) ?_
  refine lv_iadd hx hb dX4_own_31 ?_
  refine zt_top (v := (nI 4)) (nI_add 3 1) ?_
  refine lv_aload_n hx hb dX4_own_32 rfl (lv_at hl 3 rfl) ?_
  refine va_get (D := G.1) (ci := 4) (v := .ref sa) (C := RX4) (T := TX4) (N := 4) hx hb hts in_X4_own_X4 hown hK.1 hP 0 rfl rfl 1 (by decide) (hts (.fieldLink RX4 13 "JarRiddleLaw$Sim" "amount" "[I") (by decide +kernel)) (fun _ h9 => h9) rfl dX4_own_33 ?_
  refine lv_iload_n hx hb dX4_own_36 rfl (lv_at hl 0 rfl) ?_
  refine zr_iald (v := (nI (X 1))) hx hb hK hP 2 rfl (by omega) (by omega) (zar_at (by omega)) dX4_own_37 ?_
  refine zr_iast (g := upd (upd (upd (upd (fun _ => 0) 0 (nI (V 0))) 3 (nI (X 0))) 1 (nI (V 1))) 4 (nI (X 1))) hx hb hK hP hD hS 5 rfl (by omega) (by omega) (rfl) dX4_own_38 (fun H locs hP hD hS => ?_)
  have hP : va_P G.1 vwCl (([(sh, .inr (4, [.ref sv, .ref sa, .ref sc, .ref sl])), (sv, .inl (G.2.1, 3, .inl (zar 3 V))), (sa, .inl (G.2.1, 3, .inl (zar 3 X))), (sc, .inl (G.2.1, 6, .inl (zkt t))), (sl, .inl (G.2.2.1, rows.length, .inr (.inr (.inr (.inr (zlf rows)))))), (q, .inl (G.2.1, 6, .inl (upd (upd (upd (upd (fun _ => 0) 0 (nI (V 0))) 3 (nI (X 0))) 1 (nI (V 1))) 4 (nI (X 1)))))] : va_W) ++ rows.map (zrc G 3)) H := hP
  have hD : va_D A (([(sh, .inr (4, [.ref sv, .ref sa, .ref sc, .ref sl])), (sv, .inl (G.2.1, 3, .inl (zar 3 V))), (sa, .inl (G.2.1, 3, .inl (zar 3 X))), (sc, .inl (G.2.1, 6, .inl (zkt t))), (sl, .inl (G.2.2.1, rows.length, .inr (.inr (.inr (.inr (zlf rows)))))), (q, .inl (G.2.1, 6, .inl (upd (upd (upd (upd (fun _ => 0) 0 (nI (V 0))) 3 (nI (X 0))) 1 (nI (V 1))) 4 (nI (X 1)))))] : va_W) ++ rows.map (zrc G 3)) := hD
  refine lv_iinc (v := (nI 2)) (lv' := [(3, .int (nI 2)), (2, .ref q), (1, .int (nI 3)), (0, .ref sh)]) hx hb dX4_own_39 hl (k := 0) rfl (nI_1 1) (by decide) rfl (fun ls hl => ?_)
  refine lv_goto (tgt := 14) hx hb dX4_own_42 (by decide) ?_
  refine lv_iload_n hx hb dX4_own_14 rfl (lv_at hl 0 rfl) ?_
  refine lv_iload_n hx hb dX4_own_15 rfl (lv_at hl 2 rfl) ?_
  refine lv_icmp_ge (tgt := 45) hx hb dX4_own_16 (by decide) (fun z => absurd z (show ¬ (nI 3) ≤ (nI 2) from (by decide))) (fun _ => ?_)
  refine lv_aload_n hx hb dX4_own_19 rfl (lv_at hl 1 rfl) ?_
  refine lv_iload_n hx hb dX4_own_20 rfl (lv_at hl 0 rfl) ?_
  refine lv_aload_n hx hb dX4_own_21 rfl (lv_at hl 3 rfl) ?_
  refine va_get (D := G.1) (ci := 4) (v := .ref sv) (C := RX4) (T := TX4) (N := 4) hx hb hts in_X4_own_X4 hown hK.1 hP 0 rfl rfl 0 (by decide) (hts (.fieldLink RX4 7 "JarRiddleLaw$Sim" "volume" "[I") (by decide +kernel)) (fun _ h9 => h9) rfl dX4_own_22 ?_
  refine lv_iload_n hx hb dX4_own_25 rfl (lv_at hl 0 rfl) ?_
  refine zr_iald (v := (nI (V 2))) hx hb hK hP 1 rfl (by omega) (by omega) (zar_at (by omega)) dX4_own_26 ?_
  refine zr_iast (g := upd (upd (upd (upd (upd (fun _ => 0) 0 (nI (V 0))) 3 (nI (X 0))) 1 (nI (V 1))) 4 (nI (X 1))) 2 (nI (V 2))) hx hb hK hP hD hS 5 rfl (by omega) (by omega) (rfl) dX4_own_27 (fun H locs hP hD hS => ?_)
  have hP : va_P G.1 vwCl (([(sh, .inr (4, [.ref sv, .ref sa, .ref sc, .ref sl])), (sv, .inl (G.2.1, 3, .inl (zar 3 V))), (sa, .inl (G.2.1, 3, .inl (zar 3 X))), (sc, .inl (G.2.1, 6, .inl (zkt t))), (sl, .inl (G.2.2.1, rows.length, .inr (.inr (.inr (.inr (zlf rows)))))), (q, .inl (G.2.1, 6, .inl (upd (upd (upd (upd (upd (fun _ => 0) 0 (nI (V 0))) 3 (nI (X 0))) 1 (nI (V 1))) 4 (nI (X 1))) 2 (nI (V 2)))))] : va_W) ++ rows.map (zrc G 3)) H := hP
  have hD : va_D A (([(sh, .inr (4, [.ref sv, .ref sa, .ref sc, .ref sl])), (sv, .inl (G.2.1, 3, .inl (zar 3 V))), (sa, .inl (G.2.1, 3, .inl (zar 3 X))), (sc, .inl (G.2.1, 6, .inl (zkt t))), (sl, .inl (G.2.2.1, rows.length, .inr (.inr (.inr (.inr (zlf rows)))))), (q, .inl (G.2.1, 6, .inl (upd (upd (upd (upd (upd (fun _ => 0) 0 (nI (V 0))) 3 (nI (X 0))) 1 (nI (V 1))) 4 (nI (X 1))) 2 (nI (V 2)))))] : va_W) ++ rows.map (zrc G 3)) := hD
  refine lv_aload_n hx hb dX4_own_28 rfl (lv_at hl 1 rfl) ?_
  refine lv_iload_n hx hb dX4_own_29 rfl (lv_at hl 2 rfl) ?_
  refine lv_iload_n hx hb dX4_own_30 rfl (lv_at hl 0 rfl) ?_
  refine lv_iadd hx hb dX4_own_31 ?_
  refine zt_top (v := (nI 5)) (nI_add 3 2) ?_
  refine lv_aload_n hx hb dX4_own_32 rfl (lv_at hl 3 rfl) ?_
  refine va_get (D := G.1) (ci := 4) (v := .ref sa) (C := RX4) (T := TX4) (N := 4) hx hb hts in_X4_own_X4 hown hK.1 hP 0 rfl rfl 1 (by decide) (hts (.fieldLink RX4 13 "JarRiddleLaw$Sim" "amount" "[I") (by decide +kernel)) (fun _ h9 => h9) rfl dX4_own_33 ?_
  refine lv_iload_n hx hb dX4_own_36 rfl (lv_at hl 0 rfl) ?_
  refine zr_iald (v := (nI (X 2))) hx hb hK hP 2 rfl (by omega) (by omega) (zar_at (by omega)) dX4_own_37 ?_
  refine zr_iast (g := upd (upd (upd (upd (upd (upd (fun _ => 0) 0 (nI (V 0))) 3 (nI (X 0))) 1 (nI (V 1))) 4 (nI (X 1))) 2 (nI (V 2))) 5 (nI (X 2))) hx hb hK hP hD hS 5 rfl (by omega) (by omega) (rfl) dX4_own_38 (fun H locs hP hD hS => ?_)
  have hP : va_P G.1 vwCl (([(sh, .inr (4, [.ref sv, .ref sa, .ref sc, .ref sl])), (sv, .inl (G.2.1, 3, .inl (zar 3 V))), (sa, .inl (G.2.1, 3, .inl (zar 3 X))), (sc, .inl (G.2.1, 6, .inl (zkt t))), (sl, .inl (G.2.2.1, rows.length, .inr (.inr (.inr (.inr (zlf rows)))))), (q, .inl (G.2.1, 6, .inl (upd (upd (upd (upd (upd (upd (fun _ => 0) 0 (nI (V 0))) 3 (nI (X 0))) 1 (nI (V 1))) 4 (nI (X 1))) 2 (nI (V 2))) 5 (nI (X 2)))))] : va_W) ++ rows.map (zrc G 3)) H := hP
  have hD : va_D A (([(sh, .inr (4, [.ref sv, .ref sa, .ref sc, .ref sl])), (sv, .inl (G.2.1, 3, .inl (zar 3 V))), (sa, .inl (G.2.1, 3, .inl (zar 3 X))), (sc, .inl (G.2.1, 6, .inl (zkt t))), (sl, .inl (G.2.2.1, rows.length, .inr (.inr (.inr (.inr (zlf rows)))))), (q, .inl (G.2.1, 6, .inl (upd (upd (upd (upd (upd (upd (fun _ => 0) 0 (nI (V 0))) 3 (nI (X 0))) 1 (nI (V 1))) 4 (nI (X 1))) 2 (nI (V 2))) 5 (nI (X 2)))))] : va_W) ++ rows.map (zrc G 3)) := hD
  refine lv_iinc (v := (nI 3)) (lv' := [(3, .int (nI 3)), (2, .ref q), (1, .int (nI 3)), (0, .ref sh)]) hx hb dX4_own_39 hl (k := 0) rfl (nI_1 2) (by decide) rfl (fun ls hl => ?_)
  refine lv_goto (tgt := 14) hx hb dX4_own_42 (by decide) ?_
  refine lv_iload_n hx hb dX4_own_14 rfl (lv_at hl 0 rfl) ?_
  refine lv_iload_n hx hb dX4_own_15 rfl (lv_at hl 2 rfl) ?_
  refine lv_icmp_ge (tgt := 45) hx hb dX4_own_16 (by decide) (fun _ => ?_) (fun z => absurd (show (nI 3) ≤ (nI 3) from (by decide)) z)
  refine lv_aload_n hx hb dX4_own_45 rfl (lv_at hl 1 rfl) ?_
  have eg : (upd (upd (upd (upd (upd (upd (fun _ => 0) 0 (nI (V 0))) 3 (nI (X 0))) 1 (nI (V 1))) 4 (nI (X 1))) 2 (nI (V 2))) 5 (nI (X 2))) = zow 3 V X := by
    funext i
    unfold zow upd
    rcases (by omega : i = 0 ∨ i = 1 ∨ i = 2 ∨ i = 3 ∨ i = 4 ∨ i = 5 ∨ 6 ≤ i) with rfl | rfl | rfl | rfl | rfl | rfl | h9
    · rfl
    · rfl
    · rfl
    · rfl
    · rfl
    · rfl
    · rw [if_neg (by omega), if_neg (by omega), if_neg (by omega), if_neg (by omega), if_neg (by omega), if_neg (by omega), if_neg (by omega), if_neg (by omega)]
  rw [eg] at hP hD
  have hp9 : List.Perm (([(sh, .inr (4, [.ref sv, .ref sa, .ref sc, .ref sl])), (sv, .inl (G.2.1, 3, .inl (zar 3 V))), (sa, .inl (G.2.1, 3, .inl (zar 3 X))), (sc, .inl (G.2.1, 6, .inl (zkt t))), (sl, .inl (G.2.2.1, rows.length, .inr (.inr (.inr (.inr (zlf rows)))))), (q, .inl (G.2.1, 6, .inl (zow 3 V X)))] : va_W) ++ rows.map (zrc G 3)) (zSW G sh 3 V X t (sv, sa, sc, sl, rows) ++ [(q, .inl (G.2.1, 2 * 3, .inl (zow 3 V X)))]) := (zj_move [(sh, .inr (4, [.ref sv, .ref sa, .ref sc, .ref sl])), (sv, .inl (G.2.1, 3, .inl (zar 3 V))), (sa, .inl (G.2.1, 3, .inl (zar 3 X))), (sc, .inl (G.2.1, 6, .inl (zkt t))), (sl, .inl (G.2.2.1, rows.length, .inr (.inr (.inr (.inr (zlf rows))))))] (rows.map (zrc G 3)) (q, .inl (G.2.1, 6, .inl (zow 3 V X)))).symm
  exact zr_aret F hr (Or.inr ⟨.int, rfl⟩) hlocks hP hD hS q hp9 rfl dX4_own_46
theorem s_own (l : Launch) (G : zG) {n : Nat} (hn : n = 2 ∨ n = 3) {V X : Nat → Nat} {t : zU} (sh sv sa sc sl : Nat) (rows : zRows) : zCr l G yX4_own wsX4_own rm_X4_own 1 6 [.ref sh] (zSW G sh n V X t (sv, sa, sc, sl, rows)) (fun q : Nat => some (.ref q)) (fun q : Nat => zSW G sh n V X t (sv, sa, sc, sl, rows) ++ [(q, .inl (G.2.1, 2 * n, .inl (zow n V X)))]) := by
  rcases hn with rfl | rfl
  · exact s_own2 l G sh sv sa sc sl rows
  · exact s_own3 l G sh sv sa sc sl rows
