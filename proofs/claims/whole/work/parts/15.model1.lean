abbrev w_X4 (G : zG) (mh0 mvq maq mlq mhq mfq mrq moq mbq msq : Nat) (th : Int32) (js : Int32) (mv : Nat → Int32) (ma : Nat → Int32) (ac : Int32) (po : Int32) (si : Int32) (ta : Int32) (ml : Nat → Int32) (mh : Nat → Int32) (gu : Int32) (wr : Int32) (mf : Nat → Int32) (mr : Nat → Int32) (re : Int32) (mo : Nat → Int32) (mb : Nat → Int32) (ms : Nat → Int32) : va_W := [(mh0, .inr (4, [.int th, .int js, .ref mvq, .ref maq, .int ac, .int po, .int si, .int ta, .ref mlq, .ref mhq, .int gu, .int wr, .ref mfq, .ref mrq, .int re, .ref moq, .ref mbq, .ref msq])), (mvq, .inl (G.2.1, 3, .inl mv)), (maq, .inl (G.2.1, 3, .inl ma)), (mlq, .inl (G.2.2.1, 1000, .inl ml)), (mhq, .inl (G.2.1, 3000, .inl mh)), (mfq, .inl (G.2.1, 1000, .inl mf)), (mrq, .inl (G.2.1, 1000, .inl mr)), (moq, .inl (G.2.1, 3, .inl mo)), (mbq, .inl (G.2.1, 3, .inl mb)), (msq, .inl (G.2.1, 64, .inl ms))]
def f_X4_thrown (th : Int32) : Int32 := th
theorem f_X4_thrown_eq (th : Int32) : f_X4_thrown th = th := rfl
abbrev rm_X4_thrown : Room := { frames := 0, cells := 0, slots := 0, locals := 0 }
theorem zd_X4_thrown : yX4_thrown.cls = RX4 ∧ yX4_thrown.cls ≠ "java/lang/invoke/MethodHandle" ∧ yX4_thrown.cls ≠ "java/lang/invoke/VarHandle" ∧ (parseMethodDescriptor yX4_thrown.desc).map (fun d => d.parameters.length) = some 0 := by decide +kernel
theorem in_X4_thrown_X4 : ∀ w ∈ u_ws RX4 TX4 18, w ∈ wsX4_thrown := by decide +kernel
set_option maxHeartbeats 4000000 in
set_option maxRecDepth 100000 in
/-- JarRiddleModel.thrown()I -/
theorem c_X4_thrown (l : Launch) (G : zG) (mh0 mvq maq mlq mhq mfq mrq moq mbq msq : Nat) (th : Int32) (js : Int32) (mv : Nat → Int32) (ma : Nat → Int32) (ac : Int32) (po : Int32) (si : Int32) (ta : Int32) (ml : Nat → Int32) (mh : Nat → Int32) (gu : Int32) (wr : Int32) (mf : Nat → Int32) (mr : Nat → Int32) (re : Int32) (mo : Nat → Int32) (mb : Nat → Int32) (ms : Nat → Int32) : zC l G yX4_thrown wsX4_thrown rm_X4_thrown 0 0 [.ref mh0] (w_X4 G mh0 mvq maq mlq mhq mfq mrq moq mbq msq th js mv ma ac po si ta ml mh gu wr mf mr re mo mb ms) (some (.int (f_X4_thrown th))) (fun _ : Unit => (w_X4 G mh0 mvq maq mlq mhq mfq mrq moq mbq msq th js mv ma ac po si ta ml mh gu wr mf mr re mo mb ms)) := by
  refine z_of (cc := cX4_thrown) (maxL := 1) (ret := (some .int)) (own := RX4) (by decide) rfl rfl (Nat.le_of_ble_eq_true rfl) ?_
  intro p e s m args below meth c A H locs ls F hr hlocks hname hK hA hP hD hS hl
  obtain ⟨hx, hb, hml, hown, hts⟩ := id F
  have hl : lv_has ls 1 [(0, .ref mh0)] := hl
  refine lv_aload_n hx hb dX4_thrown_0 rfl (lv_at hl 0 rfl) ?_
  refine va_get (D := G.1) (ci := 4) (v := .int th) (C := RX4) (T := TX4) (N := 18) hx hb hts in_X4_thrown_X4 hown hK.1 hP 0 rfl rfl 0 (by decide) (hts (.fieldLink RX4 42 "JarRiddleModel" "thrown" "I") (by decide +kernel)) (fun _ h9 => h9) rfl dX4_thrown_1 ?_
  have e9 : (f_X4_thrown th) = th := (f_X4_thrown_eq th).trans (rfl)
  rw [e9]
  exact z_iret F hr hlocks hP hD hS () [0, 1, 2, 3, 4, 5, 6, 7, 8, 9] rfl rfl rfl dX4_thrown_4
def f_X4_no (th : Int32) (p1 : Int32) : Int32 × Int32 := ((0 : Int32), p1)
theorem f_X4_no_eq (th : Int32) (p1 : Int32) : f_X4_no th p1 = ((0 : Int32), p1) := rfl
abbrev rm_X4_no : Room := { frames := 0, cells := 0, slots := 0, locals := 0 }
theorem zd_X4_no : yX4_no.cls = RX4 ∧ yX4_no.cls ≠ "java/lang/invoke/MethodHandle" ∧ yX4_no.cls ≠ "java/lang/invoke/VarHandle" ∧ (parseMethodDescriptor yX4_no.desc).map (fun d => d.parameters.length) = some 1 := by decide +kernel
theorem in_X4_no_X4 : ∀ w ∈ u_ws RX4 TX4 18, w ∈ wsX4_no := by decide +kernel
set_option maxHeartbeats 4000000 in
set_option maxRecDepth 100000 in
/-- JarRiddleModel.no(I)I -/
theorem c_X4_no (l : Launch) (G : zG) (mh0 mvq maq mlq mhq mfq mrq moq mbq msq : Nat) (th : Int32) (js : Int32) (mv : Nat → Int32) (ma : Nat → Int32) (ac : Int32) (po : Int32) (si : Int32) (ta : Int32) (ml : Nat → Int32) (mh : Nat → Int32) (gu : Int32) (wr : Int32) (mf : Nat → Int32) (mr : Nat → Int32) (re : Int32) (mo : Nat → Int32) (mb : Nat → Int32) (ms : Nat → Int32) (p1 : Int32) : zC l G yX4_no wsX4_no rm_X4_no 0 0 [.ref mh0, .int p1] (w_X4 G mh0 mvq maq mlq mhq mfq mrq moq mbq msq th js mv ma ac po si ta ml mh gu wr mf mr re mo mb ms) (some (.int (f_X4_no th p1).1)) (fun _ : Unit => (w_X4 G mh0 mvq maq mlq mhq mfq mrq moq mbq msq ((f_X4_no th p1).2) js mv ma ac po si ta ml mh gu wr mf mr re mo mb ms)) := by
  refine z_of (cc := cX4_no) (maxL := 2) (ret := (some .int)) (own := RX4) (by decide) rfl rfl (Nat.le_of_ble_eq_true rfl) ?_
  intro p e s m args below meth c A H locs ls F hr hlocks hname hK hA hP hD hS hl
  obtain ⟨hx, hb, hml, hown, hts⟩ := id F
  have hl : lv_has ls 2 [(0, .ref mh0), (1, .int p1)] := hl
  refine lv_aload_n hx hb dX4_no_0 rfl (lv_at hl 0 rfl) ?_
  refine lv_iload_n hx hb dX4_no_1 rfl (lv_at hl 1 rfl) ?_
  refine va_put (D := G.1) (ci := 4) (v := .int p1) (ty := .int) (C := RX4) (T := TX4) (N := 18) hx hb hts in_X4_no_X4 tyX4 tyX4_ok nmX4 hown hK.1 hP hD hS 0 rfl rfl 0 (by decide) (hts (.fieldLink RX4 42 "JarRiddleModel" "thrown" "I") (by decide +kernel)) (fun _ h9 => h9) rfl (by decide +kernel) rfl rfl (Nat.le_of_ble_eq_true rfl) dX4_no_2 (fun H locs hP hD hS => ?_)
  have hP : va_P G.1 vwCl (w_X4 G mh0 mvq maq mlq mhq mfq mrq moq mbq msq p1 js mv ma ac po si ta ml mh gu wr mf mr re mo mb ms) H := hP
  have hD : va_D A (w_X4 G mh0 mvq maq mlq mhq mfq mrq moq mbq msq p1 js mv ma ac po si ta ml mh gu wr mf mr re mo mb ms) := hD
  refine lv_iconst (v := (0 : Int32)) hx hb dX4_no_5 (by decide) ?_
  have e9 : (f_X4_no th p1) = ((0 : Int32), p1) := (f_X4_no_eq th p1).trans (rfl)
  rw [e9]
  dsimp only
  exact z_iret F hr hlocks hP hD hS () [0, 1, 2, 3, 4, 5, 6, 7, 8, 9] rfl rfl rfl dX4_no_6
def f_X4_isNot (th : Int32) (p1 : Int32) : Int32 × Int32 := ((0 : Int32), p1)
theorem f_X4_isNot_eq (th : Int32) (p1 : Int32) : f_X4_isNot th p1 = ((0 : Int32), p1) := rfl
theorem b_X4_isNot (th : Int32) (p1 : Int32) : zb (f_X4_isNot th p1).1 := by
  unfold f_X4_isNot
  repeat' split
  all_goals first | exact Or.inl rfl | exact Or.inr rfl
abbrev rm_X4_isNot : Room := { frames := 0, cells := 0, slots := 0, locals := 0 }
theorem zd_X4_isNot : yX4_isNot.cls = RX4 ∧ yX4_isNot.cls ≠ "java/lang/invoke/MethodHandle" ∧ yX4_isNot.cls ≠ "java/lang/invoke/VarHandle" ∧ (parseMethodDescriptor yX4_isNot.desc).map (fun d => d.parameters.length) = some 1 := by decide +kernel
theorem in_X4_isNot_X4 : ∀ w ∈ u_ws RX4 TX4 18, w ∈ wsX4_isNot := by decide +kernel
set_option maxHeartbeats 4000000 in
set_option maxRecDepth 100000 in
/-- JarRiddleModel.isNot(I)Z -/
theorem c_X4_isNot (l : Launch) (G : zG) (mh0 mvq maq mlq mhq mfq mrq moq mbq msq : Nat) (th : Int32) (js : Int32) (mv : Nat → Int32) (ma : Nat → Int32) (ac : Int32) (po : Int32) (si : Int32) (ta : Int32) (ml : Nat → Int32) (mh : Nat → Int32) (gu : Int32) (wr : Int32) (mf : Nat → Int32) (mr : Nat → Int32) (re : Int32) (mo : Nat → Int32) (mb : Nat → Int32) (ms : Nat → Int32) (p1 : Int32) : zC l G yX4_isNot wsX4_isNot rm_X4_isNot 0 0 [.ref mh0, .int p1] (w_X4 G mh0 mvq maq mlq mhq mfq mrq moq mbq msq th js mv ma ac po si ta ml mh gu wr mf mr re mo mb ms) (some (.int (f_X4_isNot th p1).1)) (fun _ : Unit => (w_X4 G mh0 mvq maq mlq mhq mfq mrq moq mbq msq ((f_X4_isNot th p1).2) js mv ma ac po si ta ml mh gu wr mf mr re mo mb ms)) := by
  refine z_of (cc := cX4_isNot) (maxL := 2) (ret := (some .boolean)) (own := RX4) (by decide) rfl rfl (Nat.le_of_ble_eq_true rfl) ?_
  intro p e s m args below meth c A H locs ls F hr hlocks hname hK hA hP hD hS hl
  obtain ⟨hx, hb, hml, hown, hts⟩ := id F
  have hl : lv_has ls 2 [(0, .ref mh0), (1, .int p1)] := hl
  refine lv_aload_n hx hb dX4_isNot_0 rfl (lv_at hl 0 rfl) ?_
  refine lv_iload_n hx hb dX4_isNot_1 rfl (lv_at hl 1 rfl) ?_
  refine va_put (D := G.1) (ci := 4) (v := .int p1) (ty := .int) (C := RX4) (T := TX4) (N := 18) hx hb hts in_X4_isNot_X4 tyX4 tyX4_ok nmX4 hown hK.1 hP hD hS 0 rfl rfl 0 (by decide) (hts (.fieldLink RX4 42 "JarRiddleModel" "thrown" "I") (by decide +kernel)) (fun _ h9 => h9) rfl (by decide +kernel) rfl rfl (Nat.le_of_ble_eq_true rfl) dX4_isNot_2 (fun H locs hP hD hS => ?_)
  have hP : va_P G.1 vwCl (w_X4 G mh0 mvq maq mlq mhq mfq mrq moq mbq msq p1 js mv ma ac po si ta ml mh gu wr mf mr re mo mb ms) H := hP
  have hD : va_D A (w_X4 G mh0 mvq maq mlq mhq mfq mrq moq mbq msq p1 js mv ma ac po si ta ml mh gu wr mf mr re mo mb ms) := hD
  refine lv_iconst (v := (0 : Int32)) hx hb dX4_isNot_5 (by decide) ?_
  have e9 : (f_X4_isNot th p1) = ((0 : Int32), p1) := (f_X4_isNot_eq th p1).trans (rfl)
  rw [e9]
  dsimp only
  exact z_zret F hr hlocks hP hD hS () [0, 1, 2, 3, 4, 5, 6, 7, 8, 9] rfl rfl rfl rfl dX4_isNot_6
def f_X4_isIn (p0 : Int32) (p1 : Int32) (p2 : Int32) : Int32 := (if p0 < p1 then (0 : Int32) else (if p2 < p0 then (0 : Int32) else (1 : Int32)))
theorem f_X4_isIn_eq (p0 : Int32) (p1 : Int32) (p2 : Int32) : f_X4_isIn p0 p1 p2 = (if p0 < p1 then (0 : Int32) else (if p2 < p0 then (0 : Int32) else (1 : Int32))) := rfl
theorem b_X4_isIn (p0 : Int32) (p1 : Int32) (p2 : Int32) : zb (f_X4_isIn p0 p1 p2) := by
  unfold f_X4_isIn
  repeat' split
  all_goals first | exact Or.inl rfl | exact Or.inr rfl
abbrev rm_X4_isIn : Room := { frames := 0, cells := 0, slots := 0, locals := 0 }
theorem zd_X4_isIn : yX4_isIn.cls ≠ "java/lang/invoke/MethodHandle" ∧ yX4_isIn.cls ≠ "java/lang/invoke/VarHandle" ∧ (parseMethodDescriptor yX4_isIn.desc).map (fun d => d.parameters.length) = some 3 := by decide +kernel
set_option maxHeartbeats 4000000 in
set_option maxRecDepth 100000 in
/-- JarRiddleModel.isIn(III)Z -/
theorem c_X4_isIn (l : Launch) (G : zG) (p0 : Int32) (p1 : Int32) (p2 : Int32) : zC l G yX4_isIn wsX4_isIn rm_X4_isIn 0 0 [.int p0, .int p1, .int p2] ([] : va_W) (some (.int (f_X4_isIn p0 p1 p2))) (fun _ : Unit => ([] : va_W)) := by
  refine z_of (cc := cX4_isIn) (maxL := 3) (ret := (some .boolean)) (own := RX4) (by decide) rfl rfl (Nat.le_of_ble_eq_true rfl) ?_
  intro p e s m args below meth c A H locs ls F hr hlocks hname hK hA hP hD hS hl
  obtain ⟨hx, hb, hml, hown, hts⟩ := id F
  have hl : lv_has ls 3 [(0, .int p0), (1, .int p1), (2, .int p2)] := hl
  refine lv_iload_n hx hb dX4_isIn_0 rfl (lv_at hl 0 rfl) ?_
  refine lv_iload_n hx hb dX4_isIn_1 rfl (lv_at hl 1 rfl) ?_
  refine lv_icmp_lt (tgt := 14) hx hb dX4_isIn_2 (by decide) (fun (c_1 : p0 < p1) => ?_) (fun (c_1 : ¬ p0 < p1) => ?_)
  · refine lv_iconst (v := (0 : Int32)) hx hb dX4_isIn_14 (by decide) ?_
    have e9 : (f_X4_isIn p0 p1 p2) = (0 : Int32) := (f_X4_isIn_eq p0 p1 p2).trans ((if_pos c_1).trans (rfl))
    rw [e9]
    exact z_zret F hr hlocks hP hD hS () [] rfl rfl rfl rfl dX4_isIn_15
  · refine lv_iload_n hx hb dX4_isIn_5 rfl (lv_at hl 0 rfl) ?_
    refine lv_iload_n hx hb dX4_isIn_6 rfl (lv_at hl 2 rfl) ?_
    refine lv_icmp_gt (tgt := 14) hx hb dX4_isIn_7 (by decide) (fun (c_2 : p2 < p0) => ?_) (fun (c_2 : ¬ p2 < p0) => ?_)
    · refine lv_iconst (v := (0 : Int32)) hx hb dX4_isIn_14 (by decide) ?_
      have e9 : (f_X4_isIn p0 p1 p2) = (0 : Int32) := (f_X4_isIn_eq p0 p1 p2).trans ((if_neg c_1).trans ((if_pos c_2).trans (rfl)))
      rw [e9]
      exact z_zret F hr hlocks hP hD hS () [] rfl rfl rfl rfl dX4_isIn_15
    · refine lv_iconst (v := (1 : Int32)) hx hb dX4_isIn_10 (by decide) ?_
      refine lv_goto (tgt := 15) hx hb dX4_isIn_11 (by decide) ?_
      have e9 : (f_X4_isIn p0 p1 p2) = (1 : Int32) := (f_X4_isIn_eq p0 p1 p2).trans ((if_neg c_1).trans ((if_neg c_2).trans (rfl)))
      rw [e9]
      exact z_zret F hr hlocks hP hD hS () [] rfl rfl rfl rfl dX4_isIn_15
def f_X4_isJar (js : Int32) (p1 : Int32) : Int32 := (f_X4_isIn p1 (0 : Int32) (js - (1 : Int32)))
theorem f_X4_isJar_eq (js : Int32) (p1 : Int32) : f_X4_isJar js p1 = (f_X4_isIn p1 (0 : Int32) (js - (1 : Int32))) := rfl
theorem b_X4_isJar (js : Int32) (p1 : Int32) : zb (f_X4_isJar js p1) := by
  unfold f_X4_isJar
  repeat' split
  all_goals first | exact Or.inl rfl | exact Or.inr rfl | exact b_X4_isIn ..
abbrev rm_X4_isJar : Room := { frames := 1, cells := 0, slots := 0, locals := 22 }
theorem zd_X4_isJar : yX4_isJar.cls = RX4 ∧ yX4_isJar.cls ≠ "java/lang/invoke/MethodHandle" ∧ yX4_isJar.cls ≠ "java/lang/invoke/VarHandle" ∧ (parseMethodDescriptor yX4_isJar.desc).map (fun d => d.parameters.length) = some 1 := by decide +kernel
theorem in_X4_isJar_X4 : ∀ w ∈ u_ws RX4 TX4 18, w ∈ wsX4_isJar := by decide +kernel
set_option maxHeartbeats 4000000 in
set_option maxRecDepth 100000 in
/-- JarRiddleModel.isJar(I)Z -/
theorem c_X4_isJar (l : Launch) (G : zG) (mh0 mvq maq mlq mhq mfq mrq moq mbq msq : Nat) (th : Int32) (js : Int32) (mv : Nat → Int32) (ma : Nat → Int32) (ac : Int32) (po : Int32) (si : Int32) (ta : Int32) (ml : Nat → Int32) (mh : Nat → Int32) (gu : Int32) (wr : Int32) (mf : Nat → Int32) (mr : Nat → Int32) (re : Int32) (mo : Nat → Int32) (mb : Nat → Int32) (ms : Nat → Int32) (p1 : Int32) : zC l G yX4_isJar wsX4_isJar rm_X4_isJar 0 0 [.ref mh0, .int p1] (w_X4 G mh0 mvq maq mlq mhq mfq mrq moq mbq msq th js mv ma ac po si ta ml mh gu wr mf mr re mo mb ms) (some (.int (f_X4_isJar js p1))) (fun _ : Unit => (w_X4 G mh0 mvq maq mlq mhq mfq mrq moq mbq msq th js mv ma ac po si ta ml mh gu wr mf mr re mo mb ms)) := by
  refine z_of (cc := cX4_isJar) (maxL := 2) (ret := (some .boolean)) (own := RX4) (by decide) rfl rfl (Nat.le_of_ble_eq_true rfl) ?_
  intro p e s m args below meth c A H locs ls F hr hlocks hname hK hA hP hD hS hl
  obtain ⟨hx, hb, hml, hown, hts⟩ := id F
  have hl : lv_has ls 2 [(0, .ref mh0), (1, .int p1)] := hl
  refine lv_iload_n hx hb dX4_isJar_0 rfl (lv_at hl 1 rfl) ?_
  refine lv_iconst (v := (0 : Int32)) hx hb dX4_isJar_1 (by decide) ?_
  refine lv_aload_n hx hb dX4_isJar_2 rfl (lv_at hl 0 rfl) ?_
  refine va_get (D := G.1) (ci := 4) (v := .int js) (C := RX4) (T := TX4) (N := 18) hx hb hts in_X4_isJar_X4 hown hK.1 hP 0 rfl rfl 1 (by decide) (hts (.fieldLink RX4 46 "JarRiddleModel" "jars" "I") (by decide +kernel)) (fun _ h9 => h9) rfl dX4_isJar_3 ?_
  refine lv_iconst (v := (1 : Int32)) hx hb dX4_isJar_6 (by decide) ?_
  refine lv_isub hx hb dX4_isJar_7 ?_
  refine z_callSX (As := [.int p1, .int (0 : Int32), .int (js - (1 : Int32))]) (rest := []) (wr := ([(mh0, .inr (4, [.int th, .int js, .ref mvq, .ref maq, .int ac, .int po, .int si, .int ta, .ref mlq, .ref mhq, .int gu, .int wr, .ref mfq, .ref mrq, .int re, .ref moq, .ref mbq, .ref msq])), (mvq, .inl (G.2.1, 3, .inl mv)), (maq, .inl (G.2.1, 3, .inl ma)), (mlq, .inl (G.2.2.1, 1000, .inl ml)), (mhq, .inl (G.2.1, 3000, .inl mh)), (mfq, .inl (G.2.1, 1000, .inl mf)), (mrq, .inl (G.2.1, 1000, .inl mr)), (moq, .inl (G.2.1, 3, .inl mo)), (mbq, .inl (G.2.1, 3, .inl mb)), (msq, .inl (G.2.1, 64, .inl ms))] : va_W)) (w1 := fun _ : Unit => ([] : va_W)) (wj := fun _ : Unit => (w_X4 G mh0 mvq maq mlq mhq mfq mrq moq mbq msq th js mv ma ac po si ta ml mh gu wr mf mr re mo mb ms)) F (c_X4_isIn l G p1 (0 : Int32) (js - (1 : Int32))) gX4_isJar_X4_isIn rfl rfl rfl zd_X4_isIn ⟨Nat.le_of_ble_eq_true rfl, Nat.le_of_ble_eq_true rfl⟩ rfl rfl (Nat.le_of_ble_eq_true rfl) dX4_isJar_8 ⟨Nat.le_of_ble_eq_true rfl, Nat.le_of_ble_eq_true rfl⟩ hK hP hD hS hA hl.1 [] [0, 1, 2, 3, 4, 5, 6, 7, 8, 9] [0, 1, 2, 3, 4, 5, 6, 7, 8, 9] rfl rfl rfl rfl (by decide) rfl (fun _ => rfl) (fun _ H locs hP hD hS => ?_)
  have hP : va_P G.1 vwCl (w_X4 G mh0 mvq maq mlq mhq mfq mrq moq mbq msq th js mv ma ac po si ta ml mh gu wr mf mr re mo mb ms) H := hP
  have hD : va_D A (w_X4 G mh0 mvq maq mlq mhq mfq mrq moq mbq msq th js mv ma ac po si ta ml mh gu wr mf mr re mo mb ms) := hD
  have e9 : (f_X4_isJar js p1) = (f_X4_isIn p1 (0 : Int32) (js - (1 : Int32))) := (f_X4_isJar_eq js p1).trans (rfl)
  rw [e9]
  exact z_zret F hr hlocks hP hD hS () [0, 1, 2, 3, 4, 5, 6, 7, 8, 9] rfl rfl rfl (zb_nar (b_X4_isIn p1 (0 : Int32) (js - (1 : Int32)))) dX4_isJar_11
def f_X4_isAmount (p0 : Int32) : Int32 := (f_X4_isIn p0 (0 : Int32) (9 : Int32))
theorem f_X4_isAmount_eq (p0 : Int32) : f_X4_isAmount p0 = (f_X4_isIn p0 (0 : Int32) (9 : Int32)) := rfl
theorem b_X4_isAmount (p0 : Int32) : zb (f_X4_isAmount p0) := by
  unfold f_X4_isAmount
  repeat' split
  all_goals first | exact Or.inl rfl | exact Or.inr rfl | exact b_X4_isIn ..
abbrev rm_X4_isAmount : Room := { frames := 1, cells := 0, slots := 0, locals := 22 }
theorem zd_X4_isAmount : yX4_isAmount.cls ≠ "java/lang/invoke/MethodHandle" ∧ yX4_isAmount.cls ≠ "java/lang/invoke/VarHandle" ∧ (parseMethodDescriptor yX4_isAmount.desc).map (fun d => d.parameters.length) = some 1 := by decide +kernel
set_option maxHeartbeats 4000000 in
set_option maxRecDepth 100000 in
/-- JarRiddleModel.isAmount(I)Z -/
theorem c_X4_isAmount (l : Launch) (G : zG) (p0 : Int32) : zC l G yX4_isAmount wsX4_isAmount rm_X4_isAmount 0 0 [.int p0] ([] : va_W) (some (.int (f_X4_isAmount p0))) (fun _ : Unit => ([] : va_W)) := by
  refine z_of (cc := cX4_isAmount) (maxL := 1) (ret := (some .boolean)) (own := RX4) (by decide) rfl rfl (Nat.le_of_ble_eq_true rfl) ?_
  intro p e s m args below meth c A H locs ls F hr hlocks hname hK hA hP hD hS hl
  obtain ⟨hx, hb, hml, hown, hts⟩ := id F
  have hl : lv_has ls 1 [(0, .int p0)] := hl
  refine lv_iload_n hx hb dX4_isAmount_0 rfl (lv_at hl 0 rfl) ?_
  refine lv_iconst (v := (0 : Int32)) hx hb dX4_isAmount_1 (by decide) ?_
  refine lv_bipush (v := (9 : Int32)) hx hb dX4_isAmount_2 (by decide) ?_
  refine z_callSX (As := [.int p0, .int (0 : Int32), .int (9 : Int32)]) (rest := []) (wr := ([] : va_W)) (w1 := fun _ : Unit => ([] : va_W)) (wj := fun _ : Unit => ([] : va_W)) F (c_X4_isIn l G p0 (0 : Int32) (9 : Int32)) gX4_isAmount_X4_isIn rfl rfl rfl zd_X4_isIn ⟨Nat.le_of_ble_eq_true rfl, Nat.le_of_ble_eq_true rfl⟩ rfl rfl (Nat.le_of_ble_eq_true rfl) dX4_isAmount_4 ⟨Nat.le_of_ble_eq_true rfl, Nat.le_of_ble_eq_true rfl⟩ hK hP hD hS hA hl.1 [] [] [] rfl rfl rfl rfl (by decide) rfl (fun _ => rfl) (fun _ H locs hP hD hS => ?_)
  have hP : va_P G.1 vwCl ([] : va_W) H := hP
  have hD : va_D A ([] : va_W) := hD
  have e9 : (f_X4_isAmount p0) = (f_X4_isIn p0 (0 : Int32) (9 : Int32)) := (f_X4_isAmount_eq p0).trans (rfl)
  rw [e9]
  exact z_zret F hr hlocks hP hD hS () [] rfl rfl rfl (zb_nar (b_X4_isIn p0 (0 : Int32) (9 : Int32))) dX4_isAmount_7
def f_X4_isVolume (p0 : Int32) : Int32 := (f_X4_isIn p0 (1 : Int32) (9 : Int32))
theorem f_X4_isVolume_eq (p0 : Int32) : f_X4_isVolume p0 = (f_X4_isIn p0 (1 : Int32) (9 : Int32)) := rfl
theorem b_X4_isVolume (p0 : Int32) : zb (f_X4_isVolume p0) := by
  unfold f_X4_isVolume
  repeat' split
  all_goals first | exact Or.inl rfl | exact Or.inr rfl | exact b_X4_isIn ..
abbrev rm_X4_isVolume : Room := { frames := 1, cells := 0, slots := 0, locals := 22 }
theorem zd_X4_isVolume : yX4_isVolume.cls ≠ "java/lang/invoke/MethodHandle" ∧ yX4_isVolume.cls ≠ "java/lang/invoke/VarHandle" ∧ (parseMethodDescriptor yX4_isVolume.desc).map (fun d => d.parameters.length) = some 1 := by decide +kernel
set_option maxHeartbeats 4000000 in
set_option maxRecDepth 100000 in
/-- JarRiddleModel.isVolume(I)Z -/
theorem c_X4_isVolume (l : Launch) (G : zG) (p0 : Int32) : zC l G yX4_isVolume wsX4_isVolume rm_X4_isVolume 0 0 [.int p0] ([] : va_W) (some (.int (f_X4_isVolume p0))) (fun _ : Unit => ([] : va_W)) := by
  refine z_of (cc := cX4_isVolume) (maxL := 1) (ret := (some .boolean)) (own := RX4) (by decide) rfl rfl (Nat.le_of_ble_eq_true rfl) ?_
  intro p e s m args below meth c A H locs ls F hr hlocks hname hK hA hP hD hS hl
  obtain ⟨hx, hb, hml, hown, hts⟩ := id F
  have hl : lv_has ls 1 [(0, .int p0)] := hl
  refine lv_iload_n hx hb dX4_isVolume_0 rfl (lv_at hl 0 rfl) ?_
  refine lv_iconst (v := (1 : Int32)) hx hb dX4_isVolume_1 (by decide) ?_
  refine lv_bipush (v := (9 : Int32)) hx hb dX4_isVolume_2 (by decide) ?_
  refine z_callSX (As := [.int p0, .int (1 : Int32), .int (9 : Int32)]) (rest := []) (wr := ([] : va_W)) (w1 := fun _ : Unit => ([] : va_W)) (wj := fun _ : Unit => ([] : va_W)) F (c_X4_isIn l G p0 (1 : Int32) (9 : Int32)) gX4_isVolume_X4_isIn rfl rfl rfl zd_X4_isIn ⟨Nat.le_of_ble_eq_true rfl, Nat.le_of_ble_eq_true rfl⟩ rfl rfl (Nat.le_of_ble_eq_true rfl) dX4_isVolume_4 ⟨Nat.le_of_ble_eq_true rfl, Nat.le_of_ble_eq_true rfl⟩ hK hP hD hS hA hl.1 [] [] [] rfl rfl rfl rfl (by decide) rfl (fun _ => rfl) (fun _ H locs hP hD hS => ?_)
  have hP : va_P G.1 vwCl ([] : va_W) H := hP
  have hD : va_D A ([] : va_W) := hD
  have e9 : (f_X4_isVolume p0) = (f_X4_isIn p0 (1 : Int32) (9 : Int32)) := (f_X4_isVolume_eq p0).trans (rfl)
  rw [e9]
  exact z_zret F hr hlocks hP hD hS () [] rfl rfl rfl (zb_nar (b_X4_isIn p0 (1 : Int32) (9 : Int32))) dX4_isVolume_7
def f_X4_figure (p0 : Int32) (p1 : Int32) : Int32 := (if p1 = (0 : Int32) then (p0 - p0 / (10 : Int32) * (10 : Int32)) else (if p1 = (1 : Int32) then ((p0 / (10 : Int32)) - (p0 / (10 : Int32)) / (10 : Int32) * (10 : Int32)) else (p0 / (100 : Int32))))
theorem f_X4_figure_eq (p0 : Int32) (p1 : Int32) : f_X4_figure p0 p1 = (if p1 = (0 : Int32) then (p0 - p0 / (10 : Int32) * (10 : Int32)) else (if p1 = (1 : Int32) then ((p0 / (10 : Int32)) - (p0 / (10 : Int32)) / (10 : Int32) * (10 : Int32)) else (p0 / (100 : Int32)))) := rfl
abbrev rm_X4_figure : Room := { frames := 0, cells := 0, slots := 0, locals := 0 }
theorem zd_X4_figure : yX4_figure.cls ≠ "java/lang/invoke/MethodHandle" ∧ yX4_figure.cls ≠ "java/lang/invoke/VarHandle" ∧ (parseMethodDescriptor yX4_figure.desc).map (fun d => d.parameters.length) = some 2 := by decide +kernel
set_option maxHeartbeats 4000000 in
set_option maxRecDepth 100000 in
/-- JarRiddleModel.figure(II)I -/
theorem c_X4_figure (l : Launch) (G : zG) (p0 : Int32) (p1 : Int32) : zC l G yX4_figure wsX4_figure rm_X4_figure 0 0 [.int p0, .int p1] ([] : va_W) (some (.int (f_X4_figure p0 p1))) (fun _ : Unit => ([] : va_W)) := by
  refine z_of (cc := cX4_figure) (maxL := 2) (ret := (some .int)) (own := RX4) (by decide) rfl rfl (Nat.le_of_ble_eq_true rfl) ?_
  intro p e s m args below meth c A H locs ls F hr hlocks hname hK hA hP hD hS hl
  obtain ⟨hx, hb, hml, hown, hts⟩ := id F
  have hl : lv_has ls 2 [(0, .int p0), (1, .int p1)] := hl
  refine lv_iload_n hx hb dX4_figure_0 rfl (lv_at hl 1 rfl) ?_
  refine lv_if_ne (tgt := 11) hx hb dX4_figure_1 (by decide) (fun (c_1 : ¬ p1 = (0 : Int32)) => ?_) (fun (c_1 : p1 = (0 : Int32)) => ?_)
  · refine lv_iload_n hx hb dX4_figure_11 rfl (lv_at hl 1 rfl) ?_
    refine lv_iconst (v := (1 : Int32)) hx hb dX4_figure_12 (by decide) ?_
    refine lv_icmp_ne (tgt := 26) hx hb dX4_figure_13 (by decide) (fun (c_2 : ¬ p1 = (1 : Int32)) => ?_) (fun (c_2 : p1 = (1 : Int32)) => ?_)
    · refine lv_iload_n hx hb dX4_figure_26 rfl (lv_at hl 0 rfl) ?_
      refine lv_bipush (v := (100 : Int32)) hx hb dX4_figure_27 (by decide) ?_
      refine lv_idiv hx hb dX4_figure_29 (by decide) ?_
      have e9 : (f_X4_figure p0 p1) = (p0 / (100 : Int32)) := (f_X4_figure_eq p0 p1).trans ((if_neg c_1).trans ((if_neg c_2).trans (rfl)))
      rw [e9]
      exact z_iret F hr hlocks hP hD hS () [] rfl rfl rfl dX4_figure_30
    · refine lv_iload_n hx hb dX4_figure_16 rfl (lv_at hl 0 rfl) ?_
      refine lv_bipush (v := (10 : Int32)) hx hb dX4_figure_17 (by decide) ?_
      refine lv_idiv hx hb dX4_figure_19 (by decide) ?_
      refine lv_bipush (v := (10 : Int32)) hx hb dX4_figure_20 (by decide) ?_
      refine lv_irem hx hb dX4_figure_22 (by decide) ?_
      refine lv_goto (tgt := 30) hx hb dX4_figure_23 (by decide) ?_
      have e9 : (f_X4_figure p0 p1) = ((p0 / (10 : Int32)) - (p0 / (10 : Int32)) / (10 : Int32) * (10 : Int32)) := (f_X4_figure_eq p0 p1).trans ((if_neg c_1).trans ((if_pos c_2).trans (rfl)))
      rw [e9]
      exact z_iret F hr hlocks hP hD hS () [] rfl rfl rfl dX4_figure_30
  · refine lv_iload_n hx hb dX4_figure_4 rfl (lv_at hl 0 rfl) ?_
    refine lv_bipush (v := (10 : Int32)) hx hb dX4_figure_5 (by decide) ?_
    refine lv_irem hx hb dX4_figure_7 (by decide) ?_
    refine lv_goto (tgt := 30) hx hb dX4_figure_8 (by decide) ?_
    have e9 : (f_X4_figure p0 p1) = (p0 - p0 / (10 : Int32) * (10 : Int32)) := (f_X4_figure_eq p0 p1).trans ((if_pos c_1).trans (rfl))
    rw [e9]
    exact z_iret F hr hlocks hP hD hS () [] rfl rfl rfl dX4_figure_30
def f_X4_isRow (js : Int32) (p1 : Int32) : Int32 := (if (f_X4_figure p1 (0 : Int32)) ≤ (0 : Int32) then (0 : Int32) else (if (f_X4_figure p1 (1 : Int32)) ≤ (0 : Int32) then (0 : Int32) else (if (f_X4_figure p1 (2 : Int32)) ≤ (0 : Int32) then (if js = (3 : Int32) then (if (0 : Int32) = (1 : Int32) then (1 : Int32) else (0 : Int32)) else (if (0 : Int32) = (0 : Int32) then (1 : Int32) else (0 : Int32))) else (if js = (3 : Int32) then (if (1 : Int32) = (1 : Int32) then (1 : Int32) else (0 : Int32)) else (if (1 : Int32) = (0 : Int32) then (1 : Int32) else (0 : Int32))))))
theorem f_X4_isRow_eq (js : Int32) (p1 : Int32) : f_X4_isRow js p1 = (if (f_X4_figure p1 (0 : Int32)) ≤ (0 : Int32) then (0 : Int32) else (if (f_X4_figure p1 (1 : Int32)) ≤ (0 : Int32) then (0 : Int32) else (if (f_X4_figure p1 (2 : Int32)) ≤ (0 : Int32) then (if js = (3 : Int32) then (if (0 : Int32) = (1 : Int32) then (1 : Int32) else (0 : Int32)) else (if (0 : Int32) = (0 : Int32) then (1 : Int32) else (0 : Int32))) else (if js = (3 : Int32) then (if (1 : Int32) = (1 : Int32) then (1 : Int32) else (0 : Int32)) else (if (1 : Int32) = (0 : Int32) then (1 : Int32) else (0 : Int32)))))) := rfl
theorem b_X4_isRow (js : Int32) (p1 : Int32) : zb (f_X4_isRow js p1) := by
  unfold f_X4_isRow
  repeat' split
  all_goals first | exact Or.inl rfl | exact Or.inr rfl
abbrev rm_X4_isRow : Room := { frames := 1, cells := 0, slots := 0, locals := 21 }
theorem zd_X4_isRow : yX4_isRow.cls = RX4 ∧ yX4_isRow.cls ≠ "java/lang/invoke/MethodHandle" ∧ yX4_isRow.cls ≠ "java/lang/invoke/VarHandle" ∧ (parseMethodDescriptor yX4_isRow.desc).map (fun d => d.parameters.length) = some 1 := by decide +kernel
theorem in_X4_isRow_X4 : ∀ w ∈ u_ws RX4 TX4 18, w ∈ wsX4_isRow := by decide +kernel
set_option maxHeartbeats 4000000 in
set_option maxRecDepth 100000 in
/-- JarRiddleModel.isRow(I)Z -/
theorem c_X4_isRow (l : Launch) (G : zG) (mh0 mvq maq mlq mhq mfq mrq moq mbq msq : Nat) (th : Int32) (js : Int32) (mv : Nat → Int32) (ma : Nat → Int32) (ac : Int32) (po : Int32) (si : Int32) (ta : Int32) (ml : Nat → Int32) (mh : Nat → Int32) (gu : Int32) (wr : Int32) (mf : Nat → Int32) (mr : Nat → Int32) (re : Int32) (mo : Nat → Int32) (mb : Nat → Int32) (ms : Nat → Int32) (p1 : Int32) : zC l G yX4_isRow wsX4_isRow rm_X4_isRow 0 0 [.ref mh0, .int p1] (w_X4 G mh0 mvq maq mlq mhq mfq mrq moq mbq msq th js mv ma ac po si ta ml mh gu wr mf mr re mo mb ms) (some (.int (f_X4_isRow js p1))) (fun _ : Unit => (w_X4 G mh0 mvq maq mlq mhq mfq mrq moq mbq msq th js mv ma ac po si ta ml mh gu wr mf mr re mo mb ms)) := by
  refine z_of (cc := cX4_isRow) (maxL := 2) (ret := (some .boolean)) (own := RX4) (by decide) rfl rfl (Nat.le_of_ble_eq_true rfl) ?_
  intro p e s m args below meth c A H locs ls F hr hlocks hname hK hA hP hD hS hl
  obtain ⟨hx, hb, hml, hown, hts⟩ := id F
  have hl : lv_has ls 2 [(0, .ref mh0), (1, .int p1)] := hl
  refine lv_iload_n hx hb dX4_isRow_0 rfl (lv_at hl 1 rfl) ?_
  refine lv_iconst (v := (0 : Int32)) hx hb dX4_isRow_1 (by decide) ?_
  refine z_callSX (As := [.int p1, .int (0 : Int32)]) (rest := []) (wr := ([(mh0, .inr (4, [.int th, .int js, .ref mvq, .ref maq, .int ac, .int po, .int si, .int ta, .ref mlq, .ref mhq, .int gu, .int wr, .ref mfq, .ref mrq, .int re, .ref moq, .ref mbq, .ref msq])), (mvq, .inl (G.2.1, 3, .inl mv)), (maq, .inl (G.2.1, 3, .inl ma)), (mlq, .inl (G.2.2.1, 1000, .inl ml)), (mhq, .inl (G.2.1, 3000, .inl mh)), (mfq, .inl (G.2.1, 1000, .inl mf)), (mrq, .inl (G.2.1, 1000, .inl mr)), (moq, .inl (G.2.1, 3, .inl mo)), (mbq, .inl (G.2.1, 3, .inl mb)), (msq, .inl (G.2.1, 64, .inl ms))] : va_W)) (w1 := fun _ : Unit => ([] : va_W)) (wj := fun _ : Unit => (w_X4 G mh0 mvq maq mlq mhq mfq mrq moq mbq msq th js mv ma ac po si ta ml mh gu wr mf mr re mo mb ms)) F (c_X4_figure l G p1 (0 : Int32)) gX4_isRow_X4_figure rfl rfl rfl zd_X4_figure ⟨Nat.le_of_ble_eq_true rfl, Nat.le_of_ble_eq_true rfl⟩ rfl rfl (Nat.le_of_ble_eq_true rfl) dX4_isRow_2 ⟨Nat.le_of_ble_eq_true rfl, Nat.le_of_ble_eq_true rfl⟩ hK hP hD hS hA hl.1 [] [0, 1, 2, 3, 4, 5, 6, 7, 8, 9] [0, 1, 2, 3, 4, 5, 6, 7, 8, 9] rfl rfl rfl rfl (by decide) rfl (fun _ => rfl) (fun _ H locs hP hD hS => ?_)
  have hP : va_P G.1 vwCl (w_X4 G mh0 mvq maq mlq mhq mfq mrq moq mbq msq th js mv ma ac po si ta ml mh gu wr mf mr re mo mb ms) H := hP
  have hD : va_D A (w_X4 G mh0 mvq maq mlq mhq mfq mrq moq mbq msq th js mv ma ac po si ta ml mh gu wr mf mr re mo mb ms) := hD
  refine lv_if_le (tgt := 49) hx hb dX4_isRow_5 (by decide) (fun (c_1 : (f_X4_figure p1 (0 : Int32)) ≤ (0 : Int32)) => ?_) (fun (c_1 : ¬ (f_X4_figure p1 (0 : Int32)) ≤ (0 : Int32)) => ?_)
  · refine lv_iconst (v := (0 : Int32)) hx hb dX4_isRow_49 (by decide) ?_
    have e9 : (f_X4_isRow js p1) = (0 : Int32) := (f_X4_isRow_eq js p1).trans ((if_pos c_1).trans (rfl))
    rw [e9]
    exact z_zret F hr hlocks hP hD hS () [0, 1, 2, 3, 4, 5, 6, 7, 8, 9] rfl rfl rfl rfl dX4_isRow_50
  · refine lv_iload_n hx hb dX4_isRow_8 rfl (lv_at hl 1 rfl) ?_
    refine lv_iconst (v := (1 : Int32)) hx hb dX4_isRow_9 (by decide) ?_
    refine z_callSX (As := [.int p1, .int (1 : Int32)]) (rest := []) (wr := ([(mh0, .inr (4, [.int th, .int js, .ref mvq, .ref maq, .int ac, .int po, .int si, .int ta, .ref mlq, .ref mhq, .int gu, .int wr, .ref mfq, .ref mrq, .int re, .ref moq, .ref mbq, .ref msq])), (mvq, .inl (G.2.1, 3, .inl mv)), (maq, .inl (G.2.1, 3, .inl ma)), (mlq, .inl (G.2.2.1, 1000, .inl ml)), (mhq, .inl (G.2.1, 3000, .inl mh)), (mfq, .inl (G.2.1, 1000, .inl mf)), (mrq, .inl (G.2.1, 1000, .inl mr)), (moq, .inl (G.2.1, 3, .inl mo)), (mbq, .inl (G.2.1, 3, .inl mb)), (msq, .inl (G.2.1, 64, .inl ms))] : va_W)) (w1 := fun _ : Unit => ([] : va_W)) (wj := fun _ : Unit => (w_X4 G mh0 mvq maq mlq mhq mfq mrq moq mbq msq th js mv ma ac po si ta ml mh gu wr mf mr re mo mb ms)) F (c_X4_figure l G p1 (1 : Int32)) gX4_isRow_X4_figure rfl rfl rfl zd_X4_figure ⟨Nat.le_of_ble_eq_true rfl, Nat.le_of_ble_eq_true rfl⟩ rfl rfl (Nat.le_of_ble_eq_true rfl) dX4_isRow_10 ⟨Nat.le_of_ble_eq_true rfl, Nat.le_of_ble_eq_true rfl⟩ hK hP hD hS hA hl.1 [] [0, 1, 2, 3, 4, 5, 6, 7, 8, 9] [0, 1, 2, 3, 4, 5, 6, 7, 8, 9] rfl rfl rfl rfl (by decide) rfl (fun _ => rfl) (fun _ H locs hP hD hS => ?_)
    have hP : va_P G.1 vwCl (w_X4 G mh0 mvq maq mlq mhq mfq mrq moq mbq msq th js mv ma ac po si ta ml mh gu wr mf mr re mo mb ms) H := hP
    have hD : va_D A (w_X4 G mh0 mvq maq mlq mhq mfq mrq moq mbq msq th js mv ma ac po si ta ml mh gu wr mf mr re mo mb ms) := hD
    refine lv_if_le (tgt := 49) hx hb dX4_isRow_13 (by decide) (fun (c_2 : (f_X4_figure p1 (1 : Int32)) ≤ (0 : Int32)) => ?_) (fun (c_2 : ¬ (f_X4_figure p1 (1 : Int32)) ≤ (0 : Int32)) => ?_)
    · refine lv_iconst (v := (0 : Int32)) hx hb dX4_isRow_49 (by decide) ?_
      have e9 : (f_X4_isRow js p1) = (0 : Int32) := (f_X4_isRow_eq js p1).trans ((if_neg c_1).trans ((if_pos c_2).trans (rfl)))
      rw [e9]
      exact z_zret F hr hlocks hP hD hS () [0, 1, 2, 3, 4, 5, 6, 7, 8, 9] rfl rfl rfl rfl dX4_isRow_50
    · refine lv_iload_n hx hb dX4_isRow_16 rfl (lv_at hl 1 rfl) ?_
      refine lv_iconst (v := (2 : Int32)) hx hb dX4_isRow_17 (by decide) ?_
      refine z_callSX (As := [.int p1, .int (2 : Int32)]) (rest := []) (wr := ([(mh0, .inr (4, [.int th, .int js, .ref mvq, .ref maq, .int ac, .int po, .int si, .int ta, .ref mlq, .ref mhq, .int gu, .int wr, .ref mfq, .ref mrq, .int re, .ref moq, .ref mbq, .ref msq])), (mvq, .inl (G.2.1, 3, .inl mv)), (maq, .inl (G.2.1, 3, .inl ma)), (mlq, .inl (G.2.2.1, 1000, .inl ml)), (mhq, .inl (G.2.1, 3000, .inl mh)), (mfq, .inl (G.2.1, 1000, .inl mf)), (mrq, .inl (G.2.1, 1000, .inl mr)), (moq, .inl (G.2.1, 3, .inl mo)), (mbq, .inl (G.2.1, 3, .inl mb)), (msq, .inl (G.2.1, 64, .inl ms))] : va_W)) (w1 := fun _ : Unit => ([] : va_W)) (wj := fun _ : Unit => (w_X4 G mh0 mvq maq mlq mhq mfq mrq moq mbq msq th js mv ma ac po si ta ml mh gu wr mf mr re mo mb ms)) F (c_X4_figure l G p1 (2 : Int32)) gX4_isRow_X4_figure rfl rfl rfl zd_X4_figure ⟨Nat.le_of_ble_eq_true rfl, Nat.le_of_ble_eq_true rfl⟩ rfl rfl (Nat.le_of_ble_eq_true rfl) dX4_isRow_18 ⟨Nat.le_of_ble_eq_true rfl, Nat.le_of_ble_eq_true rfl⟩ hK hP hD hS hA hl.1 [] [0, 1, 2, 3, 4, 5, 6, 7, 8, 9] [0, 1, 2, 3, 4, 5, 6, 7, 8, 9] rfl rfl rfl rfl (by decide) rfl (fun _ => rfl) (fun _ H locs hP hD hS => ?_)
      have hP : va_P G.1 vwCl (w_X4 G mh0 mvq maq mlq mhq mfq mrq moq mbq msq th js mv ma ac po si ta ml mh gu wr mf mr re mo mb ms) H := hP
      have hD : va_D A (w_X4 G mh0 mvq maq mlq mhq mfq mrq moq mbq msq th js mv ma ac po si ta ml mh gu wr mf mr re mo mb ms) := hD
      refine lv_if_le (tgt := 28) hx hb dX4_isRow_21 (by decide) (fun (c_3 : (f_X4_figure p1 (2 : Int32)) ≤ (0 : Int32)) => ?_) (fun (c_3 : ¬ (f_X4_figure p1 (2 : Int32)) ≤ (0 : Int32)) => ?_)
      · refine lv_iconst (v := (0 : Int32)) hx hb dX4_isRow_28 (by decide) ?_
        refine lv_aload_n hx hb dX4_isRow_29 rfl (lv_at hl 0 rfl) ?_
        refine va_get (D := G.1) (ci := 4) (v := .int js) (C := RX4) (T := TX4) (N := 18) hx hb hts in_X4_isRow_X4 hown hK.1 hP 0 rfl rfl 1 (by decide) (hts (.fieldLink RX4 46 "JarRiddleModel" "jars" "I") (by decide +kernel)) (fun _ h9 => h9) rfl dX4_isRow_30 ?_
        refine lv_iconst (v := (3 : Int32)) hx hb dX4_isRow_33 (by decide) ?_
        refine lv_icmp_ne (tgt := 41) hx hb dX4_isRow_34 (by decide) (fun (c_4 : ¬ js = (3 : Int32)) => ?_) (fun (c_4 : js = (3 : Int32)) => ?_)
        · refine lv_iconst (v := (0 : Int32)) hx hb dX4_isRow_41 (by decide) ?_
          refine lv_icmp_ne (tgt := 49) hx hb dX4_isRow_42 (by decide) (fun (c_5 : ¬ (0 : Int32) = (0 : Int32)) => ?_) (fun (c_5 : (0 : Int32) = (0 : Int32)) => ?_)
          · refine lv_iconst (v := (0 : Int32)) hx hb dX4_isRow_49 (by decide) ?_
            have e9 : (f_X4_isRow js p1) = (0 : Int32) := (f_X4_isRow_eq js p1).trans ((if_neg c_1).trans ((if_neg c_2).trans ((if_pos c_3).trans ((if_neg c_4).trans ((if_neg c_5).trans (rfl))))))
            rw [e9]
            exact z_zret F hr hlocks hP hD hS () [0, 1, 2, 3, 4, 5, 6, 7, 8, 9] rfl rfl rfl rfl dX4_isRow_50
          · refine lv_iconst (v := (1 : Int32)) hx hb dX4_isRow_45 (by decide) ?_
            refine lv_goto (tgt := 50) hx hb dX4_isRow_46 (by decide) ?_
            have e9 : (f_X4_isRow js p1) = (1 : Int32) := (f_X4_isRow_eq js p1).trans ((if_neg c_1).trans ((if_neg c_2).trans ((if_pos c_3).trans ((if_neg c_4).trans ((if_pos c_5).trans (rfl))))))
            rw [e9]
            exact z_zret F hr hlocks hP hD hS () [0, 1, 2, 3, 4, 5, 6, 7, 8, 9] rfl rfl rfl rfl dX4_isRow_50
        · refine lv_iconst (v := (1 : Int32)) hx hb dX4_isRow_37 (by decide) ?_
          refine lv_goto (tgt := 42) hx hb dX4_isRow_38 (by decide) ?_
          refine lv_icmp_ne (tgt := 49) hx hb dX4_isRow_42 (by decide) (fun (c_6 : ¬ (0 : Int32) = (1 : Int32)) => ?_) (fun (c_6 : (0 : Int32) = (1 : Int32)) => ?_)
          · refine lv_iconst (v := (0 : Int32)) hx hb dX4_isRow_49 (by decide) ?_
            have e9 : (f_X4_isRow js p1) = (0 : Int32) := (f_X4_isRow_eq js p1).trans ((if_neg c_1).trans ((if_neg c_2).trans ((if_pos c_3).trans ((if_pos c_4).trans ((if_neg c_6).trans (rfl))))))
            rw [e9]
            exact z_zret F hr hlocks hP hD hS () [0, 1, 2, 3, 4, 5, 6, 7, 8, 9] rfl rfl rfl rfl dX4_isRow_50
          · refine lv_iconst (v := (1 : Int32)) hx hb dX4_isRow_45 (by decide) ?_
            refine lv_goto (tgt := 50) hx hb dX4_isRow_46 (by decide) ?_
            have e9 : (f_X4_isRow js p1) = (1 : Int32) := (f_X4_isRow_eq js p1).trans ((if_neg c_1).trans ((if_neg c_2).trans ((if_pos c_3).trans ((if_pos c_4).trans ((if_pos c_6).trans (rfl))))))
            rw [e9]
            exact z_zret F hr hlocks hP hD hS () [0, 1, 2, 3, 4, 5, 6, 7, 8, 9] rfl rfl rfl rfl dX4_isRow_50
      · refine lv_iconst (v := (1 : Int32)) hx hb dX4_isRow_24 (by decide) ?_
        refine lv_goto (tgt := 29) hx hb dX4_isRow_25 (by decide) ?_
        refine lv_aload_n hx hb dX4_isRow_29 rfl (lv_at hl 0 rfl) ?_
        refine va_get (D := G.1) (ci := 4) (v := .int js) (C := RX4) (T := TX4) (N := 18) hx hb hts in_X4_isRow_X4 hown hK.1 hP 0 rfl rfl 1 (by decide) (hts (.fieldLink RX4 46 "JarRiddleModel" "jars" "I") (by decide +kernel)) (fun _ h9 => h9) rfl dX4_isRow_30 ?_
        refine lv_iconst (v := (3 : Int32)) hx hb dX4_isRow_33 (by decide) ?_
        refine lv_icmp_ne (tgt := 41) hx hb dX4_isRow_34 (by decide) (fun (c_7 : ¬ js = (3 : Int32)) => ?_) (fun (c_7 : js = (3 : Int32)) => ?_)
        · refine lv_iconst (v := (0 : Int32)) hx hb dX4_isRow_41 (by decide) ?_
          refine lv_icmp_ne (tgt := 49) hx hb dX4_isRow_42 (by decide) (fun (c_8 : ¬ (1 : Int32) = (0 : Int32)) => ?_) (fun (c_8 : (1 : Int32) = (0 : Int32)) => ?_)
          · refine lv_iconst (v := (0 : Int32)) hx hb dX4_isRow_49 (by decide) ?_
            have e9 : (f_X4_isRow js p1) = (0 : Int32) := (f_X4_isRow_eq js p1).trans ((if_neg c_1).trans ((if_neg c_2).trans ((if_neg c_3).trans ((if_neg c_7).trans ((if_neg c_8).trans (rfl))))))
            rw [e9]
            exact z_zret F hr hlocks hP hD hS () [0, 1, 2, 3, 4, 5, 6, 7, 8, 9] rfl rfl rfl rfl dX4_isRow_50
          · refine lv_iconst (v := (1 : Int32)) hx hb dX4_isRow_45 (by decide) ?_
            refine lv_goto (tgt := 50) hx hb dX4_isRow_46 (by decide) ?_
            have e9 : (f_X4_isRow js p1) = (1 : Int32) := (f_X4_isRow_eq js p1).trans ((if_neg c_1).trans ((if_neg c_2).trans ((if_neg c_3).trans ((if_neg c_7).trans ((if_pos c_8).trans (rfl))))))
            rw [e9]
            exact z_zret F hr hlocks hP hD hS () [0, 1, 2, 3, 4, 5, 6, 7, 8, 9] rfl rfl rfl rfl dX4_isRow_50
        · refine lv_iconst (v := (1 : Int32)) hx hb dX4_isRow_37 (by decide) ?_
          refine lv_goto (tgt := 42) hx hb dX4_isRow_38 (by decide) ?_
          refine lv_icmp_ne (tgt := 49) hx hb dX4_isRow_42 (by decide) (fun (c_9 : ¬ (1 : Int32) = (1 : Int32)) => ?_) (fun (c_9 : (1 : Int32) = (1 : Int32)) => ?_)
          · refine lv_iconst (v := (0 : Int32)) hx hb dX4_isRow_49 (by decide) ?_
            have e9 : (f_X4_isRow js p1) = (0 : Int32) := (f_X4_isRow_eq js p1).trans ((if_neg c_1).trans ((if_neg c_2).trans ((if_neg c_3).trans ((if_pos c_7).trans ((if_neg c_9).trans (rfl))))))
            rw [e9]
            exact z_zret F hr hlocks hP hD hS () [0, 1, 2, 3, 4, 5, 6, 7, 8, 9] rfl rfl rfl rfl dX4_isRow_50
          · refine lv_iconst (v := (1 : Int32)) hx hb dX4_isRow_45 (by decide) ?_
            refine lv_goto (tgt := 50) hx hb dX4_isRow_46 (by decide) ?_
            have e9 : (f_X4_isRow js p1) = (1 : Int32) := (f_X4_isRow_eq js p1).trans ((if_neg c_1).trans ((if_neg c_2).trans ((if_neg c_3).trans ((if_pos c_7).trans ((if_pos c_9).trans (rfl))))))
            rw [e9]
            exact z_zret F hr hlocks hP hD hS () [0, 1, 2, 3, 4, 5, 6, 7, 8, 9] rfl rfl rfl rfl dX4_isRow_50
def lf_X4_lay_37 : Nat → Nat → (Nat → Int32) → (Nat → Int32)
  | 0, k, ma => ma
  | n + 1, k, ma => (if (3 : Int32) ≤ (nI k) then ma else (lf_X4_lay_37 n (k + 1) (upd ma (nI k).toNatClampNeg (0 : Int32))))
theorem lf_X4_lay_37_succ (n k : Nat) (ma : Nat → Int32) : lf_X4_lay_37 (n + 1) k ma = (if (3 : Int32) ≤ (nI k) then ma else (lf_X4_lay_37 n (k + 1) (upd ma (nI k).toNatClampNeg (0 : Int32)))) := rfl
def lf_X4_lay_114 : Nat → Nat → (Nat → Int32) → Int32 → (Nat → Int32)
  | 0, k, mh, x4 => mh
  | n + 1, k, mh, x4 => (if (3 : Int32) ≤ (nI k) then mh else (lf_X4_lay_114 n (k + 1) (upd mh (((3 : Int32) * x4) + (nI k)).toNatClampNeg (0 : Int32)) x4))
theorem lf_X4_lay_114_succ (n k : Nat) (mh : Nat → Int32) (x4 : Int32) : lf_X4_lay_114 (n + 1) k mh x4 = (if (3 : Int32) ≤ (nI k) then mh else (lf_X4_lay_114 n (k + 1) (upd mh (((3 : Int32) * x4) + (nI k)).toNatClampNeg (0 : Int32)) x4)) := rfl
def lf_X4_lay_90 : Nat → Nat → Int32 → (Nat → Int32) → (Nat → Int32) → (Nat → Int32) × (Nat → Int32)
  | 0, k, js, ml, mh => (ml, mh)
  | n + 1, k, js, ml, mh => (if (1000 : Int32) ≤ (nI k) then (ml, mh) else (lf_X4_lay_90 n (k + 1) js (upd ml (nI k).toNatClampNeg (vp_nar .boolean (f_X4_isRow js (nI k)))) (lf_X4_lay_114 4 0 mh (nI k))))
theorem lf_X4_lay_90_succ (n k : Nat) (js : Int32) (ml : Nat → Int32) (mh : Nat → Int32) : lf_X4_lay_90 (n + 1) k js ml mh = (if (1000 : Int32) ≤ (nI k) then (ml, mh) else (lf_X4_lay_90 n (k + 1) js (upd ml (nI k).toNatClampNeg (vp_nar .boolean (f_X4_isRow js (nI k)))) (lf_X4_lay_114 4 0 mh (nI k)))) := rfl
def f_X4_lay (js : Int32) (mv : Nat → Int32) (ma : Nat → Int32) (ac : Int32) (po : Int32) (si : Int32) (ta : Int32) (ml : Nat → Int32) (mh : Nat → Int32) (gu : Int32) (wr : Int32) (p1 : Int32) (p2 : Int32) (p3 : Int32) : Int32 × (Nat → Int32) × (Nat → Int32) × Int32 × Int32 × Int32 × Int32 × (Nat → Int32) × (Nat → Int32) × Int32 × Int32 := (if p3 = (0 : Int32) then ((2 : Int32), (upd (upd (upd mv (0 : Int32).toNatClampNeg p1) (1 : Int32).toNatClampNeg p2) (2 : Int32).toNatClampNeg p3), (lf_X4_lay_37 4 0 ma), (0 : Int32), (0 : Int32), (0 : Int32), (0 : Int32), (lf_X4_lay_90 1001 0 (2 : Int32) ml mh).1, (lf_X4_lay_90 1001 0 (2 : Int32) ml mh).2, (0 : Int32), (0 : Int32)) else ((3 : Int32), (upd (upd (upd mv (0 : Int32).toNatClampNeg p1) (1 : Int32).toNatClampNeg p2) (2 : Int32).toNatClampNeg p3), (lf_X4_lay_37 4 0 ma), (0 : Int32), (0 : Int32), (0 : Int32), (0 : Int32), (lf_X4_lay_90 1001 0 (3 : Int32) ml mh).1, (lf_X4_lay_90 1001 0 (3 : Int32) ml mh).2, (0 : Int32), (0 : Int32)))
theorem f_X4_lay_eq (js : Int32) (mv : Nat → Int32) (ma : Nat → Int32) (ac : Int32) (po : Int32) (si : Int32) (ta : Int32) (ml : Nat → Int32) (mh : Nat → Int32) (gu : Int32) (wr : Int32) (p1 : Int32) (p2 : Int32) (p3 : Int32) : f_X4_lay js mv ma ac po si ta ml mh gu wr p1 p2 p3 = (if p3 = (0 : Int32) then ((2 : Int32), (upd (upd (upd mv (0 : Int32).toNatClampNeg p1) (1 : Int32).toNatClampNeg p2) (2 : Int32).toNatClampNeg p3), (lf_X4_lay_37 4 0 ma), (0 : Int32), (0 : Int32), (0 : Int32), (0 : Int32), (lf_X4_lay_90 1001 0 (2 : Int32) ml mh).1, (lf_X4_lay_90 1001 0 (2 : Int32) ml mh).2, (0 : Int32), (0 : Int32)) else ((3 : Int32), (upd (upd (upd mv (0 : Int32).toNatClampNeg p1) (1 : Int32).toNatClampNeg p2) (2 : Int32).toNatClampNeg p3), (lf_X4_lay_37 4 0 ma), (0 : Int32), (0 : Int32), (0 : Int32), (0 : Int32), (lf_X4_lay_90 1001 0 (3 : Int32) ml mh).1, (lf_X4_lay_90 1001 0 (3 : Int32) ml mh).2, (0 : Int32), (0 : Int32))) := rfl
def sf_X4_lay_114 : Nat → Nat → Int32 → Prop
  | 0, k, x4 => True
  | n + 1, k, x4 => (((3 : Int32) ≤ (nI k) → True) ∧ (¬ (3 : Int32) ≤ (nI k) → vp_in (((3 : Int32) * x4) + (nI k)) 3000 ∧ (sf_X4_lay_114 n (k + 1) x4)))
theorem sf_X4_lay_114_succ (n k : Nat) (x4 : Int32) : sf_X4_lay_114 (n + 1) k x4 = ((((3 : Int32) ≤ (nI k) → True) ∧ (¬ (3 : Int32) ≤ (nI k) → vp_in (((3 : Int32) * x4) + (nI k)) 3000 ∧ (sf_X4_lay_114 n (k + 1) x4)))) := rfl
def sf_X4_lay_90 : Nat → Nat → Prop
  | 0, k => True
  | n + 1, k => (((1000 : Int32) ≤ (nI k) → True) ∧ (¬ (1000 : Int32) ≤ (nI k) → (sf_X4_lay_114 4 0 (nI k)) ∧ (sf_X4_lay_90 n (k + 1))))
theorem sf_X4_lay_90_succ (n k : Nat) : sf_X4_lay_90 (n + 1) k = ((((1000 : Int32) ≤ (nI k) → True) ∧ (¬ (1000 : Int32) ≤ (nI k) → (sf_X4_lay_114 4 0 (nI k)) ∧ (sf_X4_lay_90 n (k + 1))))) := rfl
def s_X4_lay (p1 : Int32) (p2 : Int32) (p3 : Int32) : Prop := ((p3 = (0 : Int32) → (sf_X4_lay_90 1001 0)) ∧ (¬ p3 = (0 : Int32) → (sf_X4_lay_90 1001 0)))
abbrev rm_X4_lay : Room := { frames := 2, cells := 0, slots := 0, locals := 42 }
theorem zd_X4_lay : yX4_lay.cls = RX4 ∧ yX4_lay.cls ≠ "java/lang/invoke/MethodHandle" ∧ yX4_lay.cls ≠ "java/lang/invoke/VarHandle" ∧ (parseMethodDescriptor yX4_lay.desc).map (fun d => d.parameters.length) = some 3 := by decide +kernel
theorem in_X4_lay_X4 : ∀ w ∈ u_ws RX4 TX4 18, w ∈ wsX4_lay := by decide +kernel
set_option maxHeartbeats 4000000 in
set_option maxRecDepth 100000 in
theorem l_X4_lay_37 {p : Program} {l : Launch} {e : Env} {s : State} {m : MethodId} {args : Array Value} {below : List Frame} {meth : Method} {c : Code} {A : Nat → Prop} {Q : State → Prop} {G : zG} (F : CallFix p m c cX4_lay 6 s args wsX4_lay RX4) (hr : meth.sig.returnType = none) (hlocks : meth.locks = false) (hK : zK G s) (hA : ∀ q : Nat, s.heap.size ≤ q → A q) (mh0 mvq maq mlq mhq mfq mrq moq mbq msq : Nat) :
    ∀ (n k : Nat) (th : Int32) (js : Int32) (mv : Nat → Int32) (ma : Nat → Int32) (ac : Int32) (po : Int32) (si : Int32) (ta : Int32) (ml : Nat → Int32) (mh : Nat → Int32) (gu : Int32) (wr : Int32) (mf : Nat → Int32) (mr : Nat → Int32) (re : Int32) (mo : Nat → Int32) (mb : Nat → Int32) (ms : Nat → Int32), k + n = 3 + 1 → k ≤ 3 → ∀ (H : Heap) (locs : List Loc) (ls : Array Slot), va_P G.1 vwCl (w_X4 G mh0 mvq maq mlq mhq mfq mrq moq mbq msq th js mv ma ac po si ta ml mh gu wr mf mr re mo mb ms) H → va_D A (w_X4 G mh0 mvq maq mlq mhq mfq mrq moq mbq msq th js mv ma ac po si ta ml mh gu wr mf mr re mo mb ms) → va_S A s.heap H locs → lv_has ls 6 [(0, .ref mh0), (4, .int (nI k))] → (∀ (H : Heap) (locs : List Loc) (ls : Array Slot), va_P G.1 vwCl (w_X4 G mh0 mvq maq mlq mhq mfq mrq moq mbq msq th js mv (lf_X4_lay_37 n k ma) ac po si ta ml mh gu wr mf mr re mo mb ms) H → va_D A (w_X4 G mh0 mvq maq mlq mhq mfq mrq moq mbq msq th js mv (lf_X4_lay_37 n k ma) ac po si ta ml mh gu wr mf mr re mo mb ms) → va_S A s.heap H locs → lv_has ls 6 [(0, .ref mh0)] → W p l e rm_X4_lay s m args below meth c H locs 0 0 Q (F0 m 57 ls [])) → W p l e rm_X4_lay s m args below meth c H locs 0 0 Q (F0 m 37 ls []) := by
  obtain ⟨hx, hb, hml, hown, hts⟩ := id F
  intro n
  induction n with
  | zero => intro k th js mv ma ac po si ta ml mh gu wr mf mr re mo mb ms h1 h2; omega
  | succ n IH9 =>
    intro k th js mv ma ac po si ta ml mh gu wr mf mr re mo mb ms hkn hkN H locs ls hP hD hS hl kk
    refine lv_iload hx hb dX4_lay_37 (lv_at hl 1 rfl) ?_
    refine lv_iconst (v := (3 : Int32)) hx hb dX4_lay_39 (by decide) ?_
    refine lv_icmp_ge (tgt := 57) hx hb dX4_lay_40 (by decide) (fun (c_2 : (3 : Int32) ≤ (nI k)) => ?_) (fun (c_2 : ¬ (3 : Int32) ≤ (nI k)) => ?_)
    · have e9 : (lf_X4_lay_37 (n + 1) k ma) = ma := (lf_X4_lay_37_succ n k ma).trans ((if_pos c_2).trans (rfl))
      rw [e9] at kk
      exact kk H locs ls hP hD hS (lv_sub hl [0] rfl)
    · refine lv_aload_n hx hb dX4_lay_43 rfl (lv_at hl 0 rfl) ?_
      refine va_get (D := G.1) (ci := 4) (v := .ref maq) (C := RX4) (T := TX4) (N := 18) hx hb hts in_X4_lay_X4 hown hK.1 hP 0 rfl rfl 3 (by decide) (hts (.fieldLink RX4 13 "JarRiddleModel" "amount" "[I") (by decide +kernel)) (fun _ h9 => h9) rfl dX4_lay_44 ?_
      refine lv_iload hx hb dX4_lay_47 (lv_at hl 1 rfl) ?_
      refine lv_iconst (v := (0 : Int32)) hx hb dX4_lay_49 (by decide) ?_
      refine va_iast hx hb hK.1 hP hD hS 2 0 rfl rfl (vp_in_nI (Nat.lt_of_lt_of_le (zk_lt (N := 3) (by omega) rfl c_2) (by decide)) (by decide) : vp_in (nI k) 3) dX4_lay_50 (fun H locs hP hD hS => ?_)
      have hP : va_P G.1 vwCl (w_X4 G mh0 mvq maq mlq mhq mfq mrq moq mbq msq th js mv (upd ma (nI k).toNatClampNeg (0 : Int32)) ac po si ta ml mh gu wr mf mr re mo mb ms) H := hP
      have hD : va_D A (w_X4 G mh0 mvq maq mlq mhq mfq mrq moq mbq msq th js mv (upd ma (nI k).toNatClampNeg (0 : Int32)) ac po si ta ml mh gu wr mf mr re mo mb ms) := hD
      refine lv_iinc (v := (nI (k + 1))) (lv' := [(4, .int (nI (k + 1))), (0, .ref mh0)]) hx hb dX4_lay_51 hl (k := 1) rfl (nI_1 k) (by decide) rfl (fun ls hl => ?_)
      refine lv_goto (tgt := 37) hx hb dX4_lay_54 (by decide) ?_
      have e9 : (lf_X4_lay_37 (n + 1) k ma) = (lf_X4_lay_37 n (k + 1) (upd ma (nI k).toNatClampNeg (0 : Int32))) := (lf_X4_lay_37_succ n k ma).trans ((if_neg c_2).trans (rfl))
      rw [e9] at kk
      have h9 := zk_lt (N := 3) (by omega) rfl c_2
      exact IH9 (k + 1) th js mv (upd ma (nI k).toNatClampNeg (0 : Int32)) ac po si ta ml mh gu wr mf mr re mo mb ms (by omega) (by omega) H locs ls hP hD hS (lv_sub hl [1, 0] rfl) kk
set_option maxHeartbeats 4000000 in
set_option maxRecDepth 100000 in
theorem l_X4_lay_114 {p : Program} {l : Launch} {e : Env} {s : State} {m : MethodId} {args : Array Value} {below : List Frame} {meth : Method} {c : Code} {A : Nat → Prop} {Q : State → Prop} {G : zG} (F : CallFix p m c cX4_lay 6 s args wsX4_lay RX4) (hr : meth.sig.returnType = none) (hlocks : meth.locks = false) (hK : zK G s) (hA : ∀ q : Nat, s.heap.size ≤ q → A q) (mh0 mvq maq mlq mhq mfq mrq moq mbq msq : Nat) :
    ∀ (n k : Nat) (th : Int32) (js : Int32) (mv : Nat → Int32) (ma : Nat → Int32) (ac : Int32) (po : Int32) (si : Int32) (ta : Int32) (ml : Nat → Int32) (mh : Nat → Int32) (gu : Int32) (wr : Int32) (mf : Nat → Int32) (mr : Nat → Int32) (re : Int32) (mo : Nat → Int32) (mb : Nat → Int32) (ms : Nat → Int32) (x4 : Int32), k + n = 3 + 1 → k ≤ 3 → (sf_X4_lay_114 n k x4) → ∀ (H : Heap) (locs : List Loc) (ls : Array Slot), va_P G.1 vwCl (w_X4 G mh0 mvq maq mlq mhq mfq mrq moq mbq msq th js mv ma ac po si ta ml mh gu wr mf mr re mo mb ms) H → va_D A (w_X4 G mh0 mvq maq mlq mhq mfq mrq moq mbq msq th js mv ma ac po si ta ml mh gu wr mf mr re mo mb ms) → va_S A s.heap H locs → lv_has ls 6 [(0, .ref mh0), (4, .int x4), (5, .int (nI k))] → (∀ (H : Heap) (locs : List Loc) (ls : Array Slot), va_P G.1 vwCl (w_X4 G mh0 mvq maq mlq mhq mfq mrq moq mbq msq th js mv ma ac po si ta ml (lf_X4_lay_114 n k mh x4) gu wr mf mr re mo mb ms) H → va_D A (w_X4 G mh0 mvq maq mlq mhq mfq mrq moq mbq msq th js mv ma ac po si ta ml (lf_X4_lay_114 n k mh x4) gu wr mf mr re mo mb ms) → va_S A s.heap H locs → lv_has ls 6 [(0, .ref mh0), (4, .int x4)] → W p l e rm_X4_lay s m args below meth c H locs 0 0 Q (F0 m 139 ls [])) → W p l e rm_X4_lay s m args below meth c H locs 0 0 Q (F0 m 114 ls []) := by
  obtain ⟨hx, hb, hml, hown, hts⟩ := id F
  intro n
  induction n with
  | zero => intro k th js mv ma ac po si ta ml mh gu wr mf mr re mo mb ms x4 h1 h2; omega
  | succ n IH9 =>
    intro k th js mv ma ac po si ta ml mh gu wr mf mr re mo mb ms x4 hkn hkN hs H locs ls hP hD hS hl kk
    have hs : (((3 : Int32) ≤ (nI k) → True) ∧ (¬ (3 : Int32) ≤ (nI k) → vp_in (((3 : Int32) * x4) + (nI k)) 3000 ∧ (sf_X4_lay_114 n (k + 1) x4))) := hs
    refine lv_iload hx hb dX4_lay_114 (lv_at hl 2 rfl) ?_
    refine lv_iconst (v := (3 : Int32)) hx hb dX4_lay_116 (by decide) ?_
    refine lv_icmp_ge (tgt := 139) hx hb dX4_lay_117 (by decide) (fun (c_4 : (3 : Int32) ≤ (nI k)) => ?_) (fun (c_4 : ¬ (3 : Int32) ≤ (nI k)) => ?_)
    · have e9 : (lf_X4_lay_114 (n + 1) k mh x4) = mh := (lf_X4_lay_114_succ n k mh x4).trans ((if_pos c_4).trans (rfl))
      rw [e9] at kk
      exact kk H locs ls hP hD hS (lv_sub hl [0, 1] rfl)
    · have hs := hs.2 c_4
      refine lv_aload_n hx hb dX4_lay_120 rfl (lv_at hl 0 rfl) ?_
      refine va_get (D := G.1) (ci := 4) (v := .ref mhq) (C := RX4) (T := TX4) (N := 18) hx hb hts in_X4_lay_X4 hown hK.1 hP 0 rfl rfl 9 (by decide) (hts (.fieldLink RX4 20 "JarRiddleModel" "held" "[I") (by decide +kernel)) (fun _ h9 => h9) rfl dX4_lay_121 ?_
      refine lv_iconst (v := (3 : Int32)) hx hb dX4_lay_124 (by decide) ?_
      refine lv_iload hx hb dX4_lay_125 (lv_at hl 1 rfl) ?_
      refine lv_imul hx hb dX4_lay_127 ?_
      refine lv_iload hx hb dX4_lay_128 (lv_at hl 2 rfl) ?_
      refine lv_iadd hx hb dX4_lay_130 ?_
      refine lv_iconst (v := (0 : Int32)) hx hb dX4_lay_131 (by decide) ?_
      obtain ⟨h_5, hs⟩ := hs
      refine va_iast hx hb hK.1 hP hD hS 4 0 rfl rfl h_5 dX4_lay_132 (fun H locs hP hD hS => ?_)
      have hP : va_P G.1 vwCl (w_X4 G mh0 mvq maq mlq mhq mfq mrq moq mbq msq th js mv ma ac po si ta ml (upd mh (((3 : Int32) * x4) + (nI k)).toNatClampNeg (0 : Int32)) gu wr mf mr re mo mb ms) H := hP
      have hD : va_D A (w_X4 G mh0 mvq maq mlq mhq mfq mrq moq mbq msq th js mv ma ac po si ta ml (upd mh (((3 : Int32) * x4) + (nI k)).toNatClampNeg (0 : Int32)) gu wr mf mr re mo mb ms) := hD
      refine lv_iinc (v := (nI (k + 1))) (lv' := [(5, .int (nI (k + 1))), (0, .ref mh0), (4, .int x4)]) hx hb dX4_lay_133 hl (k := 2) rfl (nI_1 k) (by decide) rfl (fun ls hl => ?_)
      refine lv_goto (tgt := 114) hx hb dX4_lay_136 (by decide) ?_
      have e9 : (lf_X4_lay_114 (n + 1) k mh x4) = (lf_X4_lay_114 n (k + 1) (upd mh (((3 : Int32) * x4) + (nI k)).toNatClampNeg (0 : Int32)) x4) := (lf_X4_lay_114_succ n k mh x4).trans ((if_neg c_4).trans (rfl))
      rw [e9] at kk
      have h9 := zk_lt (N := 3) (by omega) rfl c_4
      exact IH9 (k + 1) th js mv ma ac po si ta ml (upd mh (((3 : Int32) * x4) + (nI k)).toNatClampNeg (0 : Int32)) gu wr mf mr re mo mb ms x4 (by omega) (by omega) hs H locs ls hP hD hS (lv_sub hl [1, 2, 0] rfl) kk
set_option maxHeartbeats 4000000 in
set_option maxRecDepth 100000 in
theorem l_X4_lay_90 {p : Program} {l : Launch} {e : Env} {s : State} {m : MethodId} {args : Array Value} {below : List Frame} {meth : Method} {c : Code} {A : Nat → Prop} {Q : State → Prop} {G : zG} (F : CallFix p m c cX4_lay 6 s args wsX4_lay RX4) (hr : meth.sig.returnType = none) (hlocks : meth.locks = false) (hK : zK G s) (hA : ∀ q : Nat, s.heap.size ≤ q → A q) (mh0 mvq maq mlq mhq mfq mrq moq mbq msq : Nat) :
    ∀ (n k : Nat) (th : Int32) (js : Int32) (mv : Nat → Int32) (ma : Nat → Int32) (ac : Int32) (po : Int32) (si : Int32) (ta : Int32) (ml : Nat → Int32) (mh : Nat → Int32) (gu : Int32) (wr : Int32) (mf : Nat → Int32) (mr : Nat → Int32) (re : Int32) (mo : Nat → Int32) (mb : Nat → Int32) (ms : Nat → Int32), k + n = 1000 + 1 → k ≤ 1000 → (sf_X4_lay_90 n k) → ∀ (H : Heap) (locs : List Loc) (ls : Array Slot), va_P G.1 vwCl (w_X4 G mh0 mvq maq mlq mhq mfq mrq moq mbq msq th js mv ma ac po si ta ml mh gu wr mf mr re mo mb ms) H → va_D A (w_X4 G mh0 mvq maq mlq mhq mfq mrq moq mbq msq th js mv ma ac po si ta ml mh gu wr mf mr re mo mb ms) → va_S A s.heap H locs → lv_has ls 6 [(0, .ref mh0), (4, .int (nI k))] → (∀ (H : Heap) (locs : List Loc) (ls : Array Slot), va_P G.1 vwCl (w_X4 G mh0 mvq maq mlq mhq mfq mrq moq mbq msq th js mv ma ac po si ta ((lf_X4_lay_90 n k js ml mh).1) ((lf_X4_lay_90 n k js ml mh).2) gu wr mf mr re mo mb ms) H → va_D A (w_X4 G mh0 mvq maq mlq mhq mfq mrq moq mbq msq th js mv ma ac po si ta ((lf_X4_lay_90 n k js ml mh).1) ((lf_X4_lay_90 n k js ml mh).2) gu wr mf mr re mo mb ms) → va_S A s.heap H locs → lv_has ls 6 [] → W p l e rm_X4_lay s m args below meth c H locs 0 0 Q (F0 m 145 ls [])) → W p l e rm_X4_lay s m args below meth c H locs 0 0 Q (F0 m 90 ls []) := by
  obtain ⟨hx, hb, hml, hown, hts⟩ := id F
  intro n
  induction n with
  | zero => intro k th js mv ma ac po si ta ml mh gu wr mf mr re mo mb ms h1 h2; omega
  | succ n IH9 =>
    intro k th js mv ma ac po si ta ml mh gu wr mf mr re mo mb ms hkn hkN hs H locs ls hP hD hS hl kk
    have hs : (((1000 : Int32) ≤ (nI k) → True) ∧ (¬ (1000 : Int32) ≤ (nI k) → (sf_X4_lay_114 4 0 (nI k)) ∧ (sf_X4_lay_90 n (k + 1)))) := hs
    refine lv_iload hx hb dX4_lay_90 (lv_at hl 1 rfl) ?_
    refine lv_sipush (v := (1000 : Int32)) hx hb dX4_lay_92 (by decide) ?_
    refine lv_icmp_ge (tgt := 145) hx hb dX4_lay_95 (by decide) (fun (c_3 : (1000 : Int32) ≤ (nI k)) => ?_) (fun (c_3 : ¬ (1000 : Int32) ≤ (nI k)) => ?_)
    · have e9 : (lf_X4_lay_90 (n + 1) k js ml mh) = (ml, mh) := (lf_X4_lay_90_succ n k js ml mh).trans ((if_pos c_3).trans (rfl))
      rw [e9] at kk
      dsimp only at kk
      exact kk H locs ls hP hD hS (lv_sub hl [] rfl)
    · have hs := hs.2 c_3
      refine lv_aload_n hx hb dX4_lay_98 rfl (lv_at hl 0 rfl) ?_
      refine va_get (D := G.1) (ci := 4) (v := .ref mlq) (C := RX4) (T := TX4) (N := 18) hx hb hts in_X4_lay_X4 hown hK.1 hP 0 rfl rfl 8 (by decide) (hts (.fieldLink RX4 16 "JarRiddleModel" "isLeft" "[Z") (by decide +kernel)) (fun _ h9 => h9) rfl dX4_lay_99 ?_
      refine lv_iload hx hb dX4_lay_102 (lv_at hl 1 rfl) ?_
      refine lv_aload_n hx hb dX4_lay_104 rfl (lv_at hl 0 rfl) ?_
      refine lv_iload hx hb dX4_lay_105 (lv_at hl 1 rfl) ?_
      refine z_callV (As := [.int (nI k)]) (rest := [.int (nI k), .ref mlq]) (wr := ([] : va_W)) (w1 := fun _ : Unit => (w_X4 G mh0 mvq maq mlq mhq mfq mrq moq mbq msq th js mv ma ac po si ta ml mh gu wr mf mr re mo mb ms)) (wj := fun _ : Unit => (w_X4 G mh0 mvq maq mlq mhq mfq mrq moq mbq msq th js mv ma ac po si ta ml mh gu wr mf mr re mo mb ms)) (ci := 4) (q0 := 0) F (c_X4_isRow l G mh0 mvq maq mlq mhq mfq mrq moq mbq msq th js mv ma ac po si ta ml mh gu wr mf mr re mo mb ms (nI k)) gX4_lay_X4_isRow rfl rfl rfl zd_X4_isRow ⟨Nat.le_of_ble_eq_true rfl, Nat.le_of_ble_eq_true rfl⟩ rfl rfl (Nat.le_of_ble_eq_true rfl) dX4_lay_107 ⟨Nat.le_of_ble_eq_true rfl, Nat.le_of_ble_eq_true rfl⟩ hK hP hD hS hA hl.1 rfl rfl [0, 1, 2, 3, 4, 5, 6, 7, 8, 9] [] [0, 1, 2, 3, 4, 5, 6, 7, 8, 9] rfl rfl rfl rfl (by decide) rfl (fun _ => rfl) (fun _ H locs hP hD hS => ?_)
      have hP : va_P G.1 vwCl (w_X4 G mh0 mvq maq mlq mhq mfq mrq moq mbq msq th js mv ma ac po si ta ml mh gu wr mf mr re mo mb ms) H := hP
      have hD : va_D A (w_X4 G mh0 mvq maq mlq mhq mfq mrq moq mbq msq th js mv ma ac po si ta ml mh gu wr mf mr re mo mb ms) := hD
      refine va_zast hx hb hK.1 hP hD hS 3 1 rfl rfl (vp_in_nI (Nat.lt_of_lt_of_le (zk_lt (N := 1000) (by omega) rfl c_3) (by decide)) (by decide) : vp_in (nI k) 1000) dX4_lay_110 (fun H locs hP hD hS => ?_)
      have hP : va_P G.1 vwCl (w_X4 G mh0 mvq maq mlq mhq mfq mrq moq mbq msq th js mv ma ac po si ta (upd ml (nI k).toNatClampNeg (vp_nar .boolean (f_X4_isRow js (nI k)))) mh gu wr mf mr re mo mb ms) H := hP
      have hD : va_D A (w_X4 G mh0 mvq maq mlq mhq mfq mrq moq mbq msq th js mv ma ac po si ta (upd ml (nI k).toNatClampNeg (vp_nar .boolean (f_X4_isRow js (nI k)))) mh gu wr mf mr re mo mb ms) := hD
      refine lv_iconst (v := (0 : Int32)) hx hb dX4_lay_111 (by decide) ?_
      refine lv_istore (lv' := [(5, .int (0 : Int32)), (0, .ref mh0), (4, .int (nI k))]) hx hb dX4_lay_112 hl (by decide) rfl (fun ls hl => ?_)
      obtain ⟨h_6, hs⟩ := hs
      refine l_X4_lay_114 F hr hlocks hK hA mh0 mvq maq mlq mhq mfq mrq moq mbq msq 4 0 th js mv ma ac po si ta (upd ml (nI k).toNatClampNeg (vp_nar .boolean (f_X4_isRow js (nI k)))) mh gu wr mf mr re mo mb ms (nI k) (by omega) (by omega) h_6 H locs ls hP hD hS (lv_sub hl [1, 2, 0] rfl) ?_
      intro H locs ls hP hD hS hl
      have hP : va_P G.1 vwCl (w_X4 G mh0 mvq maq mlq mhq mfq mrq moq mbq msq th js mv ma ac po si ta (upd ml (nI k).toNatClampNeg (vp_nar .boolean (f_X4_isRow js (nI k)))) (lf_X4_lay_114 4 0 mh (nI k)) gu wr mf mr re mo mb ms) H := hP
      have hD : va_D A (w_X4 G mh0 mvq maq mlq mhq mfq mrq moq mbq msq th js mv ma ac po si ta (upd ml (nI k).toNatClampNeg (vp_nar .boolean (f_X4_isRow js (nI k)))) (lf_X4_lay_114 4 0 mh (nI k)) gu wr mf mr re mo mb ms) := hD
      have hl : lv_has ls 6 [(0, .ref mh0), (4, .int (nI k))] := hl
      refine lv_iinc (v := (nI (k + 1))) (lv' := [(4, .int (nI (k + 1))), (0, .ref mh0)]) hx hb dX4_lay_139 hl (k := 1) rfl (nI_1 k) (by decide) rfl (fun ls hl => ?_)
      refine lv_goto (tgt := 90) hx hb dX4_lay_142 (by decide) ?_
      have e9 : (lf_X4_lay_90 (n + 1) k js ml mh) = (lf_X4_lay_90 n (k + 1) js (upd ml (nI k).toNatClampNeg (vp_nar .boolean (f_X4_isRow js (nI k)))) (lf_X4_lay_114 4 0 mh (nI k))) := (lf_X4_lay_90_succ n k js ml mh).trans ((if_neg c_3).trans (rfl))
      rw [e9] at kk
      have h9 := zk_lt (N := 1000) (by omega) rfl c_3
      exact IH9 (k + 1) th js mv ma ac po si ta (upd ml (nI k).toNatClampNeg (vp_nar .boolean (f_X4_isRow js (nI k)))) (lf_X4_lay_114 4 0 mh (nI k)) gu wr mf mr re mo mb ms (by omega) (by omega) hs H locs ls hP hD hS (lv_sub hl [1, 0] rfl) kk
set_option maxHeartbeats 4000000 in
set_option maxRecDepth 100000 in
/-- JarRiddleModel.lay(III)V -/
theorem c_X4_lay (l : Launch) (G : zG) (mh0 mvq maq mlq mhq mfq mrq moq mbq msq : Nat) (th : Int32) (js : Int32) (mv : Nat → Int32) (ma : Nat → Int32) (ac : Int32) (po : Int32) (si : Int32) (ta : Int32) (ml : Nat → Int32) (mh : Nat → Int32) (gu : Int32) (wr : Int32) (mf : Nat → Int32) (mr : Nat → Int32) (re : Int32) (mo : Nat → Int32) (mb : Nat → Int32) (ms : Nat → Int32) (p1 : Int32) (p2 : Int32) (p3 : Int32) (hs : s_X4_lay p1 p2 p3) : zC l G yX4_lay wsX4_lay rm_X4_lay 0 0 [.ref mh0, .int p1, .int p2, .int p3] (w_X4 G mh0 mvq maq mlq mhq mfq mrq moq mbq msq th js mv ma ac po si ta ml mh gu wr mf mr re mo mb ms) none (fun _ : Unit => (w_X4 G mh0 mvq maq mlq mhq mfq mrq moq mbq msq th ((f_X4_lay js mv ma ac po si ta ml mh gu wr p1 p2 p3).1) ((f_X4_lay js mv ma ac po si ta ml mh gu wr p1 p2 p3).2.1) ((f_X4_lay js mv ma ac po si ta ml mh gu wr p1 p2 p3).2.2.1) ((f_X4_lay js mv ma ac po si ta ml mh gu wr p1 p2 p3).2.2.2.1) ((f_X4_lay js mv ma ac po si ta ml mh gu wr p1 p2 p3).2.2.2.2.1) ((f_X4_lay js mv ma ac po si ta ml mh gu wr p1 p2 p3).2.2.2.2.2.1) ((f_X4_lay js mv ma ac po si ta ml mh gu wr p1 p2 p3).2.2.2.2.2.2.1) ((f_X4_lay js mv ma ac po si ta ml mh gu wr p1 p2 p3).2.2.2.2.2.2.2.1) ((f_X4_lay js mv ma ac po si ta ml mh gu wr p1 p2 p3).2.2.2.2.2.2.2.2.1) ((f_X4_lay js mv ma ac po si ta ml mh gu wr p1 p2 p3).2.2.2.2.2.2.2.2.2.1) ((f_X4_lay js mv ma ac po si ta ml mh gu wr p1 p2 p3).2.2.2.2.2.2.2.2.2.2) mf mr re mo mb ms)) := by
  refine z_of (cc := cX4_lay) (maxL := 6) (ret := none) (own := RX4) (by decide) rfl rfl (Nat.le_of_ble_eq_true rfl) ?_
  intro p e s m args below meth c A H locs ls F hr hlocks hname hK hA hP hD hS hl
  obtain ⟨hx, hb, hml, hown, hts⟩ := id F
  have hl : lv_has ls 6 [(0, .ref mh0), (1, .int p1), (2, .int p2), (3, .int p3)] := hl
  have hs : ((p3 = (0 : Int32) → (sf_X4_lay_90 1001 0)) ∧ (¬ p3 = (0 : Int32) → (sf_X4_lay_90 1001 0))) := hs
  refine lv_aload_n hx hb dX4_lay_0 rfl (lv_at hl 0 rfl) ?_
  refine lv_iload_n hx hb dX4_lay_1 rfl (lv_at hl 3 rfl) ?_
  refine lv_if_ne (tgt := 9) hx hb dX4_lay_2 (by decide) (fun (c_1 : ¬ p3 = (0 : Int32)) => ?_) (fun (c_1 : p3 = (0 : Int32)) => ?_)
  · have hs := hs.2 c_1
    refine lv_iconst (v := (3 : Int32)) hx hb dX4_lay_9 (by decide) ?_
    refine va_put (D := G.1) (ci := 4) (v := .int (3 : Int32)) (ty := .int) (C := RX4) (T := TX4) (N := 18) hx hb hts in_X4_lay_X4 tyX4 tyX4_ok nmX4 hown hK.1 hP hD hS 0 rfl rfl 1 (by decide) (hts (.fieldLink RX4 46 "JarRiddleModel" "jars" "I") (by decide +kernel)) (fun _ h9 => h9) rfl (by decide +kernel) rfl rfl (Nat.le_of_ble_eq_true rfl) dX4_lay_10 (fun H locs hP hD hS => ?_)
    have hP : va_P G.1 vwCl (w_X4 G mh0 mvq maq mlq mhq mfq mrq moq mbq msq th (3 : Int32) mv ma ac po si ta ml mh gu wr mf mr re mo mb ms) H := hP
    have hD : va_D A (w_X4 G mh0 mvq maq mlq mhq mfq mrq moq mbq msq th (3 : Int32) mv ma ac po si ta ml mh gu wr mf mr re mo mb ms) := hD
    refine lv_aload_n hx hb dX4_lay_13 rfl (lv_at hl 0 rfl) ?_
    refine va_get (D := G.1) (ci := 4) (v := .ref mvq) (C := RX4) (T := TX4) (N := 18) hx hb hts in_X4_lay_X4 hown hK.1 hP 0 rfl rfl 2 (by decide) (hts (.fieldLink RX4 9 "JarRiddleModel" "volume" "[I") (by decide +kernel)) (fun _ h9 => h9) rfl dX4_lay_14 ?_
    refine lv_iconst (v := (0 : Int32)) hx hb dX4_lay_17 (by decide) ?_
    refine lv_iload_n hx hb dX4_lay_18 rfl (lv_at hl 1 rfl) ?_
    refine va_iast hx hb hK.1 hP hD hS 1 0 rfl rfl (vp_in_nI (n := 0) (N := 3) (by decide) (by decide)) dX4_lay_19 (fun H locs hP hD hS => ?_)
    have hP : va_P G.1 vwCl (w_X4 G mh0 mvq maq mlq mhq mfq mrq moq mbq msq th (3 : Int32) (upd mv (0 : Int32).toNatClampNeg p1) ma ac po si ta ml mh gu wr mf mr re mo mb ms) H := hP
    have hD : va_D A (w_X4 G mh0 mvq maq mlq mhq mfq mrq moq mbq msq th (3 : Int32) (upd mv (0 : Int32).toNatClampNeg p1) ma ac po si ta ml mh gu wr mf mr re mo mb ms) := hD
    refine lv_aload_n hx hb dX4_lay_20 rfl (lv_at hl 0 rfl) ?_
    refine va_get (D := G.1) (ci := 4) (v := .ref mvq) (C := RX4) (T := TX4) (N := 18) hx hb hts in_X4_lay_X4 hown hK.1 hP 0 rfl rfl 2 (by decide) (hts (.fieldLink RX4 9 "JarRiddleModel" "volume" "[I") (by decide +kernel)) (fun _ h9 => h9) rfl dX4_lay_21 ?_
    refine lv_iconst (v := (1 : Int32)) hx hb dX4_lay_24 (by decide) ?_
    refine lv_iload_n hx hb dX4_lay_25 rfl (lv_at hl 2 rfl) ?_
    refine va_iast hx hb hK.1 hP hD hS 1 0 rfl rfl (vp_in_nI (n := 1) (N := 3) (by decide) (by decide)) dX4_lay_26 (fun H locs hP hD hS => ?_)
    have hP : va_P G.1 vwCl (w_X4 G mh0 mvq maq mlq mhq mfq mrq moq mbq msq th (3 : Int32) (upd (upd mv (0 : Int32).toNatClampNeg p1) (1 : Int32).toNatClampNeg p2) ma ac po si ta ml mh gu wr mf mr re mo mb ms) H := hP
    have hD : va_D A (w_X4 G mh0 mvq maq mlq mhq mfq mrq moq mbq msq th (3 : Int32) (upd (upd mv (0 : Int32).toNatClampNeg p1) (1 : Int32).toNatClampNeg p2) ma ac po si ta ml mh gu wr mf mr re mo mb ms) := hD
    refine lv_aload_n hx hb dX4_lay_27 rfl (lv_at hl 0 rfl) ?_
    refine va_get (D := G.1) (ci := 4) (v := .ref mvq) (C := RX4) (T := TX4) (N := 18) hx hb hts in_X4_lay_X4 hown hK.1 hP 0 rfl rfl 2 (by decide) (hts (.fieldLink RX4 9 "JarRiddleModel" "volume" "[I") (by decide +kernel)) (fun _ h9 => h9) rfl dX4_lay_28 ?_
    refine lv_iconst (v := (2 : Int32)) hx hb dX4_lay_31 (by decide) ?_
    refine lv_iload_n hx hb dX4_lay_32 rfl (lv_at hl 3 rfl) ?_
    refine va_iast hx hb hK.1 hP hD hS 1 0 rfl rfl (vp_in_nI (n := 2) (N := 3) (by decide) (by decide)) dX4_lay_33 (fun H locs hP hD hS => ?_)
    have hP : va_P G.1 vwCl (w_X4 G mh0 mvq maq mlq mhq mfq mrq moq mbq msq th (3 : Int32) (upd (upd (upd mv (0 : Int32).toNatClampNeg p1) (1 : Int32).toNatClampNeg p2) (2 : Int32).toNatClampNeg p3) ma ac po si ta ml mh gu wr mf mr re mo mb ms) H := hP
    have hD : va_D A (w_X4 G mh0 mvq maq mlq mhq mfq mrq moq mbq msq th (3 : Int32) (upd (upd (upd mv (0 : Int32).toNatClampNeg p1) (1 : Int32).toNatClampNeg p2) (2 : Int32).toNatClampNeg p3) ma ac po si ta ml mh gu wr mf mr re mo mb ms) := hD
    refine lv_iconst (v := (0 : Int32)) hx hb dX4_lay_34 (by decide) ?_
    refine lv_istore (lv' := [(4, .int (0 : Int32)), (0, .ref mh0), (1, .int p1), (2, .int p2), (3, .int p3)]) hx hb dX4_lay_35 hl (by decide) rfl (fun ls hl => ?_)
    refine l_X4_lay_37 F hr hlocks hK hA mh0 mvq maq mlq mhq mfq mrq moq mbq msq 4 0 th (3 : Int32) (upd (upd (upd mv (0 : Int32).toNatClampNeg p1) (1 : Int32).toNatClampNeg p2) (2 : Int32).toNatClampNeg p3) ma ac po si ta ml mh gu wr mf mr re mo mb ms (by omega) (by omega) H locs ls hP hD hS (lv_sub hl [1, 0] rfl) ?_
    intro H locs ls hP hD hS hl
    have hP : va_P G.1 vwCl (w_X4 G mh0 mvq maq mlq mhq mfq mrq moq mbq msq th (3 : Int32) (upd (upd (upd mv (0 : Int32).toNatClampNeg p1) (1 : Int32).toNatClampNeg p2) (2 : Int32).toNatClampNeg p3) (lf_X4_lay_37 4 0 ma) ac po si ta ml mh gu wr mf mr re mo mb ms) H := hP
    have hD : va_D A (w_X4 G mh0 mvq maq mlq mhq mfq mrq moq mbq msq th (3 : Int32) (upd (upd (upd mv (0 : Int32).toNatClampNeg p1) (1 : Int32).toNatClampNeg p2) (2 : Int32).toNatClampNeg p3) (lf_X4_lay_37 4 0 ma) ac po si ta ml mh gu wr mf mr re mo mb ms) := hD
    have hl : lv_has ls 6 [(0, .ref mh0)] := hl
    refine lv_aload_n hx hb dX4_lay_57 rfl (lv_at hl 0 rfl) ?_
    refine lv_iconst (v := (0 : Int32)) hx hb dX4_lay_58 (by decide) ?_
    refine va_put (D := G.1) (ci := 4) (v := .int (0 : Int32)) (ty := .int) (C := RX4) (T := TX4) (N := 18) hx hb hts in_X4_lay_X4 tyX4 tyX4_ok nmX4 hown hK.1 hP hD hS 0 rfl rfl 4 (by decide) (hts (.fieldLink RX4 57 "JarRiddleModel" "acts" "I") (by decide +kernel)) (fun _ h9 => h9) rfl (by decide +kernel) rfl rfl (Nat.le_of_ble_eq_true rfl) dX4_lay_59 (fun H locs hP hD hS => ?_)
    have hP : va_P G.1 vwCl (w_X4 G mh0 mvq maq mlq mhq mfq mrq moq mbq msq th (3 : Int32) (upd (upd (upd mv (0 : Int32).toNatClampNeg p1) (1 : Int32).toNatClampNeg p2) (2 : Int32).toNatClampNeg p3) (lf_X4_lay_37 4 0 ma) (0 : Int32) po si ta ml mh gu wr mf mr re mo mb ms) H := hP
    have hD : va_D A (w_X4 G mh0 mvq maq mlq mhq mfq mrq moq mbq msq th (3 : Int32) (upd (upd (upd mv (0 : Int32).toNatClampNeg p1) (1 : Int32).toNatClampNeg p2) (2 : Int32).toNatClampNeg p3) (lf_X4_lay_37 4 0 ma) (0 : Int32) po si ta ml mh gu wr mf mr re mo mb ms) := hD
    refine lv_aload_n hx hb dX4_lay_62 rfl (lv_at hl 0 rfl) ?_
    refine lv_iconst (v := (0 : Int32)) hx hb dX4_lay_63 (by decide) ?_
    refine va_put (D := G.1) (ci := 4) (v := .int (0 : Int32)) (ty := .int) (C := RX4) (T := TX4) (N := 18) hx hb hts in_X4_lay_X4 tyX4 tyX4_ok nmX4 hown hK.1 hP hD hS 0 rfl rfl 5 (by decide) (hts (.fieldLink RX4 60 "JarRiddleModel" "poured" "I") (by decide +kernel)) (fun _ h9 => h9) rfl (by decide +kernel) rfl rfl (Nat.le_of_ble_eq_true rfl) dX4_lay_64 (fun H locs hP hD hS => ?_)
    have hP : va_P G.1 vwCl (w_X4 G mh0 mvq maq mlq mhq mfq mrq moq mbq msq th (3 : Int32) (upd (upd (upd mv (0 : Int32).toNatClampNeg p1) (1 : Int32).toNatClampNeg p2) (2 : Int32).toNatClampNeg p3) (lf_X4_lay_37 4 0 ma) (0 : Int32) (0 : Int32) si ta ml mh gu wr mf mr re mo mb ms) H := hP
    have hD : va_D A (w_X4 G mh0 mvq maq mlq mhq mfq mrq moq mbq msq th (3 : Int32) (upd (upd (upd mv (0 : Int32).toNatClampNeg p1) (1 : Int32).toNatClampNeg p2) (2 : Int32).toNatClampNeg p3) (lf_X4_lay_37 4 0 ma) (0 : Int32) (0 : Int32) si ta ml mh gu wr mf mr re mo mb ms) := hD
    refine lv_aload_n hx hb dX4_lay_67 rfl (lv_at hl 0 rfl) ?_
    refine lv_iconst (v := (0 : Int32)) hx hb dX4_lay_68 (by decide) ?_
    refine va_put (D := G.1) (ci := 4) (v := .int (0 : Int32)) (ty := .int) (C := RX4) (T := TX4) (N := 18) hx hb hts in_X4_lay_X4 tyX4 tyX4_ok nmX4 hown hK.1 hP hD hS 0 rfl rfl 6 (by decide) (hts (.fieldLink RX4 63 "JarRiddleModel" "spilled" "I") (by decide +kernel)) (fun _ h9 => h9) rfl (by decide +kernel) rfl rfl (Nat.le_of_ble_eq_true rfl) dX4_lay_69 (fun H locs hP hD hS => ?_)
    have hP : va_P G.1 vwCl (w_X4 G mh0 mvq maq mlq mhq mfq mrq moq mbq msq th (3 : Int32) (upd (upd (upd mv (0 : Int32).toNatClampNeg p1) (1 : Int32).toNatClampNeg p2) (2 : Int32).toNatClampNeg p3) (lf_X4_lay_37 4 0 ma) (0 : Int32) (0 : Int32) (0 : Int32) ta ml mh gu wr mf mr re mo mb ms) H := hP
    have hD : va_D A (w_X4 G mh0 mvq maq mlq mhq mfq mrq moq mbq msq th (3 : Int32) (upd (upd (upd mv (0 : Int32).toNatClampNeg p1) (1 : Int32).toNatClampNeg p2) (2 : Int32).toNatClampNeg p3) (lf_X4_lay_37 4 0 ma) (0 : Int32) (0 : Int32) (0 : Int32) ta ml mh gu wr mf mr re mo mb ms) := hD
    refine lv_aload_n hx hb dX4_lay_72 rfl (lv_at hl 0 rfl) ?_
    refine lv_iconst (v := (0 : Int32)) hx hb dX4_lay_73 (by decide) ?_
    refine va_put (D := G.1) (ci := 4) (v := .int (0 : Int32)) (ty := .int) (C := RX4) (T := TX4) (N := 18) hx hb hts in_X4_lay_X4 tyX4 tyX4_ok nmX4 hown hK.1 hP hD hS 0 rfl rfl 7 (by decide) (hts (.fieldLink RX4 66 "JarRiddleModel" "taken" "I") (by decide +kernel)) (fun _ h9 => h9) rfl (by decide +kernel) rfl rfl (Nat.le_of_ble_eq_true rfl) dX4_lay_74 (fun H locs hP hD hS => ?_)
    have hP : va_P G.1 vwCl (w_X4 G mh0 mvq maq mlq mhq mfq mrq moq mbq msq th (3 : Int32) (upd (upd (upd mv (0 : Int32).toNatClampNeg p1) (1 : Int32).toNatClampNeg p2) (2 : Int32).toNatClampNeg p3) (lf_X4_lay_37 4 0 ma) (0 : Int32) (0 : Int32) (0 : Int32) (0 : Int32) ml mh gu wr mf mr re mo mb ms) H := hP
    have hD : va_D A (w_X4 G mh0 mvq maq mlq mhq mfq mrq moq mbq msq th (3 : Int32) (upd (upd (upd mv (0 : Int32).toNatClampNeg p1) (1 : Int32).toNatClampNeg p2) (2 : Int32).toNatClampNeg p3) (lf_X4_lay_37 4 0 ma) (0 : Int32) (0 : Int32) (0 : Int32) (0 : Int32) ml mh gu wr mf mr re mo mb ms) := hD
    refine lv_aload_n hx hb dX4_lay_77 rfl (lv_at hl 0 rfl) ?_
    refine lv_iconst (v := (0 : Int32)) hx hb dX4_lay_78 (by decide) ?_
    refine va_put (D := G.1) (ci := 4) (v := .int (0 : Int32)) (ty := .int) (C := RX4) (T := TX4) (N := 18) hx hb hts in_X4_lay_X4 tyX4 tyX4_ok nmX4 hown hK.1 hP hD hS 0 rfl rfl 10 (by decide) (hts (.fieldLink RX4 69 "JarRiddleModel" "guesses" "I") (by decide +kernel)) (fun _ h9 => h9) rfl (by decide +kernel) rfl rfl (Nat.le_of_ble_eq_true rfl) dX4_lay_79 (fun H locs hP hD hS => ?_)
    have hP : va_P G.1 vwCl (w_X4 G mh0 mvq maq mlq mhq mfq mrq moq mbq msq th (3 : Int32) (upd (upd (upd mv (0 : Int32).toNatClampNeg p1) (1 : Int32).toNatClampNeg p2) (2 : Int32).toNatClampNeg p3) (lf_X4_lay_37 4 0 ma) (0 : Int32) (0 : Int32) (0 : Int32) (0 : Int32) ml mh (0 : Int32) wr mf mr re mo mb ms) H := hP
    have hD : va_D A (w_X4 G mh0 mvq maq mlq mhq mfq mrq moq mbq msq th (3 : Int32) (upd (upd (upd mv (0 : Int32).toNatClampNeg p1) (1 : Int32).toNatClampNeg p2) (2 : Int32).toNatClampNeg p3) (lf_X4_lay_37 4 0 ma) (0 : Int32) (0 : Int32) (0 : Int32) (0 : Int32) ml mh (0 : Int32) wr mf mr re mo mb ms) := hD
    refine lv_aload_n hx hb dX4_lay_82 rfl (lv_at hl 0 rfl) ?_
    refine lv_iconst (v := (0 : Int32)) hx hb dX4_lay_83 (by decide) ?_
    refine va_put (D := G.1) (ci := 4) (v := .int (0 : Int32)) (ty := .int) (C := RX4) (T := TX4) (N := 18) hx hb hts in_X4_lay_X4 tyX4 tyX4_ok nmX4 hown hK.1 hP hD hS 0 rfl rfl 11 (by decide) (hts (.fieldLink RX4 72 "JarRiddleModel" "wrong" "I") (by decide +kernel)) (fun _ h9 => h9) rfl (by decide +kernel) rfl rfl (Nat.le_of_ble_eq_true rfl) dX4_lay_84 (fun H locs hP hD hS => ?_)
    have hP : va_P G.1 vwCl (w_X4 G mh0 mvq maq mlq mhq mfq mrq moq mbq msq th (3 : Int32) (upd (upd (upd mv (0 : Int32).toNatClampNeg p1) (1 : Int32).toNatClampNeg p2) (2 : Int32).toNatClampNeg p3) (lf_X4_lay_37 4 0 ma) (0 : Int32) (0 : Int32) (0 : Int32) (0 : Int32) ml mh (0 : Int32) (0 : Int32) mf mr re mo mb ms) H := hP
    have hD : va_D A (w_X4 G mh0 mvq maq mlq mhq mfq mrq moq mbq msq th (3 : Int32) (upd (upd (upd mv (0 : Int32).toNatClampNeg p1) (1 : Int32).toNatClampNeg p2) (2 : Int32).toNatClampNeg p3) (lf_X4_lay_37 4 0 ma) (0 : Int32) (0 : Int32) (0 : Int32) (0 : Int32) ml mh (0 : Int32) (0 : Int32) mf mr re mo mb ms) := hD
    refine lv_iconst (v := (0 : Int32)) hx hb dX4_lay_87 (by decide) ?_
    refine lv_istore (lv' := [(4, .int (0 : Int32)), (0, .ref mh0)]) hx hb dX4_lay_88 hl (by decide) rfl (fun ls hl => ?_)
    have h_7 := hs
    refine l_X4_lay_90 F hr hlocks hK hA mh0 mvq maq mlq mhq mfq mrq moq mbq msq 1001 0 th (3 : Int32) (upd (upd (upd mv (0 : Int32).toNatClampNeg p1) (1 : Int32).toNatClampNeg p2) (2 : Int32).toNatClampNeg p3) (lf_X4_lay_37 4 0 ma) (0 : Int32) (0 : Int32) (0 : Int32) (0 : Int32) ml mh (0 : Int32) (0 : Int32) mf mr re mo mb ms (by omega) (by omega) h_7 H locs ls hP hD hS (lv_sub hl [1, 0] rfl) ?_
    intro H locs ls hP hD hS hl
    have hP : va_P G.1 vwCl (w_X4 G mh0 mvq maq mlq mhq mfq mrq moq mbq msq th (3 : Int32) (upd (upd (upd mv (0 : Int32).toNatClampNeg p1) (1 : Int32).toNatClampNeg p2) (2 : Int32).toNatClampNeg p3) (lf_X4_lay_37 4 0 ma) (0 : Int32) (0 : Int32) (0 : Int32) (0 : Int32) (lf_X4_lay_90 1001 0 (3 : Int32) ml mh).1 (lf_X4_lay_90 1001 0 (3 : Int32) ml mh).2 (0 : Int32) (0 : Int32) mf mr re mo mb ms) H := hP
    have hD : va_D A (w_X4 G mh0 mvq maq mlq mhq mfq mrq moq mbq msq th (3 : Int32) (upd (upd (upd mv (0 : Int32).toNatClampNeg p1) (1 : Int32).toNatClampNeg p2) (2 : Int32).toNatClampNeg p3) (lf_X4_lay_37 4 0 ma) (0 : Int32) (0 : Int32) (0 : Int32) (0 : Int32) (lf_X4_lay_90 1001 0 (3 : Int32) ml mh).1 (lf_X4_lay_90 1001 0 (3 : Int32) ml mh).2 (0 : Int32) (0 : Int32) mf mr re mo mb ms) := hD
    have hl : lv_has ls 6 [] := hl
    have e9 : (f_X4_lay js mv ma ac po si ta ml mh gu wr p1 p2 p3) = ((3 : Int32), (upd (upd (upd mv (0 : Int32).toNatClampNeg p1) (1 : Int32).toNatClampNeg p2) (2 : Int32).toNatClampNeg p3), (lf_X4_lay_37 4 0 ma), (0 : Int32), (0 : Int32), (0 : Int32), (0 : Int32), (lf_X4_lay_90 1001 0 (3 : Int32) ml mh).1, (lf_X4_lay_90 1001 0 (3 : Int32) ml mh).2, (0 : Int32), (0 : Int32)) := (f_X4_lay_eq js mv ma ac po si ta ml mh gu wr p1 p2 p3).trans ((if_neg c_1).trans (rfl))
    rw [e9]
    dsimp only
    exact z_vret F hr hlocks hP hD hS () [0, 1, 2, 3, 4, 5, 6, 7, 8, 9] rfl rfl rfl dX4_lay_145
  · have hs := hs.1 c_1
    refine lv_iconst (v := (2 : Int32)) hx hb dX4_lay_5 (by decide) ?_
    refine lv_goto (tgt := 10) hx hb dX4_lay_6 (by decide) ?_
    refine va_put (D := G.1) (ci := 4) (v := .int (2 : Int32)) (ty := .int) (C := RX4) (T := TX4) (N := 18) hx hb hts in_X4_lay_X4 tyX4 tyX4_ok nmX4 hown hK.1 hP hD hS 0 rfl rfl 1 (by decide) (hts (.fieldLink RX4 46 "JarRiddleModel" "jars" "I") (by decide +kernel)) (fun _ h9 => h9) rfl (by decide +kernel) rfl rfl (Nat.le_of_ble_eq_true rfl) dX4_lay_10 (fun H locs hP hD hS => ?_)
    have hP : va_P G.1 vwCl (w_X4 G mh0 mvq maq mlq mhq mfq mrq moq mbq msq th (2 : Int32) mv ma ac po si ta ml mh gu wr mf mr re mo mb ms) H := hP
    have hD : va_D A (w_X4 G mh0 mvq maq mlq mhq mfq mrq moq mbq msq th (2 : Int32) mv ma ac po si ta ml mh gu wr mf mr re mo mb ms) := hD
    refine lv_aload_n hx hb dX4_lay_13 rfl (lv_at hl 0 rfl) ?_
    refine va_get (D := G.1) (ci := 4) (v := .ref mvq) (C := RX4) (T := TX4) (N := 18) hx hb hts in_X4_lay_X4 hown hK.1 hP 0 rfl rfl 2 (by decide) (hts (.fieldLink RX4 9 "JarRiddleModel" "volume" "[I") (by decide +kernel)) (fun _ h9 => h9) rfl dX4_lay_14 ?_
    refine lv_iconst (v := (0 : Int32)) hx hb dX4_lay_17 (by decide) ?_
    refine lv_iload_n hx hb dX4_lay_18 rfl (lv_at hl 1 rfl) ?_
    refine va_iast hx hb hK.1 hP hD hS 1 0 rfl rfl (vp_in_nI (n := 0) (N := 3) (by decide) (by decide)) dX4_lay_19 (fun H locs hP hD hS => ?_)
    have hP : va_P G.1 vwCl (w_X4 G mh0 mvq maq mlq mhq mfq mrq moq mbq msq th (2 : Int32) (upd mv (0 : Int32).toNatClampNeg p1) ma ac po si ta ml mh gu wr mf mr re mo mb ms) H := hP
    have hD : va_D A (w_X4 G mh0 mvq maq mlq mhq mfq mrq moq mbq msq th (2 : Int32) (upd mv (0 : Int32).toNatClampNeg p1) ma ac po si ta ml mh gu wr mf mr re mo mb ms) := hD
    refine lv_aload_n hx hb dX4_lay_20 rfl (lv_at hl 0 rfl) ?_
    refine va_get (D := G.1) (ci := 4) (v := .ref mvq) (C := RX4) (T := TX4) (N := 18) hx hb hts in_X4_lay_X4 hown hK.1 hP 0 rfl rfl 2 (by decide) (hts (.fieldLink RX4 9 "JarRiddleModel" "volume" "[I") (by decide +kernel)) (fun _ h9 => h9) rfl dX4_lay_21 ?_
    refine lv_iconst (v := (1 : Int32)) hx hb dX4_lay_24 (by decide) ?_
    refine lv_iload_n hx hb dX4_lay_25 rfl (lv_at hl 2 rfl) ?_
    refine va_iast hx hb hK.1 hP hD hS 1 0 rfl rfl (vp_in_nI (n := 1) (N := 3) (by decide) (by decide)) dX4_lay_26 (fun H locs hP hD hS => ?_)
    have hP : va_P G.1 vwCl (w_X4 G mh0 mvq maq mlq mhq mfq mrq moq mbq msq th (2 : Int32) (upd (upd mv (0 : Int32).toNatClampNeg p1) (1 : Int32).toNatClampNeg p2) ma ac po si ta ml mh gu wr mf mr re mo mb ms) H := hP
    have hD : va_D A (w_X4 G mh0 mvq maq mlq mhq mfq mrq moq mbq msq th (2 : Int32) (upd (upd mv (0 : Int32).toNatClampNeg p1) (1 : Int32).toNatClampNeg p2) ma ac po si ta ml mh gu wr mf mr re mo mb ms) := hD
    refine lv_aload_n hx hb dX4_lay_27 rfl (lv_at hl 0 rfl) ?_
    refine va_get (D := G.1) (ci := 4) (v := .ref mvq) (C := RX4) (T := TX4) (N := 18) hx hb hts in_X4_lay_X4 hown hK.1 hP 0 rfl rfl 2 (by decide) (hts (.fieldLink RX4 9 "JarRiddleModel" "volume" "[I") (by decide +kernel)) (fun _ h9 => h9) rfl dX4_lay_28 ?_
    refine lv_iconst (v := (2 : Int32)) hx hb dX4_lay_31 (by decide) ?_
    refine lv_iload_n hx hb dX4_lay_32 rfl (lv_at hl 3 rfl) ?_
    refine va_iast hx hb hK.1 hP hD hS 1 0 rfl rfl (vp_in_nI (n := 2) (N := 3) (by decide) (by decide)) dX4_lay_33 (fun H locs hP hD hS => ?_)
    have hP : va_P G.1 vwCl (w_X4 G mh0 mvq maq mlq mhq mfq mrq moq mbq msq th (2 : Int32) (upd (upd (upd mv (0 : Int32).toNatClampNeg p1) (1 : Int32).toNatClampNeg p2) (2 : Int32).toNatClampNeg p3) ma ac po si ta ml mh gu wr mf mr re mo mb ms) H := hP
    have hD : va_D A (w_X4 G mh0 mvq maq mlq mhq mfq mrq moq mbq msq th (2 : Int32) (upd (upd (upd mv (0 : Int32).toNatClampNeg p1) (1 : Int32).toNatClampNeg p2) (2 : Int32).toNatClampNeg p3) ma ac po si ta ml mh gu wr mf mr re mo mb ms) := hD
    refine lv_iconst (v := (0 : Int32)) hx hb dX4_lay_34 (by decide) ?_
    refine lv_istore (lv' := [(4, .int (0 : Int32)), (0, .ref mh0), (1, .int p1), (2, .int p2), (3, .int p3)]) hx hb dX4_lay_35 hl (by decide) rfl (fun ls hl => ?_)
    refine l_X4_lay_37 F hr hlocks hK hA mh0 mvq maq mlq mhq mfq mrq moq mbq msq 4 0 th (2 : Int32) (upd (upd (upd mv (0 : Int32).toNatClampNeg p1) (1 : Int32).toNatClampNeg p2) (2 : Int32).toNatClampNeg p3) ma ac po si ta ml mh gu wr mf mr re mo mb ms (by omega) (by omega) H locs ls hP hD hS (lv_sub hl [1, 0] rfl) ?_
    intro H locs ls hP hD hS hl
    have hP : va_P G.1 vwCl (w_X4 G mh0 mvq maq mlq mhq mfq mrq moq mbq msq th (2 : Int32) (upd (upd (upd mv (0 : Int32).toNatClampNeg p1) (1 : Int32).toNatClampNeg p2) (2 : Int32).toNatClampNeg p3) (lf_X4_lay_37 4 0 ma) ac po si ta ml mh gu wr mf mr re mo mb ms) H := hP
    have hD : va_D A (w_X4 G mh0 mvq maq mlq mhq mfq mrq moq mbq msq th (2 : Int32) (upd (upd (upd mv (0 : Int32).toNatClampNeg p1) (1 : Int32).toNatClampNeg p2) (2 : Int32).toNatClampNeg p3) (lf_X4_lay_37 4 0 ma) ac po si ta ml mh gu wr mf mr re mo mb ms) := hD
    have hl : lv_has ls 6 [(0, .ref mh0)] := hl
    refine lv_aload_n hx hb dX4_lay_57 rfl (lv_at hl 0 rfl) ?_
    refine lv_iconst (v := (0 : Int32)) hx hb dX4_lay_58 (by decide) ?_
    refine va_put (D := G.1) (ci := 4) (v := .int (0 : Int32)) (ty := .int) (C := RX4) (T := TX4) (N := 18) hx hb hts in_X4_lay_X4 tyX4 tyX4_ok nmX4 hown hK.1 hP hD hS 0 rfl rfl 4 (by decide) (hts (.fieldLink RX4 57 "JarRiddleModel" "acts" "I") (by decide +kernel)) (fun _ h9 => h9) rfl (by decide +kernel) rfl rfl (Nat.le_of_ble_eq_true rfl) dX4_lay_59 (fun H locs hP hD hS => ?_)
    have hP : va_P G.1 vwCl (w_X4 G mh0 mvq maq mlq mhq mfq mrq moq mbq msq th (2 : Int32) (upd (upd (upd mv (0 : Int32).toNatClampNeg p1) (1 : Int32).toNatClampNeg p2) (2 : Int32).toNatClampNeg p3) (lf_X4_lay_37 4 0 ma) (0 : Int32) po si ta ml mh gu wr mf mr re mo mb ms) H := hP
    have hD : va_D A (w_X4 G mh0 mvq maq mlq mhq mfq mrq moq mbq msq th (2 : Int32) (upd (upd (upd mv (0 : Int32).toNatClampNeg p1) (1 : Int32).toNatClampNeg p2) (2 : Int32).toNatClampNeg p3) (lf_X4_lay_37 4 0 ma) (0 : Int32) po si ta ml mh gu wr mf mr re mo mb ms) := hD
    refine lv_aload_n hx hb dX4_lay_62 rfl (lv_at hl 0 rfl) ?_
    refine lv_iconst (v := (0 : Int32)) hx hb dX4_lay_63 (by decide) ?_
    refine va_put (D := G.1) (ci := 4) (v := .int (0 : Int32)) (ty := .int) (C := RX4) (T := TX4) (N := 18) hx hb hts in_X4_lay_X4 tyX4 tyX4_ok nmX4 hown hK.1 hP hD hS 0 rfl rfl 5 (by decide) (hts (.fieldLink RX4 60 "JarRiddleModel" "poured" "I") (by decide +kernel)) (fun _ h9 => h9) rfl (by decide +kernel) rfl rfl (Nat.le_of_ble_eq_true rfl) dX4_lay_64 (fun H locs hP hD hS => ?_)
    have hP : va_P G.1 vwCl (w_X4 G mh0 mvq maq mlq mhq mfq mrq moq mbq msq th (2 : Int32) (upd (upd (upd mv (0 : Int32).toNatClampNeg p1) (1 : Int32).toNatClampNeg p2) (2 : Int32).toNatClampNeg p3) (lf_X4_lay_37 4 0 ma) (0 : Int32) (0 : Int32) si ta ml mh gu wr mf mr re mo mb ms) H := hP
    have hD : va_D A (w_X4 G mh0 mvq maq mlq mhq mfq mrq moq mbq msq th (2 : Int32) (upd (upd (upd mv (0 : Int32).toNatClampNeg p1) (1 : Int32).toNatClampNeg p2) (2 : Int32).toNatClampNeg p3) (lf_X4_lay_37 4 0 ma) (0 : Int32) (0 : Int32) si ta ml mh gu wr mf mr re mo mb ms) := hD
    refine lv_aload_n hx hb dX4_lay_67 rfl (lv_at hl 0 rfl) ?_
    refine lv_iconst (v := (0 : Int32)) hx hb dX4_lay_68 (by decide) ?_
    refine va_put (D := G.1) (ci := 4) (v := .int (0 : Int32)) (ty := .int) (C := RX4) (T := TX4) (N := 18) hx hb hts in_X4_lay_X4 tyX4 tyX4_ok nmX4 hown hK.1 hP hD hS 0 rfl rfl 6 (by decide) (hts (.fieldLink RX4 63 "JarRiddleModel" "spilled" "I") (by decide +kernel)) (fun _ h9 => h9) rfl (by decide +kernel) rfl rfl (Nat.le_of_ble_eq_true rfl) dX4_lay_69 (fun H locs hP hD hS => ?_)
    have hP : va_P G.1 vwCl (w_X4 G mh0 mvq maq mlq mhq mfq mrq moq mbq msq th (2 : Int32) (upd (upd (upd mv (0 : Int32).toNatClampNeg p1) (1 : Int32).toNatClampNeg p2) (2 : Int32).toNatClampNeg p3) (lf_X4_lay_37 4 0 ma) (0 : Int32) (0 : Int32) (0 : Int32) ta ml mh gu wr mf mr re mo mb ms) H := hP
    have hD : va_D A (w_X4 G mh0 mvq maq mlq mhq mfq mrq moq mbq msq th (2 : Int32) (upd (upd (upd mv (0 : Int32).toNatClampNeg p1) (1 : Int32).toNatClampNeg p2) (2 : Int32).toNatClampNeg p3) (lf_X4_lay_37 4 0 ma) (0 : Int32) (0 : Int32) (0 : Int32) ta ml mh gu wr mf mr re mo mb ms) := hD
    refine lv_aload_n hx hb dX4_lay_72 rfl (lv_at hl 0 rfl) ?_
    refine lv_iconst (v := (0 : Int32)) hx hb dX4_lay_73 (by decide) ?_
    refine va_put (D := G.1) (ci := 4) (v := .int (0 : Int32)) (ty := .int) (C := RX4) (T := TX4) (N := 18) hx hb hts in_X4_lay_X4 tyX4 tyX4_ok nmX4 hown hK.1 hP hD hS 0 rfl rfl 7 (by decide) (hts (.fieldLink RX4 66 "JarRiddleModel" "taken" "I") (by decide +kernel)) (fun _ h9 => h9) rfl (by decide +kernel) rfl rfl (Nat.le_of_ble_eq_true rfl) dX4_lay_74 (fun H locs hP hD hS => ?_)
    have hP : va_P G.1 vwCl (w_X4 G mh0 mvq maq mlq mhq mfq mrq moq mbq msq th (2 : Int32) (upd (upd (upd mv (0 : Int32).toNatClampNeg p1) (1 : Int32).toNatClampNeg p2) (2 : Int32).toNatClampNeg p3) (lf_X4_lay_37 4 0 ma) (0 : Int32) (0 : Int32) (0 : Int32) (0 : Int32) ml mh gu wr mf mr re mo mb ms) H := hP
    have hD : va_D A (w_X4 G mh0 mvq maq mlq mhq mfq mrq moq mbq msq th (2 : Int32) (upd (upd (upd mv (0 : Int32).toNatClampNeg p1) (1 : Int32).toNatClampNeg p2) (2 : Int32).toNatClampNeg p3) (lf_X4_lay_37 4 0 ma) (0 : Int32) (0 : Int32) (0 : Int32) (0 : Int32) ml mh gu wr mf mr re mo mb ms) := hD
    refine lv_aload_n hx hb dX4_lay_77 rfl (lv_at hl 0 rfl) ?_
    refine lv_iconst (v := (0 : Int32)) hx hb dX4_lay_78 (by decide) ?_
    refine va_put (D := G.1) (ci := 4) (v := .int (0 : Int32)) (ty := .int) (C := RX4) (T := TX4) (N := 18) hx hb hts in_X4_lay_X4 tyX4 tyX4_ok nmX4 hown hK.1 hP hD hS 0 rfl rfl 10 (by decide) (hts (.fieldLink RX4 69 "JarRiddleModel" "guesses" "I") (by decide +kernel)) (fun _ h9 => h9) rfl (by decide +kernel) rfl rfl (Nat.le_of_ble_eq_true rfl) dX4_lay_79 (fun H locs hP hD hS => ?_)
    have hP : va_P G.1 vwCl (w_X4 G mh0 mvq maq mlq mhq mfq mrq moq mbq msq th (2 : Int32) (upd (upd (upd mv (0 : Int32).toNatClampNeg p1) (1 : Int32).toNatClampNeg p2) (2 : Int32).toNatClampNeg p3) (lf_X4_lay_37 4 0 ma) (0 : Int32) (0 : Int32) (0 : Int32) (0 : Int32) ml mh (0 : Int32) wr mf mr re mo mb ms) H := hP
    have hD : va_D A (w_X4 G mh0 mvq maq mlq mhq mfq mrq moq mbq msq th (2 : Int32) (upd (upd (upd mv (0 : Int32).toNatClampNeg p1) (1 : Int32).toNatClampNeg p2) (2 : Int32).toNatClampNeg p3) (lf_X4_lay_37 4 0 ma) (0 : Int32) (0 : Int32) (0 : Int32) (0 : Int32) ml mh (0 : Int32) wr mf mr re mo mb ms) := hD
    refine lv_aload_n hx hb dX4_lay_82 rfl (lv_at hl 0 rfl) ?_
    refine lv_iconst (v := (0 : Int32)) hx hb dX4_lay_83 (by decide) ?_
    refine va_put (D := G.1) (ci := 4) (v := .int (0 : Int32)) (ty := .int) (C := RX4) (T := TX4) (N := 18) hx hb hts in_X4_lay_X4 tyX4 tyX4_ok nmX4 hown hK.1 hP hD hS 0 rfl rfl 11 (by decide) (hts (.fieldLink RX4 72 "JarRiddleModel" "wrong" "I") (by decide +kernel)) (fun _ h9 => h9) rfl (by decide +kernel) rfl rfl (Nat.le_of_ble_eq_true rfl) dX4_lay_84 (fun H locs hP hD hS => ?_)
    have hP : va_P G.1 vwCl (w_X4 G mh0 mvq maq mlq mhq mfq mrq moq mbq msq th (2 : Int32) (upd (upd (upd mv (0 : Int32).toNatClampNeg p1) (1 : Int32).toNatClampNeg p2) (2 : Int32).toNatClampNeg p3) (lf_X4_lay_37 4 0 ma) (0 : Int32) (0 : Int32) (0 : Int32) (0 : Int32) ml mh (0 : Int32) (0 : Int32) mf mr re mo mb ms) H := hP
    have hD : va_D A (w_X4 G mh0 mvq maq mlq mhq mfq mrq moq mbq msq th (2 : Int32) (upd (upd (upd mv (0 : Int32).toNatClampNeg p1) (1 : Int32).toNatClampNeg p2) (2 : Int32).toNatClampNeg p3) (lf_X4_lay_37 4 0 ma) (0 : Int32) (0 : Int32) (0 : Int32) (0 : Int32) ml mh (0 : Int32) (0 : Int32) mf mr re mo mb ms) := hD
    refine lv_iconst (v := (0 : Int32)) hx hb dX4_lay_87 (by decide) ?_
    refine lv_istore (lv' := [(4, .int (0 : Int32)), (0, .ref mh0)]) hx hb dX4_lay_88 hl (by decide) rfl (fun ls hl => ?_)
    have h_8 := hs
    refine l_X4_lay_90 F hr hlocks hK hA mh0 mvq maq mlq mhq mfq mrq moq mbq msq 1001 0 th (2 : Int32) (upd (upd (upd mv (0 : Int32).toNatClampNeg p1) (1 : Int32).toNatClampNeg p2) (2 : Int32).toNatClampNeg p3) (lf_X4_lay_37 4 0 ma) (0 : Int32) (0 : Int32) (0 : Int32) (0 : Int32) ml mh (0 : Int32) (0 : Int32) mf mr re mo mb ms (by omega) (by omega) h_8 H locs ls hP hD hS (lv_sub hl [1, 0] rfl) ?_
    intro H locs ls hP hD hS hl
    have hP : va_P G.1 vwCl (w_X4 G mh0 mvq maq mlq mhq mfq mrq moq mbq msq th (2 : Int32) (upd (upd (upd mv (0 : Int32).toNatClampNeg p1) (1 : Int32).toNatClampNeg p2) (2 : Int32).toNatClampNeg p3) (lf_X4_lay_37 4 0 ma) (0 : Int32) (0 : Int32) (0 : Int32) (0 : Int32) (lf_X4_lay_90 1001 0 (2 : Int32) ml mh).1 (lf_X4_lay_90 1001 0 (2 : Int32) ml mh).2 (0 : Int32) (0 : Int32) mf mr re mo mb ms) H := hP
    have hD : va_D A (w_X4 G mh0 mvq maq mlq mhq mfq mrq moq mbq msq th (2 : Int32) (upd (upd (upd mv (0 : Int32).toNatClampNeg p1) (1 : Int32).toNatClampNeg p2) (2 : Int32).toNatClampNeg p3) (lf_X4_lay_37 4 0 ma) (0 : Int32) (0 : Int32) (0 : Int32) (0 : Int32) (lf_X4_lay_90 1001 0 (2 : Int32) ml mh).1 (lf_X4_lay_90 1001 0 (2 : Int32) ml mh).2 (0 : Int32) (0 : Int32) mf mr re mo mb ms) := hD
    have hl : lv_has ls 6 [] := hl
    have e9 : (f_X4_lay js mv ma ac po si ta ml mh gu wr p1 p2 p3) = ((2 : Int32), (upd (upd (upd mv (0 : Int32).toNatClampNeg p1) (1 : Int32).toNatClampNeg p2) (2 : Int32).toNatClampNeg p3), (lf_X4_lay_37 4 0 ma), (0 : Int32), (0 : Int32), (0 : Int32), (0 : Int32), (lf_X4_lay_90 1001 0 (2 : Int32) ml mh).1, (lf_X4_lay_90 1001 0 (2 : Int32) ml mh).2, (0 : Int32), (0 : Int32)) := (f_X4_lay_eq js mv ma ac po si ta ml mh gu wr p1 p2 p3).trans ((if_pos c_1).trans (rfl))
    rw [e9]
    dsimp only
    exact z_vret F hr hlocks hP hD hS () [0, 1, 2, 3, 4, 5, 6, 7, 8, 9] rfl rfl rfl dX4_lay_145
def f_X4_move_t1 (mo : Nat → Int32) (mb : Nat → Int32) (p1 : Int32) : Int32 := (if ((mb (p1 - p1 / (3 : Int32) * (3 : Int32)).toNatClampNeg) - (mo (p1 - p1 / (3 : Int32) * (3 : Int32)).toNatClampNeg)) < (mo ((p1 - (6 : Int32)) / (3 : Int32)).toNatClampNeg) then ((mb (p1 - p1 / (3 : Int32) * (3 : Int32)).toNatClampNeg) - (mo (p1 - p1 / (3 : Int32) * (3 : Int32)).toNatClampNeg)) else (mo ((p1 - (6 : Int32)) / (3 : Int32)).toNatClampNeg))
def f_X4_move_t2 (mo : Nat → Int32) (mb : Nat → Int32) (p1 : Int32) : Nat → Int32 := (upd (upd mo ((p1 - (6 : Int32)) / (3 : Int32)).toNatClampNeg ((mo ((p1 - (6 : Int32)) / (3 : Int32)).toNatClampNeg) - (f_X4_move_t1 mo mb p1))) (p1 - p1 / (3 : Int32) * (3 : Int32)).toNatClampNeg (((upd mo ((p1 - (6 : Int32)) / (3 : Int32)).toNatClampNeg ((mo ((p1 - (6 : Int32)) / (3 : Int32)).toNatClampNeg) - (f_X4_move_t1 mo mb p1))) (p1 - p1 / (3 : Int32) * (3 : Int32)).toNatClampNeg) + (f_X4_move_t1 mo mb p1)))
def f_X4_move (mo : Nat → Int32) (mb : Nat → Int32) (p1 : Int32) : Int32 × (Nat → Int32) := (if (3 : Int32) ≤ p1 then (if (6 : Int32) ≤ p1 then ((f_X4_move_t1 mo mb p1), (f_X4_move_t2 mo mb p1)) else ((mo (p1 - p1 / (3 : Int32) * (3 : Int32)).toNatClampNeg), (upd mo (p1 - p1 / (3 : Int32) * (3 : Int32)).toNatClampNeg (0 : Int32)))) else (((mb (p1 - p1 / (3 : Int32) * (3 : Int32)).toNatClampNeg) - (mo (p1 - p1 / (3 : Int32) * (3 : Int32)).toNatClampNeg)), (upd mo (p1 - p1 / (3 : Int32) * (3 : Int32)).toNatClampNeg (mb (p1 - p1 / (3 : Int32) * (3 : Int32)).toNatClampNeg))))
theorem f_X4_move_eq (mo : Nat → Int32) (mb : Nat → Int32) (p1 : Int32) : f_X4_move mo mb p1 = (if (3 : Int32) ≤ p1 then (if (6 : Int32) ≤ p1 then ((f_X4_move_t1 mo mb p1), (f_X4_move_t2 mo mb p1)) else ((mo (p1 - p1 / (3 : Int32) * (3 : Int32)).toNatClampNeg), (upd mo (p1 - p1 / (3 : Int32) * (3 : Int32)).toNatClampNeg (0 : Int32)))) else (((mb (p1 - p1 / (3 : Int32) * (3 : Int32)).toNatClampNeg) - (mo (p1 - p1 / (3 : Int32) * (3 : Int32)).toNatClampNeg)), (upd mo (p1 - p1 / (3 : Int32) * (3 : Int32)).toNatClampNeg (mb (p1 - p1 / (3 : Int32) * (3 : Int32)).toNatClampNeg)))) := rfl
def s_X4_move (p1 : Int32) : Prop := (((3 : Int32) ≤ p1 → (((6 : Int32) ≤ p1 → vp_in ((p1 - (6 : Int32)) / (3 : Int32)) 3 ∧ vp_in (p1 - p1 / (3 : Int32) * (3 : Int32)) 3 ∧ vp_in (p1 - p1 / (3 : Int32) * (3 : Int32)) 3 ∧ vp_in ((p1 - (6 : Int32)) / (3 : Int32)) 3 ∧ vp_in ((p1 - (6 : Int32)) / (3 : Int32)) 3 ∧ vp_in (p1 - p1 / (3 : Int32) * (3 : Int32)) 3 ∧ vp_in (p1 - p1 / (3 : Int32) * (3 : Int32)) 3) ∧ (¬ (6 : Int32) ≤ p1 → vp_in (p1 - p1 / (3 : Int32) * (3 : Int32)) 3 ∧ vp_in (p1 - p1 / (3 : Int32) * (3 : Int32)) 3))) ∧ (¬ (3 : Int32) ≤ p1 → vp_in (p1 - p1 / (3 : Int32) * (3 : Int32)) 3 ∧ vp_in (p1 - p1 / (3 : Int32) * (3 : Int32)) 3 ∧ vp_in (p1 - p1 / (3 : Int32) * (3 : Int32)) 3 ∧ vp_in (p1 - p1 / (3 : Int32) * (3 : Int32)) 3))
abbrev rm_X4_move : Room := { frames := 1, cells := 0, slots := 0, locals := 13 }
theorem zd_X4_move : yX4_move.cls = RX4 ∧ yX4_move.cls ≠ "java/lang/invoke/MethodHandle" ∧ yX4_move.cls ≠ "java/lang/invoke/VarHandle" ∧ (parseMethodDescriptor yX4_move.desc).map (fun d => d.parameters.length) = some 1 := by decide +kernel
theorem in_X4_move_X4 : ∀ w ∈ u_ws RX4 TX4 18, w ∈ wsX4_move := by decide +kernel
set_option maxHeartbeats 4000000 in
set_option maxRecDepth 100000 in
/-- JarRiddleModel.move(I)I -/
theorem c_X4_move (l : Launch) (G : zG) (mh0 mvq maq mlq mhq mfq mrq moq mbq msq : Nat) (th : Int32) (js : Int32) (mv : Nat → Int32) (ma : Nat → Int32) (ac : Int32) (po : Int32) (si : Int32) (ta : Int32) (ml : Nat → Int32) (mh : Nat → Int32) (gu : Int32) (wr : Int32) (mf : Nat → Int32) (mr : Nat → Int32) (re : Int32) (mo : Nat → Int32) (mb : Nat → Int32) (ms : Nat → Int32) (p1 : Int32) (hs : s_X4_move p1) : zC l G yX4_move wsX4_move rm_X4_move 0 0 [.ref mh0, .int p1] (w_X4 G mh0 mvq maq mlq mhq mfq mrq moq mbq msq th js mv ma ac po si ta ml mh gu wr mf mr re mo mb ms) (some (.int (f_X4_move mo mb p1).1)) (fun _ : Unit => (w_X4 G mh0 mvq maq mlq mhq mfq mrq moq mbq msq th js mv ma ac po si ta ml mh gu wr mf mr re ((f_X4_move mo mb p1).2) mb ms)) := by
  refine z_of (cc := cX4_move) (maxL := 5) (ret := (some .int)) (own := RX4) (by decide) rfl rfl (Nat.le_of_ble_eq_true rfl) ?_
  intro p e s m args below meth c A H locs ls F hr hlocks hname hK hA hP hD hS hl
  obtain ⟨hx, hb, hml, hown, hts⟩ := id F
  have hl : lv_has ls 5 [(0, .ref mh0), (1, .int p1)] := hl
  have hs : (((3 : Int32) ≤ p1 → (((6 : Int32) ≤ p1 → vp_in ((p1 - (6 : Int32)) / (3 : Int32)) 3 ∧ vp_in (p1 - p1 / (3 : Int32) * (3 : Int32)) 3 ∧ vp_in (p1 - p1 / (3 : Int32) * (3 : Int32)) 3 ∧ vp_in ((p1 - (6 : Int32)) / (3 : Int32)) 3 ∧ vp_in ((p1 - (6 : Int32)) / (3 : Int32)) 3 ∧ vp_in (p1 - p1 / (3 : Int32) * (3 : Int32)) 3 ∧ vp_in (p1 - p1 / (3 : Int32) * (3 : Int32)) 3) ∧ (¬ (6 : Int32) ≤ p1 → vp_in (p1 - p1 / (3 : Int32) * (3 : Int32)) 3 ∧ vp_in (p1 - p1 / (3 : Int32) * (3 : Int32)) 3))) ∧ (¬ (3 : Int32) ≤ p1 → vp_in (p1 - p1 / (3 : Int32) * (3 : Int32)) 3 ∧ vp_in (p1 - p1 / (3 : Int32) * (3 : Int32)) 3 ∧ vp_in (p1 - p1 / (3 : Int32) * (3 : Int32)) 3 ∧ vp_in (p1 - p1 / (3 : Int32) * (3 : Int32)) 3)) := hs
  refine lv_iload_n hx hb dX4_move_0 rfl (lv_at hl 1 rfl) ?_
  refine lv_iconst (v := (3 : Int32)) hx hb dX4_move_1 (by decide) ?_
  refine lv_irem hx hb dX4_move_2 (by decide) ?_
  refine lv_istore_n (lv' := [(2, .int (p1 - p1 / (3 : Int32) * (3 : Int32))), (0, .ref mh0), (1, .int p1)]) hx hb dX4_move_3 rfl hl (by decide) rfl (fun ls hl => ?_)
  refine lv_iload_n hx hb dX4_move_4 rfl (lv_at hl 2 rfl) ?_
  refine lv_iconst (v := (3 : Int32)) hx hb dX4_move_5 (by decide) ?_
  refine lv_icmp_ge (tgt := 38) hx hb dX4_move_6 (by decide) (fun (c_1 : (3 : Int32) ≤ p1) => ?_) (fun (c_1 : ¬ (3 : Int32) ≤ p1) => ?_)
  · have hs := hs.1 c_1
    refine lv_iload_n hx hb dX4_move_38 rfl (lv_at hl 2 rfl) ?_
    refine lv_bipush (v := (6 : Int32)) hx hb dX4_move_39 (by decide) ?_
    refine lv_icmp_ge (tgt := 61) hx hb dX4_move_41 (by decide) (fun (c_2 : (6 : Int32) ≤ p1) => ?_) (fun (c_2 : ¬ (6 : Int32) ≤ p1) => ?_)
    · have hs := hs.1 c_2
      refine lv_iload_n hx hb dX4_move_61 rfl (lv_at hl 2 rfl) ?_
      refine lv_bipush (v := (6 : Int32)) hx hb dX4_move_62 (by decide) ?_
      refine lv_isub hx hb dX4_move_64 ?_
      refine lv_iconst (v := (3 : Int32)) hx hb dX4_move_65 (by decide) ?_
      refine lv_idiv hx hb dX4_move_66 (by decide) ?_
      refine lv_istore (lv' := [(4, .int ((p1 - (6 : Int32)) / (3 : Int32))), (2, .int (p1 - p1 / (3 : Int32) * (3 : Int32))), (0, .ref mh0), (1, .int p1)]) hx hb dX4_move_67 hl (by decide) rfl (fun ls hl => ?_)
      refine lv_aload_n hx hb dX4_move_69 rfl (lv_at hl 2 rfl) ?_
      refine va_get (D := G.1) (ci := 4) (v := .ref moq) (C := RX4) (T := TX4) (N := 18) hx hb hts in_X4_move_X4 hown hK.1 hP 0 rfl rfl 15 (by decide) (hts (.fieldLink RX4 29 "JarRiddleModel" "one" "[I") (by decide +kernel)) (fun _ h9 => h9) rfl dX4_move_70 ?_
      refine lv_iload hx hb dX4_move_73 (lv_at hl 0 rfl) ?_
      obtain ⟨h_3, hs⟩ := hs
      refine va_iald hx hb hK.1 hP 7 0 rfl rfl h_3 dX4_move_75 ?_
      refine lv_aload_n hx hb dX4_move_76 rfl (lv_at hl 2 rfl) ?_
      refine va_get (D := G.1) (ci := 4) (v := .ref mbq) (C := RX4) (T := TX4) (N := 18) hx hb hts in_X4_move_X4 hown hK.1 hP 0 rfl rfl 16 (by decide) (hts (.fieldLink RX4 32 "JarRiddleModel" "by" "[I") (by decide +kernel)) (fun _ h9 => h9) rfl dX4_move_77 ?_
      refine lv_iload_n hx hb dX4_move_80 rfl (lv_at hl 1 rfl) ?_
      obtain ⟨h_4, hs⟩ := hs
      refine va_iald hx hb hK.1 hP 8 0 rfl rfl h_4 dX4_move_81 ?_
      refine lv_aload_n hx hb dX4_move_82 rfl (lv_at hl 2 rfl) ?_
      refine va_get (D := G.1) (ci := 4) (v := .ref moq) (C := RX4) (T := TX4) (N := 18) hx hb hts in_X4_move_X4 hown hK.1 hP 0 rfl rfl 15 (by decide) (hts (.fieldLink RX4 29 "JarRiddleModel" "one" "[I") (by decide +kernel)) (fun _ h9 => h9) rfl dX4_move_83 ?_
      refine lv_iload_n hx hb dX4_move_86 rfl (lv_at hl 1 rfl) ?_
      obtain ⟨h_5, hs⟩ := hs
      refine va_iald hx hb hK.1 hP 7 0 rfl rfl h_5 dX4_move_87 ?_
      refine lv_isub hx hb dX4_move_88 ?_
      refine va_mmin hx hb (hml.trans hl.1.symm) hown (hts (.methodLink RX4 79 Lib.Math.min.name) (by decide +kernel)) (hts (.static Lib.Math.min.name) (by decide +kernel)) (hts (.initialized "java/lang/Math") (by decide +kernel)) (hts (.code Lib.Math.min.name Lib.Math.min.code 2 (some .int)) (by decide +kernel)) (Nat.le_of_ble_eq_true rfl) (Nat.le_of_ble_eq_true rfl) (Nat.zero_le _) (Nat.zero_le _) dX4_move_89 ?_
      refine lv_istore_n (lv' := [(3, .int (f_X4_move_t1 mo mb p1)), (4, .int ((p1 - (6 : Int32)) / (3 : Int32))), (2, .int (p1 - p1 / (3 : Int32) * (3 : Int32))), (0, .ref mh0), (1, .int p1)]) hx hb dX4_move_92 rfl hl (by decide) rfl (fun ls hl => ?_)
      refine lv_aload_n hx hb dX4_move_93 rfl (lv_at hl 3 rfl) ?_
      refine va_get (D := G.1) (ci := 4) (v := .ref moq) (C := RX4) (T := TX4) (N := 18) hx hb hts in_X4_move_X4 hown hK.1 hP 0 rfl rfl 15 (by decide) (hts (.fieldLink RX4 29 "JarRiddleModel" "one" "[I") (by decide +kernel)) (fun _ h9 => h9) rfl dX4_move_94 ?_
      refine lv_iload hx hb dX4_move_97 (lv_at hl 1 rfl) ?_
      refine lv_dup2_11 hx hb dX4_move_99 rfl rfl ?_
      obtain ⟨h_6, hs⟩ := hs
      refine va_iald hx hb hK.1 hP 7 0 rfl rfl h_6 dX4_move_100 ?_
      refine lv_iload_n hx hb dX4_move_101 rfl (lv_at hl 0 rfl) ?_
      refine lv_isub hx hb dX4_move_102 ?_
      obtain ⟨h_7, hs⟩ := hs
      refine va_iast hx hb hK.1 hP hD hS 7 0 rfl rfl h_7 dX4_move_103 (fun H locs hP hD hS => ?_)
      have hP : va_P G.1 vwCl (w_X4 G mh0 mvq maq mlq mhq mfq mrq moq mbq msq th js mv ma ac po si ta ml mh gu wr mf mr re (upd mo ((p1 - (6 : Int32)) / (3 : Int32)).toNatClampNeg ((mo ((p1 - (6 : Int32)) / (3 : Int32)).toNatClampNeg) - (f_X4_move_t1 mo mb p1))) mb ms) H := hP
      have hD : va_D A (w_X4 G mh0 mvq maq mlq mhq mfq mrq moq mbq msq th js mv ma ac po si ta ml mh gu wr mf mr re (upd mo ((p1 - (6 : Int32)) / (3 : Int32)).toNatClampNeg ((mo ((p1 - (6 : Int32)) / (3 : Int32)).toNatClampNeg) - (f_X4_move_t1 mo mb p1))) mb ms) := hD
      refine lv_aload_n hx hb dX4_move_104 rfl (lv_at hl 3 rfl) ?_
      refine va_get (D := G.1) (ci := 4) (v := .ref moq) (C := RX4) (T := TX4) (N := 18) hx hb hts in_X4_move_X4 hown hK.1 hP 0 rfl rfl 15 (by decide) (hts (.fieldLink RX4 29 "JarRiddleModel" "one" "[I") (by decide +kernel)) (fun _ h9 => h9) rfl dX4_move_105 ?_
      refine lv_iload_n hx hb dX4_move_108 rfl (lv_at hl 2 rfl) ?_
      refine lv_dup2_11 hx hb dX4_move_109 rfl rfl ?_
      obtain ⟨h_8, hs⟩ := hs
      refine va_iald hx hb hK.1 hP 7 0 rfl rfl h_8 dX4_move_110 ?_
      refine lv_iload_n hx hb dX4_move_111 rfl (lv_at hl 0 rfl) ?_
      refine lv_iadd hx hb dX4_move_112 ?_
      have h_9 := hs
      refine va_iast hx hb hK.1 hP hD hS 7 0 rfl rfl h_9 dX4_move_113 (fun H locs hP hD hS => ?_)
      have hP : va_P G.1 vwCl (w_X4 G mh0 mvq maq mlq mhq mfq mrq moq mbq msq th js mv ma ac po si ta ml mh gu wr mf mr re (f_X4_move_t2 mo mb p1) mb ms) H := hP
      have hD : va_D A (w_X4 G mh0 mvq maq mlq mhq mfq mrq moq mbq msq th js mv ma ac po si ta ml mh gu wr mf mr re (f_X4_move_t2 mo mb p1) mb ms) := hD
      refine lv_iload_n hx hb dX4_move_114 rfl (lv_at hl 0 rfl) ?_
      have e9 : (f_X4_move mo mb p1) = ((f_X4_move_t1 mo mb p1), (f_X4_move_t2 mo mb p1)) := (f_X4_move_eq mo mb p1).trans ((if_pos c_1).trans ((if_pos c_2).trans (rfl)))
      rw [e9]
      dsimp only
      exact z_iret F hr hlocks hP hD hS () [0, 1, 2, 3, 4, 5, 6, 7, 8, 9] rfl rfl rfl dX4_move_115
    · have hs := hs.2 c_2
      refine lv_aload_n hx hb dX4_move_44 rfl (lv_at hl 1 rfl) ?_
      refine va_get (D := G.1) (ci := 4) (v := .ref moq) (C := RX4) (T := TX4) (N := 18) hx hb hts in_X4_move_X4 hown hK.1 hP 0 rfl rfl 15 (by decide) (hts (.fieldLink RX4 29 "JarRiddleModel" "one" "[I") (by decide +kernel)) (fun _ h9 => h9) rfl dX4_move_45 ?_
      refine lv_iload_n hx hb dX4_move_48 rfl (lv_at hl 0 rfl) ?_
      obtain ⟨h_10, hs⟩ := hs
      refine va_iald hx hb hK.1 hP 7 0 rfl rfl h_10 dX4_move_49 ?_
      refine lv_istore_n (lv' := [(3, .int (mo (p1 - p1 / (3 : Int32) * (3 : Int32)).toNatClampNeg)), (2, .int (p1 - p1 / (3 : Int32) * (3 : Int32))), (0, .ref mh0), (1, .int p1)]) hx hb dX4_move_50 rfl hl (by decide) rfl (fun ls hl => ?_)
      refine lv_aload_n hx hb dX4_move_51 rfl (lv_at hl 2 rfl) ?_
      refine va_get (D := G.1) (ci := 4) (v := .ref moq) (C := RX4) (T := TX4) (N := 18) hx hb hts in_X4_move_X4 hown hK.1 hP 0 rfl rfl 15 (by decide) (hts (.fieldLink RX4 29 "JarRiddleModel" "one" "[I") (by decide +kernel)) (fun _ h9 => h9) rfl dX4_move_52 ?_
      refine lv_iload_n hx hb dX4_move_55 rfl (lv_at hl 1 rfl) ?_
      refine lv_iconst (v := (0 : Int32)) hx hb dX4_move_56 (by decide) ?_
      have h_11 := hs
      refine va_iast hx hb hK.1 hP hD hS 7 0 rfl rfl h_11 dX4_move_57 (fun H locs hP hD hS => ?_)
      have hP : va_P G.1 vwCl (w_X4 G mh0 mvq maq mlq mhq mfq mrq moq mbq msq th js mv ma ac po si ta ml mh gu wr mf mr re (upd mo (p1 - p1 / (3 : Int32) * (3 : Int32)).toNatClampNeg (0 : Int32)) mb ms) H := hP
      have hD : va_D A (w_X4 G mh0 mvq maq mlq mhq mfq mrq moq mbq msq th js mv ma ac po si ta ml mh gu wr mf mr re (upd mo (p1 - p1 / (3 : Int32) * (3 : Int32)).toNatClampNeg (0 : Int32)) mb ms) := hD
      refine lv_goto (tgt := 114) hx hb dX4_move_58 (by decide) ?_
      refine lv_iload_n hx hb dX4_move_114 rfl (lv_at hl 0 rfl) ?_
      have e9 : (f_X4_move mo mb p1) = ((mo (p1 - p1 / (3 : Int32) * (3 : Int32)).toNatClampNeg), (upd mo (p1 - p1 / (3 : Int32) * (3 : Int32)).toNatClampNeg (0 : Int32))) := (f_X4_move_eq mo mb p1).trans ((if_pos c_1).trans ((if_neg c_2).trans (rfl)))
      rw [e9]
      dsimp only
      exact z_iret F hr hlocks hP hD hS () [0, 1, 2, 3, 4, 5, 6, 7, 8, 9] rfl rfl rfl dX4_move_115
  · have hs := hs.2 c_1
    refine lv_aload_n hx hb dX4_move_9 rfl (lv_at hl 1 rfl) ?_
    refine va_get (D := G.1) (ci := 4) (v := .ref mbq) (C := RX4) (T := TX4) (N := 18) hx hb hts in_X4_move_X4 hown hK.1 hP 0 rfl rfl 16 (by decide) (hts (.fieldLink RX4 32 "JarRiddleModel" "by" "[I") (by decide +kernel)) (fun _ h9 => h9) rfl dX4_move_10 ?_
    refine lv_iload_n hx hb dX4_move_13 rfl (lv_at hl 0 rfl) ?_
    obtain ⟨h_12, hs⟩ := hs
    refine va_iald hx hb hK.1 hP 8 0 rfl rfl h_12 dX4_move_14 ?_
    refine lv_aload_n hx hb dX4_move_15 rfl (lv_at hl 1 rfl) ?_
    refine va_get (D := G.1) (ci := 4) (v := .ref moq) (C := RX4) (T := TX4) (N := 18) hx hb hts in_X4_move_X4 hown hK.1 hP 0 rfl rfl 15 (by decide) (hts (.fieldLink RX4 29 "JarRiddleModel" "one" "[I") (by decide +kernel)) (fun _ h9 => h9) rfl dX4_move_16 ?_
    refine lv_iload_n hx hb dX4_move_19 rfl (lv_at hl 0 rfl) ?_
    obtain ⟨h_13, hs⟩ := hs
    refine va_iald hx hb hK.1 hP 7 0 rfl rfl h_13 dX4_move_20 ?_
    refine lv_isub hx hb dX4_move_21 ?_
    refine lv_istore_n (lv' := [(3, .int ((mb (p1 - p1 / (3 : Int32) * (3 : Int32)).toNatClampNeg) - (mo (p1 - p1 / (3 : Int32) * (3 : Int32)).toNatClampNeg))), (2, .int (p1 - p1 / (3 : Int32) * (3 : Int32))), (0, .ref mh0), (1, .int p1)]) hx hb dX4_move_22 rfl hl (by decide) rfl (fun ls hl => ?_)
    refine lv_aload_n hx hb dX4_move_23 rfl (lv_at hl 2 rfl) ?_
    refine va_get (D := G.1) (ci := 4) (v := .ref moq) (C := RX4) (T := TX4) (N := 18) hx hb hts in_X4_move_X4 hown hK.1 hP 0 rfl rfl 15 (by decide) (hts (.fieldLink RX4 29 "JarRiddleModel" "one" "[I") (by decide +kernel)) (fun _ h9 => h9) rfl dX4_move_24 ?_
    refine lv_iload_n hx hb dX4_move_27 rfl (lv_at hl 1 rfl) ?_
    refine lv_aload_n hx hb dX4_move_28 rfl (lv_at hl 2 rfl) ?_
    refine va_get (D := G.1) (ci := 4) (v := .ref mbq) (C := RX4) (T := TX4) (N := 18) hx hb hts in_X4_move_X4 hown hK.1 hP 0 rfl rfl 16 (by decide) (hts (.fieldLink RX4 32 "JarRiddleModel" "by" "[I") (by decide +kernel)) (fun _ h9 => h9) rfl dX4_move_29 ?_
    refine lv_iload_n hx hb dX4_move_32 rfl (lv_at hl 1 rfl) ?_
    obtain ⟨h_14, hs⟩ := hs
    refine va_iald hx hb hK.1 hP 8 0 rfl rfl h_14 dX4_move_33 ?_
    have h_15 := hs
    refine va_iast hx hb hK.1 hP hD hS 7 0 rfl rfl h_15 dX4_move_34 (fun H locs hP hD hS => ?_)
    have hP : va_P G.1 vwCl (w_X4 G mh0 mvq maq mlq mhq mfq mrq moq mbq msq th js mv ma ac po si ta ml mh gu wr mf mr re (upd mo (p1 - p1 / (3 : Int32) * (3 : Int32)).toNatClampNeg (mb (p1 - p1 / (3 : Int32) * (3 : Int32)).toNatClampNeg)) mb ms) H := hP
    have hD : va_D A (w_X4 G mh0 mvq maq mlq mhq mfq mrq moq mbq msq th js mv ma ac po si ta ml mh gu wr mf mr re (upd mo (p1 - p1 / (3 : Int32) * (3 : Int32)).toNatClampNeg (mb (p1 - p1 / (3 : Int32) * (3 : Int32)).toNatClampNeg)) mb ms) := hD
    refine lv_goto (tgt := 114) hx hb dX4_move_35 (by decide) ?_
    refine lv_iload_n hx hb dX4_move_114 rfl (lv_at hl 0 rfl) ?_
    have e9 : (f_X4_move mo mb p1) = (((mb (p1 - p1 / (3 : Int32) * (3 : Int32)).toNatClampNeg) - (mo (p1 - p1 / (3 : Int32) * (3 : Int32)).toNatClampNeg)), (upd mo (p1 - p1 / (3 : Int32) * (3 : Int32)).toNatClampNeg (mb (p1 - p1 / (3 : Int32) * (3 : Int32)).toNatClampNeg))) := (f_X4_move_eq mo mb p1).trans ((if_neg c_1).trans (rfl))
    rw [e9]
    dsimp only
    exact z_iret F hr hlocks hP hD hS () [0, 1, 2, 3, 4, 5, 6, 7, 8, 9] rfl rfl rfl dX4_move_115
def f_X4_isAct (js : Int32) (p1 : Int32) : Int32 := (if js ≤ (p1 - p1 / (3 : Int32) * (3 : Int32)) then (0 : Int32) else (if p1 < (6 : Int32) then (1 : Int32) else (if js ≤ ((p1 - (6 : Int32)) / (3 : Int32)) then (0 : Int32) else (if ((p1 - (6 : Int32)) / (3 : Int32)) = (p1 - p1 / (3 : Int32) * (3 : Int32)) then (0 : Int32) else (1 : Int32)))))
theorem f_X4_isAct_eq (js : Int32) (p1 : Int32) : f_X4_isAct js p1 = (if js ≤ (p1 - p1 / (3 : Int32) * (3 : Int32)) then (0 : Int32) else (if p1 < (6 : Int32) then (1 : Int32) else (if js ≤ ((p1 - (6 : Int32)) / (3 : Int32)) then (0 : Int32) else (if ((p1 - (6 : Int32)) / (3 : Int32)) = (p1 - p1 / (3 : Int32) * (3 : Int32)) then (0 : Int32) else (1 : Int32))))) := rfl
theorem b_X4_isAct (js : Int32) (p1 : Int32) : zb (f_X4_isAct js p1) := by
  unfold f_X4_isAct
  repeat' split
  all_goals first | exact Or.inl rfl | exact Or.inr rfl
abbrev rm_X4_isAct : Room := { frames := 0, cells := 0, slots := 0, locals := 0 }
theorem zd_X4_isAct : yX4_isAct.cls = RX4 ∧ yX4_isAct.cls ≠ "java/lang/invoke/MethodHandle" ∧ yX4_isAct.cls ≠ "java/lang/invoke/VarHandle" ∧ (parseMethodDescriptor yX4_isAct.desc).map (fun d => d.parameters.length) = some 1 := by decide +kernel
theorem in_X4_isAct_X4 : ∀ w ∈ u_ws RX4 TX4 18, w ∈ wsX4_isAct := by decide +kernel
set_option maxHeartbeats 4000000 in
set_option maxRecDepth 100000 in
/-- JarRiddleModel.isAct(I)Z -/
theorem c_X4_isAct (l : Launch) (G : zG) (mh0 mvq maq mlq mhq mfq mrq moq mbq msq : Nat) (th : Int32) (js : Int32) (mv : Nat → Int32) (ma : Nat → Int32) (ac : Int32) (po : Int32) (si : Int32) (ta : Int32) (ml : Nat → Int32) (mh : Nat → Int32) (gu : Int32) (wr : Int32) (mf : Nat → Int32) (mr : Nat → Int32) (re : Int32) (mo : Nat → Int32) (mb : Nat → Int32) (ms : Nat → Int32) (p1 : Int32) : zC l G yX4_isAct wsX4_isAct rm_X4_isAct 0 0 [.ref mh0, .int p1] (w_X4 G mh0 mvq maq mlq mhq mfq mrq moq mbq msq th js mv ma ac po si ta ml mh gu wr mf mr re mo mb ms) (some (.int (f_X4_isAct js p1))) (fun _ : Unit => (w_X4 G mh0 mvq maq mlq mhq mfq mrq moq mbq msq th js mv ma ac po si ta ml mh gu wr mf mr re mo mb ms)) := by
  refine z_of (cc := cX4_isAct) (maxL := 2) (ret := (some .boolean)) (own := RX4) (by decide) rfl rfl (Nat.le_of_ble_eq_true rfl) ?_
  intro p e s m args below meth c A H locs ls F hr hlocks hname hK hA hP hD hS hl
  obtain ⟨hx, hb, hml, hown, hts⟩ := id F
  have hl : lv_has ls 2 [(0, .ref mh0), (1, .int p1)] := hl
  refine lv_iload_n hx hb dX4_isAct_0 rfl (lv_at hl 1 rfl) ?_
  refine lv_iconst (v := (3 : Int32)) hx hb dX4_isAct_1 (by decide) ?_
  refine lv_irem hx hb dX4_isAct_2 (by decide) ?_
  refine lv_aload_n hx hb dX4_isAct_3 rfl (lv_at hl 0 rfl) ?_
  refine va_get (D := G.1) (ci := 4) (v := .int js) (C := RX4) (T := TX4) (N := 18) hx hb hts in_X4_isAct_X4 hown hK.1 hP 0 rfl rfl 1 (by decide) (hts (.fieldLink RX4 46 "JarRiddleModel" "jars" "I") (by decide +kernel)) (fun _ h9 => h9) rfl dX4_isAct_4 ?_
  refine lv_icmp_ge (tgt := 45) hx hb dX4_isAct_7 (by decide) (fun (c_1 : js ≤ (p1 - p1 / (3 : Int32) * (3 : Int32))) => ?_) (fun (c_1 : ¬ js ≤ (p1 - p1 / (3 : Int32) * (3 : Int32))) => ?_)
  · refine lv_iconst (v := (0 : Int32)) hx hb dX4_isAct_45 (by decide) ?_
    have e9 : (f_X4_isAct js p1) = (0 : Int32) := (f_X4_isAct_eq js p1).trans ((if_pos c_1).trans (rfl))
    rw [e9]
    exact z_zret F hr hlocks hP hD hS () [0, 1, 2, 3, 4, 5, 6, 7, 8, 9] rfl rfl rfl rfl dX4_isAct_46
  · refine lv_iload_n hx hb dX4_isAct_10 rfl (lv_at hl 1 rfl) ?_
    refine lv_bipush (v := (6 : Int32)) hx hb dX4_isAct_11 (by decide) ?_
    refine lv_icmp_lt (tgt := 41) hx hb dX4_isAct_13 (by decide) (fun (c_2 : p1 < (6 : Int32)) => ?_) (fun (c_2 : ¬ p1 < (6 : Int32)) => ?_)
    · refine lv_iconst (v := (1 : Int32)) hx hb dX4_isAct_41 (by decide) ?_
      refine lv_goto (tgt := 46) hx hb dX4_isAct_42 (by decide) ?_
      have e9 : (f_X4_isAct js p1) = (1 : Int32) := (f_X4_isAct_eq js p1).trans ((if_neg c_1).trans ((if_pos c_2).trans (rfl)))
      rw [e9]
      exact z_zret F hr hlocks hP hD hS () [0, 1, 2, 3, 4, 5, 6, 7, 8, 9] rfl rfl rfl rfl dX4_isAct_46
    · refine lv_iload_n hx hb dX4_isAct_16 rfl (lv_at hl 1 rfl) ?_
      refine lv_bipush (v := (6 : Int32)) hx hb dX4_isAct_17 (by decide) ?_
      refine lv_isub hx hb dX4_isAct_19 ?_
      refine lv_iconst (v := (3 : Int32)) hx hb dX4_isAct_20 (by decide) ?_
      refine lv_idiv hx hb dX4_isAct_21 (by decide) ?_
      refine lv_aload_n hx hb dX4_isAct_22 rfl (lv_at hl 0 rfl) ?_
      refine va_get (D := G.1) (ci := 4) (v := .int js) (C := RX4) (T := TX4) (N := 18) hx hb hts in_X4_isAct_X4 hown hK.1 hP 0 rfl rfl 1 (by decide) (hts (.fieldLink RX4 46 "JarRiddleModel" "jars" "I") (by decide +kernel)) (fun _ h9 => h9) rfl dX4_isAct_23 ?_
      refine lv_icmp_ge (tgt := 45) hx hb dX4_isAct_26 (by decide) (fun (c_3 : js ≤ ((p1 - (6 : Int32)) / (3 : Int32))) => ?_) (fun (c_3 : ¬ js ≤ ((p1 - (6 : Int32)) / (3 : Int32))) => ?_)
      · refine lv_iconst (v := (0 : Int32)) hx hb dX4_isAct_45 (by decide) ?_
        have e9 : (f_X4_isAct js p1) = (0 : Int32) := (f_X4_isAct_eq js p1).trans ((if_neg c_1).trans ((if_neg c_2).trans ((if_pos c_3).trans (rfl))))
        rw [e9]
        exact z_zret F hr hlocks hP hD hS () [0, 1, 2, 3, 4, 5, 6, 7, 8, 9] rfl rfl rfl rfl dX4_isAct_46
      · refine lv_iload_n hx hb dX4_isAct_29 rfl (lv_at hl 1 rfl) ?_
        refine lv_bipush (v := (6 : Int32)) hx hb dX4_isAct_30 (by decide) ?_
        refine lv_isub hx hb dX4_isAct_32 ?_
        refine lv_iconst (v := (3 : Int32)) hx hb dX4_isAct_33 (by decide) ?_
        refine lv_idiv hx hb dX4_isAct_34 (by decide) ?_
        refine lv_iload_n hx hb dX4_isAct_35 rfl (lv_at hl 1 rfl) ?_
        refine lv_iconst (v := (3 : Int32)) hx hb dX4_isAct_36 (by decide) ?_
        refine lv_irem hx hb dX4_isAct_37 (by decide) ?_
        refine lv_icmp_eq (tgt := 45) hx hb dX4_isAct_38 (by decide) (fun (c_4 : ((p1 - (6 : Int32)) / (3 : Int32)) = (p1 - p1 / (3 : Int32) * (3 : Int32))) => ?_) (fun (c_4 : ¬ ((p1 - (6 : Int32)) / (3 : Int32)) = (p1 - p1 / (3 : Int32) * (3 : Int32))) => ?_)
        · refine lv_iconst (v := (0 : Int32)) hx hb dX4_isAct_45 (by decide) ?_
          have e9 : (f_X4_isAct js p1) = (0 : Int32) := (f_X4_isAct_eq js p1).trans ((if_neg c_1).trans ((if_neg c_2).trans ((if_neg c_3).trans ((if_pos c_4).trans (rfl)))))
          rw [e9]
          exact z_zret F hr hlocks hP hD hS () [0, 1, 2, 3, 4, 5, 6, 7, 8, 9] rfl rfl rfl rfl dX4_isAct_46
        · refine lv_iconst (v := (1 : Int32)) hx hb dX4_isAct_41 (by decide) ?_
          refine lv_goto (tgt := 46) hx hb dX4_isAct_42 (by decide) ?_
          have e9 : (f_X4_isAct js p1) = (1 : Int32) := (f_X4_isAct_eq js p1).trans ((if_neg c_1).trans ((if_neg c_2).trans ((if_neg c_3).trans ((if_neg c_4).trans (rfl)))))
          rw [e9]
          exact z_zret F hr hlocks hP hD hS () [0, 1, 2, 3, 4, 5, 6, 7, 8, 9] rfl rfl rfl rfl dX4_isAct_46
def lf_X4_lookAtRow_2 : Nat → Nat → (Nat → Int32) → (Nat → Int32) → (Nat → Int32) → Int32 → (Nat → Int32) × (Nat → Int32)
  | 0, k, mh, mo, mb, x1 => (mo, mb)
  | n + 1, k, mh, mo, mb, x1 => (if (3 : Int32) ≤ (nI k) then (mo, mb) else (lf_X4_lookAtRow_2 n (k + 1) mh (upd mo (nI k).toNatClampNeg (mh (((3 : Int32) * x1) + (nI k)).toNatClampNeg)) (upd mb (nI k).toNatClampNeg (f_X4_figure x1 (nI k))) x1))
theorem lf_X4_lookAtRow_2_succ (n k : Nat) (mh : Nat → Int32) (mo : Nat → Int32) (mb : Nat → Int32) (x1 : Int32) : lf_X4_lookAtRow_2 (n + 1) k mh mo mb x1 = (if (3 : Int32) ≤ (nI k) then (mo, mb) else (lf_X4_lookAtRow_2 n (k + 1) mh (upd mo (nI k).toNatClampNeg (mh (((3 : Int32) * x1) + (nI k)).toNatClampNeg)) (upd mb (nI k).toNatClampNeg (f_X4_figure x1 (nI k))) x1)) := rfl
def f_X4_lookAtRow (mh : Nat → Int32) (mo : Nat → Int32) (mb : Nat → Int32) (p1 : Int32) : (Nat → Int32) × (Nat → Int32) := ((lf_X4_lookAtRow_2 4 0 mh mo mb p1).1, (lf_X4_lookAtRow_2 4 0 mh mo mb p1).2)
theorem f_X4_lookAtRow_eq (mh : Nat → Int32) (mo : Nat → Int32) (mb : Nat → Int32) (p1 : Int32) : f_X4_lookAtRow mh mo mb p1 = ((lf_X4_lookAtRow_2 4 0 mh mo mb p1).1, (lf_X4_lookAtRow_2 4 0 mh mo mb p1).2) := rfl
def sf_X4_lookAtRow_2 : Nat → Nat → Int32 → Prop
  | 0, k, x1 => True
  | n + 1, k, x1 => (((3 : Int32) ≤ (nI k) → True) ∧ (¬ (3 : Int32) ≤ (nI k) → vp_in (((3 : Int32) * x1) + (nI k)) 3000 ∧ (sf_X4_lookAtRow_2 n (k + 1) x1)))
theorem sf_X4_lookAtRow_2_succ (n k : Nat) (x1 : Int32) : sf_X4_lookAtRow_2 (n + 1) k x1 = ((((3 : Int32) ≤ (nI k) → True) ∧ (¬ (3 : Int32) ≤ (nI k) → vp_in (((3 : Int32) * x1) + (nI k)) 3000 ∧ (sf_X4_lookAtRow_2 n (k + 1) x1)))) := rfl
def s_X4_lookAtRow (p1 : Int32) : Prop := (sf_X4_lookAtRow_2 4 0 p1)
abbrev rm_X4_lookAtRow : Room := { frames := 1, cells := 0, slots := 0, locals := 21 }
theorem zd_X4_lookAtRow : yX4_lookAtRow.cls = RX4 ∧ yX4_lookAtRow.cls ≠ "java/lang/invoke/MethodHandle" ∧ yX4_lookAtRow.cls ≠ "java/lang/invoke/VarHandle" ∧ (parseMethodDescriptor yX4_lookAtRow.desc).map (fun d => d.parameters.length) = some 1 := by decide +kernel
theorem in_X4_lookAtRow_X4 : ∀ w ∈ u_ws RX4 TX4 18, w ∈ wsX4_lookAtRow := by decide +kernel
set_option maxHeartbeats 4000000 in
set_option maxRecDepth 100000 in
theorem l_X4_lookAtRow_2 {p : Program} {l : Launch} {e : Env} {s : State} {m : MethodId} {args : Array Value} {below : List Frame} {meth : Method} {c : Code} {A : Nat → Prop} {Q : State → Prop} {G : zG} (F : CallFix p m c cX4_lookAtRow 3 s args wsX4_lookAtRow RX4) (hr : meth.sig.returnType = none) (hlocks : meth.locks = false) (hK : zK G s) (hA : ∀ q : Nat, s.heap.size ≤ q → A q) (mh0 mvq maq mlq mhq mfq mrq moq mbq msq : Nat) :
    ∀ (n k : Nat) (th : Int32) (js : Int32) (mv : Nat → Int32) (ma : Nat → Int32) (ac : Int32) (po : Int32) (si : Int32) (ta : Int32) (ml : Nat → Int32) (mh : Nat → Int32) (gu : Int32) (wr : Int32) (mf : Nat → Int32) (mr : Nat → Int32) (re : Int32) (mo : Nat → Int32) (mb : Nat → Int32) (ms : Nat → Int32) (x1 : Int32), k + n = 3 + 1 → k ≤ 3 → (sf_X4_lookAtRow_2 n k x1) → ∀ (H : Heap) (locs : List Loc) (ls : Array Slot), va_P G.1 vwCl (w_X4 G mh0 mvq maq mlq mhq mfq mrq moq mbq msq th js mv ma ac po si ta ml mh gu wr mf mr re mo mb ms) H → va_D A (w_X4 G mh0 mvq maq mlq mhq mfq mrq moq mbq msq th js mv ma ac po si ta ml mh gu wr mf mr re mo mb ms) → va_S A s.heap H locs → lv_has ls 3 [(0, .ref mh0), (1, .int x1), (2, .int (nI k))] → (∀ (H : Heap) (locs : List Loc) (ls : Array Slot), va_P G.1 vwCl (w_X4 G mh0 mvq maq mlq mhq mfq mrq moq mbq msq th js mv ma ac po si ta ml mh gu wr mf mr re ((lf_X4_lookAtRow_2 n k mh mo mb x1).1) ((lf_X4_lookAtRow_2 n k mh mo mb x1).2) ms) H → va_D A (w_X4 G mh0 mvq maq mlq mhq mfq mrq moq mbq msq th js mv ma ac po si ta ml mh gu wr mf mr re ((lf_X4_lookAtRow_2 n k mh mo mb x1).1) ((lf_X4_lookAtRow_2 n k mh mo mb x1).2) ms) → va_S A s.heap H locs → lv_has ls 3 [] → W p l e rm_X4_lookAtRow s m args below meth c H locs 0 0 Q (F0 m 40 ls [])) → W p l e rm_X4_lookAtRow s m args below meth c H locs 0 0 Q (F0 m 2 ls []) := by
  obtain ⟨hx, hb, hml, hown, hts⟩ := id F
  intro n
  induction n with
  | zero => intro k th js mv ma ac po si ta ml mh gu wr mf mr re mo mb ms x1 h1 h2; omega
  | succ n IH9 =>
    intro k th js mv ma ac po si ta ml mh gu wr mf mr re mo mb ms x1 hkn hkN hs H locs ls hP hD hS hl kk
    have hs : (((3 : Int32) ≤ (nI k) → True) ∧ (¬ (3 : Int32) ≤ (nI k) → vp_in (((3 : Int32) * x1) + (nI k)) 3000 ∧ (sf_X4_lookAtRow_2 n (k + 1) x1))) := hs
    refine lv_iload_n hx hb dX4_lookAtRow_2 rfl (lv_at hl 2 rfl) ?_
    refine lv_iconst (v := (3 : Int32)) hx hb dX4_lookAtRow_3 (by decide) ?_
    refine lv_icmp_ge (tgt := 40) hx hb dX4_lookAtRow_4 (by decide) (fun (c_1 : (3 : Int32) ≤ (nI k)) => ?_) (fun (c_1 : ¬ (3 : Int32) ≤ (nI k)) => ?_)
    · have e9 : (lf_X4_lookAtRow_2 (n + 1) k mh mo mb x1) = (mo, mb) := (lf_X4_lookAtRow_2_succ n k mh mo mb x1).trans ((if_pos c_1).trans (rfl))
      rw [e9] at kk
      dsimp only at kk
      exact kk H locs ls hP hD hS (lv_sub hl [] rfl)
    · have hs := hs.2 c_1
      refine lv_aload_n hx hb dX4_lookAtRow_7 rfl (lv_at hl 0 rfl) ?_
      refine va_get (D := G.1) (ci := 4) (v := .ref mbq) (C := RX4) (T := TX4) (N := 18) hx hb hts in_X4_lookAtRow_X4 hown hK.1 hP 0 rfl rfl 16 (by decide) (hts (.fieldLink RX4 32 "JarRiddleModel" "by" "[I") (by decide +kernel)) (fun _ h9 => h9) rfl dX4_lookAtRow_8 ?_
      refine lv_iload_n hx hb dX4_lookAtRow_11 rfl (lv_at hl 2 rfl) ?_
      refine lv_iload_n hx hb dX4_lookAtRow_12 rfl (lv_at hl 1 rfl) ?_
      refine lv_iload_n hx hb dX4_lookAtRow_13 rfl (lv_at hl 2 rfl) ?_
      refine z_callSX (As := [.int x1, .int (nI k)]) (rest := [.int (nI k), .ref mbq]) (wr := ([(mh0, .inr (4, [.int th, .int js, .ref mvq, .ref maq, .int ac, .int po, .int si, .int ta, .ref mlq, .ref mhq, .int gu, .int wr, .ref mfq, .ref mrq, .int re, .ref moq, .ref mbq, .ref msq])), (mvq, .inl (G.2.1, 3, .inl mv)), (maq, .inl (G.2.1, 3, .inl ma)), (mlq, .inl (G.2.2.1, 1000, .inl ml)), (mhq, .inl (G.2.1, 3000, .inl mh)), (mfq, .inl (G.2.1, 1000, .inl mf)), (mrq, .inl (G.2.1, 1000, .inl mr)), (moq, .inl (G.2.1, 3, .inl mo)), (mbq, .inl (G.2.1, 3, .inl mb)), (msq, .inl (G.2.1, 64, .inl ms))] : va_W)) (w1 := fun _ : Unit => ([] : va_W)) (wj := fun _ : Unit => (w_X4 G mh0 mvq maq mlq mhq mfq mrq moq mbq msq th js mv ma ac po si ta ml mh gu wr mf mr re mo mb ms)) F (c_X4_figure l G x1 (nI k)) gX4_lookAtRow_X4_figure rfl rfl rfl zd_X4_figure ⟨Nat.le_of_ble_eq_true rfl, Nat.le_of_ble_eq_true rfl⟩ rfl rfl (Nat.le_of_ble_eq_true rfl) dX4_lookAtRow_14 ⟨Nat.le_of_ble_eq_true rfl, Nat.le_of_ble_eq_true rfl⟩ hK hP hD hS hA hl.1 [] [0, 1, 2, 3, 4, 5, 6, 7, 8, 9] [0, 1, 2, 3, 4, 5, 6, 7, 8, 9] rfl rfl rfl rfl (by decide) rfl (fun _ => rfl) (fun _ H locs hP hD hS => ?_)
      have hP : va_P G.1 vwCl (w_X4 G mh0 mvq maq mlq mhq mfq mrq moq mbq msq th js mv ma ac po si ta ml mh gu wr mf mr re mo mb ms) H := hP
      have hD : va_D A (w_X4 G mh0 mvq maq mlq mhq mfq mrq moq mbq msq th js mv ma ac po si ta ml mh gu wr mf mr re mo mb ms) := hD
      refine va_iast hx hb hK.1 hP hD hS 8 0 rfl rfl (vp_in_nI (Nat.lt_of_lt_of_le (zk_lt (N := 3) (by omega) rfl c_1) (by decide)) (by decide) : vp_in (nI k) 3) dX4_lookAtRow_17 (fun H locs hP hD hS => ?_)
      have hP : va_P G.1 vwCl (w_X4 G mh0 mvq maq mlq mhq mfq mrq moq mbq msq th js mv ma ac po si ta ml mh gu wr mf mr re mo (upd mb (nI k).toNatClampNeg (f_X4_figure x1 (nI k))) ms) H := hP
      have hD : va_D A (w_X4 G mh0 mvq maq mlq mhq mfq mrq moq mbq msq th js mv ma ac po si ta ml mh gu wr mf mr re mo (upd mb (nI k).toNatClampNeg (f_X4_figure x1 (nI k))) ms) := hD
      refine lv_aload_n hx hb dX4_lookAtRow_18 rfl (lv_at hl 0 rfl) ?_
      refine va_get (D := G.1) (ci := 4) (v := .ref moq) (C := RX4) (T := TX4) (N := 18) hx hb hts in_X4_lookAtRow_X4 hown hK.1 hP 0 rfl rfl 15 (by decide) (hts (.fieldLink RX4 29 "JarRiddleModel" "one" "[I") (by decide +kernel)) (fun _ h9 => h9) rfl dX4_lookAtRow_19 ?_
      refine lv_iload_n hx hb dX4_lookAtRow_22 rfl (lv_at hl 2 rfl) ?_
      refine lv_aload_n hx hb dX4_lookAtRow_23 rfl (lv_at hl 0 rfl) ?_
      refine va_get (D := G.1) (ci := 4) (v := .ref mhq) (C := RX4) (T := TX4) (N := 18) hx hb hts in_X4_lookAtRow_X4 hown hK.1 hP 0 rfl rfl 9 (by decide) (hts (.fieldLink RX4 20 "JarRiddleModel" "held" "[I") (by decide +kernel)) (fun _ h9 => h9) rfl dX4_lookAtRow_24 ?_
      refine lv_iconst (v := (3 : Int32)) hx hb dX4_lookAtRow_27 (by decide) ?_
      refine lv_iload_n hx hb dX4_lookAtRow_28 rfl (lv_at hl 1 rfl) ?_
      refine lv_imul hx hb dX4_lookAtRow_29 ?_
      refine lv_iload_n hx hb dX4_lookAtRow_30 rfl (lv_at hl 2 rfl) ?_
      refine lv_iadd hx hb dX4_lookAtRow_31 ?_
      obtain ⟨h_2, hs⟩ := hs
      refine va_iald hx hb hK.1 hP 4 0 rfl rfl h_2 dX4_lookAtRow_32 ?_
      refine va_iast hx hb hK.1 hP hD hS 7 0 rfl rfl (vp_in_nI (Nat.lt_of_lt_of_le (zk_lt (N := 3) (by omega) rfl c_1) (by decide)) (by decide) : vp_in (nI k) 3) dX4_lookAtRow_33 (fun H locs hP hD hS => ?_)
      have hP : va_P G.1 vwCl (w_X4 G mh0 mvq maq mlq mhq mfq mrq moq mbq msq th js mv ma ac po si ta ml mh gu wr mf mr re (upd mo (nI k).toNatClampNeg (mh (((3 : Int32) * x1) + (nI k)).toNatClampNeg)) (upd mb (nI k).toNatClampNeg (f_X4_figure x1 (nI k))) ms) H := hP
      have hD : va_D A (w_X4 G mh0 mvq maq mlq mhq mfq mrq moq mbq msq th js mv ma ac po si ta ml mh gu wr mf mr re (upd mo (nI k).toNatClampNeg (mh (((3 : Int32) * x1) + (nI k)).toNatClampNeg)) (upd mb (nI k).toNatClampNeg (f_X4_figure x1 (nI k))) ms) := hD
      refine lv_iinc (v := (nI (k + 1))) (lv' := [(2, .int (nI (k + 1))), (0, .ref mh0), (1, .int x1)]) hx hb dX4_lookAtRow_34 hl (k := 2) rfl (nI_1 k) (by decide) rfl (fun ls hl => ?_)
      refine lv_goto (tgt := 2) hx hb dX4_lookAtRow_37 (by decide) ?_
      have e9 : (lf_X4_lookAtRow_2 (n + 1) k mh mo mb x1) = (lf_X4_lookAtRow_2 n (k + 1) mh (upd mo (nI k).toNatClampNeg (mh (((3 : Int32) * x1) + (nI k)).toNatClampNeg)) (upd mb (nI k).toNatClampNeg (f_X4_figure x1 (nI k))) x1) := (lf_X4_lookAtRow_2_succ n k mh mo mb x1).trans ((if_neg c_1).trans (rfl))
      rw [e9] at kk
      have h9 := zk_lt (N := 3) (by omega) rfl c_1
      exact IH9 (k + 1) th js mv ma ac po si ta ml mh gu wr mf mr re (upd mo (nI k).toNatClampNeg (mh (((3 : Int32) * x1) + (nI k)).toNatClampNeg)) (upd mb (nI k).toNatClampNeg (f_X4_figure x1 (nI k))) ms x1 (by omega) (by omega) hs H locs ls hP hD hS (lv_sub hl [1, 2, 0] rfl) kk
set_option maxHeartbeats 4000000 in
set_option maxRecDepth 100000 in
/-- JarRiddleModel.lookAtRow(I)V -/
theorem c_X4_lookAtRow (l : Launch) (G : zG) (mh0 mvq maq mlq mhq mfq mrq moq mbq msq : Nat) (th : Int32) (js : Int32) (mv : Nat → Int32) (ma : Nat → Int32) (ac : Int32) (po : Int32) (si : Int32) (ta : Int32) (ml : Nat → Int32) (mh : Nat → Int32) (gu : Int32) (wr : Int32) (mf : Nat → Int32) (mr : Nat → Int32) (re : Int32) (mo : Nat → Int32) (mb : Nat → Int32) (ms : Nat → Int32) (p1 : Int32) (hs : s_X4_lookAtRow p1) : zC l G yX4_lookAtRow wsX4_lookAtRow rm_X4_lookAtRow 0 0 [.ref mh0, .int p1] (w_X4 G mh0 mvq maq mlq mhq mfq mrq moq mbq msq th js mv ma ac po si ta ml mh gu wr mf mr re mo mb ms) none (fun _ : Unit => (w_X4 G mh0 mvq maq mlq mhq mfq mrq moq mbq msq th js mv ma ac po si ta ml mh gu wr mf mr re ((f_X4_lookAtRow mh mo mb p1).1) ((f_X4_lookAtRow mh mo mb p1).2) ms)) := by
  refine z_of (cc := cX4_lookAtRow) (maxL := 3) (ret := none) (own := RX4) (by decide) rfl rfl (Nat.le_of_ble_eq_true rfl) ?_
  intro p e s m args below meth c A H locs ls F hr hlocks hname hK hA hP hD hS hl
  obtain ⟨hx, hb, hml, hown, hts⟩ := id F
  have hl : lv_has ls 3 [(0, .ref mh0), (1, .int p1)] := hl
  have hs : (sf_X4_lookAtRow_2 4 0 p1) := hs
  refine lv_iconst (v := (0 : Int32)) hx hb dX4_lookAtRow_0 (by decide) ?_
  refine lv_istore_n (lv' := [(2, .int (0 : Int32)), (0, .ref mh0), (1, .int p1)]) hx hb dX4_lookAtRow_1 rfl hl (by decide) rfl (fun ls hl => ?_)
  have h_3 := hs
  refine l_X4_lookAtRow_2 F hr hlocks hK hA mh0 mvq maq mlq mhq mfq mrq moq mbq msq 4 0 th js mv ma ac po si ta ml mh gu wr mf mr re mo mb ms p1 (by omega) (by omega) h_3 H locs ls hP hD hS (lv_sub hl [1, 2, 0] rfl) ?_
  intro H locs ls hP hD hS hl
  have hP : va_P G.1 vwCl (w_X4 G mh0 mvq maq mlq mhq mfq mrq moq mbq msq th js mv ma ac po si ta ml mh gu wr mf mr re (lf_X4_lookAtRow_2 4 0 mh mo mb p1).1 (lf_X4_lookAtRow_2 4 0 mh mo mb p1).2 ms) H := hP
  have hD : va_D A (w_X4 G mh0 mvq maq mlq mhq mfq mrq moq mbq msq th js mv ma ac po si ta ml mh gu wr mf mr re (lf_X4_lookAtRow_2 4 0 mh mo mb p1).1 (lf_X4_lookAtRow_2 4 0 mh mo mb p1).2 ms) := hD
  have hl : lv_has ls 3 [] := hl
  have e9 : (f_X4_lookAtRow mh mo mb p1) = ((lf_X4_lookAtRow_2 4 0 mh mo mb p1).1, (lf_X4_lookAtRow_2 4 0 mh mo mb p1).2) := (f_X4_lookAtRow_eq mh mo mb p1).trans (rfl)
  rw [e9]
  dsimp only
  exact z_vret F hr hlocks hP hD hS () [0, 1, 2, 3, 4, 5, 6, 7, 8, 9] rfl rfl rfl dX4_lookAtRow_40
def lf_X4_lookAtState_2 : Nat → Nat → (Nat → Int32) → (Nat → Int32) → (Nat → Int32) → Int32 → (Nat → Int32) × (Nat → Int32)
  | 0, k, mv, mo, mb, x1 => (mo, mb)
  | n + 1, k, mv, mo, mb, x1 => (if (3 : Int32) ≤ (nI k) then (mo, mb) else (lf_X4_lookAtState_2 n (k + 1) mv (upd mo (nI k).toNatClampNeg (f_X4_figure x1 (nI k))) (upd mb (nI k).toNatClampNeg (mv (nI k).toNatClampNeg)) x1))
theorem lf_X4_lookAtState_2_succ (n k : Nat) (mv : Nat → Int32) (mo : Nat → Int32) (mb : Nat → Int32) (x1 : Int32) : lf_X4_lookAtState_2 (n + 1) k mv mo mb x1 = (if (3 : Int32) ≤ (nI k) then (mo, mb) else (lf_X4_lookAtState_2 n (k + 1) mv (upd mo (nI k).toNatClampNeg (f_X4_figure x1 (nI k))) (upd mb (nI k).toNatClampNeg (mv (nI k).toNatClampNeg)) x1)) := rfl
def f_X4_lookAtState (mv : Nat → Int32) (mo : Nat → Int32) (mb : Nat → Int32) (p1 : Int32) : (Nat → Int32) × (Nat → Int32) := ((lf_X4_lookAtState_2 4 0 mv mo mb p1).1, (lf_X4_lookAtState_2 4 0 mv mo mb p1).2)
theorem f_X4_lookAtState_eq (mv : Nat → Int32) (mo : Nat → Int32) (mb : Nat → Int32) (p1 : Int32) : f_X4_lookAtState mv mo mb p1 = ((lf_X4_lookAtState_2 4 0 mv mo mb p1).1, (lf_X4_lookAtState_2 4 0 mv mo mb p1).2) := rfl
abbrev rm_X4_lookAtState : Room := { frames := 1, cells := 0, slots := 0, locals := 21 }
theorem zd_X4_lookAtState : yX4_lookAtState.cls = RX4 ∧ yX4_lookAtState.cls ≠ "java/lang/invoke/MethodHandle" ∧ yX4_lookAtState.cls ≠ "java/lang/invoke/VarHandle" ∧ (parseMethodDescriptor yX4_lookAtState.desc).map (fun d => d.parameters.length) = some 1 := by decide +kernel
theorem in_X4_lookAtState_X4 : ∀ w ∈ u_ws RX4 TX4 18, w ∈ wsX4_lookAtState := by decide +kernel
set_option maxHeartbeats 4000000 in
set_option maxRecDepth 100000 in
theorem l_X4_lookAtState_2 {p : Program} {l : Launch} {e : Env} {s : State} {m : MethodId} {args : Array Value} {below : List Frame} {meth : Method} {c : Code} {A : Nat → Prop} {Q : State → Prop} {G : zG} (F : CallFix p m c cX4_lookAtState 3 s args wsX4_lookAtState RX4) (hr : meth.sig.returnType = none) (hlocks : meth.locks = false) (hK : zK G s) (hA : ∀ q : Nat, s.heap.size ≤ q → A q) (mh0 mvq maq mlq mhq mfq mrq moq mbq msq : Nat) :
    ∀ (n k : Nat) (th : Int32) (js : Int32) (mv : Nat → Int32) (ma : Nat → Int32) (ac : Int32) (po : Int32) (si : Int32) (ta : Int32) (ml : Nat → Int32) (mh : Nat → Int32) (gu : Int32) (wr : Int32) (mf : Nat → Int32) (mr : Nat → Int32) (re : Int32) (mo : Nat → Int32) (mb : Nat → Int32) (ms : Nat → Int32) (x1 : Int32), k + n = 3 + 1 → k ≤ 3 → ∀ (H : Heap) (locs : List Loc) (ls : Array Slot), va_P G.1 vwCl (w_X4 G mh0 mvq maq mlq mhq mfq mrq moq mbq msq th js mv ma ac po si ta ml mh gu wr mf mr re mo mb ms) H → va_D A (w_X4 G mh0 mvq maq mlq mhq mfq mrq moq mbq msq th js mv ma ac po si ta ml mh gu wr mf mr re mo mb ms) → va_S A s.heap H locs → lv_has ls 3 [(0, .ref mh0), (1, .int x1), (2, .int (nI k))] → (∀ (H : Heap) (locs : List Loc) (ls : Array Slot), va_P G.1 vwCl (w_X4 G mh0 mvq maq mlq mhq mfq mrq moq mbq msq th js mv ma ac po si ta ml mh gu wr mf mr re ((lf_X4_lookAtState_2 n k mv mo mb x1).1) ((lf_X4_lookAtState_2 n k mv mo mb x1).2) ms) H → va_D A (w_X4 G mh0 mvq maq mlq mhq mfq mrq moq mbq msq th js mv ma ac po si ta ml mh gu wr mf mr re ((lf_X4_lookAtState_2 n k mv mo mb x1).1) ((lf_X4_lookAtState_2 n k mv mo mb x1).2) ms) → va_S A s.heap H locs → lv_has ls 3 [] → W p l e rm_X4_lookAtState s m args below meth c H locs 0 0 Q (F0 m 36 ls [])) → W p l e rm_X4_lookAtState s m args below meth c H locs 0 0 Q (F0 m 2 ls []) := by
  obtain ⟨hx, hb, hml, hown, hts⟩ := id F
  intro n
  induction n with
  | zero => intro k th js mv ma ac po si ta ml mh gu wr mf mr re mo mb ms x1 h1 h2; omega
  | succ n IH9 =>
    intro k th js mv ma ac po si ta ml mh gu wr mf mr re mo mb ms x1 hkn hkN H locs ls hP hD hS hl kk
    refine lv_iload_n hx hb dX4_lookAtState_2 rfl (lv_at hl 2 rfl) ?_
    refine lv_iconst (v := (3 : Int32)) hx hb dX4_lookAtState_3 (by decide) ?_
    refine lv_icmp_ge (tgt := 36) hx hb dX4_lookAtState_4 (by decide) (fun (c_1 : (3 : Int32) ≤ (nI k)) => ?_) (fun (c_1 : ¬ (3 : Int32) ≤ (nI k)) => ?_)
    · have e9 : (lf_X4_lookAtState_2 (n + 1) k mv mo mb x1) = (mo, mb) := (lf_X4_lookAtState_2_succ n k mv mo mb x1).trans ((if_pos c_1).trans (rfl))
      rw [e9] at kk
      dsimp only at kk
      exact kk H locs ls hP hD hS (lv_sub hl [] rfl)
    · refine lv_aload_n hx hb dX4_lookAtState_7 rfl (lv_at hl 0 rfl) ?_
      refine va_get (D := G.1) (ci := 4) (v := .ref mbq) (C := RX4) (T := TX4) (N := 18) hx hb hts in_X4_lookAtState_X4 hown hK.1 hP 0 rfl rfl 16 (by decide) (hts (.fieldLink RX4 32 "JarRiddleModel" "by" "[I") (by decide +kernel)) (fun _ h9 => h9) rfl dX4_lookAtState_8 ?_
      refine lv_iload_n hx hb dX4_lookAtState_11 rfl (lv_at hl 2 rfl) ?_
      refine lv_aload_n hx hb dX4_lookAtState_12 rfl (lv_at hl 0 rfl) ?_
      refine va_get (D := G.1) (ci := 4) (v := .ref mvq) (C := RX4) (T := TX4) (N := 18) hx hb hts in_X4_lookAtState_X4 hown hK.1 hP 0 rfl rfl 2 (by decide) (hts (.fieldLink RX4 9 "JarRiddleModel" "volume" "[I") (by decide +kernel)) (fun _ h9 => h9) rfl dX4_lookAtState_13 ?_
      refine lv_iload_n hx hb dX4_lookAtState_16 rfl (lv_at hl 2 rfl) ?_
      refine va_iald hx hb hK.1 hP 1 0 rfl rfl (vp_in_nI (Nat.lt_of_lt_of_le (zk_lt (N := 3) (by omega) rfl c_1) (by decide)) (by decide) : vp_in (nI k) 3) dX4_lookAtState_17 ?_
      refine va_iast hx hb hK.1 hP hD hS 8 0 rfl rfl (vp_in_nI (Nat.lt_of_lt_of_le (zk_lt (N := 3) (by omega) rfl c_1) (by decide)) (by decide) : vp_in (nI k) 3) dX4_lookAtState_18 (fun H locs hP hD hS => ?_)
      have hP : va_P G.1 vwCl (w_X4 G mh0 mvq maq mlq mhq mfq mrq moq mbq msq th js mv ma ac po si ta ml mh gu wr mf mr re mo (upd mb (nI k).toNatClampNeg (mv (nI k).toNatClampNeg)) ms) H := hP
      have hD : va_D A (w_X4 G mh0 mvq maq mlq mhq mfq mrq moq mbq msq th js mv ma ac po si ta ml mh gu wr mf mr re mo (upd mb (nI k).toNatClampNeg (mv (nI k).toNatClampNeg)) ms) := hD
      refine lv_aload_n hx hb dX4_lookAtState_19 rfl (lv_at hl 0 rfl) ?_
      refine va_get (D := G.1) (ci := 4) (v := .ref moq) (C := RX4) (T := TX4) (N := 18) hx hb hts in_X4_lookAtState_X4 hown hK.1 hP 0 rfl rfl 15 (by decide) (hts (.fieldLink RX4 29 "JarRiddleModel" "one" "[I") (by decide +kernel)) (fun _ h9 => h9) rfl dX4_lookAtState_20 ?_
      refine lv_iload_n hx hb dX4_lookAtState_23 rfl (lv_at hl 2 rfl) ?_
      refine lv_iload_n hx hb dX4_lookAtState_24 rfl (lv_at hl 1 rfl) ?_
      refine lv_iload_n hx hb dX4_lookAtState_25 rfl (lv_at hl 2 rfl) ?_
      refine z_callSX (As := [.int x1, .int (nI k)]) (rest := [.int (nI k), .ref moq]) (wr := ([(mh0, .inr (4, [.int th, .int js, .ref mvq, .ref maq, .int ac, .int po, .int si, .int ta, .ref mlq, .ref mhq, .int gu, .int wr, .ref mfq, .ref mrq, .int re, .ref moq, .ref mbq, .ref msq])), (mvq, .inl (G.2.1, 3, .inl mv)), (maq, .inl (G.2.1, 3, .inl ma)), (mlq, .inl (G.2.2.1, 1000, .inl ml)), (mhq, .inl (G.2.1, 3000, .inl mh)), (mfq, .inl (G.2.1, 1000, .inl mf)), (mrq, .inl (G.2.1, 1000, .inl mr)), (moq, .inl (G.2.1, 3, .inl mo)), (mbq, .inl (G.2.1, 3, .inl (upd mb (nI k).toNatClampNeg (mv (nI k).toNatClampNeg)))), (msq, .inl (G.2.1, 64, .inl ms))] : va_W)) (w1 := fun _ : Unit => ([] : va_W)) (wj := fun _ : Unit => (w_X4 G mh0 mvq maq mlq mhq mfq mrq moq mbq msq th js mv ma ac po si ta ml mh gu wr mf mr re mo (upd mb (nI k).toNatClampNeg (mv (nI k).toNatClampNeg)) ms)) F (c_X4_figure l G x1 (nI k)) gX4_lookAtState_X4_figure rfl rfl rfl zd_X4_figure ⟨Nat.le_of_ble_eq_true rfl, Nat.le_of_ble_eq_true rfl⟩ rfl rfl (Nat.le_of_ble_eq_true rfl) dX4_lookAtState_26 ⟨Nat.le_of_ble_eq_true rfl, Nat.le_of_ble_eq_true rfl⟩ hK hP hD hS hA hl.1 [] [0, 1, 2, 3, 4, 5, 6, 7, 8, 9] [0, 1, 2, 3, 4, 5, 6, 7, 8, 9] rfl rfl rfl rfl (by decide) rfl (fun _ => rfl) (fun _ H locs hP hD hS => ?_)
      have hP : va_P G.1 vwCl (w_X4 G mh0 mvq maq mlq mhq mfq mrq moq mbq msq th js mv ma ac po si ta ml mh gu wr mf mr re mo (upd mb (nI k).toNatClampNeg (mv (nI k).toNatClampNeg)) ms) H := hP
      have hD : va_D A (w_X4 G mh0 mvq maq mlq mhq mfq mrq moq mbq msq th js mv ma ac po si ta ml mh gu wr mf mr re mo (upd mb (nI k).toNatClampNeg (mv (nI k).toNatClampNeg)) ms) := hD
      refine va_iast hx hb hK.1 hP hD hS 7 0 rfl rfl (vp_in_nI (Nat.lt_of_lt_of_le (zk_lt (N := 3) (by omega) rfl c_1) (by decide)) (by decide) : vp_in (nI k) 3) dX4_lookAtState_29 (fun H locs hP hD hS => ?_)
      have hP : va_P G.1 vwCl (w_X4 G mh0 mvq maq mlq mhq mfq mrq moq mbq msq th js mv ma ac po si ta ml mh gu wr mf mr re (upd mo (nI k).toNatClampNeg (f_X4_figure x1 (nI k))) (upd mb (nI k).toNatClampNeg (mv (nI k).toNatClampNeg)) ms) H := hP
      have hD : va_D A (w_X4 G mh0 mvq maq mlq mhq mfq mrq moq mbq msq th js mv ma ac po si ta ml mh gu wr mf mr re (upd mo (nI k).toNatClampNeg (f_X4_figure x1 (nI k))) (upd mb (nI k).toNatClampNeg (mv (nI k).toNatClampNeg)) ms) := hD
      refine lv_iinc (v := (nI (k + 1))) (lv' := [(2, .int (nI (k + 1))), (0, .ref mh0), (1, .int x1)]) hx hb dX4_lookAtState_30 hl (k := 2) rfl (nI_1 k) (by decide) rfl (fun ls hl => ?_)
      refine lv_goto (tgt := 2) hx hb dX4_lookAtState_33 (by decide) ?_
      have e9 : (lf_X4_lookAtState_2 (n + 1) k mv mo mb x1) = (lf_X4_lookAtState_2 n (k + 1) mv (upd mo (nI k).toNatClampNeg (f_X4_figure x1 (nI k))) (upd mb (nI k).toNatClampNeg (mv (nI k).toNatClampNeg)) x1) := (lf_X4_lookAtState_2_succ n k mv mo mb x1).trans ((if_neg c_1).trans (rfl))
      rw [e9] at kk
      have h9 := zk_lt (N := 3) (by omega) rfl c_1
      exact IH9 (k + 1) th js mv ma ac po si ta ml mh gu wr mf mr re (upd mo (nI k).toNatClampNeg (f_X4_figure x1 (nI k))) (upd mb (nI k).toNatClampNeg (mv (nI k).toNatClampNeg)) ms x1 (by omega) (by omega) H locs ls hP hD hS (lv_sub hl [1, 2, 0] rfl) kk
set_option maxHeartbeats 4000000 in
set_option maxRecDepth 100000 in
/-- JarRiddleModel.lookAtState(I)V -/
theorem c_X4_lookAtState (l : Launch) (G : zG) (mh0 mvq maq mlq mhq mfq mrq moq mbq msq : Nat) (th : Int32) (js : Int32) (mv : Nat → Int32) (ma : Nat → Int32) (ac : Int32) (po : Int32) (si : Int32) (ta : Int32) (ml : Nat → Int32) (mh : Nat → Int32) (gu : Int32) (wr : Int32) (mf : Nat → Int32) (mr : Nat → Int32) (re : Int32) (mo : Nat → Int32) (mb : Nat → Int32) (ms : Nat → Int32) (p1 : Int32) : zC l G yX4_lookAtState wsX4_lookAtState rm_X4_lookAtState 0 0 [.ref mh0, .int p1] (w_X4 G mh0 mvq maq mlq mhq mfq mrq moq mbq msq th js mv ma ac po si ta ml mh gu wr mf mr re mo mb ms) none (fun _ : Unit => (w_X4 G mh0 mvq maq mlq mhq mfq mrq moq mbq msq th js mv ma ac po si ta ml mh gu wr mf mr re ((f_X4_lookAtState mv mo mb p1).1) ((f_X4_lookAtState mv mo mb p1).2) ms)) := by
  refine z_of (cc := cX4_lookAtState) (maxL := 3) (ret := none) (own := RX4) (by decide) rfl rfl (Nat.le_of_ble_eq_true rfl) ?_
  intro p e s m args below meth c A H locs ls F hr hlocks hname hK hA hP hD hS hl
  obtain ⟨hx, hb, hml, hown, hts⟩ := id F
  have hl : lv_has ls 3 [(0, .ref mh0), (1, .int p1)] := hl
  refine lv_iconst (v := (0 : Int32)) hx hb dX4_lookAtState_0 (by decide) ?_
  refine lv_istore_n (lv' := [(2, .int (0 : Int32)), (0, .ref mh0), (1, .int p1)]) hx hb dX4_lookAtState_1 rfl hl (by decide) rfl (fun ls hl => ?_)
  refine l_X4_lookAtState_2 F hr hlocks hK hA mh0 mvq maq mlq mhq mfq mrq moq mbq msq 4 0 th js mv ma ac po si ta ml mh gu wr mf mr re mo mb ms p1 (by omega) (by omega) H locs ls hP hD hS (lv_sub hl [1, 2, 0] rfl) ?_
  intro H locs ls hP hD hS hl
  have hP : va_P G.1 vwCl (w_X4 G mh0 mvq maq mlq mhq mfq mrq moq mbq msq th js mv ma ac po si ta ml mh gu wr mf mr re (lf_X4_lookAtState_2 4 0 mv mo mb p1).1 (lf_X4_lookAtState_2 4 0 mv mo mb p1).2 ms) H := hP
  have hD : va_D A (w_X4 G mh0 mvq maq mlq mhq mfq mrq moq mbq msq th js mv ma ac po si ta ml mh gu wr mf mr re (lf_X4_lookAtState_2 4 0 mv mo mb p1).1 (lf_X4_lookAtState_2 4 0 mv mo mb p1).2 ms) := hD
  have hl : lv_has ls 3 [] := hl
  have e9 : (f_X4_lookAtState mv mo mb p1) = ((lf_X4_lookAtState_2 4 0 mv mo mb p1).1, (lf_X4_lookAtState_2 4 0 mv mo mb p1).2) := (f_X4_lookAtState_eq mv mo mb p1).trans (rfl)
  rw [e9]
  dsimp only
  exact z_vret F hr hlocks hP hD hS () [0, 1, 2, 3, 4, 5, 6, 7, 8, 9] rfl rfl rfl dX4_lookAtState_36
def lf_X4_sight_4 : Nat → Nat → Int32 → (Nat → Int32) → (Nat → Int32) → Int32 → Int32
  | 0, k, js, mo, mb, x1 => x1
  | n + 1, k, js, mo, mb, x1 => (if js ≤ (nI k) then x1 else (if (mo (nI k).toNatClampNeg) = (0 : Int32) then (if (mo (nI k).toNatClampNeg) = (mb (nI k).toNatClampNeg) then (lf_X4_sight_4 n (k + 1) js mo mb ((((4 : Int32) * x1) + (1 : Int32)) + (2 : Int32))) else (lf_X4_sight_4 n (k + 1) js mo mb ((((4 : Int32) * x1) + (1 : Int32)) + (0 : Int32)))) else (if (mo (nI k).toNatClampNeg) = (mb (nI k).toNatClampNeg) then (lf_X4_sight_4 n (k + 1) js mo mb ((((4 : Int32) * x1) + (0 : Int32)) + (2 : Int32))) else (lf_X4_sight_4 n (k + 1) js mo mb ((((4 : Int32) * x1) + (0 : Int32)) + (0 : Int32))))))
theorem lf_X4_sight_4_succ (n k : Nat) (js : Int32) (mo : Nat → Int32) (mb : Nat → Int32) (x1 : Int32) : lf_X4_sight_4 (n + 1) k js mo mb x1 = (if js ≤ (nI k) then x1 else (if (mo (nI k).toNatClampNeg) = (0 : Int32) then (if (mo (nI k).toNatClampNeg) = (mb (nI k).toNatClampNeg) then (lf_X4_sight_4 n (k + 1) js mo mb ((((4 : Int32) * x1) + (1 : Int32)) + (2 : Int32))) else (lf_X4_sight_4 n (k + 1) js mo mb ((((4 : Int32) * x1) + (1 : Int32)) + (0 : Int32)))) else (if (mo (nI k).toNatClampNeg) = (mb (nI k).toNatClampNeg) then (lf_X4_sight_4 n (k + 1) js mo mb ((((4 : Int32) * x1) + (0 : Int32)) + (2 : Int32))) else (lf_X4_sight_4 n (k + 1) js mo mb ((((4 : Int32) * x1) + (0 : Int32)) + (0 : Int32)))))) := rfl
def f_X4_sight (js : Int32) (mo : Nat → Int32) (mb : Nat → Int32) : Int32 := (lf_X4_sight_4 (js.toNatClampNeg + 1) 0 js mo mb (0 : Int32))
theorem f_X4_sight_eq (js : Int32) (mo : Nat → Int32) (mb : Nat → Int32) : f_X4_sight js mo mb = (lf_X4_sight_4 (js.toNatClampNeg + 1) 0 js mo mb (0 : Int32)) := rfl
def sf_X4_sight_4 : Nat → Nat → Int32 → (Nat → Int32) → (Nat → Int32) → Prop
  | 0, k, js, mo, mb => True
  | n + 1, k, js, mo, mb => ((js ≤ (nI k) → True) ∧ (¬ js ≤ (nI k) → vp_in (nI k) 3 ∧ (((mo (nI k).toNatClampNeg) = (0 : Int32) → vp_in (nI k) 3 ∧ vp_in (nI k) 3 ∧ (((mo (nI k).toNatClampNeg) = (mb (nI k).toNatClampNeg) → (sf_X4_sight_4 n (k + 1) js mo mb)) ∧ (¬ (mo (nI k).toNatClampNeg) = (mb (nI k).toNatClampNeg) → (sf_X4_sight_4 n (k + 1) js mo mb)))) ∧ (¬ (mo (nI k).toNatClampNeg) = (0 : Int32) → vp_in (nI k) 3 ∧ vp_in (nI k) 3 ∧ (((mo (nI k).toNatClampNeg) = (mb (nI k).toNatClampNeg) → (sf_X4_sight_4 n (k + 1) js mo mb)) ∧ (¬ (mo (nI k).toNatClampNeg) = (mb (nI k).toNatClampNeg) → (sf_X4_sight_4 n (k + 1) js mo mb)))))))
theorem sf_X4_sight_4_succ (n k : Nat) (js : Int32) (mo : Nat → Int32) (mb : Nat → Int32) : sf_X4_sight_4 (n + 1) k js mo mb = (((js ≤ (nI k) → True) ∧ (¬ js ≤ (nI k) → vp_in (nI k) 3 ∧ (((mo (nI k).toNatClampNeg) = (0 : Int32) → vp_in (nI k) 3 ∧ vp_in (nI k) 3 ∧ (((mo (nI k).toNatClampNeg) = (mb (nI k).toNatClampNeg) → (sf_X4_sight_4 n (k + 1) js mo mb)) ∧ (¬ (mo (nI k).toNatClampNeg) = (mb (nI k).toNatClampNeg) → (sf_X4_sight_4 n (k + 1) js mo mb)))) ∧ (¬ (mo (nI k).toNatClampNeg) = (0 : Int32) → vp_in (nI k) 3 ∧ vp_in (nI k) 3 ∧ (((mo (nI k).toNatClampNeg) = (mb (nI k).toNatClampNeg) → (sf_X4_sight_4 n (k + 1) js mo mb)) ∧ (¬ (mo (nI k).toNatClampNeg) = (mb (nI k).toNatClampNeg) → (sf_X4_sight_4 n (k + 1) js mo mb)))))))) := rfl
def s_X4_sight (js : Int32) (mo : Nat → Int32) (mb : Nat → Int32) : Prop := (sf_X4_sight_4 (js.toNatClampNeg + 1) 0 js mo mb)
abbrev rm_X4_sight : Room := { frames := 0, cells := 0, slots := 0, locals := 0 }
theorem zd_X4_sight : yX4_sight.cls = RX4 ∧ yX4_sight.cls ≠ "java/lang/invoke/MethodHandle" ∧ yX4_sight.cls ≠ "java/lang/invoke/VarHandle" ∧ (parseMethodDescriptor yX4_sight.desc).map (fun d => d.parameters.length) = some 0 := by decide +kernel
theorem in_X4_sight_X4 : ∀ w ∈ u_ws RX4 TX4 18, w ∈ wsX4_sight := by decide +kernel
set_option maxHeartbeats 4000000 in
set_option maxRecDepth 100000 in
theorem l_X4_sight_4 {p : Program} {l : Launch} {e : Env} {s : State} {m : MethodId} {args : Array Value} {below : List Frame} {meth : Method} {c : Code} {A : Nat → Prop} {Q : State → Prop} {G : zG} (F : CallFix p m c cX4_sight 3 s args wsX4_sight RX4) (hr : meth.sig.returnType = (some .int)) (hlocks : meth.locks = false) (hK : zK G s) (hA : ∀ q : Nat, s.heap.size ≤ q → A q) (mh0 mvq maq mlq mhq mfq mrq moq mbq msq : Nat) :
    ∀ (n k : Nat) (th : Int32) (js : Int32) (mv : Nat → Int32) (ma : Nat → Int32) (ac : Int32) (po : Int32) (si : Int32) (ta : Int32) (ml : Nat → Int32) (mh : Nat → Int32) (gu : Int32) (wr : Int32) (mf : Nat → Int32) (mr : Nat → Int32) (re : Int32) (mo : Nat → Int32) (mb : Nat → Int32) (ms : Nat → Int32) (x1 : Int32), k + n = js.toNatClampNeg + 1 → k ≤ js.toNatClampNeg → (sf_X4_sight_4 n k js mo mb) → ∀ (H : Heap) (locs : List Loc) (ls : Array Slot), va_P G.1 vwCl (w_X4 G mh0 mvq maq mlq mhq mfq mrq moq mbq msq th js mv ma ac po si ta ml mh gu wr mf mr re mo mb ms) H → va_D A (w_X4 G mh0 mvq maq mlq mhq mfq mrq moq mbq msq th js mv ma ac po si ta ml mh gu wr mf mr re mo mb ms) → va_S A s.heap H locs → lv_has ls 3 [(0, .ref mh0), (1, .int x1), (2, .int (nI k))] → (∀ (H : Heap) (locs : List Loc) (ls : Array Slot), va_P G.1 vwCl (w_X4 G mh0 mvq maq mlq mhq mfq mrq moq mbq msq th js mv ma ac po si ta ml mh gu wr mf mr re mo mb ms) H → va_D A (w_X4 G mh0 mvq maq mlq mhq mfq mrq moq mbq msq th js mv ma ac po si ta ml mh gu wr mf mr re mo mb ms) → va_S A s.heap H locs → lv_has ls 3 [(1, .int (lf_X4_sight_4 n k js mo mb x1))] → W p l e rm_X4_sight s m args below meth c H locs 0 0 Q (F0 m 58 ls [])) → W p l e rm_X4_sight s m args below meth c H locs 0 0 Q (F0 m 4 ls []) := by
  obtain ⟨hx, hb, hml, hown, hts⟩ := id F
  intro n
  induction n with
  | zero => intro k th js mv ma ac po si ta ml mh gu wr mf mr re mo mb ms x1 h1 h2; omega
  | succ n IH9 =>
    intro k th js mv ma ac po si ta ml mh gu wr mf mr re mo mb ms x1 hkn hkN hs H locs ls hP hD hS hl kk
    have hs : ((js ≤ (nI k) → True) ∧ (¬ js ≤ (nI k) → vp_in (nI k) 3 ∧ (((mo (nI k).toNatClampNeg) = (0 : Int32) → vp_in (nI k) 3 ∧ vp_in (nI k) 3 ∧ (((mo (nI k).toNatClampNeg) = (mb (nI k).toNatClampNeg) → (sf_X4_sight_4 n (k + 1) js mo mb)) ∧ (¬ (mo (nI k).toNatClampNeg) = (mb (nI k).toNatClampNeg) → (sf_X4_sight_4 n (k + 1) js mo mb)))) ∧ (¬ (mo (nI k).toNatClampNeg) = (0 : Int32) → vp_in (nI k) 3 ∧ vp_in (nI k) 3 ∧ (((mo (nI k).toNatClampNeg) = (mb (nI k).toNatClampNeg) → (sf_X4_sight_4 n (k + 1) js mo mb)) ∧ (¬ (mo (nI k).toNatClampNeg) = (mb (nI k).toNatClampNeg) → (sf_X4_sight_4 n (k + 1) js mo mb))))))) := hs
    refine lv_iload_n hx hb dX4_sight_4 rfl (lv_at hl 2 rfl) ?_
    refine lv_aload_n hx hb dX4_sight_5 rfl (lv_at hl 0 rfl) ?_
    refine va_get (D := G.1) (ci := 4) (v := .int js) (C := RX4) (T := TX4) (N := 18) hx hb hts in_X4_sight_X4 hown hK.1 hP 0 rfl rfl 1 (by decide) (hts (.fieldLink RX4 46 "JarRiddleModel" "jars" "I") (by decide +kernel)) (fun _ h9 => h9) rfl dX4_sight_6 ?_
    refine lv_icmp_ge (tgt := 58) hx hb dX4_sight_9 (by decide) (fun (c_1 : js ≤ (nI k)) => ?_) (fun (c_1 : ¬ js ≤ (nI k)) => ?_)
    · have e9 : (lf_X4_sight_4 (n + 1) k js mo mb x1) = x1 := (lf_X4_sight_4_succ n k js mo mb x1).trans ((if_pos c_1).trans (rfl))
      rw [e9] at kk
      exact kk H locs ls hP hD hS (lv_sub hl [1] rfl)
    · have hs := hs.2 c_1
      refine lv_iconst (v := (4 : Int32)) hx hb dX4_sight_12 (by decide) ?_
      refine lv_iload_n hx hb dX4_sight_13 rfl (lv_at hl 1 rfl) ?_
      refine lv_imul hx hb dX4_sight_14 ?_
      refine lv_aload_n hx hb dX4_sight_15 rfl (lv_at hl 0 rfl) ?_
      refine va_get (D := G.1) (ci := 4) (v := .ref moq) (C := RX4) (T := TX4) (N := 18) hx hb hts in_X4_sight_X4 hown hK.1 hP 0 rfl rfl 15 (by decide) (hts (.fieldLink RX4 29 "JarRiddleModel" "one" "[I") (by decide +kernel)) (fun _ h9 => h9) rfl dX4_sight_16 ?_
      refine lv_iload_n hx hb dX4_sight_19 rfl (lv_at hl 2 rfl) ?_
      obtain ⟨h_2, hs⟩ := hs
      refine va_iald hx hb hK.1 hP 7 0 rfl rfl h_2 dX4_sight_20 ?_
      refine lv_if_ne (tgt := 28) hx hb dX4_sight_21 (by decide) (fun (c_3 : ¬ (mo (nI k).toNatClampNeg) = (0 : Int32)) => ?_) (fun (c_3 : (mo (nI k).toNatClampNeg) = (0 : Int32)) => ?_)
      · have hs := hs.2 c_3
        refine lv_iconst (v := (0 : Int32)) hx hb dX4_sight_28 (by decide) ?_
        refine lv_iadd hx hb dX4_sight_29 ?_
        refine lv_aload_n hx hb dX4_sight_30 rfl (lv_at hl 0 rfl) ?_
        refine va_get (D := G.1) (ci := 4) (v := .ref moq) (C := RX4) (T := TX4) (N := 18) hx hb hts in_X4_sight_X4 hown hK.1 hP 0 rfl rfl 15 (by decide) (hts (.fieldLink RX4 29 "JarRiddleModel" "one" "[I") (by decide +kernel)) (fun _ h9 => h9) rfl dX4_sight_31 ?_
        refine lv_iload_n hx hb dX4_sight_34 rfl (lv_at hl 2 rfl) ?_
        obtain ⟨h_4, hs⟩ := hs
        refine va_iald hx hb hK.1 hP 7 0 rfl rfl h_4 dX4_sight_35 ?_
        refine lv_aload_n hx hb dX4_sight_36 rfl (lv_at hl 0 rfl) ?_
        refine va_get (D := G.1) (ci := 4) (v := .ref mbq) (C := RX4) (T := TX4) (N := 18) hx hb hts in_X4_sight_X4 hown hK.1 hP 0 rfl rfl 16 (by decide) (hts (.fieldLink RX4 32 "JarRiddleModel" "by" "[I") (by decide +kernel)) (fun _ h9 => h9) rfl dX4_sight_37 ?_
        refine lv_iload_n hx hb dX4_sight_40 rfl (lv_at hl 2 rfl) ?_
        obtain ⟨h_5, hs⟩ := hs
        refine va_iald hx hb hK.1 hP 8 0 rfl rfl h_5 dX4_sight_41 ?_
        refine lv_icmp_ne (tgt := 49) hx hb dX4_sight_42 (by decide) (fun (c_6 : ¬ (mo (nI k).toNatClampNeg) = (mb (nI k).toNatClampNeg)) => ?_) (fun (c_6 : (mo (nI k).toNatClampNeg) = (mb (nI k).toNatClampNeg)) => ?_)
        · have hs := hs.2 c_6
          refine lv_iconst (v := (0 : Int32)) hx hb dX4_sight_49 (by decide) ?_
          refine lv_iadd hx hb dX4_sight_50 ?_
          refine lv_istore_n (lv' := [(1, .int ((((4 : Int32) * x1) + (0 : Int32)) + (0 : Int32))), (0, .ref mh0), (2, .int (nI k))]) hx hb dX4_sight_51 rfl hl (by decide) rfl (fun ls hl => ?_)
          refine lv_iinc (v := (nI (k + 1))) (lv' := [(2, .int (nI (k + 1))), (1, .int ((((4 : Int32) * x1) + (0 : Int32)) + (0 : Int32))), (0, .ref mh0)]) hx hb dX4_sight_52 hl (k := 2) rfl (nI_1 k) (by decide) rfl (fun ls hl => ?_)
          refine lv_goto (tgt := 4) hx hb dX4_sight_55 (by decide) ?_
          have e9 : (lf_X4_sight_4 (n + 1) k js mo mb x1) = (lf_X4_sight_4 n (k + 1) js mo mb ((((4 : Int32) * x1) + (0 : Int32)) + (0 : Int32))) := (lf_X4_sight_4_succ n k js mo mb x1).trans ((if_neg c_1).trans ((if_neg c_3).trans ((if_neg c_6).trans (rfl))))
          rw [e9] at kk
          have h9 := zk_lt (N := js.toNatClampNeg) (by have := zk_cl js; omega) rfl c_1
          exact IH9 (k + 1) th js mv ma ac po si ta ml mh gu wr mf mr re mo mb ms ((((4 : Int32) * x1) + (0 : Int32)) + (0 : Int32)) (by omega) (by omega) hs H locs ls hP hD hS (lv_sub hl [2, 1, 0] rfl) kk
        · have hs := hs.1 c_6
          refine lv_iconst (v := (2 : Int32)) hx hb dX4_sight_45 (by decide) ?_
          refine lv_goto (tgt := 50) hx hb dX4_sight_46 (by decide) ?_
          refine lv_iadd hx hb dX4_sight_50 ?_
          refine lv_istore_n (lv' := [(1, .int ((((4 : Int32) * x1) + (0 : Int32)) + (2 : Int32))), (0, .ref mh0), (2, .int (nI k))]) hx hb dX4_sight_51 rfl hl (by decide) rfl (fun ls hl => ?_)
          refine lv_iinc (v := (nI (k + 1))) (lv' := [(2, .int (nI (k + 1))), (1, .int ((((4 : Int32) * x1) + (0 : Int32)) + (2 : Int32))), (0, .ref mh0)]) hx hb dX4_sight_52 hl (k := 2) rfl (nI_1 k) (by decide) rfl (fun ls hl => ?_)
          refine lv_goto (tgt := 4) hx hb dX4_sight_55 (by decide) ?_
          have e9 : (lf_X4_sight_4 (n + 1) k js mo mb x1) = (lf_X4_sight_4 n (k + 1) js mo mb ((((4 : Int32) * x1) + (0 : Int32)) + (2 : Int32))) := (lf_X4_sight_4_succ n k js mo mb x1).trans ((if_neg c_1).trans ((if_neg c_3).trans ((if_pos c_6).trans (rfl))))
          rw [e9] at kk
          have h9 := zk_lt (N := js.toNatClampNeg) (by have := zk_cl js; omega) rfl c_1
          exact IH9 (k + 1) th js mv ma ac po si ta ml mh gu wr mf mr re mo mb ms ((((4 : Int32) * x1) + (0 : Int32)) + (2 : Int32)) (by omega) (by omega) hs H locs ls hP hD hS (lv_sub hl [2, 1, 0] rfl) kk
      · have hs := hs.1 c_3
        refine lv_iconst (v := (1 : Int32)) hx hb dX4_sight_24 (by decide) ?_
        refine lv_goto (tgt := 29) hx hb dX4_sight_25 (by decide) ?_
        refine lv_iadd hx hb dX4_sight_29 ?_
        refine lv_aload_n hx hb dX4_sight_30 rfl (lv_at hl 0 rfl) ?_
        refine va_get (D := G.1) (ci := 4) (v := .ref moq) (C := RX4) (T := TX4) (N := 18) hx hb hts in_X4_sight_X4 hown hK.1 hP 0 rfl rfl 15 (by decide) (hts (.fieldLink RX4 29 "JarRiddleModel" "one" "[I") (by decide +kernel)) (fun _ h9 => h9) rfl dX4_sight_31 ?_
        refine lv_iload_n hx hb dX4_sight_34 rfl (lv_at hl 2 rfl) ?_
        obtain ⟨h_7, hs⟩ := hs
        refine va_iald hx hb hK.1 hP 7 0 rfl rfl h_7 dX4_sight_35 ?_
        refine lv_aload_n hx hb dX4_sight_36 rfl (lv_at hl 0 rfl) ?_
        refine va_get (D := G.1) (ci := 4) (v := .ref mbq) (C := RX4) (T := TX4) (N := 18) hx hb hts in_X4_sight_X4 hown hK.1 hP 0 rfl rfl 16 (by decide) (hts (.fieldLink RX4 32 "JarRiddleModel" "by" "[I") (by decide +kernel)) (fun _ h9 => h9) rfl dX4_sight_37 ?_
        refine lv_iload_n hx hb dX4_sight_40 rfl (lv_at hl 2 rfl) ?_
        obtain ⟨h_8, hs⟩ := hs
        refine va_iald hx hb hK.1 hP 8 0 rfl rfl h_8 dX4_sight_41 ?_
        refine lv_icmp_ne (tgt := 49) hx hb dX4_sight_42 (by decide) (fun (c_9 : ¬ (mo (nI k).toNatClampNeg) = (mb (nI k).toNatClampNeg)) => ?_) (fun (c_9 : (mo (nI k).toNatClampNeg) = (mb (nI k).toNatClampNeg)) => ?_)
        · have hs := hs.2 c_9
          refine lv_iconst (v := (0 : Int32)) hx hb dX4_sight_49 (by decide) ?_
          refine lv_iadd hx hb dX4_sight_50 ?_
          refine lv_istore_n (lv' := [(1, .int ((((4 : Int32) * x1) + (1 : Int32)) + (0 : Int32))), (0, .ref mh0), (2, .int (nI k))]) hx hb dX4_sight_51 rfl hl (by decide) rfl (fun ls hl => ?_)
          refine lv_iinc (v := (nI (k + 1))) (lv' := [(2, .int (nI (k + 1))), (1, .int ((((4 : Int32) * x1) + (1 : Int32)) + (0 : Int32))), (0, .ref mh0)]) hx hb dX4_sight_52 hl (k := 2) rfl (nI_1 k) (by decide) rfl (fun ls hl => ?_)
          refine lv_goto (tgt := 4) hx hb dX4_sight_55 (by decide) ?_
          have e9 : (lf_X4_sight_4 (n + 1) k js mo mb x1) = (lf_X4_sight_4 n (k + 1) js mo mb ((((4 : Int32) * x1) + (1 : Int32)) + (0 : Int32))) := (lf_X4_sight_4_succ n k js mo mb x1).trans ((if_neg c_1).trans ((if_pos c_3).trans ((if_neg c_9).trans (rfl))))
          rw [e9] at kk
          have h9 := zk_lt (N := js.toNatClampNeg) (by have := zk_cl js; omega) rfl c_1
          exact IH9 (k + 1) th js mv ma ac po si ta ml mh gu wr mf mr re mo mb ms ((((4 : Int32) * x1) + (1 : Int32)) + (0 : Int32)) (by omega) (by omega) hs H locs ls hP hD hS (lv_sub hl [2, 1, 0] rfl) kk
        · have hs := hs.1 c_9
          refine lv_iconst (v := (2 : Int32)) hx hb dX4_sight_45 (by decide) ?_
          refine lv_goto (tgt := 50) hx hb dX4_sight_46 (by decide) ?_
          refine lv_iadd hx hb dX4_sight_50 ?_
          refine lv_istore_n (lv' := [(1, .int ((((4 : Int32) * x1) + (1 : Int32)) + (2 : Int32))), (0, .ref mh0), (2, .int (nI k))]) hx hb dX4_sight_51 rfl hl (by decide) rfl (fun ls hl => ?_)
          refine lv_iinc (v := (nI (k + 1))) (lv' := [(2, .int (nI (k + 1))), (1, .int ((((4 : Int32) * x1) + (1 : Int32)) + (2 : Int32))), (0, .ref mh0)]) hx hb dX4_sight_52 hl (k := 2) rfl (nI_1 k) (by decide) rfl (fun ls hl => ?_)
          refine lv_goto (tgt := 4) hx hb dX4_sight_55 (by decide) ?_
          have e9 : (lf_X4_sight_4 (n + 1) k js mo mb x1) = (lf_X4_sight_4 n (k + 1) js mo mb ((((4 : Int32) * x1) + (1 : Int32)) + (2 : Int32))) := (lf_X4_sight_4_succ n k js mo mb x1).trans ((if_neg c_1).trans ((if_pos c_3).trans ((if_pos c_9).trans (rfl))))
          rw [e9] at kk
          have h9 := zk_lt (N := js.toNatClampNeg) (by have := zk_cl js; omega) rfl c_1
          exact IH9 (k + 1) th js mv ma ac po si ta ml mh gu wr mf mr re mo mb ms ((((4 : Int32) * x1) + (1 : Int32)) + (2 : Int32)) (by omega) (by omega) hs H locs ls hP hD hS (lv_sub hl [2, 1, 0] rfl) kk
set_option maxHeartbeats 4000000 in
set_option maxRecDepth 100000 in
/-- JarRiddleModel.sight()I -/
theorem c_X4_sight (l : Launch) (G : zG) (mh0 mvq maq mlq mhq mfq mrq moq mbq msq : Nat) (th : Int32) (js : Int32) (mv : Nat → Int32) (ma : Nat → Int32) (ac : Int32) (po : Int32) (si : Int32) (ta : Int32) (ml : Nat → Int32) (mh : Nat → Int32) (gu : Int32) (wr : Int32) (mf : Nat → Int32) (mr : Nat → Int32) (re : Int32) (mo : Nat → Int32) (mb : Nat → Int32) (ms : Nat → Int32) (hs : s_X4_sight js mo mb) : zC l G yX4_sight wsX4_sight rm_X4_sight 0 0 [.ref mh0] (w_X4 G mh0 mvq maq mlq mhq mfq mrq moq mbq msq th js mv ma ac po si ta ml mh gu wr mf mr re mo mb ms) (some (.int (f_X4_sight js mo mb))) (fun _ : Unit => (w_X4 G mh0 mvq maq mlq mhq mfq mrq moq mbq msq th js mv ma ac po si ta ml mh gu wr mf mr re mo mb ms)) := by
  refine z_of (cc := cX4_sight) (maxL := 3) (ret := (some .int)) (own := RX4) (by decide) rfl rfl (Nat.le_of_ble_eq_true rfl) ?_
  intro p e s m args below meth c A H locs ls F hr hlocks hname hK hA hP hD hS hl
  obtain ⟨hx, hb, hml, hown, hts⟩ := id F
  have hl : lv_has ls 3 [(0, .ref mh0)] := hl
  have hs : (sf_X4_sight_4 (js.toNatClampNeg + 1) 0 js mo mb) := hs
  refine lv_iconst (v := (0 : Int32)) hx hb dX4_sight_0 (by decide) ?_
  refine lv_istore_n (lv' := [(1, .int (0 : Int32)), (0, .ref mh0)]) hx hb dX4_sight_1 rfl hl (by decide) rfl (fun ls hl => ?_)
  refine lv_iconst (v := (0 : Int32)) hx hb dX4_sight_2 (by decide) ?_
  refine lv_istore_n (lv' := [(2, .int (0 : Int32)), (1, .int (0 : Int32)), (0, .ref mh0)]) hx hb dX4_sight_3 rfl hl (by decide) rfl (fun ls hl => ?_)
  have h_10 := hs
  refine l_X4_sight_4 F hr hlocks hK hA mh0 mvq maq mlq mhq mfq mrq moq mbq msq (js.toNatClampNeg + 1) 0 th js mv ma ac po si ta ml mh gu wr mf mr re mo mb ms (0 : Int32) (by omega) (by omega) h_10 H locs ls hP hD hS (lv_sub hl [2, 1, 0] rfl) ?_
  intro H locs ls hP hD hS hl
  have hP : va_P G.1 vwCl (w_X4 G mh0 mvq maq mlq mhq mfq mrq moq mbq msq th js mv ma ac po si ta ml mh gu wr mf mr re mo mb ms) H := hP
  have hD : va_D A (w_X4 G mh0 mvq maq mlq mhq mfq mrq moq mbq msq th js mv ma ac po si ta ml mh gu wr mf mr re mo mb ms) := hD
  have hl : lv_has ls 3 [(1, .int (lf_X4_sight_4 (js.toNatClampNeg + 1) 0 js mo mb (0 : Int32)))] := hl
  refine lv_iload_n hx hb dX4_sight_58 rfl (lv_at hl 0 rfl) ?_
  have e9 : (f_X4_sight js mo mb) = (lf_X4_sight_4 (js.toNatClampNeg + 1) 0 js mo mb (0 : Int32)) := (f_X4_sight_eq js mo mb).trans (rfl)
  rw [e9]
  exact z_iret F hr hlocks hP hD hS () [0, 1, 2, 3, 4, 5, 6, 7, 8, 9] rfl rfl rfl dX4_sight_59
def f_X4_state (ma : Nat → Int32) : Int32 := (((ma (0 : Int32).toNatClampNeg) + ((10 : Int32) * (ma (1 : Int32).toNatClampNeg))) + ((100 : Int32) * (ma (2 : Int32).toNatClampNeg)))
theorem f_X4_state_eq (ma : Nat → Int32) : f_X4_state ma = (((ma (0 : Int32).toNatClampNeg) + ((10 : Int32) * (ma (1 : Int32).toNatClampNeg))) + ((100 : Int32) * (ma (2 : Int32).toNatClampNeg))) := rfl
abbrev rm_X4_state : Room := { frames := 0, cells := 0, slots := 0, locals := 0 }
theorem zd_X4_state : yX4_state.cls = RX4 ∧ yX4_state.cls ≠ "java/lang/invoke/MethodHandle" ∧ yX4_state.cls ≠ "java/lang/invoke/VarHandle" ∧ (parseMethodDescriptor yX4_state.desc).map (fun d => d.parameters.length) = some 0 := by decide +kernel
theorem in_X4_state_X4 : ∀ w ∈ u_ws RX4 TX4 18, w ∈ wsX4_state := by decide +kernel
set_option maxHeartbeats 4000000 in
set_option maxRecDepth 100000 in
/-- JarRiddleModel.state()I -/
theorem c_X4_state (l : Launch) (G : zG) (mh0 mvq maq mlq mhq mfq mrq moq mbq msq : Nat) (th : Int32) (js : Int32) (mv : Nat → Int32) (ma : Nat → Int32) (ac : Int32) (po : Int32) (si : Int32) (ta : Int32) (ml : Nat → Int32) (mh : Nat → Int32) (gu : Int32) (wr : Int32) (mf : Nat → Int32) (mr : Nat → Int32) (re : Int32) (mo : Nat → Int32) (mb : Nat → Int32) (ms : Nat → Int32) : zC l G yX4_state wsX4_state rm_X4_state 0 0 [.ref mh0] (w_X4 G mh0 mvq maq mlq mhq mfq mrq moq mbq msq th js mv ma ac po si ta ml mh gu wr mf mr re mo mb ms) (some (.int (f_X4_state ma))) (fun _ : Unit => (w_X4 G mh0 mvq maq mlq mhq mfq mrq moq mbq msq th js mv ma ac po si ta ml mh gu wr mf mr re mo mb ms)) := by
  refine z_of (cc := cX4_state) (maxL := 1) (ret := (some .int)) (own := RX4) (by decide) rfl rfl (Nat.le_of_ble_eq_true rfl) ?_
  intro p e s m args below meth c A H locs ls F hr hlocks hname hK hA hP hD hS hl
  obtain ⟨hx, hb, hml, hown, hts⟩ := id F
  have hl : lv_has ls 1 [(0, .ref mh0)] := hl
  refine lv_aload_n hx hb dX4_state_0 rfl (lv_at hl 0 rfl) ?_
  refine va_get (D := G.1) (ci := 4) (v := .ref maq) (C := RX4) (T := TX4) (N := 18) hx hb hts in_X4_state_X4 hown hK.1 hP 0 rfl rfl 3 (by decide) (hts (.fieldLink RX4 13 "JarRiddleModel" "amount" "[I") (by decide +kernel)) (fun _ h9 => h9) rfl dX4_state_1 ?_
  refine lv_iconst (v := (0 : Int32)) hx hb dX4_state_4 (by decide) ?_
  refine va_iald hx hb hK.1 hP 2 0 rfl rfl (vp_in_nI (n := 0) (N := 3) (by decide) (by decide)) dX4_state_5 ?_
  refine lv_bipush (v := (10 : Int32)) hx hb dX4_state_6 (by decide) ?_
  refine lv_aload_n hx hb dX4_state_8 rfl (lv_at hl 0 rfl) ?_
  refine va_get (D := G.1) (ci := 4) (v := .ref maq) (C := RX4) (T := TX4) (N := 18) hx hb hts in_X4_state_X4 hown hK.1 hP 0 rfl rfl 3 (by decide) (hts (.fieldLink RX4 13 "JarRiddleModel" "amount" "[I") (by decide +kernel)) (fun _ h9 => h9) rfl dX4_state_9 ?_
  refine lv_iconst (v := (1 : Int32)) hx hb dX4_state_12 (by decide) ?_
  refine va_iald hx hb hK.1 hP 2 0 rfl rfl (vp_in_nI (n := 1) (N := 3) (by decide) (by decide)) dX4_state_13 ?_
  refine lv_imul hx hb dX4_state_14 ?_
  refine lv_iadd hx hb dX4_state_15 ?_
  refine lv_bipush (v := (100 : Int32)) hx hb dX4_state_16 (by decide) ?_
  refine lv_aload_n hx hb dX4_state_18 rfl (lv_at hl 0 rfl) ?_
  refine va_get (D := G.1) (ci := 4) (v := .ref maq) (C := RX4) (T := TX4) (N := 18) hx hb hts in_X4_state_X4 hown hK.1 hP 0 rfl rfl 3 (by decide) (hts (.fieldLink RX4 13 "JarRiddleModel" "amount" "[I") (by decide +kernel)) (fun _ h9 => h9) rfl dX4_state_19 ?_
  refine lv_iconst (v := (2 : Int32)) hx hb dX4_state_22 (by decide) ?_
  refine va_iald hx hb hK.1 hP 2 0 rfl rfl (vp_in_nI (n := 2) (N := 3) (by decide) (by decide)) dX4_state_23 ?_
  refine lv_imul hx hb dX4_state_24 ?_
  refine lv_iadd hx hb dX4_state_25 ?_
  have e9 : (f_X4_state ma) = (((ma (0 : Int32).toNatClampNeg) + ((10 : Int32) * (ma (1 : Int32).toNatClampNeg))) + ((100 : Int32) * (ma (2 : Int32).toNatClampNeg))) := (f_X4_state_eq ma).trans (rfl)
  rw [e9]
  exact z_iret F hr hlocks hP hD hS () [0, 1, 2, 3, 4, 5, 6, 7, 8, 9] rfl rfl rfl dX4_state_26
def f_X4_act_t1 (js : Int32) (mv : Nat → Int32) (ma : Nat → Int32) (mo : Nat → Int32) (mb : Nat → Int32) (p1 : Int32) : Int32 := (f_X4_sight js ((f_X4_move ((f_X4_lookAtState mv mo mb (f_X4_state ma)).1) ((f_X4_lookAtState mv mo mb (f_X4_state ma)).2) p1).2) ((f_X4_lookAtState mv mo mb (f_X4_state ma)).2))
def lf_X4_act_100 : Nat → Nat → Int32 → (Nat → Int32) → (Nat → Int32) → Int32 → (Nat → Int32)
  | 0, k, js, mh, mo, x4 => mh
  | n + 1, k, js, mh, mo, x4 => (if js ≤ (nI k) then mh else (lf_X4_act_100 n (k + 1) js (upd mh (((3 : Int32) * x4) + (nI k)).toNatClampNeg (mo (nI k).toNatClampNeg)) mo x4))
theorem lf_X4_act_100_succ (n k : Nat) (js : Int32) (mh : Nat → Int32) (mo : Nat → Int32) (x4 : Int32) : lf_X4_act_100 (n + 1) k js mh mo x4 = (if js ≤ (nI k) then mh else (lf_X4_act_100 n (k + 1) js (upd mh (((3 : Int32) * x4) + (nI k)).toNatClampNeg (mo (nI k).toNatClampNeg)) mo x4)) := rfl
def lf_X4_act_64 : Nat → Nat → Int32 → (Nat → Int32) → (Nat → Int32) → (Nat → Int32) → (Nat → Int32) → Int32 → Int32 → (Nat → Int32) × (Nat → Int32) × (Nat → Int32) × (Nat → Int32)
  | 0, k, js, ml, mh, mo, mb, x1, x3 => (ml, mh, mo, mb)
  | n + 1, k, js, ml, mh, mo, mb, x1, x3 => (if (1000 : Int32) ≤ (nI k) then (ml, mh, mo, mb) else (if (ml (nI k).toNatClampNeg) = (0 : Int32) then (lf_X4_act_64 n (k + 1) js ml mh mo mb x1 x3) else (if (f_X4_sight js ((f_X4_move ((f_X4_lookAtRow mh mo mb (nI k)).1) ((f_X4_lookAtRow mh mo mb (nI k)).2) x1).2) ((f_X4_lookAtRow mh mo mb (nI k)).2)) = x3 then (lf_X4_act_64 n (k + 1) js (upd ml (nI k).toNatClampNeg (vp_nar .boolean (1 : Int32))) (lf_X4_act_100 (js.toNatClampNeg + 1) 0 js mh ((f_X4_move ((f_X4_lookAtRow mh mo mb (nI k)).1) ((f_X4_lookAtRow mh mo mb (nI k)).2) x1).2) (nI k)) ((f_X4_move ((f_X4_lookAtRow mh mo mb (nI k)).1) ((f_X4_lookAtRow mh mo mb (nI k)).2) x1).2) ((f_X4_lookAtRow mh mo mb (nI k)).2) x1 x3) else (lf_X4_act_64 n (k + 1) js (upd ml (nI k).toNatClampNeg (vp_nar .boolean (0 : Int32))) (lf_X4_act_100 (js.toNatClampNeg + 1) 0 js mh ((f_X4_move ((f_X4_lookAtRow mh mo mb (nI k)).1) ((f_X4_lookAtRow mh mo mb (nI k)).2) x1).2) (nI k)) ((f_X4_move ((f_X4_lookAtRow mh mo mb (nI k)).1) ((f_X4_lookAtRow mh mo mb (nI k)).2) x1).2) ((f_X4_lookAtRow mh mo mb (nI k)).2) x1 x3))))
theorem lf_X4_act_64_succ (n k : Nat) (js : Int32) (ml : Nat → Int32) (mh : Nat → Int32) (mo : Nat → Int32) (mb : Nat → Int32) (x1 : Int32) (x3 : Int32) : lf_X4_act_64 (n + 1) k js ml mh mo mb x1 x3 = (if (1000 : Int32) ≤ (nI k) then (ml, mh, mo, mb) else (if (ml (nI k).toNatClampNeg) = (0 : Int32) then (lf_X4_act_64 n (k + 1) js ml mh mo mb x1 x3) else (if (f_X4_sight js ((f_X4_move ((f_X4_lookAtRow mh mo mb (nI k)).1) ((f_X4_lookAtRow mh mo mb (nI k)).2) x1).2) ((f_X4_lookAtRow mh mo mb (nI k)).2)) = x3 then (lf_X4_act_64 n (k + 1) js (upd ml (nI k).toNatClampNeg (vp_nar .boolean (1 : Int32))) (lf_X4_act_100 (js.toNatClampNeg + 1) 0 js mh ((f_X4_move ((f_X4_lookAtRow mh mo mb (nI k)).1) ((f_X4_lookAtRow mh mo mb (nI k)).2) x1).2) (nI k)) ((f_X4_move ((f_X4_lookAtRow mh mo mb (nI k)).1) ((f_X4_lookAtRow mh mo mb (nI k)).2) x1).2) ((f_X4_lookAtRow mh mo mb (nI k)).2) x1 x3) else (lf_X4_act_64 n (k + 1) js (upd ml (nI k).toNatClampNeg (vp_nar .boolean (0 : Int32))) (lf_X4_act_100 (js.toNatClampNeg + 1) 0 js mh ((f_X4_move ((f_X4_lookAtRow mh mo mb (nI k)).1) ((f_X4_lookAtRow mh mo mb (nI k)).2) x1).2) (nI k)) ((f_X4_move ((f_X4_lookAtRow mh mo mb (nI k)).1) ((f_X4_lookAtRow mh mo mb (nI k)).2) x1).2) ((f_X4_lookAtRow mh mo mb (nI k)).2) x1 x3)))) := rfl
def f_X4_act_t2 (js : Int32) (mv : Nat → Int32) (ma : Nat → Int32) (ml : Nat → Int32) (mh : Nat → Int32) (mo : Nat → Int32) (mb : Nat → Int32) (p1 : Int32) : Nat → Int32 := (lf_X4_act_64 1001 0 js ml mh ((f_X4_move ((f_X4_lookAtState mv mo mb (f_X4_state ma)).1) ((f_X4_lookAtState mv mo mb (f_X4_state ma)).2) p1).2) ((f_X4_lookAtState mv mo mb (f_X4_state ma)).2) p1 (f_X4_act_t1 js mv ma mo mb p1)).1
def f_X4_act_t3 (js : Int32) (mv : Nat → Int32) (ma : Nat → Int32) (ml : Nat → Int32) (mh : Nat → Int32) (mo : Nat → Int32) (mb : Nat → Int32) (p1 : Int32) : Nat → Int32 := (lf_X4_act_64 1001 0 js ml mh ((f_X4_move ((f_X4_lookAtState mv mo mb (f_X4_state ma)).1) ((f_X4_lookAtState mv mo mb (f_X4_state ma)).2) p1).2) ((f_X4_lookAtState mv mo mb (f_X4_state ma)).2) p1 (f_X4_act_t1 js mv ma mo mb p1)).2.1
def f_X4_act_t4 (js : Int32) (mv : Nat → Int32) (ma : Nat → Int32) (ml : Nat → Int32) (mh : Nat → Int32) (mo : Nat → Int32) (mb : Nat → Int32) (p1 : Int32) : Nat → Int32 := (lf_X4_act_64 1001 0 js ml mh ((f_X4_move ((f_X4_lookAtState mv mo mb (f_X4_state ma)).1) ((f_X4_lookAtState mv mo mb (f_X4_state ma)).2) p1).2) ((f_X4_lookAtState mv mo mb (f_X4_state ma)).2) p1 (f_X4_act_t1 js mv ma mo mb p1)).2.2.1
def f_X4_act_t5 (js : Int32) (mv : Nat → Int32) (ma : Nat → Int32) (ml : Nat → Int32) (mh : Nat → Int32) (mo : Nat → Int32) (mb : Nat → Int32) (p1 : Int32) : Nat → Int32 := (lf_X4_act_64 1001 0 js ml mh ((f_X4_move ((f_X4_lookAtState mv mo mb (f_X4_state ma)).1) ((f_X4_lookAtState mv mo mb (f_X4_state ma)).2) p1).2) ((f_X4_lookAtState mv mo mb (f_X4_state ma)).2) p1 (f_X4_act_t1 js mv ma mo mb p1)).2.2.2
def lf_X4_act_22 : Nat → Nat → Int32 → (Nat → Int32) → (Nat → Int32) → (Nat → Int32)
  | 0, k, js, ma, mo => ma
  | n + 1, k, js, ma, mo => (if js ≤ (nI k) then ma else (lf_X4_act_22 n (k + 1) js (upd ma (nI k).toNatClampNeg (mo (nI k).toNatClampNeg)) mo))
theorem lf_X4_act_22_succ (n k : Nat) (js : Int32) (ma : Nat → Int32) (mo : Nat → Int32) : lf_X4_act_22 (n + 1) k js ma mo = (if js ≤ (nI k) then ma else (lf_X4_act_22 n (k + 1) js (upd ma (nI k).toNatClampNeg (mo (nI k).toNatClampNeg)) mo)) := rfl
def f_X4_act (js : Int32) (mv : Nat → Int32) (ma : Nat → Int32) (ac : Int32) (ml : Nat → Int32) (mh : Nat → Int32) (mo : Nat → Int32) (mb : Nat → Int32) (p1 : Int32) : Int32 × (Nat → Int32) × Int32 × (Nat → Int32) × (Nat → Int32) × (Nat → Int32) × (Nat → Int32) := ((f_X4_move ((f_X4_lookAtState mv mo mb (f_X4_state ma)).1) ((f_X4_lookAtState mv mo mb (f_X4_state ma)).2) p1).1, (lf_X4_act_22 (js.toNatClampNeg + 1) 0 js ma ((f_X4_move ((f_X4_lookAtState mv mo mb (f_X4_state ma)).1) ((f_X4_lookAtState mv mo mb (f_X4_state ma)).2) p1).2)), (ac + (1 : Int32)), (f_X4_act_t2 js mv ma ml mh mo mb p1), (f_X4_act_t3 js mv ma ml mh mo mb p1), (f_X4_act_t4 js mv ma ml mh mo mb p1), (f_X4_act_t5 js mv ma ml mh mo mb p1))
theorem f_X4_act_eq (js : Int32) (mv : Nat → Int32) (ma : Nat → Int32) (ac : Int32) (ml : Nat → Int32) (mh : Nat → Int32) (mo : Nat → Int32) (mb : Nat → Int32) (p1 : Int32) : f_X4_act js mv ma ac ml mh mo mb p1 = ((f_X4_move ((f_X4_lookAtState mv mo mb (f_X4_state ma)).1) ((f_X4_lookAtState mv mo mb (f_X4_state ma)).2) p1).1, (lf_X4_act_22 (js.toNatClampNeg + 1) 0 js ma ((f_X4_move ((f_X4_lookAtState mv mo mb (f_X4_state ma)).1) ((f_X4_lookAtState mv mo mb (f_X4_state ma)).2) p1).2)), (ac + (1 : Int32)), (f_X4_act_t2 js mv ma ml mh mo mb p1), (f_X4_act_t3 js mv ma ml mh mo mb p1), (f_X4_act_t4 js mv ma ml mh mo mb p1), (f_X4_act_t5 js mv ma ml mh mo mb p1)) := rfl
def sf_X4_act_22 : Nat → Nat → Int32 → Prop
  | 0, k, js => True
  | n + 1, k, js => ((js ≤ (nI k) → True) ∧ (¬ js ≤ (nI k) → vp_in (nI k) 3 ∧ vp_in (nI k) 3 ∧ (sf_X4_act_22 n (k + 1) js)))
theorem sf_X4_act_22_succ (n k : Nat) (js : Int32) : sf_X4_act_22 (n + 1) k js = (((js ≤ (nI k) → True) ∧ (¬ js ≤ (nI k) → vp_in (nI k) 3 ∧ vp_in (nI k) 3 ∧ (sf_X4_act_22 n (k + 1) js)))) := rfl
def sf_X4_act_100 : Nat → Nat → Int32 → Int32 → Prop
  | 0, k, js, x4 => True
  | n + 1, k, js, x4 => ((js ≤ (nI k) → True) ∧ (¬ js ≤ (nI k) → vp_in (nI k) 3 ∧ vp_in (((3 : Int32) * x4) + (nI k)) 3000 ∧ (sf_X4_act_100 n (k + 1) js x4)))
theorem sf_X4_act_100_succ (n k : Nat) (js : Int32) (x4 : Int32) : sf_X4_act_100 (n + 1) k js x4 = (((js ≤ (nI k) → True) ∧ (¬ js ≤ (nI k) → vp_in (nI k) 3 ∧ vp_in (((3 : Int32) * x4) + (nI k)) 3000 ∧ (sf_X4_act_100 n (k + 1) js x4)))) := rfl
def sf_X4_act_64 : Nat → Nat → Int32 → (Nat → Int32) → (Nat → Int32) → (Nat → Int32) → (Nat → Int32) → Int32 → Int32 → Prop
  | 0, k, js, ml, mh, mo, mb, x1, x3 => True
  | n + 1, k, js, ml, mh, mo, mb, x1, x3 => (((1000 : Int32) ≤ (nI k) → True) ∧ (¬ (1000 : Int32) ≤ (nI k) → (((ml (nI k).toNatClampNeg) = (0 : Int32) → (sf_X4_act_64 n (k + 1) js ml mh mo mb x1 x3)) ∧ (¬ (ml (nI k).toNatClampNeg) = (0 : Int32) → (s_X4_lookAtRow (nI k)) ∧ (s_X4_move x1) ∧ (sf_X4_act_100 (js.toNatClampNeg + 1) 0 js (nI k)) ∧ (s_X4_sight js ((f_X4_move ((f_X4_lookAtRow mh mo mb (nI k)).1) ((f_X4_lookAtRow mh mo mb (nI k)).2) x1).2) ((f_X4_lookAtRow mh mo mb (nI k)).2)) ∧ (((f_X4_sight js ((f_X4_move ((f_X4_lookAtRow mh mo mb (nI k)).1) ((f_X4_lookAtRow mh mo mb (nI k)).2) x1).2) ((f_X4_lookAtRow mh mo mb (nI k)).2)) = x3 → (sf_X4_act_64 n (k + 1) js (upd ml (nI k).toNatClampNeg (vp_nar .boolean (1 : Int32))) (lf_X4_act_100 (js.toNatClampNeg + 1) 0 js mh ((f_X4_move ((f_X4_lookAtRow mh mo mb (nI k)).1) ((f_X4_lookAtRow mh mo mb (nI k)).2) x1).2) (nI k)) ((f_X4_move ((f_X4_lookAtRow mh mo mb (nI k)).1) ((f_X4_lookAtRow mh mo mb (nI k)).2) x1).2) ((f_X4_lookAtRow mh mo mb (nI k)).2) x1 x3)) ∧ (¬ (f_X4_sight js ((f_X4_move ((f_X4_lookAtRow mh mo mb (nI k)).1) ((f_X4_lookAtRow mh mo mb (nI k)).2) x1).2) ((f_X4_lookAtRow mh mo mb (nI k)).2)) = x3 → (sf_X4_act_64 n (k + 1) js (upd ml (nI k).toNatClampNeg (vp_nar .boolean (0 : Int32))) (lf_X4_act_100 (js.toNatClampNeg + 1) 0 js mh ((f_X4_move ((f_X4_lookAtRow mh mo mb (nI k)).1) ((f_X4_lookAtRow mh mo mb (nI k)).2) x1).2) (nI k)) ((f_X4_move ((f_X4_lookAtRow mh mo mb (nI k)).1) ((f_X4_lookAtRow mh mo mb (nI k)).2) x1).2) ((f_X4_lookAtRow mh mo mb (nI k)).2) x1 x3)))))))
theorem sf_X4_act_64_succ (n k : Nat) (js : Int32) (ml : Nat → Int32) (mh : Nat → Int32) (mo : Nat → Int32) (mb : Nat → Int32) (x1 : Int32) (x3 : Int32) : sf_X4_act_64 (n + 1) k js ml mh mo mb x1 x3 = ((((1000 : Int32) ≤ (nI k) → True) ∧ (¬ (1000 : Int32) ≤ (nI k) → (((ml (nI k).toNatClampNeg) = (0 : Int32) → (sf_X4_act_64 n (k + 1) js ml mh mo mb x1 x3)) ∧ (¬ (ml (nI k).toNatClampNeg) = (0 : Int32) → (s_X4_lookAtRow (nI k)) ∧ (s_X4_move x1) ∧ (sf_X4_act_100 (js.toNatClampNeg + 1) 0 js (nI k)) ∧ (s_X4_sight js ((f_X4_move ((f_X4_lookAtRow mh mo mb (nI k)).1) ((f_X4_lookAtRow mh mo mb (nI k)).2) x1).2) ((f_X4_lookAtRow mh mo mb (nI k)).2)) ∧ (((f_X4_sight js ((f_X4_move ((f_X4_lookAtRow mh mo mb (nI k)).1) ((f_X4_lookAtRow mh mo mb (nI k)).2) x1).2) ((f_X4_lookAtRow mh mo mb (nI k)).2)) = x3 → (sf_X4_act_64 n (k + 1) js (upd ml (nI k).toNatClampNeg (vp_nar .boolean (1 : Int32))) (lf_X4_act_100 (js.toNatClampNeg + 1) 0 js mh ((f_X4_move ((f_X4_lookAtRow mh mo mb (nI k)).1) ((f_X4_lookAtRow mh mo mb (nI k)).2) x1).2) (nI k)) ((f_X4_move ((f_X4_lookAtRow mh mo mb (nI k)).1) ((f_X4_lookAtRow mh mo mb (nI k)).2) x1).2) ((f_X4_lookAtRow mh mo mb (nI k)).2) x1 x3)) ∧ (¬ (f_X4_sight js ((f_X4_move ((f_X4_lookAtRow mh mo mb (nI k)).1) ((f_X4_lookAtRow mh mo mb (nI k)).2) x1).2) ((f_X4_lookAtRow mh mo mb (nI k)).2)) = x3 → (sf_X4_act_64 n (k + 1) js (upd ml (nI k).toNatClampNeg (vp_nar .boolean (0 : Int32))) (lf_X4_act_100 (js.toNatClampNeg + 1) 0 js mh ((f_X4_move ((f_X4_lookAtRow mh mo mb (nI k)).1) ((f_X4_lookAtRow mh mo mb (nI k)).2) x1).2) (nI k)) ((f_X4_move ((f_X4_lookAtRow mh mo mb (nI k)).1) ((f_X4_lookAtRow mh mo mb (nI k)).2) x1).2) ((f_X4_lookAtRow mh mo mb (nI k)).2) x1 x3)))))))) := rfl
def s_X4_act (js : Int32) (mv : Nat → Int32) (ma : Nat → Int32) (ml : Nat → Int32) (mh : Nat → Int32) (mo : Nat → Int32) (mb : Nat → Int32) (p1 : Int32) : Prop := (s_X4_move p1) ∧ (s_X4_sight js ((f_X4_move ((f_X4_lookAtState mv mo mb (f_X4_state ma)).1) ((f_X4_lookAtState mv mo mb (f_X4_state ma)).2) p1).2) ((f_X4_lookAtState mv mo mb (f_X4_state ma)).2)) ∧ (sf_X4_act_22 (js.toNatClampNeg + 1) 0 js) ∧ (sf_X4_act_64 1001 0 js ml mh ((f_X4_move ((f_X4_lookAtState mv mo mb (f_X4_state ma)).1) ((f_X4_lookAtState mv mo mb (f_X4_state ma)).2) p1).2) ((f_X4_lookAtState mv mo mb (f_X4_state ma)).2) p1 (f_X4_act_t1 js mv ma mo mb p1))
abbrev rm_X4_act : Room := { frames := 2, cells := 0, slots := 0, locals := 43 }
theorem zd_X4_act : yX4_act.cls = RX4 ∧ yX4_act.cls ≠ "java/lang/invoke/MethodHandle" ∧ yX4_act.cls ≠ "java/lang/invoke/VarHandle" ∧ (parseMethodDescriptor yX4_act.desc).map (fun d => d.parameters.length) = some 1 := by decide +kernel
theorem in_X4_act_X4 : ∀ w ∈ u_ws RX4 TX4 18, w ∈ wsX4_act := by decide +kernel
set_option maxHeartbeats 4000000 in
set_option maxRecDepth 100000 in
theorem l_X4_act_22 {p : Program} {l : Launch} {e : Env} {s : State} {m : MethodId} {args : Array Value} {below : List Frame} {meth : Method} {c : Code} {A : Nat → Prop} {Q : State → Prop} {G : zG} (F : CallFix p m c cX4_act 6 s args wsX4_act RX4) (hr : meth.sig.returnType = (some .int)) (hlocks : meth.locks = false) (hK : zK G s) (hA : ∀ q : Nat, s.heap.size ≤ q → A q) (mh0 mvq maq mlq mhq mfq mrq moq mbq msq : Nat) :
    ∀ (n k : Nat) (th : Int32) (js : Int32) (mv : Nat → Int32) (ma : Nat → Int32) (ac : Int32) (po : Int32) (si : Int32) (ta : Int32) (ml : Nat → Int32) (mh : Nat → Int32) (gu : Int32) (wr : Int32) (mf : Nat → Int32) (mr : Nat → Int32) (re : Int32) (mo : Nat → Int32) (mb : Nat → Int32) (ms : Nat → Int32) (x1 : Int32) (x2 : Int32) (x3 : Int32), k + n = js.toNatClampNeg + 1 → k ≤ js.toNatClampNeg → (sf_X4_act_22 n k js) → ∀ (H : Heap) (locs : List Loc) (ls : Array Slot), va_P G.1 vwCl (w_X4 G mh0 mvq maq mlq mhq mfq mrq moq mbq msq th js mv ma ac po si ta ml mh gu wr mf mr re mo mb ms) H → va_D A (w_X4 G mh0 mvq maq mlq mhq mfq mrq moq mbq msq th js mv ma ac po si ta ml mh gu wr mf mr re mo mb ms) → va_S A s.heap H locs → lv_has ls 6 [(0, .ref mh0), (1, .int x1), (2, .int x2), (3, .int x3), (4, .int (nI k))] → (∀ (H : Heap) (locs : List Loc) (ls : Array Slot), va_P G.1 vwCl (w_X4 G mh0 mvq maq mlq mhq mfq mrq moq mbq msq th js mv (lf_X4_act_22 n k js ma mo) ac po si ta ml mh gu wr mf mr re mo mb ms) H → va_D A (w_X4 G mh0 mvq maq mlq mhq mfq mrq moq mbq msq th js mv (lf_X4_act_22 n k js ma mo) ac po si ta ml mh gu wr mf mr re mo mb ms) → va_S A s.heap H locs → lv_has ls 6 [(0, .ref mh0), (1, .int x1), (2, .int x2), (3, .int x3)] → W p l e rm_X4_act s m args below meth c H locs 0 0 Q (F0 m 51 ls [])) → W p l e rm_X4_act s m args below meth c H locs 0 0 Q (F0 m 22 ls []) := by
  obtain ⟨hx, hb, hml, hown, hts⟩ := id F
  intro n
  induction n with
  | zero => intro k th js mv ma ac po si ta ml mh gu wr mf mr re mo mb ms x1 x2 x3 h1 h2; omega
  | succ n IH9 =>
    intro k th js mv ma ac po si ta ml mh gu wr mf mr re mo mb ms x1 x2 x3 hkn hkN hs H locs ls hP hD hS hl kk
    have hs : ((js ≤ (nI k) → True) ∧ (¬ js ≤ (nI k) → vp_in (nI k) 3 ∧ vp_in (nI k) 3 ∧ (sf_X4_act_22 n (k + 1) js))) := hs
    refine lv_iload hx hb dX4_act_22 (lv_at hl 4 rfl) ?_
    refine lv_aload_n hx hb dX4_act_24 rfl (lv_at hl 0 rfl) ?_
    refine va_get (D := G.1) (ci := 4) (v := .int js) (C := RX4) (T := TX4) (N := 18) hx hb hts in_X4_act_X4 hown hK.1 hP 0 rfl rfl 1 (by decide) (hts (.fieldLink RX4 46 "JarRiddleModel" "jars" "I") (by decide +kernel)) (fun _ h9 => h9) rfl dX4_act_25 ?_
    refine lv_icmp_ge (tgt := 51) hx hb dX4_act_28 (by decide) (fun (c_3 : js ≤ (nI k)) => ?_) (fun (c_3 : ¬ js ≤ (nI k)) => ?_)
    · have e9 : (lf_X4_act_22 (n + 1) k js ma mo) = ma := (lf_X4_act_22_succ n k js ma mo).trans ((if_pos c_3).trans (rfl))
      rw [e9] at kk
      exact kk H locs ls hP hD hS (lv_sub hl [0, 1, 2, 3] rfl)
    · have hs := hs.2 c_3
      refine lv_aload_n hx hb dX4_act_31 rfl (lv_at hl 0 rfl) ?_
      refine va_get (D := G.1) (ci := 4) (v := .ref maq) (C := RX4) (T := TX4) (N := 18) hx hb hts in_X4_act_X4 hown hK.1 hP 0 rfl rfl 3 (by decide) (hts (.fieldLink RX4 13 "JarRiddleModel" "amount" "[I") (by decide +kernel)) (fun _ h9 => h9) rfl dX4_act_32 ?_
      refine lv_iload hx hb dX4_act_35 (lv_at hl 4 rfl) ?_
      refine lv_aload_n hx hb dX4_act_37 rfl (lv_at hl 0 rfl) ?_
      refine va_get (D := G.1) (ci := 4) (v := .ref moq) (C := RX4) (T := TX4) (N := 18) hx hb hts in_X4_act_X4 hown hK.1 hP 0 rfl rfl 15 (by decide) (hts (.fieldLink RX4 29 "JarRiddleModel" "one" "[I") (by decide +kernel)) (fun _ h9 => h9) rfl dX4_act_38 ?_
      refine lv_iload hx hb dX4_act_41 (lv_at hl 4 rfl) ?_
      obtain ⟨h_4, hs⟩ := hs
      refine va_iald hx hb hK.1 hP 7 0 rfl rfl h_4 dX4_act_43 ?_
      obtain ⟨h_5, hs⟩ := hs
      refine va_iast hx hb hK.1 hP hD hS 2 0 rfl rfl h_5 dX4_act_44 (fun H locs hP hD hS => ?_)
      have hP : va_P G.1 vwCl (w_X4 G mh0 mvq maq mlq mhq mfq mrq moq mbq msq th js mv (upd ma (nI k).toNatClampNeg (mo (nI k).toNatClampNeg)) ac po si ta ml mh gu wr mf mr re mo mb ms) H := hP
      have hD : va_D A (w_X4 G mh0 mvq maq mlq mhq mfq mrq moq mbq msq th js mv (upd ma (nI k).toNatClampNeg (mo (nI k).toNatClampNeg)) ac po si ta ml mh gu wr mf mr re mo mb ms) := hD
      refine lv_iinc (v := (nI (k + 1))) (lv' := [(4, .int (nI (k + 1))), (0, .ref mh0), (1, .int x1), (2, .int x2), (3, .int x3)]) hx hb dX4_act_45 hl (k := 4) rfl (nI_1 k) (by decide) rfl (fun ls hl => ?_)
      refine lv_goto (tgt := 22) hx hb dX4_act_48 (by decide) ?_
      have e9 : (lf_X4_act_22 (n + 1) k js ma mo) = (lf_X4_act_22 n (k + 1) js (upd ma (nI k).toNatClampNeg (mo (nI k).toNatClampNeg)) mo) := (lf_X4_act_22_succ n k js ma mo).trans ((if_neg c_3).trans (rfl))
      rw [e9] at kk
      have h9 := zk_lt (N := js.toNatClampNeg) (by have := zk_cl js; omega) rfl c_3
      exact IH9 (k + 1) th js mv (upd ma (nI k).toNatClampNeg (mo (nI k).toNatClampNeg)) ac po si ta ml mh gu wr mf mr re mo mb ms x1 x2 x3 (by omega) (by omega) hs H locs ls hP hD hS (lv_sub hl [1, 2, 3, 4, 0] rfl) kk
set_option maxHeartbeats 4000000 in
set_option maxRecDepth 100000 in
theorem l_X4_act_100 {p : Program} {l : Launch} {e : Env} {s : State} {m : MethodId} {args : Array Value} {below : List Frame} {meth : Method} {c : Code} {A : Nat → Prop} {Q : State → Prop} {G : zG} (F : CallFix p m c cX4_act 6 s args wsX4_act RX4) (hr : meth.sig.returnType = (some .int)) (hlocks : meth.locks = false) (hK : zK G s) (hA : ∀ q : Nat, s.heap.size ≤ q → A q) (mh0 mvq maq mlq mhq mfq mrq moq mbq msq : Nat) :
    ∀ (n k : Nat) (th : Int32) (js : Int32) (mv : Nat → Int32) (ma : Nat → Int32) (ac : Int32) (po : Int32) (si : Int32) (ta : Int32) (ml : Nat → Int32) (mh : Nat → Int32) (gu : Int32) (wr : Int32) (mf : Nat → Int32) (mr : Nat → Int32) (re : Int32) (mo : Nat → Int32) (mb : Nat → Int32) (ms : Nat → Int32) (x1 : Int32) (x2 : Int32) (x3 : Int32) (x4 : Int32), k + n = js.toNatClampNeg + 1 → k ≤ js.toNatClampNeg → (sf_X4_act_100 n k js x4) → ∀ (H : Heap) (locs : List Loc) (ls : Array Slot), va_P G.1 vwCl (w_X4 G mh0 mvq maq mlq mhq mfq mrq moq mbq msq th js mv ma ac po si ta ml mh gu wr mf mr re mo mb ms) H → va_D A (w_X4 G mh0 mvq maq mlq mhq mfq mrq moq mbq msq th js mv ma ac po si ta ml mh gu wr mf mr re mo mb ms) → va_S A s.heap H locs → lv_has ls 6 [(0, .ref mh0), (1, .int x1), (2, .int x2), (3, .int x3), (4, .int x4), (5, .int (nI k))] → (∀ (H : Heap) (locs : List Loc) (ls : Array Slot), va_P G.1 vwCl (w_X4 G mh0 mvq maq mlq mhq mfq mrq moq mbq msq th js mv ma ac po si ta ml (lf_X4_act_100 n k js mh mo x4) gu wr mf mr re mo mb ms) H → va_D A (w_X4 G mh0 mvq maq mlq mhq mfq mrq moq mbq msq th js mv ma ac po si ta ml (lf_X4_act_100 n k js mh mo x4) gu wr mf mr re mo mb ms) → va_S A s.heap H locs → lv_has ls 6 [(0, .ref mh0), (1, .int x1), (2, .int x2), (3, .int x3), (4, .int x4)] → W p l e rm_X4_act s m args below meth c H locs 0 0 Q (F0 m 134 ls [])) → W p l e rm_X4_act s m args below meth c H locs 0 0 Q (F0 m 100 ls []) := by
  obtain ⟨hx, hb, hml, hown, hts⟩ := id F
  intro n
  induction n with
  | zero => intro k th js mv ma ac po si ta ml mh gu wr mf mr re mo mb ms x1 x2 x3 x4 h1 h2; omega
  | succ n IH9 =>
    intro k th js mv ma ac po si ta ml mh gu wr mf mr re mo mb ms x1 x2 x3 x4 hkn hkN hs H locs ls hP hD hS hl kk
    have hs : ((js ≤ (nI k) → True) ∧ (¬ js ≤ (nI k) → vp_in (nI k) 3 ∧ vp_in (((3 : Int32) * x4) + (nI k)) 3000 ∧ (sf_X4_act_100 n (k + 1) js x4))) := hs
    refine lv_iload hx hb dX4_act_100 (lv_at hl 5 rfl) ?_
    refine lv_aload_n hx hb dX4_act_102 rfl (lv_at hl 0 rfl) ?_
    refine va_get (D := G.1) (ci := 4) (v := .int js) (C := RX4) (T := TX4) (N := 18) hx hb hts in_X4_act_X4 hown hK.1 hP 0 rfl rfl 1 (by decide) (hts (.fieldLink RX4 46 "JarRiddleModel" "jars" "I") (by decide +kernel)) (fun _ h9 => h9) rfl dX4_act_103 ?_
    refine lv_icmp_ge (tgt := 134) hx hb dX4_act_106 (by decide) (fun (c_10 : js ≤ (nI k)) => ?_) (fun (c_10 : ¬ js ≤ (nI k)) => ?_)
    · have e9 : (lf_X4_act_100 (n + 1) k js mh mo x4) = mh := (lf_X4_act_100_succ n k js mh mo x4).trans ((if_pos c_10).trans (rfl))
      rw [e9] at kk
      exact kk H locs ls hP hD hS (lv_sub hl [0, 1, 2, 3, 4] rfl)
    · have hs := hs.2 c_10
      refine lv_aload_n hx hb dX4_act_109 rfl (lv_at hl 0 rfl) ?_
      refine va_get (D := G.1) (ci := 4) (v := .ref mhq) (C := RX4) (T := TX4) (N := 18) hx hb hts in_X4_act_X4 hown hK.1 hP 0 rfl rfl 9 (by decide) (hts (.fieldLink RX4 20 "JarRiddleModel" "held" "[I") (by decide +kernel)) (fun _ h9 => h9) rfl dX4_act_110 ?_
      refine lv_iconst (v := (3 : Int32)) hx hb dX4_act_113 (by decide) ?_
      refine lv_iload hx hb dX4_act_114 (lv_at hl 4 rfl) ?_
      refine lv_imul hx hb dX4_act_116 ?_
      refine lv_iload hx hb dX4_act_117 (lv_at hl 5 rfl) ?_
      refine lv_iadd hx hb dX4_act_119 ?_
      refine lv_aload_n hx hb dX4_act_120 rfl (lv_at hl 0 rfl) ?_
      refine va_get (D := G.1) (ci := 4) (v := .ref moq) (C := RX4) (T := TX4) (N := 18) hx hb hts in_X4_act_X4 hown hK.1 hP 0 rfl rfl 15 (by decide) (hts (.fieldLink RX4 29 "JarRiddleModel" "one" "[I") (by decide +kernel)) (fun _ h9 => h9) rfl dX4_act_121 ?_
      refine lv_iload hx hb dX4_act_124 (lv_at hl 5 rfl) ?_
      obtain ⟨h_11, hs⟩ := hs
      refine va_iald hx hb hK.1 hP 7 0 rfl rfl h_11 dX4_act_126 ?_
      obtain ⟨h_12, hs⟩ := hs
      refine va_iast hx hb hK.1 hP hD hS 4 0 rfl rfl h_12 dX4_act_127 (fun H locs hP hD hS => ?_)
      have hP : va_P G.1 vwCl (w_X4 G mh0 mvq maq mlq mhq mfq mrq moq mbq msq th js mv ma ac po si ta ml (upd mh (((3 : Int32) * x4) + (nI k)).toNatClampNeg (mo (nI k).toNatClampNeg)) gu wr mf mr re mo mb ms) H := hP
      have hD : va_D A (w_X4 G mh0 mvq maq mlq mhq mfq mrq moq mbq msq th js mv ma ac po si ta ml (upd mh (((3 : Int32) * x4) + (nI k)).toNatClampNeg (mo (nI k).toNatClampNeg)) gu wr mf mr re mo mb ms) := hD
      refine lv_iinc (v := (nI (k + 1))) (lv' := [(5, .int (nI (k + 1))), (0, .ref mh0), (1, .int x1), (2, .int x2), (3, .int x3), (4, .int x4)]) hx hb dX4_act_128 hl (k := 5) rfl (nI_1 k) (by decide) rfl (fun ls hl => ?_)
      refine lv_goto (tgt := 100) hx hb dX4_act_131 (by decide) ?_
      have e9 : (lf_X4_act_100 (n + 1) k js mh mo x4) = (lf_X4_act_100 n (k + 1) js (upd mh (((3 : Int32) * x4) + (nI k)).toNatClampNeg (mo (nI k).toNatClampNeg)) mo x4) := (lf_X4_act_100_succ n k js mh mo x4).trans ((if_neg c_10).trans (rfl))
      rw [e9] at kk
      have h9 := zk_lt (N := js.toNatClampNeg) (by have := zk_cl js; omega) rfl c_10
      exact IH9 (k + 1) th js mv ma ac po si ta ml (upd mh (((3 : Int32) * x4) + (nI k)).toNatClampNeg (mo (nI k).toNatClampNeg)) gu wr mf mr re mo mb ms x1 x2 x3 x4 (by omega) (by omega) hs H locs ls hP hD hS (lv_sub hl [1, 2, 3, 4, 5, 0] rfl) kk
set_option maxHeartbeats 4000000 in
set_option maxRecDepth 100000 in
theorem l_X4_act_64 {p : Program} {l : Launch} {e : Env} {s : State} {m : MethodId} {args : Array Value} {below : List Frame} {meth : Method} {c : Code} {A : Nat → Prop} {Q : State → Prop} {G : zG} (F : CallFix p m c cX4_act 6 s args wsX4_act RX4) (hr : meth.sig.returnType = (some .int)) (hlocks : meth.locks = false) (hK : zK G s) (hA : ∀ q : Nat, s.heap.size ≤ q → A q) (mh0 mvq maq mlq mhq mfq mrq moq mbq msq : Nat) :
    ∀ (n k : Nat) (th : Int32) (js : Int32) (mv : Nat → Int32) (ma : Nat → Int32) (ac : Int32) (po : Int32) (si : Int32) (ta : Int32) (ml : Nat → Int32) (mh : Nat → Int32) (gu : Int32) (wr : Int32) (mf : Nat → Int32) (mr : Nat → Int32) (re : Int32) (mo : Nat → Int32) (mb : Nat → Int32) (ms : Nat → Int32) (x1 : Int32) (x2 : Int32) (x3 : Int32), k + n = 1000 + 1 → k ≤ 1000 → (sf_X4_act_64 n k js ml mh mo mb x1 x3) → ∀ (H : Heap) (locs : List Loc) (ls : Array Slot), va_P G.1 vwCl (w_X4 G mh0 mvq maq mlq mhq mfq mrq moq mbq msq th js mv ma ac po si ta ml mh gu wr mf mr re mo mb ms) H → va_D A (w_X4 G mh0 mvq maq mlq mhq mfq mrq moq mbq msq th js mv ma ac po si ta ml mh gu wr mf mr re mo mb ms) → va_S A s.heap H locs → lv_has ls 6 [(0, .ref mh0), (1, .int x1), (2, .int x2), (3, .int x3), (4, .int (nI k))] → (∀ (H : Heap) (locs : List Loc) (ls : Array Slot), va_P G.1 vwCl (w_X4 G mh0 mvq maq mlq mhq mfq mrq moq mbq msq th js mv ma ac po si ta ((lf_X4_act_64 n k js ml mh mo mb x1 x3).1) ((lf_X4_act_64 n k js ml mh mo mb x1 x3).2.1) gu wr mf mr re ((lf_X4_act_64 n k js ml mh mo mb x1 x3).2.2.1) ((lf_X4_act_64 n k js ml mh mo mb x1 x3).2.2.2) ms) H → va_D A (w_X4 G mh0 mvq maq mlq mhq mfq mrq moq mbq msq th js mv ma ac po si ta ((lf_X4_act_64 n k js ml mh mo mb x1 x3).1) ((lf_X4_act_64 n k js ml mh mo mb x1 x3).2.1) gu wr mf mr re ((lf_X4_act_64 n k js ml mh mo mb x1 x3).2.2.1) ((lf_X4_act_64 n k js ml mh mo mb x1 x3).2.2.2) ms) → va_S A s.heap H locs → lv_has ls 6 [(2, .int x2)] → W p l e rm_X4_act s m args below meth c H locs 0 0 Q (F0 m 160 ls [])) → W p l e rm_X4_act s m args below meth c H locs 0 0 Q (F0 m 64 ls []) := by
  obtain ⟨hx, hb, hml, hown, hts⟩ := id F
  intro n
  induction n with
  | zero => intro k th js mv ma ac po si ta ml mh gu wr mf mr re mo mb ms x1 x2 x3 h1 h2; omega
  | succ n IH9 =>
    intro k th js mv ma ac po si ta ml mh gu wr mf mr re mo mb ms x1 x2 x3 hkn hkN hs H locs ls hP hD hS hl kk
    have hs : (((1000 : Int32) ≤ (nI k) → True) ∧ (¬ (1000 : Int32) ≤ (nI k) → (((ml (nI k).toNatClampNeg) = (0 : Int32) → (sf_X4_act_64 n (k + 1) js ml mh mo mb x1 x3)) ∧ (¬ (ml (nI k).toNatClampNeg) = (0 : Int32) → (s_X4_lookAtRow (nI k)) ∧ (s_X4_move x1) ∧ (sf_X4_act_100 (js.toNatClampNeg + 1) 0 js (nI k)) ∧ (s_X4_sight js ((f_X4_move ((f_X4_lookAtRow mh mo mb (nI k)).1) ((f_X4_lookAtRow mh mo mb (nI k)).2) x1).2) ((f_X4_lookAtRow mh mo mb (nI k)).2)) ∧ (((f_X4_sight js ((f_X4_move ((f_X4_lookAtRow mh mo mb (nI k)).1) ((f_X4_lookAtRow mh mo mb (nI k)).2) x1).2) ((f_X4_lookAtRow mh mo mb (nI k)).2)) = x3 → (sf_X4_act_64 n (k + 1) js (upd ml (nI k).toNatClampNeg (vp_nar .boolean (1 : Int32))) (lf_X4_act_100 (js.toNatClampNeg + 1) 0 js mh ((f_X4_move ((f_X4_lookAtRow mh mo mb (nI k)).1) ((f_X4_lookAtRow mh mo mb (nI k)).2) x1).2) (nI k)) ((f_X4_move ((f_X4_lookAtRow mh mo mb (nI k)).1) ((f_X4_lookAtRow mh mo mb (nI k)).2) x1).2) ((f_X4_lookAtRow mh mo mb (nI k)).2) x1 x3)) ∧ (¬ (f_X4_sight js ((f_X4_move ((f_X4_lookAtRow mh mo mb (nI k)).1) ((f_X4_lookAtRow mh mo mb (nI k)).2) x1).2) ((f_X4_lookAtRow mh mo mb (nI k)).2)) = x3 → (sf_X4_act_64 n (k + 1) js (upd ml (nI k).toNatClampNeg (vp_nar .boolean (0 : Int32))) (lf_X4_act_100 (js.toNatClampNeg + 1) 0 js mh ((f_X4_move ((f_X4_lookAtRow mh mo mb (nI k)).1) ((f_X4_lookAtRow mh mo mb (nI k)).2) x1).2) (nI k)) ((f_X4_move ((f_X4_lookAtRow mh mo mb (nI k)).1) ((f_X4_lookAtRow mh mo mb (nI k)).2) x1).2) ((f_X4_lookAtRow mh mo mb (nI k)).2) x1 x3))))))) := hs
    refine lv_iload hx hb dX4_act_64 (lv_at hl 4 rfl) ?_
    refine lv_sipush (v := (1000 : Int32)) hx hb dX4_act_66 (by decide) ?_
    refine lv_icmp_ge (tgt := 160) hx hb dX4_act_69 (by decide) (fun (c_6 : (1000 : Int32) ≤ (nI k)) => ?_) (fun (c_6 : ¬ (1000 : Int32) ≤ (nI k)) => ?_)
    · have e9 : (lf_X4_act_64 (n + 1) k js ml mh mo mb x1 x3) = (ml, mh, mo, mb) := (lf_X4_act_64_succ n k js ml mh mo mb x1 x3).trans ((if_pos c_6).trans (rfl))
      rw [e9] at kk
      dsimp only at kk
      exact kk H locs ls hP hD hS (lv_sub hl [2] rfl)
    · have hs := hs.2 c_6
      refine lv_aload_n hx hb dX4_act_72 rfl (lv_at hl 0 rfl) ?_
      refine va_get (D := G.1) (ci := 4) (v := .ref mlq) (C := RX4) (T := TX4) (N := 18) hx hb hts in_X4_act_X4 hown hK.1 hP 0 rfl rfl 8 (by decide) (hts (.fieldLink RX4 16 "JarRiddleModel" "isLeft" "[Z") (by decide +kernel)) (fun _ h9 => h9) rfl dX4_act_73 ?_
      refine lv_iload hx hb dX4_act_76 (lv_at hl 4 rfl) ?_
      refine va_zald hx hb hK.1 hP 3 1 rfl rfl (vp_in_nI (Nat.lt_of_lt_of_le (zk_lt (N := 1000) (by omega) rfl c_6) (by decide)) (by decide) : vp_in (nI k) 1000) dX4_act_78 ?_
      refine lv_if_ne (tgt := 85) hx hb dX4_act_79 (by decide) (fun (c_7 : ¬ (ml (nI k).toNatClampNeg) = (0 : Int32)) => ?_) (fun (c_7 : (ml (nI k).toNatClampNeg) = (0 : Int32)) => ?_)
      · have hs := hs.2 c_7
        refine lv_aload_n hx hb dX4_act_85 rfl (lv_at hl 0 rfl) ?_
        refine lv_iload hx hb dX4_act_86 (lv_at hl 4 rfl) ?_
        obtain ⟨h_8, hs⟩ := hs
        refine z_callV (As := [.int (nI k)]) (rest := []) (wr := ([] : va_W)) (w1 := fun _ : Unit => (w_X4 G mh0 mvq maq mlq mhq mfq mrq moq mbq msq th js mv ma ac po si ta ml mh gu wr mf mr re ((f_X4_lookAtRow mh mo mb (nI k)).1) ((f_X4_lookAtRow mh mo mb (nI k)).2) ms)) (wj := fun _ : Unit => (w_X4 G mh0 mvq maq mlq mhq mfq mrq moq mbq msq th js mv ma ac po si ta ml mh gu wr mf mr re (f_X4_lookAtRow mh mo mb (nI k)).1 (f_X4_lookAtRow mh mo mb (nI k)).2 ms)) (ci := 4) (q0 := 0) F (c_X4_lookAtRow l G mh0 mvq maq mlq mhq mfq mrq moq mbq msq th js mv ma ac po si ta ml mh gu wr mf mr re mo mb ms (nI k) h_8) gX4_act_X4_lookAtRow rfl rfl rfl zd_X4_lookAtRow ⟨Nat.le_of_ble_eq_true rfl, Nat.le_of_ble_eq_true rfl⟩ rfl rfl (Nat.le_of_ble_eq_true rfl) dX4_act_88 ⟨Nat.le_of_ble_eq_true rfl, Nat.le_of_ble_eq_true rfl⟩ hK hP hD hS hA hl.1 rfl rfl [0, 1, 2, 3, 4, 5, 6, 7, 8, 9] [] [0, 1, 2, 3, 4, 5, 6, 7, 8, 9] rfl rfl rfl rfl (by decide) rfl (fun _ => rfl) (fun _ H locs hP hD hS => ?_)
        have hP : va_P G.1 vwCl (w_X4 G mh0 mvq maq mlq mhq mfq mrq moq mbq msq th js mv ma ac po si ta ml mh gu wr mf mr re (f_X4_lookAtRow mh mo mb (nI k)).1 (f_X4_lookAtRow mh mo mb (nI k)).2 ms) H := hP
        have hD : va_D A (w_X4 G mh0 mvq maq mlq mhq mfq mrq moq mbq msq th js mv ma ac po si ta ml mh gu wr mf mr re (f_X4_lookAtRow mh mo mb (nI k)).1 (f_X4_lookAtRow mh mo mb (nI k)).2 ms) := hD
        refine lv_aload_n hx hb dX4_act_91 rfl (lv_at hl 0 rfl) ?_
        refine lv_iload_n hx hb dX4_act_92 rfl (lv_at hl 1 rfl) ?_
        obtain ⟨h_9, hs⟩ := hs
        refine z_callV (As := [.int x1]) (rest := []) (wr := ([] : va_W)) (w1 := fun _ : Unit => (w_X4 G mh0 mvq maq mlq mhq mfq mrq moq mbq msq th js mv ma ac po si ta ml mh gu wr mf mr re ((f_X4_move ((f_X4_lookAtRow mh mo mb (nI k)).1) ((f_X4_lookAtRow mh mo mb (nI k)).2) x1).2) ((f_X4_lookAtRow mh mo mb (nI k)).2) ms)) (wj := fun _ : Unit => (w_X4 G mh0 mvq maq mlq mhq mfq mrq moq mbq msq th js mv ma ac po si ta ml mh gu wr mf mr re (f_X4_move ((f_X4_lookAtRow mh mo mb (nI k)).1) ((f_X4_lookAtRow mh mo mb (nI k)).2) x1).2 (f_X4_lookAtRow mh mo mb (nI k)).2 ms)) (ci := 4) (q0 := 0) F (c_X4_move l G mh0 mvq maq mlq mhq mfq mrq moq mbq msq th js mv ma ac po si ta ml mh gu wr mf mr re ((f_X4_lookAtRow mh mo mb (nI k)).1) ((f_X4_lookAtRow mh mo mb (nI k)).2) ms x1 h_9) gX4_act_X4_move rfl rfl rfl zd_X4_move ⟨Nat.le_of_ble_eq_true rfl, Nat.le_of_ble_eq_true rfl⟩ rfl rfl (Nat.le_of_ble_eq_true rfl) dX4_act_93 ⟨Nat.le_of_ble_eq_true rfl, Nat.le_of_ble_eq_true rfl⟩ hK hP hD hS hA hl.1 rfl rfl [0, 1, 2, 3, 4, 5, 6, 7, 8, 9] [] [0, 1, 2, 3, 4, 5, 6, 7, 8, 9] rfl rfl rfl rfl (by decide) rfl (fun _ => rfl) (fun _ H locs hP hD hS => ?_)
        have hP : va_P G.1 vwCl (w_X4 G mh0 mvq maq mlq mhq mfq mrq moq mbq msq th js mv ma ac po si ta ml mh gu wr mf mr re (f_X4_move ((f_X4_lookAtRow mh mo mb (nI k)).1) ((f_X4_lookAtRow mh mo mb (nI k)).2) x1).2 (f_X4_lookAtRow mh mo mb (nI k)).2 ms) H := hP
        have hD : va_D A (w_X4 G mh0 mvq maq mlq mhq mfq mrq moq mbq msq th js mv ma ac po si ta ml mh gu wr mf mr re (f_X4_move ((f_X4_lookAtRow mh mo mb (nI k)).1) ((f_X4_lookAtRow mh mo mb (nI k)).2) x1).2 (f_X4_lookAtRow mh mo mb (nI k)).2 ms) := hD
        refine lv_pop hx hb dX4_act_96 rfl ?_
        refine lv_iconst (v := (0 : Int32)) hx hb dX4_act_97 (by decide) ?_
        refine lv_istore (lv' := [(5, .int (0 : Int32)), (0, .ref mh0), (1, .int x1), (2, .int x2), (3, .int x3), (4, .int (nI k))]) hx hb dX4_act_98 hl (by decide) rfl (fun ls hl => ?_)
        obtain ⟨h_15, hs⟩ := hs
        refine l_X4_act_100 F hr hlocks hK hA mh0 mvq maq mlq mhq mfq mrq moq mbq msq (js.toNatClampNeg + 1) 0 th js mv ma ac po si ta ml mh gu wr mf mr re ((f_X4_move ((f_X4_lookAtRow mh mo mb (nI k)).1) ((f_X4_lookAtRow mh mo mb (nI k)).2) x1).2) ((f_X4_lookAtRow mh mo mb (nI k)).2) ms x1 x2 x3 (nI k) (by omega) (by omega) h_15 H locs ls hP hD hS (lv_sub hl [1, 2, 3, 4, 5, 0] rfl) ?_
        intro H locs ls hP hD hS hl
        have hP : va_P G.1 vwCl (w_X4 G mh0 mvq maq mlq mhq mfq mrq moq mbq msq th js mv ma ac po si ta ml (lf_X4_act_100 (js.toNatClampNeg + 1) 0 js mh ((f_X4_move ((f_X4_lookAtRow mh mo mb (nI k)).1) ((f_X4_lookAtRow mh mo mb (nI k)).2) x1).2) (nI k)) gu wr mf mr re (f_X4_move ((f_X4_lookAtRow mh mo mb (nI k)).1) ((f_X4_lookAtRow mh mo mb (nI k)).2) x1).2 (f_X4_lookAtRow mh mo mb (nI k)).2 ms) H := hP
        have hD : va_D A (w_X4 G mh0 mvq maq mlq mhq mfq mrq moq mbq msq th js mv ma ac po si ta ml (lf_X4_act_100 (js.toNatClampNeg + 1) 0 js mh ((f_X4_move ((f_X4_lookAtRow mh mo mb (nI k)).1) ((f_X4_lookAtRow mh mo mb (nI k)).2) x1).2) (nI k)) gu wr mf mr re (f_X4_move ((f_X4_lookAtRow mh mo mb (nI k)).1) ((f_X4_lookAtRow mh mo mb (nI k)).2) x1).2 (f_X4_lookAtRow mh mo mb (nI k)).2 ms) := hD
        have hl : lv_has ls 6 [(0, .ref mh0), (1, .int x1), (2, .int x2), (3, .int x3), (4, .int (nI k))] := hl
        refine lv_aload_n hx hb dX4_act_134 rfl (lv_at hl 0 rfl) ?_
        refine va_get (D := G.1) (ci := 4) (v := .ref mlq) (C := RX4) (T := TX4) (N := 18) hx hb hts in_X4_act_X4 hown hK.1 hP 0 rfl rfl 8 (by decide) (hts (.fieldLink RX4 16 "JarRiddleModel" "isLeft" "[Z") (by decide +kernel)) (fun _ h9 => h9) rfl dX4_act_135 ?_
        refine lv_iload hx hb dX4_act_138 (lv_at hl 4 rfl) ?_
        refine lv_aload_n hx hb dX4_act_140 rfl (lv_at hl 0 rfl) ?_
        obtain ⟨h_13, hs⟩ := hs
        refine z_callV (As := []) (rest := [.int (nI k), .ref mlq]) (wr := ([] : va_W)) (w1 := fun _ : Unit => (w_X4 G mh0 mvq maq mlq mhq mfq mrq moq mbq msq th js mv ma ac po si ta ml (lf_X4_act_100 (js.toNatClampNeg + 1) 0 js mh ((f_X4_move ((f_X4_lookAtRow mh mo mb (nI k)).1) ((f_X4_lookAtRow mh mo mb (nI k)).2) x1).2) (nI k)) gu wr mf mr re ((f_X4_move ((f_X4_lookAtRow mh mo mb (nI k)).1) ((f_X4_lookAtRow mh mo mb (nI k)).2) x1).2) ((f_X4_lookAtRow mh mo mb (nI k)).2) ms)) (wj := fun _ : Unit => (w_X4 G mh0 mvq maq mlq mhq mfq mrq moq mbq msq th js mv ma ac po si ta ml (lf_X4_act_100 (js.toNatClampNeg + 1) 0 js mh ((f_X4_move ((f_X4_lookAtRow mh mo mb (nI k)).1) ((f_X4_lookAtRow mh mo mb (nI k)).2) x1).2) (nI k)) gu wr mf mr re (f_X4_move ((f_X4_lookAtRow mh mo mb (nI k)).1) ((f_X4_lookAtRow mh mo mb (nI k)).2) x1).2 (f_X4_lookAtRow mh mo mb (nI k)).2 ms)) (ci := 4) (q0 := 0) F (c_X4_sight l G mh0 mvq maq mlq mhq mfq mrq moq mbq msq th js mv ma ac po si ta ml (lf_X4_act_100 (js.toNatClampNeg + 1) 0 js mh ((f_X4_move ((f_X4_lookAtRow mh mo mb (nI k)).1) ((f_X4_lookAtRow mh mo mb (nI k)).2) x1).2) (nI k)) gu wr mf mr re ((f_X4_move ((f_X4_lookAtRow mh mo mb (nI k)).1) ((f_X4_lookAtRow mh mo mb (nI k)).2) x1).2) ((f_X4_lookAtRow mh mo mb (nI k)).2) ms h_13) gX4_act_X4_sight rfl rfl rfl zd_X4_sight ⟨Nat.le_of_ble_eq_true rfl, Nat.le_of_ble_eq_true rfl⟩ rfl rfl (Nat.le_of_ble_eq_true rfl) dX4_act_141 ⟨Nat.le_of_ble_eq_true rfl, Nat.le_of_ble_eq_true rfl⟩ hK hP hD hS hA hl.1 rfl rfl [0, 1, 2, 3, 4, 5, 6, 7, 8, 9] [] [0, 1, 2, 3, 4, 5, 6, 7, 8, 9] rfl rfl rfl rfl (by decide) rfl (fun _ => rfl) (fun _ H locs hP hD hS => ?_)
        have hP : va_P G.1 vwCl (w_X4 G mh0 mvq maq mlq mhq mfq mrq moq mbq msq th js mv ma ac po si ta ml (lf_X4_act_100 (js.toNatClampNeg + 1) 0 js mh ((f_X4_move ((f_X4_lookAtRow mh mo mb (nI k)).1) ((f_X4_lookAtRow mh mo mb (nI k)).2) x1).2) (nI k)) gu wr mf mr re (f_X4_move ((f_X4_lookAtRow mh mo mb (nI k)).1) ((f_X4_lookAtRow mh mo mb (nI k)).2) x1).2 (f_X4_lookAtRow mh mo mb (nI k)).2 ms) H := hP
        have hD : va_D A (w_X4 G mh0 mvq maq mlq mhq mfq mrq moq mbq msq th js mv ma ac po si ta ml (lf_X4_act_100 (js.toNatClampNeg + 1) 0 js mh ((f_X4_move ((f_X4_lookAtRow mh mo mb (nI k)).1) ((f_X4_lookAtRow mh mo mb (nI k)).2) x1).2) (nI k)) gu wr mf mr re (f_X4_move ((f_X4_lookAtRow mh mo mb (nI k)).1) ((f_X4_lookAtRow mh mo mb (nI k)).2) x1).2 (f_X4_lookAtRow mh mo mb (nI k)).2 ms) := hD
        refine lv_iload_n hx hb dX4_act_144 rfl (lv_at hl 3 rfl) ?_
        refine lv_icmp_ne (tgt := 152) hx hb dX4_act_145 (by decide) (fun (c_14 : ¬ (f_X4_sight js ((f_X4_move ((f_X4_lookAtRow mh mo mb (nI k)).1) ((f_X4_lookAtRow mh mo mb (nI k)).2) x1).2) ((f_X4_lookAtRow mh mo mb (nI k)).2)) = x3) => ?_) (fun (c_14 : (f_X4_sight js ((f_X4_move ((f_X4_lookAtRow mh mo mb (nI k)).1) ((f_X4_lookAtRow mh mo mb (nI k)).2) x1).2) ((f_X4_lookAtRow mh mo mb (nI k)).2)) = x3) => ?_)
        · have hs := hs.2 c_14
          refine lv_iconst (v := (0 : Int32)) hx hb dX4_act_152 (by decide) ?_
          refine va_zast hx hb hK.1 hP hD hS 3 1 rfl rfl (vp_in_nI (Nat.lt_of_lt_of_le (zk_lt (N := 1000) (by omega) rfl c_6) (by decide)) (by decide) : vp_in (nI k) 1000) dX4_act_153 (fun H locs hP hD hS => ?_)
          have hP : va_P G.1 vwCl (w_X4 G mh0 mvq maq mlq mhq mfq mrq moq mbq msq th js mv ma ac po si ta (upd ml (nI k).toNatClampNeg (vp_nar .boolean (0 : Int32))) (lf_X4_act_100 (js.toNatClampNeg + 1) 0 js mh ((f_X4_move ((f_X4_lookAtRow mh mo mb (nI k)).1) ((f_X4_lookAtRow mh mo mb (nI k)).2) x1).2) (nI k)) gu wr mf mr re (f_X4_move ((f_X4_lookAtRow mh mo mb (nI k)).1) ((f_X4_lookAtRow mh mo mb (nI k)).2) x1).2 (f_X4_lookAtRow mh mo mb (nI k)).2 ms) H := hP
          have hD : va_D A (w_X4 G mh0 mvq maq mlq mhq mfq mrq moq mbq msq th js mv ma ac po si ta (upd ml (nI k).toNatClampNeg (vp_nar .boolean (0 : Int32))) (lf_X4_act_100 (js.toNatClampNeg + 1) 0 js mh ((f_X4_move ((f_X4_lookAtRow mh mo mb (nI k)).1) ((f_X4_lookAtRow mh mo mb (nI k)).2) x1).2) (nI k)) gu wr mf mr re (f_X4_move ((f_X4_lookAtRow mh mo mb (nI k)).1) ((f_X4_lookAtRow mh mo mb (nI k)).2) x1).2 (f_X4_lookAtRow mh mo mb (nI k)).2 ms) := hD
          refine lv_iinc (v := (nI (k + 1))) (lv' := [(4, .int (nI (k + 1))), (0, .ref mh0), (1, .int x1), (2, .int x2), (3, .int x3)]) hx hb dX4_act_154 hl (k := 4) rfl (nI_1 k) (by decide) rfl (fun ls hl => ?_)
          refine lv_goto (tgt := 64) hx hb dX4_act_157 (by decide) ?_
          have e9 : (lf_X4_act_64 (n + 1) k js ml mh mo mb x1 x3) = (lf_X4_act_64 n (k + 1) js (upd ml (nI k).toNatClampNeg (vp_nar .boolean (0 : Int32))) (lf_X4_act_100 (js.toNatClampNeg + 1) 0 js mh ((f_X4_move ((f_X4_lookAtRow mh mo mb (nI k)).1) ((f_X4_lookAtRow mh mo mb (nI k)).2) x1).2) (nI k)) ((f_X4_move ((f_X4_lookAtRow mh mo mb (nI k)).1) ((f_X4_lookAtRow mh mo mb (nI k)).2) x1).2) ((f_X4_lookAtRow mh mo mb (nI k)).2) x1 x3) := (lf_X4_act_64_succ n k js ml mh mo mb x1 x3).trans ((if_neg c_6).trans ((if_neg c_7).trans ((if_neg c_14).trans (rfl))))
          rw [e9] at kk
          have h9 := zk_lt (N := 1000) (by omega) rfl c_6
          exact IH9 (k + 1) th js mv ma ac po si ta (upd ml (nI k).toNatClampNeg (vp_nar .boolean (0 : Int32))) (lf_X4_act_100 (js.toNatClampNeg + 1) 0 js mh ((f_X4_move ((f_X4_lookAtRow mh mo mb (nI k)).1) ((f_X4_lookAtRow mh mo mb (nI k)).2) x1).2) (nI k)) gu wr mf mr re ((f_X4_move ((f_X4_lookAtRow mh mo mb (nI k)).1) ((f_X4_lookAtRow mh mo mb (nI k)).2) x1).2) ((f_X4_lookAtRow mh mo mb (nI k)).2) ms x1 x2 x3 (by omega) (by omega) hs H locs ls hP hD hS (lv_sub hl [1, 2, 3, 4, 0] rfl) kk
        · have hs := hs.1 c_14
          refine lv_iconst (v := (1 : Int32)) hx hb dX4_act_148 (by decide) ?_
          refine lv_goto (tgt := 153) hx hb dX4_act_149 (by decide) ?_
          refine va_zast hx hb hK.1 hP hD hS 3 1 rfl rfl (vp_in_nI (Nat.lt_of_lt_of_le (zk_lt (N := 1000) (by omega) rfl c_6) (by decide)) (by decide) : vp_in (nI k) 1000) dX4_act_153 (fun H locs hP hD hS => ?_)
          have hP : va_P G.1 vwCl (w_X4 G mh0 mvq maq mlq mhq mfq mrq moq mbq msq th js mv ma ac po si ta (upd ml (nI k).toNatClampNeg (vp_nar .boolean (1 : Int32))) (lf_X4_act_100 (js.toNatClampNeg + 1) 0 js mh ((f_X4_move ((f_X4_lookAtRow mh mo mb (nI k)).1) ((f_X4_lookAtRow mh mo mb (nI k)).2) x1).2) (nI k)) gu wr mf mr re (f_X4_move ((f_X4_lookAtRow mh mo mb (nI k)).1) ((f_X4_lookAtRow mh mo mb (nI k)).2) x1).2 (f_X4_lookAtRow mh mo mb (nI k)).2 ms) H := hP
          have hD : va_D A (w_X4 G mh0 mvq maq mlq mhq mfq mrq moq mbq msq th js mv ma ac po si ta (upd ml (nI k).toNatClampNeg (vp_nar .boolean (1 : Int32))) (lf_X4_act_100 (js.toNatClampNeg + 1) 0 js mh ((f_X4_move ((f_X4_lookAtRow mh mo mb (nI k)).1) ((f_X4_lookAtRow mh mo mb (nI k)).2) x1).2) (nI k)) gu wr mf mr re (f_X4_move ((f_X4_lookAtRow mh mo mb (nI k)).1) ((f_X4_lookAtRow mh mo mb (nI k)).2) x1).2 (f_X4_lookAtRow mh mo mb (nI k)).2 ms) := hD
          refine lv_iinc (v := (nI (k + 1))) (lv' := [(4, .int (nI (k + 1))), (0, .ref mh0), (1, .int x1), (2, .int x2), (3, .int x3)]) hx hb dX4_act_154 hl (k := 4) rfl (nI_1 k) (by decide) rfl (fun ls hl => ?_)
          refine lv_goto (tgt := 64) hx hb dX4_act_157 (by decide) ?_
          have e9 : (lf_X4_act_64 (n + 1) k js ml mh mo mb x1 x3) = (lf_X4_act_64 n (k + 1) js (upd ml (nI k).toNatClampNeg (vp_nar .boolean (1 : Int32))) (lf_X4_act_100 (js.toNatClampNeg + 1) 0 js mh ((f_X4_move ((f_X4_lookAtRow mh mo mb (nI k)).1) ((f_X4_lookAtRow mh mo mb (nI k)).2) x1).2) (nI k)) ((f_X4_move ((f_X4_lookAtRow mh mo mb (nI k)).1) ((f_X4_lookAtRow mh mo mb (nI k)).2) x1).2) ((f_X4_lookAtRow mh mo mb (nI k)).2) x1 x3) := (lf_X4_act_64_succ n k js ml mh mo mb x1 x3).trans ((if_neg c_6).trans ((if_neg c_7).trans ((if_pos c_14).trans (rfl))))
          rw [e9] at kk
          have h9 := zk_lt (N := 1000) (by omega) rfl c_6
          exact IH9 (k + 1) th js mv ma ac po si ta (upd ml (nI k).toNatClampNeg (vp_nar .boolean (1 : Int32))) (lf_X4_act_100 (js.toNatClampNeg + 1) 0 js mh ((f_X4_move ((f_X4_lookAtRow mh mo mb (nI k)).1) ((f_X4_lookAtRow mh mo mb (nI k)).2) x1).2) (nI k)) gu wr mf mr re ((f_X4_move ((f_X4_lookAtRow mh mo mb (nI k)).1) ((f_X4_lookAtRow mh mo mb (nI k)).2) x1).2) ((f_X4_lookAtRow mh mo mb (nI k)).2) ms x1 x2 x3 (by omega) (by omega) hs H locs ls hP hD hS (lv_sub hl [1, 2, 3, 4, 0] rfl) kk
      · have hs := hs.1 c_7
        refine lv_goto (tgt := 154) hx hb dX4_act_82 (by decide) ?_
        refine lv_iinc (v := (nI (k + 1))) (lv' := [(4, .int (nI (k + 1))), (0, .ref mh0), (1, .int x1), (2, .int x2), (3, .int x3)]) hx hb dX4_act_154 hl (k := 4) rfl (nI_1 k) (by decide) rfl (fun ls hl => ?_)
        refine lv_goto (tgt := 64) hx hb dX4_act_157 (by decide) ?_
        have e9 : (lf_X4_act_64 (n + 1) k js ml mh mo mb x1 x3) = (lf_X4_act_64 n (k + 1) js ml mh mo mb x1 x3) := (lf_X4_act_64_succ n k js ml mh mo mb x1 x3).trans ((if_neg c_6).trans ((if_pos c_7).trans (rfl)))
        rw [e9] at kk
        have h9 := zk_lt (N := 1000) (by omega) rfl c_6
        exact IH9 (k + 1) th js mv ma ac po si ta ml mh gu wr mf mr re mo mb ms x1 x2 x3 (by omega) (by omega) hs H locs ls hP hD hS (lv_sub hl [1, 2, 3, 4, 0] rfl) kk
set_option maxHeartbeats 4000000 in
set_option maxRecDepth 100000 in
/-- JarRiddleModel.act(I)I -/
theorem c_X4_act (l : Launch) (G : zG) (mh0 mvq maq mlq mhq mfq mrq moq mbq msq : Nat) (th : Int32) (js : Int32) (mv : Nat → Int32) (ma : Nat → Int32) (ac : Int32) (po : Int32) (si : Int32) (ta : Int32) (ml : Nat → Int32) (mh : Nat → Int32) (gu : Int32) (wr : Int32) (mf : Nat → Int32) (mr : Nat → Int32) (re : Int32) (mo : Nat → Int32) (mb : Nat → Int32) (ms : Nat → Int32) (p1 : Int32) (hs : s_X4_act js mv ma ml mh mo mb p1) : zC l G yX4_act wsX4_act rm_X4_act 0 0 [.ref mh0, .int p1] (w_X4 G mh0 mvq maq mlq mhq mfq mrq moq mbq msq th js mv ma ac po si ta ml mh gu wr mf mr re mo mb ms) (some (.int (f_X4_act js mv ma ac ml mh mo mb p1).1)) (fun _ : Unit => (w_X4 G mh0 mvq maq mlq mhq mfq mrq moq mbq msq th js mv ((f_X4_act js mv ma ac ml mh mo mb p1).2.1) ((f_X4_act js mv ma ac ml mh mo mb p1).2.2.1) po si ta ((f_X4_act js mv ma ac ml mh mo mb p1).2.2.2.1) ((f_X4_act js mv ma ac ml mh mo mb p1).2.2.2.2.1) gu wr mf mr re ((f_X4_act js mv ma ac ml mh mo mb p1).2.2.2.2.2.1) ((f_X4_act js mv ma ac ml mh mo mb p1).2.2.2.2.2.2) ms)) := by
  refine z_of (cc := cX4_act) (maxL := 6) (ret := (some .int)) (own := RX4) (by decide) rfl rfl (Nat.le_of_ble_eq_true rfl) ?_
  intro p e s m args below meth c A H locs ls F hr hlocks hname hK hA hP hD hS hl
  obtain ⟨hx, hb, hml, hown, hts⟩ := id F
  have hl : lv_has ls 6 [(0, .ref mh0), (1, .int p1)] := hl
  have hs : (s_X4_move p1) ∧ (s_X4_sight js ((f_X4_move ((f_X4_lookAtState mv mo mb (f_X4_state ma)).1) ((f_X4_lookAtState mv mo mb (f_X4_state ma)).2) p1).2) ((f_X4_lookAtState mv mo mb (f_X4_state ma)).2)) ∧ (sf_X4_act_22 (js.toNatClampNeg + 1) 0 js) ∧ (sf_X4_act_64 1001 0 js ml mh ((f_X4_move ((f_X4_lookAtState mv mo mb (f_X4_state ma)).1) ((f_X4_lookAtState mv mo mb (f_X4_state ma)).2) p1).2) ((f_X4_lookAtState mv mo mb (f_X4_state ma)).2) p1 (f_X4_act_t1 js mv ma mo mb p1)) := hs
  refine lv_aload_n hx hb dX4_act_0 rfl (lv_at hl 0 rfl) ?_
  refine lv_aload_n hx hb dX4_act_1 rfl (lv_at hl 0 rfl) ?_
  refine z_callV (As := []) (rest := [.ref mh0]) (wr := ([] : va_W)) (w1 := fun _ : Unit => (w_X4 G mh0 mvq maq mlq mhq mfq mrq moq mbq msq th js mv ma ac po si ta ml mh gu wr mf mr re mo mb ms)) (wj := fun _ : Unit => (w_X4 G mh0 mvq maq mlq mhq mfq mrq moq mbq msq th js mv ma ac po si ta ml mh gu wr mf mr re mo mb ms)) (ci := 4) (q0 := 0) F (c_X4_state l G mh0 mvq maq mlq mhq mfq mrq moq mbq msq th js mv ma ac po si ta ml mh gu wr mf mr re mo mb ms) gX4_act_X4_state rfl rfl rfl zd_X4_state ⟨Nat.le_of_ble_eq_true rfl, Nat.le_of_ble_eq_true rfl⟩ rfl rfl (Nat.le_of_ble_eq_true rfl) dX4_act_2 ⟨Nat.le_of_ble_eq_true rfl, Nat.le_of_ble_eq_true rfl⟩ hK hP hD hS hA hl.1 rfl rfl [0, 1, 2, 3, 4, 5, 6, 7, 8, 9] [] [0, 1, 2, 3, 4, 5, 6, 7, 8, 9] rfl rfl rfl rfl (by decide) rfl (fun _ => rfl) (fun _ H locs hP hD hS => ?_)
  have hP : va_P G.1 vwCl (w_X4 G mh0 mvq maq mlq mhq mfq mrq moq mbq msq th js mv ma ac po si ta ml mh gu wr mf mr re mo mb ms) H := hP
  have hD : va_D A (w_X4 G mh0 mvq maq mlq mhq mfq mrq moq mbq msq th js mv ma ac po si ta ml mh gu wr mf mr re mo mb ms) := hD
  refine z_callV (As := [.int (f_X4_state ma)]) (rest := []) (wr := ([] : va_W)) (w1 := fun _ : Unit => (w_X4 G mh0 mvq maq mlq mhq mfq mrq moq mbq msq th js mv ma ac po si ta ml mh gu wr mf mr re ((f_X4_lookAtState mv mo mb (f_X4_state ma)).1) ((f_X4_lookAtState mv mo mb (f_X4_state ma)).2) ms)) (wj := fun _ : Unit => (w_X4 G mh0 mvq maq mlq mhq mfq mrq moq mbq msq th js mv ma ac po si ta ml mh gu wr mf mr re (f_X4_lookAtState mv mo mb (f_X4_state ma)).1 (f_X4_lookAtState mv mo mb (f_X4_state ma)).2 ms)) (ci := 4) (q0 := 0) F (c_X4_lookAtState l G mh0 mvq maq mlq mhq mfq mrq moq mbq msq th js mv ma ac po si ta ml mh gu wr mf mr re mo mb ms (f_X4_state ma)) gX4_act_X4_lookAtState rfl rfl rfl zd_X4_lookAtState ⟨Nat.le_of_ble_eq_true rfl, Nat.le_of_ble_eq_true rfl⟩ rfl rfl (Nat.le_of_ble_eq_true rfl) dX4_act_5 ⟨Nat.le_of_ble_eq_true rfl, Nat.le_of_ble_eq_true rfl⟩ hK hP hD hS hA hl.1 rfl rfl [0, 1, 2, 3, 4, 5, 6, 7, 8, 9] [] [0, 1, 2, 3, 4, 5, 6, 7, 8, 9] rfl rfl rfl rfl (by decide) rfl (fun _ => rfl) (fun _ H locs hP hD hS => ?_)
  have hP : va_P G.1 vwCl (w_X4 G mh0 mvq maq mlq mhq mfq mrq moq mbq msq th js mv ma ac po si ta ml mh gu wr mf mr re (f_X4_lookAtState mv mo mb (f_X4_state ma)).1 (f_X4_lookAtState mv mo mb (f_X4_state ma)).2 ms) H := hP
  have hD : va_D A (w_X4 G mh0 mvq maq mlq mhq mfq mrq moq mbq msq th js mv ma ac po si ta ml mh gu wr mf mr re (f_X4_lookAtState mv mo mb (f_X4_state ma)).1 (f_X4_lookAtState mv mo mb (f_X4_state ma)).2 ms) := hD
  refine lv_aload_n hx hb dX4_act_8 rfl (lv_at hl 0 rfl) ?_
  refine lv_iload_n hx hb dX4_act_9 rfl (lv_at hl 1 rfl) ?_
  obtain ⟨h_1, hs⟩ := hs
  refine z_callV (As := [.int p1]) (rest := []) (wr := ([] : va_W)) (w1 := fun _ : Unit => (w_X4 G mh0 mvq maq mlq mhq mfq mrq moq mbq msq th js mv ma ac po si ta ml mh gu wr mf mr re ((f_X4_move ((f_X4_lookAtState mv mo mb (f_X4_state ma)).1) ((f_X4_lookAtState mv mo mb (f_X4_state ma)).2) p1).2) ((f_X4_lookAtState mv mo mb (f_X4_state ma)).2) ms)) (wj := fun _ : Unit => (w_X4 G mh0 mvq maq mlq mhq mfq mrq moq mbq msq th js mv ma ac po si ta ml mh gu wr mf mr re (f_X4_move ((f_X4_lookAtState mv mo mb (f_X4_state ma)).1) ((f_X4_lookAtState mv mo mb (f_X4_state ma)).2) p1).2 (f_X4_lookAtState mv mo mb (f_X4_state ma)).2 ms)) (ci := 4) (q0 := 0) F (c_X4_move l G mh0 mvq maq mlq mhq mfq mrq moq mbq msq th js mv ma ac po si ta ml mh gu wr mf mr re ((f_X4_lookAtState mv mo mb (f_X4_state ma)).1) ((f_X4_lookAtState mv mo mb (f_X4_state ma)).2) ms p1 h_1) gX4_act_X4_move rfl rfl rfl zd_X4_move ⟨Nat.le_of_ble_eq_true rfl, Nat.le_of_ble_eq_true rfl⟩ rfl rfl (Nat.le_of_ble_eq_true rfl) dX4_act_10 ⟨Nat.le_of_ble_eq_true rfl, Nat.le_of_ble_eq_true rfl⟩ hK hP hD hS hA hl.1 rfl rfl [0, 1, 2, 3, 4, 5, 6, 7, 8, 9] [] [0, 1, 2, 3, 4, 5, 6, 7, 8, 9] rfl rfl rfl rfl (by decide) rfl (fun _ => rfl) (fun _ H locs hP hD hS => ?_)
  have hP : va_P G.1 vwCl (w_X4 G mh0 mvq maq mlq mhq mfq mrq moq mbq msq th js mv ma ac po si ta ml mh gu wr mf mr re (f_X4_move ((f_X4_lookAtState mv mo mb (f_X4_state ma)).1) ((f_X4_lookAtState mv mo mb (f_X4_state ma)).2) p1).2 (f_X4_lookAtState mv mo mb (f_X4_state ma)).2 ms) H := hP
  have hD : va_D A (w_X4 G mh0 mvq maq mlq mhq mfq mrq moq mbq msq th js mv ma ac po si ta ml mh gu wr mf mr re (f_X4_move ((f_X4_lookAtState mv mo mb (f_X4_state ma)).1) ((f_X4_lookAtState mv mo mb (f_X4_state ma)).2) p1).2 (f_X4_lookAtState mv mo mb (f_X4_state ma)).2 ms) := hD
  refine lv_istore_n (lv' := [(2, .int (f_X4_move ((f_X4_lookAtState mv mo mb (f_X4_state ma)).1) ((f_X4_lookAtState mv mo mb (f_X4_state ma)).2) p1).1), (0, .ref mh0), (1, .int p1)]) hx hb dX4_act_13 rfl hl (by decide) rfl (fun ls hl => ?_)
  refine lv_aload_n hx hb dX4_act_14 rfl (lv_at hl 1 rfl) ?_
  obtain ⟨h_2, hs⟩ := hs
  refine z_callV (As := []) (rest := []) (wr := ([] : va_W)) (w1 := fun _ : Unit => (w_X4 G mh0 mvq maq mlq mhq mfq mrq moq mbq msq th js mv ma ac po si ta ml mh gu wr mf mr re ((f_X4_move ((f_X4_lookAtState mv mo mb (f_X4_state ma)).1) ((f_X4_lookAtState mv mo mb (f_X4_state ma)).2) p1).2) ((f_X4_lookAtState mv mo mb (f_X4_state ma)).2) ms)) (wj := fun _ : Unit => (w_X4 G mh0 mvq maq mlq mhq mfq mrq moq mbq msq th js mv ma ac po si ta ml mh gu wr mf mr re (f_X4_move ((f_X4_lookAtState mv mo mb (f_X4_state ma)).1) ((f_X4_lookAtState mv mo mb (f_X4_state ma)).2) p1).2 (f_X4_lookAtState mv mo mb (f_X4_state ma)).2 ms)) (ci := 4) (q0 := 0) F (c_X4_sight l G mh0 mvq maq mlq mhq mfq mrq moq mbq msq th js mv ma ac po si ta ml mh gu wr mf mr re ((f_X4_move ((f_X4_lookAtState mv mo mb (f_X4_state ma)).1) ((f_X4_lookAtState mv mo mb (f_X4_state ma)).2) p1).2) ((f_X4_lookAtState mv mo mb (f_X4_state ma)).2) ms h_2) gX4_act_X4_sight rfl rfl rfl zd_X4_sight ⟨Nat.le_of_ble_eq_true rfl, Nat.le_of_ble_eq_true rfl⟩ rfl rfl (Nat.le_of_ble_eq_true rfl) dX4_act_15 ⟨Nat.le_of_ble_eq_true rfl, Nat.le_of_ble_eq_true rfl⟩ hK hP hD hS hA hl.1 rfl rfl [0, 1, 2, 3, 4, 5, 6, 7, 8, 9] [] [0, 1, 2, 3, 4, 5, 6, 7, 8, 9] rfl rfl rfl rfl (by decide) rfl (fun _ => rfl) (fun _ H locs hP hD hS => ?_)
  have hP : va_P G.1 vwCl (w_X4 G mh0 mvq maq mlq mhq mfq mrq moq mbq msq th js mv ma ac po si ta ml mh gu wr mf mr re (f_X4_move ((f_X4_lookAtState mv mo mb (f_X4_state ma)).1) ((f_X4_lookAtState mv mo mb (f_X4_state ma)).2) p1).2 (f_X4_lookAtState mv mo mb (f_X4_state ma)).2 ms) H := hP
  have hD : va_D A (w_X4 G mh0 mvq maq mlq mhq mfq mrq moq mbq msq th js mv ma ac po si ta ml mh gu wr mf mr re (f_X4_move ((f_X4_lookAtState mv mo mb (f_X4_state ma)).1) ((f_X4_lookAtState mv mo mb (f_X4_state ma)).2) p1).2 (f_X4_lookAtState mv mo mb (f_X4_state ma)).2 ms) := hD
  refine lv_istore_n (lv' := [(3, .int (f_X4_act_t1 js mv ma mo mb p1)), (2, .int (f_X4_move ((f_X4_lookAtState mv mo mb (f_X4_state ma)).1) ((f_X4_lookAtState mv mo mb (f_X4_state ma)).2) p1).1), (0, .ref mh0), (1, .int p1)]) hx hb dX4_act_18 rfl hl (by decide) rfl (fun ls hl => ?_)
  refine lv_iconst (v := (0 : Int32)) hx hb dX4_act_19 (by decide) ?_
  refine lv_istore (lv' := [(4, .int (0 : Int32)), (3, .int (f_X4_act_t1 js mv ma mo mb p1)), (2, .int (f_X4_move ((f_X4_lookAtState mv mo mb (f_X4_state ma)).1) ((f_X4_lookAtState mv mo mb (f_X4_state ma)).2) p1).1), (0, .ref mh0), (1, .int p1)]) hx hb dX4_act_20 hl (by decide) rfl (fun ls hl => ?_)
  obtain ⟨h_16, hs⟩ := hs
  refine l_X4_act_22 F hr hlocks hK hA mh0 mvq maq mlq mhq mfq mrq moq mbq msq (js.toNatClampNeg + 1) 0 th js mv ma ac po si ta ml mh gu wr mf mr re ((f_X4_move ((f_X4_lookAtState mv mo mb (f_X4_state ma)).1) ((f_X4_lookAtState mv mo mb (f_X4_state ma)).2) p1).2) ((f_X4_lookAtState mv mo mb (f_X4_state ma)).2) ms p1 ((f_X4_move ((f_X4_lookAtState mv mo mb (f_X4_state ma)).1) ((f_X4_lookAtState mv mo mb (f_X4_state ma)).2) p1).1) (f_X4_act_t1 js mv ma mo mb p1) (by omega) (by omega) h_16 H locs ls hP hD hS (lv_sub hl [3, 4, 2, 1, 0] rfl) ?_
  intro H locs ls hP hD hS hl
  have hP : va_P G.1 vwCl (w_X4 G mh0 mvq maq mlq mhq mfq mrq moq mbq msq th js mv (lf_X4_act_22 (js.toNatClampNeg + 1) 0 js ma ((f_X4_move ((f_X4_lookAtState mv mo mb (f_X4_state ma)).1) ((f_X4_lookAtState mv mo mb (f_X4_state ma)).2) p1).2)) ac po si ta ml mh gu wr mf mr re (f_X4_move ((f_X4_lookAtState mv mo mb (f_X4_state ma)).1) ((f_X4_lookAtState mv mo mb (f_X4_state ma)).2) p1).2 (f_X4_lookAtState mv mo mb (f_X4_state ma)).2 ms) H := hP
  have hD : va_D A (w_X4 G mh0 mvq maq mlq mhq mfq mrq moq mbq msq th js mv (lf_X4_act_22 (js.toNatClampNeg + 1) 0 js ma ((f_X4_move ((f_X4_lookAtState mv mo mb (f_X4_state ma)).1) ((f_X4_lookAtState mv mo mb (f_X4_state ma)).2) p1).2)) ac po si ta ml mh gu wr mf mr re (f_X4_move ((f_X4_lookAtState mv mo mb (f_X4_state ma)).1) ((f_X4_lookAtState mv mo mb (f_X4_state ma)).2) p1).2 (f_X4_lookAtState mv mo mb (f_X4_state ma)).2 ms) := hD
  have hl : lv_has ls 6 [(0, .ref mh0), (1, .int p1), (2, .int (f_X4_move ((f_X4_lookAtState mv mo mb (f_X4_state ma)).1) ((f_X4_lookAtState mv mo mb (f_X4_state ma)).2) p1).1), (3, .int (f_X4_act_t1 js mv ma mo mb p1))] := hl
  refine lv_aload_n hx hb dX4_act_51 rfl (lv_at hl 0 rfl) ?_
  refine lv_dup hx hb dX4_act_52 rfl ?_
  refine va_get (D := G.1) (ci := 4) (v := .int ac) (C := RX4) (T := TX4) (N := 18) hx hb hts in_X4_act_X4 hown hK.1 hP 0 rfl rfl 4 (by decide) (hts (.fieldLink RX4 57 "JarRiddleModel" "acts" "I") (by decide +kernel)) (fun _ h9 => h9) rfl dX4_act_53 ?_
  refine lv_iconst (v := (1 : Int32)) hx hb dX4_act_56 (by decide) ?_
  refine lv_iadd hx hb dX4_act_57 ?_
  refine va_put (D := G.1) (ci := 4) (v := .int (ac + (1 : Int32))) (ty := .int) (C := RX4) (T := TX4) (N := 18) hx hb hts in_X4_act_X4 tyX4 tyX4_ok nmX4 hown hK.1 hP hD hS 0 rfl rfl 4 (by decide) (hts (.fieldLink RX4 57 "JarRiddleModel" "acts" "I") (by decide +kernel)) (fun _ h9 => h9) rfl (by decide +kernel) rfl rfl (Nat.le_of_ble_eq_true rfl) dX4_act_58 (fun H locs hP hD hS => ?_)
  have hP : va_P G.1 vwCl (w_X4 G mh0 mvq maq mlq mhq mfq mrq moq mbq msq th js mv (lf_X4_act_22 (js.toNatClampNeg + 1) 0 js ma ((f_X4_move ((f_X4_lookAtState mv mo mb (f_X4_state ma)).1) ((f_X4_lookAtState mv mo mb (f_X4_state ma)).2) p1).2)) (ac + (1 : Int32)) po si ta ml mh gu wr mf mr re (f_X4_move ((f_X4_lookAtState mv mo mb (f_X4_state ma)).1) ((f_X4_lookAtState mv mo mb (f_X4_state ma)).2) p1).2 (f_X4_lookAtState mv mo mb (f_X4_state ma)).2 ms) H := hP
  have hD : va_D A (w_X4 G mh0 mvq maq mlq mhq mfq mrq moq mbq msq th js mv (lf_X4_act_22 (js.toNatClampNeg + 1) 0 js ma ((f_X4_move ((f_X4_lookAtState mv mo mb (f_X4_state ma)).1) ((f_X4_lookAtState mv mo mb (f_X4_state ma)).2) p1).2)) (ac + (1 : Int32)) po si ta ml mh gu wr mf mr re (f_X4_move ((f_X4_lookAtState mv mo mb (f_X4_state ma)).1) ((f_X4_lookAtState mv mo mb (f_X4_state ma)).2) p1).2 (f_X4_lookAtState mv mo mb (f_X4_state ma)).2 ms) := hD
  refine lv_iconst (v := (0 : Int32)) hx hb dX4_act_61 (by decide) ?_
  refine lv_istore (lv' := [(4, .int (0 : Int32)), (0, .ref mh0), (1, .int p1), (2, .int (f_X4_move ((f_X4_lookAtState mv mo mb (f_X4_state ma)).1) ((f_X4_lookAtState mv mo mb (f_X4_state ma)).2) p1).1), (3, .int (f_X4_act_t1 js mv ma mo mb p1))]) hx hb dX4_act_62 hl (by decide) rfl (fun ls hl => ?_)
  have h_17 := hs
  refine l_X4_act_64 F hr hlocks hK hA mh0 mvq maq mlq mhq mfq mrq moq mbq msq 1001 0 th js mv (lf_X4_act_22 (js.toNatClampNeg + 1) 0 js ma ((f_X4_move ((f_X4_lookAtState mv mo mb (f_X4_state ma)).1) ((f_X4_lookAtState mv mo mb (f_X4_state ma)).2) p1).2)) (ac + (1 : Int32)) po si ta ml mh gu wr mf mr re ((f_X4_move ((f_X4_lookAtState mv mo mb (f_X4_state ma)).1) ((f_X4_lookAtState mv mo mb (f_X4_state ma)).2) p1).2) ((f_X4_lookAtState mv mo mb (f_X4_state ma)).2) ms p1 ((f_X4_move ((f_X4_lookAtState mv mo mb (f_X4_state ma)).1) ((f_X4_lookAtState mv mo mb (f_X4_state ma)).2) p1).1) (f_X4_act_t1 js mv ma mo mb p1) (by omega) (by omega) h_17 H locs ls hP hD hS (lv_sub hl [1, 2, 3, 4, 0] rfl) ?_
  intro H locs ls hP hD hS hl
  have hP : va_P G.1 vwCl (w_X4 G mh0 mvq maq mlq mhq mfq mrq moq mbq msq th js mv (lf_X4_act_22 (js.toNatClampNeg + 1) 0 js ma ((f_X4_move ((f_X4_lookAtState mv mo mb (f_X4_state ma)).1) ((f_X4_lookAtState mv mo mb (f_X4_state ma)).2) p1).2)) (ac + (1 : Int32)) po si ta (f_X4_act_t2 js mv ma ml mh mo mb p1) (f_X4_act_t3 js mv ma ml mh mo mb p1) gu wr mf mr re (f_X4_act_t4 js mv ma ml mh mo mb p1) (f_X4_act_t5 js mv ma ml mh mo mb p1) ms) H := hP
  have hD : va_D A (w_X4 G mh0 mvq maq mlq mhq mfq mrq moq mbq msq th js mv (lf_X4_act_22 (js.toNatClampNeg + 1) 0 js ma ((f_X4_move ((f_X4_lookAtState mv mo mb (f_X4_state ma)).1) ((f_X4_lookAtState mv mo mb (f_X4_state ma)).2) p1).2)) (ac + (1 : Int32)) po si ta (f_X4_act_t2 js mv ma ml mh mo mb p1) (f_X4_act_t3 js mv ma ml mh mo mb p1) gu wr mf mr re (f_X4_act_t4 js mv ma ml mh mo mb p1) (f_X4_act_t5 js mv ma ml mh mo mb p1) ms) := hD
  have hl : lv_has ls 6 [(2, .int (f_X4_move ((f_X4_lookAtState mv mo mb (f_X4_state ma)).1) ((f_X4_lookAtState mv mo mb (f_X4_state ma)).2) p1).1)] := hl
  refine lv_iload_n hx hb dX4_act_160 rfl (lv_at hl 0 rfl) ?_
  have e9 : (f_X4_act js mv ma ac ml mh mo mb p1) = ((f_X4_move ((f_X4_lookAtState mv mo mb (f_X4_state ma)).1) ((f_X4_lookAtState mv mo mb (f_X4_state ma)).2) p1).1, (lf_X4_act_22 (js.toNatClampNeg + 1) 0 js ma ((f_X4_move ((f_X4_lookAtState mv mo mb (f_X4_state ma)).1) ((f_X4_lookAtState mv mo mb (f_X4_state ma)).2) p1).2)), (ac + (1 : Int32)), (f_X4_act_t2 js mv ma ml mh mo mb p1), (f_X4_act_t3 js mv ma ml mh mo mb p1), (f_X4_act_t4 js mv ma ml mh mo mb p1), (f_X4_act_t5 js mv ma ml mh mo mb p1)) := (f_X4_act_eq js mv ma ac ml mh mo mb p1).trans (rfl)
  rw [e9]
  dsimp only
  exact z_iret F hr hlocks hP hD hS () [0, 1, 2, 3, 4, 5, 6, 7, 8, 9] rfl rfl rfl dX4_act_161
def f_X4_count (po : Int32) (si : Int32) (ta : Int32) (p1 : Int32) (p2 : Int32) : Int32 × Int32 × Int32 := (if (3 : Int32) ≤ p1 then (if (6 : Int32) ≤ p1 then ((po + p2), si, ta) else (po, (si + p2), ta)) else (po, si, (ta + p2)))
theorem f_X4_count_eq (po : Int32) (si : Int32) (ta : Int32) (p1 : Int32) (p2 : Int32) : f_X4_count po si ta p1 p2 = (if (3 : Int32) ≤ p1 then (if (6 : Int32) ≤ p1 then ((po + p2), si, ta) else (po, (si + p2), ta)) else (po, si, (ta + p2))) := rfl
abbrev rm_X4_count : Room := { frames := 0, cells := 0, slots := 0, locals := 0 }
theorem zd_X4_count : yX4_count.cls = RX4 ∧ yX4_count.cls ≠ "java/lang/invoke/MethodHandle" ∧ yX4_count.cls ≠ "java/lang/invoke/VarHandle" ∧ (parseMethodDescriptor yX4_count.desc).map (fun d => d.parameters.length) = some 2 := by decide +kernel
theorem in_X4_count_X4 : ∀ w ∈ u_ws RX4 TX4 18, w ∈ wsX4_count := by decide +kernel
set_option maxHeartbeats 4000000 in
set_option maxRecDepth 100000 in
/-- JarRiddleModel.count(II)V -/
theorem c_X4_count (l : Launch) (G : zG) (mh0 mvq maq mlq mhq mfq mrq moq mbq msq : Nat) (th : Int32) (js : Int32) (mv : Nat → Int32) (ma : Nat → Int32) (ac : Int32) (po : Int32) (si : Int32) (ta : Int32) (ml : Nat → Int32) (mh : Nat → Int32) (gu : Int32) (wr : Int32) (mf : Nat → Int32) (mr : Nat → Int32) (re : Int32) (mo : Nat → Int32) (mb : Nat → Int32) (ms : Nat → Int32) (p1 : Int32) (p2 : Int32) : zC l G yX4_count wsX4_count rm_X4_count 0 0 [.ref mh0, .int p1, .int p2] (w_X4 G mh0 mvq maq mlq mhq mfq mrq moq mbq msq th js mv ma ac po si ta ml mh gu wr mf mr re mo mb ms) none (fun _ : Unit => (w_X4 G mh0 mvq maq mlq mhq mfq mrq moq mbq msq th js mv ma ac ((f_X4_count po si ta p1 p2).1) ((f_X4_count po si ta p1 p2).2.1) ((f_X4_count po si ta p1 p2).2.2) ml mh gu wr mf mr re mo mb ms)) := by
  refine z_of (cc := cX4_count) (maxL := 3) (ret := none) (own := RX4) (by decide) rfl rfl (Nat.le_of_ble_eq_true rfl) ?_
  intro p e s m args below meth c A H locs ls F hr hlocks hname hK hA hP hD hS hl
  obtain ⟨hx, hb, hml, hown, hts⟩ := id F
  have hl : lv_has ls 3 [(0, .ref mh0), (1, .int p1), (2, .int p2)] := hl
  refine lv_iload_n hx hb dX4_count_0 rfl (lv_at hl 1 rfl) ?_
  refine lv_iconst (v := (3 : Int32)) hx hb dX4_count_1 (by decide) ?_
  refine lv_icmp_ge (tgt := 18) hx hb dX4_count_2 (by decide) (fun (c_1 : (3 : Int32) ≤ p1) => ?_) (fun (c_1 : ¬ (3 : Int32) ≤ p1) => ?_)
  · refine lv_iload_n hx hb dX4_count_18 rfl (lv_at hl 1 rfl) ?_
    refine lv_bipush (v := (6 : Int32)) hx hb dX4_count_19 (by decide) ?_
    refine lv_icmp_ge (tgt := 37) hx hb dX4_count_21 (by decide) (fun (c_2 : (6 : Int32) ≤ p1) => ?_) (fun (c_2 : ¬ (6 : Int32) ≤ p1) => ?_)
    · refine lv_aload_n hx hb dX4_count_37 rfl (lv_at hl 0 rfl) ?_
      refine lv_dup hx hb dX4_count_38 rfl ?_
      refine va_get (D := G.1) (ci := 4) (v := .int po) (C := RX4) (T := TX4) (N := 18) hx hb hts in_X4_count_X4 hown hK.1 hP 0 rfl rfl 5 (by decide) (hts (.fieldLink RX4 60 "JarRiddleModel" "poured" "I") (by decide +kernel)) (fun _ h9 => h9) rfl dX4_count_39 ?_
      refine lv_iload_n hx hb dX4_count_42 rfl (lv_at hl 2 rfl) ?_
      refine lv_iadd hx hb dX4_count_43 ?_
      refine va_put (D := G.1) (ci := 4) (v := .int (po + p2)) (ty := .int) (C := RX4) (T := TX4) (N := 18) hx hb hts in_X4_count_X4 tyX4 tyX4_ok nmX4 hown hK.1 hP hD hS 0 rfl rfl 5 (by decide) (hts (.fieldLink RX4 60 "JarRiddleModel" "poured" "I") (by decide +kernel)) (fun _ h9 => h9) rfl (by decide +kernel) rfl rfl (Nat.le_of_ble_eq_true rfl) dX4_count_44 (fun H locs hP hD hS => ?_)
      have hP : va_P G.1 vwCl (w_X4 G mh0 mvq maq mlq mhq mfq mrq moq mbq msq th js mv ma ac (po + p2) si ta ml mh gu wr mf mr re mo mb ms) H := hP
      have hD : va_D A (w_X4 G mh0 mvq maq mlq mhq mfq mrq moq mbq msq th js mv ma ac (po + p2) si ta ml mh gu wr mf mr re mo mb ms) := hD
      have e9 : (f_X4_count po si ta p1 p2) = ((po + p2), si, ta) := (f_X4_count_eq po si ta p1 p2).trans ((if_pos c_1).trans ((if_pos c_2).trans (rfl)))
      rw [e9]
      dsimp only
      exact z_vret F hr hlocks hP hD hS () [0, 1, 2, 3, 4, 5, 6, 7, 8, 9] rfl rfl rfl dX4_count_47
    · refine lv_aload_n hx hb dX4_count_24 rfl (lv_at hl 0 rfl) ?_
      refine lv_dup hx hb dX4_count_25 rfl ?_
      refine va_get (D := G.1) (ci := 4) (v := .int si) (C := RX4) (T := TX4) (N := 18) hx hb hts in_X4_count_X4 hown hK.1 hP 0 rfl rfl 6 (by decide) (hts (.fieldLink RX4 63 "JarRiddleModel" "spilled" "I") (by decide +kernel)) (fun _ h9 => h9) rfl dX4_count_26 ?_
      refine lv_iload_n hx hb dX4_count_29 rfl (lv_at hl 2 rfl) ?_
      refine lv_iadd hx hb dX4_count_30 ?_
      refine va_put (D := G.1) (ci := 4) (v := .int (si + p2)) (ty := .int) (C := RX4) (T := TX4) (N := 18) hx hb hts in_X4_count_X4 tyX4 tyX4_ok nmX4 hown hK.1 hP hD hS 0 rfl rfl 6 (by decide) (hts (.fieldLink RX4 63 "JarRiddleModel" "spilled" "I") (by decide +kernel)) (fun _ h9 => h9) rfl (by decide +kernel) rfl rfl (Nat.le_of_ble_eq_true rfl) dX4_count_31 (fun H locs hP hD hS => ?_)
      have hP : va_P G.1 vwCl (w_X4 G mh0 mvq maq mlq mhq mfq mrq moq mbq msq th js mv ma ac po (si + p2) ta ml mh gu wr mf mr re mo mb ms) H := hP
      have hD : va_D A (w_X4 G mh0 mvq maq mlq mhq mfq mrq moq mbq msq th js mv ma ac po (si + p2) ta ml mh gu wr mf mr re mo mb ms) := hD
      refine lv_goto (tgt := 47) hx hb dX4_count_34 (by decide) ?_
      have e9 : (f_X4_count po si ta p1 p2) = (po, (si + p2), ta) := (f_X4_count_eq po si ta p1 p2).trans ((if_pos c_1).trans ((if_neg c_2).trans (rfl)))
      rw [e9]
      dsimp only
      exact z_vret F hr hlocks hP hD hS () [0, 1, 2, 3, 4, 5, 6, 7, 8, 9] rfl rfl rfl dX4_count_47
  · refine lv_aload_n hx hb dX4_count_5 rfl (lv_at hl 0 rfl) ?_
    refine lv_dup hx hb dX4_count_6 rfl ?_
    refine va_get (D := G.1) (ci := 4) (v := .int ta) (C := RX4) (T := TX4) (N := 18) hx hb hts in_X4_count_X4 hown hK.1 hP 0 rfl rfl 7 (by decide) (hts (.fieldLink RX4 66 "JarRiddleModel" "taken" "I") (by decide +kernel)) (fun _ h9 => h9) rfl dX4_count_7 ?_
    refine lv_iload_n hx hb dX4_count_10 rfl (lv_at hl 2 rfl) ?_
    refine lv_iadd hx hb dX4_count_11 ?_
    refine va_put (D := G.1) (ci := 4) (v := .int (ta + p2)) (ty := .int) (C := RX4) (T := TX4) (N := 18) hx hb hts in_X4_count_X4 tyX4 tyX4_ok nmX4 hown hK.1 hP hD hS 0 rfl rfl 7 (by decide) (hts (.fieldLink RX4 66 "JarRiddleModel" "taken" "I") (by decide +kernel)) (fun _ h9 => h9) rfl (by decide +kernel) rfl rfl (Nat.le_of_ble_eq_true rfl) dX4_count_12 (fun H locs hP hD hS => ?_)
    have hP : va_P G.1 vwCl (w_X4 G mh0 mvq maq mlq mhq mfq mrq moq mbq msq th js mv ma ac po si (ta + p2) ml mh gu wr mf mr re mo mb ms) H := hP
    have hD : va_D A (w_X4 G mh0 mvq maq mlq mhq mfq mrq moq mbq msq th js mv ma ac po si (ta + p2) ml mh gu wr mf mr re mo mb ms) := hD
    refine lv_goto (tgt := 47) hx hb dX4_count_15 (by decide) ?_
    have e9 : (f_X4_count po si ta p1 p2) = (po, si, (ta + p2)) := (f_X4_count_eq po si ta p1 p2).trans ((if_neg c_1).trans (rfl))
    rw [e9]
    dsimp only
    exact z_vret F hr hlocks hP hD hS () [0, 1, 2, 3, 4, 5, 6, 7, 8, 9] rfl rfl rfl dX4_count_47
def f_X4_done (js : Int32) (mv : Nat → Int32) (ma : Nat → Int32) (ac : Int32) (po : Int32) (si : Int32) (ta : Int32) (ml : Nat → Int32) (mh : Nat → Int32) (mo : Nat → Int32) (mb : Nat → Int32) (p1 : Int32) : Int32 × (Nat → Int32) × Int32 × Int32 × Int32 × Int32 × (Nat → Int32) × (Nat → Int32) × (Nat → Int32) × (Nat → Int32) := ((f_X4_act js mv ma ac ml mh mo mb p1).1, (f_X4_act js mv ma ac ml mh mo mb p1).2.1, (f_X4_act js mv ma ac ml mh mo mb p1).2.2.1, (f_X4_count po si ta p1 ((f_X4_act js mv ma ac ml mh mo mb p1).1)).1, (f_X4_count po si ta p1 ((f_X4_act js mv ma ac ml mh mo mb p1).1)).2.1, (f_X4_count po si ta p1 ((f_X4_act js mv ma ac ml mh mo mb p1).1)).2.2, (f_X4_act js mv ma ac ml mh mo mb p1).2.2.2.1, (f_X4_act js mv ma ac ml mh mo mb p1).2.2.2.2.1, (f_X4_act js mv ma ac ml mh mo mb p1).2.2.2.2.2.1, (f_X4_act js mv ma ac ml mh mo mb p1).2.2.2.2.2.2)
theorem f_X4_done_eq (js : Int32) (mv : Nat → Int32) (ma : Nat → Int32) (ac : Int32) (po : Int32) (si : Int32) (ta : Int32) (ml : Nat → Int32) (mh : Nat → Int32) (mo : Nat → Int32) (mb : Nat → Int32) (p1 : Int32) : f_X4_done js mv ma ac po si ta ml mh mo mb p1 = ((f_X4_act js mv ma ac ml mh mo mb p1).1, (f_X4_act js mv ma ac ml mh mo mb p1).2.1, (f_X4_act js mv ma ac ml mh mo mb p1).2.2.1, (f_X4_count po si ta p1 ((f_X4_act js mv ma ac ml mh mo mb p1).1)).1, (f_X4_count po si ta p1 ((f_X4_act js mv ma ac ml mh mo mb p1).1)).2.1, (f_X4_count po si ta p1 ((f_X4_act js mv ma ac ml mh mo mb p1).1)).2.2, (f_X4_act js mv ma ac ml mh mo mb p1).2.2.2.1, (f_X4_act js mv ma ac ml mh mo mb p1).2.2.2.2.1, (f_X4_act js mv ma ac ml mh mo mb p1).2.2.2.2.2.1, (f_X4_act js mv ma ac ml mh mo mb p1).2.2.2.2.2.2) := rfl
def s_X4_done (js : Int32) (mv : Nat → Int32) (ma : Nat → Int32) (ml : Nat → Int32) (mh : Nat → Int32) (mo : Nat → Int32) (mb : Nat → Int32) (p1 : Int32) : Prop := (s_X4_act js mv ma ml mh mo mb p1)
abbrev rm_X4_done : Room := { frames := 3, cells := 0, slots := 0, locals := 68 }
theorem zd_X4_done : yX4_done.cls = RX4 ∧ yX4_done.cls ≠ "java/lang/invoke/MethodHandle" ∧ yX4_done.cls ≠ "java/lang/invoke/VarHandle" ∧ (parseMethodDescriptor yX4_done.desc).map (fun d => d.parameters.length) = some 1 := by decide +kernel
set_option maxHeartbeats 4000000 in
set_option maxRecDepth 100000 in
/-- JarRiddleModel.done(I)I -/
theorem c_X4_done (l : Launch) (G : zG) (mh0 mvq maq mlq mhq mfq mrq moq mbq msq : Nat) (th : Int32) (js : Int32) (mv : Nat → Int32) (ma : Nat → Int32) (ac : Int32) (po : Int32) (si : Int32) (ta : Int32) (ml : Nat → Int32) (mh : Nat → Int32) (gu : Int32) (wr : Int32) (mf : Nat → Int32) (mr : Nat → Int32) (re : Int32) (mo : Nat → Int32) (mb : Nat → Int32) (ms : Nat → Int32) (p1 : Int32) (hs : s_X4_done js mv ma ml mh mo mb p1) : zC l G yX4_done wsX4_done rm_X4_done 0 0 [.ref mh0, .int p1] (w_X4 G mh0 mvq maq mlq mhq mfq mrq moq mbq msq th js mv ma ac po si ta ml mh gu wr mf mr re mo mb ms) (some (.int (f_X4_done js mv ma ac po si ta ml mh mo mb p1).1)) (fun _ : Unit => (w_X4 G mh0 mvq maq mlq mhq mfq mrq moq mbq msq th js mv ((f_X4_done js mv ma ac po si ta ml mh mo mb p1).2.1) ((f_X4_done js mv ma ac po si ta ml mh mo mb p1).2.2.1) ((f_X4_done js mv ma ac po si ta ml mh mo mb p1).2.2.2.1) ((f_X4_done js mv ma ac po si ta ml mh mo mb p1).2.2.2.2.1) ((f_X4_done js mv ma ac po si ta ml mh mo mb p1).2.2.2.2.2.1) ((f_X4_done js mv ma ac po si ta ml mh mo mb p1).2.2.2.2.2.2.1) ((f_X4_done js mv ma ac po si ta ml mh mo mb p1).2.2.2.2.2.2.2.1) gu wr mf mr re ((f_X4_done js mv ma ac po si ta ml mh mo mb p1).2.2.2.2.2.2.2.2.1) ((f_X4_done js mv ma ac po si ta ml mh mo mb p1).2.2.2.2.2.2.2.2.2) ms)) := by
  refine z_of (cc := cX4_done) (maxL := 3) (ret := (some .int)) (own := RX4) (by decide) rfl rfl (Nat.le_of_ble_eq_true rfl) ?_
  intro p e s m args below meth c A H locs ls F hr hlocks hname hK hA hP hD hS hl
  obtain ⟨hx, hb, hml, hown, hts⟩ := id F
  have hl : lv_has ls 3 [(0, .ref mh0), (1, .int p1)] := hl
  have hs : (s_X4_act js mv ma ml mh mo mb p1) := hs
  refine lv_aload_n hx hb dX4_done_0 rfl (lv_at hl 0 rfl) ?_
  refine lv_iload_n hx hb dX4_done_1 rfl (lv_at hl 1 rfl) ?_
  have h_1 := hs
  refine z_callV (As := [.int p1]) (rest := []) (wr := ([] : va_W)) (w1 := fun _ : Unit => (w_X4 G mh0 mvq maq mlq mhq mfq mrq moq mbq msq th js mv ((f_X4_act js mv ma ac ml mh mo mb p1).2.1) ((f_X4_act js mv ma ac ml mh mo mb p1).2.2.1) po si ta ((f_X4_act js mv ma ac ml mh mo mb p1).2.2.2.1) ((f_X4_act js mv ma ac ml mh mo mb p1).2.2.2.2.1) gu wr mf mr re ((f_X4_act js mv ma ac ml mh mo mb p1).2.2.2.2.2.1) ((f_X4_act js mv ma ac ml mh mo mb p1).2.2.2.2.2.2) ms)) (wj := fun _ : Unit => (w_X4 G mh0 mvq maq mlq mhq mfq mrq moq mbq msq th js mv (f_X4_act js mv ma ac ml mh mo mb p1).2.1 (f_X4_act js mv ma ac ml mh mo mb p1).2.2.1 po si ta (f_X4_act js mv ma ac ml mh mo mb p1).2.2.2.1 (f_X4_act js mv ma ac ml mh mo mb p1).2.2.2.2.1 gu wr mf mr re (f_X4_act js mv ma ac ml mh mo mb p1).2.2.2.2.2.1 (f_X4_act js mv ma ac ml mh mo mb p1).2.2.2.2.2.2 ms)) (ci := 4) (q0 := 0) F (c_X4_act l G mh0 mvq maq mlq mhq mfq mrq moq mbq msq th js mv ma ac po si ta ml mh gu wr mf mr re mo mb ms p1 h_1) gX4_done_X4_act rfl rfl rfl zd_X4_act ⟨Nat.le_of_ble_eq_true rfl, Nat.le_of_ble_eq_true rfl⟩ rfl rfl (Nat.le_of_ble_eq_true rfl) dX4_done_2 ⟨Nat.le_of_ble_eq_true rfl, Nat.le_of_ble_eq_true rfl⟩ hK hP hD hS hA hl.1 rfl rfl [0, 1, 2, 3, 4, 5, 6, 7, 8, 9] [] [0, 1, 2, 3, 4, 5, 6, 7, 8, 9] rfl rfl rfl rfl (by decide) rfl (fun _ => rfl) (fun _ H locs hP hD hS => ?_)
  have hP : va_P G.1 vwCl (w_X4 G mh0 mvq maq mlq mhq mfq mrq moq mbq msq th js mv (f_X4_act js mv ma ac ml mh mo mb p1).2.1 (f_X4_act js mv ma ac ml mh mo mb p1).2.2.1 po si ta (f_X4_act js mv ma ac ml mh mo mb p1).2.2.2.1 (f_X4_act js mv ma ac ml mh mo mb p1).2.2.2.2.1 gu wr mf mr re (f_X4_act js mv ma ac ml mh mo mb p1).2.2.2.2.2.1 (f_X4_act js mv ma ac ml mh mo mb p1).2.2.2.2.2.2 ms) H := hP
  have hD : va_D A (w_X4 G mh0 mvq maq mlq mhq mfq mrq moq mbq msq th js mv (f_X4_act js mv ma ac ml mh mo mb p1).2.1 (f_X4_act js mv ma ac ml mh mo mb p1).2.2.1 po si ta (f_X4_act js mv ma ac ml mh mo mb p1).2.2.2.1 (f_X4_act js mv ma ac ml mh mo mb p1).2.2.2.2.1 gu wr mf mr re (f_X4_act js mv ma ac ml mh mo mb p1).2.2.2.2.2.1 (f_X4_act js mv ma ac ml mh mo mb p1).2.2.2.2.2.2 ms) := hD
  refine lv_istore_n (lv' := [(2, .int (f_X4_act js mv ma ac ml mh mo mb p1).1), (0, .ref mh0), (1, .int p1)]) hx hb dX4_done_5 rfl hl (by decide) rfl (fun ls hl => ?_)
  refine lv_aload_n hx hb dX4_done_6 rfl (lv_at hl 1 rfl) ?_
  refine lv_iload_n hx hb dX4_done_7 rfl (lv_at hl 2 rfl) ?_
  refine lv_iload_n hx hb dX4_done_8 rfl (lv_at hl 0 rfl) ?_
  refine z_callV (As := [.int p1, .int (f_X4_act js mv ma ac ml mh mo mb p1).1]) (rest := []) (wr := ([] : va_W)) (w1 := fun _ : Unit => (w_X4 G mh0 mvq maq mlq mhq mfq mrq moq mbq msq th js mv ((f_X4_act js mv ma ac ml mh mo mb p1).2.1) ((f_X4_act js mv ma ac ml mh mo mb p1).2.2.1) ((f_X4_count po si ta p1 ((f_X4_act js mv ma ac ml mh mo mb p1).1)).1) ((f_X4_count po si ta p1 ((f_X4_act js mv ma ac ml mh mo mb p1).1)).2.1) ((f_X4_count po si ta p1 ((f_X4_act js mv ma ac ml mh mo mb p1).1)).2.2) ((f_X4_act js mv ma ac ml mh mo mb p1).2.2.2.1) ((f_X4_act js mv ma ac ml mh mo mb p1).2.2.2.2.1) gu wr mf mr re ((f_X4_act js mv ma ac ml mh mo mb p1).2.2.2.2.2.1) ((f_X4_act js mv ma ac ml mh mo mb p1).2.2.2.2.2.2) ms)) (wj := fun _ : Unit => (w_X4 G mh0 mvq maq mlq mhq mfq mrq moq mbq msq th js mv (f_X4_act js mv ma ac ml mh mo mb p1).2.1 (f_X4_act js mv ma ac ml mh mo mb p1).2.2.1 (f_X4_count po si ta p1 ((f_X4_act js mv ma ac ml mh mo mb p1).1)).1 (f_X4_count po si ta p1 ((f_X4_act js mv ma ac ml mh mo mb p1).1)).2.1 (f_X4_count po si ta p1 ((f_X4_act js mv ma ac ml mh mo mb p1).1)).2.2 (f_X4_act js mv ma ac ml mh mo mb p1).2.2.2.1 (f_X4_act js mv ma ac ml mh mo mb p1).2.2.2.2.1 gu wr mf mr re (f_X4_act js mv ma ac ml mh mo mb p1).2.2.2.2.2.1 (f_X4_act js mv ma ac ml mh mo mb p1).2.2.2.2.2.2 ms)) (ci := 4) (q0 := 0) F (c_X4_count l G mh0 mvq maq mlq mhq mfq mrq moq mbq msq th js mv ((f_X4_act js mv ma ac ml mh mo mb p1).2.1) ((f_X4_act js mv ma ac ml mh mo mb p1).2.2.1) po si ta ((f_X4_act js mv ma ac ml mh mo mb p1).2.2.2.1) ((f_X4_act js mv ma ac ml mh mo mb p1).2.2.2.2.1) gu wr mf mr re ((f_X4_act js mv ma ac ml mh mo mb p1).2.2.2.2.2.1) ((f_X4_act js mv ma ac ml mh mo mb p1).2.2.2.2.2.2) ms p1 ((f_X4_act js mv ma ac ml mh mo mb p1).1)) gX4_done_X4_count rfl rfl rfl zd_X4_count ⟨Nat.le_of_ble_eq_true rfl, Nat.le_of_ble_eq_true rfl⟩ rfl rfl (Nat.le_of_ble_eq_true rfl) dX4_done_9 ⟨Nat.le_of_ble_eq_true rfl, Nat.le_of_ble_eq_true rfl⟩ hK hP hD hS hA hl.1 rfl rfl [0, 1, 2, 3, 4, 5, 6, 7, 8, 9] [] [0, 1, 2, 3, 4, 5, 6, 7, 8, 9] rfl rfl rfl rfl (by decide) rfl (fun _ => rfl) (fun _ H locs hP hD hS => ?_)
  have hP : va_P G.1 vwCl (w_X4 G mh0 mvq maq mlq mhq mfq mrq moq mbq msq th js mv (f_X4_act js mv ma ac ml mh mo mb p1).2.1 (f_X4_act js mv ma ac ml mh mo mb p1).2.2.1 (f_X4_count po si ta p1 ((f_X4_act js mv ma ac ml mh mo mb p1).1)).1 (f_X4_count po si ta p1 ((f_X4_act js mv ma ac ml mh mo mb p1).1)).2.1 (f_X4_count po si ta p1 ((f_X4_act js mv ma ac ml mh mo mb p1).1)).2.2 (f_X4_act js mv ma ac ml mh mo mb p1).2.2.2.1 (f_X4_act js mv ma ac ml mh mo mb p1).2.2.2.2.1 gu wr mf mr re (f_X4_act js mv ma ac ml mh mo mb p1).2.2.2.2.2.1 (f_X4_act js mv ma ac ml mh mo mb p1).2.2.2.2.2.2 ms) H := hP
  have hD : va_D A (w_X4 G mh0 mvq maq mlq mhq mfq mrq moq mbq msq th js mv (f_X4_act js mv ma ac ml mh mo mb p1).2.1 (f_X4_act js mv ma ac ml mh mo mb p1).2.2.1 (f_X4_count po si ta p1 ((f_X4_act js mv ma ac ml mh mo mb p1).1)).1 (f_X4_count po si ta p1 ((f_X4_act js mv ma ac ml mh mo mb p1).1)).2.1 (f_X4_count po si ta p1 ((f_X4_act js mv ma ac ml mh mo mb p1).1)).2.2 (f_X4_act js mv ma ac ml mh mo mb p1).2.2.2.1 (f_X4_act js mv ma ac ml mh mo mb p1).2.2.2.2.1 gu wr mf mr re (f_X4_act js mv ma ac ml mh mo mb p1).2.2.2.2.2.1 (f_X4_act js mv ma ac ml mh mo mb p1).2.2.2.2.2.2 ms) := hD
  refine lv_iload_n hx hb dX4_done_12 rfl (lv_at hl 0 rfl) ?_
  have e9 : (f_X4_done js mv ma ac po si ta ml mh mo mb p1) = ((f_X4_act js mv ma ac ml mh mo mb p1).1, (f_X4_act js mv ma ac ml mh mo mb p1).2.1, (f_X4_act js mv ma ac ml mh mo mb p1).2.2.1, (f_X4_count po si ta p1 ((f_X4_act js mv ma ac ml mh mo mb p1).1)).1, (f_X4_count po si ta p1 ((f_X4_act js mv ma ac ml mh mo mb p1).1)).2.1, (f_X4_count po si ta p1 ((f_X4_act js mv ma ac ml mh mo mb p1).1)).2.2, (f_X4_act js mv ma ac ml mh mo mb p1).2.2.2.1, (f_X4_act js mv ma ac ml mh mo mb p1).2.2.2.2.1, (f_X4_act js mv ma ac ml mh mo mb p1).2.2.2.2.2.1, (f_X4_act js mv ma ac ml mh mo mb p1).2.2.2.2.2.2) := (f_X4_done_eq js mv ma ac po si ta ml mh mo mb p1).trans (rfl)
  rw [e9]
  dsimp only
  exact z_iret F hr hlocks hP hD hS () [0, 1, 2, 3, 4, 5, 6, 7, 8, 9] rfl rfl rfl dX4_done_13
def f_X4_layOut (th : Int32) (js : Int32) (mv : Nat → Int32) (ma : Nat → Int32) (ac : Int32) (po : Int32) (si : Int32) (ta : Int32) (ml : Nat → Int32) (mh : Nat → Int32) (gu : Int32) (wr : Int32) (p1 : Int32) (p2 : Int32) (p3 : Int32) : Int32 × Int32 × Int32 × (Nat → Int32) × (Nat → Int32) × Int32 × Int32 × Int32 × Int32 × (Nat → Int32) × (Nat → Int32) × Int32 × Int32 := (if (f_X4_isVolume p1) = (0 : Int32) then ((f_X4_no (0 : Int32) (1 : Int32)).1, (f_X4_no (0 : Int32) (1 : Int32)).2, js, mv, ma, ac, po, si, ta, ml, mh, gu, wr) else (if (f_X4_isVolume p2) = (0 : Int32) then ((f_X4_no (0 : Int32) (1 : Int32)).1, (f_X4_no (0 : Int32) (1 : Int32)).2, js, mv, ma, ac, po, si, ta, ml, mh, gu, wr) else (if (f_X4_isAmount p3) = (0 : Int32) then ((f_X4_no (0 : Int32) (1 : Int32)).1, (f_X4_no (0 : Int32) (1 : Int32)).2, js, mv, ma, ac, po, si, ta, ml, mh, gu, wr) else ((f_X4_lay js mv ma ac po si ta ml mh gu wr p1 p2 p3).1, (0 : Int32), (f_X4_lay js mv ma ac po si ta ml mh gu wr p1 p2 p3).1, (f_X4_lay js mv ma ac po si ta ml mh gu wr p1 p2 p3).2.1, (f_X4_lay js mv ma ac po si ta ml mh gu wr p1 p2 p3).2.2.1, (f_X4_lay js mv ma ac po si ta ml mh gu wr p1 p2 p3).2.2.2.1, (f_X4_lay js mv ma ac po si ta ml mh gu wr p1 p2 p3).2.2.2.2.1, (f_X4_lay js mv ma ac po si ta ml mh gu wr p1 p2 p3).2.2.2.2.2.1, (f_X4_lay js mv ma ac po si ta ml mh gu wr p1 p2 p3).2.2.2.2.2.2.1, (f_X4_lay js mv ma ac po si ta ml mh gu wr p1 p2 p3).2.2.2.2.2.2.2.1, (f_X4_lay js mv ma ac po si ta ml mh gu wr p1 p2 p3).2.2.2.2.2.2.2.2.1, (f_X4_lay js mv ma ac po si ta ml mh gu wr p1 p2 p3).2.2.2.2.2.2.2.2.2.1, (f_X4_lay js mv ma ac po si ta ml mh gu wr p1 p2 p3).2.2.2.2.2.2.2.2.2.2))))
theorem f_X4_layOut_eq (th : Int32) (js : Int32) (mv : Nat → Int32) (ma : Nat → Int32) (ac : Int32) (po : Int32) (si : Int32) (ta : Int32) (ml : Nat → Int32) (mh : Nat → Int32) (gu : Int32) (wr : Int32) (p1 : Int32) (p2 : Int32) (p3 : Int32) : f_X4_layOut th js mv ma ac po si ta ml mh gu wr p1 p2 p3 = (if (f_X4_isVolume p1) = (0 : Int32) then ((f_X4_no (0 : Int32) (1 : Int32)).1, (f_X4_no (0 : Int32) (1 : Int32)).2, js, mv, ma, ac, po, si, ta, ml, mh, gu, wr) else (if (f_X4_isVolume p2) = (0 : Int32) then ((f_X4_no (0 : Int32) (1 : Int32)).1, (f_X4_no (0 : Int32) (1 : Int32)).2, js, mv, ma, ac, po, si, ta, ml, mh, gu, wr) else (if (f_X4_isAmount p3) = (0 : Int32) then ((f_X4_no (0 : Int32) (1 : Int32)).1, (f_X4_no (0 : Int32) (1 : Int32)).2, js, mv, ma, ac, po, si, ta, ml, mh, gu, wr) else ((f_X4_lay js mv ma ac po si ta ml mh gu wr p1 p2 p3).1, (0 : Int32), (f_X4_lay js mv ma ac po si ta ml mh gu wr p1 p2 p3).1, (f_X4_lay js mv ma ac po si ta ml mh gu wr p1 p2 p3).2.1, (f_X4_lay js mv ma ac po si ta ml mh gu wr p1 p2 p3).2.2.1, (f_X4_lay js mv ma ac po si ta ml mh gu wr p1 p2 p3).2.2.2.1, (f_X4_lay js mv ma ac po si ta ml mh gu wr p1 p2 p3).2.2.2.2.1, (f_X4_lay js mv ma ac po si ta ml mh gu wr p1 p2 p3).2.2.2.2.2.1, (f_X4_lay js mv ma ac po si ta ml mh gu wr p1 p2 p3).2.2.2.2.2.2.1, (f_X4_lay js mv ma ac po si ta ml mh gu wr p1 p2 p3).2.2.2.2.2.2.2.1, (f_X4_lay js mv ma ac po si ta ml mh gu wr p1 p2 p3).2.2.2.2.2.2.2.2.1, (f_X4_lay js mv ma ac po si ta ml mh gu wr p1 p2 p3).2.2.2.2.2.2.2.2.2.1, (f_X4_lay js mv ma ac po si ta ml mh gu wr p1 p2 p3).2.2.2.2.2.2.2.2.2.2)))) := rfl
def s_X4_layOut (p1 : Int32) (p2 : Int32) (p3 : Int32) : Prop := (((f_X4_isVolume p1) = (0 : Int32) → True) ∧ (¬ (f_X4_isVolume p1) = (0 : Int32) → (((f_X4_isVolume p2) = (0 : Int32) → True) ∧ (¬ (f_X4_isVolume p2) = (0 : Int32) → (((f_X4_isAmount p3) = (0 : Int32) → True) ∧ (¬ (f_X4_isAmount p3) = (0 : Int32) → (s_X4_lay p1 p2 p3)))))))
abbrev rm_X4_layOut : Room := { frames := 3, cells := 0, slots := 0, locals := 67 }
theorem zd_X4_layOut : yX4_layOut.cls = RX4 ∧ yX4_layOut.cls ≠ "java/lang/invoke/MethodHandle" ∧ yX4_layOut.cls ≠ "java/lang/invoke/VarHandle" ∧ (parseMethodDescriptor yX4_layOut.desc).map (fun d => d.parameters.length) = some 3 := by decide +kernel
theorem in_X4_layOut_X4 : ∀ w ∈ u_ws RX4 TX4 18, w ∈ wsX4_layOut := by decide +kernel
set_option maxHeartbeats 4000000 in
set_option maxRecDepth 100000 in
/-- JarRiddleModel.layOut(III)I -/
theorem c_X4_layOut (l : Launch) (G : zG) (mh0 mvq maq mlq mhq mfq mrq moq mbq msq : Nat) (th : Int32) (js : Int32) (mv : Nat → Int32) (ma : Nat → Int32) (ac : Int32) (po : Int32) (si : Int32) (ta : Int32) (ml : Nat → Int32) (mh : Nat → Int32) (gu : Int32) (wr : Int32) (mf : Nat → Int32) (mr : Nat → Int32) (re : Int32) (mo : Nat → Int32) (mb : Nat → Int32) (ms : Nat → Int32) (p1 : Int32) (p2 : Int32) (p3 : Int32) (hs : s_X4_layOut p1 p2 p3) : zC l G yX4_layOut wsX4_layOut rm_X4_layOut 0 0 [.ref mh0, .int p1, .int p2, .int p3] (w_X4 G mh0 mvq maq mlq mhq mfq mrq moq mbq msq th js mv ma ac po si ta ml mh gu wr mf mr re mo mb ms) (some (.int (f_X4_layOut th js mv ma ac po si ta ml mh gu wr p1 p2 p3).1)) (fun _ : Unit => (w_X4 G mh0 mvq maq mlq mhq mfq mrq moq mbq msq ((f_X4_layOut th js mv ma ac po si ta ml mh gu wr p1 p2 p3).2.1) ((f_X4_layOut th js mv ma ac po si ta ml mh gu wr p1 p2 p3).2.2.1) ((f_X4_layOut th js mv ma ac po si ta ml mh gu wr p1 p2 p3).2.2.2.1) ((f_X4_layOut th js mv ma ac po si ta ml mh gu wr p1 p2 p3).2.2.2.2.1) ((f_X4_layOut th js mv ma ac po si ta ml mh gu wr p1 p2 p3).2.2.2.2.2.1) ((f_X4_layOut th js mv ma ac po si ta ml mh gu wr p1 p2 p3).2.2.2.2.2.2.1) ((f_X4_layOut th js mv ma ac po si ta ml mh gu wr p1 p2 p3).2.2.2.2.2.2.2.1) ((f_X4_layOut th js mv ma ac po si ta ml mh gu wr p1 p2 p3).2.2.2.2.2.2.2.2.1) ((f_X4_layOut th js mv ma ac po si ta ml mh gu wr p1 p2 p3).2.2.2.2.2.2.2.2.2.1) ((f_X4_layOut th js mv ma ac po si ta ml mh gu wr p1 p2 p3).2.2.2.2.2.2.2.2.2.2.1) ((f_X4_layOut th js mv ma ac po si ta ml mh gu wr p1 p2 p3).2.2.2.2.2.2.2.2.2.2.2.1) ((f_X4_layOut th js mv ma ac po si ta ml mh gu wr p1 p2 p3).2.2.2.2.2.2.2.2.2.2.2.2) mf mr re mo mb ms)) := by
  refine z_of (cc := cX4_layOut) (maxL := 4) (ret := (some .int)) (own := RX4) (by decide) rfl rfl (Nat.le_of_ble_eq_true rfl) ?_
  intro p e s m args below meth c A H locs ls F hr hlocks hname hK hA hP hD hS hl
  obtain ⟨hx, hb, hml, hown, hts⟩ := id F
  have hl : lv_has ls 4 [(0, .ref mh0), (1, .int p1), (2, .int p2), (3, .int p3)] := hl
  have hs : (((f_X4_isVolume p1) = (0 : Int32) → True) ∧ (¬ (f_X4_isVolume p1) = (0 : Int32) → (((f_X4_isVolume p2) = (0 : Int32) → True) ∧ (¬ (f_X4_isVolume p2) = (0 : Int32) → (((f_X4_isAmount p3) = (0 : Int32) → True) ∧ (¬ (f_X4_isAmount p3) = (0 : Int32) → (s_X4_lay p1 p2 p3))))))) := hs
  refine lv_aload_n hx hb dX4_layOut_0 rfl (lv_at hl 0 rfl) ?_
  refine lv_iconst (v := (0 : Int32)) hx hb dX4_layOut_1 (by decide) ?_
  refine va_put (D := G.1) (ci := 4) (v := .int (0 : Int32)) (ty := .int) (C := RX4) (T := TX4) (N := 18) hx hb hts in_X4_layOut_X4 tyX4 tyX4_ok nmX4 hown hK.1 hP hD hS 0 rfl rfl 0 (by decide) (hts (.fieldLink RX4 42 "JarRiddleModel" "thrown" "I") (by decide +kernel)) (fun _ h9 => h9) rfl (by decide +kernel) rfl rfl (Nat.le_of_ble_eq_true rfl) dX4_layOut_2 (fun H locs hP hD hS => ?_)
  have hP : va_P G.1 vwCl (w_X4 G mh0 mvq maq mlq mhq mfq mrq moq mbq msq (0 : Int32) js mv ma ac po si ta ml mh gu wr mf mr re mo mb ms) H := hP
  have hD : va_D A (w_X4 G mh0 mvq maq mlq mhq mfq mrq moq mbq msq (0 : Int32) js mv ma ac po si ta ml mh gu wr mf mr re mo mb ms) := hD
  refine lv_iload_n hx hb dX4_layOut_5 rfl (lv_at hl 1 rfl) ?_
  refine z_callSX (As := [.int p1]) (rest := []) (wr := ([(mh0, .inr (4, [.int (0 : Int32), .int js, .ref mvq, .ref maq, .int ac, .int po, .int si, .int ta, .ref mlq, .ref mhq, .int gu, .int wr, .ref mfq, .ref mrq, .int re, .ref moq, .ref mbq, .ref msq])), (mvq, .inl (G.2.1, 3, .inl mv)), (maq, .inl (G.2.1, 3, .inl ma)), (mlq, .inl (G.2.2.1, 1000, .inl ml)), (mhq, .inl (G.2.1, 3000, .inl mh)), (mfq, .inl (G.2.1, 1000, .inl mf)), (mrq, .inl (G.2.1, 1000, .inl mr)), (moq, .inl (G.2.1, 3, .inl mo)), (mbq, .inl (G.2.1, 3, .inl mb)), (msq, .inl (G.2.1, 64, .inl ms))] : va_W)) (w1 := fun _ : Unit => ([] : va_W)) (wj := fun _ : Unit => (w_X4 G mh0 mvq maq mlq mhq mfq mrq moq mbq msq (0 : Int32) js mv ma ac po si ta ml mh gu wr mf mr re mo mb ms)) F (c_X4_isVolume l G p1) gX4_layOut_X4_isVolume rfl rfl rfl zd_X4_isVolume ⟨Nat.le_of_ble_eq_true rfl, Nat.le_of_ble_eq_true rfl⟩ rfl rfl (Nat.le_of_ble_eq_true rfl) dX4_layOut_6 ⟨Nat.le_of_ble_eq_true rfl, Nat.le_of_ble_eq_true rfl⟩ hK hP hD hS hA hl.1 [] [0, 1, 2, 3, 4, 5, 6, 7, 8, 9] [0, 1, 2, 3, 4, 5, 6, 7, 8, 9] rfl rfl rfl rfl (by decide) rfl (fun _ => rfl) (fun _ H locs hP hD hS => ?_)
  have hP : va_P G.1 vwCl (w_X4 G mh0 mvq maq mlq mhq mfq mrq moq mbq msq (0 : Int32) js mv ma ac po si ta ml mh gu wr mf mr re mo mb ms) H := hP
  have hD : va_D A (w_X4 G mh0 mvq maq mlq mhq mfq mrq moq mbq msq (0 : Int32) js mv ma ac po si ta ml mh gu wr mf mr re mo mb ms) := hD
  refine lv_if_eq (tgt := 26) hx hb dX4_layOut_9 (by decide) (fun (c_1 : (f_X4_isVolume p1) = (0 : Int32)) => ?_) (fun (c_1 : ¬ (f_X4_isVolume p1) = (0 : Int32)) => ?_)
  · refine lv_aload_n hx hb dX4_layOut_26 rfl (lv_at hl 0 rfl) ?_
    refine lv_iconst (v := (1 : Int32)) hx hb dX4_layOut_27 (by decide) ?_
    refine z_callV (As := [.int (1 : Int32)]) (rest := []) (wr := ([] : va_W)) (w1 := fun _ : Unit => (w_X4 G mh0 mvq maq mlq mhq mfq mrq moq mbq msq ((f_X4_no (0 : Int32) (1 : Int32)).2) js mv ma ac po si ta ml mh gu wr mf mr re mo mb ms)) (wj := fun _ : Unit => (w_X4 G mh0 mvq maq mlq mhq mfq mrq moq mbq msq (f_X4_no (0 : Int32) (1 : Int32)).2 js mv ma ac po si ta ml mh gu wr mf mr re mo mb ms)) (ci := 4) (q0 := 0) F (c_X4_no l G mh0 mvq maq mlq mhq mfq mrq moq mbq msq (0 : Int32) js mv ma ac po si ta ml mh gu wr mf mr re mo mb ms (1 : Int32)) gX4_layOut_X4_no rfl rfl rfl zd_X4_no ⟨Nat.le_of_ble_eq_true rfl, Nat.le_of_ble_eq_true rfl⟩ rfl rfl (Nat.le_of_ble_eq_true rfl) dX4_layOut_28 ⟨Nat.le_of_ble_eq_true rfl, Nat.le_of_ble_eq_true rfl⟩ hK hP hD hS hA hl.1 rfl rfl [0, 1, 2, 3, 4, 5, 6, 7, 8, 9] [] [0, 1, 2, 3, 4, 5, 6, 7, 8, 9] rfl rfl rfl rfl (by decide) rfl (fun _ => rfl) (fun _ H locs hP hD hS => ?_)
    have hP : va_P G.1 vwCl (w_X4 G mh0 mvq maq mlq mhq mfq mrq moq mbq msq (f_X4_no (0 : Int32) (1 : Int32)).2 js mv ma ac po si ta ml mh gu wr mf mr re mo mb ms) H := hP
    have hD : va_D A (w_X4 G mh0 mvq maq mlq mhq mfq mrq moq mbq msq (f_X4_no (0 : Int32) (1 : Int32)).2 js mv ma ac po si ta ml mh gu wr mf mr re mo mb ms) := hD
    have e9 : (f_X4_layOut th js mv ma ac po si ta ml mh gu wr p1 p2 p3) = ((f_X4_no (0 : Int32) (1 : Int32)).1, (f_X4_no (0 : Int32) (1 : Int32)).2, js, mv, ma, ac, po, si, ta, ml, mh, gu, wr) := (f_X4_layOut_eq th js mv ma ac po si ta ml mh gu wr p1 p2 p3).trans ((if_pos c_1).trans (rfl))
    rw [e9]
    dsimp only
    exact z_iret F hr hlocks hP hD hS () [0, 1, 2, 3, 4, 5, 6, 7, 8, 9] rfl rfl rfl dX4_layOut_31
  · have hs := hs.2 c_1
    refine lv_iload_n hx hb dX4_layOut_12 rfl (lv_at hl 2 rfl) ?_
    refine z_callSX (As := [.int p2]) (rest := []) (wr := ([(mh0, .inr (4, [.int (0 : Int32), .int js, .ref mvq, .ref maq, .int ac, .int po, .int si, .int ta, .ref mlq, .ref mhq, .int gu, .int wr, .ref mfq, .ref mrq, .int re, .ref moq, .ref mbq, .ref msq])), (mvq, .inl (G.2.1, 3, .inl mv)), (maq, .inl (G.2.1, 3, .inl ma)), (mlq, .inl (G.2.2.1, 1000, .inl ml)), (mhq, .inl (G.2.1, 3000, .inl mh)), (mfq, .inl (G.2.1, 1000, .inl mf)), (mrq, .inl (G.2.1, 1000, .inl mr)), (moq, .inl (G.2.1, 3, .inl mo)), (mbq, .inl (G.2.1, 3, .inl mb)), (msq, .inl (G.2.1, 64, .inl ms))] : va_W)) (w1 := fun _ : Unit => ([] : va_W)) (wj := fun _ : Unit => (w_X4 G mh0 mvq maq mlq mhq mfq mrq moq mbq msq (0 : Int32) js mv ma ac po si ta ml mh gu wr mf mr re mo mb ms)) F (c_X4_isVolume l G p2) gX4_layOut_X4_isVolume rfl rfl rfl zd_X4_isVolume ⟨Nat.le_of_ble_eq_true rfl, Nat.le_of_ble_eq_true rfl⟩ rfl rfl (Nat.le_of_ble_eq_true rfl) dX4_layOut_13 ⟨Nat.le_of_ble_eq_true rfl, Nat.le_of_ble_eq_true rfl⟩ hK hP hD hS hA hl.1 [] [0, 1, 2, 3, 4, 5, 6, 7, 8, 9] [0, 1, 2, 3, 4, 5, 6, 7, 8, 9] rfl rfl rfl rfl (by decide) rfl (fun _ => rfl) (fun _ H locs hP hD hS => ?_)
    have hP : va_P G.1 vwCl (w_X4 G mh0 mvq maq mlq mhq mfq mrq moq mbq msq (0 : Int32) js mv ma ac po si ta ml mh gu wr mf mr re mo mb ms) H := hP
    have hD : va_D A (w_X4 G mh0 mvq maq mlq mhq mfq mrq moq mbq msq (0 : Int32) js mv ma ac po si ta ml mh gu wr mf mr re mo mb ms) := hD
    refine lv_if_eq (tgt := 26) hx hb dX4_layOut_16 (by decide) (fun (c_2 : (f_X4_isVolume p2) = (0 : Int32)) => ?_) (fun (c_2 : ¬ (f_X4_isVolume p2) = (0 : Int32)) => ?_)
    · refine lv_aload_n hx hb dX4_layOut_26 rfl (lv_at hl 0 rfl) ?_
      refine lv_iconst (v := (1 : Int32)) hx hb dX4_layOut_27 (by decide) ?_
      refine z_callV (As := [.int (1 : Int32)]) (rest := []) (wr := ([] : va_W)) (w1 := fun _ : Unit => (w_X4 G mh0 mvq maq mlq mhq mfq mrq moq mbq msq ((f_X4_no (0 : Int32) (1 : Int32)).2) js mv ma ac po si ta ml mh gu wr mf mr re mo mb ms)) (wj := fun _ : Unit => (w_X4 G mh0 mvq maq mlq mhq mfq mrq moq mbq msq (f_X4_no (0 : Int32) (1 : Int32)).2 js mv ma ac po si ta ml mh gu wr mf mr re mo mb ms)) (ci := 4) (q0 := 0) F (c_X4_no l G mh0 mvq maq mlq mhq mfq mrq moq mbq msq (0 : Int32) js mv ma ac po si ta ml mh gu wr mf mr re mo mb ms (1 : Int32)) gX4_layOut_X4_no rfl rfl rfl zd_X4_no ⟨Nat.le_of_ble_eq_true rfl, Nat.le_of_ble_eq_true rfl⟩ rfl rfl (Nat.le_of_ble_eq_true rfl) dX4_layOut_28 ⟨Nat.le_of_ble_eq_true rfl, Nat.le_of_ble_eq_true rfl⟩ hK hP hD hS hA hl.1 rfl rfl [0, 1, 2, 3, 4, 5, 6, 7, 8, 9] [] [0, 1, 2, 3, 4, 5, 6, 7, 8, 9] rfl rfl rfl rfl (by decide) rfl (fun _ => rfl) (fun _ H locs hP hD hS => ?_)
      have hP : va_P G.1 vwCl (w_X4 G mh0 mvq maq mlq mhq mfq mrq moq mbq msq (f_X4_no (0 : Int32) (1 : Int32)).2 js mv ma ac po si ta ml mh gu wr mf mr re mo mb ms) H := hP
      have hD : va_D A (w_X4 G mh0 mvq maq mlq mhq mfq mrq moq mbq msq (f_X4_no (0 : Int32) (1 : Int32)).2 js mv ma ac po si ta ml mh gu wr mf mr re mo mb ms) := hD
      have e9 : (f_X4_layOut th js mv ma ac po si ta ml mh gu wr p1 p2 p3) = ((f_X4_no (0 : Int32) (1 : Int32)).1, (f_X4_no (0 : Int32) (1 : Int32)).2, js, mv, ma, ac, po, si, ta, ml, mh, gu, wr) := (f_X4_layOut_eq th js mv ma ac po si ta ml mh gu wr p1 p2 p3).trans ((if_neg c_1).trans ((if_pos c_2).trans (rfl)))
      rw [e9]
      dsimp only
      exact z_iret F hr hlocks hP hD hS () [0, 1, 2, 3, 4, 5, 6, 7, 8, 9] rfl rfl rfl dX4_layOut_31
    · have hs := hs.2 c_2
      refine lv_iload_n hx hb dX4_layOut_19 rfl (lv_at hl 3 rfl) ?_
      refine z_callSX (As := [.int p3]) (rest := []) (wr := ([(mh0, .inr (4, [.int (0 : Int32), .int js, .ref mvq, .ref maq, .int ac, .int po, .int si, .int ta, .ref mlq, .ref mhq, .int gu, .int wr, .ref mfq, .ref mrq, .int re, .ref moq, .ref mbq, .ref msq])), (mvq, .inl (G.2.1, 3, .inl mv)), (maq, .inl (G.2.1, 3, .inl ma)), (mlq, .inl (G.2.2.1, 1000, .inl ml)), (mhq, .inl (G.2.1, 3000, .inl mh)), (mfq, .inl (G.2.1, 1000, .inl mf)), (mrq, .inl (G.2.1, 1000, .inl mr)), (moq, .inl (G.2.1, 3, .inl mo)), (mbq, .inl (G.2.1, 3, .inl mb)), (msq, .inl (G.2.1, 64, .inl ms))] : va_W)) (w1 := fun _ : Unit => ([] : va_W)) (wj := fun _ : Unit => (w_X4 G mh0 mvq maq mlq mhq mfq mrq moq mbq msq (0 : Int32) js mv ma ac po si ta ml mh gu wr mf mr re mo mb ms)) F (c_X4_isAmount l G p3) gX4_layOut_X4_isAmount rfl rfl rfl zd_X4_isAmount ⟨Nat.le_of_ble_eq_true rfl, Nat.le_of_ble_eq_true rfl⟩ rfl rfl (Nat.le_of_ble_eq_true rfl) dX4_layOut_20 ⟨Nat.le_of_ble_eq_true rfl, Nat.le_of_ble_eq_true rfl⟩ hK hP hD hS hA hl.1 [] [0, 1, 2, 3, 4, 5, 6, 7, 8, 9] [0, 1, 2, 3, 4, 5, 6, 7, 8, 9] rfl rfl rfl rfl (by decide) rfl (fun _ => rfl) (fun _ H locs hP hD hS => ?_)
      have hP : va_P G.1 vwCl (w_X4 G mh0 mvq maq mlq mhq mfq mrq moq mbq msq (0 : Int32) js mv ma ac po si ta ml mh gu wr mf mr re mo mb ms) H := hP
      have hD : va_D A (w_X4 G mh0 mvq maq mlq mhq mfq mrq moq mbq msq (0 : Int32) js mv ma ac po si ta ml mh gu wr mf mr re mo mb ms) := hD
      refine lv_if_ne (tgt := 32) hx hb dX4_layOut_23 (by decide) (fun (c_3 : ¬ (f_X4_isAmount p3) = (0 : Int32)) => ?_) (fun (c_3 : (f_X4_isAmount p3) = (0 : Int32)) => ?_)
      · have hs := hs.2 c_3
        refine lv_aload_n hx hb dX4_layOut_32 rfl (lv_at hl 0 rfl) ?_
        refine lv_iload_n hx hb dX4_layOut_33 rfl (lv_at hl 1 rfl) ?_
        refine lv_iload_n hx hb dX4_layOut_34 rfl (lv_at hl 2 rfl) ?_
        refine lv_iload_n hx hb dX4_layOut_35 rfl (lv_at hl 3 rfl) ?_
        have h_4 := hs
        refine z_callV (As := [.int p1, .int p2, .int p3]) (rest := []) (wr := ([] : va_W)) (w1 := fun _ : Unit => (w_X4 G mh0 mvq maq mlq mhq mfq mrq moq mbq msq (0 : Int32) ((f_X4_lay js mv ma ac po si ta ml mh gu wr p1 p2 p3).1) ((f_X4_lay js mv ma ac po si ta ml mh gu wr p1 p2 p3).2.1) ((f_X4_lay js mv ma ac po si ta ml mh gu wr p1 p2 p3).2.2.1) ((f_X4_lay js mv ma ac po si ta ml mh gu wr p1 p2 p3).2.2.2.1) ((f_X4_lay js mv ma ac po si ta ml mh gu wr p1 p2 p3).2.2.2.2.1) ((f_X4_lay js mv ma ac po si ta ml mh gu wr p1 p2 p3).2.2.2.2.2.1) ((f_X4_lay js mv ma ac po si ta ml mh gu wr p1 p2 p3).2.2.2.2.2.2.1) ((f_X4_lay js mv ma ac po si ta ml mh gu wr p1 p2 p3).2.2.2.2.2.2.2.1) ((f_X4_lay js mv ma ac po si ta ml mh gu wr p1 p2 p3).2.2.2.2.2.2.2.2.1) ((f_X4_lay js mv ma ac po si ta ml mh gu wr p1 p2 p3).2.2.2.2.2.2.2.2.2.1) ((f_X4_lay js mv ma ac po si ta ml mh gu wr p1 p2 p3).2.2.2.2.2.2.2.2.2.2) mf mr re mo mb ms)) (wj := fun _ : Unit => (w_X4 G mh0 mvq maq mlq mhq mfq mrq moq mbq msq (0 : Int32) (f_X4_lay js mv ma ac po si ta ml mh gu wr p1 p2 p3).1 (f_X4_lay js mv ma ac po si ta ml mh gu wr p1 p2 p3).2.1 (f_X4_lay js mv ma ac po si ta ml mh gu wr p1 p2 p3).2.2.1 (f_X4_lay js mv ma ac po si ta ml mh gu wr p1 p2 p3).2.2.2.1 (f_X4_lay js mv ma ac po si ta ml mh gu wr p1 p2 p3).2.2.2.2.1 (f_X4_lay js mv ma ac po si ta ml mh gu wr p1 p2 p3).2.2.2.2.2.1 (f_X4_lay js mv ma ac po si ta ml mh gu wr p1 p2 p3).2.2.2.2.2.2.1 (f_X4_lay js mv ma ac po si ta ml mh gu wr p1 p2 p3).2.2.2.2.2.2.2.1 (f_X4_lay js mv ma ac po si ta ml mh gu wr p1 p2 p3).2.2.2.2.2.2.2.2.1 (f_X4_lay js mv ma ac po si ta ml mh gu wr p1 p2 p3).2.2.2.2.2.2.2.2.2.1 (f_X4_lay js mv ma ac po si ta ml mh gu wr p1 p2 p3).2.2.2.2.2.2.2.2.2.2 mf mr re mo mb ms)) (ci := 4) (q0 := 0) F (c_X4_lay l G mh0 mvq maq mlq mhq mfq mrq moq mbq msq (0 : Int32) js mv ma ac po si ta ml mh gu wr mf mr re mo mb ms p1 p2 p3 h_4) gX4_layOut_X4_lay rfl rfl rfl zd_X4_lay ⟨Nat.le_of_ble_eq_true rfl, Nat.le_of_ble_eq_true rfl⟩ rfl rfl (Nat.le_of_ble_eq_true rfl) dX4_layOut_36 ⟨Nat.le_of_ble_eq_true rfl, Nat.le_of_ble_eq_true rfl⟩ hK hP hD hS hA hl.1 rfl rfl [0, 1, 2, 3, 4, 5, 6, 7, 8, 9] [] [0, 1, 2, 3, 4, 5, 6, 7, 8, 9] rfl rfl rfl rfl (by decide) rfl (fun _ => rfl) (fun _ H locs hP hD hS => ?_)
        have hP : va_P G.1 vwCl (w_X4 G mh0 mvq maq mlq mhq mfq mrq moq mbq msq (0 : Int32) (f_X4_lay js mv ma ac po si ta ml mh gu wr p1 p2 p3).1 (f_X4_lay js mv ma ac po si ta ml mh gu wr p1 p2 p3).2.1 (f_X4_lay js mv ma ac po si ta ml mh gu wr p1 p2 p3).2.2.1 (f_X4_lay js mv ma ac po si ta ml mh gu wr p1 p2 p3).2.2.2.1 (f_X4_lay js mv ma ac po si ta ml mh gu wr p1 p2 p3).2.2.2.2.1 (f_X4_lay js mv ma ac po si ta ml mh gu wr p1 p2 p3).2.2.2.2.2.1 (f_X4_lay js mv ma ac po si ta ml mh gu wr p1 p2 p3).2.2.2.2.2.2.1 (f_X4_lay js mv ma ac po si ta ml mh gu wr p1 p2 p3).2.2.2.2.2.2.2.1 (f_X4_lay js mv ma ac po si ta ml mh gu wr p1 p2 p3).2.2.2.2.2.2.2.2.1 (f_X4_lay js mv ma ac po si ta ml mh gu wr p1 p2 p3).2.2.2.2.2.2.2.2.2.1 (f_X4_lay js mv ma ac po si ta ml mh gu wr p1 p2 p3).2.2.2.2.2.2.2.2.2.2 mf mr re mo mb ms) H := hP
        have hD : va_D A (w_X4 G mh0 mvq maq mlq mhq mfq mrq moq mbq msq (0 : Int32) (f_X4_lay js mv ma ac po si ta ml mh gu wr p1 p2 p3).1 (f_X4_lay js mv ma ac po si ta ml mh gu wr p1 p2 p3).2.1 (f_X4_lay js mv ma ac po si ta ml mh gu wr p1 p2 p3).2.2.1 (f_X4_lay js mv ma ac po si ta ml mh gu wr p1 p2 p3).2.2.2.1 (f_X4_lay js mv ma ac po si ta ml mh gu wr p1 p2 p3).2.2.2.2.1 (f_X4_lay js mv ma ac po si ta ml mh gu wr p1 p2 p3).2.2.2.2.2.1 (f_X4_lay js mv ma ac po si ta ml mh gu wr p1 p2 p3).2.2.2.2.2.2.1 (f_X4_lay js mv ma ac po si ta ml mh gu wr p1 p2 p3).2.2.2.2.2.2.2.1 (f_X4_lay js mv ma ac po si ta ml mh gu wr p1 p2 p3).2.2.2.2.2.2.2.2.1 (f_X4_lay js mv ma ac po si ta ml mh gu wr p1 p2 p3).2.2.2.2.2.2.2.2.2.1 (f_X4_lay js mv ma ac po si ta ml mh gu wr p1 p2 p3).2.2.2.2.2.2.2.2.2.2 mf mr re mo mb ms) := hD
        refine lv_aload_n hx hb dX4_layOut_39 rfl (lv_at hl 0 rfl) ?_
        refine va_get (D := G.1) (ci := 4) (v := .int (f_X4_lay js mv ma ac po si ta ml mh gu wr p1 p2 p3).1) (C := RX4) (T := TX4) (N := 18) hx hb hts in_X4_layOut_X4 hown hK.1 hP 0 rfl rfl 1 (by decide) (hts (.fieldLink RX4 46 "JarRiddleModel" "jars" "I") (by decide +kernel)) (fun _ h9 => h9) rfl dX4_layOut_40 ?_
        have e9 : (f_X4_layOut th js mv ma ac po si ta ml mh gu wr p1 p2 p3) = ((f_X4_lay js mv ma ac po si ta ml mh gu wr p1 p2 p3).1, (0 : Int32), (f_X4_lay js mv ma ac po si ta ml mh gu wr p1 p2 p3).1, (f_X4_lay js mv ma ac po si ta ml mh gu wr p1 p2 p3).2.1, (f_X4_lay js mv ma ac po si ta ml mh gu wr p1 p2 p3).2.2.1, (f_X4_lay js mv ma ac po si ta ml mh gu wr p1 p2 p3).2.2.2.1, (f_X4_lay js mv ma ac po si ta ml mh gu wr p1 p2 p3).2.2.2.2.1, (f_X4_lay js mv ma ac po si ta ml mh gu wr p1 p2 p3).2.2.2.2.2.1, (f_X4_lay js mv ma ac po si ta ml mh gu wr p1 p2 p3).2.2.2.2.2.2.1, (f_X4_lay js mv ma ac po si ta ml mh gu wr p1 p2 p3).2.2.2.2.2.2.2.1, (f_X4_lay js mv ma ac po si ta ml mh gu wr p1 p2 p3).2.2.2.2.2.2.2.2.1, (f_X4_lay js mv ma ac po si ta ml mh gu wr p1 p2 p3).2.2.2.2.2.2.2.2.2.1, (f_X4_lay js mv ma ac po si ta ml mh gu wr p1 p2 p3).2.2.2.2.2.2.2.2.2.2) := (f_X4_layOut_eq th js mv ma ac po si ta ml mh gu wr p1 p2 p3).trans ((if_neg c_1).trans ((if_neg c_2).trans ((if_neg c_3).trans (rfl))))
        rw [e9]
        dsimp only
        exact z_iret F hr hlocks hP hD hS () [0, 1, 2, 3, 4, 5, 6, 7, 8, 9] rfl rfl rfl dX4_layOut_43
      · refine lv_aload_n hx hb dX4_layOut_26 rfl (lv_at hl 0 rfl) ?_
        refine lv_iconst (v := (1 : Int32)) hx hb dX4_layOut_27 (by decide) ?_
        refine z_callV (As := [.int (1 : Int32)]) (rest := []) (wr := ([] : va_W)) (w1 := fun _ : Unit => (w_X4 G mh0 mvq maq mlq mhq mfq mrq moq mbq msq ((f_X4_no (0 : Int32) (1 : Int32)).2) js mv ma ac po si ta ml mh gu wr mf mr re mo mb ms)) (wj := fun _ : Unit => (w_X4 G mh0 mvq maq mlq mhq mfq mrq moq mbq msq (f_X4_no (0 : Int32) (1 : Int32)).2 js mv ma ac po si ta ml mh gu wr mf mr re mo mb ms)) (ci := 4) (q0 := 0) F (c_X4_no l G mh0 mvq maq mlq mhq mfq mrq moq mbq msq (0 : Int32) js mv ma ac po si ta ml mh gu wr mf mr re mo mb ms (1 : Int32)) gX4_layOut_X4_no rfl rfl rfl zd_X4_no ⟨Nat.le_of_ble_eq_true rfl, Nat.le_of_ble_eq_true rfl⟩ rfl rfl (Nat.le_of_ble_eq_true rfl) dX4_layOut_28 ⟨Nat.le_of_ble_eq_true rfl, Nat.le_of_ble_eq_true rfl⟩ hK hP hD hS hA hl.1 rfl rfl [0, 1, 2, 3, 4, 5, 6, 7, 8, 9] [] [0, 1, 2, 3, 4, 5, 6, 7, 8, 9] rfl rfl rfl rfl (by decide) rfl (fun _ => rfl) (fun _ H locs hP hD hS => ?_)
        have hP : va_P G.1 vwCl (w_X4 G mh0 mvq maq mlq mhq mfq mrq moq mbq msq (f_X4_no (0 : Int32) (1 : Int32)).2 js mv ma ac po si ta ml mh gu wr mf mr re mo mb ms) H := hP
        have hD : va_D A (w_X4 G mh0 mvq maq mlq mhq mfq mrq moq mbq msq (f_X4_no (0 : Int32) (1 : Int32)).2 js mv ma ac po si ta ml mh gu wr mf mr re mo mb ms) := hD
        have e9 : (f_X4_layOut th js mv ma ac po si ta ml mh gu wr p1 p2 p3) = ((f_X4_no (0 : Int32) (1 : Int32)).1, (f_X4_no (0 : Int32) (1 : Int32)).2, js, mv, ma, ac, po, si, ta, ml, mh, gu, wr) := (f_X4_layOut_eq th js mv ma ac po si ta ml mh gu wr p1 p2 p3).trans ((if_neg c_1).trans ((if_neg c_2).trans ((if_pos c_3).trans (rfl))))
        rw [e9]
        dsimp only
        exact z_iret F hr hlocks hP hD hS () [0, 1, 2, 3, 4, 5, 6, 7, 8, 9] rfl rfl rfl dX4_layOut_31
def f_X4_fill (th : Int32) (js : Int32) (mv : Nat → Int32) (ma : Nat → Int32) (ac : Int32) (po : Int32) (si : Int32) (ta : Int32) (ml : Nat → Int32) (mh : Nat → Int32) (mo : Nat → Int32) (mb : Nat → Int32) (p1 : Int32) : Int32 × Int32 × (Nat → Int32) × Int32 × Int32 × Int32 × Int32 × (Nat → Int32) × (Nat → Int32) × (Nat → Int32) × (Nat → Int32) := (if (f_X4_isJar js p1) = (0 : Int32) then ((f_X4_no (0 : Int32) (1 : Int32)).1, (f_X4_no (0 : Int32) (1 : Int32)).2, ma, ac, po, si, ta, ml, mh, mo, mb) else ((f_X4_done js mv ma ac po si ta ml mh mo mb p1).1, (0 : Int32), (f_X4_done js mv ma ac po si ta ml mh mo mb p1).2.1, (f_X4_done js mv ma ac po si ta ml mh mo mb p1).2.2.1, (f_X4_done js mv ma ac po si ta ml mh mo mb p1).2.2.2.1, (f_X4_done js mv ma ac po si ta ml mh mo mb p1).2.2.2.2.1, (f_X4_done js mv ma ac po si ta ml mh mo mb p1).2.2.2.2.2.1, (f_X4_done js mv ma ac po si ta ml mh mo mb p1).2.2.2.2.2.2.1, (f_X4_done js mv ma ac po si ta ml mh mo mb p1).2.2.2.2.2.2.2.1, (f_X4_done js mv ma ac po si ta ml mh mo mb p1).2.2.2.2.2.2.2.2.1, (f_X4_done js mv ma ac po si ta ml mh mo mb p1).2.2.2.2.2.2.2.2.2))
theorem f_X4_fill_eq (th : Int32) (js : Int32) (mv : Nat → Int32) (ma : Nat → Int32) (ac : Int32) (po : Int32) (si : Int32) (ta : Int32) (ml : Nat → Int32) (mh : Nat → Int32) (mo : Nat → Int32) (mb : Nat → Int32) (p1 : Int32) : f_X4_fill th js mv ma ac po si ta ml mh mo mb p1 = (if (f_X4_isJar js p1) = (0 : Int32) then ((f_X4_no (0 : Int32) (1 : Int32)).1, (f_X4_no (0 : Int32) (1 : Int32)).2, ma, ac, po, si, ta, ml, mh, mo, mb) else ((f_X4_done js mv ma ac po si ta ml mh mo mb p1).1, (0 : Int32), (f_X4_done js mv ma ac po si ta ml mh mo mb p1).2.1, (f_X4_done js mv ma ac po si ta ml mh mo mb p1).2.2.1, (f_X4_done js mv ma ac po si ta ml mh mo mb p1).2.2.2.1, (f_X4_done js mv ma ac po si ta ml mh mo mb p1).2.2.2.2.1, (f_X4_done js mv ma ac po si ta ml mh mo mb p1).2.2.2.2.2.1, (f_X4_done js mv ma ac po si ta ml mh mo mb p1).2.2.2.2.2.2.1, (f_X4_done js mv ma ac po si ta ml mh mo mb p1).2.2.2.2.2.2.2.1, (f_X4_done js mv ma ac po si ta ml mh mo mb p1).2.2.2.2.2.2.2.2.1, (f_X4_done js mv ma ac po si ta ml mh mo mb p1).2.2.2.2.2.2.2.2.2)) := rfl
def s_X4_fill (js : Int32) (mv : Nat → Int32) (ma : Nat → Int32) (ml : Nat → Int32) (mh : Nat → Int32) (mo : Nat → Int32) (mb : Nat → Int32) (p1 : Int32) : Prop := (((f_X4_isJar js p1) = (0 : Int32) → True) ∧ (¬ (f_X4_isJar js p1) = (0 : Int32) → (s_X4_done js mv ma ml mh mo mb p1)))
abbrev rm_X4_fill : Room := { frames := 4, cells := 0, slots := 0, locals := 90 }
theorem zd_X4_fill : yX4_fill.cls = RX4 ∧ yX4_fill.cls ≠ "java/lang/invoke/MethodHandle" ∧ yX4_fill.cls ≠ "java/lang/invoke/VarHandle" ∧ (parseMethodDescriptor yX4_fill.desc).map (fun d => d.parameters.length) = some 1 := by decide +kernel
theorem in_X4_fill_X4 : ∀ w ∈ u_ws RX4 TX4 18, w ∈ wsX4_fill := by decide +kernel
set_option maxHeartbeats 4000000 in
set_option maxRecDepth 100000 in
/-- JarRiddleModel.fill(I)I -/
theorem c_X4_fill (l : Launch) (G : zG) (mh0 mvq maq mlq mhq mfq mrq moq mbq msq : Nat) (th : Int32) (js : Int32) (mv : Nat → Int32) (ma : Nat → Int32) (ac : Int32) (po : Int32) (si : Int32) (ta : Int32) (ml : Nat → Int32) (mh : Nat → Int32) (gu : Int32) (wr : Int32) (mf : Nat → Int32) (mr : Nat → Int32) (re : Int32) (mo : Nat → Int32) (mb : Nat → Int32) (ms : Nat → Int32) (p1 : Int32) (hs : s_X4_fill js mv ma ml mh mo mb p1) : zC l G yX4_fill wsX4_fill rm_X4_fill 0 0 [.ref mh0, .int p1] (w_X4 G mh0 mvq maq mlq mhq mfq mrq moq mbq msq th js mv ma ac po si ta ml mh gu wr mf mr re mo mb ms) (some (.int (f_X4_fill th js mv ma ac po si ta ml mh mo mb p1).1)) (fun _ : Unit => (w_X4 G mh0 mvq maq mlq mhq mfq mrq moq mbq msq ((f_X4_fill th js mv ma ac po si ta ml mh mo mb p1).2.1) js mv ((f_X4_fill th js mv ma ac po si ta ml mh mo mb p1).2.2.1) ((f_X4_fill th js mv ma ac po si ta ml mh mo mb p1).2.2.2.1) ((f_X4_fill th js mv ma ac po si ta ml mh mo mb p1).2.2.2.2.1) ((f_X4_fill th js mv ma ac po si ta ml mh mo mb p1).2.2.2.2.2.1) ((f_X4_fill th js mv ma ac po si ta ml mh mo mb p1).2.2.2.2.2.2.1) ((f_X4_fill th js mv ma ac po si ta ml mh mo mb p1).2.2.2.2.2.2.2.1) ((f_X4_fill th js mv ma ac po si ta ml mh mo mb p1).2.2.2.2.2.2.2.2.1) gu wr mf mr re ((f_X4_fill th js mv ma ac po si ta ml mh mo mb p1).2.2.2.2.2.2.2.2.2.1) ((f_X4_fill th js mv ma ac po si ta ml mh mo mb p1).2.2.2.2.2.2.2.2.2.2) ms)) := by
  refine z_of (cc := cX4_fill) (maxL := 2) (ret := (some .int)) (own := RX4) (by decide) rfl rfl (Nat.le_of_ble_eq_true rfl) ?_
  intro p e s m args below meth c A H locs ls F hr hlocks hname hK hA hP hD hS hl
  obtain ⟨hx, hb, hml, hown, hts⟩ := id F
  have hl : lv_has ls 2 [(0, .ref mh0), (1, .int p1)] := hl
  have hs : (((f_X4_isJar js p1) = (0 : Int32) → True) ∧ (¬ (f_X4_isJar js p1) = (0 : Int32) → (s_X4_done js mv ma ml mh mo mb p1))) := hs
  refine lv_aload_n hx hb dX4_fill_0 rfl (lv_at hl 0 rfl) ?_
  refine lv_iconst (v := (0 : Int32)) hx hb dX4_fill_1 (by decide) ?_
  refine va_put (D := G.1) (ci := 4) (v := .int (0 : Int32)) (ty := .int) (C := RX4) (T := TX4) (N := 18) hx hb hts in_X4_fill_X4 tyX4 tyX4_ok nmX4 hown hK.1 hP hD hS 0 rfl rfl 0 (by decide) (hts (.fieldLink RX4 42 "JarRiddleModel" "thrown" "I") (by decide +kernel)) (fun _ h9 => h9) rfl (by decide +kernel) rfl rfl (Nat.le_of_ble_eq_true rfl) dX4_fill_2 (fun H locs hP hD hS => ?_)
  have hP : va_P G.1 vwCl (w_X4 G mh0 mvq maq mlq mhq mfq mrq moq mbq msq (0 : Int32) js mv ma ac po si ta ml mh gu wr mf mr re mo mb ms) H := hP
  have hD : va_D A (w_X4 G mh0 mvq maq mlq mhq mfq mrq moq mbq msq (0 : Int32) js mv ma ac po si ta ml mh gu wr mf mr re mo mb ms) := hD
  refine lv_aload_n hx hb dX4_fill_5 rfl (lv_at hl 0 rfl) ?_
  refine lv_iload_n hx hb dX4_fill_6 rfl (lv_at hl 1 rfl) ?_
  refine z_callV (As := [.int p1]) (rest := []) (wr := ([] : va_W)) (w1 := fun _ : Unit => (w_X4 G mh0 mvq maq mlq mhq mfq mrq moq mbq msq (0 : Int32) js mv ma ac po si ta ml mh gu wr mf mr re mo mb ms)) (wj := fun _ : Unit => (w_X4 G mh0 mvq maq mlq mhq mfq mrq moq mbq msq (0 : Int32) js mv ma ac po si ta ml mh gu wr mf mr re mo mb ms)) (ci := 4) (q0 := 0) F (c_X4_isJar l G mh0 mvq maq mlq mhq mfq mrq moq mbq msq (0 : Int32) js mv ma ac po si ta ml mh gu wr mf mr re mo mb ms p1) gX4_fill_X4_isJar rfl rfl rfl zd_X4_isJar ⟨Nat.le_of_ble_eq_true rfl, Nat.le_of_ble_eq_true rfl⟩ rfl rfl (Nat.le_of_ble_eq_true rfl) dX4_fill_7 ⟨Nat.le_of_ble_eq_true rfl, Nat.le_of_ble_eq_true rfl⟩ hK hP hD hS hA hl.1 rfl rfl [0, 1, 2, 3, 4, 5, 6, 7, 8, 9] [] [0, 1, 2, 3, 4, 5, 6, 7, 8, 9] rfl rfl rfl rfl (by decide) rfl (fun _ => rfl) (fun _ H locs hP hD hS => ?_)
  have hP : va_P G.1 vwCl (w_X4 G mh0 mvq maq mlq mhq mfq mrq moq mbq msq (0 : Int32) js mv ma ac po si ta ml mh gu wr mf mr re mo mb ms) H := hP
  have hD : va_D A (w_X4 G mh0 mvq maq mlq mhq mfq mrq moq mbq msq (0 : Int32) js mv ma ac po si ta ml mh gu wr mf mr re mo mb ms) := hD
  refine lv_if_eq (tgt := 21) hx hb dX4_fill_10 (by decide) (fun (c_1 : (f_X4_isJar js p1) = (0 : Int32)) => ?_) (fun (c_1 : ¬ (f_X4_isJar js p1) = (0 : Int32)) => ?_)
  · refine lv_aload_n hx hb dX4_fill_21 rfl (lv_at hl 0 rfl) ?_
    refine lv_iconst (v := (1 : Int32)) hx hb dX4_fill_22 (by decide) ?_
    refine z_callV (As := [.int (1 : Int32)]) (rest := []) (wr := ([] : va_W)) (w1 := fun _ : Unit => (w_X4 G mh0 mvq maq mlq mhq mfq mrq moq mbq msq ((f_X4_no (0 : Int32) (1 : Int32)).2) js mv ma ac po si ta ml mh gu wr mf mr re mo mb ms)) (wj := fun _ : Unit => (w_X4 G mh0 mvq maq mlq mhq mfq mrq moq mbq msq (f_X4_no (0 : Int32) (1 : Int32)).2 js mv ma ac po si ta ml mh gu wr mf mr re mo mb ms)) (ci := 4) (q0 := 0) F (c_X4_no l G mh0 mvq maq mlq mhq mfq mrq moq mbq msq (0 : Int32) js mv ma ac po si ta ml mh gu wr mf mr re mo mb ms (1 : Int32)) gX4_fill_X4_no rfl rfl rfl zd_X4_no ⟨Nat.le_of_ble_eq_true rfl, Nat.le_of_ble_eq_true rfl⟩ rfl rfl (Nat.le_of_ble_eq_true rfl) dX4_fill_23 ⟨Nat.le_of_ble_eq_true rfl, Nat.le_of_ble_eq_true rfl⟩ hK hP hD hS hA hl.1 rfl rfl [0, 1, 2, 3, 4, 5, 6, 7, 8, 9] [] [0, 1, 2, 3, 4, 5, 6, 7, 8, 9] rfl rfl rfl rfl (by decide) rfl (fun _ => rfl) (fun _ H locs hP hD hS => ?_)
    have hP : va_P G.1 vwCl (w_X4 G mh0 mvq maq mlq mhq mfq mrq moq mbq msq (f_X4_no (0 : Int32) (1 : Int32)).2 js mv ma ac po si ta ml mh gu wr mf mr re mo mb ms) H := hP
    have hD : va_D A (w_X4 G mh0 mvq maq mlq mhq mfq mrq moq mbq msq (f_X4_no (0 : Int32) (1 : Int32)).2 js mv ma ac po si ta ml mh gu wr mf mr re mo mb ms) := hD
    have e9 : (f_X4_fill th js mv ma ac po si ta ml mh mo mb p1) = ((f_X4_no (0 : Int32) (1 : Int32)).1, (f_X4_no (0 : Int32) (1 : Int32)).2, ma, ac, po, si, ta, ml, mh, mo, mb) := (f_X4_fill_eq th js mv ma ac po si ta ml mh mo mb p1).trans ((if_pos c_1).trans (rfl))
    rw [e9]
    dsimp only
    exact z_iret F hr hlocks hP hD hS () [0, 1, 2, 3, 4, 5, 6, 7, 8, 9] rfl rfl rfl dX4_fill_26
  · have hs := hs.2 c_1
    refine lv_aload_n hx hb dX4_fill_13 rfl (lv_at hl 0 rfl) ?_
    refine lv_iload_n hx hb dX4_fill_14 rfl (lv_at hl 1 rfl) ?_
    have h_2 := hs
    refine z_callV (As := [.int p1]) (rest := []) (wr := ([] : va_W)) (w1 := fun _ : Unit => (w_X4 G mh0 mvq maq mlq mhq mfq mrq moq mbq msq (0 : Int32) js mv ((f_X4_done js mv ma ac po si ta ml mh mo mb p1).2.1) ((f_X4_done js mv ma ac po si ta ml mh mo mb p1).2.2.1) ((f_X4_done js mv ma ac po si ta ml mh mo mb p1).2.2.2.1) ((f_X4_done js mv ma ac po si ta ml mh mo mb p1).2.2.2.2.1) ((f_X4_done js mv ma ac po si ta ml mh mo mb p1).2.2.2.2.2.1) ((f_X4_done js mv ma ac po si ta ml mh mo mb p1).2.2.2.2.2.2.1) ((f_X4_done js mv ma ac po si ta ml mh mo mb p1).2.2.2.2.2.2.2.1) gu wr mf mr re ((f_X4_done js mv ma ac po si ta ml mh mo mb p1).2.2.2.2.2.2.2.2.1) ((f_X4_done js mv ma ac po si ta ml mh mo mb p1).2.2.2.2.2.2.2.2.2) ms)) (wj := fun _ : Unit => (w_X4 G mh0 mvq maq mlq mhq mfq mrq moq mbq msq (0 : Int32) js mv (f_X4_done js mv ma ac po si ta ml mh mo mb p1).2.1 (f_X4_done js mv ma ac po si ta ml mh mo mb p1).2.2.1 (f_X4_done js mv ma ac po si ta ml mh mo mb p1).2.2.2.1 (f_X4_done js mv ma ac po si ta ml mh mo mb p1).2.2.2.2.1 (f_X4_done js mv ma ac po si ta ml mh mo mb p1).2.2.2.2.2.1 (f_X4_done js mv ma ac po si ta ml mh mo mb p1).2.2.2.2.2.2.1 (f_X4_done js mv ma ac po si ta ml mh mo mb p1).2.2.2.2.2.2.2.1 gu wr mf mr re (f_X4_done js mv ma ac po si ta ml mh mo mb p1).2.2.2.2.2.2.2.2.1 (f_X4_done js mv ma ac po si ta ml mh mo mb p1).2.2.2.2.2.2.2.2.2 ms)) (ci := 4) (q0 := 0) F (c_X4_done l G mh0 mvq maq mlq mhq mfq mrq moq mbq msq (0 : Int32) js mv ma ac po si ta ml mh gu wr mf mr re mo mb ms p1 h_2) gX4_fill_X4_done rfl rfl rfl zd_X4_done ⟨Nat.le_of_ble_eq_true rfl, Nat.le_of_ble_eq_true rfl⟩ rfl rfl (Nat.le_of_ble_eq_true rfl) dX4_fill_15 ⟨Nat.le_of_ble_eq_true rfl, Nat.le_of_ble_eq_true rfl⟩ hK hP hD hS hA hl.1 rfl rfl [0, 1, 2, 3, 4, 5, 6, 7, 8, 9] [] [0, 1, 2, 3, 4, 5, 6, 7, 8, 9] rfl rfl rfl rfl (by decide) rfl (fun _ => rfl) (fun _ H locs hP hD hS => ?_)
    have hP : va_P G.1 vwCl (w_X4 G mh0 mvq maq mlq mhq mfq mrq moq mbq msq (0 : Int32) js mv (f_X4_done js mv ma ac po si ta ml mh mo mb p1).2.1 (f_X4_done js mv ma ac po si ta ml mh mo mb p1).2.2.1 (f_X4_done js mv ma ac po si ta ml mh mo mb p1).2.2.2.1 (f_X4_done js mv ma ac po si ta ml mh mo mb p1).2.2.2.2.1 (f_X4_done js mv ma ac po si ta ml mh mo mb p1).2.2.2.2.2.1 (f_X4_done js mv ma ac po si ta ml mh mo mb p1).2.2.2.2.2.2.1 (f_X4_done js mv ma ac po si ta ml mh mo mb p1).2.2.2.2.2.2.2.1 gu wr mf mr re (f_X4_done js mv ma ac po si ta ml mh mo mb p1).2.2.2.2.2.2.2.2.1 (f_X4_done js mv ma ac po si ta ml mh mo mb p1).2.2.2.2.2.2.2.2.2 ms) H := hP
    have hD : va_D A (w_X4 G mh0 mvq maq mlq mhq mfq mrq moq mbq msq (0 : Int32) js mv (f_X4_done js mv ma ac po si ta ml mh mo mb p1).2.1 (f_X4_done js mv ma ac po si ta ml mh mo mb p1).2.2.1 (f_X4_done js mv ma ac po si ta ml mh mo mb p1).2.2.2.1 (f_X4_done js mv ma ac po si ta ml mh mo mb p1).2.2.2.2.1 (f_X4_done js mv ma ac po si ta ml mh mo mb p1).2.2.2.2.2.1 (f_X4_done js mv ma ac po si ta ml mh mo mb p1).2.2.2.2.2.2.1 (f_X4_done js mv ma ac po si ta ml mh mo mb p1).2.2.2.2.2.2.2.1 gu wr mf mr re (f_X4_done js mv ma ac po si ta ml mh mo mb p1).2.2.2.2.2.2.2.2.1 (f_X4_done js mv ma ac po si ta ml mh mo mb p1).2.2.2.2.2.2.2.2.2 ms) := hD
    refine lv_goto (tgt := 26) hx hb dX4_fill_18 (by decide) ?_
    have e9 : (f_X4_fill th js mv ma ac po si ta ml mh mo mb p1) = ((f_X4_done js mv ma ac po si ta ml mh mo mb p1).1, (0 : Int32), (f_X4_done js mv ma ac po si ta ml mh mo mb p1).2.1, (f_X4_done js mv ma ac po si ta ml mh mo mb p1).2.2.1, (f_X4_done js mv ma ac po si ta ml mh mo mb p1).2.2.2.1, (f_X4_done js mv ma ac po si ta ml mh mo mb p1).2.2.2.2.1, (f_X4_done js mv ma ac po si ta ml mh mo mb p1).2.2.2.2.2.1, (f_X4_done js mv ma ac po si ta ml mh mo mb p1).2.2.2.2.2.2.1, (f_X4_done js mv ma ac po si ta ml mh mo mb p1).2.2.2.2.2.2.2.1, (f_X4_done js mv ma ac po si ta ml mh mo mb p1).2.2.2.2.2.2.2.2.1, (f_X4_done js mv ma ac po si ta ml mh mo mb p1).2.2.2.2.2.2.2.2.2) := (f_X4_fill_eq th js mv ma ac po si ta ml mh mo mb p1).trans ((if_neg c_1).trans (rfl))
    rw [e9]
    dsimp only
    exact z_iret F hr hlocks hP hD hS () [0, 1, 2, 3, 4, 5, 6, 7, 8, 9] rfl rfl rfl dX4_fill_26
def f_X4_empty (th : Int32) (js : Int32) (mv : Nat → Int32) (ma : Nat → Int32) (ac : Int32) (po : Int32) (si : Int32) (ta : Int32) (ml : Nat → Int32) (mh : Nat → Int32) (mo : Nat → Int32) (mb : Nat → Int32) (p1 : Int32) : Int32 × Int32 × (Nat → Int32) × Int32 × Int32 × Int32 × Int32 × (Nat → Int32) × (Nat → Int32) × (Nat → Int32) × (Nat → Int32) := (if (f_X4_isJar js p1) = (0 : Int32) then ((f_X4_no (0 : Int32) (1 : Int32)).1, (f_X4_no (0 : Int32) (1 : Int32)).2, ma, ac, po, si, ta, ml, mh, mo, mb) else ((f_X4_done js mv ma ac po si ta ml mh mo mb ((3 : Int32) + p1)).1, (0 : Int32), (f_X4_done js mv ma ac po si ta ml mh mo mb ((3 : Int32) + p1)).2.1, (f_X4_done js mv ma ac po si ta ml mh mo mb ((3 : Int32) + p1)).2.2.1, (f_X4_done js mv ma ac po si ta ml mh mo mb ((3 : Int32) + p1)).2.2.2.1, (f_X4_done js mv ma ac po si ta ml mh mo mb ((3 : Int32) + p1)).2.2.2.2.1, (f_X4_done js mv ma ac po si ta ml mh mo mb ((3 : Int32) + p1)).2.2.2.2.2.1, (f_X4_done js mv ma ac po si ta ml mh mo mb ((3 : Int32) + p1)).2.2.2.2.2.2.1, (f_X4_done js mv ma ac po si ta ml mh mo mb ((3 : Int32) + p1)).2.2.2.2.2.2.2.1, (f_X4_done js mv ma ac po si ta ml mh mo mb ((3 : Int32) + p1)).2.2.2.2.2.2.2.2.1, (f_X4_done js mv ma ac po si ta ml mh mo mb ((3 : Int32) + p1)).2.2.2.2.2.2.2.2.2))
theorem f_X4_empty_eq (th : Int32) (js : Int32) (mv : Nat → Int32) (ma : Nat → Int32) (ac : Int32) (po : Int32) (si : Int32) (ta : Int32) (ml : Nat → Int32) (mh : Nat → Int32) (mo : Nat → Int32) (mb : Nat → Int32) (p1 : Int32) : f_X4_empty th js mv ma ac po si ta ml mh mo mb p1 = (if (f_X4_isJar js p1) = (0 : Int32) then ((f_X4_no (0 : Int32) (1 : Int32)).1, (f_X4_no (0 : Int32) (1 : Int32)).2, ma, ac, po, si, ta, ml, mh, mo, mb) else ((f_X4_done js mv ma ac po si ta ml mh mo mb ((3 : Int32) + p1)).1, (0 : Int32), (f_X4_done js mv ma ac po si ta ml mh mo mb ((3 : Int32) + p1)).2.1, (f_X4_done js mv ma ac po si ta ml mh mo mb ((3 : Int32) + p1)).2.2.1, (f_X4_done js mv ma ac po si ta ml mh mo mb ((3 : Int32) + p1)).2.2.2.1, (f_X4_done js mv ma ac po si ta ml mh mo mb ((3 : Int32) + p1)).2.2.2.2.1, (f_X4_done js mv ma ac po si ta ml mh mo mb ((3 : Int32) + p1)).2.2.2.2.2.1, (f_X4_done js mv ma ac po si ta ml mh mo mb ((3 : Int32) + p1)).2.2.2.2.2.2.1, (f_X4_done js mv ma ac po si ta ml mh mo mb ((3 : Int32) + p1)).2.2.2.2.2.2.2.1, (f_X4_done js mv ma ac po si ta ml mh mo mb ((3 : Int32) + p1)).2.2.2.2.2.2.2.2.1, (f_X4_done js mv ma ac po si ta ml mh mo mb ((3 : Int32) + p1)).2.2.2.2.2.2.2.2.2)) := rfl
def s_X4_empty (js : Int32) (mv : Nat → Int32) (ma : Nat → Int32) (ml : Nat → Int32) (mh : Nat → Int32) (mo : Nat → Int32) (mb : Nat → Int32) (p1 : Int32) : Prop := (((f_X4_isJar js p1) = (0 : Int32) → True) ∧ (¬ (f_X4_isJar js p1) = (0 : Int32) → (s_X4_done js mv ma ml mh mo mb ((3 : Int32) + p1))))
abbrev rm_X4_empty : Room := { frames := 4, cells := 0, slots := 0, locals := 90 }
theorem zd_X4_empty : yX4_empty.cls = RX4 ∧ yX4_empty.cls ≠ "java/lang/invoke/MethodHandle" ∧ yX4_empty.cls ≠ "java/lang/invoke/VarHandle" ∧ (parseMethodDescriptor yX4_empty.desc).map (fun d => d.parameters.length) = some 1 := by decide +kernel
theorem in_X4_empty_X4 : ∀ w ∈ u_ws RX4 TX4 18, w ∈ wsX4_empty := by decide +kernel
set_option maxHeartbeats 4000000 in
set_option maxRecDepth 100000 in
/-- JarRiddleModel.empty(I)I -/
theorem c_X4_empty (l : Launch) (G : zG) (mh0 mvq maq mlq mhq mfq mrq moq mbq msq : Nat) (th : Int32) (js : Int32) (mv : Nat → Int32) (ma : Nat → Int32) (ac : Int32) (po : Int32) (si : Int32) (ta : Int32) (ml : Nat → Int32) (mh : Nat → Int32) (gu : Int32) (wr : Int32) (mf : Nat → Int32) (mr : Nat → Int32) (re : Int32) (mo : Nat → Int32) (mb : Nat → Int32) (ms : Nat → Int32) (p1 : Int32) (hs : s_X4_empty js mv ma ml mh mo mb p1) : zC l G yX4_empty wsX4_empty rm_X4_empty 0 0 [.ref mh0, .int p1] (w_X4 G mh0 mvq maq mlq mhq mfq mrq moq mbq msq th js mv ma ac po si ta ml mh gu wr mf mr re mo mb ms) (some (.int (f_X4_empty th js mv ma ac po si ta ml mh mo mb p1).1)) (fun _ : Unit => (w_X4 G mh0 mvq maq mlq mhq mfq mrq moq mbq msq ((f_X4_empty th js mv ma ac po si ta ml mh mo mb p1).2.1) js mv ((f_X4_empty th js mv ma ac po si ta ml mh mo mb p1).2.2.1) ((f_X4_empty th js mv ma ac po si ta ml mh mo mb p1).2.2.2.1) ((f_X4_empty th js mv ma ac po si ta ml mh mo mb p1).2.2.2.2.1) ((f_X4_empty th js mv ma ac po si ta ml mh mo mb p1).2.2.2.2.2.1) ((f_X4_empty th js mv ma ac po si ta ml mh mo mb p1).2.2.2.2.2.2.1) ((f_X4_empty th js mv ma ac po si ta ml mh mo mb p1).2.2.2.2.2.2.2.1) ((f_X4_empty th js mv ma ac po si ta ml mh mo mb p1).2.2.2.2.2.2.2.2.1) gu wr mf mr re ((f_X4_empty th js mv ma ac po si ta ml mh mo mb p1).2.2.2.2.2.2.2.2.2.1) ((f_X4_empty th js mv ma ac po si ta ml mh mo mb p1).2.2.2.2.2.2.2.2.2.2) ms)) := by
  refine z_of (cc := cX4_empty) (maxL := 2) (ret := (some .int)) (own := RX4) (by decide) rfl rfl (Nat.le_of_ble_eq_true rfl) ?_
  intro p e s m args below meth c A H locs ls F hr hlocks hname hK hA hP hD hS hl
  obtain ⟨hx, hb, hml, hown, hts⟩ := id F
  have hl : lv_has ls 2 [(0, .ref mh0), (1, .int p1)] := hl
  have hs : (((f_X4_isJar js p1) = (0 : Int32) → True) ∧ (¬ (f_X4_isJar js p1) = (0 : Int32) → (s_X4_done js mv ma ml mh mo mb ((3 : Int32) + p1)))) := hs
  refine lv_aload_n hx hb dX4_empty_0 rfl (lv_at hl 0 rfl) ?_
  refine lv_iconst (v := (0 : Int32)) hx hb dX4_empty_1 (by decide) ?_
  refine va_put (D := G.1) (ci := 4) (v := .int (0 : Int32)) (ty := .int) (C := RX4) (T := TX4) (N := 18) hx hb hts in_X4_empty_X4 tyX4 tyX4_ok nmX4 hown hK.1 hP hD hS 0 rfl rfl 0 (by decide) (hts (.fieldLink RX4 42 "JarRiddleModel" "thrown" "I") (by decide +kernel)) (fun _ h9 => h9) rfl (by decide +kernel) rfl rfl (Nat.le_of_ble_eq_true rfl) dX4_empty_2 (fun H locs hP hD hS => ?_)
  have hP : va_P G.1 vwCl (w_X4 G mh0 mvq maq mlq mhq mfq mrq moq mbq msq (0 : Int32) js mv ma ac po si ta ml mh gu wr mf mr re mo mb ms) H := hP
  have hD : va_D A (w_X4 G mh0 mvq maq mlq mhq mfq mrq moq mbq msq (0 : Int32) js mv ma ac po si ta ml mh gu wr mf mr re mo mb ms) := hD
  refine lv_aload_n hx hb dX4_empty_5 rfl (lv_at hl 0 rfl) ?_
  refine lv_iload_n hx hb dX4_empty_6 rfl (lv_at hl 1 rfl) ?_
  refine z_callV (As := [.int p1]) (rest := []) (wr := ([] : va_W)) (w1 := fun _ : Unit => (w_X4 G mh0 mvq maq mlq mhq mfq mrq moq mbq msq (0 : Int32) js mv ma ac po si ta ml mh gu wr mf mr re mo mb ms)) (wj := fun _ : Unit => (w_X4 G mh0 mvq maq mlq mhq mfq mrq moq mbq msq (0 : Int32) js mv ma ac po si ta ml mh gu wr mf mr re mo mb ms)) (ci := 4) (q0 := 0) F (c_X4_isJar l G mh0 mvq maq mlq mhq mfq mrq moq mbq msq (0 : Int32) js mv ma ac po si ta ml mh gu wr mf mr re mo mb ms p1) gX4_empty_X4_isJar rfl rfl rfl zd_X4_isJar ⟨Nat.le_of_ble_eq_true rfl, Nat.le_of_ble_eq_true rfl⟩ rfl rfl (Nat.le_of_ble_eq_true rfl) dX4_empty_7 ⟨Nat.le_of_ble_eq_true rfl, Nat.le_of_ble_eq_true rfl⟩ hK hP hD hS hA hl.1 rfl rfl [0, 1, 2, 3, 4, 5, 6, 7, 8, 9] [] [0, 1, 2, 3, 4, 5, 6, 7, 8, 9] rfl rfl rfl rfl (by decide) rfl (fun _ => rfl) (fun _ H locs hP hD hS => ?_)
  have hP : va_P G.1 vwCl (w_X4 G mh0 mvq maq mlq mhq mfq mrq moq mbq msq (0 : Int32) js mv ma ac po si ta ml mh gu wr mf mr re mo mb ms) H := hP
  have hD : va_D A (w_X4 G mh0 mvq maq mlq mhq mfq mrq moq mbq msq (0 : Int32) js mv ma ac po si ta ml mh gu wr mf mr re mo mb ms) := hD
  refine lv_if_eq (tgt := 23) hx hb dX4_empty_10 (by decide) (fun (c_1 : (f_X4_isJar js p1) = (0 : Int32)) => ?_) (fun (c_1 : ¬ (f_X4_isJar js p1) = (0 : Int32)) => ?_)
  · refine lv_aload_n hx hb dX4_empty_23 rfl (lv_at hl 0 rfl) ?_
    refine lv_iconst (v := (1 : Int32)) hx hb dX4_empty_24 (by decide) ?_
    refine z_callV (As := [.int (1 : Int32)]) (rest := []) (wr := ([] : va_W)) (w1 := fun _ : Unit => (w_X4 G mh0 mvq maq mlq mhq mfq mrq moq mbq msq ((f_X4_no (0 : Int32) (1 : Int32)).2) js mv ma ac po si ta ml mh gu wr mf mr re mo mb ms)) (wj := fun _ : Unit => (w_X4 G mh0 mvq maq mlq mhq mfq mrq moq mbq msq (f_X4_no (0 : Int32) (1 : Int32)).2 js mv ma ac po si ta ml mh gu wr mf mr re mo mb ms)) (ci := 4) (q0 := 0) F (c_X4_no l G mh0 mvq maq mlq mhq mfq mrq moq mbq msq (0 : Int32) js mv ma ac po si ta ml mh gu wr mf mr re mo mb ms (1 : Int32)) gX4_empty_X4_no rfl rfl rfl zd_X4_no ⟨Nat.le_of_ble_eq_true rfl, Nat.le_of_ble_eq_true rfl⟩ rfl rfl (Nat.le_of_ble_eq_true rfl) dX4_empty_25 ⟨Nat.le_of_ble_eq_true rfl, Nat.le_of_ble_eq_true rfl⟩ hK hP hD hS hA hl.1 rfl rfl [0, 1, 2, 3, 4, 5, 6, 7, 8, 9] [] [0, 1, 2, 3, 4, 5, 6, 7, 8, 9] rfl rfl rfl rfl (by decide) rfl (fun _ => rfl) (fun _ H locs hP hD hS => ?_)
    have hP : va_P G.1 vwCl (w_X4 G mh0 mvq maq mlq mhq mfq mrq moq mbq msq (f_X4_no (0 : Int32) (1 : Int32)).2 js mv ma ac po si ta ml mh gu wr mf mr re mo mb ms) H := hP
    have hD : va_D A (w_X4 G mh0 mvq maq mlq mhq mfq mrq moq mbq msq (f_X4_no (0 : Int32) (1 : Int32)).2 js mv ma ac po si ta ml mh gu wr mf mr re mo mb ms) := hD
    have e9 : (f_X4_empty th js mv ma ac po si ta ml mh mo mb p1) = ((f_X4_no (0 : Int32) (1 : Int32)).1, (f_X4_no (0 : Int32) (1 : Int32)).2, ma, ac, po, si, ta, ml, mh, mo, mb) := (f_X4_empty_eq th js mv ma ac po si ta ml mh mo mb p1).trans ((if_pos c_1).trans (rfl))
    rw [e9]
    dsimp only
    exact z_iret F hr hlocks hP hD hS () [0, 1, 2, 3, 4, 5, 6, 7, 8, 9] rfl rfl rfl dX4_empty_28
  · have hs := hs.2 c_1
    refine lv_aload_n hx hb dX4_empty_13 rfl (lv_at hl 0 rfl) ?_
    refine lv_iconst (v := (3 : Int32)) hx hb dX4_empty_14 (by decide) ?_
    refine lv_iload_n hx hb dX4_empty_15 rfl (lv_at hl 1 rfl) ?_
    refine lv_iadd hx hb dX4_empty_16 ?_
    have h_2 := hs
    refine z_callV (As := [.int ((3 : Int32) + p1)]) (rest := []) (wr := ([] : va_W)) (w1 := fun _ : Unit => (w_X4 G mh0 mvq maq mlq mhq mfq mrq moq mbq msq (0 : Int32) js mv ((f_X4_done js mv ma ac po si ta ml mh mo mb ((3 : Int32) + p1)).2.1) ((f_X4_done js mv ma ac po si ta ml mh mo mb ((3 : Int32) + p1)).2.2.1) ((f_X4_done js mv ma ac po si ta ml mh mo mb ((3 : Int32) + p1)).2.2.2.1) ((f_X4_done js mv ma ac po si ta ml mh mo mb ((3 : Int32) + p1)).2.2.2.2.1) ((f_X4_done js mv ma ac po si ta ml mh mo mb ((3 : Int32) + p1)).2.2.2.2.2.1) ((f_X4_done js mv ma ac po si ta ml mh mo mb ((3 : Int32) + p1)).2.2.2.2.2.2.1) ((f_X4_done js mv ma ac po si ta ml mh mo mb ((3 : Int32) + p1)).2.2.2.2.2.2.2.1) gu wr mf mr re ((f_X4_done js mv ma ac po si ta ml mh mo mb ((3 : Int32) + p1)).2.2.2.2.2.2.2.2.1) ((f_X4_done js mv ma ac po si ta ml mh mo mb ((3 : Int32) + p1)).2.2.2.2.2.2.2.2.2) ms)) (wj := fun _ : Unit => (w_X4 G mh0 mvq maq mlq mhq mfq mrq moq mbq msq (0 : Int32) js mv (f_X4_done js mv ma ac po si ta ml mh mo mb ((3 : Int32) + p1)).2.1 (f_X4_done js mv ma ac po si ta ml mh mo mb ((3 : Int32) + p1)).2.2.1 (f_X4_done js mv ma ac po si ta ml mh mo mb ((3 : Int32) + p1)).2.2.2.1 (f_X4_done js mv ma ac po si ta ml mh mo mb ((3 : Int32) + p1)).2.2.2.2.1 (f_X4_done js mv ma ac po si ta ml mh mo mb ((3 : Int32) + p1)).2.2.2.2.2.1 (f_X4_done js mv ma ac po si ta ml mh mo mb ((3 : Int32) + p1)).2.2.2.2.2.2.1 (f_X4_done js mv ma ac po si ta ml mh mo mb ((3 : Int32) + p1)).2.2.2.2.2.2.2.1 gu wr mf mr re (f_X4_done js mv ma ac po si ta ml mh mo mb ((3 : Int32) + p1)).2.2.2.2.2.2.2.2.1 (f_X4_done js mv ma ac po si ta ml mh mo mb ((3 : Int32) + p1)).2.2.2.2.2.2.2.2.2 ms)) (ci := 4) (q0 := 0) F (c_X4_done l G mh0 mvq maq mlq mhq mfq mrq moq mbq msq (0 : Int32) js mv ma ac po si ta ml mh gu wr mf mr re mo mb ms ((3 : Int32) + p1) h_2) gX4_empty_X4_done rfl rfl rfl zd_X4_done ⟨Nat.le_of_ble_eq_true rfl, Nat.le_of_ble_eq_true rfl⟩ rfl rfl (Nat.le_of_ble_eq_true rfl) dX4_empty_17 ⟨Nat.le_of_ble_eq_true rfl, Nat.le_of_ble_eq_true rfl⟩ hK hP hD hS hA hl.1 rfl rfl [0, 1, 2, 3, 4, 5, 6, 7, 8, 9] [] [0, 1, 2, 3, 4, 5, 6, 7, 8, 9] rfl rfl rfl rfl (by decide) rfl (fun _ => rfl) (fun _ H locs hP hD hS => ?_)
    have hP : va_P G.1 vwCl (w_X4 G mh0 mvq maq mlq mhq mfq mrq moq mbq msq (0 : Int32) js mv (f_X4_done js mv ma ac po si ta ml mh mo mb ((3 : Int32) + p1)).2.1 (f_X4_done js mv ma ac po si ta ml mh mo mb ((3 : Int32) + p1)).2.2.1 (f_X4_done js mv ma ac po si ta ml mh mo mb ((3 : Int32) + p1)).2.2.2.1 (f_X4_done js mv ma ac po si ta ml mh mo mb ((3 : Int32) + p1)).2.2.2.2.1 (f_X4_done js mv ma ac po si ta ml mh mo mb ((3 : Int32) + p1)).2.2.2.2.2.1 (f_X4_done js mv ma ac po si ta ml mh mo mb ((3 : Int32) + p1)).2.2.2.2.2.2.1 (f_X4_done js mv ma ac po si ta ml mh mo mb ((3 : Int32) + p1)).2.2.2.2.2.2.2.1 gu wr mf mr re (f_X4_done js mv ma ac po si ta ml mh mo mb ((3 : Int32) + p1)).2.2.2.2.2.2.2.2.1 (f_X4_done js mv ma ac po si ta ml mh mo mb ((3 : Int32) + p1)).2.2.2.2.2.2.2.2.2 ms) H := hP
    have hD : va_D A (w_X4 G mh0 mvq maq mlq mhq mfq mrq moq mbq msq (0 : Int32) js mv (f_X4_done js mv ma ac po si ta ml mh mo mb ((3 : Int32) + p1)).2.1 (f_X4_done js mv ma ac po si ta ml mh mo mb ((3 : Int32) + p1)).2.2.1 (f_X4_done js mv ma ac po si ta ml mh mo mb ((3 : Int32) + p1)).2.2.2.1 (f_X4_done js mv ma ac po si ta ml mh mo mb ((3 : Int32) + p1)).2.2.2.2.1 (f_X4_done js mv ma ac po si ta ml mh mo mb ((3 : Int32) + p1)).2.2.2.2.2.1 (f_X4_done js mv ma ac po si ta ml mh mo mb ((3 : Int32) + p1)).2.2.2.2.2.2.1 (f_X4_done js mv ma ac po si ta ml mh mo mb ((3 : Int32) + p1)).2.2.2.2.2.2.2.1 gu wr mf mr re (f_X4_done js mv ma ac po si ta ml mh mo mb ((3 : Int32) + p1)).2.2.2.2.2.2.2.2.1 (f_X4_done js mv ma ac po si ta ml mh mo mb ((3 : Int32) + p1)).2.2.2.2.2.2.2.2.2 ms) := hD
    refine lv_goto (tgt := 28) hx hb dX4_empty_20 (by decide) ?_
    have e9 : (f_X4_empty th js mv ma ac po si ta ml mh mo mb p1) = ((f_X4_done js mv ma ac po si ta ml mh mo mb ((3 : Int32) + p1)).1, (0 : Int32), (f_X4_done js mv ma ac po si ta ml mh mo mb ((3 : Int32) + p1)).2.1, (f_X4_done js mv ma ac po si ta ml mh mo mb ((3 : Int32) + p1)).2.2.1, (f_X4_done js mv ma ac po si ta ml mh mo mb ((3 : Int32) + p1)).2.2.2.1, (f_X4_done js mv ma ac po si ta ml mh mo mb ((3 : Int32) + p1)).2.2.2.2.1, (f_X4_done js mv ma ac po si ta ml mh mo mb ((3 : Int32) + p1)).2.2.2.2.2.1, (f_X4_done js mv ma ac po si ta ml mh mo mb ((3 : Int32) + p1)).2.2.2.2.2.2.1, (f_X4_done js mv ma ac po si ta ml mh mo mb ((3 : Int32) + p1)).2.2.2.2.2.2.2.1, (f_X4_done js mv ma ac po si ta ml mh mo mb ((3 : Int32) + p1)).2.2.2.2.2.2.2.2.1, (f_X4_done js mv ma ac po si ta ml mh mo mb ((3 : Int32) + p1)).2.2.2.2.2.2.2.2.2) := (f_X4_empty_eq th js mv ma ac po si ta ml mh mo mb p1).trans ((if_neg c_1).trans (rfl))
    rw [e9]
    dsimp only
    exact z_iret F hr hlocks hP hD hS () [0, 1, 2, 3, 4, 5, 6, 7, 8, 9] rfl rfl rfl dX4_empty_28
def f_X4_pour (th : Int32) (js : Int32) (mv : Nat → Int32) (ma : Nat → Int32) (ac : Int32) (po : Int32) (si : Int32) (ta : Int32) (ml : Nat → Int32) (mh : Nat → Int32) (mo : Nat → Int32) (mb : Nat → Int32) (p1 : Int32) (p2 : Int32) : Int32 × Int32 × (Nat → Int32) × Int32 × Int32 × Int32 × Int32 × (Nat → Int32) × (Nat → Int32) × (Nat → Int32) × (Nat → Int32) := (if (f_X4_isJar js p1) = (0 : Int32) then ((f_X4_no (0 : Int32) (1 : Int32)).1, (f_X4_no (0 : Int32) (1 : Int32)).2, ma, ac, po, si, ta, ml, mh, mo, mb) else (if (f_X4_isJar js p2) = (0 : Int32) then ((f_X4_no (0 : Int32) (1 : Int32)).1, (f_X4_no (0 : Int32) (1 : Int32)).2, ma, ac, po, si, ta, ml, mh, mo, mb) else (if p1 = p2 then ((f_X4_no (0 : Int32) (2 : Int32)).1, (f_X4_no (0 : Int32) (2 : Int32)).2, ma, ac, po, si, ta, ml, mh, mo, mb) else ((f_X4_done js mv ma ac po si ta ml mh mo mb (((6 : Int32) + ((3 : Int32) * p1)) + p2)).1, (0 : Int32), (f_X4_done js mv ma ac po si ta ml mh mo mb (((6 : Int32) + ((3 : Int32) * p1)) + p2)).2.1, (f_X4_done js mv ma ac po si ta ml mh mo mb (((6 : Int32) + ((3 : Int32) * p1)) + p2)).2.2.1, (f_X4_done js mv ma ac po si ta ml mh mo mb (((6 : Int32) + ((3 : Int32) * p1)) + p2)).2.2.2.1, (f_X4_done js mv ma ac po si ta ml mh mo mb (((6 : Int32) + ((3 : Int32) * p1)) + p2)).2.2.2.2.1, (f_X4_done js mv ma ac po si ta ml mh mo mb (((6 : Int32) + ((3 : Int32) * p1)) + p2)).2.2.2.2.2.1, (f_X4_done js mv ma ac po si ta ml mh mo mb (((6 : Int32) + ((3 : Int32) * p1)) + p2)).2.2.2.2.2.2.1, (f_X4_done js mv ma ac po si ta ml mh mo mb (((6 : Int32) + ((3 : Int32) * p1)) + p2)).2.2.2.2.2.2.2.1, (f_X4_done js mv ma ac po si ta ml mh mo mb (((6 : Int32) + ((3 : Int32) * p1)) + p2)).2.2.2.2.2.2.2.2.1, (f_X4_done js mv ma ac po si ta ml mh mo mb (((6 : Int32) + ((3 : Int32) * p1)) + p2)).2.2.2.2.2.2.2.2.2))))
theorem f_X4_pour_eq (th : Int32) (js : Int32) (mv : Nat → Int32) (ma : Nat → Int32) (ac : Int32) (po : Int32) (si : Int32) (ta : Int32) (ml : Nat → Int32) (mh : Nat → Int32) (mo : Nat → Int32) (mb : Nat → Int32) (p1 : Int32) (p2 : Int32) : f_X4_pour th js mv ma ac po si ta ml mh mo mb p1 p2 = (if (f_X4_isJar js p1) = (0 : Int32) then ((f_X4_no (0 : Int32) (1 : Int32)).1, (f_X4_no (0 : Int32) (1 : Int32)).2, ma, ac, po, si, ta, ml, mh, mo, mb) else (if (f_X4_isJar js p2) = (0 : Int32) then ((f_X4_no (0 : Int32) (1 : Int32)).1, (f_X4_no (0 : Int32) (1 : Int32)).2, ma, ac, po, si, ta, ml, mh, mo, mb) else (if p1 = p2 then ((f_X4_no (0 : Int32) (2 : Int32)).1, (f_X4_no (0 : Int32) (2 : Int32)).2, ma, ac, po, si, ta, ml, mh, mo, mb) else ((f_X4_done js mv ma ac po si ta ml mh mo mb (((6 : Int32) + ((3 : Int32) * p1)) + p2)).1, (0 : Int32), (f_X4_done js mv ma ac po si ta ml mh mo mb (((6 : Int32) + ((3 : Int32) * p1)) + p2)).2.1, (f_X4_done js mv ma ac po si ta ml mh mo mb (((6 : Int32) + ((3 : Int32) * p1)) + p2)).2.2.1, (f_X4_done js mv ma ac po si ta ml mh mo mb (((6 : Int32) + ((3 : Int32) * p1)) + p2)).2.2.2.1, (f_X4_done js mv ma ac po si ta ml mh mo mb (((6 : Int32) + ((3 : Int32) * p1)) + p2)).2.2.2.2.1, (f_X4_done js mv ma ac po si ta ml mh mo mb (((6 : Int32) + ((3 : Int32) * p1)) + p2)).2.2.2.2.2.1, (f_X4_done js mv ma ac po si ta ml mh mo mb (((6 : Int32) + ((3 : Int32) * p1)) + p2)).2.2.2.2.2.2.1, (f_X4_done js mv ma ac po si ta ml mh mo mb (((6 : Int32) + ((3 : Int32) * p1)) + p2)).2.2.2.2.2.2.2.1, (f_X4_done js mv ma ac po si ta ml mh mo mb (((6 : Int32) + ((3 : Int32) * p1)) + p2)).2.2.2.2.2.2.2.2.1, (f_X4_done js mv ma ac po si ta ml mh mo mb (((6 : Int32) + ((3 : Int32) * p1)) + p2)).2.2.2.2.2.2.2.2.2)))) := rfl
def s_X4_pour (js : Int32) (mv : Nat → Int32) (ma : Nat → Int32) (ml : Nat → Int32) (mh : Nat → Int32) (mo : Nat → Int32) (mb : Nat → Int32) (p1 : Int32) (p2 : Int32) : Prop := (((f_X4_isJar js p1) = (0 : Int32) → True) ∧ (¬ (f_X4_isJar js p1) = (0 : Int32) → (((f_X4_isJar js p2) = (0 : Int32) → True) ∧ (¬ (f_X4_isJar js p2) = (0 : Int32) → ((p1 = p2 → True) ∧ (¬ p1 = p2 → (s_X4_done js mv ma ml mh mo mb (((6 : Int32) + ((3 : Int32) * p1)) + p2))))))))
abbrev rm_X4_pour : Room := { frames := 4, cells := 0, slots := 0, locals := 90 }
theorem zd_X4_pour : yX4_pour.cls = RX4 ∧ yX4_pour.cls ≠ "java/lang/invoke/MethodHandle" ∧ yX4_pour.cls ≠ "java/lang/invoke/VarHandle" ∧ (parseMethodDescriptor yX4_pour.desc).map (fun d => d.parameters.length) = some 2 := by decide +kernel
theorem in_X4_pour_X4 : ∀ w ∈ u_ws RX4 TX4 18, w ∈ wsX4_pour := by decide +kernel
set_option maxHeartbeats 4000000 in
set_option maxRecDepth 100000 in
/-- JarRiddleModel.pour(II)I -/
theorem c_X4_pour (l : Launch) (G : zG) (mh0 mvq maq mlq mhq mfq mrq moq mbq msq : Nat) (th : Int32) (js : Int32) (mv : Nat → Int32) (ma : Nat → Int32) (ac : Int32) (po : Int32) (si : Int32) (ta : Int32) (ml : Nat → Int32) (mh : Nat → Int32) (gu : Int32) (wr : Int32) (mf : Nat → Int32) (mr : Nat → Int32) (re : Int32) (mo : Nat → Int32) (mb : Nat → Int32) (ms : Nat → Int32) (p1 : Int32) (p2 : Int32) (hs : s_X4_pour js mv ma ml mh mo mb p1 p2) : zC l G yX4_pour wsX4_pour rm_X4_pour 0 0 [.ref mh0, .int p1, .int p2] (w_X4 G mh0 mvq maq mlq mhq mfq mrq moq mbq msq th js mv ma ac po si ta ml mh gu wr mf mr re mo mb ms) (some (.int (f_X4_pour th js mv ma ac po si ta ml mh mo mb p1 p2).1)) (fun _ : Unit => (w_X4 G mh0 mvq maq mlq mhq mfq mrq moq mbq msq ((f_X4_pour th js mv ma ac po si ta ml mh mo mb p1 p2).2.1) js mv ((f_X4_pour th js mv ma ac po si ta ml mh mo mb p1 p2).2.2.1) ((f_X4_pour th js mv ma ac po si ta ml mh mo mb p1 p2).2.2.2.1) ((f_X4_pour th js mv ma ac po si ta ml mh mo mb p1 p2).2.2.2.2.1) ((f_X4_pour th js mv ma ac po si ta ml mh mo mb p1 p2).2.2.2.2.2.1) ((f_X4_pour th js mv ma ac po si ta ml mh mo mb p1 p2).2.2.2.2.2.2.1) ((f_X4_pour th js mv ma ac po si ta ml mh mo mb p1 p2).2.2.2.2.2.2.2.1) ((f_X4_pour th js mv ma ac po si ta ml mh mo mb p1 p2).2.2.2.2.2.2.2.2.1) gu wr mf mr re ((f_X4_pour th js mv ma ac po si ta ml mh mo mb p1 p2).2.2.2.2.2.2.2.2.2.1) ((f_X4_pour th js mv ma ac po si ta ml mh mo mb p1 p2).2.2.2.2.2.2.2.2.2.2) ms)) := by
  refine z_of (cc := cX4_pour) (maxL := 3) (ret := (some .int)) (own := RX4) (by decide) rfl rfl (Nat.le_of_ble_eq_true rfl) ?_
  intro p e s m args below meth c A H locs ls F hr hlocks hname hK hA hP hD hS hl
  obtain ⟨hx, hb, hml, hown, hts⟩ := id F
  have hl : lv_has ls 3 [(0, .ref mh0), (1, .int p1), (2, .int p2)] := hl
  have hs : (((f_X4_isJar js p1) = (0 : Int32) → True) ∧ (¬ (f_X4_isJar js p1) = (0 : Int32) → (((f_X4_isJar js p2) = (0 : Int32) → True) ∧ (¬ (f_X4_isJar js p2) = (0 : Int32) → ((p1 = p2 → True) ∧ (¬ p1 = p2 → (s_X4_done js mv ma ml mh mo mb (((6 : Int32) + ((3 : Int32) * p1)) + p2)))))))) := hs
  refine lv_aload_n hx hb dX4_pour_0 rfl (lv_at hl 0 rfl) ?_
  refine lv_iconst (v := (0 : Int32)) hx hb dX4_pour_1 (by decide) ?_
  refine va_put (D := G.1) (ci := 4) (v := .int (0 : Int32)) (ty := .int) (C := RX4) (T := TX4) (N := 18) hx hb hts in_X4_pour_X4 tyX4 tyX4_ok nmX4 hown hK.1 hP hD hS 0 rfl rfl 0 (by decide) (hts (.fieldLink RX4 42 "JarRiddleModel" "thrown" "I") (by decide +kernel)) (fun _ h9 => h9) rfl (by decide +kernel) rfl rfl (Nat.le_of_ble_eq_true rfl) dX4_pour_2 (fun H locs hP hD hS => ?_)
  have hP : va_P G.1 vwCl (w_X4 G mh0 mvq maq mlq mhq mfq mrq moq mbq msq (0 : Int32) js mv ma ac po si ta ml mh gu wr mf mr re mo mb ms) H := hP
  have hD : va_D A (w_X4 G mh0 mvq maq mlq mhq mfq mrq moq mbq msq (0 : Int32) js mv ma ac po si ta ml mh gu wr mf mr re mo mb ms) := hD
  refine lv_aload_n hx hb dX4_pour_5 rfl (lv_at hl 0 rfl) ?_
  refine lv_iload_n hx hb dX4_pour_6 rfl (lv_at hl 1 rfl) ?_
  refine z_callV (As := [.int p1]) (rest := []) (wr := ([] : va_W)) (w1 := fun _ : Unit => (w_X4 G mh0 mvq maq mlq mhq mfq mrq moq mbq msq (0 : Int32) js mv ma ac po si ta ml mh gu wr mf mr re mo mb ms)) (wj := fun _ : Unit => (w_X4 G mh0 mvq maq mlq mhq mfq mrq moq mbq msq (0 : Int32) js mv ma ac po si ta ml mh gu wr mf mr re mo mb ms)) (ci := 4) (q0 := 0) F (c_X4_isJar l G mh0 mvq maq mlq mhq mfq mrq moq mbq msq (0 : Int32) js mv ma ac po si ta ml mh gu wr mf mr re mo mb ms p1) gX4_pour_X4_isJar rfl rfl rfl zd_X4_isJar ⟨Nat.le_of_ble_eq_true rfl, Nat.le_of_ble_eq_true rfl⟩ rfl rfl (Nat.le_of_ble_eq_true rfl) dX4_pour_7 ⟨Nat.le_of_ble_eq_true rfl, Nat.le_of_ble_eq_true rfl⟩ hK hP hD hS hA hl.1 rfl rfl [0, 1, 2, 3, 4, 5, 6, 7, 8, 9] [] [0, 1, 2, 3, 4, 5, 6, 7, 8, 9] rfl rfl rfl rfl (by decide) rfl (fun _ => rfl) (fun _ H locs hP hD hS => ?_)
  have hP : va_P G.1 vwCl (w_X4 G mh0 mvq maq mlq mhq mfq mrq moq mbq msq (0 : Int32) js mv ma ac po si ta ml mh gu wr mf mr re mo mb ms) H := hP
  have hD : va_D A (w_X4 G mh0 mvq maq mlq mhq mfq mrq moq mbq msq (0 : Int32) js mv ma ac po si ta ml mh gu wr mf mr re mo mb ms) := hD
  refine lv_if_eq (tgt := 21) hx hb dX4_pour_10 (by decide) (fun (c_1 : (f_X4_isJar js p1) = (0 : Int32)) => ?_) (fun (c_1 : ¬ (f_X4_isJar js p1) = (0 : Int32)) => ?_)
  · refine lv_aload_n hx hb dX4_pour_21 rfl (lv_at hl 0 rfl) ?_
    refine lv_iconst (v := (1 : Int32)) hx hb dX4_pour_22 (by decide) ?_
    refine z_callV (As := [.int (1 : Int32)]) (rest := []) (wr := ([] : va_W)) (w1 := fun _ : Unit => (w_X4 G mh0 mvq maq mlq mhq mfq mrq moq mbq msq ((f_X4_no (0 : Int32) (1 : Int32)).2) js mv ma ac po si ta ml mh gu wr mf mr re mo mb ms)) (wj := fun _ : Unit => (w_X4 G mh0 mvq maq mlq mhq mfq mrq moq mbq msq (f_X4_no (0 : Int32) (1 : Int32)).2 js mv ma ac po si ta ml mh gu wr mf mr re mo mb ms)) (ci := 4) (q0 := 0) F (c_X4_no l G mh0 mvq maq mlq mhq mfq mrq moq mbq msq (0 : Int32) js mv ma ac po si ta ml mh gu wr mf mr re mo mb ms (1 : Int32)) gX4_pour_X4_no rfl rfl rfl zd_X4_no ⟨Nat.le_of_ble_eq_true rfl, Nat.le_of_ble_eq_true rfl⟩ rfl rfl (Nat.le_of_ble_eq_true rfl) dX4_pour_23 ⟨Nat.le_of_ble_eq_true rfl, Nat.le_of_ble_eq_true rfl⟩ hK hP hD hS hA hl.1 rfl rfl [0, 1, 2, 3, 4, 5, 6, 7, 8, 9] [] [0, 1, 2, 3, 4, 5, 6, 7, 8, 9] rfl rfl rfl rfl (by decide) rfl (fun _ => rfl) (fun _ H locs hP hD hS => ?_)
    have hP : va_P G.1 vwCl (w_X4 G mh0 mvq maq mlq mhq mfq mrq moq mbq msq (f_X4_no (0 : Int32) (1 : Int32)).2 js mv ma ac po si ta ml mh gu wr mf mr re mo mb ms) H := hP
    have hD : va_D A (w_X4 G mh0 mvq maq mlq mhq mfq mrq moq mbq msq (f_X4_no (0 : Int32) (1 : Int32)).2 js mv ma ac po si ta ml mh gu wr mf mr re mo mb ms) := hD
    have e9 : (f_X4_pour th js mv ma ac po si ta ml mh mo mb p1 p2) = ((f_X4_no (0 : Int32) (1 : Int32)).1, (f_X4_no (0 : Int32) (1 : Int32)).2, ma, ac, po, si, ta, ml, mh, mo, mb) := (f_X4_pour_eq th js mv ma ac po si ta ml mh mo mb p1 p2).trans ((if_pos c_1).trans (rfl))
    rw [e9]
    dsimp only
    exact z_iret F hr hlocks hP hD hS () [0, 1, 2, 3, 4, 5, 6, 7, 8, 9] rfl rfl rfl dX4_pour_26
  · have hs := hs.2 c_1
    refine lv_aload_n hx hb dX4_pour_13 rfl (lv_at hl 0 rfl) ?_
    refine lv_iload_n hx hb dX4_pour_14 rfl (lv_at hl 2 rfl) ?_
    refine z_callV (As := [.int p2]) (rest := []) (wr := ([] : va_W)) (w1 := fun _ : Unit => (w_X4 G mh0 mvq maq mlq mhq mfq mrq moq mbq msq (0 : Int32) js mv ma ac po si ta ml mh gu wr mf mr re mo mb ms)) (wj := fun _ : Unit => (w_X4 G mh0 mvq maq mlq mhq mfq mrq moq mbq msq (0 : Int32) js mv ma ac po si ta ml mh gu wr mf mr re mo mb ms)) (ci := 4) (q0 := 0) F (c_X4_isJar l G mh0 mvq maq mlq mhq mfq mrq moq mbq msq (0 : Int32) js mv ma ac po si ta ml mh gu wr mf mr re mo mb ms p2) gX4_pour_X4_isJar rfl rfl rfl zd_X4_isJar ⟨Nat.le_of_ble_eq_true rfl, Nat.le_of_ble_eq_true rfl⟩ rfl rfl (Nat.le_of_ble_eq_true rfl) dX4_pour_15 ⟨Nat.le_of_ble_eq_true rfl, Nat.le_of_ble_eq_true rfl⟩ hK hP hD hS hA hl.1 rfl rfl [0, 1, 2, 3, 4, 5, 6, 7, 8, 9] [] [0, 1, 2, 3, 4, 5, 6, 7, 8, 9] rfl rfl rfl rfl (by decide) rfl (fun _ => rfl) (fun _ H locs hP hD hS => ?_)
    have hP : va_P G.1 vwCl (w_X4 G mh0 mvq maq mlq mhq mfq mrq moq mbq msq (0 : Int32) js mv ma ac po si ta ml mh gu wr mf mr re mo mb ms) H := hP
    have hD : va_D A (w_X4 G mh0 mvq maq mlq mhq mfq mrq moq mbq msq (0 : Int32) js mv ma ac po si ta ml mh gu wr mf mr re mo mb ms) := hD
    refine lv_if_ne (tgt := 27) hx hb dX4_pour_18 (by decide) (fun (c_2 : ¬ (f_X4_isJar js p2) = (0 : Int32)) => ?_) (fun (c_2 : (f_X4_isJar js p2) = (0 : Int32)) => ?_)
    · have hs := hs.2 c_2
      refine lv_iload_n hx hb dX4_pour_27 rfl (lv_at hl 1 rfl) ?_
      refine lv_iload_n hx hb dX4_pour_28 rfl (lv_at hl 2 rfl) ?_
      refine lv_icmp_ne (tgt := 40) hx hb dX4_pour_29 (by decide) (fun (c_3 : ¬ p1 = p2) => ?_) (fun (c_3 : p1 = p2) => ?_)
      · have hs := hs.2 c_3
        refine lv_aload_n hx hb dX4_pour_40 rfl (lv_at hl 0 rfl) ?_
        refine lv_bipush (v := (6 : Int32)) hx hb dX4_pour_41 (by decide) ?_
        refine lv_iconst (v := (3 : Int32)) hx hb dX4_pour_43 (by decide) ?_
        refine lv_iload_n hx hb dX4_pour_44 rfl (lv_at hl 1 rfl) ?_
        refine lv_imul hx hb dX4_pour_45 ?_
        refine lv_iadd hx hb dX4_pour_46 ?_
        refine lv_iload_n hx hb dX4_pour_47 rfl (lv_at hl 2 rfl) ?_
        refine lv_iadd hx hb dX4_pour_48 ?_
        have h_4 := hs
        refine z_callV (As := [.int (((6 : Int32) + ((3 : Int32) * p1)) + p2)]) (rest := []) (wr := ([] : va_W)) (w1 := fun _ : Unit => (w_X4 G mh0 mvq maq mlq mhq mfq mrq moq mbq msq (0 : Int32) js mv ((f_X4_done js mv ma ac po si ta ml mh mo mb (((6 : Int32) + ((3 : Int32) * p1)) + p2)).2.1) ((f_X4_done js mv ma ac po si ta ml mh mo mb (((6 : Int32) + ((3 : Int32) * p1)) + p2)).2.2.1) ((f_X4_done js mv ma ac po si ta ml mh mo mb (((6 : Int32) + ((3 : Int32) * p1)) + p2)).2.2.2.1) ((f_X4_done js mv ma ac po si ta ml mh mo mb (((6 : Int32) + ((3 : Int32) * p1)) + p2)).2.2.2.2.1) ((f_X4_done js mv ma ac po si ta ml mh mo mb (((6 : Int32) + ((3 : Int32) * p1)) + p2)).2.2.2.2.2.1) ((f_X4_done js mv ma ac po si ta ml mh mo mb (((6 : Int32) + ((3 : Int32) * p1)) + p2)).2.2.2.2.2.2.1) ((f_X4_done js mv ma ac po si ta ml mh mo mb (((6 : Int32) + ((3 : Int32) * p1)) + p2)).2.2.2.2.2.2.2.1) gu wr mf mr re ((f_X4_done js mv ma ac po si ta ml mh mo mb (((6 : Int32) + ((3 : Int32) * p1)) + p2)).2.2.2.2.2.2.2.2.1) ((f_X4_done js mv ma ac po si ta ml mh mo mb (((6 : Int32) + ((3 : Int32) * p1)) + p2)).2.2.2.2.2.2.2.2.2) ms)) (wj := fun _ : Unit => (w_X4 G mh0 mvq maq mlq mhq mfq mrq moq mbq msq (0 : Int32) js mv (f_X4_done js mv ma ac po si ta ml mh mo mb (((6 : Int32) + ((3 : Int32) * p1)) + p2)).2.1 (f_X4_done js mv ma ac po si ta ml mh mo mb (((6 : Int32) + ((3 : Int32) * p1)) + p2)).2.2.1 (f_X4_done js mv ma ac po si ta ml mh mo mb (((6 : Int32) + ((3 : Int32) * p1)) + p2)).2.2.2.1 (f_X4_done js mv ma ac po si ta ml mh mo mb (((6 : Int32) + ((3 : Int32) * p1)) + p2)).2.2.2.2.1 (f_X4_done js mv ma ac po si ta ml mh mo mb (((6 : Int32) + ((3 : Int32) * p1)) + p2)).2.2.2.2.2.1 (f_X4_done js mv ma ac po si ta ml mh mo mb (((6 : Int32) + ((3 : Int32) * p1)) + p2)).2.2.2.2.2.2.1 (f_X4_done js mv ma ac po si ta ml mh mo mb (((6 : Int32) + ((3 : Int32) * p1)) + p2)).2.2.2.2.2.2.2.1 gu wr mf mr re (f_X4_done js mv ma ac po si ta ml mh mo mb (((6 : Int32) + ((3 : Int32) * p1)) + p2)).2.2.2.2.2.2.2.2.1 (f_X4_done js mv ma ac po si ta ml mh mo mb (((6 : Int32) + ((3 : Int32) * p1)) + p2)).2.2.2.2.2.2.2.2.2 ms)) (ci := 4) (q0 := 0) F (c_X4_done l G mh0 mvq maq mlq mhq mfq mrq moq mbq msq (0 : Int32) js mv ma ac po si ta ml mh gu wr mf mr re mo mb ms (((6 : Int32) + ((3 : Int32) * p1)) + p2) h_4) gX4_pour_X4_done rfl rfl rfl zd_X4_done ⟨Nat.le_of_ble_eq_true rfl, Nat.le_of_ble_eq_true rfl⟩ rfl rfl (Nat.le_of_ble_eq_true rfl) dX4_pour_49 ⟨Nat.le_of_ble_eq_true rfl, Nat.le_of_ble_eq_true rfl⟩ hK hP hD hS hA hl.1 rfl rfl [0, 1, 2, 3, 4, 5, 6, 7, 8, 9] [] [0, 1, 2, 3, 4, 5, 6, 7, 8, 9] rfl rfl rfl rfl (by decide) rfl (fun _ => rfl) (fun _ H locs hP hD hS => ?_)
        have hP : va_P G.1 vwCl (w_X4 G mh0 mvq maq mlq mhq mfq mrq moq mbq msq (0 : Int32) js mv (f_X4_done js mv ma ac po si ta ml mh mo mb (((6 : Int32) + ((3 : Int32) * p1)) + p2)).2.1 (f_X4_done js mv ma ac po si ta ml mh mo mb (((6 : Int32) + ((3 : Int32) * p1)) + p2)).2.2.1 (f_X4_done js mv ma ac po si ta ml mh mo mb (((6 : Int32) + ((3 : Int32) * p1)) + p2)).2.2.2.1 (f_X4_done js mv ma ac po si ta ml mh mo mb (((6 : Int32) + ((3 : Int32) * p1)) + p2)).2.2.2.2.1 (f_X4_done js mv ma ac po si ta ml mh mo mb (((6 : Int32) + ((3 : Int32) * p1)) + p2)).2.2.2.2.2.1 (f_X4_done js mv ma ac po si ta ml mh mo mb (((6 : Int32) + ((3 : Int32) * p1)) + p2)).2.2.2.2.2.2.1 (f_X4_done js mv ma ac po si ta ml mh mo mb (((6 : Int32) + ((3 : Int32) * p1)) + p2)).2.2.2.2.2.2.2.1 gu wr mf mr re (f_X4_done js mv ma ac po si ta ml mh mo mb (((6 : Int32) + ((3 : Int32) * p1)) + p2)).2.2.2.2.2.2.2.2.1 (f_X4_done js mv ma ac po si ta ml mh mo mb (((6 : Int32) + ((3 : Int32) * p1)) + p2)).2.2.2.2.2.2.2.2.2 ms) H := hP
        have hD : va_D A (w_X4 G mh0 mvq maq mlq mhq mfq mrq moq mbq msq (0 : Int32) js mv (f_X4_done js mv ma ac po si ta ml mh mo mb (((6 : Int32) + ((3 : Int32) * p1)) + p2)).2.1 (f_X4_done js mv ma ac po si ta ml mh mo mb (((6 : Int32) + ((3 : Int32) * p1)) + p2)).2.2.1 (f_X4_done js mv ma ac po si ta ml mh mo mb (((6 : Int32) + ((3 : Int32) * p1)) + p2)).2.2.2.1 (f_X4_done js mv ma ac po si ta ml mh mo mb (((6 : Int32) + ((3 : Int32) * p1)) + p2)).2.2.2.2.1 (f_X4_done js mv ma ac po si ta ml mh mo mb (((6 : Int32) + ((3 : Int32) * p1)) + p2)).2.2.2.2.2.1 (f_X4_done js mv ma ac po si ta ml mh mo mb (((6 : Int32) + ((3 : Int32) * p1)) + p2)).2.2.2.2.2.2.1 (f_X4_done js mv ma ac po si ta ml mh mo mb (((6 : Int32) + ((3 : Int32) * p1)) + p2)).2.2.2.2.2.2.2.1 gu wr mf mr re (f_X4_done js mv ma ac po si ta ml mh mo mb (((6 : Int32) + ((3 : Int32) * p1)) + p2)).2.2.2.2.2.2.2.2.1 (f_X4_done js mv ma ac po si ta ml mh mo mb (((6 : Int32) + ((3 : Int32) * p1)) + p2)).2.2.2.2.2.2.2.2.2 ms) := hD
        have e9 : (f_X4_pour th js mv ma ac po si ta ml mh mo mb p1 p2) = ((f_X4_done js mv ma ac po si ta ml mh mo mb (((6 : Int32) + ((3 : Int32) * p1)) + p2)).1, (0 : Int32), (f_X4_done js mv ma ac po si ta ml mh mo mb (((6 : Int32) + ((3 : Int32) * p1)) + p2)).2.1, (f_X4_done js mv ma ac po si ta ml mh mo mb (((6 : Int32) + ((3 : Int32) * p1)) + p2)).2.2.1, (f_X4_done js mv ma ac po si ta ml mh mo mb (((6 : Int32) + ((3 : Int32) * p1)) + p2)).2.2.2.1, (f_X4_done js mv ma ac po si ta ml mh mo mb (((6 : Int32) + ((3 : Int32) * p1)) + p2)).2.2.2.2.1, (f_X4_done js mv ma ac po si ta ml mh mo mb (((6 : Int32) + ((3 : Int32) * p1)) + p2)).2.2.2.2.2.1, (f_X4_done js mv ma ac po si ta ml mh mo mb (((6 : Int32) + ((3 : Int32) * p1)) + p2)).2.2.2.2.2.2.1, (f_X4_done js mv ma ac po si ta ml mh mo mb (((6 : Int32) + ((3 : Int32) * p1)) + p2)).2.2.2.2.2.2.2.1, (f_X4_done js mv ma ac po si ta ml mh mo mb (((6 : Int32) + ((3 : Int32) * p1)) + p2)).2.2.2.2.2.2.2.2.1, (f_X4_done js mv ma ac po si ta ml mh mo mb (((6 : Int32) + ((3 : Int32) * p1)) + p2)).2.2.2.2.2.2.2.2.2) := (f_X4_pour_eq th js mv ma ac po si ta ml mh mo mb p1 p2).trans ((if_neg c_1).trans ((if_neg c_2).trans ((if_neg c_3).trans (rfl))))
        rw [e9]
        dsimp only
        exact z_iret F hr hlocks hP hD hS () [0, 1, 2, 3, 4, 5, 6, 7, 8, 9] rfl rfl rfl dX4_pour_52
      · refine lv_aload_n hx hb dX4_pour_32 rfl (lv_at hl 0 rfl) ?_
        refine lv_iconst (v := (2 : Int32)) hx hb dX4_pour_33 (by decide) ?_
        refine z_callV (As := [.int (2 : Int32)]) (rest := []) (wr := ([] : va_W)) (w1 := fun _ : Unit => (w_X4 G mh0 mvq maq mlq mhq mfq mrq moq mbq msq ((f_X4_no (0 : Int32) (2 : Int32)).2) js mv ma ac po si ta ml mh gu wr mf mr re mo mb ms)) (wj := fun _ : Unit => (w_X4 G mh0 mvq maq mlq mhq mfq mrq moq mbq msq (f_X4_no (0 : Int32) (2 : Int32)).2 js mv ma ac po si ta ml mh gu wr mf mr re mo mb ms)) (ci := 4) (q0 := 0) F (c_X4_no l G mh0 mvq maq mlq mhq mfq mrq moq mbq msq (0 : Int32) js mv ma ac po si ta ml mh gu wr mf mr re mo mb ms (2 : Int32)) gX4_pour_X4_no rfl rfl rfl zd_X4_no ⟨Nat.le_of_ble_eq_true rfl, Nat.le_of_ble_eq_true rfl⟩ rfl rfl (Nat.le_of_ble_eq_true rfl) dX4_pour_34 ⟨Nat.le_of_ble_eq_true rfl, Nat.le_of_ble_eq_true rfl⟩ hK hP hD hS hA hl.1 rfl rfl [0, 1, 2, 3, 4, 5, 6, 7, 8, 9] [] [0, 1, 2, 3, 4, 5, 6, 7, 8, 9] rfl rfl rfl rfl (by decide) rfl (fun _ => rfl) (fun _ H locs hP hD hS => ?_)
        have hP : va_P G.1 vwCl (w_X4 G mh0 mvq maq mlq mhq mfq mrq moq mbq msq (f_X4_no (0 : Int32) (2 : Int32)).2 js mv ma ac po si ta ml mh gu wr mf mr re mo mb ms) H := hP
        have hD : va_D A (w_X4 G mh0 mvq maq mlq mhq mfq mrq moq mbq msq (f_X4_no (0 : Int32) (2 : Int32)).2 js mv ma ac po si ta ml mh gu wr mf mr re mo mb ms) := hD
        refine lv_goto (tgt := 52) hx hb dX4_pour_37 (by decide) ?_
        have e9 : (f_X4_pour th js mv ma ac po si ta ml mh mo mb p1 p2) = ((f_X4_no (0 : Int32) (2 : Int32)).1, (f_X4_no (0 : Int32) (2 : Int32)).2, ma, ac, po, si, ta, ml, mh, mo, mb) := (f_X4_pour_eq th js mv ma ac po si ta ml mh mo mb p1 p2).trans ((if_neg c_1).trans ((if_neg c_2).trans ((if_pos c_3).trans (rfl))))
        rw [e9]
        dsimp only
        exact z_iret F hr hlocks hP hD hS () [0, 1, 2, 3, 4, 5, 6, 7, 8, 9] rfl rfl rfl dX4_pour_52
    · refine lv_aload_n hx hb dX4_pour_21 rfl (lv_at hl 0 rfl) ?_
      refine lv_iconst (v := (1 : Int32)) hx hb dX4_pour_22 (by decide) ?_
      refine z_callV (As := [.int (1 : Int32)]) (rest := []) (wr := ([] : va_W)) (w1 := fun _ : Unit => (w_X4 G mh0 mvq maq mlq mhq mfq mrq moq mbq msq ((f_X4_no (0 : Int32) (1 : Int32)).2) js mv ma ac po si ta ml mh gu wr mf mr re mo mb ms)) (wj := fun _ : Unit => (w_X4 G mh0 mvq maq mlq mhq mfq mrq moq mbq msq (f_X4_no (0 : Int32) (1 : Int32)).2 js mv ma ac po si ta ml mh gu wr mf mr re mo mb ms)) (ci := 4) (q0 := 0) F (c_X4_no l G mh0 mvq maq mlq mhq mfq mrq moq mbq msq (0 : Int32) js mv ma ac po si ta ml mh gu wr mf mr re mo mb ms (1 : Int32)) gX4_pour_X4_no rfl rfl rfl zd_X4_no ⟨Nat.le_of_ble_eq_true rfl, Nat.le_of_ble_eq_true rfl⟩ rfl rfl (Nat.le_of_ble_eq_true rfl) dX4_pour_23 ⟨Nat.le_of_ble_eq_true rfl, Nat.le_of_ble_eq_true rfl⟩ hK hP hD hS hA hl.1 rfl rfl [0, 1, 2, 3, 4, 5, 6, 7, 8, 9] [] [0, 1, 2, 3, 4, 5, 6, 7, 8, 9] rfl rfl rfl rfl (by decide) rfl (fun _ => rfl) (fun _ H locs hP hD hS => ?_)
      have hP : va_P G.1 vwCl (w_X4 G mh0 mvq maq mlq mhq mfq mrq moq mbq msq (f_X4_no (0 : Int32) (1 : Int32)).2 js mv ma ac po si ta ml mh gu wr mf mr re mo mb ms) H := hP
      have hD : va_D A (w_X4 G mh0 mvq maq mlq mhq mfq mrq moq mbq msq (f_X4_no (0 : Int32) (1 : Int32)).2 js mv ma ac po si ta ml mh gu wr mf mr re mo mb ms) := hD
      have e9 : (f_X4_pour th js mv ma ac po si ta ml mh mo mb p1 p2) = ((f_X4_no (0 : Int32) (1 : Int32)).1, (f_X4_no (0 : Int32) (1 : Int32)).2, ma, ac, po, si, ta, ml, mh, mo, mb) := (f_X4_pour_eq th js mv ma ac po si ta ml mh mo mb p1 p2).trans ((if_neg c_1).trans ((if_pos c_2).trans (rfl)))
      rw [e9]
      dsimp only
      exact z_iret F hr hlocks hP hD hS () [0, 1, 2, 3, 4, 5, 6, 7, 8, 9] rfl rfl rfl dX4_pour_26
