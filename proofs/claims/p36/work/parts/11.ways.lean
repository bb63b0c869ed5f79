abbrev w_X2 (G : zG) (wh sh sv sa wd wf wo : Nat) (vs : Nat → Int32) (as : Nat → Int32) (ds : Nat → Int32) (fa : Nat → Int32) (od : Nat → Int32) (rd : Int32) : va_W := [(wh, .inr (2, [.ref sh, .ref wd, .ref wf, .ref wo, .int rd])), (sh, .inr (1, [.ref sv, .ref sa])), (sv, .inl (G.2.1, 3, .inl vs)), (sa, .inl (G.2.1, 3, .inl as)), (wd, .inl (G.2.1, 1000, .inl ds)), (wf, .inl (G.2.1, 1000, .inl fa)), (wo, .inl (G.2.1, 1000, .inl od))]
abbrev w_X2e (G : zG) (wh sh sv sa wd wf wo rh rv ra : Nat) (vs : Nat → Int32) (as : Nat → Int32) (ds : Nat → Int32) (fa : Nat → Int32) (od : Nat → Int32) (rd : Int32) (vr : Nat → Int32) (ar : Nat → Int32) : va_W := [(wh, .inr (2, [.ref sh, .ref wd, .ref wf, .ref wo, .int rd])), (sh, .inr (1, [.ref sv, .ref sa])), (sv, .inl (G.2.1, 3, .inl vs)), (sa, .inl (G.2.1, 3, .inl as)), (wd, .inl (G.2.1, 1000, .inl ds)), (wf, .inl (G.2.1, 1000, .inl fa)), (wo, .inl (G.2.1, 1000, .inl od)), (rh, .inr (1, [.ref rv, .ref ra])), (rv, .inl (G.2.1, 3, .inl vr)), (ra, .inl (G.2.1, 3, .inl ar))]
def f_X2_forget (rd : Int32) : Int32 := (0 : Int32)
theorem f_X2_forget_eq (rd : Int32) : f_X2_forget rd = (0 : Int32) := rfl
abbrev rm_X2_forget : Room := { frames := 0, cells := 0, slots := 0, locals := 0 }
theorem zd_X2_forget : yX2_forget.cls = RX2 ∧ yX2_forget.cls ≠ "java/lang/invoke/MethodHandle" ∧ yX2_forget.cls ≠ "java/lang/invoke/VarHandle" ∧ (parseMethodDescriptor yX2_forget.desc).map (fun d => d.parameters.length) = some 0 := by decide +kernel
theorem in_X2_forget_X2 : ∀ w ∈ u_ws RX2 TX2 5, w ∈ wsX2_forget := by decide +kernel
set_option maxHeartbeats 4000000 in
set_option maxRecDepth 100000 in
/-- JarRiddle$Ways.forget()V -/
theorem c_X2_forget (l : Launch) (G : zG) (wh sh sv sa wd wf wo : Nat) (vs : Nat → Int32) (as : Nat → Int32) (ds : Nat → Int32) (fa : Nat → Int32) (od : Nat → Int32) (rd : Int32) : zC l G yX2_forget wsX2_forget rm_X2_forget 0 0 [.ref wh] (w_X2 G wh sh sv sa wd wf wo vs as ds fa od rd) none (fun _ : Unit => (w_X2 G wh sh sv sa wd wf wo vs as ds fa od (f_X2_forget rd))) := by
  refine z_of (cc := cX2_forget) (maxL := 1) (ret := none) (own := RX2) (by decide) rfl rfl (Nat.le_of_ble_eq_true rfl) ?_
  intro p e s m args below meth c A H locs ls F hr hlocks hname hK hA hP hD hS hl
  obtain ⟨hx, hb, hml, hown, hts⟩ := id F
  have hl : lv_has ls 1 [(0, .ref wh)] := hl
  refine lv_aload_n hx hb dX2_forget_0 rfl (lv_at hl 0 rfl) ?_
  refine lv_iconst (v := (0 : Int32)) hx hb dX2_forget_1 (by decide) ?_
  refine va_put (D := G.1) (ci := 2) (v := .int (0 : Int32)) (ty := .int) (C := RX2) (T := TX2) (N := 5) hx hb hts in_X2_forget_X2 tyX2 tyX2_ok nmX2 hown hK.1 hP hD hS 0 rfl rfl 4 (by decide) (hts (.fieldLink RX2 28 "JarRiddle$Ways" "reached" "I") (by decide +kernel)) (fun _ h9 => h9) rfl (by decide +kernel) rfl rfl (Nat.le_of_ble_eq_true rfl) dX2_forget_2 (fun H locs hP hD hS => ?_)
  have hP : va_P G.1 vwCl (w_X2 G wh sh sv sa wd wf wo vs as ds fa od (0 : Int32)) H := hP
  have hD : va_D A (w_X2 G wh sh sv sa wd wf wo vs as ds fa od (0 : Int32)) := hD
  have e9 : (f_X2_forget rd) = (0 : Int32) := (f_X2_forget_eq rd).trans (rfl)
  rw [e9]
  exact z_vret F hr hlocks hP hD hS () [0, 1, 2, 3, 4, 5, 6] rfl rfl rfl dX2_forget_5
def f_X2_stateAt (od : Nat → Int32) (rd : Int32) (p1 : Int32) : Int32 := (if p1 < (0 : Int32) then (-1 : Int32) else (if rd ≤ p1 then (-1 : Int32) else (if (1000 : Int32) ≤ p1 then (-1 : Int32) else (od p1.toNatClampNeg))))
theorem f_X2_stateAt_eq (od : Nat → Int32) (rd : Int32) (p1 : Int32) : f_X2_stateAt od rd p1 = (if p1 < (0 : Int32) then (-1 : Int32) else (if rd ≤ p1 then (-1 : Int32) else (if (1000 : Int32) ≤ p1 then (-1 : Int32) else (od p1.toNatClampNeg)))) := rfl
abbrev rm_X2_stateAt : Room := { frames := 0, cells := 0, slots := 0, locals := 0 }
theorem zd_X2_stateAt : yX2_stateAt.cls = RX2 ∧ yX2_stateAt.cls ≠ "java/lang/invoke/MethodHandle" ∧ yX2_stateAt.cls ≠ "java/lang/invoke/VarHandle" ∧ (parseMethodDescriptor yX2_stateAt.desc).map (fun d => d.parameters.length) = some 1 := by decide +kernel
theorem in_X2_stateAt_X2 : ∀ w ∈ u_ws RX2 TX2 5, w ∈ wsX2_stateAt := by decide +kernel
set_option maxHeartbeats 4000000 in
set_option maxRecDepth 100000 in
/-- JarRiddle$Ways.stateAt(I)I -/
theorem c_X2_stateAt (l : Launch) (G : zG) (wh sh sv sa wd wf wo : Nat) (vs : Nat → Int32) (as : Nat → Int32) (ds : Nat → Int32) (fa : Nat → Int32) (od : Nat → Int32) (rd : Int32) (p1 : Int32) : zC l G yX2_stateAt wsX2_stateAt rm_X2_stateAt 0 0 [.ref wh, .int p1] (w_X2 G wh sh sv sa wd wf wo vs as ds fa od rd) (some (.int (f_X2_stateAt od rd p1))) (fun _ : Unit => (w_X2 G wh sh sv sa wd wf wo vs as ds fa od rd)) := by
  refine z_of (cc := cX2_stateAt) (maxL := 2) (ret := (some .int)) (own := RX2) (by decide) rfl rfl (Nat.le_of_ble_eq_true rfl) ?_
  intro p e s m args below meth c A H locs ls F hr hlocks hname hK hA hP hD hS hl
  obtain ⟨hx, hb, hml, hown, hts⟩ := id F
  have hl : lv_has ls 2 [(0, .ref wh), (1, .int p1)] := hl
  refine lv_iload_n hx hb dX2_stateAt_0 rfl (lv_at hl 1 rfl) ?_
  refine lv_if_lt (tgt := 28) hx hb dX2_stateAt_1 (by decide) (fun (c_1 : p1 < (0 : Int32)) => ?_) (fun (c_1 : ¬ p1 < (0 : Int32)) => ?_)
  · refine lv_iconst (v := (-1 : Int32)) hx hb dX2_stateAt_28 (by decide) ?_
    have e9 : (f_X2_stateAt od rd p1) = (-1 : Int32) := (f_X2_stateAt_eq od rd p1).trans ((if_pos c_1).trans (rfl))
    rw [e9]
    exact z_iret F hr hlocks hP hD hS () [0, 1, 2, 3, 4, 5, 6] rfl rfl rfl dX2_stateAt_29
  · refine lv_iload_n hx hb dX2_stateAt_4 rfl (lv_at hl 1 rfl) ?_
    refine lv_aload_n hx hb dX2_stateAt_5 rfl (lv_at hl 0 rfl) ?_
    refine va_get (D := G.1) (ci := 2) (v := .int rd) (C := RX2) (T := TX2) (N := 5) hx hb hts in_X2_stateAt_X2 hown hK.1 hP 0 rfl rfl 4 (by decide) (hts (.fieldLink RX2 28 "JarRiddle$Ways" "reached" "I") (by decide +kernel)) (fun _ h9 => h9) rfl dX2_stateAt_6 ?_
    refine lv_icmp_ge (tgt := 28) hx hb dX2_stateAt_9 (by decide) (fun (c_2 : rd ≤ p1) => ?_) (fun (c_2 : ¬ rd ≤ p1) => ?_)
    · refine lv_iconst (v := (-1 : Int32)) hx hb dX2_stateAt_28 (by decide) ?_
      have e9 : (f_X2_stateAt od rd p1) = (-1 : Int32) := (f_X2_stateAt_eq od rd p1).trans ((if_neg c_1).trans ((if_pos c_2).trans (rfl)))
      rw [e9]
      exact z_iret F hr hlocks hP hD hS () [0, 1, 2, 3, 4, 5, 6] rfl rfl rfl dX2_stateAt_29
    · refine lv_iload_n hx hb dX2_stateAt_12 rfl (lv_at hl 1 rfl) ?_
      refine lv_sipush (v := (1000 : Int32)) hx hb dX2_stateAt_13 (by decide) ?_
      refine lv_icmp_ge (tgt := 28) hx hb dX2_stateAt_16 (by decide) (fun (c_3 : (1000 : Int32) ≤ p1) => ?_) (fun (c_3 : ¬ (1000 : Int32) ≤ p1) => ?_)
      · refine lv_iconst (v := (-1 : Int32)) hx hb dX2_stateAt_28 (by decide) ?_
        have e9 : (f_X2_stateAt od rd p1) = (-1 : Int32) := (f_X2_stateAt_eq od rd p1).trans ((if_neg c_1).trans ((if_neg c_2).trans ((if_pos c_3).trans (rfl))))
        rw [e9]
        exact z_iret F hr hlocks hP hD hS () [0, 1, 2, 3, 4, 5, 6] rfl rfl rfl dX2_stateAt_29
      · refine lv_aload_n hx hb dX2_stateAt_19 rfl (lv_at hl 0 rfl) ?_
        refine va_get (D := G.1) (ci := 2) (v := .ref wo) (C := RX2) (T := TX2) (N := 5) hx hb hts in_X2_stateAt_X2 hown hK.1 hP 0 rfl rfl 3 (by decide) (hts (.fieldLink RX2 25 "JarRiddle$Ways" "order" "[I") (by decide +kernel)) (fun _ h9 => h9) rfl dX2_stateAt_20 ?_
        refine lv_iload_n hx hb dX2_stateAt_23 rfl (lv_at hl 1 rfl) ?_
        refine va_iald hx hb hK.1 hP 6 0 rfl rfl (zk_in (N := 1000) rfl c_1 c_3) dX2_stateAt_24 ?_
        refine lv_goto (tgt := 29) hx hb dX2_stateAt_25 (by decide) ?_
        have e9 : (f_X2_stateAt od rd p1) = (od p1.toNatClampNeg) := (f_X2_stateAt_eq od rd p1).trans ((if_neg c_1).trans ((if_neg c_2).trans ((if_neg c_3).trans (rfl))))
        rw [e9]
        exact z_iret F hr hlocks hP hD hS () [0, 1, 2, 3, 4, 5, 6] rfl rfl rfl dX2_stateAt_29
def f_X2_distanceOf (ds : Nat → Int32) (p1 : Int32) : Int32 := (if p1 < (0 : Int32) then (-1 : Int32) else (if (1000 : Int32) ≤ p1 then (-1 : Int32) else (ds p1.toNatClampNeg)))
theorem f_X2_distanceOf_eq (ds : Nat → Int32) (p1 : Int32) : f_X2_distanceOf ds p1 = (if p1 < (0 : Int32) then (-1 : Int32) else (if (1000 : Int32) ≤ p1 then (-1 : Int32) else (ds p1.toNatClampNeg))) := rfl
abbrev rm_X2_distanceOf : Room := { frames := 0, cells := 0, slots := 0, locals := 0 }
theorem zd_X2_distanceOf : yX2_distanceOf.cls = RX2 ∧ yX2_distanceOf.cls ≠ "java/lang/invoke/MethodHandle" ∧ yX2_distanceOf.cls ≠ "java/lang/invoke/VarHandle" ∧ (parseMethodDescriptor yX2_distanceOf.desc).map (fun d => d.parameters.length) = some 1 := by decide +kernel
theorem in_X2_distanceOf_X2 : ∀ w ∈ u_ws RX2 TX2 5, w ∈ wsX2_distanceOf := by decide +kernel
set_option maxHeartbeats 4000000 in
set_option maxRecDepth 100000 in
/-- JarRiddle$Ways.distanceOf(I)I -/
theorem c_X2_distanceOf (l : Launch) (G : zG) (wh sh sv sa wd wf wo : Nat) (vs : Nat → Int32) (as : Nat → Int32) (ds : Nat → Int32) (fa : Nat → Int32) (od : Nat → Int32) (rd : Int32) (p1 : Int32) : zC l G yX2_distanceOf wsX2_distanceOf rm_X2_distanceOf 0 0 [.ref wh, .int p1] (w_X2 G wh sh sv sa wd wf wo vs as ds fa od rd) (some (.int (f_X2_distanceOf ds p1))) (fun _ : Unit => (w_X2 G wh sh sv sa wd wf wo vs as ds fa od rd)) := by
  refine z_of (cc := cX2_distanceOf) (maxL := 2) (ret := (some .int)) (own := RX2) (by decide) rfl rfl (Nat.le_of_ble_eq_true rfl) ?_
  intro p e s m args below meth c A H locs ls F hr hlocks hname hK hA hP hD hS hl
  obtain ⟨hx, hb, hml, hown, hts⟩ := id F
  have hl : lv_has ls 2 [(0, .ref wh), (1, .int p1)] := hl
  refine lv_iload_n hx hb dX2_distanceOf_0 rfl (lv_at hl 1 rfl) ?_
  refine lv_if_lt (tgt := 20) hx hb dX2_distanceOf_1 (by decide) (fun (c_1 : p1 < (0 : Int32)) => ?_) (fun (c_1 : ¬ p1 < (0 : Int32)) => ?_)
  · refine lv_iconst (v := (-1 : Int32)) hx hb dX2_distanceOf_20 (by decide) ?_
    have e9 : (f_X2_distanceOf ds p1) = (-1 : Int32) := (f_X2_distanceOf_eq ds p1).trans ((if_pos c_1).trans (rfl))
    rw [e9]
    exact z_iret F hr hlocks hP hD hS () [0, 1, 2, 3, 4, 5, 6] rfl rfl rfl dX2_distanceOf_21
  · refine lv_iload_n hx hb dX2_distanceOf_4 rfl (lv_at hl 1 rfl) ?_
    refine lv_sipush (v := (1000 : Int32)) hx hb dX2_distanceOf_5 (by decide) ?_
    refine lv_icmp_ge (tgt := 20) hx hb dX2_distanceOf_8 (by decide) (fun (c_2 : (1000 : Int32) ≤ p1) => ?_) (fun (c_2 : ¬ (1000 : Int32) ≤ p1) => ?_)
    · refine lv_iconst (v := (-1 : Int32)) hx hb dX2_distanceOf_20 (by decide) ?_
      have e9 : (f_X2_distanceOf ds p1) = (-1 : Int32) := (f_X2_distanceOf_eq ds p1).trans ((if_neg c_1).trans ((if_pos c_2).trans (rfl)))
      rw [e9]
      exact z_iret F hr hlocks hP hD hS () [0, 1, 2, 3, 4, 5, 6] rfl rfl rfl dX2_distanceOf_21
    · refine lv_aload_n hx hb dX2_distanceOf_11 rfl (lv_at hl 0 rfl) ?_
      refine va_get (D := G.1) (ci := 2) (v := .ref wd) (C := RX2) (T := TX2) (N := 5) hx hb hts in_X2_distanceOf_X2 hown hK.1 hP 0 rfl rfl 1 (by decide) (hts (.fieldLink RX2 18 "JarRiddle$Ways" "distance" "[I") (by decide +kernel)) (fun _ h9 => h9) rfl dX2_distanceOf_12 ?_
      refine lv_iload_n hx hb dX2_distanceOf_15 rfl (lv_at hl 1 rfl) ?_
      refine va_iald hx hb hK.1 hP 4 0 rfl rfl (zk_in (N := 1000) rfl c_1 c_2) dX2_distanceOf_16 ?_
      refine lv_goto (tgt := 21) hx hb dX2_distanceOf_17 (by decide) ?_
      have e9 : (f_X2_distanceOf ds p1) = (ds p1.toNatClampNeg) := (f_X2_distanceOf_eq ds p1).trans ((if_neg c_1).trans ((if_neg c_2).trans (rfl)))
      rw [e9]
      exact z_iret F hr hlocks hP hD hS () [0, 1, 2, 3, 4, 5, 6] rfl rfl rfl dX2_distanceOf_21
def f_X2_firstActOf (fa : Nat → Int32) (p1 : Int32) : Int32 := (if p1 < (0 : Int32) then (-1 : Int32) else (if (1000 : Int32) ≤ p1 then (-1 : Int32) else (fa p1.toNatClampNeg)))
theorem f_X2_firstActOf_eq (fa : Nat → Int32) (p1 : Int32) : f_X2_firstActOf fa p1 = (if p1 < (0 : Int32) then (-1 : Int32) else (if (1000 : Int32) ≤ p1 then (-1 : Int32) else (fa p1.toNatClampNeg))) := rfl
abbrev rm_X2_firstActOf : Room := { frames := 0, cells := 0, slots := 0, locals := 0 }
theorem zd_X2_firstActOf : yX2_firstActOf.cls = RX2 ∧ yX2_firstActOf.cls ≠ "java/lang/invoke/MethodHandle" ∧ yX2_firstActOf.cls ≠ "java/lang/invoke/VarHandle" ∧ (parseMethodDescriptor yX2_firstActOf.desc).map (fun d => d.parameters.length) = some 1 := by decide +kernel
theorem in_X2_firstActOf_X2 : ∀ w ∈ u_ws RX2 TX2 5, w ∈ wsX2_firstActOf := by decide +kernel
set_option maxHeartbeats 4000000 in
set_option maxRecDepth 100000 in
/-- JarRiddle$Ways.firstActOf(I)I -/
theorem c_X2_firstActOf (l : Launch) (G : zG) (wh sh sv sa wd wf wo : Nat) (vs : Nat → Int32) (as : Nat → Int32) (ds : Nat → Int32) (fa : Nat → Int32) (od : Nat → Int32) (rd : Int32) (p1 : Int32) : zC l G yX2_firstActOf wsX2_firstActOf rm_X2_firstActOf 0 0 [.ref wh, .int p1] (w_X2 G wh sh sv sa wd wf wo vs as ds fa od rd) (some (.int (f_X2_firstActOf fa p1))) (fun _ : Unit => (w_X2 G wh sh sv sa wd wf wo vs as ds fa od rd)) := by
  refine z_of (cc := cX2_firstActOf) (maxL := 2) (ret := (some .int)) (own := RX2) (by decide) rfl rfl (Nat.le_of_ble_eq_true rfl) ?_
  intro p e s m args below meth c A H locs ls F hr hlocks hname hK hA hP hD hS hl
  obtain ⟨hx, hb, hml, hown, hts⟩ := id F
  have hl : lv_has ls 2 [(0, .ref wh), (1, .int p1)] := hl
  refine lv_iload_n hx hb dX2_firstActOf_0 rfl (lv_at hl 1 rfl) ?_
  refine lv_if_lt (tgt := 20) hx hb dX2_firstActOf_1 (by decide) (fun (c_1 : p1 < (0 : Int32)) => ?_) (fun (c_1 : ¬ p1 < (0 : Int32)) => ?_)
  · refine lv_iconst (v := (-1 : Int32)) hx hb dX2_firstActOf_20 (by decide) ?_
    have e9 : (f_X2_firstActOf fa p1) = (-1 : Int32) := (f_X2_firstActOf_eq fa p1).trans ((if_pos c_1).trans (rfl))
    rw [e9]
    exact z_iret F hr hlocks hP hD hS () [0, 1, 2, 3, 4, 5, 6] rfl rfl rfl dX2_firstActOf_21
  · refine lv_iload_n hx hb dX2_firstActOf_4 rfl (lv_at hl 1 rfl) ?_
    refine lv_sipush (v := (1000 : Int32)) hx hb dX2_firstActOf_5 (by decide) ?_
    refine lv_icmp_ge (tgt := 20) hx hb dX2_firstActOf_8 (by decide) (fun (c_2 : (1000 : Int32) ≤ p1) => ?_) (fun (c_2 : ¬ (1000 : Int32) ≤ p1) => ?_)
    · refine lv_iconst (v := (-1 : Int32)) hx hb dX2_firstActOf_20 (by decide) ?_
      have e9 : (f_X2_firstActOf fa p1) = (-1 : Int32) := (f_X2_firstActOf_eq fa p1).trans ((if_neg c_1).trans ((if_pos c_2).trans (rfl)))
      rw [e9]
      exact z_iret F hr hlocks hP hD hS () [0, 1, 2, 3, 4, 5, 6] rfl rfl rfl dX2_firstActOf_21
    · refine lv_aload_n hx hb dX2_firstActOf_11 rfl (lv_at hl 0 rfl) ?_
      refine va_get (D := G.1) (ci := 2) (v := .ref wf) (C := RX2) (T := TX2) (N := 5) hx hb hts in_X2_firstActOf_X2 hown hK.1 hP 0 rfl rfl 2 (by decide) (hts (.fieldLink RX2 22 "JarRiddle$Ways" "firstAct" "[I") (by decide +kernel)) (fun _ h9 => h9) rfl dX2_firstActOf_12 ?_
      refine lv_iload_n hx hb dX2_firstActOf_15 rfl (lv_at hl 1 rfl) ?_
      refine va_iald hx hb hK.1 hP 5 0 rfl rfl (zk_in (N := 1000) rfl c_1 c_2) dX2_firstActOf_16 ?_
      refine lv_goto (tgt := 21) hx hb dX2_firstActOf_17 (by decide) ?_
      have e9 : (f_X2_firstActOf fa p1) = (fa p1.toNatClampNeg) := (f_X2_firstActOf_eq fa p1).trans ((if_neg c_1).trans ((if_neg c_2).trans (rfl)))
      rw [e9]
      exact z_iret F hr hlocks hP hD hS () [0, 1, 2, 3, 4, 5, 6] rfl rfl rfl dX2_firstActOf_21
def f_X2_reach (ds : Nat → Int32) (fa : Nat → Int32) (od : Nat → Int32) (rd : Int32) (p1 : Int32) (p2 : Int32) (p3 : Int32) : (Nat → Int32) × (Nat → Int32) × (Nat → Int32) × Int32 := (if p1 < (0 : Int32) then (ds, fa, od, rd) else (if (1000 : Int32) ≤ p1 then (ds, fa, od, rd) else (if rd < (0 : Int32) then (ds, fa, od, rd) else (if rd < (1000 : Int32) then (if (ds p1.toNatClampNeg) = (-1 : Int32) then ((upd ds p1.toNatClampNeg p2), (upd fa p1.toNatClampNeg p3), (upd od rd.toNatClampNeg p1), (rd + (1 : Int32))) else (ds, fa, od, rd)) else (ds, fa, od, rd)))))
theorem f_X2_reach_eq (ds : Nat → Int32) (fa : Nat → Int32) (od : Nat → Int32) (rd : Int32) (p1 : Int32) (p2 : Int32) (p3 : Int32) : f_X2_reach ds fa od rd p1 p2 p3 = (if p1 < (0 : Int32) then (ds, fa, od, rd) else (if (1000 : Int32) ≤ p1 then (ds, fa, od, rd) else (if rd < (0 : Int32) then (ds, fa, od, rd) else (if rd < (1000 : Int32) then (if (ds p1.toNatClampNeg) = (-1 : Int32) then ((upd ds p1.toNatClampNeg p2), (upd fa p1.toNatClampNeg p3), (upd od rd.toNatClampNeg p1), (rd + (1 : Int32))) else (ds, fa, od, rd)) else (ds, fa, od, rd))))) := rfl
def s_X2_reach (ds : Nat → Int32) (rd : Int32) (p1 : Int32) (p2 : Int32) (p3 : Int32) : Prop := ((p1 < (0 : Int32) → True) ∧ (¬ p1 < (0 : Int32) → (((1000 : Int32) ≤ p1 → True) ∧ (¬ (1000 : Int32) ≤ p1 → ((rd < (0 : Int32) → True) ∧ (¬ rd < (0 : Int32) → ((rd < (1000 : Int32) → (((ds p1.toNatClampNeg) = (-1 : Int32) → vp_in rd 1000) ∧ (¬ (ds p1.toNatClampNeg) = (-1 : Int32) → True))) ∧ (¬ rd < (1000 : Int32) → True))))))))
abbrev rm_X2_reach : Room := { frames := 0, cells := 0, slots := 0, locals := 0 }
theorem zd_X2_reach : yX2_reach.cls = RX2 ∧ yX2_reach.cls ≠ "java/lang/invoke/MethodHandle" ∧ yX2_reach.cls ≠ "java/lang/invoke/VarHandle" ∧ (parseMethodDescriptor yX2_reach.desc).map (fun d => d.parameters.length) = some 3 := by decide +kernel
theorem in_X2_reach_X2 : ∀ w ∈ u_ws RX2 TX2 5, w ∈ wsX2_reach := by decide +kernel
set_option maxHeartbeats 4000000 in
set_option maxRecDepth 100000 in
/-- JarRiddle$Ways.reach(III)V -/
theorem c_X2_reach (l : Launch) (G : zG) (wh sh sv sa wd wf wo : Nat) (vs : Nat → Int32) (as : Nat → Int32) (ds : Nat → Int32) (fa : Nat → Int32) (od : Nat → Int32) (rd : Int32) (p1 : Int32) (p2 : Int32) (p3 : Int32) (hs : s_X2_reach ds rd p1 p2 p3) : zC l G yX2_reach wsX2_reach rm_X2_reach 0 0 [.ref wh, .int p1, .int p2, .int p3] (w_X2 G wh sh sv sa wd wf wo vs as ds fa od rd) none (fun _ : Unit => (w_X2 G wh sh sv sa wd wf wo vs as ((f_X2_reach ds fa od rd p1 p2 p3).1) ((f_X2_reach ds fa od rd p1 p2 p3).2.1) ((f_X2_reach ds fa od rd p1 p2 p3).2.2.1) ((f_X2_reach ds fa od rd p1 p2 p3).2.2.2))) := by
  refine z_of (cc := cX2_reach) (maxL := 4) (ret := none) (own := RX2) (by decide) rfl rfl (Nat.le_of_ble_eq_true rfl) ?_
  intro p e s m args below meth c A H locs ls F hr hlocks hname hK hA hP hD hS hl
  obtain ⟨hx, hb, hml, hown, hts⟩ := id F
  have hl : lv_has ls 4 [(0, .ref wh), (1, .int p1), (2, .int p2), (3, .int p3)] := hl
  have hs : ((p1 < (0 : Int32) → True) ∧ (¬ p1 < (0 : Int32) → (((1000 : Int32) ≤ p1 → True) ∧ (¬ (1000 : Int32) ≤ p1 → ((rd < (0 : Int32) → True) ∧ (¬ rd < (0 : Int32) → ((rd < (1000 : Int32) → (((ds p1.toNatClampNeg) = (-1 : Int32) → vp_in rd 1000) ∧ (¬ (ds p1.toNatClampNeg) = (-1 : Int32) → True))) ∧ (¬ rd < (1000 : Int32) → True)))))))) := hs
  refine lv_iload_n hx hb dX2_reach_0 rfl (lv_at hl 1 rfl) ?_
  refine lv_if_lt (tgt := 28) hx hb dX2_reach_1 (by decide) (fun (c_1 : p1 < (0 : Int32)) => ?_) (fun (c_1 : ¬ p1 < (0 : Int32)) => ?_)
  · have e9 : (f_X2_reach ds fa od rd p1 p2 p3) = (ds, fa, od, rd) := (f_X2_reach_eq ds fa od rd p1 p2 p3).trans ((if_pos c_1).trans (rfl))
    rw [e9]
    dsimp only
    exact z_vret F hr hlocks hP hD hS () [0, 1, 2, 3, 4, 5, 6] rfl rfl rfl dX2_reach_28
  · have hs := hs.2 c_1
    refine lv_iload_n hx hb dX2_reach_4 rfl (lv_at hl 1 rfl) ?_
    refine lv_sipush (v := (1000 : Int32)) hx hb dX2_reach_5 (by decide) ?_
    refine lv_icmp_ge (tgt := 28) hx hb dX2_reach_8 (by decide) (fun (c_2 : (1000 : Int32) ≤ p1) => ?_) (fun (c_2 : ¬ (1000 : Int32) ≤ p1) => ?_)
    · have e9 : (f_X2_reach ds fa od rd p1 p2 p3) = (ds, fa, od, rd) := (f_X2_reach_eq ds fa od rd p1 p2 p3).trans ((if_neg c_1).trans ((if_pos c_2).trans (rfl)))
      rw [e9]
      dsimp only
      exact z_vret F hr hlocks hP hD hS () [0, 1, 2, 3, 4, 5, 6] rfl rfl rfl dX2_reach_28
    · have hs := hs.2 c_2
      refine lv_aload_n hx hb dX2_reach_11 rfl (lv_at hl 0 rfl) ?_
      refine va_get (D := G.1) (ci := 2) (v := .int rd) (C := RX2) (T := TX2) (N := 5) hx hb hts in_X2_reach_X2 hown hK.1 hP 0 rfl rfl 4 (by decide) (hts (.fieldLink RX2 28 "JarRiddle$Ways" "reached" "I") (by decide +kernel)) (fun _ h9 => h9) rfl dX2_reach_12 ?_
      refine lv_if_lt (tgt := 28) hx hb dX2_reach_15 (by decide) (fun (c_3 : rd < (0 : Int32)) => ?_) (fun (c_3 : ¬ rd < (0 : Int32)) => ?_)
      · have e9 : (f_X2_reach ds fa od rd p1 p2 p3) = (ds, fa, od, rd) := (f_X2_reach_eq ds fa od rd p1 p2 p3).trans ((if_neg c_1).trans ((if_neg c_2).trans ((if_pos c_3).trans (rfl))))
        rw [e9]
        dsimp only
        exact z_vret F hr hlocks hP hD hS () [0, 1, 2, 3, 4, 5, 6] rfl rfl rfl dX2_reach_28
      · have hs := hs.2 c_3
        refine lv_aload_n hx hb dX2_reach_18 rfl (lv_at hl 0 rfl) ?_
        refine va_get (D := G.1) (ci := 2) (v := .int rd) (C := RX2) (T := TX2) (N := 5) hx hb hts in_X2_reach_X2 hown hK.1 hP 0 rfl rfl 4 (by decide) (hts (.fieldLink RX2 28 "JarRiddle$Ways" "reached" "I") (by decide +kernel)) (fun _ h9 => h9) rfl dX2_reach_19 ?_
        refine lv_sipush (v := (1000 : Int32)) hx hb dX2_reach_22 (by decide) ?_
        refine lv_icmp_lt (tgt := 29) hx hb dX2_reach_25 (by decide) (fun (c_4 : rd < (1000 : Int32)) => ?_) (fun (c_4 : ¬ rd < (1000 : Int32)) => ?_)
        · have hs := hs.1 c_4
          refine lv_aload_n hx hb dX2_reach_29 rfl (lv_at hl 0 rfl) ?_
          refine va_get (D := G.1) (ci := 2) (v := .ref wd) (C := RX2) (T := TX2) (N := 5) hx hb hts in_X2_reach_X2 hown hK.1 hP 0 rfl rfl 1 (by decide) (hts (.fieldLink RX2 18 "JarRiddle$Ways" "distance" "[I") (by decide +kernel)) (fun _ h9 => h9) rfl dX2_reach_30 ?_
          refine lv_iload_n hx hb dX2_reach_33 rfl (lv_at hl 1 rfl) ?_
          refine va_iald hx hb hK.1 hP 4 0 rfl rfl (zk_in (N := 1000) rfl c_1 c_2) dX2_reach_34 ?_
          refine lv_iconst (v := (-1 : Int32)) hx hb dX2_reach_35 (by decide) ?_
          refine lv_icmp_ne (tgt := 73) hx hb dX2_reach_36 (by decide) (fun (c_5 : ¬ (ds p1.toNatClampNeg) = (-1 : Int32)) => ?_) (fun (c_5 : (ds p1.toNatClampNeg) = (-1 : Int32)) => ?_)
          · have e9 : (f_X2_reach ds fa od rd p1 p2 p3) = (ds, fa, od, rd) := (f_X2_reach_eq ds fa od rd p1 p2 p3).trans ((if_neg c_1).trans ((if_neg c_2).trans ((if_neg c_3).trans ((if_pos c_4).trans ((if_neg c_5).trans (rfl))))))
            rw [e9]
            dsimp only
            exact z_vret F hr hlocks hP hD hS () [0, 1, 2, 3, 4, 5, 6] rfl rfl rfl dX2_reach_73
          · have hs := hs.1 c_5
            refine lv_aload_n hx hb dX2_reach_39 rfl (lv_at hl 0 rfl) ?_
            refine va_get (D := G.1) (ci := 2) (v := .ref wd) (C := RX2) (T := TX2) (N := 5) hx hb hts in_X2_reach_X2 hown hK.1 hP 0 rfl rfl 1 (by decide) (hts (.fieldLink RX2 18 "JarRiddle$Ways" "distance" "[I") (by decide +kernel)) (fun _ h9 => h9) rfl dX2_reach_40 ?_
            refine lv_iload_n hx hb dX2_reach_43 rfl (lv_at hl 1 rfl) ?_
            refine lv_iload_n hx hb dX2_reach_44 rfl (lv_at hl 2 rfl) ?_
            refine va_iast hx hb hK.1 hP hD hS 4 0 rfl rfl (zk_in (N := 1000) rfl c_1 c_2) dX2_reach_45 (fun H locs hP hD hS => ?_)
            have hP : va_P G.1 vwCl (w_X2 G wh sh sv sa wd wf wo vs as (upd ds p1.toNatClampNeg p2) fa od rd) H := hP
            have hD : va_D A (w_X2 G wh sh sv sa wd wf wo vs as (upd ds p1.toNatClampNeg p2) fa od rd) := hD
            refine lv_aload_n hx hb dX2_reach_46 rfl (lv_at hl 0 rfl) ?_
            refine va_get (D := G.1) (ci := 2) (v := .ref wf) (C := RX2) (T := TX2) (N := 5) hx hb hts in_X2_reach_X2 hown hK.1 hP 0 rfl rfl 2 (by decide) (hts (.fieldLink RX2 22 "JarRiddle$Ways" "firstAct" "[I") (by decide +kernel)) (fun _ h9 => h9) rfl dX2_reach_47 ?_
            refine lv_iload_n hx hb dX2_reach_50 rfl (lv_at hl 1 rfl) ?_
            refine lv_iload_n hx hb dX2_reach_51 rfl (lv_at hl 3 rfl) ?_
            refine va_iast hx hb hK.1 hP hD hS 5 0 rfl rfl (zk_in (N := 1000) rfl c_1 c_2) dX2_reach_52 (fun H locs hP hD hS => ?_)
            have hP : va_P G.1 vwCl (w_X2 G wh sh sv sa wd wf wo vs as (upd ds p1.toNatClampNeg p2) (upd fa p1.toNatClampNeg p3) od rd) H := hP
            have hD : va_D A (w_X2 G wh sh sv sa wd wf wo vs as (upd ds p1.toNatClampNeg p2) (upd fa p1.toNatClampNeg p3) od rd) := hD
            refine lv_aload_n hx hb dX2_reach_53 rfl (lv_at hl 0 rfl) ?_
            refine va_get (D := G.1) (ci := 2) (v := .ref wo) (C := RX2) (T := TX2) (N := 5) hx hb hts in_X2_reach_X2 hown hK.1 hP 0 rfl rfl 3 (by decide) (hts (.fieldLink RX2 25 "JarRiddle$Ways" "order" "[I") (by decide +kernel)) (fun _ h9 => h9) rfl dX2_reach_54 ?_
            refine lv_aload_n hx hb dX2_reach_57 rfl (lv_at hl 0 rfl) ?_
            refine va_get (D := G.1) (ci := 2) (v := .int rd) (C := RX2) (T := TX2) (N := 5) hx hb hts in_X2_reach_X2 hown hK.1 hP 0 rfl rfl 4 (by decide) (hts (.fieldLink RX2 28 "JarRiddle$Ways" "reached" "I") (by decide +kernel)) (fun _ h9 => h9) rfl dX2_reach_58 ?_
            refine lv_iload_n hx hb dX2_reach_61 rfl (lv_at hl 1 rfl) ?_
            have h_6 := hs
            refine va_iast hx hb hK.1 hP hD hS 6 0 rfl rfl h_6 dX2_reach_62 (fun H locs hP hD hS => ?_)
            have hP : va_P G.1 vwCl (w_X2 G wh sh sv sa wd wf wo vs as (upd ds p1.toNatClampNeg p2) (upd fa p1.toNatClampNeg p3) (upd od rd.toNatClampNeg p1) rd) H := hP
            have hD : va_D A (w_X2 G wh sh sv sa wd wf wo vs as (upd ds p1.toNatClampNeg p2) (upd fa p1.toNatClampNeg p3) (upd od rd.toNatClampNeg p1) rd) := hD
            refine lv_aload_n hx hb dX2_reach_63 rfl (lv_at hl 0 rfl) ?_
            refine lv_dup hx hb dX2_reach_64 rfl ?_
            refine va_get (D := G.1) (ci := 2) (v := .int rd) (C := RX2) (T := TX2) (N := 5) hx hb hts in_X2_reach_X2 hown hK.1 hP 0 rfl rfl 4 (by decide) (hts (.fieldLink RX2 28 "JarRiddle$Ways" "reached" "I") (by decide +kernel)) (fun _ h9 => h9) rfl dX2_reach_65 ?_
            refine lv_iconst (v := (1 : Int32)) hx hb dX2_reach_68 (by decide) ?_
            refine lv_iadd hx hb dX2_reach_69 ?_
            refine va_put (D := G.1) (ci := 2) (v := .int (rd + (1 : Int32))) (ty := .int) (C := RX2) (T := TX2) (N := 5) hx hb hts in_X2_reach_X2 tyX2 tyX2_ok nmX2 hown hK.1 hP hD hS 0 rfl rfl 4 (by decide) (hts (.fieldLink RX2 28 "JarRiddle$Ways" "reached" "I") (by decide +kernel)) (fun _ h9 => h9) rfl (by decide +kernel) rfl rfl (Nat.le_of_ble_eq_true rfl) dX2_reach_70 (fun H locs hP hD hS => ?_)
            have hP : va_P G.1 vwCl (w_X2 G wh sh sv sa wd wf wo vs as (upd ds p1.toNatClampNeg p2) (upd fa p1.toNatClampNeg p3) (upd od rd.toNatClampNeg p1) (rd + (1 : Int32))) H := hP
            have hD : va_D A (w_X2 G wh sh sv sa wd wf wo vs as (upd ds p1.toNatClampNeg p2) (upd fa p1.toNatClampNeg p3) (upd od rd.toNatClampNeg p1) (rd + (1 : Int32))) := hD
            have e9 : (f_X2_reach ds fa od rd p1 p2 p3) = ((upd ds p1.toNatClampNeg p2), (upd fa p1.toNatClampNeg p3), (upd od rd.toNatClampNeg p1), (rd + (1 : Int32))) := (f_X2_reach_eq ds fa od rd p1 p2 p3).trans ((if_neg c_1).trans ((if_neg c_2).trans ((if_neg c_3).trans ((if_pos c_4).trans ((if_pos c_5).trans (rfl))))))
            rw [e9]
            dsimp only
            exact z_vret F hr hlocks hP hD hS () [0, 1, 2, 3, 4, 5, 6] rfl rfl rfl dX2_reach_73
        · have e9 : (f_X2_reach ds fa od rd p1 p2 p3) = (ds, fa, od, rd) := (f_X2_reach_eq ds fa od rd p1 p2 p3).trans ((if_neg c_1).trans ((if_neg c_2).trans ((if_neg c_3).trans ((if_neg c_4).trans (rfl)))))
          rw [e9]
          dsimp only
          exact z_vret F hr hlocks hP hD hS () [0, 1, 2, 3, 4, 5, 6] rfl rfl rfl dX2_reach_28
def lf_X2_spread_8 : Nat → Nat → (Nat → Int32) → (Nat → Int32) → (Nat → Int32) → (Nat → Int32) → (Nat → Int32) → Int32 → Int32 → Int32 → (Nat → Int32) × (Nat → Int32) × (Nat → Int32) × (Nat → Int32) × Int32
  | 0, k, vs, as, ds, fa, od, rd, x1, x2 => (as, ds, fa, od, rd)
  | n + 1, k, vs, as, ds, fa, od, rd, x1, x2 => (if (15 : Int32) ≤ (nI k) then (as, ds, fa, od, rd) else (if (f_X1_allows vs (nI k)) = (0 : Int32) then (lf_X2_spread_8 n (k + 1) vs as ds fa od rd x1 x2) else (if x2 = (0 : Int32) then (lf_X2_spread_8 n (k + 1) vs ((f_X1_change vs (f_X1_hold as x1) (nI k)).2) ((f_X2_reach ds fa od rd (f_X1_state ((f_X1_change vs (f_X1_hold as x1) (nI k)).2)) (x2 + (1 : Int32)) (nI k)).1) ((f_X2_reach ds fa od rd (f_X1_state ((f_X1_change vs (f_X1_hold as x1) (nI k)).2)) (x2 + (1 : Int32)) (nI k)).2.1) ((f_X2_reach ds fa od rd (f_X1_state ((f_X1_change vs (f_X1_hold as x1) (nI k)).2)) (x2 + (1 : Int32)) (nI k)).2.2.1) ((f_X2_reach ds fa od rd (f_X1_state ((f_X1_change vs (f_X1_hold as x1) (nI k)).2)) (x2 + (1 : Int32)) (nI k)).2.2.2) x1 x2) else (lf_X2_spread_8 n (k + 1) vs ((f_X1_change vs (f_X1_hold as x1) (nI k)).2) ((f_X2_reach ds fa od rd (f_X1_state ((f_X1_change vs (f_X1_hold as x1) (nI k)).2)) (x2 + (1 : Int32)) (f_X2_firstActOf fa x1)).1) ((f_X2_reach ds fa od rd (f_X1_state ((f_X1_change vs (f_X1_hold as x1) (nI k)).2)) (x2 + (1 : Int32)) (f_X2_firstActOf fa x1)).2.1) ((f_X2_reach ds fa od rd (f_X1_state ((f_X1_change vs (f_X1_hold as x1) (nI k)).2)) (x2 + (1 : Int32)) (f_X2_firstActOf fa x1)).2.2.1) ((f_X2_reach ds fa od rd (f_X1_state ((f_X1_change vs (f_X1_hold as x1) (nI k)).2)) (x2 + (1 : Int32)) (f_X2_firstActOf fa x1)).2.2.2) x1 x2))))
theorem lf_X2_spread_8_succ (n k : Nat) (vs : Nat → Int32) (as : Nat → Int32) (ds : Nat → Int32) (fa : Nat → Int32) (od : Nat → Int32) (rd : Int32) (x1 : Int32) (x2 : Int32) : lf_X2_spread_8 (n + 1) k vs as ds fa od rd x1 x2 = (if (15 : Int32) ≤ (nI k) then (as, ds, fa, od, rd) else (if (f_X1_allows vs (nI k)) = (0 : Int32) then (lf_X2_spread_8 n (k + 1) vs as ds fa od rd x1 x2) else (if x2 = (0 : Int32) then (lf_X2_spread_8 n (k + 1) vs ((f_X1_change vs (f_X1_hold as x1) (nI k)).2) ((f_X2_reach ds fa od rd (f_X1_state ((f_X1_change vs (f_X1_hold as x1) (nI k)).2)) (x2 + (1 : Int32)) (nI k)).1) ((f_X2_reach ds fa od rd (f_X1_state ((f_X1_change vs (f_X1_hold as x1) (nI k)).2)) (x2 + (1 : Int32)) (nI k)).2.1) ((f_X2_reach ds fa od rd (f_X1_state ((f_X1_change vs (f_X1_hold as x1) (nI k)).2)) (x2 + (1 : Int32)) (nI k)).2.2.1) ((f_X2_reach ds fa od rd (f_X1_state ((f_X1_change vs (f_X1_hold as x1) (nI k)).2)) (x2 + (1 : Int32)) (nI k)).2.2.2) x1 x2) else (lf_X2_spread_8 n (k + 1) vs ((f_X1_change vs (f_X1_hold as x1) (nI k)).2) ((f_X2_reach ds fa od rd (f_X1_state ((f_X1_change vs (f_X1_hold as x1) (nI k)).2)) (x2 + (1 : Int32)) (f_X2_firstActOf fa x1)).1) ((f_X2_reach ds fa od rd (f_X1_state ((f_X1_change vs (f_X1_hold as x1) (nI k)).2)) (x2 + (1 : Int32)) (f_X2_firstActOf fa x1)).2.1) ((f_X2_reach ds fa od rd (f_X1_state ((f_X1_change vs (f_X1_hold as x1) (nI k)).2)) (x2 + (1 : Int32)) (f_X2_firstActOf fa x1)).2.2.1) ((f_X2_reach ds fa od rd (f_X1_state ((f_X1_change vs (f_X1_hold as x1) (nI k)).2)) (x2 + (1 : Int32)) (f_X2_firstActOf fa x1)).2.2.2) x1 x2)))) := rfl
def f_X2_spread (vs : Nat → Int32) (as : Nat → Int32) (ds : Nat → Int32) (fa : Nat → Int32) (od : Nat → Int32) (rd : Int32) (p1 : Int32) : (Nat → Int32) × (Nat → Int32) × (Nat → Int32) × (Nat → Int32) × Int32 := ((lf_X2_spread_8 16 0 vs as ds fa od rd p1 (f_X2_distanceOf ds p1)).1, (lf_X2_spread_8 16 0 vs as ds fa od rd p1 (f_X2_distanceOf ds p1)).2.1, (lf_X2_spread_8 16 0 vs as ds fa od rd p1 (f_X2_distanceOf ds p1)).2.2.1, (lf_X2_spread_8 16 0 vs as ds fa od rd p1 (f_X2_distanceOf ds p1)).2.2.2.1, (lf_X2_spread_8 16 0 vs as ds fa od rd p1 (f_X2_distanceOf ds p1)).2.2.2.2)
theorem f_X2_spread_eq (vs : Nat → Int32) (as : Nat → Int32) (ds : Nat → Int32) (fa : Nat → Int32) (od : Nat → Int32) (rd : Int32) (p1 : Int32) : f_X2_spread vs as ds fa od rd p1 = ((lf_X2_spread_8 16 0 vs as ds fa od rd p1 (f_X2_distanceOf ds p1)).1, (lf_X2_spread_8 16 0 vs as ds fa od rd p1 (f_X2_distanceOf ds p1)).2.1, (lf_X2_spread_8 16 0 vs as ds fa od rd p1 (f_X2_distanceOf ds p1)).2.2.1, (lf_X2_spread_8 16 0 vs as ds fa od rd p1 (f_X2_distanceOf ds p1)).2.2.2.1, (lf_X2_spread_8 16 0 vs as ds fa od rd p1 (f_X2_distanceOf ds p1)).2.2.2.2) := rfl
def sf_X2_spread_8 : Nat → Nat → (Nat → Int32) → (Nat → Int32) → (Nat → Int32) → (Nat → Int32) → (Nat → Int32) → Int32 → Int32 → Int32 → Prop
  | 0, k, vs, as, ds, fa, od, rd, x1, x2 => True
  | n + 1, k, vs, as, ds, fa, od, rd, x1, x2 => (((15 : Int32) ≤ (nI k) → True) ∧ (¬ (15 : Int32) ≤ (nI k) → (((f_X1_allows vs (nI k)) = (0 : Int32) → (sf_X2_spread_8 n (k + 1) vs as ds fa od rd x1 x2)) ∧ (¬ (f_X1_allows vs (nI k)) = (0 : Int32) → ((x2 = (0 : Int32) → (s_X2_reach ds rd (f_X1_state ((f_X1_change vs (f_X1_hold as x1) (nI k)).2)) (x2 + (1 : Int32)) (nI k)) ∧ (sf_X2_spread_8 n (k + 1) vs ((f_X1_change vs (f_X1_hold as x1) (nI k)).2) ((f_X2_reach ds fa od rd (f_X1_state ((f_X1_change vs (f_X1_hold as x1) (nI k)).2)) (x2 + (1 : Int32)) (nI k)).1) ((f_X2_reach ds fa od rd (f_X1_state ((f_X1_change vs (f_X1_hold as x1) (nI k)).2)) (x2 + (1 : Int32)) (nI k)).2.1) ((f_X2_reach ds fa od rd (f_X1_state ((f_X1_change vs (f_X1_hold as x1) (nI k)).2)) (x2 + (1 : Int32)) (nI k)).2.2.1) ((f_X2_reach ds fa od rd (f_X1_state ((f_X1_change vs (f_X1_hold as x1) (nI k)).2)) (x2 + (1 : Int32)) (nI k)).2.2.2) x1 x2)) ∧ (¬ x2 = (0 : Int32) → (s_X2_reach ds rd (f_X1_state ((f_X1_change vs (f_X1_hold as x1) (nI k)).2)) (x2 + (1 : Int32)) (f_X2_firstActOf fa x1)) ∧ (sf_X2_spread_8 n (k + 1) vs ((f_X1_change vs (f_X1_hold as x1) (nI k)).2) ((f_X2_reach ds fa od rd (f_X1_state ((f_X1_change vs (f_X1_hold as x1) (nI k)).2)) (x2 + (1 : Int32)) (f_X2_firstActOf fa x1)).1) ((f_X2_reach ds fa od rd (f_X1_state ((f_X1_change vs (f_X1_hold as x1) (nI k)).2)) (x2 + (1 : Int32)) (f_X2_firstActOf fa x1)).2.1) ((f_X2_reach ds fa od rd (f_X1_state ((f_X1_change vs (f_X1_hold as x1) (nI k)).2)) (x2 + (1 : Int32)) (f_X2_firstActOf fa x1)).2.2.1) ((f_X2_reach ds fa od rd (f_X1_state ((f_X1_change vs (f_X1_hold as x1) (nI k)).2)) (x2 + (1 : Int32)) (f_X2_firstActOf fa x1)).2.2.2) x1 x2)))))))
theorem sf_X2_spread_8_succ (n k : Nat) (vs : Nat → Int32) (as : Nat → Int32) (ds : Nat → Int32) (fa : Nat → Int32) (od : Nat → Int32) (rd : Int32) (x1 : Int32) (x2 : Int32) : sf_X2_spread_8 (n + 1) k vs as ds fa od rd x1 x2 = ((((15 : Int32) ≤ (nI k) → True) ∧ (¬ (15 : Int32) ≤ (nI k) → (((f_X1_allows vs (nI k)) = (0 : Int32) → (sf_X2_spread_8 n (k + 1) vs as ds fa od rd x1 x2)) ∧ (¬ (f_X1_allows vs (nI k)) = (0 : Int32) → ((x2 = (0 : Int32) → (s_X2_reach ds rd (f_X1_state ((f_X1_change vs (f_X1_hold as x1) (nI k)).2)) (x2 + (1 : Int32)) (nI k)) ∧ (sf_X2_spread_8 n (k + 1) vs ((f_X1_change vs (f_X1_hold as x1) (nI k)).2) ((f_X2_reach ds fa od rd (f_X1_state ((f_X1_change vs (f_X1_hold as x1) (nI k)).2)) (x2 + (1 : Int32)) (nI k)).1) ((f_X2_reach ds fa od rd (f_X1_state ((f_X1_change vs (f_X1_hold as x1) (nI k)).2)) (x2 + (1 : Int32)) (nI k)).2.1) ((f_X2_reach ds fa od rd (f_X1_state ((f_X1_change vs (f_X1_hold as x1) (nI k)).2)) (x2 + (1 : Int32)) (nI k)).2.2.1) ((f_X2_reach ds fa od rd (f_X1_state ((f_X1_change vs (f_X1_hold as x1) (nI k)).2)) (x2 + (1 : Int32)) (nI k)).2.2.2) x1 x2)) ∧ (¬ x2 = (0 : Int32) → (s_X2_reach ds rd (f_X1_state ((f_X1_change vs (f_X1_hold as x1) (nI k)).2)) (x2 + (1 : Int32)) (f_X2_firstActOf fa x1)) ∧ (sf_X2_spread_8 n (k + 1) vs ((f_X1_change vs (f_X1_hold as x1) (nI k)).2) ((f_X2_reach ds fa od rd (f_X1_state ((f_X1_change vs (f_X1_hold as x1) (nI k)).2)) (x2 + (1 : Int32)) (f_X2_firstActOf fa x1)).1) ((f_X2_reach ds fa od rd (f_X1_state ((f_X1_change vs (f_X1_hold as x1) (nI k)).2)) (x2 + (1 : Int32)) (f_X2_firstActOf fa x1)).2.1) ((f_X2_reach ds fa od rd (f_X1_state ((f_X1_change vs (f_X1_hold as x1) (nI k)).2)) (x2 + (1 : Int32)) (f_X2_firstActOf fa x1)).2.2.1) ((f_X2_reach ds fa od rd (f_X1_state ((f_X1_change vs (f_X1_hold as x1) (nI k)).2)) (x2 + (1 : Int32)) (f_X2_firstActOf fa x1)).2.2.2) x1 x2)))))))) := rfl
def s_X2_spread (vs : Nat → Int32) (as : Nat → Int32) (ds : Nat → Int32) (fa : Nat → Int32) (od : Nat → Int32) (rd : Int32) (p1 : Int32) : Prop := (sf_X2_spread_8 16 0 vs as ds fa od rd p1 (f_X2_distanceOf ds p1))
abbrev rm_X2_spread : Room := { frames := 2, cells := 0, slots := 0, locals := 46 }
theorem zd_X2_spread : yX2_spread.cls = RX2 ∧ yX2_spread.cls ≠ "java/lang/invoke/MethodHandle" ∧ yX2_spread.cls ≠ "java/lang/invoke/VarHandle" ∧ (parseMethodDescriptor yX2_spread.desc).map (fun d => d.parameters.length) = some 1 := by decide +kernel
theorem in_X2_spread_X2 : ∀ w ∈ u_ws RX2 TX2 5, w ∈ wsX2_spread := by decide +kernel
set_option maxHeartbeats 4000000 in
set_option maxRecDepth 100000 in
theorem l_X2_spread_8 {p : Program} {l : Launch} {e : Env} {s : State} {m : MethodId} {args : Array Value} {below : List Frame} {meth : Method} {c : Code} {A : Nat → Prop} {Q : State → Prop} {G : zG} (F : CallFix p m c cX2_spread 4 s args wsX2_spread RX2) (hr : meth.sig.returnType = none) (hlocks : meth.locks = false) (hK : zK G s) (hA : ∀ q : Nat, s.heap.size ≤ q → A q) (wh sh sv sa wd wf wo : Nat) :
    ∀ (n k : Nat) (vs : Nat → Int32) (as : Nat → Int32) (ds : Nat → Int32) (fa : Nat → Int32) (od : Nat → Int32) (rd : Int32) (x1 : Int32) (x2 : Int32), k + n = 15 + 1 → k ≤ 15 → (sf_X2_spread_8 n k vs as ds fa od rd x1 x2) → ∀ (H : Heap) (locs : List Loc) (ls : Array Slot), va_P G.1 vwCl (w_X2 G wh sh sv sa wd wf wo vs as ds fa od rd) H → va_D A (w_X2 G wh sh sv sa wd wf wo vs as ds fa od rd) → va_S A s.heap H locs → lv_has ls 4 [(0, .ref wh), (1, .int x1), (2, .int x2), (3, .int (nI k))] → (∀ (H : Heap) (locs : List Loc) (ls : Array Slot), va_P G.1 vwCl (w_X2 G wh sh sv sa wd wf wo vs ((lf_X2_spread_8 n k vs as ds fa od rd x1 x2).1) ((lf_X2_spread_8 n k vs as ds fa od rd x1 x2).2.1) ((lf_X2_spread_8 n k vs as ds fa od rd x1 x2).2.2.1) ((lf_X2_spread_8 n k vs as ds fa od rd x1 x2).2.2.2.1) ((lf_X2_spread_8 n k vs as ds fa od rd x1 x2).2.2.2.2)) H → va_D A (w_X2 G wh sh sv sa wd wf wo vs ((lf_X2_spread_8 n k vs as ds fa od rd x1 x2).1) ((lf_X2_spread_8 n k vs as ds fa od rd x1 x2).2.1) ((lf_X2_spread_8 n k vs as ds fa od rd x1 x2).2.2.1) ((lf_X2_spread_8 n k vs as ds fa od rd x1 x2).2.2.2.1) ((lf_X2_spread_8 n k vs as ds fa od rd x1 x2).2.2.2.2)) → va_S A s.heap H locs → lv_has ls 4 [] → W p l e rm_X2_spread s m args below meth c H locs 0 0 Q (F0 m 75 ls [])) → W p l e rm_X2_spread s m args below meth c H locs 0 0 Q (F0 m 8 ls []) := by
  obtain ⟨hx, hb, hml, hown, hts⟩ := id F
  intro n
  induction n with
  | zero => intro k vs as ds fa od rd x1 x2 h1 h2; omega
  | succ n IH9 =>
    intro k vs as ds fa od rd x1 x2 hkn hkN hs H locs ls hP hD hS hl kk
    have hs : (((15 : Int32) ≤ (nI k) → True) ∧ (¬ (15 : Int32) ≤ (nI k) → (((f_X1_allows vs (nI k)) = (0 : Int32) → (sf_X2_spread_8 n (k + 1) vs as ds fa od rd x1 x2)) ∧ (¬ (f_X1_allows vs (nI k)) = (0 : Int32) → ((x2 = (0 : Int32) → (s_X2_reach ds rd (f_X1_state ((f_X1_change vs (f_X1_hold as x1) (nI k)).2)) (x2 + (1 : Int32)) (nI k)) ∧ (sf_X2_spread_8 n (k + 1) vs ((f_X1_change vs (f_X1_hold as x1) (nI k)).2) ((f_X2_reach ds fa od rd (f_X1_state ((f_X1_change vs (f_X1_hold as x1) (nI k)).2)) (x2 + (1 : Int32)) (nI k)).1) ((f_X2_reach ds fa od rd (f_X1_state ((f_X1_change vs (f_X1_hold as x1) (nI k)).2)) (x2 + (1 : Int32)) (nI k)).2.1) ((f_X2_reach ds fa od rd (f_X1_state ((f_X1_change vs (f_X1_hold as x1) (nI k)).2)) (x2 + (1 : Int32)) (nI k)).2.2.1) ((f_X2_reach ds fa od rd (f_X1_state ((f_X1_change vs (f_X1_hold as x1) (nI k)).2)) (x2 + (1 : Int32)) (nI k)).2.2.2) x1 x2)) ∧ (¬ x2 = (0 : Int32) → (s_X2_reach ds rd (f_X1_state ((f_X1_change vs (f_X1_hold as x1) (nI k)).2)) (x2 + (1 : Int32)) (f_X2_firstActOf fa x1)) ∧ (sf_X2_spread_8 n (k + 1) vs ((f_X1_change vs (f_X1_hold as x1) (nI k)).2) ((f_X2_reach ds fa od rd (f_X1_state ((f_X1_change vs (f_X1_hold as x1) (nI k)).2)) (x2 + (1 : Int32)) (f_X2_firstActOf fa x1)).1) ((f_X2_reach ds fa od rd (f_X1_state ((f_X1_change vs (f_X1_hold as x1) (nI k)).2)) (x2 + (1 : Int32)) (f_X2_firstActOf fa x1)).2.1) ((f_X2_reach ds fa od rd (f_X1_state ((f_X1_change vs (f_X1_hold as x1) (nI k)).2)) (x2 + (1 : Int32)) (f_X2_firstActOf fa x1)).2.2.1) ((f_X2_reach ds fa od rd (f_X1_state ((f_X1_change vs (f_X1_hold as x1) (nI k)).2)) (x2 + (1 : Int32)) (f_X2_firstActOf fa x1)).2.2.2) x1 x2))))))) := hs
    refine lv_iload_n hx hb dX2_spread_8 rfl (lv_at hl 3 rfl) ?_
    refine lv_bipush (v := (15 : Int32)) hx hb dX2_spread_9 (by decide) ?_
    refine lv_icmp_ge (tgt := 75) hx hb dX2_spread_11 (by decide) (fun (c_1 : (15 : Int32) ≤ (nI k)) => ?_) (fun (c_1 : ¬ (15 : Int32) ≤ (nI k)) => ?_)
    · have e9 : (lf_X2_spread_8 (n + 1) k vs as ds fa od rd x1 x2) = (as, ds, fa, od, rd) := (lf_X2_spread_8_succ n k vs as ds fa od rd x1 x2).trans ((if_pos c_1).trans (rfl))
      rw [e9] at kk
      dsimp only at kk
      exact kk H locs ls hP hD hS (lv_sub hl [] rfl)
    · have hs := hs.2 c_1
      refine lv_aload_n hx hb dX2_spread_14 rfl (lv_at hl 0 rfl) ?_
      refine va_get (D := G.1) (ci := 2) (v := .ref sh) (C := RX2) (T := TX2) (N := 5) hx hb hts in_X2_spread_X2 hown hK.1 hP 0 rfl rfl 0 (by decide) (hts (.fieldLink RX2 12 "JarRiddle$Ways" "step" "LJarRiddle$Row;") (by decide +kernel)) (fun _ h9 => h9) rfl dX2_spread_15 ?_
      refine lv_iload_n hx hb dX2_spread_18 rfl (lv_at hl 3 rfl) ?_
      refine z_callV (As := [.int (nI k)]) (rest := []) (wr := ([(wh, .inr (2, [.ref sh, .ref wd, .ref wf, .ref wo, .int rd])), (wd, .inl (G.2.1, 1000, .inl ds)), (wf, .inl (G.2.1, 1000, .inl fa)), (wo, .inl (G.2.1, 1000, .inl od))] : va_W)) (w1 := fun _ : Unit => (w_X1 G sh sv sa vs as)) (wj := fun _ : Unit => (w_X2 G wh sh sv sa wd wf wo vs as ds fa od rd)) (ci := 1) (q0 := 1) F (c_X1_allows l G sh sv sa vs as (nI k)) gX2_spread_X1_allows rfl rfl rfl zd_X1_allows ⟨Nat.le_of_ble_eq_true rfl, Nat.le_of_ble_eq_true rfl⟩ rfl rfl (Nat.le_of_ble_eq_true rfl) dX2_spread_19 ⟨Nat.le_of_ble_eq_true rfl, Nat.le_of_ble_eq_true rfl⟩ hK hP hD hS hA hl.1 rfl rfl [1, 2, 3] [0, 4, 5, 6] [0, 4, 5, 6, 1, 2, 3] rfl rfl rfl rfl (by decide) rfl (fun _ => rfl) (fun _ H locs hP hD hS => ?_)
      have hP : va_P G.1 vwCl (w_X2 G wh sh sv sa wd wf wo vs as ds fa od rd) H := hP
      have hD : va_D A (w_X2 G wh sh sv sa wd wf wo vs as ds fa od rd) := hD
      refine lv_if_eq (tgt := 69) hx hb dX2_spread_22 (by decide) (fun (c_2 : (f_X1_allows vs (nI k)) = (0 : Int32)) => ?_) (fun (c_2 : ¬ (f_X1_allows vs (nI k)) = (0 : Int32)) => ?_)
      · have hs := hs.1 c_2
        refine lv_iinc (v := (nI (k + 1))) (lv' := [(3, .int (nI (k + 1))), (0, .ref wh), (1, .int x1), (2, .int x2)]) hx hb dX2_spread_69 hl (k := 3) rfl (nI_1 k) (by decide) rfl (fun ls hl => ?_)
        refine lv_goto (tgt := 8) hx hb dX2_spread_72 (by decide) ?_
        have e9 : (lf_X2_spread_8 (n + 1) k vs as ds fa od rd x1 x2) = (lf_X2_spread_8 n (k + 1) vs as ds fa od rd x1 x2) := (lf_X2_spread_8_succ n k vs as ds fa od rd x1 x2).trans ((if_neg c_1).trans ((if_pos c_2).trans (rfl)))
        rw [e9] at kk
        have h9 := zk_lt (N := 15) (by omega) rfl c_1
        exact IH9 (k + 1) vs as ds fa od rd x1 x2 (by omega) (by omega) hs H locs ls hP hD hS (lv_sub hl [1, 2, 3, 0] rfl) kk
      · have hs := hs.2 c_2
        refine lv_aload_n hx hb dX2_spread_25 rfl (lv_at hl 0 rfl) ?_
        refine va_get (D := G.1) (ci := 2) (v := .ref sh) (C := RX2) (T := TX2) (N := 5) hx hb hts in_X2_spread_X2 hown hK.1 hP 0 rfl rfl 0 (by decide) (hts (.fieldLink RX2 12 "JarRiddle$Ways" "step" "LJarRiddle$Row;") (by decide +kernel)) (fun _ h9 => h9) rfl dX2_spread_26 ?_
        refine lv_iload_n hx hb dX2_spread_29 rfl (lv_at hl 1 rfl) ?_
        refine z_callV (As := [.int x1]) (rest := []) (wr := ([(wh, .inr (2, [.ref sh, .ref wd, .ref wf, .ref wo, .int rd])), (wd, .inl (G.2.1, 1000, .inl ds)), (wf, .inl (G.2.1, 1000, .inl fa)), (wo, .inl (G.2.1, 1000, .inl od))] : va_W)) (w1 := fun _ : Unit => (w_X1 G sh sv sa vs (f_X1_hold as x1))) (wj := fun _ : Unit => (w_X2 G wh sh sv sa wd wf wo vs (f_X1_hold as x1) ds fa od rd)) (ci := 1) (q0 := 1) F (c_X1_hold l G sh sv sa vs as x1) gX2_spread_X1_hold rfl rfl rfl zd_X1_hold ⟨Nat.le_of_ble_eq_true rfl, Nat.le_of_ble_eq_true rfl⟩ rfl rfl (Nat.le_of_ble_eq_true rfl) dX2_spread_30 ⟨Nat.le_of_ble_eq_true rfl, Nat.le_of_ble_eq_true rfl⟩ hK hP hD hS hA hl.1 rfl rfl [1, 2, 3] [0, 4, 5, 6] [0, 4, 5, 6, 1, 2, 3] rfl rfl rfl rfl (by decide) rfl (fun _ => rfl) (fun _ H locs hP hD hS => ?_)
        have hP : va_P G.1 vwCl (w_X2 G wh sh sv sa wd wf wo vs (f_X1_hold as x1) ds fa od rd) H := hP
        have hD : va_D A (w_X2 G wh sh sv sa wd wf wo vs (f_X1_hold as x1) ds fa od rd) := hD
        refine lv_aload_n hx hb dX2_spread_33 rfl (lv_at hl 0 rfl) ?_
        refine va_get (D := G.1) (ci := 2) (v := .ref sh) (C := RX2) (T := TX2) (N := 5) hx hb hts in_X2_spread_X2 hown hK.1 hP 0 rfl rfl 0 (by decide) (hts (.fieldLink RX2 12 "JarRiddle$Ways" "step" "LJarRiddle$Row;") (by decide +kernel)) (fun _ h9 => h9) rfl dX2_spread_34 ?_
        refine lv_iload_n hx hb dX2_spread_37 rfl (lv_at hl 3 rfl) ?_
        refine z_callV (As := [.int (nI k)]) (rest := []) (wr := ([(wh, .inr (2, [.ref sh, .ref wd, .ref wf, .ref wo, .int rd])), (wd, .inl (G.2.1, 1000, .inl ds)), (wf, .inl (G.2.1, 1000, .inl fa)), (wo, .inl (G.2.1, 1000, .inl od))] : va_W)) (w1 := fun _ : Unit => (w_X1 G sh sv sa vs ((f_X1_change vs (f_X1_hold as x1) (nI k)).2))) (wj := fun _ : Unit => (w_X2 G wh sh sv sa wd wf wo vs (f_X1_change vs (f_X1_hold as x1) (nI k)).2 ds fa od rd)) (ci := 1) (q0 := 1) F (c_X1_change l G sh sv sa vs (f_X1_hold as x1) (nI k)) gX2_spread_X1_change rfl rfl rfl zd_X1_change ⟨Nat.le_of_ble_eq_true rfl, Nat.le_of_ble_eq_true rfl⟩ rfl rfl (Nat.le_of_ble_eq_true rfl) dX2_spread_38 ⟨Nat.le_of_ble_eq_true rfl, Nat.le_of_ble_eq_true rfl⟩ hK hP hD hS hA hl.1 rfl rfl [1, 2, 3] [0, 4, 5, 6] [0, 4, 5, 6, 1, 2, 3] rfl rfl rfl rfl (by decide) rfl (fun _ => rfl) (fun _ H locs hP hD hS => ?_)
        have hP : va_P G.1 vwCl (w_X2 G wh sh sv sa wd wf wo vs (f_X1_change vs (f_X1_hold as x1) (nI k)).2 ds fa od rd) H := hP
        have hD : va_D A (w_X2 G wh sh sv sa wd wf wo vs (f_X1_change vs (f_X1_hold as x1) (nI k)).2 ds fa od rd) := hD
        refine lv_pop hx hb dX2_spread_41 rfl ?_
        refine lv_aload_n hx hb dX2_spread_42 rfl (lv_at hl 0 rfl) ?_
        refine lv_aload_n hx hb dX2_spread_43 rfl (lv_at hl 0 rfl) ?_
        refine va_get (D := G.1) (ci := 2) (v := .ref sh) (C := RX2) (T := TX2) (N := 5) hx hb hts in_X2_spread_X2 hown hK.1 hP 0 rfl rfl 0 (by decide) (hts (.fieldLink RX2 12 "JarRiddle$Ways" "step" "LJarRiddle$Row;") (by decide +kernel)) (fun _ h9 => h9) rfl dX2_spread_44 ?_
        refine z_callV (As := []) (rest := [.ref wh]) (wr := ([(wh, .inr (2, [.ref sh, .ref wd, .ref wf, .ref wo, .int rd])), (wd, .inl (G.2.1, 1000, .inl ds)), (wf, .inl (G.2.1, 1000, .inl fa)), (wo, .inl (G.2.1, 1000, .inl od))] : va_W)) (w1 := fun _ : Unit => (w_X1 G sh sv sa vs ((f_X1_change vs (f_X1_hold as x1) (nI k)).2))) (wj := fun _ : Unit => (w_X2 G wh sh sv sa wd wf wo vs (f_X1_change vs (f_X1_hold as x1) (nI k)).2 ds fa od rd)) (ci := 1) (q0 := 1) F (c_X1_state l G sh sv sa vs ((f_X1_change vs (f_X1_hold as x1) (nI k)).2)) gX2_spread_X1_state rfl rfl rfl zd_X1_state ⟨Nat.le_of_ble_eq_true rfl, Nat.le_of_ble_eq_true rfl⟩ rfl rfl (Nat.le_of_ble_eq_true rfl) dX2_spread_47 ⟨Nat.le_of_ble_eq_true rfl, Nat.le_of_ble_eq_true rfl⟩ hK hP hD hS hA hl.1 rfl rfl [1, 2, 3] [0, 4, 5, 6] [0, 4, 5, 6, 1, 2, 3] rfl rfl rfl rfl (by decide) rfl (fun _ => rfl) (fun _ H locs hP hD hS => ?_)
        have hP : va_P G.1 vwCl (w_X2 G wh sh sv sa wd wf wo vs (f_X1_change vs (f_X1_hold as x1) (nI k)).2 ds fa od rd) H := hP
        have hD : va_D A (w_X2 G wh sh sv sa wd wf wo vs (f_X1_change vs (f_X1_hold as x1) (nI k)).2 ds fa od rd) := hD
        refine lv_iload_n hx hb dX2_spread_50 rfl (lv_at hl 2 rfl) ?_
        refine lv_iconst (v := (1 : Int32)) hx hb dX2_spread_51 (by decide) ?_
        refine lv_iadd hx hb dX2_spread_52 ?_
        refine lv_iload_n hx hb dX2_spread_53 rfl (lv_at hl 2 rfl) ?_
        refine lv_if_ne (tgt := 61) hx hb dX2_spread_54 (by decide) (fun (c_3 : ¬ x2 = (0 : Int32)) => ?_) (fun (c_3 : x2 = (0 : Int32)) => ?_)
        · have hs := hs.2 c_3
          refine lv_aload_n hx hb dX2_spread_61 rfl (lv_at hl 0 rfl) ?_
          refine lv_iload_n hx hb dX2_spread_62 rfl (lv_at hl 1 rfl) ?_
          refine z_callV (As := [.int x1]) (rest := [.int (x2 + (1 : Int32)), .int (f_X1_state ((f_X1_change vs (f_X1_hold as x1) (nI k)).2)), .ref wh]) (wr := ([] : va_W)) (w1 := fun _ : Unit => (w_X2 G wh sh sv sa wd wf wo vs ((f_X1_change vs (f_X1_hold as x1) (nI k)).2) ds fa od rd)) (wj := fun _ : Unit => (w_X2 G wh sh sv sa wd wf wo vs (f_X1_change vs (f_X1_hold as x1) (nI k)).2 ds fa od rd)) (ci := 2) (q0 := 0) F (c_X2_firstActOf l G wh sh sv sa wd wf wo vs ((f_X1_change vs (f_X1_hold as x1) (nI k)).2) ds fa od rd x1) gX2_spread_X2_firstActOf rfl rfl rfl zd_X2_firstActOf ⟨Nat.le_of_ble_eq_true rfl, Nat.le_of_ble_eq_true rfl⟩ rfl rfl (Nat.le_of_ble_eq_true rfl) dX2_spread_63 ⟨Nat.le_of_ble_eq_true rfl, Nat.le_of_ble_eq_true rfl⟩ hK hP hD hS hA hl.1 rfl rfl [0, 1, 2, 3, 4, 5, 6] [] [0, 1, 2, 3, 4, 5, 6] rfl rfl rfl rfl (by decide) rfl (fun _ => rfl) (fun _ H locs hP hD hS => ?_)
          have hP : va_P G.1 vwCl (w_X2 G wh sh sv sa wd wf wo vs (f_X1_change vs (f_X1_hold as x1) (nI k)).2 ds fa od rd) H := hP
          have hD : va_D A (w_X2 G wh sh sv sa wd wf wo vs (f_X1_change vs (f_X1_hold as x1) (nI k)).2 ds fa od rd) := hD
          obtain ⟨h_4, hs⟩ := hs
          refine z_callV (As := [.int (f_X1_state ((f_X1_change vs (f_X1_hold as x1) (nI k)).2)), .int (x2 + (1 : Int32)), .int (f_X2_firstActOf fa x1)]) (rest := []) (wr := ([] : va_W)) (w1 := fun _ : Unit => (w_X2 G wh sh sv sa wd wf wo vs ((f_X1_change vs (f_X1_hold as x1) (nI k)).2) ((f_X2_reach ds fa od rd (f_X1_state ((f_X1_change vs (f_X1_hold as x1) (nI k)).2)) (x2 + (1 : Int32)) (f_X2_firstActOf fa x1)).1) ((f_X2_reach ds fa od rd (f_X1_state ((f_X1_change vs (f_X1_hold as x1) (nI k)).2)) (x2 + (1 : Int32)) (f_X2_firstActOf fa x1)).2.1) ((f_X2_reach ds fa od rd (f_X1_state ((f_X1_change vs (f_X1_hold as x1) (nI k)).2)) (x2 + (1 : Int32)) (f_X2_firstActOf fa x1)).2.2.1) ((f_X2_reach ds fa od rd (f_X1_state ((f_X1_change vs (f_X1_hold as x1) (nI k)).2)) (x2 + (1 : Int32)) (f_X2_firstActOf fa x1)).2.2.2))) (wj := fun _ : Unit => (w_X2 G wh sh sv sa wd wf wo vs (f_X1_change vs (f_X1_hold as x1) (nI k)).2 (f_X2_reach ds fa od rd (f_X1_state ((f_X1_change vs (f_X1_hold as x1) (nI k)).2)) (x2 + (1 : Int32)) (f_X2_firstActOf fa x1)).1 (f_X2_reach ds fa od rd (f_X1_state ((f_X1_change vs (f_X1_hold as x1) (nI k)).2)) (x2 + (1 : Int32)) (f_X2_firstActOf fa x1)).2.1 (f_X2_reach ds fa od rd (f_X1_state ((f_X1_change vs (f_X1_hold as x1) (nI k)).2)) (x2 + (1 : Int32)) (f_X2_firstActOf fa x1)).2.2.1 (f_X2_reach ds fa od rd (f_X1_state ((f_X1_change vs (f_X1_hold as x1) (nI k)).2)) (x2 + (1 : Int32)) (f_X2_firstActOf fa x1)).2.2.2)) (ci := 2) (q0 := 0) F (c_X2_reach l G wh sh sv sa wd wf wo vs ((f_X1_change vs (f_X1_hold as x1) (nI k)).2) ds fa od rd (f_X1_state ((f_X1_change vs (f_X1_hold as x1) (nI k)).2)) (x2 + (1 : Int32)) (f_X2_firstActOf fa x1) h_4) gX2_spread_X2_reach rfl rfl rfl zd_X2_reach ⟨Nat.le_of_ble_eq_true rfl, Nat.le_of_ble_eq_true rfl⟩ rfl rfl (Nat.le_of_ble_eq_true rfl) dX2_spread_66 ⟨Nat.le_of_ble_eq_true rfl, Nat.le_of_ble_eq_true rfl⟩ hK hP hD hS hA hl.1 rfl rfl [0, 1, 2, 3, 4, 5, 6] [] [0, 1, 2, 3, 4, 5, 6] rfl rfl rfl rfl (by decide) rfl (fun _ => rfl) (fun _ H locs hP hD hS => ?_)
          have hP : va_P G.1 vwCl (w_X2 G wh sh sv sa wd wf wo vs (f_X1_change vs (f_X1_hold as x1) (nI k)).2 (f_X2_reach ds fa od rd (f_X1_state ((f_X1_change vs (f_X1_hold as x1) (nI k)).2)) (x2 + (1 : Int32)) (f_X2_firstActOf fa x1)).1 (f_X2_reach ds fa od rd (f_X1_state ((f_X1_change vs (f_X1_hold as x1) (nI k)).2)) (x2 + (1 : Int32)) (f_X2_firstActOf fa x1)).2.1 (f_X2_reach ds fa od rd (f_X1_state ((f_X1_change vs (f_X1_hold as x1) (nI k)).2)) (x2 + (1 : Int32)) (f_X2_firstActOf fa x1)).2.2.1 (f_X2_reach ds fa od rd (f_X1_state ((f_X1_change vs (f_X1_hold as x1) (nI k)).2)) (x2 + (1 : Int32)) (f_X2_firstActOf fa x1)).2.2.2) H := hP
          have hD : va_D A (w_X2 G wh sh sv sa wd wf wo vs (f_X1_change vs (f_X1_hold as x1) (nI k)).2 (f_X2_reach ds fa od rd (f_X1_state ((f_X1_change vs (f_X1_hold as x1) (nI k)).2)) (x2 + (1 : Int32)) (f_X2_firstActOf fa x1)).1 (f_X2_reach ds fa od rd (f_X1_state ((f_X1_change vs (f_X1_hold as x1) (nI k)).2)) (x2 + (1 : Int32)) (f_X2_firstActOf fa x1)).2.1 (f_X2_reach ds fa od rd (f_X1_state ((f_X1_change vs (f_X1_hold as x1) (nI k)).2)) (x2 + (1 : Int32)) (f_X2_firstActOf fa x1)).2.2.1 (f_X2_reach ds fa od rd (f_X1_state ((f_X1_change vs (f_X1_hold as x1) (nI k)).2)) (x2 + (1 : Int32)) (f_X2_firstActOf fa x1)).2.2.2) := hD
          refine lv_iinc (v := (nI (k + 1))) (lv' := [(3, .int (nI (k + 1))), (0, .ref wh), (1, .int x1), (2, .int x2)]) hx hb dX2_spread_69 hl (k := 3) rfl (nI_1 k) (by decide) rfl (fun ls hl => ?_)
          refine lv_goto (tgt := 8) hx hb dX2_spread_72 (by decide) ?_
          have e9 : (lf_X2_spread_8 (n + 1) k vs as ds fa od rd x1 x2) = (lf_X2_spread_8 n (k + 1) vs ((f_X1_change vs (f_X1_hold as x1) (nI k)).2) ((f_X2_reach ds fa od rd (f_X1_state ((f_X1_change vs (f_X1_hold as x1) (nI k)).2)) (x2 + (1 : Int32)) (f_X2_firstActOf fa x1)).1) ((f_X2_reach ds fa od rd (f_X1_state ((f_X1_change vs (f_X1_hold as x1) (nI k)).2)) (x2 + (1 : Int32)) (f_X2_firstActOf fa x1)).2.1) ((f_X2_reach ds fa od rd (f_X1_state ((f_X1_change vs (f_X1_hold as x1) (nI k)).2)) (x2 + (1 : Int32)) (f_X2_firstActOf fa x1)).2.2.1) ((f_X2_reach ds fa od rd (f_X1_state ((f_X1_change vs (f_X1_hold as x1) (nI k)).2)) (x2 + (1 : Int32)) (f_X2_firstActOf fa x1)).2.2.2) x1 x2) := (lf_X2_spread_8_succ n k vs as ds fa od rd x1 x2).trans ((if_neg c_1).trans ((if_neg c_2).trans ((if_neg c_3).trans (rfl))))
          rw [e9] at kk
          have h9 := zk_lt (N := 15) (by omega) rfl c_1
          exact IH9 (k + 1) vs ((f_X1_change vs (f_X1_hold as x1) (nI k)).2) ((f_X2_reach ds fa od rd (f_X1_state ((f_X1_change vs (f_X1_hold as x1) (nI k)).2)) (x2 + (1 : Int32)) (f_X2_firstActOf fa x1)).1) ((f_X2_reach ds fa od rd (f_X1_state ((f_X1_change vs (f_X1_hold as x1) (nI k)).2)) (x2 + (1 : Int32)) (f_X2_firstActOf fa x1)).2.1) ((f_X2_reach ds fa od rd (f_X1_state ((f_X1_change vs (f_X1_hold as x1) (nI k)).2)) (x2 + (1 : Int32)) (f_X2_firstActOf fa x1)).2.2.1) ((f_X2_reach ds fa od rd (f_X1_state ((f_X1_change vs (f_X1_hold as x1) (nI k)).2)) (x2 + (1 : Int32)) (f_X2_firstActOf fa x1)).2.2.2) x1 x2 (by omega) (by omega) hs H locs ls hP hD hS (lv_sub hl [1, 2, 3, 0] rfl) kk
        · have hs := hs.1 c_3
          refine lv_iload_n hx hb dX2_spread_57 rfl (lv_at hl 3 rfl) ?_
          refine lv_goto (tgt := 66) hx hb dX2_spread_58 (by decide) ?_
          obtain ⟨h_5, hs⟩ := hs
          refine z_callV (As := [.int (f_X1_state ((f_X1_change vs (f_X1_hold as x1) (nI k)).2)), .int (x2 + (1 : Int32)), .int (nI k)]) (rest := []) (wr := ([] : va_W)) (w1 := fun _ : Unit => (w_X2 G wh sh sv sa wd wf wo vs ((f_X1_change vs (f_X1_hold as x1) (nI k)).2) ((f_X2_reach ds fa od rd (f_X1_state ((f_X1_change vs (f_X1_hold as x1) (nI k)).2)) (x2 + (1 : Int32)) (nI k)).1) ((f_X2_reach ds fa od rd (f_X1_state ((f_X1_change vs (f_X1_hold as x1) (nI k)).2)) (x2 + (1 : Int32)) (nI k)).2.1) ((f_X2_reach ds fa od rd (f_X1_state ((f_X1_change vs (f_X1_hold as x1) (nI k)).2)) (x2 + (1 : Int32)) (nI k)).2.2.1) ((f_X2_reach ds fa od rd (f_X1_state ((f_X1_change vs (f_X1_hold as x1) (nI k)).2)) (x2 + (1 : Int32)) (nI k)).2.2.2))) (wj := fun _ : Unit => (w_X2 G wh sh sv sa wd wf wo vs (f_X1_change vs (f_X1_hold as x1) (nI k)).2 (f_X2_reach ds fa od rd (f_X1_state ((f_X1_change vs (f_X1_hold as x1) (nI k)).2)) (x2 + (1 : Int32)) (nI k)).1 (f_X2_reach ds fa od rd (f_X1_state ((f_X1_change vs (f_X1_hold as x1) (nI k)).2)) (x2 + (1 : Int32)) (nI k)).2.1 (f_X2_reach ds fa od rd (f_X1_state ((f_X1_change vs (f_X1_hold as x1) (nI k)).2)) (x2 + (1 : Int32)) (nI k)).2.2.1 (f_X2_reach ds fa od rd (f_X1_state ((f_X1_change vs (f_X1_hold as x1) (nI k)).2)) (x2 + (1 : Int32)) (nI k)).2.2.2)) (ci := 2) (q0 := 0) F (c_X2_reach l G wh sh sv sa wd wf wo vs ((f_X1_change vs (f_X1_hold as x1) (nI k)).2) ds fa od rd (f_X1_state ((f_X1_change vs (f_X1_hold as x1) (nI k)).2)) (x2 + (1 : Int32)) (nI k) h_5) gX2_spread_X2_reach rfl rfl rfl zd_X2_reach ⟨Nat.le_of_ble_eq_true rfl, Nat.le_of_ble_eq_true rfl⟩ rfl rfl (Nat.le_of_ble_eq_true rfl) dX2_spread_66 ⟨Nat.le_of_ble_eq_true rfl, Nat.le_of_ble_eq_true rfl⟩ hK hP hD hS hA hl.1 rfl rfl [0, 1, 2, 3, 4, 5, 6] [] [0, 1, 2, 3, 4, 5, 6] rfl rfl rfl rfl (by decide) rfl (fun _ => rfl) (fun _ H locs hP hD hS => ?_)
          have hP : va_P G.1 vwCl (w_X2 G wh sh sv sa wd wf wo vs (f_X1_change vs (f_X1_hold as x1) (nI k)).2 (f_X2_reach ds fa od rd (f_X1_state ((f_X1_change vs (f_X1_hold as x1) (nI k)).2)) (x2 + (1 : Int32)) (nI k)).1 (f_X2_reach ds fa od rd (f_X1_state ((f_X1_change vs (f_X1_hold as x1) (nI k)).2)) (x2 + (1 : Int32)) (nI k)).2.1 (f_X2_reach ds fa od rd (f_X1_state ((f_X1_change vs (f_X1_hold as x1) (nI k)).2)) (x2 + (1 : Int32)) (nI k)).2.2.1 (f_X2_reach ds fa od rd (f_X1_state ((f_X1_change vs (f_X1_hold as x1) (nI k)).2)) (x2 + (1 : Int32)) (nI k)).2.2.2) H := hP
          have hD : va_D A (w_X2 G wh sh sv sa wd wf wo vs (f_X1_change vs (f_X1_hold as x1) (nI k)).2 (f_X2_reach ds fa od rd (f_X1_state ((f_X1_change vs (f_X1_hold as x1) (nI k)).2)) (x2 + (1 : Int32)) (nI k)).1 (f_X2_reach ds fa od rd (f_X1_state ((f_X1_change vs (f_X1_hold as x1) (nI k)).2)) (x2 + (1 : Int32)) (nI k)).2.1 (f_X2_reach ds fa od rd (f_X1_state ((f_X1_change vs (f_X1_hold as x1) (nI k)).2)) (x2 + (1 : Int32)) (nI k)).2.2.1 (f_X2_reach ds fa od rd (f_X1_state ((f_X1_change vs (f_X1_hold as x1) (nI k)).2)) (x2 + (1 : Int32)) (nI k)).2.2.2) := hD
          refine lv_iinc (v := (nI (k + 1))) (lv' := [(3, .int (nI (k + 1))), (0, .ref wh), (1, .int x1), (2, .int x2)]) hx hb dX2_spread_69 hl (k := 3) rfl (nI_1 k) (by decide) rfl (fun ls hl => ?_)
          refine lv_goto (tgt := 8) hx hb dX2_spread_72 (by decide) ?_
          have e9 : (lf_X2_spread_8 (n + 1) k vs as ds fa od rd x1 x2) = (lf_X2_spread_8 n (k + 1) vs ((f_X1_change vs (f_X1_hold as x1) (nI k)).2) ((f_X2_reach ds fa od rd (f_X1_state ((f_X1_change vs (f_X1_hold as x1) (nI k)).2)) (x2 + (1 : Int32)) (nI k)).1) ((f_X2_reach ds fa od rd (f_X1_state ((f_X1_change vs (f_X1_hold as x1) (nI k)).2)) (x2 + (1 : Int32)) (nI k)).2.1) ((f_X2_reach ds fa od rd (f_X1_state ((f_X1_change vs (f_X1_hold as x1) (nI k)).2)) (x2 + (1 : Int32)) (nI k)).2.2.1) ((f_X2_reach ds fa od rd (f_X1_state ((f_X1_change vs (f_X1_hold as x1) (nI k)).2)) (x2 + (1 : Int32)) (nI k)).2.2.2) x1 x2) := (lf_X2_spread_8_succ n k vs as ds fa od rd x1 x2).trans ((if_neg c_1).trans ((if_neg c_2).trans ((if_pos c_3).trans (rfl))))
          rw [e9] at kk
          have h9 := zk_lt (N := 15) (by omega) rfl c_1
          exact IH9 (k + 1) vs ((f_X1_change vs (f_X1_hold as x1) (nI k)).2) ((f_X2_reach ds fa od rd (f_X1_state ((f_X1_change vs (f_X1_hold as x1) (nI k)).2)) (x2 + (1 : Int32)) (nI k)).1) ((f_X2_reach ds fa od rd (f_X1_state ((f_X1_change vs (f_X1_hold as x1) (nI k)).2)) (x2 + (1 : Int32)) (nI k)).2.1) ((f_X2_reach ds fa od rd (f_X1_state ((f_X1_change vs (f_X1_hold as x1) (nI k)).2)) (x2 + (1 : Int32)) (nI k)).2.2.1) ((f_X2_reach ds fa od rd (f_X1_state ((f_X1_change vs (f_X1_hold as x1) (nI k)).2)) (x2 + (1 : Int32)) (nI k)).2.2.2) x1 x2 (by omega) (by omega) hs H locs ls hP hD hS (lv_sub hl [1, 2, 3, 0] rfl) kk
set_option maxHeartbeats 4000000 in
set_option maxRecDepth 100000 in
/-- JarRiddle$Ways.spread(I)V -/
theorem c_X2_spread (l : Launch) (G : zG) (wh sh sv sa wd wf wo : Nat) (vs : Nat → Int32) (as : Nat → Int32) (ds : Nat → Int32) (fa : Nat → Int32) (od : Nat → Int32) (rd : Int32) (p1 : Int32) (hs : s_X2_spread vs as ds fa od rd p1) : zC l G yX2_spread wsX2_spread rm_X2_spread 0 0 [.ref wh, .int p1] (w_X2 G wh sh sv sa wd wf wo vs as ds fa od rd) none (fun _ : Unit => (w_X2 G wh sh sv sa wd wf wo vs ((f_X2_spread vs as ds fa od rd p1).1) ((f_X2_spread vs as ds fa od rd p1).2.1) ((f_X2_spread vs as ds fa od rd p1).2.2.1) ((f_X2_spread vs as ds fa od rd p1).2.2.2.1) ((f_X2_spread vs as ds fa od rd p1).2.2.2.2))) := by
  refine z_of (cc := cX2_spread) (maxL := 4) (ret := none) (own := RX2) (by decide) rfl rfl (Nat.le_of_ble_eq_true rfl) ?_
  intro p e s m args below meth c A H locs ls F hr hlocks hname hK hA hP hD hS hl
  obtain ⟨hx, hb, hml, hown, hts⟩ := id F
  have hl : lv_has ls 4 [(0, .ref wh), (1, .int p1)] := hl
  have hs : (sf_X2_spread_8 16 0 vs as ds fa od rd p1 (f_X2_distanceOf ds p1)) := hs
  refine lv_aload_n hx hb dX2_spread_0 rfl (lv_at hl 0 rfl) ?_
  refine lv_iload_n hx hb dX2_spread_1 rfl (lv_at hl 1 rfl) ?_
  refine z_callV (As := [.int p1]) (rest := []) (wr := ([] : va_W)) (w1 := fun _ : Unit => (w_X2 G wh sh sv sa wd wf wo vs as ds fa od rd)) (wj := fun _ : Unit => (w_X2 G wh sh sv sa wd wf wo vs as ds fa od rd)) (ci := 2) (q0 := 0) F (c_X2_distanceOf l G wh sh sv sa wd wf wo vs as ds fa od rd p1) gX2_spread_X2_distanceOf rfl rfl rfl zd_X2_distanceOf ⟨Nat.le_of_ble_eq_true rfl, Nat.le_of_ble_eq_true rfl⟩ rfl rfl (Nat.le_of_ble_eq_true rfl) dX2_spread_2 ⟨Nat.le_of_ble_eq_true rfl, Nat.le_of_ble_eq_true rfl⟩ hK hP hD hS hA hl.1 rfl rfl [0, 1, 2, 3, 4, 5, 6] [] [0, 1, 2, 3, 4, 5, 6] rfl rfl rfl rfl (by decide) rfl (fun _ => rfl) (fun _ H locs hP hD hS => ?_)
  have hP : va_P G.1 vwCl (w_X2 G wh sh sv sa wd wf wo vs as ds fa od rd) H := hP
  have hD : va_D A (w_X2 G wh sh sv sa wd wf wo vs as ds fa od rd) := hD
  refine lv_istore_n (lv' := [(2, .int (f_X2_distanceOf ds p1)), (0, .ref wh), (1, .int p1)]) hx hb dX2_spread_5 rfl hl (by decide) rfl (fun ls hl => ?_)
  refine lv_iconst (v := (0 : Int32)) hx hb dX2_spread_6 (by decide) ?_
  refine lv_istore_n (lv' := [(3, .int (0 : Int32)), (2, .int (f_X2_distanceOf ds p1)), (0, .ref wh), (1, .int p1)]) hx hb dX2_spread_7 rfl hl (by decide) rfl (fun ls hl => ?_)
  have h_6 := hs
  refine l_X2_spread_8 F hr hlocks hK hA wh sh sv sa wd wf wo 16 0 vs as ds fa od rd p1 (f_X2_distanceOf ds p1) (by omega) (by omega) h_6 H locs ls hP hD hS (lv_sub hl [2, 3, 1, 0] rfl) ?_
  intro H locs ls hP hD hS hl
  have hP : va_P G.1 vwCl (w_X2 G wh sh sv sa wd wf wo vs (lf_X2_spread_8 16 0 vs as ds fa od rd p1 (f_X2_distanceOf ds p1)).1 (lf_X2_spread_8 16 0 vs as ds fa od rd p1 (f_X2_distanceOf ds p1)).2.1 (lf_X2_spread_8 16 0 vs as ds fa od rd p1 (f_X2_distanceOf ds p1)).2.2.1 (lf_X2_spread_8 16 0 vs as ds fa od rd p1 (f_X2_distanceOf ds p1)).2.2.2.1 (lf_X2_spread_8 16 0 vs as ds fa od rd p1 (f_X2_distanceOf ds p1)).2.2.2.2) H := hP
  have hD : va_D A (w_X2 G wh sh sv sa wd wf wo vs (lf_X2_spread_8 16 0 vs as ds fa od rd p1 (f_X2_distanceOf ds p1)).1 (lf_X2_spread_8 16 0 vs as ds fa od rd p1 (f_X2_distanceOf ds p1)).2.1 (lf_X2_spread_8 16 0 vs as ds fa od rd p1 (f_X2_distanceOf ds p1)).2.2.1 (lf_X2_spread_8 16 0 vs as ds fa od rd p1 (f_X2_distanceOf ds p1)).2.2.2.1 (lf_X2_spread_8 16 0 vs as ds fa od rd p1 (f_X2_distanceOf ds p1)).2.2.2.2) := hD
  have hl : lv_has ls 4 [] := hl
  have e9 : (f_X2_spread vs as ds fa od rd p1) = ((lf_X2_spread_8 16 0 vs as ds fa od rd p1 (f_X2_distanceOf ds p1)).1, (lf_X2_spread_8 16 0 vs as ds fa od rd p1 (f_X2_distanceOf ds p1)).2.1, (lf_X2_spread_8 16 0 vs as ds fa od rd p1 (f_X2_distanceOf ds p1)).2.2.1, (lf_X2_spread_8 16 0 vs as ds fa od rd p1 (f_X2_distanceOf ds p1)).2.2.2.1, (lf_X2_spread_8 16 0 vs as ds fa od rd p1 (f_X2_distanceOf ds p1)).2.2.2.2) := (f_X2_spread_eq vs as ds fa od rd p1).trans (rfl)
  rw [e9]
  dsimp only
  exact z_vret F hr hlocks hP hD hS () [0, 1, 2, 3, 4, 5, 6] rfl rfl rfl dX2_spread_75
def lf_X2_explore_50 : Nat → Nat → (Nat → Int32) → (Nat → Int32) → (Nat → Int32) → (Nat → Int32) → (Nat → Int32) → Int32 → (Nat → Int32) × (Nat → Int32) × (Nat → Int32) × (Nat → Int32) × Int32
  | 0, k, vs, as, ds, fa, od, rd => (as, ds, fa, od, rd)
  | n + 1, k, vs, as, ds, fa, od, rd => (if rd ≤ (nI k) then (as, ds, fa, od, rd) else (if (1000 : Int32) ≤ (nI k) then (as, ds, fa, od, rd) else (lf_X2_explore_50 n (k + 1) vs ((f_X2_spread vs as ds fa od rd (f_X2_stateAt od rd (nI k))).1) ((f_X2_spread vs as ds fa od rd (f_X2_stateAt od rd (nI k))).2.1) ((f_X2_spread vs as ds fa od rd (f_X2_stateAt od rd (nI k))).2.2.1) ((f_X2_spread vs as ds fa od rd (f_X2_stateAt od rd (nI k))).2.2.2.1) ((f_X2_spread vs as ds fa od rd (f_X2_stateAt od rd (nI k))).2.2.2.2))))
theorem lf_X2_explore_50_succ (n k : Nat) (vs : Nat → Int32) (as : Nat → Int32) (ds : Nat → Int32) (fa : Nat → Int32) (od : Nat → Int32) (rd : Int32) : lf_X2_explore_50 (n + 1) k vs as ds fa od rd = (if rd ≤ (nI k) then (as, ds, fa, od, rd) else (if (1000 : Int32) ≤ (nI k) then (as, ds, fa, od, rd) else (lf_X2_explore_50 n (k + 1) vs ((f_X2_spread vs as ds fa od rd (f_X2_stateAt od rd (nI k))).1) ((f_X2_spread vs as ds fa od rd (f_X2_stateAt od rd (nI k))).2.1) ((f_X2_spread vs as ds fa od rd (f_X2_stateAt od rd (nI k))).2.2.1) ((f_X2_spread vs as ds fa od rd (f_X2_stateAt od rd (nI k))).2.2.2.1) ((f_X2_spread vs as ds fa od rd (f_X2_stateAt od rd (nI k))).2.2.2.2)))) := rfl
def f_X2_explore_t1 (vs : Nat → Int32) (as : Nat → Int32) (ds : Nat → Int32) (fa : Nat → Int32) (od : Nat → Int32) (rd : Int32) (vr : Nat → Int32) (ar : Nat → Int32) : Nat → Int32 := (lf_X2_explore_50 1001 0 ((f_X1_layEmpty vs as (f_X1_volumeAt vr (0 : Int32)) (f_X1_volumeAt vr (1 : Int32)) (f_X1_volumeAt vr (2 : Int32))).1) ((f_X1_layEmpty vs as (f_X1_volumeAt vr (0 : Int32)) (f_X1_volumeAt vr (1 : Int32)) (f_X1_volumeAt vr (2 : Int32))).2) ((f_X2_reach (f_J7_fill_53178 1000 ds (-1 : Int32)) fa od rd (f_X1_state ar) (0 : Int32) (-1 : Int32)).1) ((f_X2_reach (f_J7_fill_53178 1000 ds (-1 : Int32)) fa od rd (f_X1_state ar) (0 : Int32) (-1 : Int32)).2.1) ((f_X2_reach (f_J7_fill_53178 1000 ds (-1 : Int32)) fa od rd (f_X1_state ar) (0 : Int32) (-1 : Int32)).2.2.1) ((f_X2_reach (f_J7_fill_53178 1000 ds (-1 : Int32)) fa od rd (f_X1_state ar) (0 : Int32) (-1 : Int32)).2.2.2)).1
def f_X2_explore_t2 (vs : Nat → Int32) (as : Nat → Int32) (ds : Nat → Int32) (fa : Nat → Int32) (od : Nat → Int32) (rd : Int32) (vr : Nat → Int32) (ar : Nat → Int32) : Nat → Int32 := (lf_X2_explore_50 1001 0 ((f_X1_layEmpty vs as (f_X1_volumeAt vr (0 : Int32)) (f_X1_volumeAt vr (1 : Int32)) (f_X1_volumeAt vr (2 : Int32))).1) ((f_X1_layEmpty vs as (f_X1_volumeAt vr (0 : Int32)) (f_X1_volumeAt vr (1 : Int32)) (f_X1_volumeAt vr (2 : Int32))).2) ((f_X2_reach (f_J7_fill_53178 1000 ds (-1 : Int32)) fa od rd (f_X1_state ar) (0 : Int32) (-1 : Int32)).1) ((f_X2_reach (f_J7_fill_53178 1000 ds (-1 : Int32)) fa od rd (f_X1_state ar) (0 : Int32) (-1 : Int32)).2.1) ((f_X2_reach (f_J7_fill_53178 1000 ds (-1 : Int32)) fa od rd (f_X1_state ar) (0 : Int32) (-1 : Int32)).2.2.1) ((f_X2_reach (f_J7_fill_53178 1000 ds (-1 : Int32)) fa od rd (f_X1_state ar) (0 : Int32) (-1 : Int32)).2.2.2)).2.1
def f_X2_explore_t3 (vs : Nat → Int32) (as : Nat → Int32) (ds : Nat → Int32) (fa : Nat → Int32) (od : Nat → Int32) (rd : Int32) (vr : Nat → Int32) (ar : Nat → Int32) : Nat → Int32 := (lf_X2_explore_50 1001 0 ((f_X1_layEmpty vs as (f_X1_volumeAt vr (0 : Int32)) (f_X1_volumeAt vr (1 : Int32)) (f_X1_volumeAt vr (2 : Int32))).1) ((f_X1_layEmpty vs as (f_X1_volumeAt vr (0 : Int32)) (f_X1_volumeAt vr (1 : Int32)) (f_X1_volumeAt vr (2 : Int32))).2) ((f_X2_reach (f_J7_fill_53178 1000 ds (-1 : Int32)) fa od rd (f_X1_state ar) (0 : Int32) (-1 : Int32)).1) ((f_X2_reach (f_J7_fill_53178 1000 ds (-1 : Int32)) fa od rd (f_X1_state ar) (0 : Int32) (-1 : Int32)).2.1) ((f_X2_reach (f_J7_fill_53178 1000 ds (-1 : Int32)) fa od rd (f_X1_state ar) (0 : Int32) (-1 : Int32)).2.2.1) ((f_X2_reach (f_J7_fill_53178 1000 ds (-1 : Int32)) fa od rd (f_X1_state ar) (0 : Int32) (-1 : Int32)).2.2.2)).2.2.1
def f_X2_explore_t4 (vs : Nat → Int32) (as : Nat → Int32) (ds : Nat → Int32) (fa : Nat → Int32) (od : Nat → Int32) (rd : Int32) (vr : Nat → Int32) (ar : Nat → Int32) : Nat → Int32 := (lf_X2_explore_50 1001 0 ((f_X1_layEmpty vs as (f_X1_volumeAt vr (0 : Int32)) (f_X1_volumeAt vr (1 : Int32)) (f_X1_volumeAt vr (2 : Int32))).1) ((f_X1_layEmpty vs as (f_X1_volumeAt vr (0 : Int32)) (f_X1_volumeAt vr (1 : Int32)) (f_X1_volumeAt vr (2 : Int32))).2) ((f_X2_reach (f_J7_fill_53178 1000 ds (-1 : Int32)) fa od rd (f_X1_state ar) (0 : Int32) (-1 : Int32)).1) ((f_X2_reach (f_J7_fill_53178 1000 ds (-1 : Int32)) fa od rd (f_X1_state ar) (0 : Int32) (-1 : Int32)).2.1) ((f_X2_reach (f_J7_fill_53178 1000 ds (-1 : Int32)) fa od rd (f_X1_state ar) (0 : Int32) (-1 : Int32)).2.2.1) ((f_X2_reach (f_J7_fill_53178 1000 ds (-1 : Int32)) fa od rd (f_X1_state ar) (0 : Int32) (-1 : Int32)).2.2.2)).2.2.2.1
def f_X2_explore_t5 (vs : Nat → Int32) (as : Nat → Int32) (ds : Nat → Int32) (fa : Nat → Int32) (od : Nat → Int32) (rd : Int32) (vr : Nat → Int32) (ar : Nat → Int32) : Int32 := (lf_X2_explore_50 1001 0 ((f_X1_layEmpty vs as (f_X1_volumeAt vr (0 : Int32)) (f_X1_volumeAt vr (1 : Int32)) (f_X1_volumeAt vr (2 : Int32))).1) ((f_X1_layEmpty vs as (f_X1_volumeAt vr (0 : Int32)) (f_X1_volumeAt vr (1 : Int32)) (f_X1_volumeAt vr (2 : Int32))).2) ((f_X2_reach (f_J7_fill_53178 1000 ds (-1 : Int32)) fa od rd (f_X1_state ar) (0 : Int32) (-1 : Int32)).1) ((f_X2_reach (f_J7_fill_53178 1000 ds (-1 : Int32)) fa od rd (f_X1_state ar) (0 : Int32) (-1 : Int32)).2.1) ((f_X2_reach (f_J7_fill_53178 1000 ds (-1 : Int32)) fa od rd (f_X1_state ar) (0 : Int32) (-1 : Int32)).2.2.1) ((f_X2_reach (f_J7_fill_53178 1000 ds (-1 : Int32)) fa od rd (f_X1_state ar) (0 : Int32) (-1 : Int32)).2.2.2)).2.2.2.2
def f_X2_explore (vs : Nat → Int32) (as : Nat → Int32) (ds : Nat → Int32) (fa : Nat → Int32) (od : Nat → Int32) (rd : Int32) (vr : Nat → Int32) (ar : Nat → Int32) : (Nat → Int32) × (Nat → Int32) × (Nat → Int32) × (Nat → Int32) × (Nat → Int32) × Int32 := (if rd ≤ (0 : Int32) then ((f_X1_layEmpty vs as (f_X1_volumeAt vr (0 : Int32)) (f_X1_volumeAt vr (1 : Int32)) (f_X1_volumeAt vr (2 : Int32))).1, (f_X2_explore_t1 vs as ds fa od rd vr ar), (f_X2_explore_t2 vs as ds fa od rd vr ar), (f_X2_explore_t3 vs as ds fa od rd vr ar), (f_X2_explore_t4 vs as ds fa od rd vr ar), (f_X2_explore_t5 vs as ds fa od rd vr ar)) else (vs, as, ds, fa, od, rd))
theorem f_X2_explore_eq (vs : Nat → Int32) (as : Nat → Int32) (ds : Nat → Int32) (fa : Nat → Int32) (od : Nat → Int32) (rd : Int32) (vr : Nat → Int32) (ar : Nat → Int32) : f_X2_explore vs as ds fa od rd vr ar = (if rd ≤ (0 : Int32) then ((f_X1_layEmpty vs as (f_X1_volumeAt vr (0 : Int32)) (f_X1_volumeAt vr (1 : Int32)) (f_X1_volumeAt vr (2 : Int32))).1, (f_X2_explore_t1 vs as ds fa od rd vr ar), (f_X2_explore_t2 vs as ds fa od rd vr ar), (f_X2_explore_t3 vs as ds fa od rd vr ar), (f_X2_explore_t4 vs as ds fa od rd vr ar), (f_X2_explore_t5 vs as ds fa od rd vr ar)) else (vs, as, ds, fa, od, rd)) := rfl
def sf_X2_explore_50 : Nat → Nat → (Nat → Int32) → (Nat → Int32) → (Nat → Int32) → (Nat → Int32) → (Nat → Int32) → Int32 → Prop
  | 0, k, vs, as, ds, fa, od, rd => True
  | n + 1, k, vs, as, ds, fa, od, rd => ((rd ≤ (nI k) → True) ∧ (¬ rd ≤ (nI k) → (((1000 : Int32) ≤ (nI k) → True) ∧ (¬ (1000 : Int32) ≤ (nI k) → (s_X2_spread vs as ds fa od rd (f_X2_stateAt od rd (nI k))) ∧ (sf_X2_explore_50 n (k + 1) vs ((f_X2_spread vs as ds fa od rd (f_X2_stateAt od rd (nI k))).1) ((f_X2_spread vs as ds fa od rd (f_X2_stateAt od rd (nI k))).2.1) ((f_X2_spread vs as ds fa od rd (f_X2_stateAt od rd (nI k))).2.2.1) ((f_X2_spread vs as ds fa od rd (f_X2_stateAt od rd (nI k))).2.2.2.1) ((f_X2_spread vs as ds fa od rd (f_X2_stateAt od rd (nI k))).2.2.2.2))))))
theorem sf_X2_explore_50_succ (n k : Nat) (vs : Nat → Int32) (as : Nat → Int32) (ds : Nat → Int32) (fa : Nat → Int32) (od : Nat → Int32) (rd : Int32) : sf_X2_explore_50 (n + 1) k vs as ds fa od rd = (((rd ≤ (nI k) → True) ∧ (¬ rd ≤ (nI k) → (((1000 : Int32) ≤ (nI k) → True) ∧ (¬ (1000 : Int32) ≤ (nI k) → (s_X2_spread vs as ds fa od rd (f_X2_stateAt od rd (nI k))) ∧ (sf_X2_explore_50 n (k + 1) vs ((f_X2_spread vs as ds fa od rd (f_X2_stateAt od rd (nI k))).1) ((f_X2_spread vs as ds fa od rd (f_X2_stateAt od rd (nI k))).2.1) ((f_X2_spread vs as ds fa od rd (f_X2_stateAt od rd (nI k))).2.2.1) ((f_X2_spread vs as ds fa od rd (f_X2_stateAt od rd (nI k))).2.2.2.1) ((f_X2_spread vs as ds fa od rd (f_X2_stateAt od rd (nI k))).2.2.2.2))))))) := rfl
def s_X2_explore (vs : Nat → Int32) (as : Nat → Int32) (ds : Nat → Int32) (fa : Nat → Int32) (od : Nat → Int32) (rd : Int32) (vr : Nat → Int32) (ar : Nat → Int32) : Prop := ((rd ≤ (0 : Int32) → (s_X2_reach (f_J7_fill_53178 1000 ds (-1 : Int32)) rd (f_X1_state ar) (0 : Int32) (-1 : Int32)) ∧ (sf_X2_explore_50 1001 0 ((f_X1_layEmpty vs as (f_X1_volumeAt vr (0 : Int32)) (f_X1_volumeAt vr (1 : Int32)) (f_X1_volumeAt vr (2 : Int32))).1) ((f_X1_layEmpty vs as (f_X1_volumeAt vr (0 : Int32)) (f_X1_volumeAt vr (1 : Int32)) (f_X1_volumeAt vr (2 : Int32))).2) ((f_X2_reach (f_J7_fill_53178 1000 ds (-1 : Int32)) fa od rd (f_X1_state ar) (0 : Int32) (-1 : Int32)).1) ((f_X2_reach (f_J7_fill_53178 1000 ds (-1 : Int32)) fa od rd (f_X1_state ar) (0 : Int32) (-1 : Int32)).2.1) ((f_X2_reach (f_J7_fill_53178 1000 ds (-1 : Int32)) fa od rd (f_X1_state ar) (0 : Int32) (-1 : Int32)).2.2.1) ((f_X2_reach (f_J7_fill_53178 1000 ds (-1 : Int32)) fa od rd (f_X1_state ar) (0 : Int32) (-1 : Int32)).2.2.2))) ∧ (¬ rd ≤ (0 : Int32) → True))
abbrev rm_X2_explore : Room := { frames := 3, cells := 0, slots := 0, locals := 69 }
theorem zd_X2_explore : yX2_explore.cls = RX2 ∧ yX2_explore.cls ≠ "java/lang/invoke/MethodHandle" ∧ yX2_explore.cls ≠ "java/lang/invoke/VarHandle" ∧ (parseMethodDescriptor yX2_explore.desc).map (fun d => d.parameters.length) = some 1 := by decide +kernel
theorem in_X2_explore_X2 : ∀ w ∈ u_ws RX2 TX2 5, w ∈ wsX2_explore := by decide +kernel
set_option maxHeartbeats 4000000 in
set_option maxRecDepth 100000 in
theorem l_X2_explore_50 {p : Program} {l : Launch} {e : Env} {s : State} {m : MethodId} {args : Array Value} {below : List Frame} {meth : Method} {c : Code} {A : Nat → Prop} {Q : State → Prop} {G : zG} (F : CallFix p m c cX2_explore 3 s args wsX2_explore RX2) (hr : meth.sig.returnType = none) (hlocks : meth.locks = false) (hK : zK G s) (hA : ∀ q : Nat, s.heap.size ≤ q → A q) (wh sh sv sa wd wf wo rh rv ra : Nat) :
    ∀ (n k : Nat) (vs : Nat → Int32) (as : Nat → Int32) (ds : Nat → Int32) (fa : Nat → Int32) (od : Nat → Int32) (rd : Int32) (vr : Nat → Int32) (ar : Nat → Int32), k + n = 1000 + 1 → k ≤ 1000 → (sf_X2_explore_50 n k vs as ds fa od rd) → ∀ (H : Heap) (locs : List Loc) (ls : Array Slot), va_P G.1 vwCl (w_X2e G wh sh sv sa wd wf wo rh rv ra vs as ds fa od rd vr ar) H → va_D A (w_X2e G wh sh sv sa wd wf wo rh rv ra vs as ds fa od rd vr ar) → va_S A s.heap H locs → lv_has ls 3 [(0, .ref wh), (2, .int (nI k))] → (∀ (H : Heap) (locs : List Loc) (ls : Array Slot), va_P G.1 vwCl (w_X2e G wh sh sv sa wd wf wo rh rv ra vs ((lf_X2_explore_50 n k vs as ds fa od rd).1) ((lf_X2_explore_50 n k vs as ds fa od rd).2.1) ((lf_X2_explore_50 n k vs as ds fa od rd).2.2.1) ((lf_X2_explore_50 n k vs as ds fa od rd).2.2.2.1) ((lf_X2_explore_50 n k vs as ds fa od rd).2.2.2.2) vr ar) H → va_D A (w_X2e G wh sh sv sa wd wf wo rh rv ra vs ((lf_X2_explore_50 n k vs as ds fa od rd).1) ((lf_X2_explore_50 n k vs as ds fa od rd).2.1) ((lf_X2_explore_50 n k vs as ds fa od rd).2.2.1) ((lf_X2_explore_50 n k vs as ds fa od rd).2.2.2.1) ((lf_X2_explore_50 n k vs as ds fa od rd).2.2.2.2) vr ar) → va_S A s.heap H locs → lv_has ls 3 [] → W p l e rm_X2_explore s m args below meth c H locs 0 0 Q (F0 m 80 ls [])) → W p l e rm_X2_explore s m args below meth c H locs 0 0 Q (F0 m 50 ls []) := by
  obtain ⟨hx, hb, hml, hown, hts⟩ := id F
  intro n
  induction n with
  | zero => intro k vs as ds fa od rd vr ar h1 h2; omega
  | succ n IH9 =>
    intro k vs as ds fa od rd vr ar hkn hkN hs H locs ls hP hD hS hl kk
    have hs : ((rd ≤ (nI k) → True) ∧ (¬ rd ≤ (nI k) → (((1000 : Int32) ≤ (nI k) → True) ∧ (¬ (1000 : Int32) ≤ (nI k) → (s_X2_spread vs as ds fa od rd (f_X2_stateAt od rd (nI k))) ∧ (sf_X2_explore_50 n (k + 1) vs ((f_X2_spread vs as ds fa od rd (f_X2_stateAt od rd (nI k))).1) ((f_X2_spread vs as ds fa od rd (f_X2_stateAt od rd (nI k))).2.1) ((f_X2_spread vs as ds fa od rd (f_X2_stateAt od rd (nI k))).2.2.1) ((f_X2_spread vs as ds fa od rd (f_X2_stateAt od rd (nI k))).2.2.2.1) ((f_X2_spread vs as ds fa od rd (f_X2_stateAt od rd (nI k))).2.2.2.2)))))) := hs
    refine lv_iload_n hx hb dX2_explore_50 rfl (lv_at hl 1 rfl) ?_
    refine lv_aload_n hx hb dX2_explore_51 rfl (lv_at hl 0 rfl) ?_
    refine va_get (D := G.1) (ci := 2) (v := .int rd) (C := RX2) (T := TX2) (N := 5) hx hb hts in_X2_explore_X2 hown hK.1 hP 0 rfl rfl 4 (by decide) (hts (.fieldLink RX2 28 "JarRiddle$Ways" "reached" "I") (by decide +kernel)) (fun _ h9 => h9) rfl dX2_explore_52 ?_
    refine lv_icmp_ge (tgt := 80) hx hb dX2_explore_55 (by decide) (fun (c_3 : rd ≤ (nI k)) => ?_) (fun (c_3 : ¬ rd ≤ (nI k)) => ?_)
    · have e9 : (lf_X2_explore_50 (n + 1) k vs as ds fa od rd) = (as, ds, fa, od, rd) := (lf_X2_explore_50_succ n k vs as ds fa od rd).trans ((if_pos c_3).trans (rfl))
      rw [e9] at kk
      dsimp only at kk
      exact kk H locs ls hP hD hS (lv_sub hl [] rfl)
    · have hs := hs.2 c_3
      refine lv_iload_n hx hb dX2_explore_58 rfl (lv_at hl 1 rfl) ?_
      refine lv_sipush (v := (1000 : Int32)) hx hb dX2_explore_59 (by decide) ?_
      refine lv_icmp_ge (tgt := 80) hx hb dX2_explore_62 (by decide) (fun (c_4 : (1000 : Int32) ≤ (nI k)) => ?_) (fun (c_4 : ¬ (1000 : Int32) ≤ (nI k)) => ?_)
      · have e9 : (lf_X2_explore_50 (n + 1) k vs as ds fa od rd) = (as, ds, fa, od, rd) := (lf_X2_explore_50_succ n k vs as ds fa od rd).trans ((if_neg c_3).trans ((if_pos c_4).trans (rfl)))
        rw [e9] at kk
        dsimp only at kk
        exact kk H locs ls hP hD hS (lv_sub hl [] rfl)
      · have hs := hs.2 c_4
        refine lv_aload_n hx hb dX2_explore_65 rfl (lv_at hl 0 rfl) ?_
        refine lv_aload_n hx hb dX2_explore_66 rfl (lv_at hl 0 rfl) ?_
        refine lv_iload_n hx hb dX2_explore_67 rfl (lv_at hl 1 rfl) ?_
        refine z_callV (As := [.int (nI k)]) (rest := [.ref wh]) (wr := ([(rh, .inr (1, [.ref rv, .ref ra])), (rv, .inl (G.2.1, 3, .inl vr)), (ra, .inl (G.2.1, 3, .inl ar))] : va_W)) (w1 := fun _ : Unit => (w_X2 G wh sh sv sa wd wf wo vs as ds fa od rd)) (wj := fun _ : Unit => (w_X2e G wh sh sv sa wd wf wo rh rv ra vs as ds fa od rd vr ar)) (ci := 2) (q0 := 0) F (c_X2_stateAt l G wh sh sv sa wd wf wo vs as ds fa od rd (nI k)) gX2_explore_X2_stateAt rfl rfl rfl zd_X2_stateAt ⟨Nat.le_of_ble_eq_true rfl, Nat.le_of_ble_eq_true rfl⟩ rfl rfl (Nat.le_of_ble_eq_true rfl) dX2_explore_68 ⟨Nat.le_of_ble_eq_true rfl, Nat.le_of_ble_eq_true rfl⟩ hK hP hD hS hA hl.1 rfl rfl [0, 1, 2, 3, 4, 5, 6] [7, 8, 9] [3, 4, 5, 6, 7, 8, 9, 0, 1, 2] rfl rfl rfl rfl (by decide) rfl (fun _ => rfl) (fun _ H locs hP hD hS => ?_)
        have hP : va_P G.1 vwCl (w_X2e G wh sh sv sa wd wf wo rh rv ra vs as ds fa od rd vr ar) H := hP
        have hD : va_D A (w_X2e G wh sh sv sa wd wf wo rh rv ra vs as ds fa od rd vr ar) := hD
        obtain ⟨h_5, hs⟩ := hs
        refine z_callV (As := [.int (f_X2_stateAt od rd (nI k))]) (rest := []) (wr := ([(rh, .inr (1, [.ref rv, .ref ra])), (rv, .inl (G.2.1, 3, .inl vr)), (ra, .inl (G.2.1, 3, .inl ar))] : va_W)) (w1 := fun _ : Unit => (w_X2 G wh sh sv sa wd wf wo vs ((f_X2_spread vs as ds fa od rd (f_X2_stateAt od rd (nI k))).1) ((f_X2_spread vs as ds fa od rd (f_X2_stateAt od rd (nI k))).2.1) ((f_X2_spread vs as ds fa od rd (f_X2_stateAt od rd (nI k))).2.2.1) ((f_X2_spread vs as ds fa od rd (f_X2_stateAt od rd (nI k))).2.2.2.1) ((f_X2_spread vs as ds fa od rd (f_X2_stateAt od rd (nI k))).2.2.2.2))) (wj := fun _ : Unit => (w_X2e G wh sh sv sa wd wf wo rh rv ra vs (f_X2_spread vs as ds fa od rd (f_X2_stateAt od rd (nI k))).1 (f_X2_spread vs as ds fa od rd (f_X2_stateAt od rd (nI k))).2.1 (f_X2_spread vs as ds fa od rd (f_X2_stateAt od rd (nI k))).2.2.1 (f_X2_spread vs as ds fa od rd (f_X2_stateAt od rd (nI k))).2.2.2.1 (f_X2_spread vs as ds fa od rd (f_X2_stateAt od rd (nI k))).2.2.2.2 vr ar)) (ci := 2) (q0 := 0) F (c_X2_spread l G wh sh sv sa wd wf wo vs as ds fa od rd (f_X2_stateAt od rd (nI k)) h_5) gX2_explore_X2_spread rfl rfl rfl zd_X2_spread ⟨Nat.le_of_ble_eq_true rfl, Nat.le_of_ble_eq_true rfl⟩ rfl rfl (Nat.le_of_ble_eq_true rfl) dX2_explore_71 ⟨Nat.le_of_ble_eq_true rfl, Nat.le_of_ble_eq_true rfl⟩ hK hP hD hS hA hl.1 rfl rfl [0, 1, 2, 3, 4, 5, 6] [7, 8, 9] [3, 4, 5, 6, 7, 8, 9, 0, 1, 2] rfl rfl rfl rfl (by decide) rfl (fun _ => rfl) (fun _ H locs hP hD hS => ?_)
        have hP : va_P G.1 vwCl (w_X2e G wh sh sv sa wd wf wo rh rv ra vs (f_X2_spread vs as ds fa od rd (f_X2_stateAt od rd (nI k))).1 (f_X2_spread vs as ds fa od rd (f_X2_stateAt od rd (nI k))).2.1 (f_X2_spread vs as ds fa od rd (f_X2_stateAt od rd (nI k))).2.2.1 (f_X2_spread vs as ds fa od rd (f_X2_stateAt od rd (nI k))).2.2.2.1 (f_X2_spread vs as ds fa od rd (f_X2_stateAt od rd (nI k))).2.2.2.2 vr ar) H := hP
        have hD : va_D A (w_X2e G wh sh sv sa wd wf wo rh rv ra vs (f_X2_spread vs as ds fa od rd (f_X2_stateAt od rd (nI k))).1 (f_X2_spread vs as ds fa od rd (f_X2_stateAt od rd (nI k))).2.1 (f_X2_spread vs as ds fa od rd (f_X2_stateAt od rd (nI k))).2.2.1 (f_X2_spread vs as ds fa od rd (f_X2_stateAt od rd (nI k))).2.2.2.1 (f_X2_spread vs as ds fa od rd (f_X2_stateAt od rd (nI k))).2.2.2.2 vr ar) := hD
        refine lv_iinc (v := (nI (k + 1))) (lv' := [(2, .int (nI (k + 1))), (0, .ref wh)]) hx hb dX2_explore_74 hl (k := 1) rfl (nI_1 k) (by decide) rfl (fun ls hl => ?_)
        refine lv_goto (tgt := 50) hx hb dX2_explore_77 (by decide) ?_
        have e9 : (lf_X2_explore_50 (n + 1) k vs as ds fa od rd) = (lf_X2_explore_50 n (k + 1) vs ((f_X2_spread vs as ds fa od rd (f_X2_stateAt od rd (nI k))).1) ((f_X2_spread vs as ds fa od rd (f_X2_stateAt od rd (nI k))).2.1) ((f_X2_spread vs as ds fa od rd (f_X2_stateAt od rd (nI k))).2.2.1) ((f_X2_spread vs as ds fa od rd (f_X2_stateAt od rd (nI k))).2.2.2.1) ((f_X2_spread vs as ds fa od rd (f_X2_stateAt od rd (nI k))).2.2.2.2)) := (lf_X2_explore_50_succ n k vs as ds fa od rd).trans ((if_neg c_3).trans ((if_neg c_4).trans (rfl)))
        rw [e9] at kk
        have h9 := zk_lt (N := 1000) (by omega) rfl c_4
        exact IH9 (k + 1) vs ((f_X2_spread vs as ds fa od rd (f_X2_stateAt od rd (nI k))).1) ((f_X2_spread vs as ds fa od rd (f_X2_stateAt od rd (nI k))).2.1) ((f_X2_spread vs as ds fa od rd (f_X2_stateAt od rd (nI k))).2.2.1) ((f_X2_spread vs as ds fa od rd (f_X2_stateAt od rd (nI k))).2.2.2.1) ((f_X2_spread vs as ds fa od rd (f_X2_stateAt od rd (nI k))).2.2.2.2) vr ar (by omega) (by omega) hs H locs ls hP hD hS (lv_sub hl [1, 0] rfl) kk
set_option maxHeartbeats 4000000 in
set_option maxRecDepth 100000 in
/-- JarRiddle$Ways.explore(LJarRiddle$Row;)V -/
theorem c_X2_explore (l : Launch) (G : zG) (wh sh sv sa wd wf wo rh rv ra : Nat) (vs : Nat → Int32) (as : Nat → Int32) (ds : Nat → Int32) (fa : Nat → Int32) (od : Nat → Int32) (rd : Int32) (vr : Nat → Int32) (ar : Nat → Int32) (hs : s_X2_explore vs as ds fa od rd vr ar) : zC l G yX2_explore wsX2_explore rm_X2_explore 0 0 [.ref wh, .ref rh] (w_X2e G wh sh sv sa wd wf wo rh rv ra vs as ds fa od rd vr ar) none (fun _ : Unit => (w_X2e G wh sh sv sa wd wf wo rh rv ra ((f_X2_explore vs as ds fa od rd vr ar).1) ((f_X2_explore vs as ds fa od rd vr ar).2.1) ((f_X2_explore vs as ds fa od rd vr ar).2.2.1) ((f_X2_explore vs as ds fa od rd vr ar).2.2.2.1) ((f_X2_explore vs as ds fa od rd vr ar).2.2.2.2.1) ((f_X2_explore vs as ds fa od rd vr ar).2.2.2.2.2) vr ar)) := by
  refine z_of (cc := cX2_explore) (maxL := 3) (ret := none) (own := RX2) (by decide) rfl rfl (Nat.le_of_ble_eq_true rfl) ?_
  intro p e s m args below meth c A H locs ls F hr hlocks hname hK hA hP hD hS hl
  obtain ⟨hx, hb, hml, hown, hts⟩ := id F
  have hl : lv_has ls 3 [(0, .ref wh), (1, .ref rh)] := hl
  have hs : ((rd ≤ (0 : Int32) → (s_X2_reach (f_J7_fill_53178 1000 ds (-1 : Int32)) rd (f_X1_state ar) (0 : Int32) (-1 : Int32)) ∧ (sf_X2_explore_50 1001 0 ((f_X1_layEmpty vs as (f_X1_volumeAt vr (0 : Int32)) (f_X1_volumeAt vr (1 : Int32)) (f_X1_volumeAt vr (2 : Int32))).1) ((f_X1_layEmpty vs as (f_X1_volumeAt vr (0 : Int32)) (f_X1_volumeAt vr (1 : Int32)) (f_X1_volumeAt vr (2 : Int32))).2) ((f_X2_reach (f_J7_fill_53178 1000 ds (-1 : Int32)) fa od rd (f_X1_state ar) (0 : Int32) (-1 : Int32)).1) ((f_X2_reach (f_J7_fill_53178 1000 ds (-1 : Int32)) fa od rd (f_X1_state ar) (0 : Int32) (-1 : Int32)).2.1) ((f_X2_reach (f_J7_fill_53178 1000 ds (-1 : Int32)) fa od rd (f_X1_state ar) (0 : Int32) (-1 : Int32)).2.2.1) ((f_X2_reach (f_J7_fill_53178 1000 ds (-1 : Int32)) fa od rd (f_X1_state ar) (0 : Int32) (-1 : Int32)).2.2.2))) ∧ (¬ rd ≤ (0 : Int32) → True)) := hs
  refine lv_aload_n hx hb dX2_explore_0 rfl (lv_at hl 0 rfl) ?_
  refine va_get (D := G.1) (ci := 2) (v := .int rd) (C := RX2) (T := TX2) (N := 5) hx hb hts in_X2_explore_X2 hown hK.1 hP 0 rfl rfl 4 (by decide) (hts (.fieldLink RX2 28 "JarRiddle$Ways" "reached" "I") (by decide +kernel)) (fun _ h9 => h9) rfl dX2_explore_1 ?_
  refine lv_if_le (tgt := 8) hx hb dX2_explore_4 (by decide) (fun (c_1 : rd ≤ (0 : Int32)) => ?_) (fun (c_1 : ¬ rd ≤ (0 : Int32)) => ?_)
  · have hs := hs.1 c_1
    refine lv_aload_n hx hb dX2_explore_8 rfl (lv_at hl 0 rfl) ?_
    refine va_get (D := G.1) (ci := 2) (v := .ref wd) (C := RX2) (T := TX2) (N := 5) hx hb hts in_X2_explore_X2 hown hK.1 hP 0 rfl rfl 1 (by decide) (hts (.fieldLink RX2 18 "JarRiddle$Ways" "distance" "[I") (by decide +kernel)) (fun _ h9 => h9) rfl dX2_explore_9 ?_
    refine lv_iconst (v := (-1 : Int32)) hx hb dX2_explore_12 (by decide) ?_
    refine z_callSX (As := [.ref wd, .int (-1 : Int32)]) (rest := []) (wr := ([(wh, .inr (2, [.ref sh, .ref wd, .ref wf, .ref wo, .int rd])), (sh, .inr (1, [.ref sv, .ref sa])), (sv, .inl (G.2.1, 3, .inl vs)), (sa, .inl (G.2.1, 3, .inl as)), (wf, .inl (G.2.1, 1000, .inl fa)), (wo, .inl (G.2.1, 1000, .inl od)), (rh, .inr (1, [.ref rv, .ref ra])), (rv, .inl (G.2.1, 3, .inl vr)), (ra, .inl (G.2.1, 3, .inl ar))] : va_W)) (w1 := fun _ : Unit => (w_J7 G 1000 wd (f_J7_fill_53178 1000 ds (-1 : Int32)))) (wj := fun _ : Unit => (w_X2e G wh sh sv sa wd wf wo rh rv ra vs as (f_J7_fill_53178 1000 ds (-1 : Int32)) fa od rd vr ar)) F (c_J7_fill_53178 l G 1000 wd ds (-1 : Int32) (by decide)) gX2_explore_J7_fill_53178 rfl rfl rfl zd_J7_fill_53178 ⟨Nat.le_of_ble_eq_true rfl, Nat.le_of_ble_eq_true rfl⟩ rfl rfl (Nat.le_of_ble_eq_true rfl) dX2_explore_13 ⟨Nat.le_of_ble_eq_true rfl, Nat.le_of_ble_eq_true rfl⟩ hK hP hD hS hA hl.1 [4] [0, 1, 2, 3, 5, 6, 7, 8, 9] [0, 1, 2, 3, 9, 4, 5, 6, 7, 8] rfl rfl rfl rfl (by decide) rfl (fun _ => rfl) (fun _ H locs hP hD hS => ?_)
    have hP : va_P G.1 vwCl (w_X2e G wh sh sv sa wd wf wo rh rv ra vs as (f_J7_fill_53178 1000 ds (-1 : Int32)) fa od rd vr ar) H := hP
    have hD : va_D A (w_X2e G wh sh sv sa wd wf wo rh rv ra vs as (f_J7_fill_53178 1000 ds (-1 : Int32)) fa od rd vr ar) := hD
    refine lv_aload_n hx hb dX2_explore_16 rfl (lv_at hl 0 rfl) ?_
    refine va_get (D := G.1) (ci := 2) (v := .ref sh) (C := RX2) (T := TX2) (N := 5) hx hb hts in_X2_explore_X2 hown hK.1 hP 0 rfl rfl 0 (by decide) (hts (.fieldLink RX2 12 "JarRiddle$Ways" "step" "LJarRiddle$Row;") (by decide +kernel)) (fun _ h9 => h9) rfl dX2_explore_17 ?_
    refine lv_aload_n hx hb dX2_explore_20 rfl (lv_at hl 1 rfl) ?_
    refine lv_iconst (v := (0 : Int32)) hx hb dX2_explore_21 (by decide) ?_
    refine z_callV (As := [.int (0 : Int32)]) (rest := [.ref sh]) (wr := ([(wh, .inr (2, [.ref sh, .ref wd, .ref wf, .ref wo, .int rd])), (sh, .inr (1, [.ref sv, .ref sa])), (sv, .inl (G.2.1, 3, .inl vs)), (sa, .inl (G.2.1, 3, .inl as)), (wd, .inl (G.2.1, 1000, .inl (f_J7_fill_53178 1000 ds (-1 : Int32)))), (wf, .inl (G.2.1, 1000, .inl fa)), (wo, .inl (G.2.1, 1000, .inl od))] : va_W)) (w1 := fun _ : Unit => (w_X1 G rh rv ra vr ar)) (wj := fun _ : Unit => (w_X2e G wh sh sv sa wd wf wo rh rv ra vs as (f_J7_fill_53178 1000 ds (-1 : Int32)) fa od rd vr ar)) (ci := 1) (q0 := 7) F (c_X1_volumeAt l G rh rv ra vr ar (0 : Int32)) gX2_explore_X1_volumeAt rfl rfl rfl zd_X1_volumeAt ⟨Nat.le_of_ble_eq_true rfl, Nat.le_of_ble_eq_true rfl⟩ rfl rfl (Nat.le_of_ble_eq_true rfl) dX2_explore_22 ⟨Nat.le_of_ble_eq_true rfl, Nat.le_of_ble_eq_true rfl⟩ hK hP hD hS hA hl.1 rfl rfl [7, 8, 9] [0, 1, 2, 3, 4, 5, 6] [0, 1, 2, 3, 4, 5, 6, 7, 8, 9] rfl rfl rfl rfl (by decide) rfl (fun _ => rfl) (fun _ H locs hP hD hS => ?_)
    have hP : va_P G.1 vwCl (w_X2e G wh sh sv sa wd wf wo rh rv ra vs as (f_J7_fill_53178 1000 ds (-1 : Int32)) fa od rd vr ar) H := hP
    have hD : va_D A (w_X2e G wh sh sv sa wd wf wo rh rv ra vs as (f_J7_fill_53178 1000 ds (-1 : Int32)) fa od rd vr ar) := hD
    refine lv_aload_n hx hb dX2_explore_25 rfl (lv_at hl 1 rfl) ?_
    refine lv_iconst (v := (1 : Int32)) hx hb dX2_explore_26 (by decide) ?_
    refine z_callV (As := [.int (1 : Int32)]) (rest := [.int (f_X1_volumeAt vr (0 : Int32)), .ref sh]) (wr := ([(wh, .inr (2, [.ref sh, .ref wd, .ref wf, .ref wo, .int rd])), (sh, .inr (1, [.ref sv, .ref sa])), (sv, .inl (G.2.1, 3, .inl vs)), (sa, .inl (G.2.1, 3, .inl as)), (wd, .inl (G.2.1, 1000, .inl (f_J7_fill_53178 1000 ds (-1 : Int32)))), (wf, .inl (G.2.1, 1000, .inl fa)), (wo, .inl (G.2.1, 1000, .inl od))] : va_W)) (w1 := fun _ : Unit => (w_X1 G rh rv ra vr ar)) (wj := fun _ : Unit => (w_X2e G wh sh sv sa wd wf wo rh rv ra vs as (f_J7_fill_53178 1000 ds (-1 : Int32)) fa od rd vr ar)) (ci := 1) (q0 := 7) F (c_X1_volumeAt l G rh rv ra vr ar (1 : Int32)) gX2_explore_X1_volumeAt rfl rfl rfl zd_X1_volumeAt ⟨Nat.le_of_ble_eq_true rfl, Nat.le_of_ble_eq_true rfl⟩ rfl rfl (Nat.le_of_ble_eq_true rfl) dX2_explore_27 ⟨Nat.le_of_ble_eq_true rfl, Nat.le_of_ble_eq_true rfl⟩ hK hP hD hS hA hl.1 rfl rfl [7, 8, 9] [0, 1, 2, 3, 4, 5, 6] [0, 1, 2, 3, 4, 5, 6, 7, 8, 9] rfl rfl rfl rfl (by decide) rfl (fun _ => rfl) (fun _ H locs hP hD hS => ?_)
    have hP : va_P G.1 vwCl (w_X2e G wh sh sv sa wd wf wo rh rv ra vs as (f_J7_fill_53178 1000 ds (-1 : Int32)) fa od rd vr ar) H := hP
    have hD : va_D A (w_X2e G wh sh sv sa wd wf wo rh rv ra vs as (f_J7_fill_53178 1000 ds (-1 : Int32)) fa od rd vr ar) := hD
    refine lv_aload_n hx hb dX2_explore_30 rfl (lv_at hl 1 rfl) ?_
    refine lv_iconst (v := (2 : Int32)) hx hb dX2_explore_31 (by decide) ?_
    refine z_callV (As := [.int (2 : Int32)]) (rest := [.int (f_X1_volumeAt vr (1 : Int32)), .int (f_X1_volumeAt vr (0 : Int32)), .ref sh]) (wr := ([(wh, .inr (2, [.ref sh, .ref wd, .ref wf, .ref wo, .int rd])), (sh, .inr (1, [.ref sv, .ref sa])), (sv, .inl (G.2.1, 3, .inl vs)), (sa, .inl (G.2.1, 3, .inl as)), (wd, .inl (G.2.1, 1000, .inl (f_J7_fill_53178 1000 ds (-1 : Int32)))), (wf, .inl (G.2.1, 1000, .inl fa)), (wo, .inl (G.2.1, 1000, .inl od))] : va_W)) (w1 := fun _ : Unit => (w_X1 G rh rv ra vr ar)) (wj := fun _ : Unit => (w_X2e G wh sh sv sa wd wf wo rh rv ra vs as (f_J7_fill_53178 1000 ds (-1 : Int32)) fa od rd vr ar)) (ci := 1) (q0 := 7) F (c_X1_volumeAt l G rh rv ra vr ar (2 : Int32)) gX2_explore_X1_volumeAt rfl rfl rfl zd_X1_volumeAt ⟨Nat.le_of_ble_eq_true rfl, Nat.le_of_ble_eq_true rfl⟩ rfl rfl (Nat.le_of_ble_eq_true rfl) dX2_explore_32 ⟨Nat.le_of_ble_eq_true rfl, Nat.le_of_ble_eq_true rfl⟩ hK hP hD hS hA hl.1 rfl rfl [7, 8, 9] [0, 1, 2, 3, 4, 5, 6] [0, 1, 2, 3, 4, 5, 6, 7, 8, 9] rfl rfl rfl rfl (by decide) rfl (fun _ => rfl) (fun _ H locs hP hD hS => ?_)
    have hP : va_P G.1 vwCl (w_X2e G wh sh sv sa wd wf wo rh rv ra vs as (f_J7_fill_53178 1000 ds (-1 : Int32)) fa od rd vr ar) H := hP
    have hD : va_D A (w_X2e G wh sh sv sa wd wf wo rh rv ra vs as (f_J7_fill_53178 1000 ds (-1 : Int32)) fa od rd vr ar) := hD
    refine z_callV (As := [.int (f_X1_volumeAt vr (0 : Int32)), .int (f_X1_volumeAt vr (1 : Int32)), .int (f_X1_volumeAt vr (2 : Int32))]) (rest := []) (wr := ([(wh, .inr (2, [.ref sh, .ref wd, .ref wf, .ref wo, .int rd])), (wd, .inl (G.2.1, 1000, .inl (f_J7_fill_53178 1000 ds (-1 : Int32)))), (wf, .inl (G.2.1, 1000, .inl fa)), (wo, .inl (G.2.1, 1000, .inl od)), (rh, .inr (1, [.ref rv, .ref ra])), (rv, .inl (G.2.1, 3, .inl vr)), (ra, .inl (G.2.1, 3, .inl ar))] : va_W)) (w1 := fun _ : Unit => (w_X1 G sh sv sa ((f_X1_layEmpty vs as (f_X1_volumeAt vr (0 : Int32)) (f_X1_volumeAt vr (1 : Int32)) (f_X1_volumeAt vr (2 : Int32))).1) ((f_X1_layEmpty vs as (f_X1_volumeAt vr (0 : Int32)) (f_X1_volumeAt vr (1 : Int32)) (f_X1_volumeAt vr (2 : Int32))).2))) (wj := fun _ : Unit => (w_X2e G wh sh sv sa wd wf wo rh rv ra (f_X1_layEmpty vs as (f_X1_volumeAt vr (0 : Int32)) (f_X1_volumeAt vr (1 : Int32)) (f_X1_volumeAt vr (2 : Int32))).1 (f_X1_layEmpty vs as (f_X1_volumeAt vr (0 : Int32)) (f_X1_volumeAt vr (1 : Int32)) (f_X1_volumeAt vr (2 : Int32))).2 (f_J7_fill_53178 1000 ds (-1 : Int32)) fa od rd vr ar)) (ci := 1) (q0 := 1) F (c_X1_layEmpty l G sh sv sa vs as (f_X1_volumeAt vr (0 : Int32)) (f_X1_volumeAt vr (1 : Int32)) (f_X1_volumeAt vr (2 : Int32))) gX2_explore_X1_layEmpty rfl rfl rfl zd_X1_layEmpty ⟨Nat.le_of_ble_eq_true rfl, Nat.le_of_ble_eq_true rfl⟩ rfl rfl (Nat.le_of_ble_eq_true rfl) dX2_explore_35 ⟨Nat.le_of_ble_eq_true rfl, Nat.le_of_ble_eq_true rfl⟩ hK hP hD hS hA hl.1 rfl rfl [1, 2, 3] [0, 4, 5, 6, 7, 8, 9] [0, 7, 8, 9, 1, 2, 3, 4, 5, 6] rfl rfl rfl rfl (by decide) rfl (fun _ => rfl) (fun _ H locs hP hD hS => ?_)
    have hP : va_P G.1 vwCl (w_X2e G wh sh sv sa wd wf wo rh rv ra (f_X1_layEmpty vs as (f_X1_volumeAt vr (0 : Int32)) (f_X1_volumeAt vr (1 : Int32)) (f_X1_volumeAt vr (2 : Int32))).1 (f_X1_layEmpty vs as (f_X1_volumeAt vr (0 : Int32)) (f_X1_volumeAt vr (1 : Int32)) (f_X1_volumeAt vr (2 : Int32))).2 (f_J7_fill_53178 1000 ds (-1 : Int32)) fa od rd vr ar) H := hP
    have hD : va_D A (w_X2e G wh sh sv sa wd wf wo rh rv ra (f_X1_layEmpty vs as (f_X1_volumeAt vr (0 : Int32)) (f_X1_volumeAt vr (1 : Int32)) (f_X1_volumeAt vr (2 : Int32))).1 (f_X1_layEmpty vs as (f_X1_volumeAt vr (0 : Int32)) (f_X1_volumeAt vr (1 : Int32)) (f_X1_volumeAt vr (2 : Int32))).2 (f_J7_fill_53178 1000 ds (-1 : Int32)) fa od rd vr ar) := hD
    refine lv_aload_n hx hb dX2_explore_38 rfl (lv_at hl 0 rfl) ?_
    refine lv_aload_n hx hb dX2_explore_39 rfl (lv_at hl 1 rfl) ?_
    refine z_callV (As := []) (rest := [.ref wh]) (wr := ([(wh, .inr (2, [.ref sh, .ref wd, .ref wf, .ref wo, .int rd])), (sh, .inr (1, [.ref sv, .ref sa])), (sv, .inl (G.2.1, 3, .inl (f_X1_layEmpty vs as (f_X1_volumeAt vr (0 : Int32)) (f_X1_volumeAt vr (1 : Int32)) (f_X1_volumeAt vr (2 : Int32))).1)), (sa, .inl (G.2.1, 3, .inl (f_X1_layEmpty vs as (f_X1_volumeAt vr (0 : Int32)) (f_X1_volumeAt vr (1 : Int32)) (f_X1_volumeAt vr (2 : Int32))).2)), (wd, .inl (G.2.1, 1000, .inl (f_J7_fill_53178 1000 ds (-1 : Int32)))), (wf, .inl (G.2.1, 1000, .inl fa)), (wo, .inl (G.2.1, 1000, .inl od))] : va_W)) (w1 := fun _ : Unit => (w_X1 G rh rv ra vr ar)) (wj := fun _ : Unit => (w_X2e G wh sh sv sa wd wf wo rh rv ra (f_X1_layEmpty vs as (f_X1_volumeAt vr (0 : Int32)) (f_X1_volumeAt vr (1 : Int32)) (f_X1_volumeAt vr (2 : Int32))).1 (f_X1_layEmpty vs as (f_X1_volumeAt vr (0 : Int32)) (f_X1_volumeAt vr (1 : Int32)) (f_X1_volumeAt vr (2 : Int32))).2 (f_J7_fill_53178 1000 ds (-1 : Int32)) fa od rd vr ar)) (ci := 1) (q0 := 7) F (c_X1_state l G rh rv ra vr ar) gX2_explore_X1_state rfl rfl rfl zd_X1_state ⟨Nat.le_of_ble_eq_true rfl, Nat.le_of_ble_eq_true rfl⟩ rfl rfl (Nat.le_of_ble_eq_true rfl) dX2_explore_40 ⟨Nat.le_of_ble_eq_true rfl, Nat.le_of_ble_eq_true rfl⟩ hK hP hD hS hA hl.1 rfl rfl [7, 8, 9] [0, 1, 2, 3, 4, 5, 6] [0, 1, 2, 3, 4, 5, 6, 7, 8, 9] rfl rfl rfl rfl (by decide) rfl (fun _ => rfl) (fun _ H locs hP hD hS => ?_)
    have hP : va_P G.1 vwCl (w_X2e G wh sh sv sa wd wf wo rh rv ra (f_X1_layEmpty vs as (f_X1_volumeAt vr (0 : Int32)) (f_X1_volumeAt vr (1 : Int32)) (f_X1_volumeAt vr (2 : Int32))).1 (f_X1_layEmpty vs as (f_X1_volumeAt vr (0 : Int32)) (f_X1_volumeAt vr (1 : Int32)) (f_X1_volumeAt vr (2 : Int32))).2 (f_J7_fill_53178 1000 ds (-1 : Int32)) fa od rd vr ar) H := hP
    have hD : va_D A (w_X2e G wh sh sv sa wd wf wo rh rv ra (f_X1_layEmpty vs as (f_X1_volumeAt vr (0 : Int32)) (f_X1_volumeAt vr (1 : Int32)) (f_X1_volumeAt vr (2 : Int32))).1 (f_X1_layEmpty vs as (f_X1_volumeAt vr (0 : Int32)) (f_X1_volumeAt vr (1 : Int32)) (f_X1_volumeAt vr (2 : Int32))).2 (f_J7_fill_53178 1000 ds (-1 : Int32)) fa od rd vr ar) := hD
    refine lv_iconst (v := (0 : Int32)) hx hb dX2_explore_43 (by decide) ?_
    refine lv_iconst (v := (-1 : Int32)) hx hb dX2_explore_44 (by decide) ?_
    obtain ⟨h_2, hs⟩ := hs
    refine z_callV (As := [.int (f_X1_state ar), .int (0 : Int32), .int (-1 : Int32)]) (rest := []) (wr := ([(rh, .inr (1, [.ref rv, .ref ra])), (rv, .inl (G.2.1, 3, .inl vr)), (ra, .inl (G.2.1, 3, .inl ar))] : va_W)) (w1 := fun _ : Unit => (w_X2 G wh sh sv sa wd wf wo ((f_X1_layEmpty vs as (f_X1_volumeAt vr (0 : Int32)) (f_X1_volumeAt vr (1 : Int32)) (f_X1_volumeAt vr (2 : Int32))).1) ((f_X1_layEmpty vs as (f_X1_volumeAt vr (0 : Int32)) (f_X1_volumeAt vr (1 : Int32)) (f_X1_volumeAt vr (2 : Int32))).2) ((f_X2_reach (f_J7_fill_53178 1000 ds (-1 : Int32)) fa od rd (f_X1_state ar) (0 : Int32) (-1 : Int32)).1) ((f_X2_reach (f_J7_fill_53178 1000 ds (-1 : Int32)) fa od rd (f_X1_state ar) (0 : Int32) (-1 : Int32)).2.1) ((f_X2_reach (f_J7_fill_53178 1000 ds (-1 : Int32)) fa od rd (f_X1_state ar) (0 : Int32) (-1 : Int32)).2.2.1) ((f_X2_reach (f_J7_fill_53178 1000 ds (-1 : Int32)) fa od rd (f_X1_state ar) (0 : Int32) (-1 : Int32)).2.2.2))) (wj := fun _ : Unit => (w_X2e G wh sh sv sa wd wf wo rh rv ra (f_X1_layEmpty vs as (f_X1_volumeAt vr (0 : Int32)) (f_X1_volumeAt vr (1 : Int32)) (f_X1_volumeAt vr (2 : Int32))).1 (f_X1_layEmpty vs as (f_X1_volumeAt vr (0 : Int32)) (f_X1_volumeAt vr (1 : Int32)) (f_X1_volumeAt vr (2 : Int32))).2 (f_X2_reach (f_J7_fill_53178 1000 ds (-1 : Int32)) fa od rd (f_X1_state ar) (0 : Int32) (-1 : Int32)).1 (f_X2_reach (f_J7_fill_53178 1000 ds (-1 : Int32)) fa od rd (f_X1_state ar) (0 : Int32) (-1 : Int32)).2.1 (f_X2_reach (f_J7_fill_53178 1000 ds (-1 : Int32)) fa od rd (f_X1_state ar) (0 : Int32) (-1 : Int32)).2.2.1 (f_X2_reach (f_J7_fill_53178 1000 ds (-1 : Int32)) fa od rd (f_X1_state ar) (0 : Int32) (-1 : Int32)).2.2.2 vr ar)) (ci := 2) (q0 := 0) F (c_X2_reach l G wh sh sv sa wd wf wo ((f_X1_layEmpty vs as (f_X1_volumeAt vr (0 : Int32)) (f_X1_volumeAt vr (1 : Int32)) (f_X1_volumeAt vr (2 : Int32))).1) ((f_X1_layEmpty vs as (f_X1_volumeAt vr (0 : Int32)) (f_X1_volumeAt vr (1 : Int32)) (f_X1_volumeAt vr (2 : Int32))).2) (f_J7_fill_53178 1000 ds (-1 : Int32)) fa od rd (f_X1_state ar) (0 : Int32) (-1 : Int32) h_2) gX2_explore_X2_reach rfl rfl rfl zd_X2_reach ⟨Nat.le_of_ble_eq_true rfl, Nat.le_of_ble_eq_true rfl⟩ rfl rfl (Nat.le_of_ble_eq_true rfl) dX2_explore_45 ⟨Nat.le_of_ble_eq_true rfl, Nat.le_of_ble_eq_true rfl⟩ hK hP hD hS hA hl.1 rfl rfl [0, 1, 2, 3, 4, 5, 6] [7, 8, 9] [3, 4, 5, 6, 7, 8, 9, 0, 1, 2] rfl rfl rfl rfl (by decide) rfl (fun _ => rfl) (fun _ H locs hP hD hS => ?_)
    have hP : va_P G.1 vwCl (w_X2e G wh sh sv sa wd wf wo rh rv ra (f_X1_layEmpty vs as (f_X1_volumeAt vr (0 : Int32)) (f_X1_volumeAt vr (1 : Int32)) (f_X1_volumeAt vr (2 : Int32))).1 (f_X1_layEmpty vs as (f_X1_volumeAt vr (0 : Int32)) (f_X1_volumeAt vr (1 : Int32)) (f_X1_volumeAt vr (2 : Int32))).2 (f_X2_reach (f_J7_fill_53178 1000 ds (-1 : Int32)) fa od rd (f_X1_state ar) (0 : Int32) (-1 : Int32)).1 (f_X2_reach (f_J7_fill_53178 1000 ds (-1 : Int32)) fa od rd (f_X1_state ar) (0 : Int32) (-1 : Int32)).2.1 (f_X2_reach (f_J7_fill_53178 1000 ds (-1 : Int32)) fa od rd (f_X1_state ar) (0 : Int32) (-1 : Int32)).2.2.1 (f_X2_reach (f_J7_fill_53178 1000 ds (-1 : Int32)) fa od rd (f_X1_state ar) (0 : Int32) (-1 : Int32)).2.2.2 vr ar) H := hP
    have hD : va_D A (w_X2e G wh sh sv sa wd wf wo rh rv ra (f_X1_layEmpty vs as (f_X1_volumeAt vr (0 : Int32)) (f_X1_volumeAt vr (1 : Int32)) (f_X1_volumeAt vr (2 : Int32))).1 (f_X1_layEmpty vs as (f_X1_volumeAt vr (0 : Int32)) (f_X1_volumeAt vr (1 : Int32)) (f_X1_volumeAt vr (2 : Int32))).2 (f_X2_reach (f_J7_fill_53178 1000 ds (-1 : Int32)) fa od rd (f_X1_state ar) (0 : Int32) (-1 : Int32)).1 (f_X2_reach (f_J7_fill_53178 1000 ds (-1 : Int32)) fa od rd (f_X1_state ar) (0 : Int32) (-1 : Int32)).2.1 (f_X2_reach (f_J7_fill_53178 1000 ds (-1 : Int32)) fa od rd (f_X1_state ar) (0 : Int32) (-1 : Int32)).2.2.1 (f_X2_reach (f_J7_fill_53178 1000 ds (-1 : Int32)) fa od rd (f_X1_state ar) (0 : Int32) (-1 : Int32)).2.2.2 vr ar) := hD
    refine lv_iconst (v := (0 : Int32)) hx hb dX2_explore_48 (by decide) ?_
    refine lv_istore_n (lv' := [(2, .int (0 : Int32)), (0, .ref wh), (1, .ref rh)]) hx hb dX2_explore_49 rfl hl (by decide) rfl (fun ls hl => ?_)
    have h_6 := hs
    refine l_X2_explore_50 F hr hlocks hK hA wh sh sv sa wd wf wo rh rv ra 1001 0 ((f_X1_layEmpty vs as (f_X1_volumeAt vr (0 : Int32)) (f_X1_volumeAt vr (1 : Int32)) (f_X1_volumeAt vr (2 : Int32))).1) ((f_X1_layEmpty vs as (f_X1_volumeAt vr (0 : Int32)) (f_X1_volumeAt vr (1 : Int32)) (f_X1_volumeAt vr (2 : Int32))).2) ((f_X2_reach (f_J7_fill_53178 1000 ds (-1 : Int32)) fa od rd (f_X1_state ar) (0 : Int32) (-1 : Int32)).1) ((f_X2_reach (f_J7_fill_53178 1000 ds (-1 : Int32)) fa od rd (f_X1_state ar) (0 : Int32) (-1 : Int32)).2.1) ((f_X2_reach (f_J7_fill_53178 1000 ds (-1 : Int32)) fa od rd (f_X1_state ar) (0 : Int32) (-1 : Int32)).2.2.1) ((f_X2_reach (f_J7_fill_53178 1000 ds (-1 : Int32)) fa od rd (f_X1_state ar) (0 : Int32) (-1 : Int32)).2.2.2) vr ar (by omega) (by omega) h_6 H locs ls hP hD hS (lv_sub hl [1, 0] rfl) ?_
    intro H locs ls hP hD hS hl
    have hP : va_P G.1 vwCl (w_X2e G wh sh sv sa wd wf wo rh rv ra (f_X1_layEmpty vs as (f_X1_volumeAt vr (0 : Int32)) (f_X1_volumeAt vr (1 : Int32)) (f_X1_volumeAt vr (2 : Int32))).1 (f_X2_explore_t1 vs as ds fa od rd vr ar) (f_X2_explore_t2 vs as ds fa od rd vr ar) (f_X2_explore_t3 vs as ds fa od rd vr ar) (f_X2_explore_t4 vs as ds fa od rd vr ar) (f_X2_explore_t5 vs as ds fa od rd vr ar) vr ar) H := hP
    have hD : va_D A (w_X2e G wh sh sv sa wd wf wo rh rv ra (f_X1_layEmpty vs as (f_X1_volumeAt vr (0 : Int32)) (f_X1_volumeAt vr (1 : Int32)) (f_X1_volumeAt vr (2 : Int32))).1 (f_X2_explore_t1 vs as ds fa od rd vr ar) (f_X2_explore_t2 vs as ds fa od rd vr ar) (f_X2_explore_t3 vs as ds fa od rd vr ar) (f_X2_explore_t4 vs as ds fa od rd vr ar) (f_X2_explore_t5 vs as ds fa od rd vr ar) vr ar) := hD
    have hl : lv_has ls 3 [] := hl
    have e9 : (f_X2_explore vs as ds fa od rd vr ar) = ((f_X1_layEmpty vs as (f_X1_volumeAt vr (0 : Int32)) (f_X1_volumeAt vr (1 : Int32)) (f_X1_volumeAt vr (2 : Int32))).1, (f_X2_explore_t1 vs as ds fa od rd vr ar), (f_X2_explore_t2 vs as ds fa od rd vr ar), (f_X2_explore_t3 vs as ds fa od rd vr ar), (f_X2_explore_t4 vs as ds fa od rd vr ar), (f_X2_explore_t5 vs as ds fa od rd vr ar)) := (f_X2_explore_eq vs as ds fa od rd vr ar).trans ((if_pos c_1).trans (rfl))
    rw [e9]
    dsimp only
    exact z_vret F hr hlocks hP hD hS () [0, 1, 2, 3, 4, 5, 6, 7, 8, 9] rfl rfl rfl dX2_explore_80
  · have e9 : (f_X2_explore vs as ds fa od rd vr ar) = (vs, as, ds, fa, od, rd) := (f_X2_explore_eq vs as ds fa od rd vr ar).trans ((if_neg c_1).trans (rfl))
    rw [e9]
    dsimp only
    exact z_vret F hr hlocks hP hD hS () [0, 1, 2, 3, 4, 5, 6, 7, 8, 9] rfl rfl rfl dX2_explore_7
def lf_X2_nearestWith_2 : Nat → Nat → (Nat → Int32) → (Nat → Int32) → (Nat → Int32) → Int32 → Int32 → Int32 × (Nat → Int32)
  | 0, k, vs, as, od, rd, x1 => (0, as)
  | n + 1, k, vs, as, od, rd, x1 => (if rd ≤ (nI k) then ((-1 : Int32), as) else (if (f_X1_holdsSomewhere vs (f_X1_hold as (f_X2_stateAt od rd (nI k))) x1) = (0 : Int32) then (lf_X2_nearestWith_2 n (k + 1) vs (f_X1_hold as (f_X2_stateAt od rd (nI k))) od rd x1) else ((f_X2_stateAt od rd (nI k)), (f_X1_hold as (f_X2_stateAt od rd (nI k))))))
theorem lf_X2_nearestWith_2_succ (n k : Nat) (vs : Nat → Int32) (as : Nat → Int32) (od : Nat → Int32) (rd : Int32) (x1 : Int32) : lf_X2_nearestWith_2 (n + 1) k vs as od rd x1 = (if rd ≤ (nI k) then ((-1 : Int32), as) else (if (f_X1_holdsSomewhere vs (f_X1_hold as (f_X2_stateAt od rd (nI k))) x1) = (0 : Int32) then (lf_X2_nearestWith_2 n (k + 1) vs (f_X1_hold as (f_X2_stateAt od rd (nI k))) od rd x1) else ((f_X2_stateAt od rd (nI k)), (f_X1_hold as (f_X2_stateAt od rd (nI k)))))) := rfl
def f_X2_nearestWith (vs : Nat → Int32) (as : Nat → Int32) (od : Nat → Int32) (rd : Int32) (p1 : Int32) : Int32 × (Nat → Int32) := (lf_X2_nearestWith_2 (rd.toNatClampNeg + 1) 0 vs as od rd p1)
theorem f_X2_nearestWith_eq (vs : Nat → Int32) (as : Nat → Int32) (od : Nat → Int32) (rd : Int32) (p1 : Int32) : f_X2_nearestWith vs as od rd p1 = (lf_X2_nearestWith_2 (rd.toNatClampNeg + 1) 0 vs as od rd p1) := rfl
abbrev rm_X2_nearestWith : Room := { frames := 2, cells := 0, slots := 0, locals := 43 }
theorem zd_X2_nearestWith : yX2_nearestWith.cls = RX2 ∧ yX2_nearestWith.cls ≠ "java/lang/invoke/MethodHandle" ∧ yX2_nearestWith.cls ≠ "java/lang/invoke/VarHandle" ∧ (parseMethodDescriptor yX2_nearestWith.desc).map (fun d => d.parameters.length) = some 1 := by decide +kernel
theorem in_X2_nearestWith_X2 : ∀ w ∈ u_ws RX2 TX2 5, w ∈ wsX2_nearestWith := by decide +kernel
set_option maxHeartbeats 4000000 in
set_option maxRecDepth 100000 in
theorem l_X2_nearestWith_2 {p : Program} {l : Launch} {e : Env} {s : State} {m : MethodId} {args : Array Value} {below : List Frame} {meth : Method} {c : Code} {A : Nat → Prop} {G : zG} (F : CallFix p m c cX2_nearestWith 3 s args wsX2_nearestWith RX2) (hr : meth.sig.returnType = (some .int)) (hlocks : meth.locks = false) (hK : zK G s) (hA : ∀ q : Nat, s.heap.size ≤ q → A q) (wh sh sv sa wd wf wo : Nat) :
    ∀ (n k : Nat) (vs : Nat → Int32) (as : Nat → Int32) (ds : Nat → Int32) (fa : Nat → Int32) (od : Nat → Int32) (rd : Int32) (x1 : Int32), k + n = rd.toNatClampNeg + 1 → k ≤ rd.toNatClampNeg → ∀ (H : Heap) (locs : List Loc) (ls : Array Slot), va_P G.1 vwCl (w_X2 G wh sh sv sa wd wf wo vs as ds fa od rd) H → va_D A (w_X2 G wh sh sv sa wd wf wo vs as ds fa od rd) → va_S A s.heap H locs → lv_has ls 3 [(0, .ref wh), (1, .int x1), (2, .int (nI k))] → W p l e rm_X2_nearestWith s m args below meth c H locs 0 0 (MQ below (zQ G (some (.int (lf_X2_nearestWith_2 n k vs as od rd x1).1)) (fun _ : Unit => (w_X2 G wh sh sv sa wd wf wo vs ((lf_X2_nearestWith_2 n k vs as od rd x1).2) ds fa od rd)) A) args s 0 0 A) (F0 m 2 ls []) := by
  obtain ⟨hx, hb, hml, hown, hts⟩ := id F
  intro n
  induction n with
  | zero => intro k vs as ds fa od rd x1 h1 h2; omega
  | succ n IH9 =>
    intro k vs as ds fa od rd x1 hkn hkN H locs ls hP hD hS hl
    refine lv_iload_n hx hb dX2_nearestWith_2 rfl (lv_at hl 2 rfl) ?_
    refine lv_aload_n hx hb dX2_nearestWith_3 rfl (lv_at hl 0 rfl) ?_
    refine va_get (D := G.1) (ci := 2) (v := .int rd) (C := RX2) (T := TX2) (N := 5) hx hb hts in_X2_nearestWith_X2 hown hK.1 hP 0 rfl rfl 4 (by decide) (hts (.fieldLink RX2 28 "JarRiddle$Ways" "reached" "I") (by decide +kernel)) (fun _ h9 => h9) rfl dX2_nearestWith_4 ?_
    refine lv_icmp_ge (tgt := 45) hx hb dX2_nearestWith_7 (by decide) (fun (c_1 : rd ≤ (nI k)) => ?_) (fun (c_1 : ¬ rd ≤ (nI k)) => ?_)
    · refine lv_iconst (v := (-1 : Int32)) hx hb dX2_nearestWith_45 (by decide) ?_
      have e9 : (lf_X2_nearestWith_2 (n + 1) k vs as od rd x1) = ((-1 : Int32), as) := (lf_X2_nearestWith_2_succ n k vs as od rd x1).trans ((if_pos c_1).trans (rfl))
      rw [e9]
      dsimp only
      exact z_iret F hr hlocks hP hD hS () [0, 1, 2, 3, 4, 5, 6] rfl rfl rfl dX2_nearestWith_46
    · refine lv_aload_n hx hb dX2_nearestWith_10 rfl (lv_at hl 0 rfl) ?_
      refine va_get (D := G.1) (ci := 2) (v := .ref sh) (C := RX2) (T := TX2) (N := 5) hx hb hts in_X2_nearestWith_X2 hown hK.1 hP 0 rfl rfl 0 (by decide) (hts (.fieldLink RX2 12 "JarRiddle$Ways" "step" "LJarRiddle$Row;") (by decide +kernel)) (fun _ h9 => h9) rfl dX2_nearestWith_11 ?_
      refine lv_aload_n hx hb dX2_nearestWith_14 rfl (lv_at hl 0 rfl) ?_
      refine lv_iload_n hx hb dX2_nearestWith_15 rfl (lv_at hl 2 rfl) ?_
      refine z_callV (As := [.int (nI k)]) (rest := [.ref sh]) (wr := ([] : va_W)) (w1 := fun _ : Unit => (w_X2 G wh sh sv sa wd wf wo vs as ds fa od rd)) (wj := fun _ : Unit => (w_X2 G wh sh sv sa wd wf wo vs as ds fa od rd)) (ci := 2) (q0 := 0) F (c_X2_stateAt l G wh sh sv sa wd wf wo vs as ds fa od rd (nI k)) gX2_nearestWith_X2_stateAt rfl rfl rfl zd_X2_stateAt ⟨Nat.le_of_ble_eq_true rfl, Nat.le_of_ble_eq_true rfl⟩ rfl rfl (Nat.le_of_ble_eq_true rfl) dX2_nearestWith_16 ⟨Nat.le_of_ble_eq_true rfl, Nat.le_of_ble_eq_true rfl⟩ hK hP hD hS hA hl.1 rfl rfl [0, 1, 2, 3, 4, 5, 6] [] [0, 1, 2, 3, 4, 5, 6] rfl rfl rfl rfl (by decide) rfl (fun _ => rfl) (fun _ H locs hP hD hS => ?_)
      have hP : va_P G.1 vwCl (w_X2 G wh sh sv sa wd wf wo vs as ds fa od rd) H := hP
      have hD : va_D A (w_X2 G wh sh sv sa wd wf wo vs as ds fa od rd) := hD
      refine z_callV (As := [.int (f_X2_stateAt od rd (nI k))]) (rest := []) (wr := ([(wh, .inr (2, [.ref sh, .ref wd, .ref wf, .ref wo, .int rd])), (wd, .inl (G.2.1, 1000, .inl ds)), (wf, .inl (G.2.1, 1000, .inl fa)), (wo, .inl (G.2.1, 1000, .inl od))] : va_W)) (w1 := fun _ : Unit => (w_X1 G sh sv sa vs (f_X1_hold as (f_X2_stateAt od rd (nI k))))) (wj := fun _ : Unit => (w_X2 G wh sh sv sa wd wf wo vs (f_X1_hold as (f_X2_stateAt od rd (nI k))) ds fa od rd)) (ci := 1) (q0 := 1) F (c_X1_hold l G sh sv sa vs as (f_X2_stateAt od rd (nI k))) gX2_nearestWith_X1_hold rfl rfl rfl zd_X1_hold ⟨Nat.le_of_ble_eq_true rfl, Nat.le_of_ble_eq_true rfl⟩ rfl rfl (Nat.le_of_ble_eq_true rfl) dX2_nearestWith_19 ⟨Nat.le_of_ble_eq_true rfl, Nat.le_of_ble_eq_true rfl⟩ hK hP hD hS hA hl.1 rfl rfl [1, 2, 3] [0, 4, 5, 6] [0, 4, 5, 6, 1, 2, 3] rfl rfl rfl rfl (by decide) rfl (fun _ => rfl) (fun _ H locs hP hD hS => ?_)
      have hP : va_P G.1 vwCl (w_X2 G wh sh sv sa wd wf wo vs (f_X1_hold as (f_X2_stateAt od rd (nI k))) ds fa od rd) H := hP
      have hD : va_D A (w_X2 G wh sh sv sa wd wf wo vs (f_X1_hold as (f_X2_stateAt od rd (nI k))) ds fa od rd) := hD
      refine lv_aload_n hx hb dX2_nearestWith_22 rfl (lv_at hl 0 rfl) ?_
      refine va_get (D := G.1) (ci := 2) (v := .ref sh) (C := RX2) (T := TX2) (N := 5) hx hb hts in_X2_nearestWith_X2 hown hK.1 hP 0 rfl rfl 0 (by decide) (hts (.fieldLink RX2 12 "JarRiddle$Ways" "step" "LJarRiddle$Row;") (by decide +kernel)) (fun _ h9 => h9) rfl dX2_nearestWith_23 ?_
      refine lv_iload_n hx hb dX2_nearestWith_26 rfl (lv_at hl 1 rfl) ?_
      refine z_callV (As := [.int x1]) (rest := []) (wr := ([(wh, .inr (2, [.ref sh, .ref wd, .ref wf, .ref wo, .int rd])), (wd, .inl (G.2.1, 1000, .inl ds)), (wf, .inl (G.2.1, 1000, .inl fa)), (wo, .inl (G.2.1, 1000, .inl od))] : va_W)) (w1 := fun _ : Unit => (w_X1 G sh sv sa vs (f_X1_hold as (f_X2_stateAt od rd (nI k))))) (wj := fun _ : Unit => (w_X2 G wh sh sv sa wd wf wo vs (f_X1_hold as (f_X2_stateAt od rd (nI k))) ds fa od rd)) (ci := 1) (q0 := 1) F (c_X1_holdsSomewhere l G sh sv sa vs (f_X1_hold as (f_X2_stateAt od rd (nI k))) x1) gX2_nearestWith_X1_holdsSomewhere rfl rfl rfl zd_X1_holdsSomewhere ⟨Nat.le_of_ble_eq_true rfl, Nat.le_of_ble_eq_true rfl⟩ rfl rfl (Nat.le_of_ble_eq_true rfl) dX2_nearestWith_27 ⟨Nat.le_of_ble_eq_true rfl, Nat.le_of_ble_eq_true rfl⟩ hK hP hD hS hA hl.1 rfl rfl [1, 2, 3] [0, 4, 5, 6] [0, 4, 5, 6, 1, 2, 3] rfl rfl rfl rfl (by decide) rfl (fun _ => rfl) (fun _ H locs hP hD hS => ?_)
      have hP : va_P G.1 vwCl (w_X2 G wh sh sv sa wd wf wo vs (f_X1_hold as (f_X2_stateAt od rd (nI k))) ds fa od rd) H := hP
      have hD : va_D A (w_X2 G wh sh sv sa wd wf wo vs (f_X1_hold as (f_X2_stateAt od rd (nI k))) ds fa od rd) := hD
      refine lv_if_eq (tgt := 39) hx hb dX2_nearestWith_30 (by decide) (fun (c_2 : (f_X1_holdsSomewhere vs (f_X1_hold as (f_X2_stateAt od rd (nI k))) x1) = (0 : Int32)) => ?_) (fun (c_2 : ¬ (f_X1_holdsSomewhere vs (f_X1_hold as (f_X2_stateAt od rd (nI k))) x1) = (0 : Int32)) => ?_)
      · refine lv_iinc (v := (nI (k + 1))) (lv' := [(2, .int (nI (k + 1))), (0, .ref wh), (1, .int x1)]) hx hb dX2_nearestWith_39 hl (k := 2) rfl (nI_1 k) (by decide) rfl (fun ls hl => ?_)
        refine lv_goto (tgt := 2) hx hb dX2_nearestWith_42 (by decide) ?_
        have e9 : (lf_X2_nearestWith_2 (n + 1) k vs as od rd x1) = (lf_X2_nearestWith_2 n (k + 1) vs (f_X1_hold as (f_X2_stateAt od rd (nI k))) od rd x1) := (lf_X2_nearestWith_2_succ n k vs as od rd x1).trans ((if_neg c_1).trans ((if_pos c_2).trans (rfl)))
        rw [e9]
        have h9 := zk_lt (N := rd.toNatClampNeg) (by have := zk_cl rd; omega) rfl c_1
        exact IH9 (k + 1) vs (f_X1_hold as (f_X2_stateAt od rd (nI k))) ds fa od rd x1 (by omega) (by omega) H locs ls hP hD hS (lv_sub hl [1, 2, 0] rfl)
      · refine lv_aload_n hx hb dX2_nearestWith_33 rfl (lv_at hl 0 rfl) ?_
        refine lv_iload_n hx hb dX2_nearestWith_34 rfl (lv_at hl 2 rfl) ?_
        refine z_callV (As := [.int (nI k)]) (rest := []) (wr := ([] : va_W)) (w1 := fun _ : Unit => (w_X2 G wh sh sv sa wd wf wo vs (f_X1_hold as (f_X2_stateAt od rd (nI k))) ds fa od rd)) (wj := fun _ : Unit => (w_X2 G wh sh sv sa wd wf wo vs (f_X1_hold as (f_X2_stateAt od rd (nI k))) ds fa od rd)) (ci := 2) (q0 := 0) F (c_X2_stateAt l G wh sh sv sa wd wf wo vs (f_X1_hold as (f_X2_stateAt od rd (nI k))) ds fa od rd (nI k)) gX2_nearestWith_X2_stateAt rfl rfl rfl zd_X2_stateAt ⟨Nat.le_of_ble_eq_true rfl, Nat.le_of_ble_eq_true rfl⟩ rfl rfl (Nat.le_of_ble_eq_true rfl) dX2_nearestWith_35 ⟨Nat.le_of_ble_eq_true rfl, Nat.le_of_ble_eq_true rfl⟩ hK hP hD hS hA hl.1 rfl rfl [0, 1, 2, 3, 4, 5, 6] [] [0, 1, 2, 3, 4, 5, 6] rfl rfl rfl rfl (by decide) rfl (fun _ => rfl) (fun _ H locs hP hD hS => ?_)
        have hP : va_P G.1 vwCl (w_X2 G wh sh sv sa wd wf wo vs (f_X1_hold as (f_X2_stateAt od rd (nI k))) ds fa od rd) H := hP
        have hD : va_D A (w_X2 G wh sh sv sa wd wf wo vs (f_X1_hold as (f_X2_stateAt od rd (nI k))) ds fa od rd) := hD
        have e9 : (lf_X2_nearestWith_2 (n + 1) k vs as od rd x1) = ((f_X2_stateAt od rd (nI k)), (f_X1_hold as (f_X2_stateAt od rd (nI k)))) := (lf_X2_nearestWith_2_succ n k vs as od rd x1).trans ((if_neg c_1).trans ((if_neg c_2).trans (rfl)))
        rw [e9]
        dsimp only
        exact z_iret F hr hlocks hP hD hS () [0, 1, 2, 3, 4, 5, 6] rfl rfl rfl dX2_nearestWith_38
set_option maxHeartbeats 4000000 in
set_option maxRecDepth 100000 in
/-- JarRiddle$Ways.nearestWith(I)I -/
theorem c_X2_nearestWith (l : Launch) (G : zG) (wh sh sv sa wd wf wo : Nat) (vs : Nat → Int32) (as : Nat → Int32) (ds : Nat → Int32) (fa : Nat → Int32) (od : Nat → Int32) (rd : Int32) (p1 : Int32) : zC l G yX2_nearestWith wsX2_nearestWith rm_X2_nearestWith 0 0 [.ref wh, .int p1] (w_X2 G wh sh sv sa wd wf wo vs as ds fa od rd) (some (.int (f_X2_nearestWith vs as od rd p1).1)) (fun _ : Unit => (w_X2 G wh sh sv sa wd wf wo vs ((f_X2_nearestWith vs as od rd p1).2) ds fa od rd)) := by
  refine z_of (cc := cX2_nearestWith) (maxL := 3) (ret := (some .int)) (own := RX2) (by decide) rfl rfl (Nat.le_of_ble_eq_true rfl) ?_
  intro p e s m args below meth c A H locs ls F hr hlocks hname hK hA hP hD hS hl
  obtain ⟨hx, hb, hml, hown, hts⟩ := id F
  have hl : lv_has ls 3 [(0, .ref wh), (1, .int p1)] := hl
  refine lv_iconst (v := (0 : Int32)) hx hb dX2_nearestWith_0 (by decide) ?_
  refine lv_istore_n (lv' := [(2, .int (0 : Int32)), (0, .ref wh), (1, .int p1)]) hx hb dX2_nearestWith_1 rfl hl (by decide) rfl (fun ls hl => ?_)
  have e9 : (f_X2_nearestWith vs as od rd p1) = (lf_X2_nearestWith_2 (rd.toNatClampNeg + 1) 0 vs as od rd p1) := (f_X2_nearestWith_eq vs as od rd p1).trans (rfl)
  rw [e9]
  exact l_X2_nearestWith_2 F hr hlocks hK hA wh sh sv sa wd wf wo (rd.toNatClampNeg + 1) 0 vs as ds fa od rd p1 (by omega) (by omega) H locs ls hP hD hS (lv_sub hl [1, 2, 0] rfl)
def f_X2_leastActsTo (vs : Nat → Int32) (as : Nat → Int32) (ds : Nat → Int32) (od : Nat → Int32) (rd : Int32) (p1 : Int32) : Int32 × (Nat → Int32) := ((f_X2_distanceOf ds ((f_X2_nearestWith vs as od rd p1).1)), (f_X2_nearestWith vs as od rd p1).2)
theorem f_X2_leastActsTo_eq (vs : Nat → Int32) (as : Nat → Int32) (ds : Nat → Int32) (od : Nat → Int32) (rd : Int32) (p1 : Int32) : f_X2_leastActsTo vs as ds od rd p1 = ((f_X2_distanceOf ds ((f_X2_nearestWith vs as od rd p1).1)), (f_X2_nearestWith vs as od rd p1).2) := rfl
abbrev rm_X2_leastActsTo : Room := { frames := 3, cells := 0, slots := 0, locals := 65 }
theorem zd_X2_leastActsTo : yX2_leastActsTo.cls = RX2 ∧ yX2_leastActsTo.cls ≠ "java/lang/invoke/MethodHandle" ∧ yX2_leastActsTo.cls ≠ "java/lang/invoke/VarHandle" ∧ (parseMethodDescriptor yX2_leastActsTo.desc).map (fun d => d.parameters.length) = some 1 := by decide +kernel
set_option maxHeartbeats 4000000 in
set_option maxRecDepth 100000 in
/-- JarRiddle$Ways.leastActsTo(I)I -/
theorem c_X2_leastActsTo (l : Launch) (G : zG) (wh sh sv sa wd wf wo : Nat) (vs : Nat → Int32) (as : Nat → Int32) (ds : Nat → Int32) (fa : Nat → Int32) (od : Nat → Int32) (rd : Int32) (p1 : Int32) : zC l G yX2_leastActsTo wsX2_leastActsTo rm_X2_leastActsTo 0 0 [.ref wh, .int p1] (w_X2 G wh sh sv sa wd wf wo vs as ds fa od rd) (some (.int (f_X2_leastActsTo vs as ds od rd p1).1)) (fun _ : Unit => (w_X2 G wh sh sv sa wd wf wo vs ((f_X2_leastActsTo vs as ds od rd p1).2) ds fa od rd)) := by
  refine z_of (cc := cX2_leastActsTo) (maxL := 2) (ret := (some .int)) (own := RX2) (by decide) rfl rfl (Nat.le_of_ble_eq_true rfl) ?_
  intro p e s m args below meth c A H locs ls F hr hlocks hname hK hA hP hD hS hl
  obtain ⟨hx, hb, hml, hown, hts⟩ := id F
  have hl : lv_has ls 2 [(0, .ref wh), (1, .int p1)] := hl
  refine lv_aload_n hx hb dX2_leastActsTo_0 rfl (lv_at hl 0 rfl) ?_
  refine lv_aload_n hx hb dX2_leastActsTo_1 rfl (lv_at hl 0 rfl) ?_
  refine lv_iload_n hx hb dX2_leastActsTo_2 rfl (lv_at hl 1 rfl) ?_
  refine z_callV (As := [.int p1]) (rest := [.ref wh]) (wr := ([] : va_W)) (w1 := fun _ : Unit => (w_X2 G wh sh sv sa wd wf wo vs ((f_X2_nearestWith vs as od rd p1).2) ds fa od rd)) (wj := fun _ : Unit => (w_X2 G wh sh sv sa wd wf wo vs (f_X2_nearestWith vs as od rd p1).2 ds fa od rd)) (ci := 2) (q0 := 0) F (c_X2_nearestWith l G wh sh sv sa wd wf wo vs as ds fa od rd p1) gX2_leastActsTo_X2_nearestWith rfl rfl rfl zd_X2_nearestWith ⟨Nat.le_of_ble_eq_true rfl, Nat.le_of_ble_eq_true rfl⟩ rfl rfl (Nat.le_of_ble_eq_true rfl) dX2_leastActsTo_3 ⟨Nat.le_of_ble_eq_true rfl, Nat.le_of_ble_eq_true rfl⟩ hK hP hD hS hA hl.1 rfl rfl [0, 1, 2, 3, 4, 5, 6] [] [0, 1, 2, 3, 4, 5, 6] rfl rfl rfl rfl (by decide) rfl (fun _ => rfl) (fun _ H locs hP hD hS => ?_)
  have hP : va_P G.1 vwCl (w_X2 G wh sh sv sa wd wf wo vs (f_X2_nearestWith vs as od rd p1).2 ds fa od rd) H := hP
  have hD : va_D A (w_X2 G wh sh sv sa wd wf wo vs (f_X2_nearestWith vs as od rd p1).2 ds fa od rd) := hD
  refine z_callV (As := [.int (f_X2_nearestWith vs as od rd p1).1]) (rest := []) (wr := ([] : va_W)) (w1 := fun _ : Unit => (w_X2 G wh sh sv sa wd wf wo vs ((f_X2_nearestWith vs as od rd p1).2) ds fa od rd)) (wj := fun _ : Unit => (w_X2 G wh sh sv sa wd wf wo vs (f_X2_nearestWith vs as od rd p1).2 ds fa od rd)) (ci := 2) (q0 := 0) F (c_X2_distanceOf l G wh sh sv sa wd wf wo vs ((f_X2_nearestWith vs as od rd p1).2) ds fa od rd ((f_X2_nearestWith vs as od rd p1).1)) gX2_leastActsTo_X2_distanceOf rfl rfl rfl zd_X2_distanceOf ⟨Nat.le_of_ble_eq_true rfl, Nat.le_of_ble_eq_true rfl⟩ rfl rfl (Nat.le_of_ble_eq_true rfl) dX2_leastActsTo_6 ⟨Nat.le_of_ble_eq_true rfl, Nat.le_of_ble_eq_true rfl⟩ hK hP hD hS hA hl.1 rfl rfl [0, 1, 2, 3, 4, 5, 6] [] [0, 1, 2, 3, 4, 5, 6] rfl rfl rfl rfl (by decide) rfl (fun _ => rfl) (fun _ H locs hP hD hS => ?_)
  have hP : va_P G.1 vwCl (w_X2 G wh sh sv sa wd wf wo vs (f_X2_nearestWith vs as od rd p1).2 ds fa od rd) H := hP
  have hD : va_D A (w_X2 G wh sh sv sa wd wf wo vs (f_X2_nearestWith vs as od rd p1).2 ds fa od rd) := hD
  have e9 : (f_X2_leastActsTo vs as ds od rd p1) = ((f_X2_distanceOf ds ((f_X2_nearestWith vs as od rd p1).1)), (f_X2_nearestWith vs as od rd p1).2) := (f_X2_leastActsTo_eq vs as ds od rd p1).trans (rfl)
  rw [e9]
  dsimp only
  exact z_iret F hr hlocks hP hD hS () [0, 1, 2, 3, 4, 5, 6] rfl rfl rfl dX2_leastActsTo_9
def lf_X2_leastActsWith_2 : Nat → Nat → (Nat → Int32) → (Nat → Int32) → (Nat → Int32) → Int32 → Int32 → Int32 → Int32 × (Nat → Int32)
  | 0, k, as, ds, od, rd, x1, x2 => (0, as)
  | n + 1, k, as, ds, od, rd, x1, x2 => (if rd ≤ (nI k) then ((-1 : Int32), as) else (if (f_X1_amountAt (f_X1_hold as (f_X2_stateAt od rd (nI k))) x1) = x2 then ((f_X2_distanceOf ds (f_X2_stateAt od rd (nI k))), (f_X1_hold as (f_X2_stateAt od rd (nI k)))) else (lf_X2_leastActsWith_2 n (k + 1) (f_X1_hold as (f_X2_stateAt od rd (nI k))) ds od rd x1 x2)))
theorem lf_X2_leastActsWith_2_succ (n k : Nat) (as : Nat → Int32) (ds : Nat → Int32) (od : Nat → Int32) (rd : Int32) (x1 : Int32) (x2 : Int32) : lf_X2_leastActsWith_2 (n + 1) k as ds od rd x1 x2 = (if rd ≤ (nI k) then ((-1 : Int32), as) else (if (f_X1_amountAt (f_X1_hold as (f_X2_stateAt od rd (nI k))) x1) = x2 then ((f_X2_distanceOf ds (f_X2_stateAt od rd (nI k))), (f_X1_hold as (f_X2_stateAt od rd (nI k)))) else (lf_X2_leastActsWith_2 n (k + 1) (f_X1_hold as (f_X2_stateAt od rd (nI k))) ds od rd x1 x2))) := rfl
def f_X2_leastActsWith (as : Nat → Int32) (ds : Nat → Int32) (od : Nat → Int32) (rd : Int32) (p1 : Int32) (p2 : Int32) : Int32 × (Nat → Int32) := (lf_X2_leastActsWith_2 (rd.toNatClampNeg + 1) 0 as ds od rd p1 p2)
theorem f_X2_leastActsWith_eq (as : Nat → Int32) (ds : Nat → Int32) (od : Nat → Int32) (rd : Int32) (p1 : Int32) (p2 : Int32) : f_X2_leastActsWith as ds od rd p1 p2 = (lf_X2_leastActsWith_2 (rd.toNatClampNeg + 1) 0 as ds od rd p1 p2) := rfl
abbrev rm_X2_leastActsWith : Room := { frames := 1, cells := 0, slots := 0, locals := 21 }
theorem zd_X2_leastActsWith : yX2_leastActsWith.cls = RX2 ∧ yX2_leastActsWith.cls ≠ "java/lang/invoke/MethodHandle" ∧ yX2_leastActsWith.cls ≠ "java/lang/invoke/VarHandle" ∧ (parseMethodDescriptor yX2_leastActsWith.desc).map (fun d => d.parameters.length) = some 2 := by decide +kernel
theorem in_X2_leastActsWith_X2 : ∀ w ∈ u_ws RX2 TX2 5, w ∈ wsX2_leastActsWith := by decide +kernel
set_option maxHeartbeats 4000000 in
set_option maxRecDepth 100000 in
theorem l_X2_leastActsWith_2 {p : Program} {l : Launch} {e : Env} {s : State} {m : MethodId} {args : Array Value} {below : List Frame} {meth : Method} {c : Code} {A : Nat → Prop} {G : zG} (F : CallFix p m c cX2_leastActsWith 4 s args wsX2_leastActsWith RX2) (hr : meth.sig.returnType = (some .int)) (hlocks : meth.locks = false) (hK : zK G s) (hA : ∀ q : Nat, s.heap.size ≤ q → A q) (wh sh sv sa wd wf wo : Nat) :
    ∀ (n k : Nat) (vs : Nat → Int32) (as : Nat → Int32) (ds : Nat → Int32) (fa : Nat → Int32) (od : Nat → Int32) (rd : Int32) (x1 : Int32) (x2 : Int32), k + n = rd.toNatClampNeg + 1 → k ≤ rd.toNatClampNeg → ∀ (H : Heap) (locs : List Loc) (ls : Array Slot), va_P G.1 vwCl (w_X2 G wh sh sv sa wd wf wo vs as ds fa od rd) H → va_D A (w_X2 G wh sh sv sa wd wf wo vs as ds fa od rd) → va_S A s.heap H locs → lv_has ls 4 [(0, .ref wh), (1, .int x1), (2, .int x2), (3, .int (nI k))] → W p l e rm_X2_leastActsWith s m args below meth c H locs 0 0 (MQ below (zQ G (some (.int (lf_X2_leastActsWith_2 n k as ds od rd x1 x2).1)) (fun _ : Unit => (w_X2 G wh sh sv sa wd wf wo vs ((lf_X2_leastActsWith_2 n k as ds od rd x1 x2).2) ds fa od rd)) A) args s 0 0 A) (F0 m 2 ls []) := by
  obtain ⟨hx, hb, hml, hown, hts⟩ := id F
  intro n
  induction n with
  | zero => intro k vs as ds fa od rd x1 x2 h1 h2; omega
  | succ n IH9 =>
    intro k vs as ds fa od rd x1 x2 hkn hkN H locs ls hP hD hS hl
    refine lv_iload_n hx hb dX2_leastActsWith_2 rfl (lv_at hl 3 rfl) ?_
    refine lv_aload_n hx hb dX2_leastActsWith_3 rfl (lv_at hl 0 rfl) ?_
    refine va_get (D := G.1) (ci := 2) (v := .int rd) (C := RX2) (T := TX2) (N := 5) hx hb hts in_X2_leastActsWith_X2 hown hK.1 hP 0 rfl rfl 4 (by decide) (hts (.fieldLink RX2 28 "JarRiddle$Ways" "reached" "I") (by decide +kernel)) (fun _ h9 => h9) rfl dX2_leastActsWith_4 ?_
    refine lv_icmp_ge (tgt := 50) hx hb dX2_leastActsWith_7 (by decide) (fun (c_1 : rd ≤ (nI k)) => ?_) (fun (c_1 : ¬ rd ≤ (nI k)) => ?_)
    · refine lv_iconst (v := (-1 : Int32)) hx hb dX2_leastActsWith_50 (by decide) ?_
      have e9 : (lf_X2_leastActsWith_2 (n + 1) k as ds od rd x1 x2) = ((-1 : Int32), as) := (lf_X2_leastActsWith_2_succ n k as ds od rd x1 x2).trans ((if_pos c_1).trans (rfl))
      rw [e9]
      dsimp only
      exact z_iret F hr hlocks hP hD hS () [0, 1, 2, 3, 4, 5, 6] rfl rfl rfl dX2_leastActsWith_51
    · refine lv_aload_n hx hb dX2_leastActsWith_10 rfl (lv_at hl 0 rfl) ?_
      refine va_get (D := G.1) (ci := 2) (v := .ref sh) (C := RX2) (T := TX2) (N := 5) hx hb hts in_X2_leastActsWith_X2 hown hK.1 hP 0 rfl rfl 0 (by decide) (hts (.fieldLink RX2 12 "JarRiddle$Ways" "step" "LJarRiddle$Row;") (by decide +kernel)) (fun _ h9 => h9) rfl dX2_leastActsWith_11 ?_
      refine lv_aload_n hx hb dX2_leastActsWith_14 rfl (lv_at hl 0 rfl) ?_
      refine lv_iload_n hx hb dX2_leastActsWith_15 rfl (lv_at hl 3 rfl) ?_
      refine z_callV (As := [.int (nI k)]) (rest := [.ref sh]) (wr := ([] : va_W)) (w1 := fun _ : Unit => (w_X2 G wh sh sv sa wd wf wo vs as ds fa od rd)) (wj := fun _ : Unit => (w_X2 G wh sh sv sa wd wf wo vs as ds fa od rd)) (ci := 2) (q0 := 0) F (c_X2_stateAt l G wh sh sv sa wd wf wo vs as ds fa od rd (nI k)) gX2_leastActsWith_X2_stateAt rfl rfl rfl zd_X2_stateAt ⟨Nat.le_of_ble_eq_true rfl, Nat.le_of_ble_eq_true rfl⟩ rfl rfl (Nat.le_of_ble_eq_true rfl) dX2_leastActsWith_16 ⟨Nat.le_of_ble_eq_true rfl, Nat.le_of_ble_eq_true rfl⟩ hK hP hD hS hA hl.1 rfl rfl [0, 1, 2, 3, 4, 5, 6] [] [0, 1, 2, 3, 4, 5, 6] rfl rfl rfl rfl (by decide) rfl (fun _ => rfl) (fun _ H locs hP hD hS => ?_)
      have hP : va_P G.1 vwCl (w_X2 G wh sh sv sa wd wf wo vs as ds fa od rd) H := hP
      have hD : va_D A (w_X2 G wh sh sv sa wd wf wo vs as ds fa od rd) := hD
      refine z_callV (As := [.int (f_X2_stateAt od rd (nI k))]) (rest := []) (wr := ([(wh, .inr (2, [.ref sh, .ref wd, .ref wf, .ref wo, .int rd])), (wd, .inl (G.2.1, 1000, .inl ds)), (wf, .inl (G.2.1, 1000, .inl fa)), (wo, .inl (G.2.1, 1000, .inl od))] : va_W)) (w1 := fun _ : Unit => (w_X1 G sh sv sa vs (f_X1_hold as (f_X2_stateAt od rd (nI k))))) (wj := fun _ : Unit => (w_X2 G wh sh sv sa wd wf wo vs (f_X1_hold as (f_X2_stateAt od rd (nI k))) ds fa od rd)) (ci := 1) (q0 := 1) F (c_X1_hold l G sh sv sa vs as (f_X2_stateAt od rd (nI k))) gX2_leastActsWith_X1_hold rfl rfl rfl zd_X1_hold ⟨Nat.le_of_ble_eq_true rfl, Nat.le_of_ble_eq_true rfl⟩ rfl rfl (Nat.le_of_ble_eq_true rfl) dX2_leastActsWith_19 ⟨Nat.le_of_ble_eq_true rfl, Nat.le_of_ble_eq_true rfl⟩ hK hP hD hS hA hl.1 rfl rfl [1, 2, 3] [0, 4, 5, 6] [0, 4, 5, 6, 1, 2, 3] rfl rfl rfl rfl (by decide) rfl (fun _ => rfl) (fun _ H locs hP hD hS => ?_)
      have hP : va_P G.1 vwCl (w_X2 G wh sh sv sa wd wf wo vs (f_X1_hold as (f_X2_stateAt od rd (nI k))) ds fa od rd) H := hP
      have hD : va_D A (w_X2 G wh sh sv sa wd wf wo vs (f_X1_hold as (f_X2_stateAt od rd (nI k))) ds fa od rd) := hD
      refine lv_aload_n hx hb dX2_leastActsWith_22 rfl (lv_at hl 0 rfl) ?_
      refine va_get (D := G.1) (ci := 2) (v := .ref sh) (C := RX2) (T := TX2) (N := 5) hx hb hts in_X2_leastActsWith_X2 hown hK.1 hP 0 rfl rfl 0 (by decide) (hts (.fieldLink RX2 12 "JarRiddle$Ways" "step" "LJarRiddle$Row;") (by decide +kernel)) (fun _ h9 => h9) rfl dX2_leastActsWith_23 ?_
      refine lv_iload_n hx hb dX2_leastActsWith_26 rfl (lv_at hl 1 rfl) ?_
      refine z_callV (As := [.int x1]) (rest := []) (wr := ([(wh, .inr (2, [.ref sh, .ref wd, .ref wf, .ref wo, .int rd])), (wd, .inl (G.2.1, 1000, .inl ds)), (wf, .inl (G.2.1, 1000, .inl fa)), (wo, .inl (G.2.1, 1000, .inl od))] : va_W)) (w1 := fun _ : Unit => (w_X1 G sh sv sa vs (f_X1_hold as (f_X2_stateAt od rd (nI k))))) (wj := fun _ : Unit => (w_X2 G wh sh sv sa wd wf wo vs (f_X1_hold as (f_X2_stateAt od rd (nI k))) ds fa od rd)) (ci := 1) (q0 := 1) F (c_X1_amountAt l G sh sv sa vs (f_X1_hold as (f_X2_stateAt od rd (nI k))) x1) gX2_leastActsWith_X1_amountAt rfl rfl rfl zd_X1_amountAt ⟨Nat.le_of_ble_eq_true rfl, Nat.le_of_ble_eq_true rfl⟩ rfl rfl (Nat.le_of_ble_eq_true rfl) dX2_leastActsWith_27 ⟨Nat.le_of_ble_eq_true rfl, Nat.le_of_ble_eq_true rfl⟩ hK hP hD hS hA hl.1 rfl rfl [1, 2, 3] [0, 4, 5, 6] [0, 4, 5, 6, 1, 2, 3] rfl rfl rfl rfl (by decide) rfl (fun _ => rfl) (fun _ H locs hP hD hS => ?_)
      have hP : va_P G.1 vwCl (w_X2 G wh sh sv sa wd wf wo vs (f_X1_hold as (f_X2_stateAt od rd (nI k))) ds fa od rd) H := hP
      have hD : va_D A (w_X2 G wh sh sv sa wd wf wo vs (f_X1_hold as (f_X2_stateAt od rd (nI k))) ds fa od rd) := hD
      refine lv_iload_n hx hb dX2_leastActsWith_30 rfl (lv_at hl 2 rfl) ?_
      refine lv_icmp_ne (tgt := 44) hx hb dX2_leastActsWith_31 (by decide) (fun (c_2 : ¬ (f_X1_amountAt (f_X1_hold as (f_X2_stateAt od rd (nI k))) x1) = x2) => ?_) (fun (c_2 : (f_X1_amountAt (f_X1_hold as (f_X2_stateAt od rd (nI k))) x1) = x2) => ?_)
      · refine lv_iinc (v := (nI (k + 1))) (lv' := [(3, .int (nI (k + 1))), (0, .ref wh), (1, .int x1), (2, .int x2)]) hx hb dX2_leastActsWith_44 hl (k := 3) rfl (nI_1 k) (by decide) rfl (fun ls hl => ?_)
        refine lv_goto (tgt := 2) hx hb dX2_leastActsWith_47 (by decide) ?_
        have e9 : (lf_X2_leastActsWith_2 (n + 1) k as ds od rd x1 x2) = (lf_X2_leastActsWith_2 n (k + 1) (f_X1_hold as (f_X2_stateAt od rd (nI k))) ds od rd x1 x2) := (lf_X2_leastActsWith_2_succ n k as ds od rd x1 x2).trans ((if_neg c_1).trans ((if_neg c_2).trans (rfl)))
        rw [e9]
        have h9 := zk_lt (N := rd.toNatClampNeg) (by have := zk_cl rd; omega) rfl c_1
        exact IH9 (k + 1) vs (f_X1_hold as (f_X2_stateAt od rd (nI k))) ds fa od rd x1 x2 (by omega) (by omega) H locs ls hP hD hS (lv_sub hl [1, 2, 3, 0] rfl)
      · refine lv_aload_n hx hb dX2_leastActsWith_34 rfl (lv_at hl 0 rfl) ?_
        refine lv_aload_n hx hb dX2_leastActsWith_35 rfl (lv_at hl 0 rfl) ?_
        refine lv_iload_n hx hb dX2_leastActsWith_36 rfl (lv_at hl 3 rfl) ?_
        refine z_callV (As := [.int (nI k)]) (rest := [.ref wh]) (wr := ([] : va_W)) (w1 := fun _ : Unit => (w_X2 G wh sh sv sa wd wf wo vs (f_X1_hold as (f_X2_stateAt od rd (nI k))) ds fa od rd)) (wj := fun _ : Unit => (w_X2 G wh sh sv sa wd wf wo vs (f_X1_hold as (f_X2_stateAt od rd (nI k))) ds fa od rd)) (ci := 2) (q0 := 0) F (c_X2_stateAt l G wh sh sv sa wd wf wo vs (f_X1_hold as (f_X2_stateAt od rd (nI k))) ds fa od rd (nI k)) gX2_leastActsWith_X2_stateAt rfl rfl rfl zd_X2_stateAt ⟨Nat.le_of_ble_eq_true rfl, Nat.le_of_ble_eq_true rfl⟩ rfl rfl (Nat.le_of_ble_eq_true rfl) dX2_leastActsWith_37 ⟨Nat.le_of_ble_eq_true rfl, Nat.le_of_ble_eq_true rfl⟩ hK hP hD hS hA hl.1 rfl rfl [0, 1, 2, 3, 4, 5, 6] [] [0, 1, 2, 3, 4, 5, 6] rfl rfl rfl rfl (by decide) rfl (fun _ => rfl) (fun _ H locs hP hD hS => ?_)
        have hP : va_P G.1 vwCl (w_X2 G wh sh sv sa wd wf wo vs (f_X1_hold as (f_X2_stateAt od rd (nI k))) ds fa od rd) H := hP
        have hD : va_D A (w_X2 G wh sh sv sa wd wf wo vs (f_X1_hold as (f_X2_stateAt od rd (nI k))) ds fa od rd) := hD
        refine z_callV (As := [.int (f_X2_stateAt od rd (nI k))]) (rest := []) (wr := ([] : va_W)) (w1 := fun _ : Unit => (w_X2 G wh sh sv sa wd wf wo vs (f_X1_hold as (f_X2_stateAt od rd (nI k))) ds fa od rd)) (wj := fun _ : Unit => (w_X2 G wh sh sv sa wd wf wo vs (f_X1_hold as (f_X2_stateAt od rd (nI k))) ds fa od rd)) (ci := 2) (q0 := 0) F (c_X2_distanceOf l G wh sh sv sa wd wf wo vs (f_X1_hold as (f_X2_stateAt od rd (nI k))) ds fa od rd (f_X2_stateAt od rd (nI k))) gX2_leastActsWith_X2_distanceOf rfl rfl rfl zd_X2_distanceOf ⟨Nat.le_of_ble_eq_true rfl, Nat.le_of_ble_eq_true rfl⟩ rfl rfl (Nat.le_of_ble_eq_true rfl) dX2_leastActsWith_40 ⟨Nat.le_of_ble_eq_true rfl, Nat.le_of_ble_eq_true rfl⟩ hK hP hD hS hA hl.1 rfl rfl [0, 1, 2, 3, 4, 5, 6] [] [0, 1, 2, 3, 4, 5, 6] rfl rfl rfl rfl (by decide) rfl (fun _ => rfl) (fun _ H locs hP hD hS => ?_)
        have hP : va_P G.1 vwCl (w_X2 G wh sh sv sa wd wf wo vs (f_X1_hold as (f_X2_stateAt od rd (nI k))) ds fa od rd) H := hP
        have hD : va_D A (w_X2 G wh sh sv sa wd wf wo vs (f_X1_hold as (f_X2_stateAt od rd (nI k))) ds fa od rd) := hD
        have e9 : (lf_X2_leastActsWith_2 (n + 1) k as ds od rd x1 x2) = ((f_X2_distanceOf ds (f_X2_stateAt od rd (nI k))), (f_X1_hold as (f_X2_stateAt od rd (nI k)))) := (lf_X2_leastActsWith_2_succ n k as ds od rd x1 x2).trans ((if_neg c_1).trans ((if_pos c_2).trans (rfl)))
        rw [e9]
        dsimp only
        exact z_iret F hr hlocks hP hD hS () [0, 1, 2, 3, 4, 5, 6] rfl rfl rfl dX2_leastActsWith_43
set_option maxHeartbeats 4000000 in
set_option maxRecDepth 100000 in
/-- JarRiddle$Ways.leastActsWith(II)I -/
theorem c_X2_leastActsWith (l : Launch) (G : zG) (wh sh sv sa wd wf wo : Nat) (vs : Nat → Int32) (as : Nat → Int32) (ds : Nat → Int32) (fa : Nat → Int32) (od : Nat → Int32) (rd : Int32) (p1 : Int32) (p2 : Int32) : zC l G yX2_leastActsWith wsX2_leastActsWith rm_X2_leastActsWith 0 0 [.ref wh, .int p1, .int p2] (w_X2 G wh sh sv sa wd wf wo vs as ds fa od rd) (some (.int (f_X2_leastActsWith as ds od rd p1 p2).1)) (fun _ : Unit => (w_X2 G wh sh sv sa wd wf wo vs ((f_X2_leastActsWith as ds od rd p1 p2).2) ds fa od rd)) := by
  refine z_of (cc := cX2_leastActsWith) (maxL := 4) (ret := (some .int)) (own := RX2) (by decide) rfl rfl (Nat.le_of_ble_eq_true rfl) ?_
  intro p e s m args below meth c A H locs ls F hr hlocks hname hK hA hP hD hS hl
  obtain ⟨hx, hb, hml, hown, hts⟩ := id F
  have hl : lv_has ls 4 [(0, .ref wh), (1, .int p1), (2, .int p2)] := hl
  refine lv_iconst (v := (0 : Int32)) hx hb dX2_leastActsWith_0 (by decide) ?_
  refine lv_istore_n (lv' := [(3, .int (0 : Int32)), (0, .ref wh), (1, .int p1), (2, .int p2)]) hx hb dX2_leastActsWith_1 rfl hl (by decide) rfl (fun ls hl => ?_)
  have e9 : (f_X2_leastActsWith as ds od rd p1 p2) = (lf_X2_leastActsWith_2 (rd.toNatClampNeg + 1) 0 as ds od rd p1 p2) := (f_X2_leastActsWith_eq as ds od rd p1 p2).trans (rfl)
  rw [e9]
  exact l_X2_leastActsWith_2 F hr hlocks hK hA wh sh sv sa wd wf wo (rd.toNatClampNeg + 1) 0 vs as ds fa od rd p1 p2 (by omega) (by omega) H locs ls hP hD hS (lv_sub hl [1, 2, 3, 0] rfl)
def f_X2_firstActTo (vs : Nat → Int32) (as : Nat → Int32) (fa : Nat → Int32) (od : Nat → Int32) (rd : Int32) (p1 : Int32) : Int32 × (Nat → Int32) := ((f_X2_firstActOf fa ((f_X2_nearestWith vs as od rd p1).1)), (f_X2_nearestWith vs as od rd p1).2)
theorem f_X2_firstActTo_eq (vs : Nat → Int32) (as : Nat → Int32) (fa : Nat → Int32) (od : Nat → Int32) (rd : Int32) (p1 : Int32) : f_X2_firstActTo vs as fa od rd p1 = ((f_X2_firstActOf fa ((f_X2_nearestWith vs as od rd p1).1)), (f_X2_nearestWith vs as od rd p1).2) := rfl
abbrev rm_X2_firstActTo : Room := { frames := 3, cells := 0, slots := 0, locals := 65 }
theorem zd_X2_firstActTo : yX2_firstActTo.cls = RX2 ∧ yX2_firstActTo.cls ≠ "java/lang/invoke/MethodHandle" ∧ yX2_firstActTo.cls ≠ "java/lang/invoke/VarHandle" ∧ (parseMethodDescriptor yX2_firstActTo.desc).map (fun d => d.parameters.length) = some 1 := by decide +kernel
set_option maxHeartbeats 4000000 in
set_option maxRecDepth 100000 in
/-- JarRiddle$Ways.firstActTo(I)I -/
theorem c_X2_firstActTo (l : Launch) (G : zG) (wh sh sv sa wd wf wo : Nat) (vs : Nat → Int32) (as : Nat → Int32) (ds : Nat → Int32) (fa : Nat → Int32) (od : Nat → Int32) (rd : Int32) (p1 : Int32) : zC l G yX2_firstActTo wsX2_firstActTo rm_X2_firstActTo 0 0 [.ref wh, .int p1] (w_X2 G wh sh sv sa wd wf wo vs as ds fa od rd) (some (.int (f_X2_firstActTo vs as fa od rd p1).1)) (fun _ : Unit => (w_X2 G wh sh sv sa wd wf wo vs ((f_X2_firstActTo vs as fa od rd p1).2) ds fa od rd)) := by
  refine z_of (cc := cX2_firstActTo) (maxL := 2) (ret := (some .int)) (own := RX2) (by decide) rfl rfl (Nat.le_of_ble_eq_true rfl) ?_
  intro p e s m args below meth c A H locs ls F hr hlocks hname hK hA hP hD hS hl
  obtain ⟨hx, hb, hml, hown, hts⟩ := id F
  have hl : lv_has ls 2 [(0, .ref wh), (1, .int p1)] := hl
  refine lv_aload_n hx hb dX2_firstActTo_0 rfl (lv_at hl 0 rfl) ?_
  refine lv_aload_n hx hb dX2_firstActTo_1 rfl (lv_at hl 0 rfl) ?_
  refine lv_iload_n hx hb dX2_firstActTo_2 rfl (lv_at hl 1 rfl) ?_
  refine z_callV (As := [.int p1]) (rest := [.ref wh]) (wr := ([] : va_W)) (w1 := fun _ : Unit => (w_X2 G wh sh sv sa wd wf wo vs ((f_X2_nearestWith vs as od rd p1).2) ds fa od rd)) (wj := fun _ : Unit => (w_X2 G wh sh sv sa wd wf wo vs (f_X2_nearestWith vs as od rd p1).2 ds fa od rd)) (ci := 2) (q0 := 0) F (c_X2_nearestWith l G wh sh sv sa wd wf wo vs as ds fa od rd p1) gX2_firstActTo_X2_nearestWith rfl rfl rfl zd_X2_nearestWith ⟨Nat.le_of_ble_eq_true rfl, Nat.le_of_ble_eq_true rfl⟩ rfl rfl (Nat.le_of_ble_eq_true rfl) dX2_firstActTo_3 ⟨Nat.le_of_ble_eq_true rfl, Nat.le_of_ble_eq_true rfl⟩ hK hP hD hS hA hl.1 rfl rfl [0, 1, 2, 3, 4, 5, 6] [] [0, 1, 2, 3, 4, 5, 6] rfl rfl rfl rfl (by decide) rfl (fun _ => rfl) (fun _ H locs hP hD hS => ?_)
  have hP : va_P G.1 vwCl (w_X2 G wh sh sv sa wd wf wo vs (f_X2_nearestWith vs as od rd p1).2 ds fa od rd) H := hP
  have hD : va_D A (w_X2 G wh sh sv sa wd wf wo vs (f_X2_nearestWith vs as od rd p1).2 ds fa od rd) := hD
  refine z_callV (As := [.int (f_X2_nearestWith vs as od rd p1).1]) (rest := []) (wr := ([] : va_W)) (w1 := fun _ : Unit => (w_X2 G wh sh sv sa wd wf wo vs ((f_X2_nearestWith vs as od rd p1).2) ds fa od rd)) (wj := fun _ : Unit => (w_X2 G wh sh sv sa wd wf wo vs (f_X2_nearestWith vs as od rd p1).2 ds fa od rd)) (ci := 2) (q0 := 0) F (c_X2_firstActOf l G wh sh sv sa wd wf wo vs ((f_X2_nearestWith vs as od rd p1).2) ds fa od rd ((f_X2_nearestWith vs as od rd p1).1)) gX2_firstActTo_X2_firstActOf rfl rfl rfl zd_X2_firstActOf ⟨Nat.le_of_ble_eq_true rfl, Nat.le_of_ble_eq_true rfl⟩ rfl rfl (Nat.le_of_ble_eq_true rfl) dX2_firstActTo_6 ⟨Nat.le_of_ble_eq_true rfl, Nat.le_of_ble_eq_true rfl⟩ hK hP hD hS hA hl.1 rfl rfl [0, 1, 2, 3, 4, 5, 6] [] [0, 1, 2, 3, 4, 5, 6] rfl rfl rfl rfl (by decide) rfl (fun _ => rfl) (fun _ H locs hP hD hS => ?_)
  have hP : va_P G.1 vwCl (w_X2 G wh sh sv sa wd wf wo vs (f_X2_nearestWith vs as od rd p1).2 ds fa od rd) H := hP
  have hD : va_D A (w_X2 G wh sh sv sa wd wf wo vs (f_X2_nearestWith vs as od rd p1).2 ds fa od rd) := hD
  have e9 : (f_X2_firstActTo vs as fa od rd p1) = ((f_X2_firstActOf fa ((f_X2_nearestWith vs as od rd p1).1)), (f_X2_nearestWith vs as od rd p1).2) := (f_X2_firstActTo_eq vs as fa od rd p1).trans (rfl)
  rw [e9]
  dsimp only
  exact z_iret F hr hlocks hP hD hS () [0, 1, 2, 3, 4, 5, 6] rfl rfl rfl dX2_firstActTo_9
def f_X2_statesReached (rd : Int32) : Int32 := rd
theorem f_X2_statesReached_eq (rd : Int32) : f_X2_statesReached rd = rd := rfl
abbrev rm_X2_statesReached : Room := { frames := 0, cells := 0, slots := 0, locals := 0 }
theorem zd_X2_statesReached : yX2_statesReached.cls = RX2 ∧ yX2_statesReached.cls ≠ "java/lang/invoke/MethodHandle" ∧ yX2_statesReached.cls ≠ "java/lang/invoke/VarHandle" ∧ (parseMethodDescriptor yX2_statesReached.desc).map (fun d => d.parameters.length) = some 0 := by decide +kernel
theorem in_X2_statesReached_X2 : ∀ w ∈ u_ws RX2 TX2 5, w ∈ wsX2_statesReached := by decide +kernel
set_option maxHeartbeats 4000000 in
set_option maxRecDepth 100000 in
/-- JarRiddle$Ways.statesReached()I -/
theorem c_X2_statesReached (l : Launch) (G : zG) (wh sh sv sa wd wf wo : Nat) (vs : Nat → Int32) (as : Nat → Int32) (ds : Nat → Int32) (fa : Nat → Int32) (od : Nat → Int32) (rd : Int32) : zC l G yX2_statesReached wsX2_statesReached rm_X2_statesReached 0 0 [.ref wh] (w_X2 G wh sh sv sa wd wf wo vs as ds fa od rd) (some (.int (f_X2_statesReached rd))) (fun _ : Unit => (w_X2 G wh sh sv sa wd wf wo vs as ds fa od rd)) := by
  refine z_of (cc := cX2_statesReached) (maxL := 1) (ret := (some .int)) (own := RX2) (by decide) rfl rfl (Nat.le_of_ble_eq_true rfl) ?_
  intro p e s m args below meth c A H locs ls F hr hlocks hname hK hA hP hD hS hl
  obtain ⟨hx, hb, hml, hown, hts⟩ := id F
  have hl : lv_has ls 1 [(0, .ref wh)] := hl
  refine lv_aload_n hx hb dX2_statesReached_0 rfl (lv_at hl 0 rfl) ?_
  refine va_get (D := G.1) (ci := 2) (v := .int rd) (C := RX2) (T := TX2) (N := 5) hx hb hts in_X2_statesReached_X2 hown hK.1 hP 0 rfl rfl 4 (by decide) (hts (.fieldLink RX2 28 "JarRiddle$Ways" "reached" "I") (by decide +kernel)) (fun _ h9 => h9) rfl dX2_statesReached_1 ?_
  have e9 : (f_X2_statesReached rd) = rd := (f_X2_statesReached_eq rd).trans (rfl)
  rw [e9]
  exact z_iret F hr hlocks hP hD hS () [0, 1, 2, 3, 4, 5, 6] rfl rfl rfl dX2_statesReached_4
def lf_X2_statesAt_4 : Nat → Nat → (Nat → Int32) → (Nat → Int32) → Int32 → Int32 → Int32 → Int32
  | 0, k, ds, od, rd, x1, x2 => x2
  | n + 1, k, ds, od, rd, x1, x2 => (if rd ≤ (nI k) then x2 else (if (f_X2_distanceOf ds (f_X2_stateAt od rd (nI k))) = x1 then (lf_X2_statesAt_4 n (k + 1) ds od rd x1 (x2 + (1 : Int32))) else (lf_X2_statesAt_4 n (k + 1) ds od rd x1 x2)))
theorem lf_X2_statesAt_4_succ (n k : Nat) (ds : Nat → Int32) (od : Nat → Int32) (rd : Int32) (x1 : Int32) (x2 : Int32) : lf_X2_statesAt_4 (n + 1) k ds od rd x1 x2 = (if rd ≤ (nI k) then x2 else (if (f_X2_distanceOf ds (f_X2_stateAt od rd (nI k))) = x1 then (lf_X2_statesAt_4 n (k + 1) ds od rd x1 (x2 + (1 : Int32))) else (lf_X2_statesAt_4 n (k + 1) ds od rd x1 x2))) := rfl
def f_X2_statesAt (ds : Nat → Int32) (od : Nat → Int32) (rd : Int32) (p1 : Int32) : Int32 := (lf_X2_statesAt_4 (rd.toNatClampNeg + 1) 0 ds od rd p1 (0 : Int32))
theorem f_X2_statesAt_eq (ds : Nat → Int32) (od : Nat → Int32) (rd : Int32) (p1 : Int32) : f_X2_statesAt ds od rd p1 = (lf_X2_statesAt_4 (rd.toNatClampNeg + 1) 0 ds od rd p1 (0 : Int32)) := rfl
abbrev rm_X2_statesAt : Room := { frames := 1, cells := 0, slots := 0, locals := 21 }
theorem zd_X2_statesAt : yX2_statesAt.cls = RX2 ∧ yX2_statesAt.cls ≠ "java/lang/invoke/MethodHandle" ∧ yX2_statesAt.cls ≠ "java/lang/invoke/VarHandle" ∧ (parseMethodDescriptor yX2_statesAt.desc).map (fun d => d.parameters.length) = some 1 := by decide +kernel
theorem in_X2_statesAt_X2 : ∀ w ∈ u_ws RX2 TX2 5, w ∈ wsX2_statesAt := by decide +kernel
set_option maxHeartbeats 4000000 in
set_option maxRecDepth 100000 in
theorem l_X2_statesAt_4 {p : Program} {l : Launch} {e : Env} {s : State} {m : MethodId} {args : Array Value} {below : List Frame} {meth : Method} {c : Code} {A : Nat → Prop} {Q : State → Prop} {G : zG} (F : CallFix p m c cX2_statesAt 4 s args wsX2_statesAt RX2) (hr : meth.sig.returnType = (some .int)) (hlocks : meth.locks = false) (hK : zK G s) (hA : ∀ q : Nat, s.heap.size ≤ q → A q) (wh sh sv sa wd wf wo : Nat) :
    ∀ (n k : Nat) (vs : Nat → Int32) (as : Nat → Int32) (ds : Nat → Int32) (fa : Nat → Int32) (od : Nat → Int32) (rd : Int32) (x1 : Int32) (x2 : Int32), k + n = rd.toNatClampNeg + 1 → k ≤ rd.toNatClampNeg → ∀ (H : Heap) (locs : List Loc) (ls : Array Slot), va_P G.1 vwCl (w_X2 G wh sh sv sa wd wf wo vs as ds fa od rd) H → va_D A (w_X2 G wh sh sv sa wd wf wo vs as ds fa od rd) → va_S A s.heap H locs → lv_has ls 4 [(0, .ref wh), (1, .int x1), (2, .int x2), (3, .int (nI k))] → (∀ (H : Heap) (locs : List Loc) (ls : Array Slot), va_P G.1 vwCl (w_X2 G wh sh sv sa wd wf wo vs as ds fa od rd) H → va_D A (w_X2 G wh sh sv sa wd wf wo vs as ds fa od rd) → va_S A s.heap H locs → lv_has ls 4 [(2, .int (lf_X2_statesAt_4 n k ds od rd x1 x2))] → W p l e rm_X2_statesAt s m args below meth c H locs 0 0 Q (F0 m 34 ls [])) → W p l e rm_X2_statesAt s m args below meth c H locs 0 0 Q (F0 m 4 ls []) := by
  obtain ⟨hx, hb, hml, hown, hts⟩ := id F
  intro n
  induction n with
  | zero => intro k vs as ds fa od rd x1 x2 h1 h2; omega
  | succ n IH9 =>
    intro k vs as ds fa od rd x1 x2 hkn hkN H locs ls hP hD hS hl kk
    refine lv_iload_n hx hb dX2_statesAt_4 rfl (lv_at hl 3 rfl) ?_
    refine lv_aload_n hx hb dX2_statesAt_5 rfl (lv_at hl 0 rfl) ?_
    refine va_get (D := G.1) (ci := 2) (v := .int rd) (C := RX2) (T := TX2) (N := 5) hx hb hts in_X2_statesAt_X2 hown hK.1 hP 0 rfl rfl 4 (by decide) (hts (.fieldLink RX2 28 "JarRiddle$Ways" "reached" "I") (by decide +kernel)) (fun _ h9 => h9) rfl dX2_statesAt_6 ?_
    refine lv_icmp_ge (tgt := 34) hx hb dX2_statesAt_9 (by decide) (fun (c_1 : rd ≤ (nI k)) => ?_) (fun (c_1 : ¬ rd ≤ (nI k)) => ?_)
    · have e9 : (lf_X2_statesAt_4 (n + 1) k ds od rd x1 x2) = x2 := (lf_X2_statesAt_4_succ n k ds od rd x1 x2).trans ((if_pos c_1).trans (rfl))
      rw [e9] at kk
      exact kk H locs ls hP hD hS (lv_sub hl [2] rfl)
    · refine lv_aload_n hx hb dX2_statesAt_12 rfl (lv_at hl 0 rfl) ?_
      refine lv_aload_n hx hb dX2_statesAt_13 rfl (lv_at hl 0 rfl) ?_
      refine lv_iload_n hx hb dX2_statesAt_14 rfl (lv_at hl 3 rfl) ?_
      refine z_callV (As := [.int (nI k)]) (rest := [.ref wh]) (wr := ([] : va_W)) (w1 := fun _ : Unit => (w_X2 G wh sh sv sa wd wf wo vs as ds fa od rd)) (wj := fun _ : Unit => (w_X2 G wh sh sv sa wd wf wo vs as ds fa od rd)) (ci := 2) (q0 := 0) F (c_X2_stateAt l G wh sh sv sa wd wf wo vs as ds fa od rd (nI k)) gX2_statesAt_X2_stateAt rfl rfl rfl zd_X2_stateAt ⟨Nat.le_of_ble_eq_true rfl, Nat.le_of_ble_eq_true rfl⟩ rfl rfl (Nat.le_of_ble_eq_true rfl) dX2_statesAt_15 ⟨Nat.le_of_ble_eq_true rfl, Nat.le_of_ble_eq_true rfl⟩ hK hP hD hS hA hl.1 rfl rfl [0, 1, 2, 3, 4, 5, 6] [] [0, 1, 2, 3, 4, 5, 6] rfl rfl rfl rfl (by decide) rfl (fun _ => rfl) (fun _ H locs hP hD hS => ?_)
      have hP : va_P G.1 vwCl (w_X2 G wh sh sv sa wd wf wo vs as ds fa od rd) H := hP
      have hD : va_D A (w_X2 G wh sh sv sa wd wf wo vs as ds fa od rd) := hD
      refine z_callV (As := [.int (f_X2_stateAt od rd (nI k))]) (rest := []) (wr := ([] : va_W)) (w1 := fun _ : Unit => (w_X2 G wh sh sv sa wd wf wo vs as ds fa od rd)) (wj := fun _ : Unit => (w_X2 G wh sh sv sa wd wf wo vs as ds fa od rd)) (ci := 2) (q0 := 0) F (c_X2_distanceOf l G wh sh sv sa wd wf wo vs as ds fa od rd (f_X2_stateAt od rd (nI k))) gX2_statesAt_X2_distanceOf rfl rfl rfl zd_X2_distanceOf ⟨Nat.le_of_ble_eq_true rfl, Nat.le_of_ble_eq_true rfl⟩ rfl rfl (Nat.le_of_ble_eq_true rfl) dX2_statesAt_18 ⟨Nat.le_of_ble_eq_true rfl, Nat.le_of_ble_eq_true rfl⟩ hK hP hD hS hA hl.1 rfl rfl [0, 1, 2, 3, 4, 5, 6] [] [0, 1, 2, 3, 4, 5, 6] rfl rfl rfl rfl (by decide) rfl (fun _ => rfl) (fun _ H locs hP hD hS => ?_)
      have hP : va_P G.1 vwCl (w_X2 G wh sh sv sa wd wf wo vs as ds fa od rd) H := hP
      have hD : va_D A (w_X2 G wh sh sv sa wd wf wo vs as ds fa od rd) := hD
      refine lv_iload_n hx hb dX2_statesAt_21 rfl (lv_at hl 1 rfl) ?_
      refine lv_icmp_ne (tgt := 28) hx hb dX2_statesAt_22 (by decide) (fun (c_2 : ¬ (f_X2_distanceOf ds (f_X2_stateAt od rd (nI k))) = x1) => ?_) (fun (c_2 : (f_X2_distanceOf ds (f_X2_stateAt od rd (nI k))) = x1) => ?_)
      · refine lv_iinc (v := (nI (k + 1))) (lv' := [(3, .int (nI (k + 1))), (0, .ref wh), (1, .int x1), (2, .int x2)]) hx hb dX2_statesAt_28 hl (k := 3) rfl (nI_1 k) (by decide) rfl (fun ls hl => ?_)
        refine lv_goto (tgt := 4) hx hb dX2_statesAt_31 (by decide) ?_
        have e9 : (lf_X2_statesAt_4 (n + 1) k ds od rd x1 x2) = (lf_X2_statesAt_4 n (k + 1) ds od rd x1 x2) := (lf_X2_statesAt_4_succ n k ds od rd x1 x2).trans ((if_neg c_1).trans ((if_neg c_2).trans (rfl)))
        rw [e9] at kk
        have h9 := zk_lt (N := rd.toNatClampNeg) (by have := zk_cl rd; omega) rfl c_1
        exact IH9 (k + 1) vs as ds fa od rd x1 x2 (by omega) (by omega) H locs ls hP hD hS (lv_sub hl [1, 2, 3, 0] rfl) kk
      · refine lv_iinc (v := (x2 + (1 : Int32))) (lv' := [(2, .int (x2 + (1 : Int32))), (0, .ref wh), (1, .int x1), (3, .int (nI k))]) hx hb dX2_statesAt_25 hl (k := 2) rfl rfl (by decide) rfl (fun ls hl => ?_)
        refine lv_iinc (v := (nI (k + 1))) (lv' := [(3, .int (nI (k + 1))), (2, .int (x2 + (1 : Int32))), (0, .ref wh), (1, .int x1)]) hx hb dX2_statesAt_28 hl (k := 3) rfl (nI_1 k) (by decide) rfl (fun ls hl => ?_)
        refine lv_goto (tgt := 4) hx hb dX2_statesAt_31 (by decide) ?_
        have e9 : (lf_X2_statesAt_4 (n + 1) k ds od rd x1 x2) = (lf_X2_statesAt_4 n (k + 1) ds od rd x1 (x2 + (1 : Int32))) := (lf_X2_statesAt_4_succ n k ds od rd x1 x2).trans ((if_neg c_1).trans ((if_pos c_2).trans (rfl)))
        rw [e9] at kk
        have h9 := zk_lt (N := rd.toNatClampNeg) (by have := zk_cl rd; omega) rfl c_1
        exact IH9 (k + 1) vs as ds fa od rd x1 (x2 + (1 : Int32)) (by omega) (by omega) H locs ls hP hD hS (lv_sub hl [2, 3, 1, 0] rfl) kk
set_option maxHeartbeats 4000000 in
set_option maxRecDepth 100000 in
/-- JarRiddle$Ways.statesAt(I)I -/
theorem c_X2_statesAt (l : Launch) (G : zG) (wh sh sv sa wd wf wo : Nat) (vs : Nat → Int32) (as : Nat → Int32) (ds : Nat → Int32) (fa : Nat → Int32) (od : Nat → Int32) (rd : Int32) (p1 : Int32) : zC l G yX2_statesAt wsX2_statesAt rm_X2_statesAt 0 0 [.ref wh, .int p1] (w_X2 G wh sh sv sa wd wf wo vs as ds fa od rd) (some (.int (f_X2_statesAt ds od rd p1))) (fun _ : Unit => (w_X2 G wh sh sv sa wd wf wo vs as ds fa od rd)) := by
  refine z_of (cc := cX2_statesAt) (maxL := 4) (ret := (some .int)) (own := RX2) (by decide) rfl rfl (Nat.le_of_ble_eq_true rfl) ?_
  intro p e s m args below meth c A H locs ls F hr hlocks hname hK hA hP hD hS hl
  obtain ⟨hx, hb, hml, hown, hts⟩ := id F
  have hl : lv_has ls 4 [(0, .ref wh), (1, .int p1)] := hl
  refine lv_iconst (v := (0 : Int32)) hx hb dX2_statesAt_0 (by decide) ?_
  refine lv_istore_n (lv' := [(2, .int (0 : Int32)), (0, .ref wh), (1, .int p1)]) hx hb dX2_statesAt_1 rfl hl (by decide) rfl (fun ls hl => ?_)
  refine lv_iconst (v := (0 : Int32)) hx hb dX2_statesAt_2 (by decide) ?_
  refine lv_istore_n (lv' := [(3, .int (0 : Int32)), (2, .int (0 : Int32)), (0, .ref wh), (1, .int p1)]) hx hb dX2_statesAt_3 rfl hl (by decide) rfl (fun ls hl => ?_)
  refine l_X2_statesAt_4 F hr hlocks hK hA wh sh sv sa wd wf wo (rd.toNatClampNeg + 1) 0 vs as ds fa od rd p1 (0 : Int32) (by omega) (by omega) H locs ls hP hD hS (lv_sub hl [2, 3, 1, 0] rfl) ?_
  intro H locs ls hP hD hS hl
  have hP : va_P G.1 vwCl (w_X2 G wh sh sv sa wd wf wo vs as ds fa od rd) H := hP
  have hD : va_D A (w_X2 G wh sh sv sa wd wf wo vs as ds fa od rd) := hD
  have hl : lv_has ls 4 [(2, .int (lf_X2_statesAt_4 (rd.toNatClampNeg + 1) 0 ds od rd p1 (0 : Int32)))] := hl
  refine lv_iload_n hx hb dX2_statesAt_34 rfl (lv_at hl 0 rfl) ?_
  have e9 : (f_X2_statesAt ds od rd p1) = (lf_X2_statesAt_4 (rd.toNatClampNeg + 1) 0 ds od rd p1 (0 : Int32)) := (f_X2_statesAt_eq ds od rd p1).trans (rfl)
  rw [e9]
  exact z_iret F hr hlocks hP hD hS () [0, 1, 2, 3, 4, 5, 6] rfl rfl rfl dX2_statesAt_35
def f_X2_greatestDistance (ds : Nat → Int32) (od : Nat → Int32) (rd : Int32) : Int32 := (f_X2_distanceOf ds (f_X2_stateAt od rd (rd - (1 : Int32))))
theorem f_X2_greatestDistance_eq (ds : Nat → Int32) (od : Nat → Int32) (rd : Int32) : f_X2_greatestDistance ds od rd = (f_X2_distanceOf ds (f_X2_stateAt od rd (rd - (1 : Int32)))) := rfl
abbrev rm_X2_greatestDistance : Room := { frames := 1, cells := 0, slots := 0, locals := 21 }
theorem zd_X2_greatestDistance : yX2_greatestDistance.cls = RX2 ∧ yX2_greatestDistance.cls ≠ "java/lang/invoke/MethodHandle" ∧ yX2_greatestDistance.cls ≠ "java/lang/invoke/VarHandle" ∧ (parseMethodDescriptor yX2_greatestDistance.desc).map (fun d => d.parameters.length) = some 0 := by decide +kernel
theorem in_X2_greatestDistance_X2 : ∀ w ∈ u_ws RX2 TX2 5, w ∈ wsX2_greatestDistance := by decide +kernel
set_option maxHeartbeats 4000000 in
set_option maxRecDepth 100000 in
/-- JarRiddle$Ways.greatestDistance()I -/
theorem c_X2_greatestDistance (l : Launch) (G : zG) (wh sh sv sa wd wf wo : Nat) (vs : Nat → Int32) (as : Nat → Int32) (ds : Nat → Int32) (fa : Nat → Int32) (od : Nat → Int32) (rd : Int32) : zC l G yX2_greatestDistance wsX2_greatestDistance rm_X2_greatestDistance 0 0 [.ref wh] (w_X2 G wh sh sv sa wd wf wo vs as ds fa od rd) (some (.int (f_X2_greatestDistance ds od rd))) (fun _ : Unit => (w_X2 G wh sh sv sa wd wf wo vs as ds fa od rd)) := by
  refine z_of (cc := cX2_greatestDistance) (maxL := 1) (ret := (some .int)) (own := RX2) (by decide) rfl rfl (Nat.le_of_ble_eq_true rfl) ?_
  intro p e s m args below meth c A H locs ls F hr hlocks hname hK hA hP hD hS hl
  obtain ⟨hx, hb, hml, hown, hts⟩ := id F
  have hl : lv_has ls 1 [(0, .ref wh)] := hl
  refine lv_aload_n hx hb dX2_greatestDistance_0 rfl (lv_at hl 0 rfl) ?_
  refine lv_aload_n hx hb dX2_greatestDistance_1 rfl (lv_at hl 0 rfl) ?_
  refine lv_aload_n hx hb dX2_greatestDistance_2 rfl (lv_at hl 0 rfl) ?_
  refine va_get (D := G.1) (ci := 2) (v := .int rd) (C := RX2) (T := TX2) (N := 5) hx hb hts in_X2_greatestDistance_X2 hown hK.1 hP 0 rfl rfl 4 (by decide) (hts (.fieldLink RX2 28 "JarRiddle$Ways" "reached" "I") (by decide +kernel)) (fun _ h9 => h9) rfl dX2_greatestDistance_3 ?_
  refine lv_iconst (v := (1 : Int32)) hx hb dX2_greatestDistance_6 (by decide) ?_
  refine lv_isub hx hb dX2_greatestDistance_7 ?_
  refine z_callV (As := [.int (rd - (1 : Int32))]) (rest := [.ref wh]) (wr := ([] : va_W)) (w1 := fun _ : Unit => (w_X2 G wh sh sv sa wd wf wo vs as ds fa od rd)) (wj := fun _ : Unit => (w_X2 G wh sh sv sa wd wf wo vs as ds fa od rd)) (ci := 2) (q0 := 0) F (c_X2_stateAt l G wh sh sv sa wd wf wo vs as ds fa od rd (rd - (1 : Int32))) gX2_greatestDistance_X2_stateAt rfl rfl rfl zd_X2_stateAt ⟨Nat.le_of_ble_eq_true rfl, Nat.le_of_ble_eq_true rfl⟩ rfl rfl (Nat.le_of_ble_eq_true rfl) dX2_greatestDistance_8 ⟨Nat.le_of_ble_eq_true rfl, Nat.le_of_ble_eq_true rfl⟩ hK hP hD hS hA hl.1 rfl rfl [0, 1, 2, 3, 4, 5, 6] [] [0, 1, 2, 3, 4, 5, 6] rfl rfl rfl rfl (by decide) rfl (fun _ => rfl) (fun _ H locs hP hD hS => ?_)
  have hP : va_P G.1 vwCl (w_X2 G wh sh sv sa wd wf wo vs as ds fa od rd) H := hP
  have hD : va_D A (w_X2 G wh sh sv sa wd wf wo vs as ds fa od rd) := hD
  refine z_callV (As := [.int (f_X2_stateAt od rd (rd - (1 : Int32)))]) (rest := []) (wr := ([] : va_W)) (w1 := fun _ : Unit => (w_X2 G wh sh sv sa wd wf wo vs as ds fa od rd)) (wj := fun _ : Unit => (w_X2 G wh sh sv sa wd wf wo vs as ds fa od rd)) (ci := 2) (q0 := 0) F (c_X2_distanceOf l G wh sh sv sa wd wf wo vs as ds fa od rd (f_X2_stateAt od rd (rd - (1 : Int32)))) gX2_greatestDistance_X2_distanceOf rfl rfl rfl zd_X2_distanceOf ⟨Nat.le_of_ble_eq_true rfl, Nat.le_of_ble_eq_true rfl⟩ rfl rfl (Nat.le_of_ble_eq_true rfl) dX2_greatestDistance_11 ⟨Nat.le_of_ble_eq_true rfl, Nat.le_of_ble_eq_true rfl⟩ hK hP hD hS hA hl.1 rfl rfl [0, 1, 2, 3, 4, 5, 6] [] [0, 1, 2, 3, 4, 5, 6] rfl rfl rfl rfl (by decide) rfl (fun _ => rfl) (fun _ H locs hP hD hS => ?_)
  have hP : va_P G.1 vwCl (w_X2 G wh sh sv sa wd wf wo vs as ds fa od rd) H := hP
  have hD : va_D A (w_X2 G wh sh sv sa wd wf wo vs as ds fa od rd) := hD
  have e9 : (f_X2_greatestDistance ds od rd) = (f_X2_distanceOf ds (f_X2_stateAt od rd (rd - (1 : Int32)))) := (f_X2_greatestDistance_eq ds od rd).trans (rfl)
  rw [e9]
  exact z_iret F hr hlocks hP hD hS () [0, 1, 2, 3, 4, 5, 6] rfl rfl rfl dX2_greatestDistance_14
