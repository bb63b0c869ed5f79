abbrev w_X0 (G : zG) (gh ih iv ia gl gs : Nat) (vi : Nat → Int32) (ai : Nat → Int32) (hd : Nat → Int32) (sn : Nat → Int32) (jc : Int32) (lf : Int32) : va_W := [(gh, .inr (0, [.ref ih, .ref gl, .ref gs, .int jc, .int lf])), (ih, .inr (1, [.ref iv, .ref ia])), (iv, .inl (G.2.1, 3, .inl vi)), (ia, .inl (G.2.1, 3, .inl ai)), (gl, .inl (G.2.1, 729, .inl hd)), (gs, .inl (G.2.1, 64, .inl sn))]
def lf_X0_beginWith_24 : Nat → Nat → (Nat → Int32) → Int32 → (Nat → Int32)
  | 0, k, hd, lf => hd
  | n + 1, k, hd, lf => (if (729 : Int32) ≤ (nI k) then hd else (if lf ≤ (nI k) then (lf_X0_beginWith_24 n (k + 1) (upd hd (nI k).toNatClampNeg (-1 : Int32)) lf) else (lf_X0_beginWith_24 n (k + 1) (upd hd (nI k).toNatClampNeg (0 : Int32)) lf)))
theorem lf_X0_beginWith_24_succ (n k : Nat) (hd : Nat → Int32) (lf : Int32) : lf_X0_beginWith_24 (n + 1) k hd lf = (if (729 : Int32) ≤ (nI k) then hd else (if lf ≤ (nI k) then (lf_X0_beginWith_24 n (k + 1) (upd hd (nI k).toNatClampNeg (-1 : Int32)) lf) else (lf_X0_beginWith_24 n (k + 1) (upd hd (nI k).toNatClampNeg (0 : Int32)) lf))) := rfl
def f_X0_beginWith (hd : Nat → Int32) (jc : Int32) (lf : Int32) (p1 : Int32) : (Nat → Int32) × Int32 × Int32 := (if p1 = (2 : Int32) then ((lf_X0_beginWith_24 730 0 hd (81 : Int32)), p1, (81 : Int32)) else ((lf_X0_beginWith_24 730 0 hd (729 : Int32)), p1, (729 : Int32)))
theorem f_X0_beginWith_eq (hd : Nat → Int32) (jc : Int32) (lf : Int32) (p1 : Int32) : f_X0_beginWith hd jc lf p1 = (if p1 = (2 : Int32) then ((lf_X0_beginWith_24 730 0 hd (81 : Int32)), p1, (81 : Int32)) else ((lf_X0_beginWith_24 730 0 hd (729 : Int32)), p1, (729 : Int32))) := rfl
abbrev rm_X0_beginWith : Room := { frames := 0, cells := 0, slots := 0, locals := 0 }
theorem zd_X0_beginWith : yX0_beginWith.cls = RX0 ∧ yX0_beginWith.cls ≠ "java/lang/invoke/MethodHandle" ∧ yX0_beginWith.cls ≠ "java/lang/invoke/VarHandle" ∧ (parseMethodDescriptor yX0_beginWith.desc).map (fun d => d.parameters.length) = some 1 := by decide +kernel
theorem in_X0_beginWith_X0 : ∀ w ∈ u_ws RX0 TX0 5, w ∈ wsX0_beginWith := by decide +kernel
set_option maxHeartbeats 4000000 in
set_option maxRecDepth 100000 in
theorem l_X0_beginWith_24 {p : Program} {l : Launch} {e : Env} {s : State} {m : MethodId} {args : Array Value} {below : List Frame} {meth : Method} {c : Code} {A : Nat → Prop} {Q : State → Prop} {G : zG} (F : CallFix p m c cX0_beginWith 3 s args wsX0_beginWith RX0) (hr : meth.sig.returnType = none) (hlocks : meth.locks = false) (hK : zK G s) (hA : ∀ q : Nat, s.heap.size ≤ q → A q) (gh ih iv ia gl gs : Nat) :
    ∀ (n k : Nat) (vi : Nat → Int32) (ai : Nat → Int32) (hd : Nat → Int32) (sn : Nat → Int32) (jc : Int32) (lf : Int32), k + n = 729 + 1 → k ≤ 729 → ∀ (H : Heap) (locs : List Loc) (ls : Array Slot), va_P G.1 vwCl (w_X0 G gh ih iv ia gl gs vi ai hd sn jc lf) H → va_D A (w_X0 G gh ih iv ia gl gs vi ai hd sn jc lf) → va_S A s.heap H locs → lv_has ls 3 [(0, .ref gh), (2, .int (nI k))] → (∀ (H : Heap) (locs : List Loc) (ls : Array Slot), va_P G.1 vwCl (w_X0 G gh ih iv ia gl gs vi ai (lf_X0_beginWith_24 n k hd lf) sn jc lf) H → va_D A (w_X0 G gh ih iv ia gl gs vi ai (lf_X0_beginWith_24 n k hd lf) sn jc lf) → va_S A s.heap H locs → lv_has ls 3 [] → W p l e rm_X0_beginWith s m args below meth c H locs 0 0 Q (F0 m 58 ls [])) → W p l e rm_X0_beginWith s m args below meth c H locs 0 0 Q (F0 m 24 ls []) := by
  obtain ⟨hx, hb, hml, hown, hts⟩ := id F
  intro n
  induction n with
  | zero => intro k vi ai hd sn jc lf h1 h2; omega
  | succ n IH9 =>
    intro k vi ai hd sn jc lf hkn hkN H locs ls hP hD hS hl kk
    refine lv_iload_n hx hb dX0_beginWith_24 rfl (lv_at hl 1 rfl) ?_
    refine lv_aload_n hx hb dX0_beginWith_25 rfl (lv_at hl 0 rfl) ?_
    refine va_get (D := G.1) (ci := 0) (v := .ref gl) (C := RX0) (T := TX0) (N := 5) hx hb hts in_X0_beginWith_X0 hown hK.1 hP 0 rfl rfl 1 (by decide) (hts (.fieldLink RX0 18 "JarRiddle$Guesser" "held" "[I") (by decide +kernel)) (fun _ h9 => h9) rfl dX0_beginWith_26 ?_
    refine va_alen (v := (729 : Int32)) hx hb hK.1 hP 4 0 rfl rfl rfl dX0_beginWith_29 ?_
    refine lv_icmp_ge (tgt := 58) hx hb dX0_beginWith_30 (by decide) (fun (c_2 : (729 : Int32) ≤ (nI k)) => ?_) (fun (c_2 : ¬ (729 : Int32) ≤ (nI k)) => ?_)
    · have e9 : (lf_X0_beginWith_24 (n + 1) k hd lf) = hd := (lf_X0_beginWith_24_succ n k hd lf).trans ((if_pos c_2).trans (rfl))
      rw [e9] at kk
      exact kk H locs ls hP hD hS (lv_sub hl [] rfl)
    · refine lv_aload_n hx hb dX0_beginWith_33 rfl (lv_at hl 0 rfl) ?_
      refine va_get (D := G.1) (ci := 0) (v := .ref gl) (C := RX0) (T := TX0) (N := 5) hx hb hts in_X0_beginWith_X0 hown hK.1 hP 0 rfl rfl 1 (by decide) (hts (.fieldLink RX0 18 "JarRiddle$Guesser" "held" "[I") (by decide +kernel)) (fun _ h9 => h9) rfl dX0_beginWith_34 ?_
      refine lv_iload_n hx hb dX0_beginWith_37 rfl (lv_at hl 1 rfl) ?_
      refine lv_iload_n hx hb dX0_beginWith_38 rfl (lv_at hl 1 rfl) ?_
      refine lv_aload_n hx hb dX0_beginWith_39 rfl (lv_at hl 0 rfl) ?_
      refine va_get (D := G.1) (ci := 0) (v := .int lf) (C := RX0) (T := TX0) (N := 5) hx hb hts in_X0_beginWith_X0 hown hK.1 hP 0 rfl rfl 4 (by decide) (hts (.fieldLink RX0 29 "JarRiddle$Guesser" "left" "I") (by decide +kernel)) (fun _ h9 => h9) rfl dX0_beginWith_40 ?_
      refine lv_icmp_ge (tgt := 50) hx hb dX0_beginWith_43 (by decide) (fun (c_3 : lf ≤ (nI k)) => ?_) (fun (c_3 : ¬ lf ≤ (nI k)) => ?_)
      · refine lv_iconst (v := (-1 : Int32)) hx hb dX0_beginWith_50 (by decide) ?_
        refine va_iast hx hb hK.1 hP hD hS 4 0 rfl rfl (vp_in_nI (Nat.lt_of_lt_of_le (zk_lt (N := 729) (by omega) rfl c_2) (by decide)) (by decide) : vp_in (nI k) 729) dX0_beginWith_51 (fun H locs hP hD hS => ?_)
        have hP : va_P G.1 vwCl (w_X0 G gh ih iv ia gl gs vi ai (upd hd (nI k).toNatClampNeg (-1 : Int32)) sn jc lf) H := hP
        have hD : va_D A (w_X0 G gh ih iv ia gl gs vi ai (upd hd (nI k).toNatClampNeg (-1 : Int32)) sn jc lf) := hD
        refine lv_iinc (v := (nI (k + 1))) (lv' := [(2, .int (nI (k + 1))), (0, .ref gh)]) hx hb dX0_beginWith_52 hl (k := 1) rfl (nI_1 k) (by decide) rfl (fun ls hl => ?_)
        refine lv_goto (tgt := 24) hx hb dX0_beginWith_55 (by decide) ?_
        have e9 : (lf_X0_beginWith_24 (n + 1) k hd lf) = (lf_X0_beginWith_24 n (k + 1) (upd hd (nI k).toNatClampNeg (-1 : Int32)) lf) := (lf_X0_beginWith_24_succ n k hd lf).trans ((if_neg c_2).trans ((if_pos c_3).trans (rfl)))
        rw [e9] at kk
        have h9 := zk_lt (N := 729) (by omega) rfl c_2
        exact IH9 (k + 1) vi ai (upd hd (nI k).toNatClampNeg (-1 : Int32)) sn jc lf (by omega) (by omega) H locs ls hP hD hS (lv_sub hl [1, 0] rfl) kk
      · refine lv_iconst (v := (0 : Int32)) hx hb dX0_beginWith_46 (by decide) ?_
        refine lv_goto (tgt := 51) hx hb dX0_beginWith_47 (by decide) ?_
        refine va_iast hx hb hK.1 hP hD hS 4 0 rfl rfl (vp_in_nI (Nat.lt_of_lt_of_le (zk_lt (N := 729) (by omega) rfl c_2) (by decide)) (by decide) : vp_in (nI k) 729) dX0_beginWith_51 (fun H locs hP hD hS => ?_)
        have hP : va_P G.1 vwCl (w_X0 G gh ih iv ia gl gs vi ai (upd hd (nI k).toNatClampNeg (0 : Int32)) sn jc lf) H := hP
        have hD : va_D A (w_X0 G gh ih iv ia gl gs vi ai (upd hd (nI k).toNatClampNeg (0 : Int32)) sn jc lf) := hD
        refine lv_iinc (v := (nI (k + 1))) (lv' := [(2, .int (nI (k + 1))), (0, .ref gh)]) hx hb dX0_beginWith_52 hl (k := 1) rfl (nI_1 k) (by decide) rfl (fun ls hl => ?_)
        refine lv_goto (tgt := 24) hx hb dX0_beginWith_55 (by decide) ?_
        have e9 : (lf_X0_beginWith_24 (n + 1) k hd lf) = (lf_X0_beginWith_24 n (k + 1) (upd hd (nI k).toNatClampNeg (0 : Int32)) lf) := (lf_X0_beginWith_24_succ n k hd lf).trans ((if_neg c_2).trans ((if_neg c_3).trans (rfl)))
        rw [e9] at kk
        have h9 := zk_lt (N := 729) (by omega) rfl c_2
        exact IH9 (k + 1) vi ai (upd hd (nI k).toNatClampNeg (0 : Int32)) sn jc lf (by omega) (by omega) H locs ls hP hD hS (lv_sub hl [1, 0] rfl) kk
set_option maxHeartbeats 4000000 in
set_option maxRecDepth 100000 in
/-- JarRiddle$Guesser.beginWith(I)V -/
theorem c_X0_beginWith (l : Launch) (G : zG) (gh ih iv ia gl gs : Nat) (vi : Nat → Int32) (ai : Nat → Int32) (hd : Nat → Int32) (sn : Nat → Int32) (jc : Int32) (lf : Int32) (p1 : Int32) : zC l G yX0_beginWith wsX0_beginWith rm_X0_beginWith 0 0 [.ref gh, .int p1] (w_X0 G gh ih iv ia gl gs vi ai hd sn jc lf) none (fun _ : Unit => (w_X0 G gh ih iv ia gl gs vi ai ((f_X0_beginWith hd jc lf p1).1) sn ((f_X0_beginWith hd jc lf p1).2.1) ((f_X0_beginWith hd jc lf p1).2.2))) := by
  refine z_of (cc := cX0_beginWith) (maxL := 3) (ret := none) (own := RX0) (by decide) rfl rfl (Nat.le_of_ble_eq_true rfl) ?_
  intro p e s m args below meth c A H locs ls F hr hlocks hname hK hA hP hD hS hl
  obtain ⟨hx, hb, hml, hown, hts⟩ := id F
  have hl : lv_has ls 3 [(0, .ref gh), (1, .int p1)] := hl
  refine lv_aload_n hx hb dX0_beginWith_0 rfl (lv_at hl 0 rfl) ?_
  refine lv_iload_n hx hb dX0_beginWith_1 rfl (lv_at hl 1 rfl) ?_
  refine va_put (D := G.1) (ci := 0) (v := .int p1) (ty := .int) (C := RX0) (T := TX0) (N := 5) hx hb hts in_X0_beginWith_X0 tyX0 tyX0_ok nmX0 hown hK.1 hP hD hS 0 rfl rfl 3 (by decide) (hts (.fieldLink RX0 25 "JarRiddle$Guesser" "jarCount" "I") (by decide +kernel)) (fun _ h9 => h9) rfl (by decide +kernel) rfl rfl (Nat.le_of_ble_eq_true rfl) dX0_beginWith_2 (fun H locs hP hD hS => ?_)
  have hP : va_P G.1 vwCl (w_X0 G gh ih iv ia gl gs vi ai hd sn p1 lf) H := hP
  have hD : va_D A (w_X0 G gh ih iv ia gl gs vi ai hd sn p1 lf) := hD
  refine lv_aload_n hx hb dX0_beginWith_5 rfl (lv_at hl 0 rfl) ?_
  refine lv_iload_n hx hb dX0_beginWith_6 rfl (lv_at hl 1 rfl) ?_
  refine lv_iconst (v := (2 : Int32)) hx hb dX0_beginWith_7 (by decide) ?_
  refine lv_icmp_ne (tgt := 16) hx hb dX0_beginWith_8 (by decide) (fun (c_1 : ¬ p1 = (2 : Int32)) => ?_) (fun (c_1 : p1 = (2 : Int32)) => ?_)
  · refine lv_sipush (v := (729 : Int32)) hx hb dX0_beginWith_16 (by decide) ?_
    refine va_put (D := G.1) (ci := 0) (v := .int (729 : Int32)) (ty := .int) (C := RX0) (T := TX0) (N := 5) hx hb hts in_X0_beginWith_X0 tyX0 tyX0_ok nmX0 hown hK.1 hP hD hS 0 rfl rfl 4 (by decide) (hts (.fieldLink RX0 29 "JarRiddle$Guesser" "left" "I") (by decide +kernel)) (fun _ h9 => h9) rfl (by decide +kernel) rfl rfl (Nat.le_of_ble_eq_true rfl) dX0_beginWith_19 (fun H locs hP hD hS => ?_)
    have hP : va_P G.1 vwCl (w_X0 G gh ih iv ia gl gs vi ai hd sn p1 (729 : Int32)) H := hP
    have hD : va_D A (w_X0 G gh ih iv ia gl gs vi ai hd sn p1 (729 : Int32)) := hD
    refine lv_iconst (v := (0 : Int32)) hx hb dX0_beginWith_22 (by decide) ?_
    refine lv_istore_n (lv' := [(2, .int (0 : Int32)), (0, .ref gh), (1, .int p1)]) hx hb dX0_beginWith_23 rfl hl (by decide) rfl (fun ls hl => ?_)
    refine l_X0_beginWith_24 F hr hlocks hK hA gh ih iv ia gl gs 730 0 vi ai hd sn p1 (729 : Int32) (by omega) (by omega) H locs ls hP hD hS (lv_sub hl [1, 0] rfl) ?_
    intro H locs ls hP hD hS hl
    have hP : va_P G.1 vwCl (w_X0 G gh ih iv ia gl gs vi ai (lf_X0_beginWith_24 730 0 hd (729 : Int32)) sn p1 (729 : Int32)) H := hP
    have hD : va_D A (w_X0 G gh ih iv ia gl gs vi ai (lf_X0_beginWith_24 730 0 hd (729 : Int32)) sn p1 (729 : Int32)) := hD
    have hl : lv_has ls 3 [] := hl
    have e9 : (f_X0_beginWith hd jc lf p1) = ((lf_X0_beginWith_24 730 0 hd (729 : Int32)), p1, (729 : Int32)) := (f_X0_beginWith_eq hd jc lf p1).trans ((if_neg c_1).trans (rfl))
    rw [e9]
    dsimp only
    exact z_vret F hr hlocks hP hD hS () [0, 1, 2, 3, 4, 5] rfl rfl rfl dX0_beginWith_58
  · refine lv_bipush (v := (81 : Int32)) hx hb dX0_beginWith_11 (by decide) ?_
    refine lv_goto (tgt := 19) hx hb dX0_beginWith_13 (by decide) ?_
    refine va_put (D := G.1) (ci := 0) (v := .int (81 : Int32)) (ty := .int) (C := RX0) (T := TX0) (N := 5) hx hb hts in_X0_beginWith_X0 tyX0 tyX0_ok nmX0 hown hK.1 hP hD hS 0 rfl rfl 4 (by decide) (hts (.fieldLink RX0 29 "JarRiddle$Guesser" "left" "I") (by decide +kernel)) (fun _ h9 => h9) rfl (by decide +kernel) rfl rfl (Nat.le_of_ble_eq_true rfl) dX0_beginWith_19 (fun H locs hP hD hS => ?_)
    have hP : va_P G.1 vwCl (w_X0 G gh ih iv ia gl gs vi ai hd sn p1 (81 : Int32)) H := hP
    have hD : va_D A (w_X0 G gh ih iv ia gl gs vi ai hd sn p1 (81 : Int32)) := hD
    refine lv_iconst (v := (0 : Int32)) hx hb dX0_beginWith_22 (by decide) ?_
    refine lv_istore_n (lv' := [(2, .int (0 : Int32)), (0, .ref gh), (1, .int p1)]) hx hb dX0_beginWith_23 rfl hl (by decide) rfl (fun ls hl => ?_)
    refine l_X0_beginWith_24 F hr hlocks hK hA gh ih iv ia gl gs 730 0 vi ai hd sn p1 (81 : Int32) (by omega) (by omega) H locs ls hP hD hS (lv_sub hl [1, 0] rfl) ?_
    intro H locs ls hP hD hS hl
    have hP : va_P G.1 vwCl (w_X0 G gh ih iv ia gl gs vi ai (lf_X0_beginWith_24 730 0 hd (81 : Int32)) sn p1 (81 : Int32)) H := hP
    have hD : va_D A (w_X0 G gh ih iv ia gl gs vi ai (lf_X0_beginWith_24 730 0 hd (81 : Int32)) sn p1 (81 : Int32)) := hD
    have hl : lv_has ls 3 [] := hl
    have e9 : (f_X0_beginWith hd jc lf p1) = ((lf_X0_beginWith_24 730 0 hd (81 : Int32)), p1, (81 : Int32)) := (f_X0_beginWith_eq hd jc lf p1).trans ((if_pos c_1).trans (rfl))
    rw [e9]
    dsimp only
    exact z_vret F hr hlocks hP hD hS () [0, 1, 2, 3, 4, 5] rfl rfl rfl dX0_beginWith_58
def f_X0_candidatesLeft (lf : Int32) : Int32 := lf
theorem f_X0_candidatesLeft_eq (lf : Int32) : f_X0_candidatesLeft lf = lf := rfl
abbrev rm_X0_candidatesLeft : Room := { frames := 0, cells := 0, slots := 0, locals := 0 }
theorem zd_X0_candidatesLeft : yX0_candidatesLeft.cls = RX0 ∧ yX0_candidatesLeft.cls ≠ "java/lang/invoke/MethodHandle" ∧ yX0_candidatesLeft.cls ≠ "java/lang/invoke/VarHandle" ∧ (parseMethodDescriptor yX0_candidatesLeft.desc).map (fun d => d.parameters.length) = some 0 := by decide +kernel
theorem in_X0_candidatesLeft_X0 : ∀ w ∈ u_ws RX0 TX0 5, w ∈ wsX0_candidatesLeft := by decide +kernel
set_option maxHeartbeats 4000000 in
set_option maxRecDepth 100000 in
/-- JarRiddle$Guesser.candidatesLeft()I -/
theorem c_X0_candidatesLeft (l : Launch) (G : zG) (gh ih iv ia gl gs : Nat) (vi : Nat → Int32) (ai : Nat → Int32) (hd : Nat → Int32) (sn : Nat → Int32) (jc : Int32) (lf : Int32) : zC l G yX0_candidatesLeft wsX0_candidatesLeft rm_X0_candidatesLeft 0 0 [.ref gh] (w_X0 G gh ih iv ia gl gs vi ai hd sn jc lf) (some (.int (f_X0_candidatesLeft lf))) (fun _ : Unit => (w_X0 G gh ih iv ia gl gs vi ai hd sn jc lf)) := by
  refine z_of (cc := cX0_candidatesLeft) (maxL := 1) (ret := (some .int)) (own := RX0) (by decide) rfl rfl (Nat.le_of_ble_eq_true rfl) ?_
  intro p e s m args below meth c A H locs ls F hr hlocks hname hK hA hP hD hS hl
  obtain ⟨hx, hb, hml, hown, hts⟩ := id F
  have hl : lv_has ls 1 [(0, .ref gh)] := hl
  refine lv_aload_n hx hb dX0_candidatesLeft_0 rfl (lv_at hl 0 rfl) ?_
  refine va_get (D := G.1) (ci := 0) (v := .int lf) (C := RX0) (T := TX0) (N := 5) hx hb hts in_X0_candidatesLeft_X0 hown hK.1 hP 0 rfl rfl 4 (by decide) (hts (.fieldLink RX0 29 "JarRiddle$Guesser" "left" "I") (by decide +kernel)) (fun _ h9 => h9) rfl dX0_candidatesLeft_1 ?_
  have e9 : (f_X0_candidatesLeft lf) = lf := (f_X0_candidatesLeft_eq lf).trans (rfl)
  rw [e9]
  exact z_iret F hr hlocks hP hD hS () [0, 1, 2, 3, 4, 5] rfl rfl rfl dX0_candidatesLeft_4
def f_X0_isCandidate (hd : Nat → Int32) (p1 : Int32) : Int32 := (if p1 < (0 : Int32) then (0 : Int32) else (if (729 : Int32) ≤ p1 then (0 : Int32) else (if (hd p1.toNatClampNeg) = (-1 : Int32) then (0 : Int32) else (1 : Int32))))
theorem f_X0_isCandidate_eq (hd : Nat → Int32) (p1 : Int32) : f_X0_isCandidate hd p1 = (if p1 < (0 : Int32) then (0 : Int32) else (if (729 : Int32) ≤ p1 then (0 : Int32) else (if (hd p1.toNatClampNeg) = (-1 : Int32) then (0 : Int32) else (1 : Int32)))) := rfl
theorem b_X0_isCandidate (hd : Nat → Int32) (p1 : Int32) : zb (f_X0_isCandidate hd p1) := by
  unfold f_X0_isCandidate
  repeat' split
  all_goals first | exact Or.inl rfl | exact Or.inr rfl
abbrev rm_X0_isCandidate : Room := { frames := 0, cells := 0, slots := 0, locals := 0 }
theorem zd_X0_isCandidate : yX0_isCandidate.cls = RX0 ∧ yX0_isCandidate.cls ≠ "java/lang/invoke/MethodHandle" ∧ yX0_isCandidate.cls ≠ "java/lang/invoke/VarHandle" ∧ (parseMethodDescriptor yX0_isCandidate.desc).map (fun d => d.parameters.length) = some 1 := by decide +kernel
theorem in_X0_isCandidate_X0 : ∀ w ∈ u_ws RX0 TX0 5, w ∈ wsX0_isCandidate := by decide +kernel
set_option maxHeartbeats 4000000 in
set_option maxRecDepth 100000 in
/-- JarRiddle$Guesser.isCandidate(I)Z -/
theorem c_X0_isCandidate (l : Launch) (G : zG) (gh ih iv ia gl gs : Nat) (vi : Nat → Int32) (ai : Nat → Int32) (hd : Nat → Int32) (sn : Nat → Int32) (jc : Int32) (lf : Int32) (p1 : Int32) : zC l G yX0_isCandidate wsX0_isCandidate rm_X0_isCandidate 0 0 [.ref gh, .int p1] (w_X0 G gh ih iv ia gl gs vi ai hd sn jc lf) (some (.int (f_X0_isCandidate hd p1))) (fun _ : Unit => (w_X0 G gh ih iv ia gl gs vi ai hd sn jc lf)) := by
  refine z_of (cc := cX0_isCandidate) (maxL := 2) (ret := (some .boolean)) (own := RX0) (by decide) rfl rfl (Nat.le_of_ble_eq_true rfl) ?_
  intro p e s m args below meth c A H locs ls F hr hlocks hname hK hA hP hD hS hl
  obtain ⟨hx, hb, hml, hown, hts⟩ := id F
  have hl : lv_has ls 2 [(0, .ref gh), (1, .int p1)] := hl
  refine lv_iload_n hx hb dX0_isCandidate_0 rfl (lv_at hl 1 rfl) ?_
  refine lv_if_lt (tgt := 27) hx hb dX0_isCandidate_1 (by decide) (fun (c_1 : p1 < (0 : Int32)) => ?_) (fun (c_1 : ¬ p1 < (0 : Int32)) => ?_)
  · refine lv_iconst (v := (0 : Int32)) hx hb dX0_isCandidate_27 (by decide) ?_
    have e9 : (f_X0_isCandidate hd p1) = (0 : Int32) := (f_X0_isCandidate_eq hd p1).trans ((if_pos c_1).trans (rfl))
    rw [e9]
    exact z_zret F hr hlocks hP hD hS () [0, 1, 2, 3, 4, 5] rfl rfl rfl rfl dX0_isCandidate_28
  · refine lv_iload_n hx hb dX0_isCandidate_4 rfl (lv_at hl 1 rfl) ?_
    refine lv_aload_n hx hb dX0_isCandidate_5 rfl (lv_at hl 0 rfl) ?_
    refine va_get (D := G.1) (ci := 0) (v := .ref gl) (C := RX0) (T := TX0) (N := 5) hx hb hts in_X0_isCandidate_X0 hown hK.1 hP 0 rfl rfl 1 (by decide) (hts (.fieldLink RX0 18 "JarRiddle$Guesser" "held" "[I") (by decide +kernel)) (fun _ h9 => h9) rfl dX0_isCandidate_6 ?_
    refine va_alen (v := (729 : Int32)) hx hb hK.1 hP 4 0 rfl rfl rfl dX0_isCandidate_9 ?_
    refine lv_icmp_ge (tgt := 27) hx hb dX0_isCandidate_10 (by decide) (fun (c_2 : (729 : Int32) ≤ p1) => ?_) (fun (c_2 : ¬ (729 : Int32) ≤ p1) => ?_)
    · refine lv_iconst (v := (0 : Int32)) hx hb dX0_isCandidate_27 (by decide) ?_
      have e9 : (f_X0_isCandidate hd p1) = (0 : Int32) := (f_X0_isCandidate_eq hd p1).trans ((if_neg c_1).trans ((if_pos c_2).trans (rfl)))
      rw [e9]
      exact z_zret F hr hlocks hP hD hS () [0, 1, 2, 3, 4, 5] rfl rfl rfl rfl dX0_isCandidate_28
    · refine lv_aload_n hx hb dX0_isCandidate_13 rfl (lv_at hl 0 rfl) ?_
      refine va_get (D := G.1) (ci := 0) (v := .ref gl) (C := RX0) (T := TX0) (N := 5) hx hb hts in_X0_isCandidate_X0 hown hK.1 hP 0 rfl rfl 1 (by decide) (hts (.fieldLink RX0 18 "JarRiddle$Guesser" "held" "[I") (by decide +kernel)) (fun _ h9 => h9) rfl dX0_isCandidate_14 ?_
      refine lv_iload_n hx hb dX0_isCandidate_17 rfl (lv_at hl 1 rfl) ?_
      refine va_iald hx hb hK.1 hP 4 0 rfl rfl (zk_in (N := 729) rfl c_1 c_2) dX0_isCandidate_18 ?_
      refine lv_iconst (v := (-1 : Int32)) hx hb dX0_isCandidate_19 (by decide) ?_
      refine lv_icmp_eq (tgt := 27) hx hb dX0_isCandidate_20 (by decide) (fun (c_3 : (hd p1.toNatClampNeg) = (-1 : Int32)) => ?_) (fun (c_3 : ¬ (hd p1.toNatClampNeg) = (-1 : Int32)) => ?_)
      · refine lv_iconst (v := (0 : Int32)) hx hb dX0_isCandidate_27 (by decide) ?_
        have e9 : (f_X0_isCandidate hd p1) = (0 : Int32) := (f_X0_isCandidate_eq hd p1).trans ((if_neg c_1).trans ((if_neg c_2).trans ((if_pos c_3).trans (rfl))))
        rw [e9]
        exact z_zret F hr hlocks hP hD hS () [0, 1, 2, 3, 4, 5] rfl rfl rfl rfl dX0_isCandidate_28
      · refine lv_iconst (v := (1 : Int32)) hx hb dX0_isCandidate_23 (by decide) ?_
        refine lv_goto (tgt := 28) hx hb dX0_isCandidate_24 (by decide) ?_
        have e9 : (f_X0_isCandidate hd p1) = (1 : Int32) := (f_X0_isCandidate_eq hd p1).trans ((if_neg c_1).trans ((if_neg c_2).trans ((if_neg c_3).trans (rfl))))
        rw [e9]
        exact z_zret F hr hlocks hP hD hS () [0, 1, 2, 3, 4, 5] rfl rfl rfl rfl dX0_isCandidate_28
def f_X0_imagine_t1 (vi : Nat → Int32) (ai : Nat → Int32) (p1 : Int32) : Nat → Int32 := (f_X1_layEmpty vi ai ((p1 - p1 / (9 : Int32) * (9 : Int32)) + (1 : Int32)) (((p1 / (9 : Int32)) - (p1 / (9 : Int32)) / (9 : Int32) * (9 : Int32)) + (1 : Int32)) ((p1 / (81 : Int32)) + (1 : Int32))).1
def f_X0_imagine_t2 (vi : Nat → Int32) (ai : Nat → Int32) (p1 : Int32) : Nat → Int32 := (f_X1_layEmpty vi ai ((p1 - p1 / (9 : Int32) * (9 : Int32)) + (1 : Int32)) (((p1 / (9 : Int32)) - (p1 / (9 : Int32)) / (9 : Int32) * (9 : Int32)) + (1 : Int32)) ((p1 / (81 : Int32)) + (1 : Int32))).2
def f_X0_imagine_t3 (vi : Nat → Int32) (ai : Nat → Int32) (p1 : Int32) : Nat → Int32 := (f_X1_layEmpty vi ai ((p1 - p1 / (9 : Int32) * (9 : Int32)) + (1 : Int32)) (((p1 / (9 : Int32)) - (p1 / (9 : Int32)) / (9 : Int32) * (9 : Int32)) + (1 : Int32)) (0 : Int32)).1
def f_X0_imagine_t4 (vi : Nat → Int32) (ai : Nat → Int32) (p1 : Int32) : Nat → Int32 := (f_X1_layEmpty vi ai ((p1 - p1 / (9 : Int32) * (9 : Int32)) + (1 : Int32)) (((p1 / (9 : Int32)) - (p1 / (9 : Int32)) / (9 : Int32) * (9 : Int32)) + (1 : Int32)) (0 : Int32)).2
def f_X0_imagine (vi : Nat → Int32) (ai : Nat → Int32) (hd : Nat → Int32) (jc : Int32) (p1 : Int32) : (Nat → Int32) × (Nat → Int32) := (if (f_X0_isCandidate hd p1) = (0 : Int32) then (vi, ai) else (if jc = (2 : Int32) then ((f_X0_imagine_t3 vi ai p1), (f_X1_hold (f_X0_imagine_t4 vi ai p1) (hd p1.toNatClampNeg))) else ((f_X0_imagine_t1 vi ai p1), (f_X1_hold (f_X0_imagine_t2 vi ai p1) (hd p1.toNatClampNeg)))))
theorem f_X0_imagine_eq (vi : Nat → Int32) (ai : Nat → Int32) (hd : Nat → Int32) (jc : Int32) (p1 : Int32) : f_X0_imagine vi ai hd jc p1 = (if (f_X0_isCandidate hd p1) = (0 : Int32) then (vi, ai) else (if jc = (2 : Int32) then ((f_X0_imagine_t3 vi ai p1), (f_X1_hold (f_X0_imagine_t4 vi ai p1) (hd p1.toNatClampNeg))) else ((f_X0_imagine_t1 vi ai p1), (f_X1_hold (f_X0_imagine_t2 vi ai p1) (hd p1.toNatClampNeg))))) := rfl
def s_X0_imagine (hd : Nat → Int32) (jc : Int32) (p1 : Int32) : Prop := (((f_X0_isCandidate hd p1) = (0 : Int32) → True) ∧ (¬ (f_X0_isCandidate hd p1) = (0 : Int32) → ((jc = (2 : Int32) → vp_in p1 729) ∧ (¬ jc = (2 : Int32) → vp_in p1 729))))
abbrev rm_X0_imagine : Room := { frames := 2, cells := 0, slots := 0, locals := 46 }
theorem zd_X0_imagine : yX0_imagine.cls = RX0 ∧ yX0_imagine.cls ≠ "java/lang/invoke/MethodHandle" ∧ yX0_imagine.cls ≠ "java/lang/invoke/VarHandle" ∧ (parseMethodDescriptor yX0_imagine.desc).map (fun d => d.parameters.length) = some 1 := by decide +kernel
theorem in_X0_imagine_X0 : ∀ w ∈ u_ws RX0 TX0 5, w ∈ wsX0_imagine := by decide +kernel
set_option maxHeartbeats 4000000 in
set_option maxRecDepth 100000 in
/-- JarRiddle$Guesser.imagine(I)V -/
theorem c_X0_imagine (l : Launch) (G : zG) (gh ih iv ia gl gs : Nat) (vi : Nat → Int32) (ai : Nat → Int32) (hd : Nat → Int32) (sn : Nat → Int32) (jc : Int32) (lf : Int32) (p1 : Int32) (hs : s_X0_imagine hd jc p1) : zC l G yX0_imagine wsX0_imagine rm_X0_imagine 0 0 [.ref gh, .int p1] (w_X0 G gh ih iv ia gl gs vi ai hd sn jc lf) none (fun _ : Unit => (w_X0 G gh ih iv ia gl gs ((f_X0_imagine vi ai hd jc p1).1) ((f_X0_imagine vi ai hd jc p1).2) hd sn jc lf)) := by
  refine z_of (cc := cX0_imagine) (maxL := 3) (ret := none) (own := RX0) (by decide) rfl rfl (Nat.le_of_ble_eq_true rfl) ?_
  intro p e s m args below meth c A H locs ls F hr hlocks hname hK hA hP hD hS hl
  obtain ⟨hx, hb, hml, hown, hts⟩ := id F
  have hl : lv_has ls 3 [(0, .ref gh), (1, .int p1)] := hl
  have hs : (((f_X0_isCandidate hd p1) = (0 : Int32) → True) ∧ (¬ (f_X0_isCandidate hd p1) = (0 : Int32) → ((jc = (2 : Int32) → vp_in p1 729) ∧ (¬ jc = (2 : Int32) → vp_in p1 729)))) := hs
  refine lv_aload_n hx hb dX0_imagine_0 rfl (lv_at hl 0 rfl) ?_
  refine lv_iload_n hx hb dX0_imagine_1 rfl (lv_at hl 1 rfl) ?_
  refine z_callV (As := [.int p1]) (rest := []) (wr := ([] : va_W)) (w1 := fun _ : Unit => (w_X0 G gh ih iv ia gl gs vi ai hd sn jc lf)) (wj := fun _ : Unit => (w_X0 G gh ih iv ia gl gs vi ai hd sn jc lf)) (ci := 0) (q0 := 0) F (c_X0_isCandidate l G gh ih iv ia gl gs vi ai hd sn jc lf p1) gX0_imagine_X0_isCandidate rfl rfl rfl zd_X0_isCandidate ⟨Nat.le_of_ble_eq_true rfl, Nat.le_of_ble_eq_true rfl⟩ rfl rfl (Nat.le_of_ble_eq_true rfl) dX0_imagine_2 ⟨Nat.le_of_ble_eq_true rfl, Nat.le_of_ble_eq_true rfl⟩ hK hP hD hS hA hl.1 rfl rfl [0, 1, 2, 3, 4, 5] [] [0, 1, 2, 3, 4, 5] rfl rfl rfl rfl (by decide) rfl (fun _ => rfl) (fun _ H locs hP hD hS => ?_)
  have hP : va_P G.1 vwCl (w_X0 G gh ih iv ia gl gs vi ai hd sn jc lf) H := hP
  have hD : va_D A (w_X0 G gh ih iv ia gl gs vi ai hd sn jc lf) := hD
  refine lv_if_eq (tgt := 63) hx hb dX0_imagine_5 (by decide) (fun (c_1 : (f_X0_isCandidate hd p1) = (0 : Int32)) => ?_) (fun (c_1 : ¬ (f_X0_isCandidate hd p1) = (0 : Int32)) => ?_)
  · have e9 : (f_X0_imagine vi ai hd jc p1) = (vi, ai) := (f_X0_imagine_eq vi ai hd jc p1).trans ((if_pos c_1).trans (rfl))
    rw [e9]
    dsimp only
    exact z_vret F hr hlocks hP hD hS () [0, 1, 2, 3, 4, 5] rfl rfl rfl dX0_imagine_63
  · have hs := hs.2 c_1
    refine lv_aload_n hx hb dX0_imagine_8 rfl (lv_at hl 0 rfl) ?_
    refine va_get (D := G.1) (ci := 0) (v := .int jc) (C := RX0) (T := TX0) (N := 5) hx hb hts in_X0_imagine_X0 hown hK.1 hP 0 rfl rfl 3 (by decide) (hts (.fieldLink RX0 25 "JarRiddle$Guesser" "jarCount" "I") (by decide +kernel)) (fun _ h9 => h9) rfl dX0_imagine_9 ?_
    refine lv_iconst (v := (2 : Int32)) hx hb dX0_imagine_12 (by decide) ?_
    refine lv_icmp_ne (tgt := 20) hx hb dX0_imagine_13 (by decide) (fun (c_2 : ¬ jc = (2 : Int32)) => ?_) (fun (c_2 : jc = (2 : Int32)) => ?_)
    · have hs := hs.2 c_2
      refine lv_iload_n hx hb dX0_imagine_20 rfl (lv_at hl 1 rfl) ?_
      refine lv_bipush (v := (81 : Int32)) hx hb dX0_imagine_21 (by decide) ?_
      refine lv_idiv hx hb dX0_imagine_23 (by decide) ?_
      refine lv_iconst (v := (1 : Int32)) hx hb dX0_imagine_24 (by decide) ?_
      refine lv_iadd hx hb dX0_imagine_25 ?_
      refine lv_istore_n (lv' := [(2, .int ((p1 / (81 : Int32)) + (1 : Int32))), (0, .ref gh), (1, .int p1)]) hx hb dX0_imagine_26 rfl hl (by decide) rfl (fun ls hl => ?_)
      refine lv_aload_n hx hb dX0_imagine_27 rfl (lv_at hl 1 rfl) ?_
      refine va_get (D := G.1) (ci := 0) (v := .ref ih) (C := RX0) (T := TX0) (N := 5) hx hb hts in_X0_imagine_X0 hown hK.1 hP 0 rfl rfl 0 (by decide) (hts (.fieldLink RX0 12 "JarRiddle$Guesser" "imagined" "LJarRiddle$Row;") (by decide +kernel)) (fun _ h9 => h9) rfl dX0_imagine_28 ?_
      refine lv_iload_n hx hb dX0_imagine_31 rfl (lv_at hl 2 rfl) ?_
      refine lv_bipush (v := (9 : Int32)) hx hb dX0_imagine_32 (by decide) ?_
      refine lv_irem hx hb dX0_imagine_34 (by decide) ?_
      refine lv_iconst (v := (1 : Int32)) hx hb dX0_imagine_35 (by decide) ?_
      refine lv_iadd hx hb dX0_imagine_36 ?_
      refine lv_iload_n hx hb dX0_imagine_37 rfl (lv_at hl 2 rfl) ?_
      refine lv_bipush (v := (9 : Int32)) hx hb dX0_imagine_38 (by decide) ?_
      refine lv_idiv hx hb dX0_imagine_40 (by decide) ?_
      refine lv_bipush (v := (9 : Int32)) hx hb dX0_imagine_41 (by decide) ?_
      refine lv_irem hx hb dX0_imagine_43 (by decide) ?_
      refine lv_iconst (v := (1 : Int32)) hx hb dX0_imagine_44 (by decide) ?_
      refine lv_iadd hx hb dX0_imagine_45 ?_
      refine lv_iload_n hx hb dX0_imagine_46 rfl (lv_at hl 0 rfl) ?_
      refine z_callV (As := [.int ((p1 - p1 / (9 : Int32) * (9 : Int32)) + (1 : Int32)), .int (((p1 / (9 : Int32)) - (p1 / (9 : Int32)) / (9 : Int32) * (9 : Int32)) + (1 : Int32)), .int ((p1 / (81 : Int32)) + (1 : Int32))]) (rest := []) (wr := ([(gh, .inr (0, [.ref ih, .ref gl, .ref gs, .int jc, .int lf])), (gl, .inl (G.2.1, 729, .inl hd)), (gs, .inl (G.2.1, 64, .inl sn))] : va_W)) (w1 := fun _ : Unit => (w_X1 G ih iv ia ((f_X1_layEmpty vi ai ((p1 - p1 / (9 : Int32) * (9 : Int32)) + (1 : Int32)) (((p1 / (9 : Int32)) - (p1 / (9 : Int32)) / (9 : Int32) * (9 : Int32)) + (1 : Int32)) ((p1 / (81 : Int32)) + (1 : Int32))).1) ((f_X1_layEmpty vi ai ((p1 - p1 / (9 : Int32) * (9 : Int32)) + (1 : Int32)) (((p1 / (9 : Int32)) - (p1 / (9 : Int32)) / (9 : Int32) * (9 : Int32)) + (1 : Int32)) ((p1 / (81 : Int32)) + (1 : Int32))).2))) (wj := fun _ : Unit => (w_X0 G gh ih iv ia gl gs (f_X0_imagine_t1 vi ai p1) (f_X0_imagine_t2 vi ai p1) hd sn jc lf)) (ci := 1) (q0 := 1) F (c_X1_layEmpty l G ih iv ia vi ai ((p1 - p1 / (9 : Int32) * (9 : Int32)) + (1 : Int32)) (((p1 / (9 : Int32)) - (p1 / (9 : Int32)) / (9 : Int32) * (9 : Int32)) + (1 : Int32)) ((p1 / (81 : Int32)) + (1 : Int32))) gX0_imagine_X1_layEmpty rfl rfl rfl zd_X1_layEmpty ⟨Nat.le_of_ble_eq_true rfl, Nat.le_of_ble_eq_true rfl⟩ rfl rfl (Nat.le_of_ble_eq_true rfl) dX0_imagine_47 ⟨Nat.le_of_ble_eq_true rfl, Nat.le_of_ble_eq_true rfl⟩ hK hP hD hS hA hl.1 rfl rfl [1, 2, 3] [0, 4, 5] [0, 3, 4, 5, 1, 2] rfl rfl rfl rfl (by decide) rfl (fun _ => rfl) (fun _ H locs hP hD hS => ?_)
      have hP : va_P G.1 vwCl (w_X0 G gh ih iv ia gl gs (f_X0_imagine_t1 vi ai p1) (f_X0_imagine_t2 vi ai p1) hd sn jc lf) H := hP
      have hD : va_D A (w_X0 G gh ih iv ia gl gs (f_X0_imagine_t1 vi ai p1) (f_X0_imagine_t2 vi ai p1) hd sn jc lf) := hD
      refine lv_aload_n hx hb dX0_imagine_50 rfl (lv_at hl 1 rfl) ?_
      refine va_get (D := G.1) (ci := 0) (v := .ref ih) (C := RX0) (T := TX0) (N := 5) hx hb hts in_X0_imagine_X0 hown hK.1 hP 0 rfl rfl 0 (by decide) (hts (.fieldLink RX0 12 "JarRiddle$Guesser" "imagined" "LJarRiddle$Row;") (by decide +kernel)) (fun _ h9 => h9) rfl dX0_imagine_51 ?_
      refine lv_aload_n hx hb dX0_imagine_54 rfl (lv_at hl 1 rfl) ?_
      refine va_get (D := G.1) (ci := 0) (v := .ref gl) (C := RX0) (T := TX0) (N := 5) hx hb hts in_X0_imagine_X0 hown hK.1 hP 0 rfl rfl 1 (by decide) (hts (.fieldLink RX0 18 "JarRiddle$Guesser" "held" "[I") (by decide +kernel)) (fun _ h9 => h9) rfl dX0_imagine_55 ?_
      refine lv_iload_n hx hb dX0_imagine_58 rfl (lv_at hl 2 rfl) ?_
      have h_3 := hs
      refine va_iald hx hb hK.1 hP 4 0 rfl rfl h_3 dX0_imagine_59 ?_
      refine z_callV (As := [.int (hd p1.toNatClampNeg)]) (rest := []) (wr := ([(gh, .inr (0, [.ref ih, .ref gl, .ref gs, .int jc, .int lf])), (gl, .inl (G.2.1, 729, .inl hd)), (gs, .inl (G.2.1, 64, .inl sn))] : va_W)) (w1 := fun _ : Unit => (w_X1 G ih iv ia (f_X0_imagine_t1 vi ai p1) (f_X1_hold (f_X0_imagine_t2 vi ai p1) (hd p1.toNatClampNeg)))) (wj := fun _ : Unit => (w_X0 G gh ih iv ia gl gs (f_X0_imagine_t1 vi ai p1) (f_X1_hold (f_X0_imagine_t2 vi ai p1) (hd p1.toNatClampNeg)) hd sn jc lf)) (ci := 1) (q0 := 1) F (c_X1_hold l G ih iv ia (f_X0_imagine_t1 vi ai p1) (f_X0_imagine_t2 vi ai p1) (hd p1.toNatClampNeg)) gX0_imagine_X1_hold rfl rfl rfl zd_X1_hold ⟨Nat.le_of_ble_eq_true rfl, Nat.le_of_ble_eq_true rfl⟩ rfl rfl (Nat.le_of_ble_eq_true rfl) dX0_imagine_60 ⟨Nat.le_of_ble_eq_true rfl, Nat.le_of_ble_eq_true rfl⟩ hK hP hD hS hA hl.1 rfl rfl [1, 2, 3] [0, 4, 5] [0, 3, 4, 5, 1, 2] rfl rfl rfl rfl (by decide) rfl (fun _ => rfl) (fun _ H locs hP hD hS => ?_)
      have hP : va_P G.1 vwCl (w_X0 G gh ih iv ia gl gs (f_X0_imagine_t1 vi ai p1) (f_X1_hold (f_X0_imagine_t2 vi ai p1) (hd p1.toNatClampNeg)) hd sn jc lf) H := hP
      have hD : va_D A (w_X0 G gh ih iv ia gl gs (f_X0_imagine_t1 vi ai p1) (f_X1_hold (f_X0_imagine_t2 vi ai p1) (hd p1.toNatClampNeg)) hd sn jc lf) := hD
      have e9 : (f_X0_imagine vi ai hd jc p1) = ((f_X0_imagine_t1 vi ai p1), (f_X1_hold (f_X0_imagine_t2 vi ai p1) (hd p1.toNatClampNeg))) := (f_X0_imagine_eq vi ai hd jc p1).trans ((if_neg c_1).trans ((if_neg c_2).trans (rfl)))
      rw [e9]
      dsimp only
      exact z_vret F hr hlocks hP hD hS () [0, 1, 2, 3, 4, 5] rfl rfl rfl dX0_imagine_63
    · have hs := hs.1 c_2
      refine lv_iconst (v := (0 : Int32)) hx hb dX0_imagine_16 (by decide) ?_
      refine lv_goto (tgt := 26) hx hb dX0_imagine_17 (by decide) ?_
      refine lv_istore_n (lv' := [(2, .int (0 : Int32)), (0, .ref gh), (1, .int p1)]) hx hb dX0_imagine_26 rfl hl (by decide) rfl (fun ls hl => ?_)
      refine lv_aload_n hx hb dX0_imagine_27 rfl (lv_at hl 1 rfl) ?_
      refine va_get (D := G.1) (ci := 0) (v := .ref ih) (C := RX0) (T := TX0) (N := 5) hx hb hts in_X0_imagine_X0 hown hK.1 hP 0 rfl rfl 0 (by decide) (hts (.fieldLink RX0 12 "JarRiddle$Guesser" "imagined" "LJarRiddle$Row;") (by decide +kernel)) (fun _ h9 => h9) rfl dX0_imagine_28 ?_
      refine lv_iload_n hx hb dX0_imagine_31 rfl (lv_at hl 2 rfl) ?_
      refine lv_bipush (v := (9 : Int32)) hx hb dX0_imagine_32 (by decide) ?_
      refine lv_irem hx hb dX0_imagine_34 (by decide) ?_
      refine lv_iconst (v := (1 : Int32)) hx hb dX0_imagine_35 (by decide) ?_
      refine lv_iadd hx hb dX0_imagine_36 ?_
      refine lv_iload_n hx hb dX0_imagine_37 rfl (lv_at hl 2 rfl) ?_
      refine lv_bipush (v := (9 : Int32)) hx hb dX0_imagine_38 (by decide) ?_
      refine lv_idiv hx hb dX0_imagine_40 (by decide) ?_
      refine lv_bipush (v := (9 : Int32)) hx hb dX0_imagine_41 (by decide) ?_
      refine lv_irem hx hb dX0_imagine_43 (by decide) ?_
      refine lv_iconst (v := (1 : Int32)) hx hb dX0_imagine_44 (by decide) ?_
      refine lv_iadd hx hb dX0_imagine_45 ?_
      refine lv_iload_n hx hb dX0_imagine_46 rfl (lv_at hl 0 rfl) ?_
      refine z_callV (As := [.int ((p1 - p1 / (9 : Int32) * (9 : Int32)) + (1 : Int32)), .int (((p1 / (9 : Int32)) - (p1 / (9 : Int32)) / (9 : Int32) * (9 : Int32)) + (1 : Int32)), .int (0 : Int32)]) (rest := []) (wr := ([(gh, .inr (0, [.ref ih, .ref gl, .ref gs, .int jc, .int lf])), (gl, .inl (G.2.1, 729, .inl hd)), (gs, .inl (G.2.1, 64, .inl sn))] : va_W)) (w1 := fun _ : Unit => (w_X1 G ih iv ia ((f_X1_layEmpty vi ai ((p1 - p1 / (9 : Int32) * (9 : Int32)) + (1 : Int32)) (((p1 / (9 : Int32)) - (p1 / (9 : Int32)) / (9 : Int32) * (9 : Int32)) + (1 : Int32)) (0 : Int32)).1) ((f_X1_layEmpty vi ai ((p1 - p1 / (9 : Int32) * (9 : Int32)) + (1 : Int32)) (((p1 / (9 : Int32)) - (p1 / (9 : Int32)) / (9 : Int32) * (9 : Int32)) + (1 : Int32)) (0 : Int32)).2))) (wj := fun _ : Unit => (w_X0 G gh ih iv ia gl gs (f_X0_imagine_t3 vi ai p1) (f_X0_imagine_t4 vi ai p1) hd sn jc lf)) (ci := 1) (q0 := 1) F (c_X1_layEmpty l G ih iv ia vi ai ((p1 - p1 / (9 : Int32) * (9 : Int32)) + (1 : Int32)) (((p1 / (9 : Int32)) - (p1 / (9 : Int32)) / (9 : Int32) * (9 : Int32)) + (1 : Int32)) (0 : Int32)) gX0_imagine_X1_layEmpty rfl rfl rfl zd_X1_layEmpty ⟨Nat.le_of_ble_eq_true rfl, Nat.le_of_ble_eq_true rfl⟩ rfl rfl (Nat.le_of_ble_eq_true rfl) dX0_imagine_47 ⟨Nat.le_of_ble_eq_true rfl, Nat.le_of_ble_eq_true rfl⟩ hK hP hD hS hA hl.1 rfl rfl [1, 2, 3] [0, 4, 5] [0, 3, 4, 5, 1, 2] rfl rfl rfl rfl (by decide) rfl (fun _ => rfl) (fun _ H locs hP hD hS => ?_)
      have hP : va_P G.1 vwCl (w_X0 G gh ih iv ia gl gs (f_X0_imagine_t3 vi ai p1) (f_X0_imagine_t4 vi ai p1) hd sn jc lf) H := hP
      have hD : va_D A (w_X0 G gh ih iv ia gl gs (f_X0_imagine_t3 vi ai p1) (f_X0_imagine_t4 vi ai p1) hd sn jc lf) := hD
      refine lv_aload_n hx hb dX0_imagine_50 rfl (lv_at hl 1 rfl) ?_
      refine va_get (D := G.1) (ci := 0) (v := .ref ih) (C := RX0) (T := TX0) (N := 5) hx hb hts in_X0_imagine_X0 hown hK.1 hP 0 rfl rfl 0 (by decide) (hts (.fieldLink RX0 12 "JarRiddle$Guesser" "imagined" "LJarRiddle$Row;") (by decide +kernel)) (fun _ h9 => h9) rfl dX0_imagine_51 ?_
      refine lv_aload_n hx hb dX0_imagine_54 rfl (lv_at hl 1 rfl) ?_
      refine va_get (D := G.1) (ci := 0) (v := .ref gl) (C := RX0) (T := TX0) (N := 5) hx hb hts in_X0_imagine_X0 hown hK.1 hP 0 rfl rfl 1 (by decide) (hts (.fieldLink RX0 18 "JarRiddle$Guesser" "held" "[I") (by decide +kernel)) (fun _ h9 => h9) rfl dX0_imagine_55 ?_
      refine lv_iload_n hx hb dX0_imagine_58 rfl (lv_at hl 2 rfl) ?_
      have h_4 := hs
      refine va_iald hx hb hK.1 hP 4 0 rfl rfl h_4 dX0_imagine_59 ?_
      refine z_callV (As := [.int (hd p1.toNatClampNeg)]) (rest := []) (wr := ([(gh, .inr (0, [.ref ih, .ref gl, .ref gs, .int jc, .int lf])), (gl, .inl (G.2.1, 729, .inl hd)), (gs, .inl (G.2.1, 64, .inl sn))] : va_W)) (w1 := fun _ : Unit => (w_X1 G ih iv ia (f_X0_imagine_t3 vi ai p1) (f_X1_hold (f_X0_imagine_t4 vi ai p1) (hd p1.toNatClampNeg)))) (wj := fun _ : Unit => (w_X0 G gh ih iv ia gl gs (f_X0_imagine_t3 vi ai p1) (f_X1_hold (f_X0_imagine_t4 vi ai p1) (hd p1.toNatClampNeg)) hd sn jc lf)) (ci := 1) (q0 := 1) F (c_X1_hold l G ih iv ia (f_X0_imagine_t3 vi ai p1) (f_X0_imagine_t4 vi ai p1) (hd p1.toNatClampNeg)) gX0_imagine_X1_hold rfl rfl rfl zd_X1_hold ⟨Nat.le_of_ble_eq_true rfl, Nat.le_of_ble_eq_true rfl⟩ rfl rfl (Nat.le_of_ble_eq_true rfl) dX0_imagine_60 ⟨Nat.le_of_ble_eq_true rfl, Nat.le_of_ble_eq_true rfl⟩ hK hP hD hS hA hl.1 rfl rfl [1, 2, 3] [0, 4, 5] [0, 3, 4, 5, 1, 2] rfl rfl rfl rfl (by decide) rfl (fun _ => rfl) (fun _ H locs hP hD hS => ?_)
      have hP : va_P G.1 vwCl (w_X0 G gh ih iv ia gl gs (f_X0_imagine_t3 vi ai p1) (f_X1_hold (f_X0_imagine_t4 vi ai p1) (hd p1.toNatClampNeg)) hd sn jc lf) H := hP
      have hD : va_D A (w_X0 G gh ih iv ia gl gs (f_X0_imagine_t3 vi ai p1) (f_X1_hold (f_X0_imagine_t4 vi ai p1) (hd p1.toNatClampNeg)) hd sn jc lf) := hD
      have e9 : (f_X0_imagine vi ai hd jc p1) = ((f_X0_imagine_t3 vi ai p1), (f_X1_hold (f_X0_imagine_t4 vi ai p1) (hd p1.toNatClampNeg))) := (f_X0_imagine_eq vi ai hd jc p1).trans ((if_neg c_1).trans ((if_pos c_2).trans (rfl)))
      rw [e9]
      dsimp only
      exact z_vret F hr hlocks hP hD hS () [0, 1, 2, 3, 4, 5] rfl rfl rfl dX0_imagine_63
def f_X0_drop (hd : Nat → Int32) (lf : Int32) (p1 : Int32) : (Nat → Int32) × Int32 := (if (f_X0_isCandidate hd p1) = (0 : Int32) then (hd, lf) else ((upd hd p1.toNatClampNeg (-1 : Int32)), (lf - (1 : Int32))))
theorem f_X0_drop_eq (hd : Nat → Int32) (lf : Int32) (p1 : Int32) : f_X0_drop hd lf p1 = (if (f_X0_isCandidate hd p1) = (0 : Int32) then (hd, lf) else ((upd hd p1.toNatClampNeg (-1 : Int32)), (lf - (1 : Int32)))) := rfl
def s_X0_drop (hd : Nat → Int32) (p1 : Int32) : Prop := (((f_X0_isCandidate hd p1) = (0 : Int32) → True) ∧ (¬ (f_X0_isCandidate hd p1) = (0 : Int32) → vp_in p1 729))
abbrev rm_X0_drop : Room := { frames := 1, cells := 0, slots := 0, locals := 21 }
theorem zd_X0_drop : yX0_drop.cls = RX0 ∧ yX0_drop.cls ≠ "java/lang/invoke/MethodHandle" ∧ yX0_drop.cls ≠ "java/lang/invoke/VarHandle" ∧ (parseMethodDescriptor yX0_drop.desc).map (fun d => d.parameters.length) = some 1 := by decide +kernel
theorem in_X0_drop_X0 : ∀ w ∈ u_ws RX0 TX0 5, w ∈ wsX0_drop := by decide +kernel
set_option maxHeartbeats 4000000 in
set_option maxRecDepth 100000 in
/-- JarRiddle$Guesser.drop(I)V -/
theorem c_X0_drop (l : Launch) (G : zG) (gh ih iv ia gl gs : Nat) (vi : Nat → Int32) (ai : Nat → Int32) (hd : Nat → Int32) (sn : Nat → Int32) (jc : Int32) (lf : Int32) (p1 : Int32) (hs : s_X0_drop hd p1) : zC l G yX0_drop wsX0_drop rm_X0_drop 0 0 [.ref gh, .int p1] (w_X0 G gh ih iv ia gl gs vi ai hd sn jc lf) none (fun _ : Unit => (w_X0 G gh ih iv ia gl gs vi ai ((f_X0_drop hd lf p1).1) sn jc ((f_X0_drop hd lf p1).2))) := by
  refine z_of (cc := cX0_drop) (maxL := 2) (ret := none) (own := RX0) (by decide) rfl rfl (Nat.le_of_ble_eq_true rfl) ?_
  intro p e s m args below meth c A H locs ls F hr hlocks hname hK hA hP hD hS hl
  obtain ⟨hx, hb, hml, hown, hts⟩ := id F
  have hl : lv_has ls 2 [(0, .ref gh), (1, .int p1)] := hl
  have hs : (((f_X0_isCandidate hd p1) = (0 : Int32) → True) ∧ (¬ (f_X0_isCandidate hd p1) = (0 : Int32) → vp_in p1 729)) := hs
  refine lv_aload_n hx hb dX0_drop_0 rfl (lv_at hl 0 rfl) ?_
  refine lv_iload_n hx hb dX0_drop_1 rfl (lv_at hl 1 rfl) ?_
  refine z_callV (As := [.int p1]) (rest := []) (wr := ([] : va_W)) (w1 := fun _ : Unit => (w_X0 G gh ih iv ia gl gs vi ai hd sn jc lf)) (wj := fun _ : Unit => (w_X0 G gh ih iv ia gl gs vi ai hd sn jc lf)) (ci := 0) (q0 := 0) F (c_X0_isCandidate l G gh ih iv ia gl gs vi ai hd sn jc lf p1) gX0_drop_X0_isCandidate rfl rfl rfl zd_X0_isCandidate ⟨Nat.le_of_ble_eq_true rfl, Nat.le_of_ble_eq_true rfl⟩ rfl rfl (Nat.le_of_ble_eq_true rfl) dX0_drop_2 ⟨Nat.le_of_ble_eq_true rfl, Nat.le_of_ble_eq_true rfl⟩ hK hP hD hS hA hl.1 rfl rfl [0, 1, 2, 3, 4, 5] [] [0, 1, 2, 3, 4, 5] rfl rfl rfl rfl (by decide) rfl (fun _ => rfl) (fun _ H locs hP hD hS => ?_)
  have hP : va_P G.1 vwCl (w_X0 G gh ih iv ia gl gs vi ai hd sn jc lf) H := hP
  have hD : va_D A (w_X0 G gh ih iv ia gl gs vi ai hd sn jc lf) := hD
  refine lv_if_eq (tgt := 25) hx hb dX0_drop_5 (by decide) (fun (c_1 : (f_X0_isCandidate hd p1) = (0 : Int32)) => ?_) (fun (c_1 : ¬ (f_X0_isCandidate hd p1) = (0 : Int32)) => ?_)
  · have e9 : (f_X0_drop hd lf p1) = (hd, lf) := (f_X0_drop_eq hd lf p1).trans ((if_pos c_1).trans (rfl))
    rw [e9]
    dsimp only
    exact z_vret F hr hlocks hP hD hS () [0, 1, 2, 3, 4, 5] rfl rfl rfl dX0_drop_25
  · have hs := hs.2 c_1
    refine lv_aload_n hx hb dX0_drop_8 rfl (lv_at hl 0 rfl) ?_
    refine va_get (D := G.1) (ci := 0) (v := .ref gl) (C := RX0) (T := TX0) (N := 5) hx hb hts in_X0_drop_X0 hown hK.1 hP 0 rfl rfl 1 (by decide) (hts (.fieldLink RX0 18 "JarRiddle$Guesser" "held" "[I") (by decide +kernel)) (fun _ h9 => h9) rfl dX0_drop_9 ?_
    refine lv_iload_n hx hb dX0_drop_12 rfl (lv_at hl 1 rfl) ?_
    refine lv_iconst (v := (-1 : Int32)) hx hb dX0_drop_13 (by decide) ?_
    have h_2 := hs
    refine va_iast hx hb hK.1 hP hD hS 4 0 rfl rfl h_2 dX0_drop_14 (fun H locs hP hD hS => ?_)
    have hP : va_P G.1 vwCl (w_X0 G gh ih iv ia gl gs vi ai (upd hd p1.toNatClampNeg (-1 : Int32)) sn jc lf) H := hP
    have hD : va_D A (w_X0 G gh ih iv ia gl gs vi ai (upd hd p1.toNatClampNeg (-1 : Int32)) sn jc lf) := hD
    refine lv_aload_n hx hb dX0_drop_15 rfl (lv_at hl 0 rfl) ?_
    refine lv_dup hx hb dX0_drop_16 rfl ?_
    refine va_get (D := G.1) (ci := 0) (v := .int lf) (C := RX0) (T := TX0) (N := 5) hx hb hts in_X0_drop_X0 hown hK.1 hP 0 rfl rfl 4 (by decide) (hts (.fieldLink RX0 29 "JarRiddle$Guesser" "left" "I") (by decide +kernel)) (fun _ h9 => h9) rfl dX0_drop_17 ?_
    refine lv_iconst (v := (1 : Int32)) hx hb dX0_drop_20 (by decide) ?_
    refine lv_isub hx hb dX0_drop_21 ?_
    refine va_put (D := G.1) (ci := 0) (v := .int (lf - (1 : Int32))) (ty := .int) (C := RX0) (T := TX0) (N := 5) hx hb hts in_X0_drop_X0 tyX0 tyX0_ok nmX0 hown hK.1 hP hD hS 0 rfl rfl 4 (by decide) (hts (.fieldLink RX0 29 "JarRiddle$Guesser" "left" "I") (by decide +kernel)) (fun _ h9 => h9) rfl (by decide +kernel) rfl rfl (Nat.le_of_ble_eq_true rfl) dX0_drop_22 (fun H locs hP hD hS => ?_)
    have hP : va_P G.1 vwCl (w_X0 G gh ih iv ia gl gs vi ai (upd hd p1.toNatClampNeg (-1 : Int32)) sn jc (lf - (1 : Int32))) H := hP
    have hD : va_D A (w_X0 G gh ih iv ia gl gs vi ai (upd hd p1.toNatClampNeg (-1 : Int32)) sn jc (lf - (1 : Int32))) := hD
    have e9 : (f_X0_drop hd lf p1) = ((upd hd p1.toNatClampNeg (-1 : Int32)), (lf - (1 : Int32))) := (f_X0_drop_eq hd lf p1).trans ((if_neg c_1).trans (rfl))
    rw [e9]
    dsimp only
    exact z_vret F hr hlocks hP hD hS () [0, 1, 2, 3, 4, 5] rfl rfl rfl dX0_drop_25
def f_X0_keep (hd : Nat → Int32) (p1 : Int32) (p2 : Int32) : (Nat → Int32) := (if (f_X0_isCandidate hd p1) = (0 : Int32) then hd else (upd hd p1.toNatClampNeg p2))
theorem f_X0_keep_eq (hd : Nat → Int32) (p1 : Int32) (p2 : Int32) : f_X0_keep hd p1 p2 = (if (f_X0_isCandidate hd p1) = (0 : Int32) then hd else (upd hd p1.toNatClampNeg p2)) := rfl
def s_X0_keep (hd : Nat → Int32) (p1 : Int32) (p2 : Int32) : Prop := (((f_X0_isCandidate hd p1) = (0 : Int32) → True) ∧ (¬ (f_X0_isCandidate hd p1) = (0 : Int32) → vp_in p1 729))
abbrev rm_X0_keep : Room := { frames := 1, cells := 0, slots := 0, locals := 21 }
theorem zd_X0_keep : yX0_keep.cls = RX0 ∧ yX0_keep.cls ≠ "java/lang/invoke/MethodHandle" ∧ yX0_keep.cls ≠ "java/lang/invoke/VarHandle" ∧ (parseMethodDescriptor yX0_keep.desc).map (fun d => d.parameters.length) = some 2 := by decide +kernel
theorem in_X0_keep_X0 : ∀ w ∈ u_ws RX0 TX0 5, w ∈ wsX0_keep := by decide +kernel
set_option maxHeartbeats 4000000 in
set_option maxRecDepth 100000 in
/-- JarRiddle$Guesser.keep(II)V -/
theorem c_X0_keep (l : Launch) (G : zG) (gh ih iv ia gl gs : Nat) (vi : Nat → Int32) (ai : Nat → Int32) (hd : Nat → Int32) (sn : Nat → Int32) (jc : Int32) (lf : Int32) (p1 : Int32) (p2 : Int32) (hs : s_X0_keep hd p1 p2) : zC l G yX0_keep wsX0_keep rm_X0_keep 0 0 [.ref gh, .int p1, .int p2] (w_X0 G gh ih iv ia gl gs vi ai hd sn jc lf) none (fun _ : Unit => (w_X0 G gh ih iv ia gl gs vi ai (f_X0_keep hd p1 p2) sn jc lf)) := by
  refine z_of (cc := cX0_keep) (maxL := 3) (ret := none) (own := RX0) (by decide) rfl rfl (Nat.le_of_ble_eq_true rfl) ?_
  intro p e s m args below meth c A H locs ls F hr hlocks hname hK hA hP hD hS hl
  obtain ⟨hx, hb, hml, hown, hts⟩ := id F
  have hl : lv_has ls 3 [(0, .ref gh), (1, .int p1), (2, .int p2)] := hl
  have hs : (((f_X0_isCandidate hd p1) = (0 : Int32) → True) ∧ (¬ (f_X0_isCandidate hd p1) = (0 : Int32) → vp_in p1 729)) := hs
  refine lv_aload_n hx hb dX0_keep_0 rfl (lv_at hl 0 rfl) ?_
  refine lv_iload_n hx hb dX0_keep_1 rfl (lv_at hl 1 rfl) ?_
  refine z_callV (As := [.int p1]) (rest := []) (wr := ([] : va_W)) (w1 := fun _ : Unit => (w_X0 G gh ih iv ia gl gs vi ai hd sn jc lf)) (wj := fun _ : Unit => (w_X0 G gh ih iv ia gl gs vi ai hd sn jc lf)) (ci := 0) (q0 := 0) F (c_X0_isCandidate l G gh ih iv ia gl gs vi ai hd sn jc lf p1) gX0_keep_X0_isCandidate rfl rfl rfl zd_X0_isCandidate ⟨Nat.le_of_ble_eq_true rfl, Nat.le_of_ble_eq_true rfl⟩ rfl rfl (Nat.le_of_ble_eq_true rfl) dX0_keep_2 ⟨Nat.le_of_ble_eq_true rfl, Nat.le_of_ble_eq_true rfl⟩ hK hP hD hS hA hl.1 rfl rfl [0, 1, 2, 3, 4, 5] [] [0, 1, 2, 3, 4, 5] rfl rfl rfl rfl (by decide) rfl (fun _ => rfl) (fun _ H locs hP hD hS => ?_)
  have hP : va_P G.1 vwCl (w_X0 G gh ih iv ia gl gs vi ai hd sn jc lf) H := hP
  have hD : va_D A (w_X0 G gh ih iv ia gl gs vi ai hd sn jc lf) := hD
  refine lv_if_eq (tgt := 15) hx hb dX0_keep_5 (by decide) (fun (c_1 : (f_X0_isCandidate hd p1) = (0 : Int32)) => ?_) (fun (c_1 : ¬ (f_X0_isCandidate hd p1) = (0 : Int32)) => ?_)
  · have e9 : (f_X0_keep hd p1 p2) = hd := (f_X0_keep_eq hd p1 p2).trans ((if_pos c_1).trans (rfl))
    rw [e9]
    exact z_vret F hr hlocks hP hD hS () [0, 1, 2, 3, 4, 5] rfl rfl rfl dX0_keep_15
  · have hs := hs.2 c_1
    refine lv_aload_n hx hb dX0_keep_8 rfl (lv_at hl 0 rfl) ?_
    refine va_get (D := G.1) (ci := 0) (v := .ref gl) (C := RX0) (T := TX0) (N := 5) hx hb hts in_X0_keep_X0 hown hK.1 hP 0 rfl rfl 1 (by decide) (hts (.fieldLink RX0 18 "JarRiddle$Guesser" "held" "[I") (by decide +kernel)) (fun _ h9 => h9) rfl dX0_keep_9 ?_
    refine lv_iload_n hx hb dX0_keep_12 rfl (lv_at hl 1 rfl) ?_
    refine lv_iload_n hx hb dX0_keep_13 rfl (lv_at hl 2 rfl) ?_
    have h_2 := hs
    refine va_iast hx hb hK.1 hP hD hS 4 0 rfl rfl h_2 dX0_keep_14 (fun H locs hP hD hS => ?_)
    have hP : va_P G.1 vwCl (w_X0 G gh ih iv ia gl gs vi ai (upd hd p1.toNatClampNeg p2) sn jc lf) H := hP
    have hD : va_D A (w_X0 G gh ih iv ia gl gs vi ai (upd hd p1.toNatClampNeg p2) sn jc lf) := hD
    have e9 : (f_X0_keep hd p1 p2) = (upd hd p1.toNatClampNeg p2) := (f_X0_keep_eq hd p1 p2).trans ((if_neg c_1).trans (rfl))
    rw [e9]
    exact z_vret F hr hlocks hP hD hS () [0, 1, 2, 3, 4, 5] rfl rfl rfl dX0_keep_15
def lf_X0_see_2 : Nat → Nat → (Nat → Int32) → (Nat → Int32) → (Nat → Int32) → Int32 → Int32 → Int32 → Int32 → (Nat → Int32) × (Nat → Int32) × (Nat → Int32) × Int32
  | 0, k, vi, ai, hd, jc, lf, x1, x2 => (vi, ai, hd, lf)
  | n + 1, k, vi, ai, hd, jc, lf, x1, x2 => (if (729 : Int32) ≤ (nI k) then (vi, ai, hd, lf) else (if (f_X0_isCandidate hd (nI k)) = (0 : Int32) then (lf_X0_see_2 n (k + 1) vi ai hd jc lf x1 x2) else (if (f_X1_look ((f_X0_imagine vi ai hd jc (nI k)).1) ((f_X1_change ((f_X0_imagine vi ai hd jc (nI k)).1) ((f_X0_imagine vi ai hd jc (nI k)).2) x1).2)) = x2 then (lf_X0_see_2 n (k + 1) ((f_X0_imagine vi ai hd jc (nI k)).1) ((f_X1_change ((f_X0_imagine vi ai hd jc (nI k)).1) ((f_X0_imagine vi ai hd jc (nI k)).2) x1).2) (f_X0_keep hd (nI k) (f_X1_state ((f_X1_change ((f_X0_imagine vi ai hd jc (nI k)).1) ((f_X0_imagine vi ai hd jc (nI k)).2) x1).2))) jc lf x1 x2) else (lf_X0_see_2 n (k + 1) ((f_X0_imagine vi ai hd jc (nI k)).1) ((f_X1_change ((f_X0_imagine vi ai hd jc (nI k)).1) ((f_X0_imagine vi ai hd jc (nI k)).2) x1).2) ((f_X0_drop hd lf (nI k)).1) jc ((f_X0_drop hd lf (nI k)).2) x1 x2))))
theorem lf_X0_see_2_succ (n k : Nat) (vi : Nat → Int32) (ai : Nat → Int32) (hd : Nat → Int32) (jc : Int32) (lf : Int32) (x1 : Int32) (x2 : Int32) : lf_X0_see_2 (n + 1) k vi ai hd jc lf x1 x2 = (if (729 : Int32) ≤ (nI k) then (vi, ai, hd, lf) else (if (f_X0_isCandidate hd (nI k)) = (0 : Int32) then (lf_X0_see_2 n (k + 1) vi ai hd jc lf x1 x2) else (if (f_X1_look ((f_X0_imagine vi ai hd jc (nI k)).1) ((f_X1_change ((f_X0_imagine vi ai hd jc (nI k)).1) ((f_X0_imagine vi ai hd jc (nI k)).2) x1).2)) = x2 then (lf_X0_see_2 n (k + 1) ((f_X0_imagine vi ai hd jc (nI k)).1) ((f_X1_change ((f_X0_imagine vi ai hd jc (nI k)).1) ((f_X0_imagine vi ai hd jc (nI k)).2) x1).2) (f_X0_keep hd (nI k) (f_X1_state ((f_X1_change ((f_X0_imagine vi ai hd jc (nI k)).1) ((f_X0_imagine vi ai hd jc (nI k)).2) x1).2))) jc lf x1 x2) else (lf_X0_see_2 n (k + 1) ((f_X0_imagine vi ai hd jc (nI k)).1) ((f_X1_change ((f_X0_imagine vi ai hd jc (nI k)).1) ((f_X0_imagine vi ai hd jc (nI k)).2) x1).2) ((f_X0_drop hd lf (nI k)).1) jc ((f_X0_drop hd lf (nI k)).2) x1 x2)))) := rfl
def f_X0_see (vi : Nat → Int32) (ai : Nat → Int32) (hd : Nat → Int32) (jc : Int32) (lf : Int32) (p1 : Int32) (p2 : Int32) : (Nat → Int32) × (Nat → Int32) × (Nat → Int32) × Int32 := ((lf_X0_see_2 730 0 vi ai hd jc lf p1 p2).1, (lf_X0_see_2 730 0 vi ai hd jc lf p1 p2).2.1, (lf_X0_see_2 730 0 vi ai hd jc lf p1 p2).2.2.1, (lf_X0_see_2 730 0 vi ai hd jc lf p1 p2).2.2.2)
theorem f_X0_see_eq (vi : Nat → Int32) (ai : Nat → Int32) (hd : Nat → Int32) (jc : Int32) (lf : Int32) (p1 : Int32) (p2 : Int32) : f_X0_see vi ai hd jc lf p1 p2 = ((lf_X0_see_2 730 0 vi ai hd jc lf p1 p2).1, (lf_X0_see_2 730 0 vi ai hd jc lf p1 p2).2.1, (lf_X0_see_2 730 0 vi ai hd jc lf p1 p2).2.2.1, (lf_X0_see_2 730 0 vi ai hd jc lf p1 p2).2.2.2) := rfl
def sf_X0_see_2 : Nat → Nat → (Nat → Int32) → (Nat → Int32) → (Nat → Int32) → Int32 → Int32 → Int32 → Int32 → Prop
  | 0, k, vi, ai, hd, jc, lf, x1, x2 => True
  | n + 1, k, vi, ai, hd, jc, lf, x1, x2 => (((729 : Int32) ≤ (nI k) → True) ∧ (¬ (729 : Int32) ≤ (nI k) → (((f_X0_isCandidate hd (nI k)) = (0 : Int32) → (sf_X0_see_2 n (k + 1) vi ai hd jc lf x1 x2)) ∧ (¬ (f_X0_isCandidate hd (nI k)) = (0 : Int32) → (s_X0_imagine hd jc (nI k)) ∧ (((f_X1_look ((f_X0_imagine vi ai hd jc (nI k)).1) ((f_X1_change ((f_X0_imagine vi ai hd jc (nI k)).1) ((f_X0_imagine vi ai hd jc (nI k)).2) x1).2)) = x2 → (s_X0_keep hd (nI k) (f_X1_state ((f_X1_change ((f_X0_imagine vi ai hd jc (nI k)).1) ((f_X0_imagine vi ai hd jc (nI k)).2) x1).2))) ∧ (sf_X0_see_2 n (k + 1) ((f_X0_imagine vi ai hd jc (nI k)).1) ((f_X1_change ((f_X0_imagine vi ai hd jc (nI k)).1) ((f_X0_imagine vi ai hd jc (nI k)).2) x1).2) (f_X0_keep hd (nI k) (f_X1_state ((f_X1_change ((f_X0_imagine vi ai hd jc (nI k)).1) ((f_X0_imagine vi ai hd jc (nI k)).2) x1).2))) jc lf x1 x2)) ∧ (¬ (f_X1_look ((f_X0_imagine vi ai hd jc (nI k)).1) ((f_X1_change ((f_X0_imagine vi ai hd jc (nI k)).1) ((f_X0_imagine vi ai hd jc (nI k)).2) x1).2)) = x2 → (s_X0_drop hd (nI k)) ∧ (sf_X0_see_2 n (k + 1) ((f_X0_imagine vi ai hd jc (nI k)).1) ((f_X1_change ((f_X0_imagine vi ai hd jc (nI k)).1) ((f_X0_imagine vi ai hd jc (nI k)).2) x1).2) ((f_X0_drop hd lf (nI k)).1) jc ((f_X0_drop hd lf (nI k)).2) x1 x2)))))))
theorem sf_X0_see_2_succ (n k : Nat) (vi : Nat → Int32) (ai : Nat → Int32) (hd : Nat → Int32) (jc : Int32) (lf : Int32) (x1 : Int32) (x2 : Int32) : sf_X0_see_2 (n + 1) k vi ai hd jc lf x1 x2 = ((((729 : Int32) ≤ (nI k) → True) ∧ (¬ (729 : Int32) ≤ (nI k) → (((f_X0_isCandidate hd (nI k)) = (0 : Int32) → (sf_X0_see_2 n (k + 1) vi ai hd jc lf x1 x2)) ∧ (¬ (f_X0_isCandidate hd (nI k)) = (0 : Int32) → (s_X0_imagine hd jc (nI k)) ∧ (((f_X1_look ((f_X0_imagine vi ai hd jc (nI k)).1) ((f_X1_change ((f_X0_imagine vi ai hd jc (nI k)).1) ((f_X0_imagine vi ai hd jc (nI k)).2) x1).2)) = x2 → (s_X0_keep hd (nI k) (f_X1_state ((f_X1_change ((f_X0_imagine vi ai hd jc (nI k)).1) ((f_X0_imagine vi ai hd jc (nI k)).2) x1).2))) ∧ (sf_X0_see_2 n (k + 1) ((f_X0_imagine vi ai hd jc (nI k)).1) ((f_X1_change ((f_X0_imagine vi ai hd jc (nI k)).1) ((f_X0_imagine vi ai hd jc (nI k)).2) x1).2) (f_X0_keep hd (nI k) (f_X1_state ((f_X1_change ((f_X0_imagine vi ai hd jc (nI k)).1) ((f_X0_imagine vi ai hd jc (nI k)).2) x1).2))) jc lf x1 x2)) ∧ (¬ (f_X1_look ((f_X0_imagine vi ai hd jc (nI k)).1) ((f_X1_change ((f_X0_imagine vi ai hd jc (nI k)).1) ((f_X0_imagine vi ai hd jc (nI k)).2) x1).2)) = x2 → (s_X0_drop hd (nI k)) ∧ (sf_X0_see_2 n (k + 1) ((f_X0_imagine vi ai hd jc (nI k)).1) ((f_X1_change ((f_X0_imagine vi ai hd jc (nI k)).1) ((f_X0_imagine vi ai hd jc (nI k)).2) x1).2) ((f_X0_drop hd lf (nI k)).1) jc ((f_X0_drop hd lf (nI k)).2) x1 x2)))))))) := rfl
def s_X0_see (vi : Nat → Int32) (ai : Nat → Int32) (hd : Nat → Int32) (jc : Int32) (lf : Int32) (p1 : Int32) (p2 : Int32) : Prop := (sf_X0_see_2 730 0 vi ai hd jc lf p1 p2)
abbrev rm_X0_see : Room := { frames := 3, cells := 0, slots := 0, locals := 68 }
theorem zd_X0_see : yX0_see.cls = RX0 ∧ yX0_see.cls ≠ "java/lang/invoke/MethodHandle" ∧ yX0_see.cls ≠ "java/lang/invoke/VarHandle" ∧ (parseMethodDescriptor yX0_see.desc).map (fun d => d.parameters.length) = some 2 := by decide +kernel
theorem in_X0_see_X0 : ∀ w ∈ u_ws RX0 TX0 5, w ∈ wsX0_see := by decide +kernel
set_option maxHeartbeats 4000000 in
set_option maxRecDepth 100000 in
theorem l_X0_see_2 {p : Program} {l : Launch} {e : Env} {s : State} {m : MethodId} {args : Array Value} {below : List Frame} {meth : Method} {c : Code} {A : Nat → Prop} {Q : State → Prop} {G : zG} (F : CallFix p m c cX0_see 4 s args wsX0_see RX0) (hr : meth.sig.returnType = none) (hlocks : meth.locks = false) (hK : zK G s) (hA : ∀ q : Nat, s.heap.size ≤ q → A q) (gh ih iv ia gl gs : Nat) :
    ∀ (n k : Nat) (vi : Nat → Int32) (ai : Nat → Int32) (hd : Nat → Int32) (sn : Nat → Int32) (jc : Int32) (lf : Int32) (x1 : Int32) (x2 : Int32), k + n = 729 + 1 → k ≤ 729 → (sf_X0_see_2 n k vi ai hd jc lf x1 x2) → ∀ (H : Heap) (locs : List Loc) (ls : Array Slot), va_P G.1 vwCl (w_X0 G gh ih iv ia gl gs vi ai hd sn jc lf) H → va_D A (w_X0 G gh ih iv ia gl gs vi ai hd sn jc lf) → va_S A s.heap H locs → lv_has ls 4 [(0, .ref gh), (1, .int x1), (2, .int x2), (3, .int (nI k))] → (∀ (H : Heap) (locs : List Loc) (ls : Array Slot), va_P G.1 vwCl (w_X0 G gh ih iv ia gl gs ((lf_X0_see_2 n k vi ai hd jc lf x1 x2).1) ((lf_X0_see_2 n k vi ai hd jc lf x1 x2).2.1) ((lf_X0_see_2 n k vi ai hd jc lf x1 x2).2.2.1) sn jc ((lf_X0_see_2 n k vi ai hd jc lf x1 x2).2.2.2)) H → va_D A (w_X0 G gh ih iv ia gl gs ((lf_X0_see_2 n k vi ai hd jc lf x1 x2).1) ((lf_X0_see_2 n k vi ai hd jc lf x1 x2).2.1) ((lf_X0_see_2 n k vi ai hd jc lf x1 x2).2.2.1) sn jc ((lf_X0_see_2 n k vi ai hd jc lf x1 x2).2.2.2)) → va_S A s.heap H locs → lv_has ls 4 [] → W p l e rm_X0_see s m args below meth c H locs 0 0 Q (F0 m 68 ls [])) → W p l e rm_X0_see s m args below meth c H locs 0 0 Q (F0 m 2 ls []) := by
  obtain ⟨hx, hb, hml, hown, hts⟩ := id F
  intro n
  induction n with
  | zero => intro k vi ai hd sn jc lf x1 x2 h1 h2; omega
  | succ n IH9 =>
    intro k vi ai hd sn jc lf x1 x2 hkn hkN hs H locs ls hP hD hS hl kk
    have hs : (((729 : Int32) ≤ (nI k) → True) ∧ (¬ (729 : Int32) ≤ (nI k) → (((f_X0_isCandidate hd (nI k)) = (0 : Int32) → (sf_X0_see_2 n (k + 1) vi ai hd jc lf x1 x2)) ∧ (¬ (f_X0_isCandidate hd (nI k)) = (0 : Int32) → (s_X0_imagine hd jc (nI k)) ∧ (((f_X1_look ((f_X0_imagine vi ai hd jc (nI k)).1) ((f_X1_change ((f_X0_imagine vi ai hd jc (nI k)).1) ((f_X0_imagine vi ai hd jc (nI k)).2) x1).2)) = x2 → (s_X0_keep hd (nI k) (f_X1_state ((f_X1_change ((f_X0_imagine vi ai hd jc (nI k)).1) ((f_X0_imagine vi ai hd jc (nI k)).2) x1).2))) ∧ (sf_X0_see_2 n (k + 1) ((f_X0_imagine vi ai hd jc (nI k)).1) ((f_X1_change ((f_X0_imagine vi ai hd jc (nI k)).1) ((f_X0_imagine vi ai hd jc (nI k)).2) x1).2) (f_X0_keep hd (nI k) (f_X1_state ((f_X1_change ((f_X0_imagine vi ai hd jc (nI k)).1) ((f_X0_imagine vi ai hd jc (nI k)).2) x1).2))) jc lf x1 x2)) ∧ (¬ (f_X1_look ((f_X0_imagine vi ai hd jc (nI k)).1) ((f_X1_change ((f_X0_imagine vi ai hd jc (nI k)).1) ((f_X0_imagine vi ai hd jc (nI k)).2) x1).2)) = x2 → (s_X0_drop hd (nI k)) ∧ (sf_X0_see_2 n (k + 1) ((f_X0_imagine vi ai hd jc (nI k)).1) ((f_X1_change ((f_X0_imagine vi ai hd jc (nI k)).1) ((f_X0_imagine vi ai hd jc (nI k)).2) x1).2) ((f_X0_drop hd lf (nI k)).1) jc ((f_X0_drop hd lf (nI k)).2) x1 x2))))))) := hs
    refine lv_iload_n hx hb dX0_see_2 rfl (lv_at hl 3 rfl) ?_
    refine lv_sipush (v := (729 : Int32)) hx hb dX0_see_3 (by decide) ?_
    refine lv_icmp_ge (tgt := 68) hx hb dX0_see_6 (by decide) (fun (c_1 : (729 : Int32) ≤ (nI k)) => ?_) (fun (c_1 : ¬ (729 : Int32) ≤ (nI k)) => ?_)
    · have e9 : (lf_X0_see_2 (n + 1) k vi ai hd jc lf x1 x2) = (vi, ai, hd, lf) := (lf_X0_see_2_succ n k vi ai hd jc lf x1 x2).trans ((if_pos c_1).trans (rfl))
      rw [e9] at kk
      dsimp only at kk
      exact kk H locs ls hP hD hS (lv_sub hl [] rfl)
    · have hs := hs.2 c_1
      refine lv_aload_n hx hb dX0_see_9 rfl (lv_at hl 0 rfl) ?_
      refine lv_iload_n hx hb dX0_see_10 rfl (lv_at hl 3 rfl) ?_
      refine z_callV (As := [.int (nI k)]) (rest := []) (wr := ([] : va_W)) (w1 := fun _ : Unit => (w_X0 G gh ih iv ia gl gs vi ai hd sn jc lf)) (wj := fun _ : Unit => (w_X0 G gh ih iv ia gl gs vi ai hd sn jc lf)) (ci := 0) (q0 := 0) F (c_X0_isCandidate l G gh ih iv ia gl gs vi ai hd sn jc lf (nI k)) gX0_see_X0_isCandidate rfl rfl rfl zd_X0_isCandidate ⟨Nat.le_of_ble_eq_true rfl, Nat.le_of_ble_eq_true rfl⟩ rfl rfl (Nat.le_of_ble_eq_true rfl) dX0_see_11 ⟨Nat.le_of_ble_eq_true rfl, Nat.le_of_ble_eq_true rfl⟩ hK hP hD hS hA hl.1 rfl rfl [0, 1, 2, 3, 4, 5] [] [0, 1, 2, 3, 4, 5] rfl rfl rfl rfl (by decide) rfl (fun _ => rfl) (fun _ H locs hP hD hS => ?_)
      have hP : va_P G.1 vwCl (w_X0 G gh ih iv ia gl gs vi ai hd sn jc lf) H := hP
      have hD : va_D A (w_X0 G gh ih iv ia gl gs vi ai hd sn jc lf) := hD
      refine lv_if_eq (tgt := 62) hx hb dX0_see_14 (by decide) (fun (c_2 : (f_X0_isCandidate hd (nI k)) = (0 : Int32)) => ?_) (fun (c_2 : ¬ (f_X0_isCandidate hd (nI k)) = (0 : Int32)) => ?_)
      · have hs := hs.1 c_2
        refine lv_iinc (v := (nI (k + 1))) (lv' := [(3, .int (nI (k + 1))), (0, .ref gh), (1, .int x1), (2, .int x2)]) hx hb dX0_see_62 hl (k := 3) rfl (nI_1 k) (by decide) rfl (fun ls hl => ?_)
        refine lv_goto (tgt := 2) hx hb dX0_see_65 (by decide) ?_
        have e9 : (lf_X0_see_2 (n + 1) k vi ai hd jc lf x1 x2) = (lf_X0_see_2 n (k + 1) vi ai hd jc lf x1 x2) := (lf_X0_see_2_succ n k vi ai hd jc lf x1 x2).trans ((if_neg c_1).trans ((if_pos c_2).trans (rfl)))
        rw [e9] at kk
        have h9 := zk_lt (N := 729) (by omega) rfl c_1
        exact IH9 (k + 1) vi ai hd sn jc lf x1 x2 (by omega) (by omega) hs H locs ls hP hD hS (lv_sub hl [1, 2, 3, 0] rfl) kk
      · have hs := hs.2 c_2
        refine lv_aload_n hx hb dX0_see_17 rfl (lv_at hl 0 rfl) ?_
        refine lv_iload_n hx hb dX0_see_18 rfl (lv_at hl 3 rfl) ?_
        obtain ⟨h_3, hs⟩ := hs
        refine z_callV (As := [.int (nI k)]) (rest := []) (wr := ([] : va_W)) (w1 := fun _ : Unit => (w_X0 G gh ih iv ia gl gs ((f_X0_imagine vi ai hd jc (nI k)).1) ((f_X0_imagine vi ai hd jc (nI k)).2) hd sn jc lf)) (wj := fun _ : Unit => (w_X0 G gh ih iv ia gl gs (f_X0_imagine vi ai hd jc (nI k)).1 (f_X0_imagine vi ai hd jc (nI k)).2 hd sn jc lf)) (ci := 0) (q0 := 0) F (c_X0_imagine l G gh ih iv ia gl gs vi ai hd sn jc lf (nI k) h_3) gX0_see_X0_imagine rfl rfl rfl zd_X0_imagine ⟨Nat.le_of_ble_eq_true rfl, Nat.le_of_ble_eq_true rfl⟩ rfl rfl (Nat.le_of_ble_eq_true rfl) dX0_see_19 ⟨Nat.le_of_ble_eq_true rfl, Nat.le_of_ble_eq_true rfl⟩ hK hP hD hS hA hl.1 rfl rfl [0, 1, 2, 3, 4, 5] [] [0, 1, 2, 3, 4, 5] rfl rfl rfl rfl (by decide) rfl (fun _ => rfl) (fun _ H locs hP hD hS => ?_)
        have hP : va_P G.1 vwCl (w_X0 G gh ih iv ia gl gs (f_X0_imagine vi ai hd jc (nI k)).1 (f_X0_imagine vi ai hd jc (nI k)).2 hd sn jc lf) H := hP
        have hD : va_D A (w_X0 G gh ih iv ia gl gs (f_X0_imagine vi ai hd jc (nI k)).1 (f_X0_imagine vi ai hd jc (nI k)).2 hd sn jc lf) := hD
        refine lv_aload_n hx hb dX0_see_22 rfl (lv_at hl 0 rfl) ?_
        refine va_get (D := G.1) (ci := 0) (v := .ref ih) (C := RX0) (T := TX0) (N := 5) hx hb hts in_X0_see_X0 hown hK.1 hP 0 rfl rfl 0 (by decide) (hts (.fieldLink RX0 12 "JarRiddle$Guesser" "imagined" "LJarRiddle$Row;") (by decide +kernel)) (fun _ h9 => h9) rfl dX0_see_23 ?_
        refine lv_iload_n hx hb dX0_see_26 rfl (lv_at hl 1 rfl) ?_
        refine z_callV (As := [.int x1]) (rest := []) (wr := ([(gh, .inr (0, [.ref ih, .ref gl, .ref gs, .int jc, .int lf])), (gl, .inl (G.2.1, 729, .inl hd)), (gs, .inl (G.2.1, 64, .inl sn))] : va_W)) (w1 := fun _ : Unit => (w_X1 G ih iv ia ((f_X0_imagine vi ai hd jc (nI k)).1) ((f_X1_change ((f_X0_imagine vi ai hd jc (nI k)).1) ((f_X0_imagine vi ai hd jc (nI k)).2) x1).2))) (wj := fun _ : Unit => (w_X0 G gh ih iv ia gl gs (f_X0_imagine vi ai hd jc (nI k)).1 (f_X1_change ((f_X0_imagine vi ai hd jc (nI k)).1) ((f_X0_imagine vi ai hd jc (nI k)).2) x1).2 hd sn jc lf)) (ci := 1) (q0 := 1) F (c_X1_change l G ih iv ia ((f_X0_imagine vi ai hd jc (nI k)).1) ((f_X0_imagine vi ai hd jc (nI k)).2) x1) gX0_see_X1_change rfl rfl rfl zd_X1_change ⟨Nat.le_of_ble_eq_true rfl, Nat.le_of_ble_eq_true rfl⟩ rfl rfl (Nat.le_of_ble_eq_true rfl) dX0_see_27 ⟨Nat.le_of_ble_eq_true rfl, Nat.le_of_ble_eq_true rfl⟩ hK hP hD hS hA hl.1 rfl rfl [1, 2, 3] [0, 4, 5] [0, 3, 4, 5, 1, 2] rfl rfl rfl rfl (by decide) rfl (fun _ => rfl) (fun _ H locs hP hD hS => ?_)
        have hP : va_P G.1 vwCl (w_X0 G gh ih iv ia gl gs (f_X0_imagine vi ai hd jc (nI k)).1 (f_X1_change ((f_X0_imagine vi ai hd jc (nI k)).1) ((f_X0_imagine vi ai hd jc (nI k)).2) x1).2 hd sn jc lf) H := hP
        have hD : va_D A (w_X0 G gh ih iv ia gl gs (f_X0_imagine vi ai hd jc (nI k)).1 (f_X1_change ((f_X0_imagine vi ai hd jc (nI k)).1) ((f_X0_imagine vi ai hd jc (nI k)).2) x1).2 hd sn jc lf) := hD
        refine lv_pop hx hb dX0_see_30 rfl ?_
        refine lv_aload_n hx hb dX0_see_31 rfl (lv_at hl 0 rfl) ?_
        refine va_get (D := G.1) (ci := 0) (v := .ref ih) (C := RX0) (T := TX0) (N := 5) hx hb hts in_X0_see_X0 hown hK.1 hP 0 rfl rfl 0 (by decide) (hts (.fieldLink RX0 12 "JarRiddle$Guesser" "imagined" "LJarRiddle$Row;") (by decide +kernel)) (fun _ h9 => h9) rfl dX0_see_32 ?_
        refine z_callV (As := []) (rest := []) (wr := ([(gh, .inr (0, [.ref ih, .ref gl, .ref gs, .int jc, .int lf])), (gl, .inl (G.2.1, 729, .inl hd)), (gs, .inl (G.2.1, 64, .inl sn))] : va_W)) (w1 := fun _ : Unit => (w_X1 G ih iv ia ((f_X0_imagine vi ai hd jc (nI k)).1) ((f_X1_change ((f_X0_imagine vi ai hd jc (nI k)).1) ((f_X0_imagine vi ai hd jc (nI k)).2) x1).2))) (wj := fun _ : Unit => (w_X0 G gh ih iv ia gl gs (f_X0_imagine vi ai hd jc (nI k)).1 (f_X1_change ((f_X0_imagine vi ai hd jc (nI k)).1) ((f_X0_imagine vi ai hd jc (nI k)).2) x1).2 hd sn jc lf)) (ci := 1) (q0 := 1) F (c_X1_look l G ih iv ia ((f_X0_imagine vi ai hd jc (nI k)).1) ((f_X1_change ((f_X0_imagine vi ai hd jc (nI k)).1) ((f_X0_imagine vi ai hd jc (nI k)).2) x1).2)) gX0_see_X1_look rfl rfl rfl zd_X1_look ⟨Nat.le_of_ble_eq_true rfl, Nat.le_of_ble_eq_true rfl⟩ rfl rfl (Nat.le_of_ble_eq_true rfl) dX0_see_35 ⟨Nat.le_of_ble_eq_true rfl, Nat.le_of_ble_eq_true rfl⟩ hK hP hD hS hA hl.1 rfl rfl [1, 2, 3] [0, 4, 5] [0, 3, 4, 5, 1, 2] rfl rfl rfl rfl (by decide) rfl (fun _ => rfl) (fun _ H locs hP hD hS => ?_)
        have hP : va_P G.1 vwCl (w_X0 G gh ih iv ia gl gs (f_X0_imagine vi ai hd jc (nI k)).1 (f_X1_change ((f_X0_imagine vi ai hd jc (nI k)).1) ((f_X0_imagine vi ai hd jc (nI k)).2) x1).2 hd sn jc lf) H := hP
        have hD : va_D A (w_X0 G gh ih iv ia gl gs (f_X0_imagine vi ai hd jc (nI k)).1 (f_X1_change ((f_X0_imagine vi ai hd jc (nI k)).1) ((f_X0_imagine vi ai hd jc (nI k)).2) x1).2 hd sn jc lf) := hD
        refine lv_iload_n hx hb dX0_see_38 rfl (lv_at hl 2 rfl) ?_
        refine lv_icmp_ne (tgt := 57) hx hb dX0_see_39 (by decide) (fun (c_4 : ¬ (f_X1_look ((f_X0_imagine vi ai hd jc (nI k)).1) ((f_X1_change ((f_X0_imagine vi ai hd jc (nI k)).1) ((f_X0_imagine vi ai hd jc (nI k)).2) x1).2)) = x2) => ?_) (fun (c_4 : (f_X1_look ((f_X0_imagine vi ai hd jc (nI k)).1) ((f_X1_change ((f_X0_imagine vi ai hd jc (nI k)).1) ((f_X0_imagine vi ai hd jc (nI k)).2) x1).2)) = x2) => ?_)
        · have hs := hs.2 c_4
          refine lv_aload_n hx hb dX0_see_57 rfl (lv_at hl 0 rfl) ?_
          refine lv_iload_n hx hb dX0_see_58 rfl (lv_at hl 3 rfl) ?_
          obtain ⟨h_5, hs⟩ := hs
          refine z_callV (As := [.int (nI k)]) (rest := []) (wr := ([] : va_W)) (w1 := fun _ : Unit => (w_X0 G gh ih iv ia gl gs ((f_X0_imagine vi ai hd jc (nI k)).1) ((f_X1_change ((f_X0_imagine vi ai hd jc (nI k)).1) ((f_X0_imagine vi ai hd jc (nI k)).2) x1).2) ((f_X0_drop hd lf (nI k)).1) sn jc ((f_X0_drop hd lf (nI k)).2))) (wj := fun _ : Unit => (w_X0 G gh ih iv ia gl gs (f_X0_imagine vi ai hd jc (nI k)).1 (f_X1_change ((f_X0_imagine vi ai hd jc (nI k)).1) ((f_X0_imagine vi ai hd jc (nI k)).2) x1).2 (f_X0_drop hd lf (nI k)).1 sn jc (f_X0_drop hd lf (nI k)).2)) (ci := 0) (q0 := 0) F (c_X0_drop l G gh ih iv ia gl gs ((f_X0_imagine vi ai hd jc (nI k)).1) ((f_X1_change ((f_X0_imagine vi ai hd jc (nI k)).1) ((f_X0_imagine vi ai hd jc (nI k)).2) x1).2) hd sn jc lf (nI k) h_5) gX0_see_X0_drop rfl rfl rfl zd_X0_drop ⟨Nat.le_of_ble_eq_true rfl, Nat.le_of_ble_eq_true rfl⟩ rfl rfl (Nat.le_of_ble_eq_true rfl) dX0_see_59 ⟨Nat.le_of_ble_eq_true rfl, Nat.le_of_ble_eq_true rfl⟩ hK hP hD hS hA hl.1 rfl rfl [0, 1, 2, 3, 4, 5] [] [0, 1, 2, 3, 4, 5] rfl rfl rfl rfl (by decide) rfl (fun _ => rfl) (fun _ H locs hP hD hS => ?_)
          have hP : va_P G.1 vwCl (w_X0 G gh ih iv ia gl gs (f_X0_imagine vi ai hd jc (nI k)).1 (f_X1_change ((f_X0_imagine vi ai hd jc (nI k)).1) ((f_X0_imagine vi ai hd jc (nI k)).2) x1).2 (f_X0_drop hd lf (nI k)).1 sn jc (f_X0_drop hd lf (nI k)).2) H := hP
          have hD : va_D A (w_X0 G gh ih iv ia gl gs (f_X0_imagine vi ai hd jc (nI k)).1 (f_X1_change ((f_X0_imagine vi ai hd jc (nI k)).1) ((f_X0_imagine vi ai hd jc (nI k)).2) x1).2 (f_X0_drop hd lf (nI k)).1 sn jc (f_X0_drop hd lf (nI k)).2) := hD
          refine lv_iinc (v := (nI (k + 1))) (lv' := [(3, .int (nI (k + 1))), (0, .ref gh), (1, .int x1), (2, .int x2)]) hx hb dX0_see_62 hl (k := 3) rfl (nI_1 k) (by decide) rfl (fun ls hl => ?_)
          refine lv_goto (tgt := 2) hx hb dX0_see_65 (by decide) ?_
          have e9 : (lf_X0_see_2 (n + 1) k vi ai hd jc lf x1 x2) = (lf_X0_see_2 n (k + 1) ((f_X0_imagine vi ai hd jc (nI k)).1) ((f_X1_change ((f_X0_imagine vi ai hd jc (nI k)).1) ((f_X0_imagine vi ai hd jc (nI k)).2) x1).2) ((f_X0_drop hd lf (nI k)).1) jc ((f_X0_drop hd lf (nI k)).2) x1 x2) := (lf_X0_see_2_succ n k vi ai hd jc lf x1 x2).trans ((if_neg c_1).trans ((if_neg c_2).trans ((if_neg c_4).trans (rfl))))
          rw [e9] at kk
          have h9 := zk_lt (N := 729) (by omega) rfl c_1
          exact IH9 (k + 1) ((f_X0_imagine vi ai hd jc (nI k)).1) ((f_X1_change ((f_X0_imagine vi ai hd jc (nI k)).1) ((f_X0_imagine vi ai hd jc (nI k)).2) x1).2) ((f_X0_drop hd lf (nI k)).1) sn jc ((f_X0_drop hd lf (nI k)).2) x1 x2 (by omega) (by omega) hs H locs ls hP hD hS (lv_sub hl [1, 2, 3, 0] rfl) kk
        · have hs := hs.1 c_4
          refine lv_aload_n hx hb dX0_see_42 rfl (lv_at hl 0 rfl) ?_
          refine lv_iload_n hx hb dX0_see_43 rfl (lv_at hl 3 rfl) ?_
          refine lv_aload_n hx hb dX0_see_44 rfl (lv_at hl 0 rfl) ?_
          refine va_get (D := G.1) (ci := 0) (v := .ref ih) (C := RX0) (T := TX0) (N := 5) hx hb hts in_X0_see_X0 hown hK.1 hP 0 rfl rfl 0 (by decide) (hts (.fieldLink RX0 12 "JarRiddle$Guesser" "imagined" "LJarRiddle$Row;") (by decide +kernel)) (fun _ h9 => h9) rfl dX0_see_45 ?_
          refine z_callV (As := []) (rest := [.int (nI k), .ref gh]) (wr := ([(gh, .inr (0, [.ref ih, .ref gl, .ref gs, .int jc, .int lf])), (gl, .inl (G.2.1, 729, .inl hd)), (gs, .inl (G.2.1, 64, .inl sn))] : va_W)) (w1 := fun _ : Unit => (w_X1 G ih iv ia ((f_X0_imagine vi ai hd jc (nI k)).1) ((f_X1_change ((f_X0_imagine vi ai hd jc (nI k)).1) ((f_X0_imagine vi ai hd jc (nI k)).2) x1).2))) (wj := fun _ : Unit => (w_X0 G gh ih iv ia gl gs (f_X0_imagine vi ai hd jc (nI k)).1 (f_X1_change ((f_X0_imagine vi ai hd jc (nI k)).1) ((f_X0_imagine vi ai hd jc (nI k)).2) x1).2 hd sn jc lf)) (ci := 1) (q0 := 1) F (c_X1_state l G ih iv ia ((f_X0_imagine vi ai hd jc (nI k)).1) ((f_X1_change ((f_X0_imagine vi ai hd jc (nI k)).1) ((f_X0_imagine vi ai hd jc (nI k)).2) x1).2)) gX0_see_X1_state rfl rfl rfl zd_X1_state ⟨Nat.le_of_ble_eq_true rfl, Nat.le_of_ble_eq_true rfl⟩ rfl rfl (Nat.le_of_ble_eq_true rfl) dX0_see_48 ⟨Nat.le_of_ble_eq_true rfl, Nat.le_of_ble_eq_true rfl⟩ hK hP hD hS hA hl.1 rfl rfl [1, 2, 3] [0, 4, 5] [0, 3, 4, 5, 1, 2] rfl rfl rfl rfl (by decide) rfl (fun _ => rfl) (fun _ H locs hP hD hS => ?_)
          have hP : va_P G.1 vwCl (w_X0 G gh ih iv ia gl gs (f_X0_imagine vi ai hd jc (nI k)).1 (f_X1_change ((f_X0_imagine vi ai hd jc (nI k)).1) ((f_X0_imagine vi ai hd jc (nI k)).2) x1).2 hd sn jc lf) H := hP
          have hD : va_D A (w_X0 G gh ih iv ia gl gs (f_X0_imagine vi ai hd jc (nI k)).1 (f_X1_change ((f_X0_imagine vi ai hd jc (nI k)).1) ((f_X0_imagine vi ai hd jc (nI k)).2) x1).2 hd sn jc lf) := hD
          obtain ⟨h_6, hs⟩ := hs
          refine z_callV (As := [.int (nI k), .int (f_X1_state ((f_X1_change ((f_X0_imagine vi ai hd jc (nI k)).1) ((f_X0_imagine vi ai hd jc (nI k)).2) x1).2))]) (rest := []) (wr := ([] : va_W)) (w1 := fun _ : Unit => (w_X0 G gh ih iv ia gl gs ((f_X0_imagine vi ai hd jc (nI k)).1) ((f_X1_change ((f_X0_imagine vi ai hd jc (nI k)).1) ((f_X0_imagine vi ai hd jc (nI k)).2) x1).2) (f_X0_keep hd (nI k) (f_X1_state ((f_X1_change ((f_X0_imagine vi ai hd jc (nI k)).1) ((f_X0_imagine vi ai hd jc (nI k)).2) x1).2))) sn jc lf)) (wj := fun _ : Unit => (w_X0 G gh ih iv ia gl gs (f_X0_imagine vi ai hd jc (nI k)).1 (f_X1_change ((f_X0_imagine vi ai hd jc (nI k)).1) ((f_X0_imagine vi ai hd jc (nI k)).2) x1).2 (f_X0_keep hd (nI k) (f_X1_state ((f_X1_change ((f_X0_imagine vi ai hd jc (nI k)).1) ((f_X0_imagine vi ai hd jc (nI k)).2) x1).2))) sn jc lf)) (ci := 0) (q0 := 0) F (c_X0_keep l G gh ih iv ia gl gs ((f_X0_imagine vi ai hd jc (nI k)).1) ((f_X1_change ((f_X0_imagine vi ai hd jc (nI k)).1) ((f_X0_imagine vi ai hd jc (nI k)).2) x1).2) hd sn jc lf (nI k) (f_X1_state ((f_X1_change ((f_X0_imagine vi ai hd jc (nI k)).1) ((f_X0_imagine vi ai hd jc (nI k)).2) x1).2)) h_6) gX0_see_X0_keep rfl rfl rfl zd_X0_keep ⟨Nat.le_of_ble_eq_true rfl, Nat.le_of_ble_eq_true rfl⟩ rfl rfl (Nat.le_of_ble_eq_true rfl) dX0_see_51 ⟨Nat.le_of_ble_eq_true rfl, Nat.le_of_ble_eq_true rfl⟩ hK hP hD hS hA hl.1 rfl rfl [0, 1, 2, 3, 4, 5] [] [0, 1, 2, 3, 4, 5] rfl rfl rfl rfl (by decide) rfl (fun _ => rfl) (fun _ H locs hP hD hS => ?_)
          have hP : va_P G.1 vwCl (w_X0 G gh ih iv ia gl gs (f_X0_imagine vi ai hd jc (nI k)).1 (f_X1_change ((f_X0_imagine vi ai hd jc (nI k)).1) ((f_X0_imagine vi ai hd jc (nI k)).2) x1).2 (f_X0_keep hd (nI k) (f_X1_state ((f_X1_change ((f_X0_imagine vi ai hd jc (nI k)).1) ((f_X0_imagine vi ai hd jc (nI k)).2) x1).2))) sn jc lf) H := hP
          have hD : va_D A (w_X0 G gh ih iv ia gl gs (f_X0_imagine vi ai hd jc (nI k)).1 (f_X1_change ((f_X0_imagine vi ai hd jc (nI k)).1) ((f_X0_imagine vi ai hd jc (nI k)).2) x1).2 (f_X0_keep hd (nI k) (f_X1_state ((f_X1_change ((f_X0_imagine vi ai hd jc (nI k)).1) ((f_X0_imagine vi ai hd jc (nI k)).2) x1).2))) sn jc lf) := hD
          refine lv_goto (tgt := 62) hx hb dX0_see_54 (by decide) ?_
          refine lv_iinc (v := (nI (k + 1))) (lv' := [(3, .int (nI (k + 1))), (0, .ref gh), (1, .int x1), (2, .int x2)]) hx hb dX0_see_62 hl (k := 3) rfl (nI_1 k) (by decide) rfl (fun ls hl => ?_)
          refine lv_goto (tgt := 2) hx hb dX0_see_65 (by decide) ?_
          have e9 : (lf_X0_see_2 (n + 1) k vi ai hd jc lf x1 x2) = (lf_X0_see_2 n (k + 1) ((f_X0_imagine vi ai hd jc (nI k)).1) ((f_X1_change ((f_X0_imagine vi ai hd jc (nI k)).1) ((f_X0_imagine vi ai hd jc (nI k)).2) x1).2) (f_X0_keep hd (nI k) (f_X1_state ((f_X1_change ((f_X0_imagine vi ai hd jc (nI k)).1) ((f_X0_imagine vi ai hd jc (nI k)).2) x1).2))) jc lf x1 x2) := (lf_X0_see_2_succ n k vi ai hd jc lf x1 x2).trans ((if_neg c_1).trans ((if_neg c_2).trans ((if_pos c_4).trans (rfl))))
          rw [e9] at kk
          have h9 := zk_lt (N := 729) (by omega) rfl c_1
          exact IH9 (k + 1) ((f_X0_imagine vi ai hd jc (nI k)).1) ((f_X1_change ((f_X0_imagine vi ai hd jc (nI k)).1) ((f_X0_imagine vi ai hd jc (nI k)).2) x1).2) (f_X0_keep hd (nI k) (f_X1_state ((f_X1_change ((f_X0_imagine vi ai hd jc (nI k)).1) ((f_X0_imagine vi ai hd jc (nI k)).2) x1).2))) sn jc lf x1 x2 (by omega) (by omega) hs H locs ls hP hD hS (lv_sub hl [1, 2, 3, 0] rfl) kk
set_option maxHeartbeats 4000000 in
set_option maxRecDepth 100000 in
/-- JarRiddle$Guesser.see(II)V -/
theorem c_X0_see (l : Launch) (G : zG) (gh ih iv ia gl gs : Nat) (vi : Nat → Int32) (ai : Nat → Int32) (hd : Nat → Int32) (sn : Nat → Int32) (jc : Int32) (lf : Int32) (p1 : Int32) (p2 : Int32) (hs : s_X0_see vi ai hd jc lf p1 p2) : zC l G yX0_see wsX0_see rm_X0_see 0 0 [.ref gh, .int p1, .int p2] (w_X0 G gh ih iv ia gl gs vi ai hd sn jc lf) none (fun _ : Unit => (w_X0 G gh ih iv ia gl gs ((f_X0_see vi ai hd jc lf p1 p2).1) ((f_X0_see vi ai hd jc lf p1 p2).2.1) ((f_X0_see vi ai hd jc lf p1 p2).2.2.1) sn jc ((f_X0_see vi ai hd jc lf p1 p2).2.2.2))) := by
  refine z_of (cc := cX0_see) (maxL := 4) (ret := none) (own := RX0) (by decide) rfl rfl (Nat.le_of_ble_eq_true rfl) ?_
  intro p e s m args below meth c A H locs ls F hr hlocks hname hK hA hP hD hS hl
  obtain ⟨hx, hb, hml, hown, hts⟩ := id F
  have hl : lv_has ls 4 [(0, .ref gh), (1, .int p1), (2, .int p2)] := hl
  have hs : (sf_X0_see_2 730 0 vi ai hd jc lf p1 p2) := hs
  refine lv_iconst (v := (0 : Int32)) hx hb dX0_see_0 (by decide) ?_
  refine lv_istore_n (lv' := [(3, .int (0 : Int32)), (0, .ref gh), (1, .int p1), (2, .int p2)]) hx hb dX0_see_1 rfl hl (by decide) rfl (fun ls hl => ?_)
  have h_7 := hs
  refine l_X0_see_2 F hr hlocks hK hA gh ih iv ia gl gs 730 0 vi ai hd sn jc lf p1 p2 (by omega) (by omega) h_7 H locs ls hP hD hS (lv_sub hl [1, 2, 3, 0] rfl) ?_
  intro H locs ls hP hD hS hl
  have hP : va_P G.1 vwCl (w_X0 G gh ih iv ia gl gs (lf_X0_see_2 730 0 vi ai hd jc lf p1 p2).1 (lf_X0_see_2 730 0 vi ai hd jc lf p1 p2).2.1 (lf_X0_see_2 730 0 vi ai hd jc lf p1 p2).2.2.1 sn jc (lf_X0_see_2 730 0 vi ai hd jc lf p1 p2).2.2.2) H := hP
  have hD : va_D A (w_X0 G gh ih iv ia gl gs (lf_X0_see_2 730 0 vi ai hd jc lf p1 p2).1 (lf_X0_see_2 730 0 vi ai hd jc lf p1 p2).2.1 (lf_X0_see_2 730 0 vi ai hd jc lf p1 p2).2.2.1 sn jc (lf_X0_see_2 730 0 vi ai hd jc lf p1 p2).2.2.2) := hD
  have hl : lv_has ls 4 [] := hl
  have e9 : (f_X0_see vi ai hd jc lf p1 p2) = ((lf_X0_see_2 730 0 vi ai hd jc lf p1 p2).1, (lf_X0_see_2 730 0 vi ai hd jc lf p1 p2).2.1, (lf_X0_see_2 730 0 vi ai hd jc lf p1 p2).2.2.1, (lf_X0_see_2 730 0 vi ai hd jc lf p1 p2).2.2.2) := (f_X0_see_eq vi ai hd jc lf p1 p2).trans (rfl)
  rw [e9]
  dsimp only
  exact z_vret F hr hlocks hP hD hS () [0, 1, 2, 3, 4, 5] rfl rfl rfl dX0_see_68
def lf_X0_learn_3 : Nat → Nat → (Nat → Int32) → (Nat → Int32) → (Nat → Int32) → Int32 → Int32 → Int32 → Int32 → Int32 → (Nat → Int32) × (Nat → Int32) × (Nat → Int32) × Int32
  | 0, k, vi, ai, hd, jc, lf, x1, x2, x3 => (vi, ai, hd, lf)
  | n + 1, k, vi, ai, hd, jc, lf, x1, x2, x3 => (if (729 : Int32) ≤ (nI k) then (vi, ai, hd, lf) else (if (f_X0_isCandidate hd (nI k)) = (0 : Int32) then (lf_X0_learn_3 n (k + 1) vi ai hd jc lf x1 x2 x3) else (if (f_X1_volumeAt ((f_X0_imagine vi ai hd jc (nI k)).1) x1) = x2 then (if (1 : Int32) = x3 then (lf_X0_learn_3 n (k + 1) ((f_X0_imagine vi ai hd jc (nI k)).1) ((f_X0_imagine vi ai hd jc (nI k)).2) hd jc lf x1 x2 x3) else (lf_X0_learn_3 n (k + 1) ((f_X0_imagine vi ai hd jc (nI k)).1) ((f_X0_imagine vi ai hd jc (nI k)).2) ((f_X0_drop hd lf (nI k)).1) jc ((f_X0_drop hd lf (nI k)).2) x1 x2 x3)) else (if (0 : Int32) = x3 then (lf_X0_learn_3 n (k + 1) ((f_X0_imagine vi ai hd jc (nI k)).1) ((f_X0_imagine vi ai hd jc (nI k)).2) hd jc lf x1 x2 x3) else (lf_X0_learn_3 n (k + 1) ((f_X0_imagine vi ai hd jc (nI k)).1) ((f_X0_imagine vi ai hd jc (nI k)).2) ((f_X0_drop hd lf (nI k)).1) jc ((f_X0_drop hd lf (nI k)).2) x1 x2 x3)))))
theorem lf_X0_learn_3_succ (n k : Nat) (vi : Nat → Int32) (ai : Nat → Int32) (hd : Nat → Int32) (jc : Int32) (lf : Int32) (x1 : Int32) (x2 : Int32) (x3 : Int32) : lf_X0_learn_3 (n + 1) k vi ai hd jc lf x1 x2 x3 = (if (729 : Int32) ≤ (nI k) then (vi, ai, hd, lf) else (if (f_X0_isCandidate hd (nI k)) = (0 : Int32) then (lf_X0_learn_3 n (k + 1) vi ai hd jc lf x1 x2 x3) else (if (f_X1_volumeAt ((f_X0_imagine vi ai hd jc (nI k)).1) x1) = x2 then (if (1 : Int32) = x3 then (lf_X0_learn_3 n (k + 1) ((f_X0_imagine vi ai hd jc (nI k)).1) ((f_X0_imagine vi ai hd jc (nI k)).2) hd jc lf x1 x2 x3) else (lf_X0_learn_3 n (k + 1) ((f_X0_imagine vi ai hd jc (nI k)).1) ((f_X0_imagine vi ai hd jc (nI k)).2) ((f_X0_drop hd lf (nI k)).1) jc ((f_X0_drop hd lf (nI k)).2) x1 x2 x3)) else (if (0 : Int32) = x3 then (lf_X0_learn_3 n (k + 1) ((f_X0_imagine vi ai hd jc (nI k)).1) ((f_X0_imagine vi ai hd jc (nI k)).2) hd jc lf x1 x2 x3) else (lf_X0_learn_3 n (k + 1) ((f_X0_imagine vi ai hd jc (nI k)).1) ((f_X0_imagine vi ai hd jc (nI k)).2) ((f_X0_drop hd lf (nI k)).1) jc ((f_X0_drop hd lf (nI k)).2) x1 x2 x3))))) := rfl
def f_X0_learn (vi : Nat → Int32) (ai : Nat → Int32) (hd : Nat → Int32) (jc : Int32) (lf : Int32) (p1 : Int32) (p2 : Int32) (p3 : Int32) : (Nat → Int32) × (Nat → Int32) × (Nat → Int32) × Int32 := ((lf_X0_learn_3 730 0 vi ai hd jc lf p1 p2 p3).1, (lf_X0_learn_3 730 0 vi ai hd jc lf p1 p2 p3).2.1, (lf_X0_learn_3 730 0 vi ai hd jc lf p1 p2 p3).2.2.1, (lf_X0_learn_3 730 0 vi ai hd jc lf p1 p2 p3).2.2.2)
theorem f_X0_learn_eq (vi : Nat → Int32) (ai : Nat → Int32) (hd : Nat → Int32) (jc : Int32) (lf : Int32) (p1 : Int32) (p2 : Int32) (p3 : Int32) : f_X0_learn vi ai hd jc lf p1 p2 p3 = ((lf_X0_learn_3 730 0 vi ai hd jc lf p1 p2 p3).1, (lf_X0_learn_3 730 0 vi ai hd jc lf p1 p2 p3).2.1, (lf_X0_learn_3 730 0 vi ai hd jc lf p1 p2 p3).2.2.1, (lf_X0_learn_3 730 0 vi ai hd jc lf p1 p2 p3).2.2.2) := rfl
def sf_X0_learn_3 : Nat → Nat → (Nat → Int32) → (Nat → Int32) → (Nat → Int32) → Int32 → Int32 → Int32 → Int32 → Int32 → Prop
  | 0, k, vi, ai, hd, jc, lf, x1, x2, x3 => True
  | n + 1, k, vi, ai, hd, jc, lf, x1, x2, x3 => (((729 : Int32) ≤ (nI k) → True) ∧ (¬ (729 : Int32) ≤ (nI k) → (((f_X0_isCandidate hd (nI k)) = (0 : Int32) → (sf_X0_learn_3 n (k + 1) vi ai hd jc lf x1 x2 x3)) ∧ (¬ (f_X0_isCandidate hd (nI k)) = (0 : Int32) → (s_X0_imagine hd jc (nI k)) ∧ (((f_X1_volumeAt ((f_X0_imagine vi ai hd jc (nI k)).1) x1) = x2 → (((1 : Int32) = x3 → (sf_X0_learn_3 n (k + 1) ((f_X0_imagine vi ai hd jc (nI k)).1) ((f_X0_imagine vi ai hd jc (nI k)).2) hd jc lf x1 x2 x3)) ∧ (¬ (1 : Int32) = x3 → (s_X0_drop hd (nI k)) ∧ (sf_X0_learn_3 n (k + 1) ((f_X0_imagine vi ai hd jc (nI k)).1) ((f_X0_imagine vi ai hd jc (nI k)).2) ((f_X0_drop hd lf (nI k)).1) jc ((f_X0_drop hd lf (nI k)).2) x1 x2 x3)))) ∧ (¬ (f_X1_volumeAt ((f_X0_imagine vi ai hd jc (nI k)).1) x1) = x2 → (((0 : Int32) = x3 → (sf_X0_learn_3 n (k + 1) ((f_X0_imagine vi ai hd jc (nI k)).1) ((f_X0_imagine vi ai hd jc (nI k)).2) hd jc lf x1 x2 x3)) ∧ (¬ (0 : Int32) = x3 → (s_X0_drop hd (nI k)) ∧ (sf_X0_learn_3 n (k + 1) ((f_X0_imagine vi ai hd jc (nI k)).1) ((f_X0_imagine vi ai hd jc (nI k)).2) ((f_X0_drop hd lf (nI k)).1) jc ((f_X0_drop hd lf (nI k)).2) x1 x2 x3)))))))))
theorem sf_X0_learn_3_succ (n k : Nat) (vi : Nat → Int32) (ai : Nat → Int32) (hd : Nat → Int32) (jc : Int32) (lf : Int32) (x1 : Int32) (x2 : Int32) (x3 : Int32) : sf_X0_learn_3 (n + 1) k vi ai hd jc lf x1 x2 x3 = ((((729 : Int32) ≤ (nI k) → True) ∧ (¬ (729 : Int32) ≤ (nI k) → (((f_X0_isCandidate hd (nI k)) = (0 : Int32) → (sf_X0_learn_3 n (k + 1) vi ai hd jc lf x1 x2 x3)) ∧ (¬ (f_X0_isCandidate hd (nI k)) = (0 : Int32) → (s_X0_imagine hd jc (nI k)) ∧ (((f_X1_volumeAt ((f_X0_imagine vi ai hd jc (nI k)).1) x1) = x2 → (((1 : Int32) = x3 → (sf_X0_learn_3 n (k + 1) ((f_X0_imagine vi ai hd jc (nI k)).1) ((f_X0_imagine vi ai hd jc (nI k)).2) hd jc lf x1 x2 x3)) ∧ (¬ (1 : Int32) = x3 → (s_X0_drop hd (nI k)) ∧ (sf_X0_learn_3 n (k + 1) ((f_X0_imagine vi ai hd jc (nI k)).1) ((f_X0_imagine vi ai hd jc (nI k)).2) ((f_X0_drop hd lf (nI k)).1) jc ((f_X0_drop hd lf (nI k)).2) x1 x2 x3)))) ∧ (¬ (f_X1_volumeAt ((f_X0_imagine vi ai hd jc (nI k)).1) x1) = x2 → (((0 : Int32) = x3 → (sf_X0_learn_3 n (k + 1) ((f_X0_imagine vi ai hd jc (nI k)).1) ((f_X0_imagine vi ai hd jc (nI k)).2) hd jc lf x1 x2 x3)) ∧ (¬ (0 : Int32) = x3 → (s_X0_drop hd (nI k)) ∧ (sf_X0_learn_3 n (k + 1) ((f_X0_imagine vi ai hd jc (nI k)).1) ((f_X0_imagine vi ai hd jc (nI k)).2) ((f_X0_drop hd lf (nI k)).1) jc ((f_X0_drop hd lf (nI k)).2) x1 x2 x3)))))))))) := rfl
def s_X0_learn (vi : Nat → Int32) (ai : Nat → Int32) (hd : Nat → Int32) (jc : Int32) (lf : Int32) (p1 : Int32) (p2 : Int32) (p3 : Int32) : Prop := (sf_X0_learn_3 730 0 vi ai hd jc lf p1 p2 p3)
abbrev rm_X0_learn : Room := { frames := 3, cells := 0, slots := 0, locals := 68 }
theorem zd_X0_learn : yX0_learn.cls = RX0 ∧ yX0_learn.cls ≠ "java/lang/invoke/MethodHandle" ∧ yX0_learn.cls ≠ "java/lang/invoke/VarHandle" ∧ (parseMethodDescriptor yX0_learn.desc).map (fun d => d.parameters.length) = some 3 := by decide +kernel
theorem in_X0_learn_X0 : ∀ w ∈ u_ws RX0 TX0 5, w ∈ wsX0_learn := by decide +kernel
set_option maxHeartbeats 4000000 in
set_option maxRecDepth 100000 in
theorem l_X0_learn_3 {p : Program} {l : Launch} {e : Env} {s : State} {m : MethodId} {args : Array Value} {below : List Frame} {meth : Method} {c : Code} {A : Nat → Prop} {Q : State → Prop} {G : zG} (F : CallFix p m c cX0_learn 6 s args wsX0_learn RX0) (hr : meth.sig.returnType = none) (hlocks : meth.locks = false) (hK : zK G s) (hA : ∀ q : Nat, s.heap.size ≤ q → A q) (gh ih iv ia gl gs : Nat) :
    ∀ (n k : Nat) (vi : Nat → Int32) (ai : Nat → Int32) (hd : Nat → Int32) (sn : Nat → Int32) (jc : Int32) (lf : Int32) (x1 : Int32) (x2 : Int32) (x3 : Int32), k + n = 729 + 1 → k ≤ 729 → (sf_X0_learn_3 n k vi ai hd jc lf x1 x2 x3) → ∀ (H : Heap) (locs : List Loc) (ls : Array Slot), va_P G.1 vwCl (w_X0 G gh ih iv ia gl gs vi ai hd sn jc lf) H → va_D A (w_X0 G gh ih iv ia gl gs vi ai hd sn jc lf) → va_S A s.heap H locs → lv_has ls 6 [(0, .ref gh), (1, .int x1), (2, .int x2), (3, .int x3), (4, .int (nI k))] → (∀ (H : Heap) (locs : List Loc) (ls : Array Slot), va_P G.1 vwCl (w_X0 G gh ih iv ia gl gs ((lf_X0_learn_3 n k vi ai hd jc lf x1 x2 x3).1) ((lf_X0_learn_3 n k vi ai hd jc lf x1 x2 x3).2.1) ((lf_X0_learn_3 n k vi ai hd jc lf x1 x2 x3).2.2.1) sn jc ((lf_X0_learn_3 n k vi ai hd jc lf x1 x2 x3).2.2.2)) H → va_D A (w_X0 G gh ih iv ia gl gs ((lf_X0_learn_3 n k vi ai hd jc lf x1 x2 x3).1) ((lf_X0_learn_3 n k vi ai hd jc lf x1 x2 x3).2.1) ((lf_X0_learn_3 n k vi ai hd jc lf x1 x2 x3).2.2.1) sn jc ((lf_X0_learn_3 n k vi ai hd jc lf x1 x2 x3).2.2.2)) → va_S A s.heap H locs → lv_has ls 6 [] → W p l e rm_X0_learn s m args below meth c H locs 0 0 Q (F0 m 63 ls [])) → W p l e rm_X0_learn s m args below meth c H locs 0 0 Q (F0 m 3 ls []) := by
  obtain ⟨hx, hb, hml, hown, hts⟩ := id F
  intro n
  induction n with
  | zero => intro k vi ai hd sn jc lf x1 x2 x3 h1 h2; omega
  | succ n IH9 =>
    intro k vi ai hd sn jc lf x1 x2 x3 hkn hkN hs H locs ls hP hD hS hl kk
    have hs : (((729 : Int32) ≤ (nI k) → True) ∧ (¬ (729 : Int32) ≤ (nI k) → (((f_X0_isCandidate hd (nI k)) = (0 : Int32) → (sf_X0_learn_3 n (k + 1) vi ai hd jc lf x1 x2 x3)) ∧ (¬ (f_X0_isCandidate hd (nI k)) = (0 : Int32) → (s_X0_imagine hd jc (nI k)) ∧ (((f_X1_volumeAt ((f_X0_imagine vi ai hd jc (nI k)).1) x1) = x2 → (((1 : Int32) = x3 → (sf_X0_learn_3 n (k + 1) ((f_X0_imagine vi ai hd jc (nI k)).1) ((f_X0_imagine vi ai hd jc (nI k)).2) hd jc lf x1 x2 x3)) ∧ (¬ (1 : Int32) = x3 → (s_X0_drop hd (nI k)) ∧ (sf_X0_learn_3 n (k + 1) ((f_X0_imagine vi ai hd jc (nI k)).1) ((f_X0_imagine vi ai hd jc (nI k)).2) ((f_X0_drop hd lf (nI k)).1) jc ((f_X0_drop hd lf (nI k)).2) x1 x2 x3)))) ∧ (¬ (f_X1_volumeAt ((f_X0_imagine vi ai hd jc (nI k)).1) x1) = x2 → (((0 : Int32) = x3 → (sf_X0_learn_3 n (k + 1) ((f_X0_imagine vi ai hd jc (nI k)).1) ((f_X0_imagine vi ai hd jc (nI k)).2) hd jc lf x1 x2 x3)) ∧ (¬ (0 : Int32) = x3 → (s_X0_drop hd (nI k)) ∧ (sf_X0_learn_3 n (k + 1) ((f_X0_imagine vi ai hd jc (nI k)).1) ((f_X0_imagine vi ai hd jc (nI k)).2) ((f_X0_drop hd lf (nI k)).1) jc ((f_X0_drop hd lf (nI k)).2) x1 x2 x3))))))))) := hs
    refine lv_iload hx hb dX0_learn_3 (lv_at hl 4 rfl) ?_
    refine lv_sipush (v := (729 : Int32)) hx hb dX0_learn_5 (by decide) ?_
    refine lv_icmp_ge (tgt := 63) hx hb dX0_learn_8 (by decide) (fun (c_1 : (729 : Int32) ≤ (nI k)) => ?_) (fun (c_1 : ¬ (729 : Int32) ≤ (nI k)) => ?_)
    · have e9 : (lf_X0_learn_3 (n + 1) k vi ai hd jc lf x1 x2 x3) = (vi, ai, hd, lf) := (lf_X0_learn_3_succ n k vi ai hd jc lf x1 x2 x3).trans ((if_pos c_1).trans (rfl))
      rw [e9] at kk
      dsimp only at kk
      exact kk H locs ls hP hD hS (lv_sub hl [] rfl)
    · have hs := hs.2 c_1
      refine lv_aload_n hx hb dX0_learn_11 rfl (lv_at hl 0 rfl) ?_
      refine lv_iload hx hb dX0_learn_12 (lv_at hl 4 rfl) ?_
      refine z_callV (As := [.int (nI k)]) (rest := []) (wr := ([] : va_W)) (w1 := fun _ : Unit => (w_X0 G gh ih iv ia gl gs vi ai hd sn jc lf)) (wj := fun _ : Unit => (w_X0 G gh ih iv ia gl gs vi ai hd sn jc lf)) (ci := 0) (q0 := 0) F (c_X0_isCandidate l G gh ih iv ia gl gs vi ai hd sn jc lf (nI k)) gX0_learn_X0_isCandidate rfl rfl rfl zd_X0_isCandidate ⟨Nat.le_of_ble_eq_true rfl, Nat.le_of_ble_eq_true rfl⟩ rfl rfl (Nat.le_of_ble_eq_true rfl) dX0_learn_14 ⟨Nat.le_of_ble_eq_true rfl, Nat.le_of_ble_eq_true rfl⟩ hK hP hD hS hA hl.1 rfl rfl [0, 1, 2, 3, 4, 5] [] [0, 1, 2, 3, 4, 5] rfl rfl rfl rfl (by decide) rfl (fun _ => rfl) (fun _ H locs hP hD hS => ?_)
      have hP : va_P G.1 vwCl (w_X0 G gh ih iv ia gl gs vi ai hd sn jc lf) H := hP
      have hD : va_D A (w_X0 G gh ih iv ia gl gs vi ai hd sn jc lf) := hD
      refine lv_if_eq (tgt := 57) hx hb dX0_learn_17 (by decide) (fun (c_2 : (f_X0_isCandidate hd (nI k)) = (0 : Int32)) => ?_) (fun (c_2 : ¬ (f_X0_isCandidate hd (nI k)) = (0 : Int32)) => ?_)
      · have hs := hs.1 c_2
        refine lv_iinc (v := (nI (k + 1))) (lv' := [(4, .int (nI (k + 1))), (0, .ref gh), (1, .int x1), (2, .int x2), (3, .int x3)]) hx hb dX0_learn_57 hl (k := 4) rfl (nI_1 k) (by decide) rfl (fun ls hl => ?_)
        refine lv_goto (tgt := 3) hx hb dX0_learn_60 (by decide) ?_
        have e9 : (lf_X0_learn_3 (n + 1) k vi ai hd jc lf x1 x2 x3) = (lf_X0_learn_3 n (k + 1) vi ai hd jc lf x1 x2 x3) := (lf_X0_learn_3_succ n k vi ai hd jc lf x1 x2 x3).trans ((if_neg c_1).trans ((if_pos c_2).trans (rfl)))
        rw [e9] at kk
        have h9 := zk_lt (N := 729) (by omega) rfl c_1
        exact IH9 (k + 1) vi ai hd sn jc lf x1 x2 x3 (by omega) (by omega) hs H locs ls hP hD hS (lv_sub hl [1, 2, 3, 4, 0] rfl) kk
      · have hs := hs.2 c_2
        refine lv_aload_n hx hb dX0_learn_20 rfl (lv_at hl 0 rfl) ?_
        refine lv_iload hx hb dX0_learn_21 (lv_at hl 4 rfl) ?_
        obtain ⟨h_3, hs⟩ := hs
        refine z_callV (As := [.int (nI k)]) (rest := []) (wr := ([] : va_W)) (w1 := fun _ : Unit => (w_X0 G gh ih iv ia gl gs ((f_X0_imagine vi ai hd jc (nI k)).1) ((f_X0_imagine vi ai hd jc (nI k)).2) hd sn jc lf)) (wj := fun _ : Unit => (w_X0 G gh ih iv ia gl gs (f_X0_imagine vi ai hd jc (nI k)).1 (f_X0_imagine vi ai hd jc (nI k)).2 hd sn jc lf)) (ci := 0) (q0 := 0) F (c_X0_imagine l G gh ih iv ia gl gs vi ai hd sn jc lf (nI k) h_3) gX0_learn_X0_imagine rfl rfl rfl zd_X0_imagine ⟨Nat.le_of_ble_eq_true rfl, Nat.le_of_ble_eq_true rfl⟩ rfl rfl (Nat.le_of_ble_eq_true rfl) dX0_learn_23 ⟨Nat.le_of_ble_eq_true rfl, Nat.le_of_ble_eq_true rfl⟩ hK hP hD hS hA hl.1 rfl rfl [0, 1, 2, 3, 4, 5] [] [0, 1, 2, 3, 4, 5] rfl rfl rfl rfl (by decide) rfl (fun _ => rfl) (fun _ H locs hP hD hS => ?_)
        have hP : va_P G.1 vwCl (w_X0 G gh ih iv ia gl gs (f_X0_imagine vi ai hd jc (nI k)).1 (f_X0_imagine vi ai hd jc (nI k)).2 hd sn jc lf) H := hP
        have hD : va_D A (w_X0 G gh ih iv ia gl gs (f_X0_imagine vi ai hd jc (nI k)).1 (f_X0_imagine vi ai hd jc (nI k)).2 hd sn jc lf) := hD
        refine lv_aload_n hx hb dX0_learn_26 rfl (lv_at hl 0 rfl) ?_
        refine va_get (D := G.1) (ci := 0) (v := .ref ih) (C := RX0) (T := TX0) (N := 5) hx hb hts in_X0_learn_X0 hown hK.1 hP 0 rfl rfl 0 (by decide) (hts (.fieldLink RX0 12 "JarRiddle$Guesser" "imagined" "LJarRiddle$Row;") (by decide +kernel)) (fun _ h9 => h9) rfl dX0_learn_27 ?_
        refine lv_iload_n hx hb dX0_learn_30 rfl (lv_at hl 1 rfl) ?_
        refine z_callV (As := [.int x1]) (rest := []) (wr := ([(gh, .inr (0, [.ref ih, .ref gl, .ref gs, .int jc, .int lf])), (gl, .inl (G.2.1, 729, .inl hd)), (gs, .inl (G.2.1, 64, .inl sn))] : va_W)) (w1 := fun _ : Unit => (w_X1 G ih iv ia ((f_X0_imagine vi ai hd jc (nI k)).1) ((f_X0_imagine vi ai hd jc (nI k)).2))) (wj := fun _ : Unit => (w_X0 G gh ih iv ia gl gs (f_X0_imagine vi ai hd jc (nI k)).1 (f_X0_imagine vi ai hd jc (nI k)).2 hd sn jc lf)) (ci := 1) (q0 := 1) F (c_X1_volumeAt l G ih iv ia ((f_X0_imagine vi ai hd jc (nI k)).1) ((f_X0_imagine vi ai hd jc (nI k)).2) x1) gX0_learn_X1_volumeAt rfl rfl rfl zd_X1_volumeAt ⟨Nat.le_of_ble_eq_true rfl, Nat.le_of_ble_eq_true rfl⟩ rfl rfl (Nat.le_of_ble_eq_true rfl) dX0_learn_31 ⟨Nat.le_of_ble_eq_true rfl, Nat.le_of_ble_eq_true rfl⟩ hK hP hD hS hA hl.1 rfl rfl [1, 2, 3] [0, 4, 5] [0, 3, 4, 5, 1, 2] rfl rfl rfl rfl (by decide) rfl (fun _ => rfl) (fun _ H locs hP hD hS => ?_)
        have hP : va_P G.1 vwCl (w_X0 G gh ih iv ia gl gs (f_X0_imagine vi ai hd jc (nI k)).1 (f_X0_imagine vi ai hd jc (nI k)).2 hd sn jc lf) H := hP
        have hD : va_D A (w_X0 G gh ih iv ia gl gs (f_X0_imagine vi ai hd jc (nI k)).1 (f_X0_imagine vi ai hd jc (nI k)).2 hd sn jc lf) := hD
        refine lv_iload_n hx hb dX0_learn_34 rfl (lv_at hl 2 rfl) ?_
        refine lv_icmp_ne (tgt := 42) hx hb dX0_learn_35 (by decide) (fun (c_4 : ¬ (f_X1_volumeAt ((f_X0_imagine vi ai hd jc (nI k)).1) x1) = x2) => ?_) (fun (c_4 : (f_X1_volumeAt ((f_X0_imagine vi ai hd jc (nI k)).1) x1) = x2) => ?_)
        · have hs := hs.2 c_4
          refine lv_iconst (v := (0 : Int32)) hx hb dX0_learn_42 (by decide) ?_
          refine lv_istore (lv' := [(5, .int (0 : Int32)), (0, .ref gh), (1, .int x1), (2, .int x2), (3, .int x3), (4, .int (nI k))]) hx hb dX0_learn_43 hl (by decide) rfl (fun ls hl => ?_)
          refine lv_iload hx hb dX0_learn_45 (lv_at hl 0 rfl) ?_
          refine lv_iload_n hx hb dX0_learn_47 rfl (lv_at hl 4 rfl) ?_
          refine lv_icmp_eq (tgt := 57) hx hb dX0_learn_48 (by decide) (fun (c_5 : (0 : Int32) = x3) => ?_) (fun (c_5 : ¬ (0 : Int32) = x3) => ?_)
          · have hs := hs.1 c_5
            refine lv_iinc (v := (nI (k + 1))) (lv' := [(4, .int (nI (k + 1))), (5, .int (0 : Int32)), (0, .ref gh), (1, .int x1), (2, .int x2), (3, .int x3)]) hx hb dX0_learn_57 hl (k := 5) rfl (nI_1 k) (by decide) rfl (fun ls hl => ?_)
            refine lv_goto (tgt := 3) hx hb dX0_learn_60 (by decide) ?_
            have e9 : (lf_X0_learn_3 (n + 1) k vi ai hd jc lf x1 x2 x3) = (lf_X0_learn_3 n (k + 1) ((f_X0_imagine vi ai hd jc (nI k)).1) ((f_X0_imagine vi ai hd jc (nI k)).2) hd jc lf x1 x2 x3) := (lf_X0_learn_3_succ n k vi ai hd jc lf x1 x2 x3).trans ((if_neg c_1).trans ((if_neg c_2).trans ((if_neg c_4).trans ((if_pos c_5).trans (rfl)))))
            rw [e9] at kk
            have h9 := zk_lt (N := 729) (by omega) rfl c_1
            exact IH9 (k + 1) ((f_X0_imagine vi ai hd jc (nI k)).1) ((f_X0_imagine vi ai hd jc (nI k)).2) hd sn jc lf x1 x2 x3 (by omega) (by omega) hs H locs ls hP hD hS (lv_sub hl [2, 3, 4, 5, 0] rfl) kk
          · have hs := hs.2 c_5
            refine lv_aload_n hx hb dX0_learn_51 rfl (lv_at hl 1 rfl) ?_
            refine lv_iload hx hb dX0_learn_52 (lv_at hl 5 rfl) ?_
            obtain ⟨h_6, hs⟩ := hs
            refine z_callV (As := [.int (nI k)]) (rest := []) (wr := ([] : va_W)) (w1 := fun _ : Unit => (w_X0 G gh ih iv ia gl gs ((f_X0_imagine vi ai hd jc (nI k)).1) ((f_X0_imagine vi ai hd jc (nI k)).2) ((f_X0_drop hd lf (nI k)).1) sn jc ((f_X0_drop hd lf (nI k)).2))) (wj := fun _ : Unit => (w_X0 G gh ih iv ia gl gs (f_X0_imagine vi ai hd jc (nI k)).1 (f_X0_imagine vi ai hd jc (nI k)).2 (f_X0_drop hd lf (nI k)).1 sn jc (f_X0_drop hd lf (nI k)).2)) (ci := 0) (q0 := 0) F (c_X0_drop l G gh ih iv ia gl gs ((f_X0_imagine vi ai hd jc (nI k)).1) ((f_X0_imagine vi ai hd jc (nI k)).2) hd sn jc lf (nI k) h_6) gX0_learn_X0_drop rfl rfl rfl zd_X0_drop ⟨Nat.le_of_ble_eq_true rfl, Nat.le_of_ble_eq_true rfl⟩ rfl rfl (Nat.le_of_ble_eq_true rfl) dX0_learn_54 ⟨Nat.le_of_ble_eq_true rfl, Nat.le_of_ble_eq_true rfl⟩ hK hP hD hS hA hl.1 rfl rfl [0, 1, 2, 3, 4, 5] [] [0, 1, 2, 3, 4, 5] rfl rfl rfl rfl (by decide) rfl (fun _ => rfl) (fun _ H locs hP hD hS => ?_)
            have hP : va_P G.1 vwCl (w_X0 G gh ih iv ia gl gs (f_X0_imagine vi ai hd jc (nI k)).1 (f_X0_imagine vi ai hd jc (nI k)).2 (f_X0_drop hd lf (nI k)).1 sn jc (f_X0_drop hd lf (nI k)).2) H := hP
            have hD : va_D A (w_X0 G gh ih iv ia gl gs (f_X0_imagine vi ai hd jc (nI k)).1 (f_X0_imagine vi ai hd jc (nI k)).2 (f_X0_drop hd lf (nI k)).1 sn jc (f_X0_drop hd lf (nI k)).2) := hD
            refine lv_iinc (v := (nI (k + 1))) (lv' := [(4, .int (nI (k + 1))), (5, .int (0 : Int32)), (0, .ref gh), (1, .int x1), (2, .int x2), (3, .int x3)]) hx hb dX0_learn_57 hl (k := 5) rfl (nI_1 k) (by decide) rfl (fun ls hl => ?_)
            refine lv_goto (tgt := 3) hx hb dX0_learn_60 (by decide) ?_
            have e9 : (lf_X0_learn_3 (n + 1) k vi ai hd jc lf x1 x2 x3) = (lf_X0_learn_3 n (k + 1) ((f_X0_imagine vi ai hd jc (nI k)).1) ((f_X0_imagine vi ai hd jc (nI k)).2) ((f_X0_drop hd lf (nI k)).1) jc ((f_X0_drop hd lf (nI k)).2) x1 x2 x3) := (lf_X0_learn_3_succ n k vi ai hd jc lf x1 x2 x3).trans ((if_neg c_1).trans ((if_neg c_2).trans ((if_neg c_4).trans ((if_neg c_5).trans (rfl)))))
            rw [e9] at kk
            have h9 := zk_lt (N := 729) (by omega) rfl c_1
            exact IH9 (k + 1) ((f_X0_imagine vi ai hd jc (nI k)).1) ((f_X0_imagine vi ai hd jc (nI k)).2) ((f_X0_drop hd lf (nI k)).1) sn jc ((f_X0_drop hd lf (nI k)).2) x1 x2 x3 (by omega) (by omega) hs H locs ls hP hD hS (lv_sub hl [2, 3, 4, 5, 0] rfl) kk
        · have hs := hs.1 c_4
          refine lv_iconst (v := (1 : Int32)) hx hb dX0_learn_38 (by decide) ?_
          refine lv_goto (tgt := 43) hx hb dX0_learn_39 (by decide) ?_
          refine lv_istore (lv' := [(5, .int (1 : Int32)), (0, .ref gh), (1, .int x1), (2, .int x2), (3, .int x3), (4, .int (nI k))]) hx hb dX0_learn_43 hl (by decide) rfl (fun ls hl => ?_)
          refine lv_iload hx hb dX0_learn_45 (lv_at hl 0 rfl) ?_
          refine lv_iload_n hx hb dX0_learn_47 rfl (lv_at hl 4 rfl) ?_
          refine lv_icmp_eq (tgt := 57) hx hb dX0_learn_48 (by decide) (fun (c_7 : (1 : Int32) = x3) => ?_) (fun (c_7 : ¬ (1 : Int32) = x3) => ?_)
          · have hs := hs.1 c_7
            refine lv_iinc (v := (nI (k + 1))) (lv' := [(4, .int (nI (k + 1))), (5, .int (1 : Int32)), (0, .ref gh), (1, .int x1), (2, .int x2), (3, .int x3)]) hx hb dX0_learn_57 hl (k := 5) rfl (nI_1 k) (by decide) rfl (fun ls hl => ?_)
            refine lv_goto (tgt := 3) hx hb dX0_learn_60 (by decide) ?_
            have e9 : (lf_X0_learn_3 (n + 1) k vi ai hd jc lf x1 x2 x3) = (lf_X0_learn_3 n (k + 1) ((f_X0_imagine vi ai hd jc (nI k)).1) ((f_X0_imagine vi ai hd jc (nI k)).2) hd jc lf x1 x2 x3) := (lf_X0_learn_3_succ n k vi ai hd jc lf x1 x2 x3).trans ((if_neg c_1).trans ((if_neg c_2).trans ((if_pos c_4).trans ((if_pos c_7).trans (rfl)))))
            rw [e9] at kk
            have h9 := zk_lt (N := 729) (by omega) rfl c_1
            exact IH9 (k + 1) ((f_X0_imagine vi ai hd jc (nI k)).1) ((f_X0_imagine vi ai hd jc (nI k)).2) hd sn jc lf x1 x2 x3 (by omega) (by omega) hs H locs ls hP hD hS (lv_sub hl [2, 3, 4, 5, 0] rfl) kk
          · have hs := hs.2 c_7
            refine lv_aload_n hx hb dX0_learn_51 rfl (lv_at hl 1 rfl) ?_
            refine lv_iload hx hb dX0_learn_52 (lv_at hl 5 rfl) ?_
            obtain ⟨h_8, hs⟩ := hs
            refine z_callV (As := [.int (nI k)]) (rest := []) (wr := ([] : va_W)) (w1 := fun _ : Unit => (w_X0 G gh ih iv ia gl gs ((f_X0_imagine vi ai hd jc (nI k)).1) ((f_X0_imagine vi ai hd jc (nI k)).2) ((f_X0_drop hd lf (nI k)).1) sn jc ((f_X0_drop hd lf (nI k)).2))) (wj := fun _ : Unit => (w_X0 G gh ih iv ia gl gs (f_X0_imagine vi ai hd jc (nI k)).1 (f_X0_imagine vi ai hd jc (nI k)).2 (f_X0_drop hd lf (nI k)).1 sn jc (f_X0_drop hd lf (nI k)).2)) (ci := 0) (q0 := 0) F (c_X0_drop l G gh ih iv ia gl gs ((f_X0_imagine vi ai hd jc (nI k)).1) ((f_X0_imagine vi ai hd jc (nI k)).2) hd sn jc lf (nI k) h_8) gX0_learn_X0_drop rfl rfl rfl zd_X0_drop ⟨Nat.le_of_ble_eq_true rfl, Nat.le_of_ble_eq_true rfl⟩ rfl rfl (Nat.le_of_ble_eq_true rfl) dX0_learn_54 ⟨Nat.le_of_ble_eq_true rfl, Nat.le_of_ble_eq_true rfl⟩ hK hP hD hS hA hl.1 rfl rfl [0, 1, 2, 3, 4, 5] [] [0, 1, 2, 3, 4, 5] rfl rfl rfl rfl (by decide) rfl (fun _ => rfl) (fun _ H locs hP hD hS => ?_)
            have hP : va_P G.1 vwCl (w_X0 G gh ih iv ia gl gs (f_X0_imagine vi ai hd jc (nI k)).1 (f_X0_imagine vi ai hd jc (nI k)).2 (f_X0_drop hd lf (nI k)).1 sn jc (f_X0_drop hd lf (nI k)).2) H := hP
            have hD : va_D A (w_X0 G gh ih iv ia gl gs (f_X0_imagine vi ai hd jc (nI k)).1 (f_X0_imagine vi ai hd jc (nI k)).2 (f_X0_drop hd lf (nI k)).1 sn jc (f_X0_drop hd lf (nI k)).2) := hD
            refine lv_iinc (v := (nI (k + 1))) (lv' := [(4, .int (nI (k + 1))), (5, .int (1 : Int32)), (0, .ref gh), (1, .int x1), (2, .int x2), (3, .int x3)]) hx hb dX0_learn_57 hl (k := 5) rfl (nI_1 k) (by decide) rfl (fun ls hl => ?_)
            refine lv_goto (tgt := 3) hx hb dX0_learn_60 (by decide) ?_
            have e9 : (lf_X0_learn_3 (n + 1) k vi ai hd jc lf x1 x2 x3) = (lf_X0_learn_3 n (k + 1) ((f_X0_imagine vi ai hd jc (nI k)).1) ((f_X0_imagine vi ai hd jc (nI k)).2) ((f_X0_drop hd lf (nI k)).1) jc ((f_X0_drop hd lf (nI k)).2) x1 x2 x3) := (lf_X0_learn_3_succ n k vi ai hd jc lf x1 x2 x3).trans ((if_neg c_1).trans ((if_neg c_2).trans ((if_pos c_4).trans ((if_neg c_7).trans (rfl)))))
            rw [e9] at kk
            have h9 := zk_lt (N := 729) (by omega) rfl c_1
            exact IH9 (k + 1) ((f_X0_imagine vi ai hd jc (nI k)).1) ((f_X0_imagine vi ai hd jc (nI k)).2) ((f_X0_drop hd lf (nI k)).1) sn jc ((f_X0_drop hd lf (nI k)).2) x1 x2 x3 (by omega) (by omega) hs H locs ls hP hD hS (lv_sub hl [2, 3, 4, 5, 0] rfl) kk
set_option maxHeartbeats 4000000 in
set_option maxRecDepth 100000 in
/-- JarRiddle$Guesser.learn(IIZ)V -/
theorem c_X0_learn (l : Launch) (G : zG) (gh ih iv ia gl gs : Nat) (vi : Nat → Int32) (ai : Nat → Int32) (hd : Nat → Int32) (sn : Nat → Int32) (jc : Int32) (lf : Int32) (p1 : Int32) (p2 : Int32) (p3 : Int32) (hs : s_X0_learn vi ai hd jc lf p1 p2 p3) : zC l G yX0_learn wsX0_learn rm_X0_learn 0 0 [.ref gh, .int p1, .int p2, .int p3] (w_X0 G gh ih iv ia gl gs vi ai hd sn jc lf) none (fun _ : Unit => (w_X0 G gh ih iv ia gl gs ((f_X0_learn vi ai hd jc lf p1 p2 p3).1) ((f_X0_learn vi ai hd jc lf p1 p2 p3).2.1) ((f_X0_learn vi ai hd jc lf p1 p2 p3).2.2.1) sn jc ((f_X0_learn vi ai hd jc lf p1 p2 p3).2.2.2))) := by
  refine z_of (cc := cX0_learn) (maxL := 6) (ret := none) (own := RX0) (by decide) rfl rfl (Nat.le_of_ble_eq_true rfl) ?_
  intro p e s m args below meth c A H locs ls F hr hlocks hname hK hA hP hD hS hl
  obtain ⟨hx, hb, hml, hown, hts⟩ := id F
  have hl : lv_has ls 6 [(0, .ref gh), (1, .int p1), (2, .int p2), (3, .int p3)] := hl
  have hs : (sf_X0_learn_3 730 0 vi ai hd jc lf p1 p2 p3) := hs
  refine lv_iconst (v := (0 : Int32)) hx hb dX0_learn_0 (by decide) ?_
  refine lv_istore (lv' := [(4, .int (0 : Int32)), (0, .ref gh), (1, .int p1), (2, .int p2), (3, .int p3)]) hx hb dX0_learn_1 hl (by decide) rfl (fun ls hl => ?_)
  have h_9 := hs
  refine l_X0_learn_3 F hr hlocks hK hA gh ih iv ia gl gs 730 0 vi ai hd sn jc lf p1 p2 p3 (by omega) (by omega) h_9 H locs ls hP hD hS (lv_sub hl [1, 2, 3, 4, 0] rfl) ?_
  intro H locs ls hP hD hS hl
  have hP : va_P G.1 vwCl (w_X0 G gh ih iv ia gl gs (lf_X0_learn_3 730 0 vi ai hd jc lf p1 p2 p3).1 (lf_X0_learn_3 730 0 vi ai hd jc lf p1 p2 p3).2.1 (lf_X0_learn_3 730 0 vi ai hd jc lf p1 p2 p3).2.2.1 sn jc (lf_X0_learn_3 730 0 vi ai hd jc lf p1 p2 p3).2.2.2) H := hP
  have hD : va_D A (w_X0 G gh ih iv ia gl gs (lf_X0_learn_3 730 0 vi ai hd jc lf p1 p2 p3).1 (lf_X0_learn_3 730 0 vi ai hd jc lf p1 p2 p3).2.1 (lf_X0_learn_3 730 0 vi ai hd jc lf p1 p2 p3).2.2.1 sn jc (lf_X0_learn_3 730 0 vi ai hd jc lf p1 p2 p3).2.2.2) := hD
  have hl : lv_has ls 6 [] := hl
  have e9 : (f_X0_learn vi ai hd jc lf p1 p2 p3) = ((lf_X0_learn_3 730 0 vi ai hd jc lf p1 p2 p3).1, (lf_X0_learn_3 730 0 vi ai hd jc lf p1 p2 p3).2.1, (lf_X0_learn_3 730 0 vi ai hd jc lf p1 p2 p3).2.2.1, (lf_X0_learn_3 730 0 vi ai hd jc lf p1 p2 p3).2.2.2) := (f_X0_learn_eq vi ai hd jc lf p1 p2 p3).trans (rfl)
  rw [e9]
  dsimp only
  exact z_vret F hr hlocks hP hD hS () [0, 1, 2, 3, 4, 5] rfl rfl rfl dX0_learn_63
def lf_X0_volumesFor_4 : Nat → Nat → (Nat → Int32) → (Nat → Int32) → (Nat → Int32) → Int32 → Int32 → Int32 → (Nat → Int32) × (Nat → Int32) × Int32
  | 0, k, vi, ai, hd, jc, x1, x2 => (vi, ai, x2)
  | n + 1, k, vi, ai, hd, jc, x1, x2 => (if (729 : Int32) ≤ (nI k) then (vi, ai, x2) else (if (f_X0_isCandidate hd (nI k)) = (0 : Int32) then (lf_X0_volumesFor_4 n (k + 1) vi ai hd jc x1 x2) else (lf_X0_volumesFor_4 n (k + 1) ((f_X0_imagine vi ai hd jc (nI k)).1) ((f_X0_imagine vi ai hd jc (nI k)).2) hd jc x1 (x2 ||| ((1 : Int32) <<< ((f_X1_volumeAt ((f_X0_imagine vi ai hd jc (nI k)).1) x1) &&& 31))))))
theorem lf_X0_volumesFor_4_succ (n k : Nat) (vi : Nat → Int32) (ai : Nat → Int32) (hd : Nat → Int32) (jc : Int32) (x1 : Int32) (x2 : Int32) : lf_X0_volumesFor_4 (n + 1) k vi ai hd jc x1 x2 = (if (729 : Int32) ≤ (nI k) then (vi, ai, x2) else (if (f_X0_isCandidate hd (nI k)) = (0 : Int32) then (lf_X0_volumesFor_4 n (k + 1) vi ai hd jc x1 x2) else (lf_X0_volumesFor_4 n (k + 1) ((f_X0_imagine vi ai hd jc (nI k)).1) ((f_X0_imagine vi ai hd jc (nI k)).2) hd jc x1 (x2 ||| ((1 : Int32) <<< ((f_X1_volumeAt ((f_X0_imagine vi ai hd jc (nI k)).1) x1) &&& 31)))))) := rfl
def f_X0_volumesFor (vi : Nat → Int32) (ai : Nat → Int32) (hd : Nat → Int32) (jc : Int32) (p1 : Int32) : Int32 × (Nat → Int32) × (Nat → Int32) := ((lf_X0_volumesFor_4 730 0 vi ai hd jc p1 (0 : Int32)).2.2, (lf_X0_volumesFor_4 730 0 vi ai hd jc p1 (0 : Int32)).1, (lf_X0_volumesFor_4 730 0 vi ai hd jc p1 (0 : Int32)).2.1)
theorem f_X0_volumesFor_eq (vi : Nat → Int32) (ai : Nat → Int32) (hd : Nat → Int32) (jc : Int32) (p1 : Int32) : f_X0_volumesFor vi ai hd jc p1 = ((lf_X0_volumesFor_4 730 0 vi ai hd jc p1 (0 : Int32)).2.2, (lf_X0_volumesFor_4 730 0 vi ai hd jc p1 (0 : Int32)).1, (lf_X0_volumesFor_4 730 0 vi ai hd jc p1 (0 : Int32)).2.1) := rfl
def sf_X0_volumesFor_4 : Nat → Nat → (Nat → Int32) → Int32 → Prop
  | 0, k, hd, jc => True
  | n + 1, k, hd, jc => (((729 : Int32) ≤ (nI k) → True) ∧ (¬ (729 : Int32) ≤ (nI k) → (((f_X0_isCandidate hd (nI k)) = (0 : Int32) → (sf_X0_volumesFor_4 n (k + 1) hd jc)) ∧ (¬ (f_X0_isCandidate hd (nI k)) = (0 : Int32) → (s_X0_imagine hd jc (nI k)) ∧ (sf_X0_volumesFor_4 n (k + 1) hd jc)))))
theorem sf_X0_volumesFor_4_succ (n k : Nat) (hd : Nat → Int32) (jc : Int32) : sf_X0_volumesFor_4 (n + 1) k hd jc = ((((729 : Int32) ≤ (nI k) → True) ∧ (¬ (729 : Int32) ≤ (nI k) → (((f_X0_isCandidate hd (nI k)) = (0 : Int32) → (sf_X0_volumesFor_4 n (k + 1) hd jc)) ∧ (¬ (f_X0_isCandidate hd (nI k)) = (0 : Int32) → (s_X0_imagine hd jc (nI k)) ∧ (sf_X0_volumesFor_4 n (k + 1) hd jc)))))) := rfl
def s_X0_volumesFor (hd : Nat → Int32) (jc : Int32) (p1 : Int32) : Prop := (sf_X0_volumesFor_4 730 0 hd jc)
abbrev rm_X0_volumesFor : Room := { frames := 3, cells := 0, slots := 0, locals := 68 }
theorem zd_X0_volumesFor : yX0_volumesFor.cls = RX0 ∧ yX0_volumesFor.cls ≠ "java/lang/invoke/MethodHandle" ∧ yX0_volumesFor.cls ≠ "java/lang/invoke/VarHandle" ∧ (parseMethodDescriptor yX0_volumesFor.desc).map (fun d => d.parameters.length) = some 1 := by decide +kernel
theorem in_X0_volumesFor_X0 : ∀ w ∈ u_ws RX0 TX0 5, w ∈ wsX0_volumesFor := by decide +kernel
set_option maxHeartbeats 4000000 in
set_option maxRecDepth 100000 in
theorem l_X0_volumesFor_4 {p : Program} {l : Launch} {e : Env} {s : State} {m : MethodId} {args : Array Value} {below : List Frame} {meth : Method} {c : Code} {A : Nat → Prop} {Q : State → Prop} {G : zG} (F : CallFix p m c cX0_volumesFor 4 s args wsX0_volumesFor RX0) (hr : meth.sig.returnType = (some .int)) (hlocks : meth.locks = false) (hK : zK G s) (hA : ∀ q : Nat, s.heap.size ≤ q → A q) (gh ih iv ia gl gs : Nat) :
    ∀ (n k : Nat) (vi : Nat → Int32) (ai : Nat → Int32) (hd : Nat → Int32) (sn : Nat → Int32) (jc : Int32) (lf : Int32) (x1 : Int32) (x2 : Int32), k + n = 729 + 1 → k ≤ 729 → (sf_X0_volumesFor_4 n k hd jc) → ∀ (H : Heap) (locs : List Loc) (ls : Array Slot), va_P G.1 vwCl (w_X0 G gh ih iv ia gl gs vi ai hd sn jc lf) H → va_D A (w_X0 G gh ih iv ia gl gs vi ai hd sn jc lf) → va_S A s.heap H locs → lv_has ls 4 [(0, .ref gh), (1, .int x1), (2, .int x2), (3, .int (nI k))] → (∀ (H : Heap) (locs : List Loc) (ls : Array Slot), va_P G.1 vwCl (w_X0 G gh ih iv ia gl gs ((lf_X0_volumesFor_4 n k vi ai hd jc x1 x2).1) ((lf_X0_volumesFor_4 n k vi ai hd jc x1 x2).2.1) hd sn jc lf) H → va_D A (w_X0 G gh ih iv ia gl gs ((lf_X0_volumesFor_4 n k vi ai hd jc x1 x2).1) ((lf_X0_volumesFor_4 n k vi ai hd jc x1 x2).2.1) hd sn jc lf) → va_S A s.heap H locs → lv_has ls 4 [(2, .int (lf_X0_volumesFor_4 n k vi ai hd jc x1 x2).2.2)] → W p l e rm_X0_volumesFor s m args below meth c H locs 0 0 Q (F0 m 43 ls [])) → W p l e rm_X0_volumesFor s m args below meth c H locs 0 0 Q (F0 m 4 ls []) := by
  obtain ⟨hx, hb, hml, hown, hts⟩ := id F
  intro n
  induction n with
  | zero => intro k vi ai hd sn jc lf x1 x2 h1 h2; omega
  | succ n IH9 =>
    intro k vi ai hd sn jc lf x1 x2 hkn hkN hs H locs ls hP hD hS hl kk
    have hs : (((729 : Int32) ≤ (nI k) → True) ∧ (¬ (729 : Int32) ≤ (nI k) → (((f_X0_isCandidate hd (nI k)) = (0 : Int32) → (sf_X0_volumesFor_4 n (k + 1) hd jc)) ∧ (¬ (f_X0_isCandidate hd (nI k)) = (0 : Int32) → (s_X0_imagine hd jc (nI k)) ∧ (sf_X0_volumesFor_4 n (k + 1) hd jc))))) := hs
    refine lv_iload_n hx hb dX0_volumesFor_4 rfl (lv_at hl 3 rfl) ?_
    refine lv_sipush (v := (729 : Int32)) hx hb dX0_volumesFor_5 (by decide) ?_
    refine lv_icmp_ge (tgt := 43) hx hb dX0_volumesFor_8 (by decide) (fun (c_1 : (729 : Int32) ≤ (nI k)) => ?_) (fun (c_1 : ¬ (729 : Int32) ≤ (nI k)) => ?_)
    · have e9 : (lf_X0_volumesFor_4 (n + 1) k vi ai hd jc x1 x2) = (vi, ai, x2) := (lf_X0_volumesFor_4_succ n k vi ai hd jc x1 x2).trans ((if_pos c_1).trans (rfl))
      rw [e9] at kk
      dsimp only at kk
      exact kk H locs ls hP hD hS (lv_sub hl [2] rfl)
    · have hs := hs.2 c_1
      refine lv_aload_n hx hb dX0_volumesFor_11 rfl (lv_at hl 0 rfl) ?_
      refine lv_iload_n hx hb dX0_volumesFor_12 rfl (lv_at hl 3 rfl) ?_
      refine z_callV (As := [.int (nI k)]) (rest := []) (wr := ([] : va_W)) (w1 := fun _ : Unit => (w_X0 G gh ih iv ia gl gs vi ai hd sn jc lf)) (wj := fun _ : Unit => (w_X0 G gh ih iv ia gl gs vi ai hd sn jc lf)) (ci := 0) (q0 := 0) F (c_X0_isCandidate l G gh ih iv ia gl gs vi ai hd sn jc lf (nI k)) gX0_volumesFor_X0_isCandidate rfl rfl rfl zd_X0_isCandidate ⟨Nat.le_of_ble_eq_true rfl, Nat.le_of_ble_eq_true rfl⟩ rfl rfl (Nat.le_of_ble_eq_true rfl) dX0_volumesFor_13 ⟨Nat.le_of_ble_eq_true rfl, Nat.le_of_ble_eq_true rfl⟩ hK hP hD hS hA hl.1 rfl rfl [0, 1, 2, 3, 4, 5] [] [0, 1, 2, 3, 4, 5] rfl rfl rfl rfl (by decide) rfl (fun _ => rfl) (fun _ H locs hP hD hS => ?_)
      have hP : va_P G.1 vwCl (w_X0 G gh ih iv ia gl gs vi ai hd sn jc lf) H := hP
      have hD : va_D A (w_X0 G gh ih iv ia gl gs vi ai hd sn jc lf) := hD
      refine lv_if_eq (tgt := 37) hx hb dX0_volumesFor_16 (by decide) (fun (c_2 : (f_X0_isCandidate hd (nI k)) = (0 : Int32)) => ?_) (fun (c_2 : ¬ (f_X0_isCandidate hd (nI k)) = (0 : Int32)) => ?_)
      · have hs := hs.1 c_2
        refine lv_iinc (v := (nI (k + 1))) (lv' := [(3, .int (nI (k + 1))), (0, .ref gh), (1, .int x1), (2, .int x2)]) hx hb dX0_volumesFor_37 hl (k := 3) rfl (nI_1 k) (by decide) rfl (fun ls hl => ?_)
        refine lv_goto (tgt := 4) hx hb dX0_volumesFor_40 (by decide) ?_
        have e9 : (lf_X0_volumesFor_4 (n + 1) k vi ai hd jc x1 x2) = (lf_X0_volumesFor_4 n (k + 1) vi ai hd jc x1 x2) := (lf_X0_volumesFor_4_succ n k vi ai hd jc x1 x2).trans ((if_neg c_1).trans ((if_pos c_2).trans (rfl)))
        rw [e9] at kk
        have h9 := zk_lt (N := 729) (by omega) rfl c_1
        exact IH9 (k + 1) vi ai hd sn jc lf x1 x2 (by omega) (by omega) hs H locs ls hP hD hS (lv_sub hl [1, 2, 3, 0] rfl) kk
      · have hs := hs.2 c_2
        refine lv_aload_n hx hb dX0_volumesFor_19 rfl (lv_at hl 0 rfl) ?_
        refine lv_iload_n hx hb dX0_volumesFor_20 rfl (lv_at hl 3 rfl) ?_
        obtain ⟨h_3, hs⟩ := hs
        refine z_callV (As := [.int (nI k)]) (rest := []) (wr := ([] : va_W)) (w1 := fun _ : Unit => (w_X0 G gh ih iv ia gl gs ((f_X0_imagine vi ai hd jc (nI k)).1) ((f_X0_imagine vi ai hd jc (nI k)).2) hd sn jc lf)) (wj := fun _ : Unit => (w_X0 G gh ih iv ia gl gs (f_X0_imagine vi ai hd jc (nI k)).1 (f_X0_imagine vi ai hd jc (nI k)).2 hd sn jc lf)) (ci := 0) (q0 := 0) F (c_X0_imagine l G gh ih iv ia gl gs vi ai hd sn jc lf (nI k) h_3) gX0_volumesFor_X0_imagine rfl rfl rfl zd_X0_imagine ⟨Nat.le_of_ble_eq_true rfl, Nat.le_of_ble_eq_true rfl⟩ rfl rfl (Nat.le_of_ble_eq_true rfl) dX0_volumesFor_21 ⟨Nat.le_of_ble_eq_true rfl, Nat.le_of_ble_eq_true rfl⟩ hK hP hD hS hA hl.1 rfl rfl [0, 1, 2, 3, 4, 5] [] [0, 1, 2, 3, 4, 5] rfl rfl rfl rfl (by decide) rfl (fun _ => rfl) (fun _ H locs hP hD hS => ?_)
        have hP : va_P G.1 vwCl (w_X0 G gh ih iv ia gl gs (f_X0_imagine vi ai hd jc (nI k)).1 (f_X0_imagine vi ai hd jc (nI k)).2 hd sn jc lf) H := hP
        have hD : va_D A (w_X0 G gh ih iv ia gl gs (f_X0_imagine vi ai hd jc (nI k)).1 (f_X0_imagine vi ai hd jc (nI k)).2 hd sn jc lf) := hD
        refine lv_iload_n hx hb dX0_volumesFor_24 rfl (lv_at hl 2 rfl) ?_
        refine lv_iconst (v := (1 : Int32)) hx hb dX0_volumesFor_25 (by decide) ?_
        refine lv_aload_n hx hb dX0_volumesFor_26 rfl (lv_at hl 0 rfl) ?_
        refine va_get (D := G.1) (ci := 0) (v := .ref ih) (C := RX0) (T := TX0) (N := 5) hx hb hts in_X0_volumesFor_X0 hown hK.1 hP 0 rfl rfl 0 (by decide) (hts (.fieldLink RX0 12 "JarRiddle$Guesser" "imagined" "LJarRiddle$Row;") (by decide +kernel)) (fun _ h9 => h9) rfl dX0_volumesFor_27 ?_
        refine lv_iload_n hx hb dX0_volumesFor_30 rfl (lv_at hl 1 rfl) ?_
        refine z_callV (As := [.int x1]) (rest := [.int (1 : Int32), .int x2]) (wr := ([(gh, .inr (0, [.ref ih, .ref gl, .ref gs, .int jc, .int lf])), (gl, .inl (G.2.1, 729, .inl hd)), (gs, .inl (G.2.1, 64, .inl sn))] : va_W)) (w1 := fun _ : Unit => (w_X1 G ih iv ia ((f_X0_imagine vi ai hd jc (nI k)).1) ((f_X0_imagine vi ai hd jc (nI k)).2))) (wj := fun _ : Unit => (w_X0 G gh ih iv ia gl gs (f_X0_imagine vi ai hd jc (nI k)).1 (f_X0_imagine vi ai hd jc (nI k)).2 hd sn jc lf)) (ci := 1) (q0 := 1) F (c_X1_volumeAt l G ih iv ia ((f_X0_imagine vi ai hd jc (nI k)).1) ((f_X0_imagine vi ai hd jc (nI k)).2) x1) gX0_volumesFor_X1_volumeAt rfl rfl rfl zd_X1_volumeAt ⟨Nat.le_of_ble_eq_true rfl, Nat.le_of_ble_eq_true rfl⟩ rfl rfl (Nat.le_of_ble_eq_true rfl) dX0_volumesFor_31 ⟨Nat.le_of_ble_eq_true rfl, Nat.le_of_ble_eq_true rfl⟩ hK hP hD hS hA hl.1 rfl rfl [1, 2, 3] [0, 4, 5] [0, 3, 4, 5, 1, 2] rfl rfl rfl rfl (by decide) rfl (fun _ => rfl) (fun _ H locs hP hD hS => ?_)
        have hP : va_P G.1 vwCl (w_X0 G gh ih iv ia gl gs (f_X0_imagine vi ai hd jc (nI k)).1 (f_X0_imagine vi ai hd jc (nI k)).2 hd sn jc lf) H := hP
        have hD : va_D A (w_X0 G gh ih iv ia gl gs (f_X0_imagine vi ai hd jc (nI k)).1 (f_X0_imagine vi ai hd jc (nI k)).2 hd sn jc lf) := hD
        refine lv_ishl hx hb dX0_volumesFor_34 ?_
        refine lv_ior hx hb dX0_volumesFor_35 ?_
        refine lv_istore_n (lv' := [(2, .int (x2 ||| ((1 : Int32) <<< ((f_X1_volumeAt ((f_X0_imagine vi ai hd jc (nI k)).1) x1) &&& 31)))), (0, .ref gh), (1, .int x1), (3, .int (nI k))]) hx hb dX0_volumesFor_36 rfl hl (by decide) rfl (fun ls hl => ?_)
        refine lv_iinc (v := (nI (k + 1))) (lv' := [(3, .int (nI (k + 1))), (2, .int (x2 ||| ((1 : Int32) <<< ((f_X1_volumeAt ((f_X0_imagine vi ai hd jc (nI k)).1) x1) &&& 31)))), (0, .ref gh), (1, .int x1)]) hx hb dX0_volumesFor_37 hl (k := 3) rfl (nI_1 k) (by decide) rfl (fun ls hl => ?_)
        refine lv_goto (tgt := 4) hx hb dX0_volumesFor_40 (by decide) ?_
        have e9 : (lf_X0_volumesFor_4 (n + 1) k vi ai hd jc x1 x2) = (lf_X0_volumesFor_4 n (k + 1) ((f_X0_imagine vi ai hd jc (nI k)).1) ((f_X0_imagine vi ai hd jc (nI k)).2) hd jc x1 (x2 ||| ((1 : Int32) <<< ((f_X1_volumeAt ((f_X0_imagine vi ai hd jc (nI k)).1) x1) &&& 31)))) := (lf_X0_volumesFor_4_succ n k vi ai hd jc x1 x2).trans ((if_neg c_1).trans ((if_neg c_2).trans (rfl)))
        rw [e9] at kk
        have h9 := zk_lt (N := 729) (by omega) rfl c_1
        exact IH9 (k + 1) ((f_X0_imagine vi ai hd jc (nI k)).1) ((f_X0_imagine vi ai hd jc (nI k)).2) hd sn jc lf x1 (x2 ||| ((1 : Int32) <<< ((f_X1_volumeAt ((f_X0_imagine vi ai hd jc (nI k)).1) x1) &&& 31))) (by omega) (by omega) hs H locs ls hP hD hS (lv_sub hl [2, 3, 1, 0] rfl) kk
set_option maxHeartbeats 4000000 in
set_option maxRecDepth 100000 in
/-- JarRiddle$Guesser.volumesFor(I)I -/
theorem c_X0_volumesFor (l : Launch) (G : zG) (gh ih iv ia gl gs : Nat) (vi : Nat → Int32) (ai : Nat → Int32) (hd : Nat → Int32) (sn : Nat → Int32) (jc : Int32) (lf : Int32) (p1 : Int32) (hs : s_X0_volumesFor hd jc p1) : zC l G yX0_volumesFor wsX0_volumesFor rm_X0_volumesFor 0 0 [.ref gh, .int p1] (w_X0 G gh ih iv ia gl gs vi ai hd sn jc lf) (some (.int (f_X0_volumesFor vi ai hd jc p1).1)) (fun _ : Unit => (w_X0 G gh ih iv ia gl gs ((f_X0_volumesFor vi ai hd jc p1).2.1) ((f_X0_volumesFor vi ai hd jc p1).2.2) hd sn jc lf)) := by
  refine z_of (cc := cX0_volumesFor) (maxL := 4) (ret := (some .int)) (own := RX0) (by decide) rfl rfl (Nat.le_of_ble_eq_true rfl) ?_
  intro p e s m args below meth c A H locs ls F hr hlocks hname hK hA hP hD hS hl
  obtain ⟨hx, hb, hml, hown, hts⟩ := id F
  have hl : lv_has ls 4 [(0, .ref gh), (1, .int p1)] := hl
  have hs : (sf_X0_volumesFor_4 730 0 hd jc) := hs
  refine lv_iconst (v := (0 : Int32)) hx hb dX0_volumesFor_0 (by decide) ?_
  refine lv_istore_n (lv' := [(2, .int (0 : Int32)), (0, .ref gh), (1, .int p1)]) hx hb dX0_volumesFor_1 rfl hl (by decide) rfl (fun ls hl => ?_)
  refine lv_iconst (v := (0 : Int32)) hx hb dX0_volumesFor_2 (by decide) ?_
  refine lv_istore_n (lv' := [(3, .int (0 : Int32)), (2, .int (0 : Int32)), (0, .ref gh), (1, .int p1)]) hx hb dX0_volumesFor_3 rfl hl (by decide) rfl (fun ls hl => ?_)
  have h_4 := hs
  refine l_X0_volumesFor_4 F hr hlocks hK hA gh ih iv ia gl gs 730 0 vi ai hd sn jc lf p1 (0 : Int32) (by omega) (by omega) h_4 H locs ls hP hD hS (lv_sub hl [2, 3, 1, 0] rfl) ?_
  intro H locs ls hP hD hS hl
  have hP : va_P G.1 vwCl (w_X0 G gh ih iv ia gl gs (lf_X0_volumesFor_4 730 0 vi ai hd jc p1 (0 : Int32)).1 (lf_X0_volumesFor_4 730 0 vi ai hd jc p1 (0 : Int32)).2.1 hd sn jc lf) H := hP
  have hD : va_D A (w_X0 G gh ih iv ia gl gs (lf_X0_volumesFor_4 730 0 vi ai hd jc p1 (0 : Int32)).1 (lf_X0_volumesFor_4 730 0 vi ai hd jc p1 (0 : Int32)).2.1 hd sn jc lf) := hD
  have hl : lv_has ls 4 [(2, .int (lf_X0_volumesFor_4 730 0 vi ai hd jc p1 (0 : Int32)).2.2)] := hl
  refine lv_iload_n hx hb dX0_volumesFor_43 rfl (lv_at hl 0 rfl) ?_
  have e9 : (f_X0_volumesFor vi ai hd jc p1) = ((lf_X0_volumesFor_4 730 0 vi ai hd jc p1 (0 : Int32)).2.2, (lf_X0_volumesFor_4 730 0 vi ai hd jc p1 (0 : Int32)).1, (lf_X0_volumesFor_4 730 0 vi ai hd jc p1 (0 : Int32)).2.1) := (f_X0_volumesFor_eq vi ai hd jc p1).trans (rfl)
  rw [e9]
  dsimp only
  exact z_iret F hr hlocks hP hD hS () [0, 1, 2, 3, 4, 5] rfl rfl rfl dX0_volumesFor_44
def f_X0_tally (sn : Nat → Int32) (p1 : Int32) : Int32 × (Nat → Int32) := (if p1 < (0 : Int32) then ((0 : Int32), sn) else (if p1 < (64 : Int32) then (((upd sn p1.toNatClampNeg ((sn p1.toNatClampNeg) + (1 : Int32))) p1.toNatClampNeg), (upd sn p1.toNatClampNeg ((sn p1.toNatClampNeg) + (1 : Int32)))) else ((0 : Int32), sn)))
theorem f_X0_tally_eq (sn : Nat → Int32) (p1 : Int32) : f_X0_tally sn p1 = (if p1 < (0 : Int32) then ((0 : Int32), sn) else (if p1 < (64 : Int32) then (((upd sn p1.toNatClampNeg ((sn p1.toNatClampNeg) + (1 : Int32))) p1.toNatClampNeg), (upd sn p1.toNatClampNeg ((sn p1.toNatClampNeg) + (1 : Int32)))) else ((0 : Int32), sn))) := rfl
def s_X0_tally (p1 : Int32) : Prop := ((p1 < (0 : Int32) → True) ∧ (¬ p1 < (0 : Int32) → ((p1 < (64 : Int32) → vp_in p1 64 ∧ vp_in p1 64 ∧ vp_in p1 64) ∧ (¬ p1 < (64 : Int32) → True))))
abbrev rm_X0_tally : Room := { frames := 0, cells := 0, slots := 0, locals := 0 }
theorem zd_X0_tally : yX0_tally.cls = RX0 ∧ yX0_tally.cls ≠ "java/lang/invoke/MethodHandle" ∧ yX0_tally.cls ≠ "java/lang/invoke/VarHandle" ∧ (parseMethodDescriptor yX0_tally.desc).map (fun d => d.parameters.length) = some 1 := by decide +kernel
theorem in_X0_tally_X0 : ∀ w ∈ u_ws RX0 TX0 5, w ∈ wsX0_tally := by decide +kernel
set_option maxHeartbeats 4000000 in
set_option maxRecDepth 100000 in
/-- JarRiddle$Guesser.tally(I)I -/
theorem c_X0_tally (l : Launch) (G : zG) (gh ih iv ia gl gs : Nat) (vi : Nat → Int32) (ai : Nat → Int32) (hd : Nat → Int32) (sn : Nat → Int32) (jc : Int32) (lf : Int32) (p1 : Int32) (hs : s_X0_tally p1) : zC l G yX0_tally wsX0_tally rm_X0_tally 0 0 [.ref gh, .int p1] (w_X0 G gh ih iv ia gl gs vi ai hd sn jc lf) (some (.int (f_X0_tally sn p1).1)) (fun _ : Unit => (w_X0 G gh ih iv ia gl gs vi ai hd ((f_X0_tally sn p1).2) jc lf)) := by
  refine z_of (cc := cX0_tally) (maxL := 2) (ret := (some .int)) (own := RX0) (by decide) rfl rfl (Nat.le_of_ble_eq_true rfl) ?_
  intro p e s m args below meth c A H locs ls F hr hlocks hname hK hA hP hD hS hl
  obtain ⟨hx, hb, hml, hown, hts⟩ := id F
  have hl : lv_has ls 2 [(0, .ref gh), (1, .int p1)] := hl
  have hs : ((p1 < (0 : Int32) → True) ∧ (¬ p1 < (0 : Int32) → ((p1 < (64 : Int32) → vp_in p1 64 ∧ vp_in p1 64 ∧ vp_in p1 64) ∧ (¬ p1 < (64 : Int32) → True)))) := hs
  refine lv_iload_n hx hb dX0_tally_0 rfl (lv_at hl 1 rfl) ?_
  refine lv_if_lt (tgt := 10) hx hb dX0_tally_1 (by decide) (fun (c_1 : p1 < (0 : Int32)) => ?_) (fun (c_1 : ¬ p1 < (0 : Int32)) => ?_)
  · refine lv_iconst (v := (0 : Int32)) hx hb dX0_tally_10 (by decide) ?_
    have e9 : (f_X0_tally sn p1) = ((0 : Int32), sn) := (f_X0_tally_eq sn p1).trans ((if_pos c_1).trans (rfl))
    rw [e9]
    dsimp only
    exact z_iret F hr hlocks hP hD hS () [0, 1, 2, 3, 4, 5] rfl rfl rfl dX0_tally_11
  · have hs := hs.2 c_1
    refine lv_iload_n hx hb dX0_tally_4 rfl (lv_at hl 1 rfl) ?_
    refine lv_bipush (v := (64 : Int32)) hx hb dX0_tally_5 (by decide) ?_
    refine lv_icmp_lt (tgt := 12) hx hb dX0_tally_7 (by decide) (fun (c_2 : p1 < (64 : Int32)) => ?_) (fun (c_2 : ¬ p1 < (64 : Int32)) => ?_)
    · have hs := hs.1 c_2
      refine lv_aload_n hx hb dX0_tally_12 rfl (lv_at hl 0 rfl) ?_
      refine va_get (D := G.1) (ci := 0) (v := .ref gs) (C := RX0) (T := TX0) (N := 5) hx hb hts in_X0_tally_X0 hown hK.1 hP 0 rfl rfl 2 (by decide) (hts (.fieldLink RX0 22 "JarRiddle$Guesser" "seenBy" "[I") (by decide +kernel)) (fun _ h9 => h9) rfl dX0_tally_13 ?_
      refine lv_iload_n hx hb dX0_tally_16 rfl (lv_at hl 1 rfl) ?_
      refine lv_dup2_11 hx hb dX0_tally_17 rfl rfl ?_
      obtain ⟨h_3, hs⟩ := hs
      refine va_iald hx hb hK.1 hP 5 0 rfl rfl h_3 dX0_tally_18 ?_
      refine lv_iconst (v := (1 : Int32)) hx hb dX0_tally_19 (by decide) ?_
      refine lv_iadd hx hb dX0_tally_20 ?_
      obtain ⟨h_4, hs⟩ := hs
      refine va_iast hx hb hK.1 hP hD hS 5 0 rfl rfl h_4 dX0_tally_21 (fun H locs hP hD hS => ?_)
      have hP : va_P G.1 vwCl (w_X0 G gh ih iv ia gl gs vi ai hd (upd sn p1.toNatClampNeg ((sn p1.toNatClampNeg) + (1 : Int32))) jc lf) H := hP
      have hD : va_D A (w_X0 G gh ih iv ia gl gs vi ai hd (upd sn p1.toNatClampNeg ((sn p1.toNatClampNeg) + (1 : Int32))) jc lf) := hD
      refine lv_aload_n hx hb dX0_tally_22 rfl (lv_at hl 0 rfl) ?_
      refine va_get (D := G.1) (ci := 0) (v := .ref gs) (C := RX0) (T := TX0) (N := 5) hx hb hts in_X0_tally_X0 hown hK.1 hP 0 rfl rfl 2 (by decide) (hts (.fieldLink RX0 22 "JarRiddle$Guesser" "seenBy" "[I") (by decide +kernel)) (fun _ h9 => h9) rfl dX0_tally_23 ?_
      refine lv_iload_n hx hb dX0_tally_26 rfl (lv_at hl 1 rfl) ?_
      have h_5 := hs
      refine va_iald hx hb hK.1 hP 5 0 rfl rfl h_5 dX0_tally_27 ?_
      have e9 : (f_X0_tally sn p1) = (((upd sn p1.toNatClampNeg ((sn p1.toNatClampNeg) + (1 : Int32))) p1.toNatClampNeg), (upd sn p1.toNatClampNeg ((sn p1.toNatClampNeg) + (1 : Int32)))) := (f_X0_tally_eq sn p1).trans ((if_neg c_1).trans ((if_pos c_2).trans (rfl)))
      rw [e9]
      dsimp only
      exact z_iret F hr hlocks hP hD hS () [0, 1, 2, 3, 4, 5] rfl rfl rfl dX0_tally_28
    · refine lv_iconst (v := (0 : Int32)) hx hb dX0_tally_10 (by decide) ?_
      have e9 : (f_X0_tally sn p1) = ((0 : Int32), sn) := (f_X0_tally_eq sn p1).trans ((if_neg c_1).trans ((if_neg c_2).trans (rfl)))
      rw [e9]
      dsimp only
      exact z_iret F hr hlocks hP hD hS () [0, 1, 2, 3, 4, 5] rfl rfl rfl dX0_tally_11
def f_X0_mostLeftBehind_t1 (vi : Nat → Int32) (ai : Nat → Int32) (hd : Nat → Int32) (sn : Nat → Int32) (jc : Int32) (x1 : Int32) (k : Nat) : Nat → Int32 := (f_X0_tally sn (f_X1_look ((f_X0_imagine vi ai hd jc (nI k)).1) ((f_X1_change ((f_X0_imagine vi ai hd jc (nI k)).1) ((f_X0_imagine vi ai hd jc (nI k)).2) x1).2))).2
def f_X0_mostLeftBehind_t2 (vi : Nat → Int32) (ai : Nat → Int32) (hd : Nat → Int32) (sn : Nat → Int32) (jc : Int32) (x1 : Int32) (k : Nat) : Int32 := (f_X0_tally sn (f_X1_look ((f_X0_imagine vi ai hd jc (nI k)).1) ((f_X1_change ((f_X0_imagine vi ai hd jc (nI k)).1) ((f_X0_imagine vi ai hd jc (nI k)).2) x1).2))).1
def lf_X0_mostLeftBehind_12 : Nat → Nat → (Nat → Int32) → (Nat → Int32) → (Nat → Int32) → (Nat → Int32) → Int32 → Int32 → Int32 → (Nat → Int32) × (Nat → Int32) × (Nat → Int32) × Int32
  | 0, k, vi, ai, hd, sn, jc, x1, x2 => (vi, ai, sn, x2)
  | n + 1, k, vi, ai, hd, sn, jc, x1, x2 => (if (729 : Int32) ≤ (nI k) then (vi, ai, sn, x2) else (if (f_X0_isCandidate hd (nI k)) = (0 : Int32) then (lf_X0_mostLeftBehind_12 n (k + 1) vi ai hd sn jc x1 x2) else (lf_X0_mostLeftBehind_12 n (k + 1) ((f_X0_imagine vi ai hd jc (nI k)).1) ((f_X1_change ((f_X0_imagine vi ai hd jc (nI k)).1) ((f_X0_imagine vi ai hd jc (nI k)).2) x1).2) hd (f_X0_mostLeftBehind_t1 vi ai hd sn jc x1 k) jc x1 (if x2 < (f_X0_mostLeftBehind_t2 vi ai hd sn jc x1 k) then (f_X0_mostLeftBehind_t2 vi ai hd sn jc x1 k) else x2))))
theorem lf_X0_mostLeftBehind_12_succ (n k : Nat) (vi : Nat → Int32) (ai : Nat → Int32) (hd : Nat → Int32) (sn : Nat → Int32) (jc : Int32) (x1 : Int32) (x2 : Int32) : lf_X0_mostLeftBehind_12 (n + 1) k vi ai hd sn jc x1 x2 = (if (729 : Int32) ≤ (nI k) then (vi, ai, sn, x2) else (if (f_X0_isCandidate hd (nI k)) = (0 : Int32) then (lf_X0_mostLeftBehind_12 n (k + 1) vi ai hd sn jc x1 x2) else (lf_X0_mostLeftBehind_12 n (k + 1) ((f_X0_imagine vi ai hd jc (nI k)).1) ((f_X1_change ((f_X0_imagine vi ai hd jc (nI k)).1) ((f_X0_imagine vi ai hd jc (nI k)).2) x1).2) hd (f_X0_mostLeftBehind_t1 vi ai hd sn jc x1 k) jc x1 (if x2 < (f_X0_mostLeftBehind_t2 vi ai hd sn jc x1 k) then (f_X0_mostLeftBehind_t2 vi ai hd sn jc x1 k) else x2)))) := rfl
def f_X0_mostLeftBehind (vi : Nat → Int32) (ai : Nat → Int32) (hd : Nat → Int32) (sn : Nat → Int32) (jc : Int32) (p1 : Int32) : Int32 × (Nat → Int32) × (Nat → Int32) × (Nat → Int32) := ((lf_X0_mostLeftBehind_12 730 0 vi ai hd (f_J7_fill_53178 64 sn (0 : Int32)) jc p1 (0 : Int32)).2.2.2, (lf_X0_mostLeftBehind_12 730 0 vi ai hd (f_J7_fill_53178 64 sn (0 : Int32)) jc p1 (0 : Int32)).1, (lf_X0_mostLeftBehind_12 730 0 vi ai hd (f_J7_fill_53178 64 sn (0 : Int32)) jc p1 (0 : Int32)).2.1, (lf_X0_mostLeftBehind_12 730 0 vi ai hd (f_J7_fill_53178 64 sn (0 : Int32)) jc p1 (0 : Int32)).2.2.1)
theorem f_X0_mostLeftBehind_eq (vi : Nat → Int32) (ai : Nat → Int32) (hd : Nat → Int32) (sn : Nat → Int32) (jc : Int32) (p1 : Int32) : f_X0_mostLeftBehind vi ai hd sn jc p1 = ((lf_X0_mostLeftBehind_12 730 0 vi ai hd (f_J7_fill_53178 64 sn (0 : Int32)) jc p1 (0 : Int32)).2.2.2, (lf_X0_mostLeftBehind_12 730 0 vi ai hd (f_J7_fill_53178 64 sn (0 : Int32)) jc p1 (0 : Int32)).1, (lf_X0_mostLeftBehind_12 730 0 vi ai hd (f_J7_fill_53178 64 sn (0 : Int32)) jc p1 (0 : Int32)).2.1, (lf_X0_mostLeftBehind_12 730 0 vi ai hd (f_J7_fill_53178 64 sn (0 : Int32)) jc p1 (0 : Int32)).2.2.1) := rfl
def sf_X0_mostLeftBehind_12 : Nat → Nat → (Nat → Int32) → (Nat → Int32) → (Nat → Int32) → Int32 → Int32 → Prop
  | 0, k, vi, ai, hd, jc, x1 => True
  | n + 1, k, vi, ai, hd, jc, x1 => (((729 : Int32) ≤ (nI k) → True) ∧ (¬ (729 : Int32) ≤ (nI k) → (((f_X0_isCandidate hd (nI k)) = (0 : Int32) → (sf_X0_mostLeftBehind_12 n (k + 1) vi ai hd jc x1)) ∧ (¬ (f_X0_isCandidate hd (nI k)) = (0 : Int32) → (s_X0_imagine hd jc (nI k)) ∧ (s_X0_tally (f_X1_look ((f_X0_imagine vi ai hd jc (nI k)).1) ((f_X1_change ((f_X0_imagine vi ai hd jc (nI k)).1) ((f_X0_imagine vi ai hd jc (nI k)).2) x1).2))) ∧ (sf_X0_mostLeftBehind_12 n (k + 1) ((f_X0_imagine vi ai hd jc (nI k)).1) ((f_X1_change ((f_X0_imagine vi ai hd jc (nI k)).1) ((f_X0_imagine vi ai hd jc (nI k)).2) x1).2) hd jc x1)))))
theorem sf_X0_mostLeftBehind_12_succ (n k : Nat) (vi : Nat → Int32) (ai : Nat → Int32) (hd : Nat → Int32) (jc : Int32) (x1 : Int32) : sf_X0_mostLeftBehind_12 (n + 1) k vi ai hd jc x1 = ((((729 : Int32) ≤ (nI k) → True) ∧ (¬ (729 : Int32) ≤ (nI k) → (((f_X0_isCandidate hd (nI k)) = (0 : Int32) → (sf_X0_mostLeftBehind_12 n (k + 1) vi ai hd jc x1)) ∧ (¬ (f_X0_isCandidate hd (nI k)) = (0 : Int32) → (s_X0_imagine hd jc (nI k)) ∧ (s_X0_tally (f_X1_look ((f_X0_imagine vi ai hd jc (nI k)).1) ((f_X1_change ((f_X0_imagine vi ai hd jc (nI k)).1) ((f_X0_imagine vi ai hd jc (nI k)).2) x1).2))) ∧ (sf_X0_mostLeftBehind_12 n (k + 1) ((f_X0_imagine vi ai hd jc (nI k)).1) ((f_X1_change ((f_X0_imagine vi ai hd jc (nI k)).1) ((f_X0_imagine vi ai hd jc (nI k)).2) x1).2) hd jc x1)))))) := rfl
def s_X0_mostLeftBehind (vi : Nat → Int32) (ai : Nat → Int32) (hd : Nat → Int32) (jc : Int32) (p1 : Int32) : Prop := (sf_X0_mostLeftBehind_12 730 0 vi ai hd jc p1)
abbrev rm_X0_mostLeftBehind : Room := { frames := 3, cells := 0, slots := 0, locals := 68 }
theorem zd_X0_mostLeftBehind : yX0_mostLeftBehind.cls = RX0 ∧ yX0_mostLeftBehind.cls ≠ "java/lang/invoke/MethodHandle" ∧ yX0_mostLeftBehind.cls ≠ "java/lang/invoke/VarHandle" ∧ (parseMethodDescriptor yX0_mostLeftBehind.desc).map (fun d => d.parameters.length) = some 1 := by decide +kernel
theorem in_X0_mostLeftBehind_X0 : ∀ w ∈ u_ws RX0 TX0 5, w ∈ wsX0_mostLeftBehind := by decide +kernel
set_option maxHeartbeats 4000000 in
set_option maxRecDepth 100000 in
theorem l_X0_mostLeftBehind_12 {p : Program} {l : Launch} {e : Env} {s : State} {m : MethodId} {args : Array Value} {below : List Frame} {meth : Method} {c : Code} {A : Nat → Prop} {Q : State → Prop} {G : zG} (F : CallFix p m c cX0_mostLeftBehind 4 s args wsX0_mostLeftBehind RX0) (hr : meth.sig.returnType = (some .int)) (hlocks : meth.locks = false) (hK : zK G s) (hA : ∀ q : Nat, s.heap.size ≤ q → A q) (gh ih iv ia gl gs : Nat) :
    ∀ (n k : Nat) (vi : Nat → Int32) (ai : Nat → Int32) (hd : Nat → Int32) (sn : Nat → Int32) (jc : Int32) (lf : Int32) (x1 : Int32) (x2 : Int32), k + n = 729 + 1 → k ≤ 729 → (sf_X0_mostLeftBehind_12 n k vi ai hd jc x1) → ∀ (H : Heap) (locs : List Loc) (ls : Array Slot), va_P G.1 vwCl (w_X0 G gh ih iv ia gl gs vi ai hd sn jc lf) H → va_D A (w_X0 G gh ih iv ia gl gs vi ai hd sn jc lf) → va_S A s.heap H locs → lv_has ls 4 [(0, .ref gh), (1, .int x1), (2, .int x2), (3, .int (nI k))] → (∀ (H : Heap) (locs : List Loc) (ls : Array Slot), va_P G.1 vwCl (w_X0 G gh ih iv ia gl gs ((lf_X0_mostLeftBehind_12 n k vi ai hd sn jc x1 x2).1) ((lf_X0_mostLeftBehind_12 n k vi ai hd sn jc x1 x2).2.1) hd ((lf_X0_mostLeftBehind_12 n k vi ai hd sn jc x1 x2).2.2.1) jc lf) H → va_D A (w_X0 G gh ih iv ia gl gs ((lf_X0_mostLeftBehind_12 n k vi ai hd sn jc x1 x2).1) ((lf_X0_mostLeftBehind_12 n k vi ai hd sn jc x1 x2).2.1) hd ((lf_X0_mostLeftBehind_12 n k vi ai hd sn jc x1 x2).2.2.1) jc lf) → va_S A s.heap H locs → lv_has ls 4 [(2, .int (lf_X0_mostLeftBehind_12 n k vi ai hd sn jc x1 x2).2.2.2)] → W p l e rm_X0_mostLeftBehind s m args below meth c H locs 0 0 Q (F0 m 63 ls [])) → W p l e rm_X0_mostLeftBehind s m args below meth c H locs 0 0 Q (F0 m 12 ls []) := by
  obtain ⟨hx, hb, hml, hown, hts⟩ := id F
  intro n
  induction n with
  | zero => intro k vi ai hd sn jc lf x1 x2 h1 h2; omega
  | succ n IH9 =>
    intro k vi ai hd sn jc lf x1 x2 hkn hkN hs H locs ls hP hD hS hl kk
    have hs : (((729 : Int32) ≤ (nI k) → True) ∧ (¬ (729 : Int32) ≤ (nI k) → (((f_X0_isCandidate hd (nI k)) = (0 : Int32) → (sf_X0_mostLeftBehind_12 n (k + 1) vi ai hd jc x1)) ∧ (¬ (f_X0_isCandidate hd (nI k)) = (0 : Int32) → (s_X0_imagine hd jc (nI k)) ∧ (s_X0_tally (f_X1_look ((f_X0_imagine vi ai hd jc (nI k)).1) ((f_X1_change ((f_X0_imagine vi ai hd jc (nI k)).1) ((f_X0_imagine vi ai hd jc (nI k)).2) x1).2))) ∧ (sf_X0_mostLeftBehind_12 n (k + 1) ((f_X0_imagine vi ai hd jc (nI k)).1) ((f_X1_change ((f_X0_imagine vi ai hd jc (nI k)).1) ((f_X0_imagine vi ai hd jc (nI k)).2) x1).2) hd jc x1))))) := hs
    refine lv_iload_n hx hb dX0_mostLeftBehind_12 rfl (lv_at hl 3 rfl) ?_
    refine lv_sipush (v := (729 : Int32)) hx hb dX0_mostLeftBehind_13 (by decide) ?_
    refine lv_icmp_ge (tgt := 63) hx hb dX0_mostLeftBehind_16 (by decide) (fun (c_1 : (729 : Int32) ≤ (nI k)) => ?_) (fun (c_1 : ¬ (729 : Int32) ≤ (nI k)) => ?_)
    · have e9 : (lf_X0_mostLeftBehind_12 (n + 1) k vi ai hd sn jc x1 x2) = (vi, ai, sn, x2) := (lf_X0_mostLeftBehind_12_succ n k vi ai hd sn jc x1 x2).trans ((if_pos c_1).trans (rfl))
      rw [e9] at kk
      dsimp only at kk
      exact kk H locs ls hP hD hS (lv_sub hl [2] rfl)
    · have hs := hs.2 c_1
      refine lv_aload_n hx hb dX0_mostLeftBehind_19 rfl (lv_at hl 0 rfl) ?_
      refine lv_iload_n hx hb dX0_mostLeftBehind_20 rfl (lv_at hl 3 rfl) ?_
      refine z_callV (As := [.int (nI k)]) (rest := []) (wr := ([] : va_W)) (w1 := fun _ : Unit => (w_X0 G gh ih iv ia gl gs vi ai hd sn jc lf)) (wj := fun _ : Unit => (w_X0 G gh ih iv ia gl gs vi ai hd sn jc lf)) (ci := 0) (q0 := 0) F (c_X0_isCandidate l G gh ih iv ia gl gs vi ai hd sn jc lf (nI k)) gX0_mostLeftBehind_X0_isCandidate rfl rfl rfl zd_X0_isCandidate ⟨Nat.le_of_ble_eq_true rfl, Nat.le_of_ble_eq_true rfl⟩ rfl rfl (Nat.le_of_ble_eq_true rfl) dX0_mostLeftBehind_21 ⟨Nat.le_of_ble_eq_true rfl, Nat.le_of_ble_eq_true rfl⟩ hK hP hD hS hA hl.1 rfl rfl [0, 1, 2, 3, 4, 5] [] [0, 1, 2, 3, 4, 5] rfl rfl rfl rfl (by decide) rfl (fun _ => rfl) (fun _ H locs hP hD hS => ?_)
      have hP : va_P G.1 vwCl (w_X0 G gh ih iv ia gl gs vi ai hd sn jc lf) H := hP
      have hD : va_D A (w_X0 G gh ih iv ia gl gs vi ai hd sn jc lf) := hD
      refine lv_if_eq (tgt := 57) hx hb dX0_mostLeftBehind_24 (by decide) (fun (c_2 : (f_X0_isCandidate hd (nI k)) = (0 : Int32)) => ?_) (fun (c_2 : ¬ (f_X0_isCandidate hd (nI k)) = (0 : Int32)) => ?_)
      · have hs := hs.1 c_2
        refine lv_iinc (v := (nI (k + 1))) (lv' := [(3, .int (nI (k + 1))), (0, .ref gh), (1, .int x1), (2, .int x2)]) hx hb dX0_mostLeftBehind_57 hl (k := 3) rfl (nI_1 k) (by decide) rfl (fun ls hl => ?_)
        refine lv_goto (tgt := 12) hx hb dX0_mostLeftBehind_60 (by decide) ?_
        have e9 : (lf_X0_mostLeftBehind_12 (n + 1) k vi ai hd sn jc x1 x2) = (lf_X0_mostLeftBehind_12 n (k + 1) vi ai hd sn jc x1 x2) := (lf_X0_mostLeftBehind_12_succ n k vi ai hd sn jc x1 x2).trans ((if_neg c_1).trans ((if_pos c_2).trans (rfl)))
        rw [e9] at kk
        have h9 := zk_lt (N := 729) (by omega) rfl c_1
        exact IH9 (k + 1) vi ai hd sn jc lf x1 x2 (by omega) (by omega) hs H locs ls hP hD hS (lv_sub hl [1, 2, 3, 0] rfl) kk
      · have hs := hs.2 c_2
        refine lv_aload_n hx hb dX0_mostLeftBehind_27 rfl (lv_at hl 0 rfl) ?_
        refine lv_iload_n hx hb dX0_mostLeftBehind_28 rfl (lv_at hl 3 rfl) ?_
        obtain ⟨h_3, hs⟩ := hs
        refine z_callV (As := [.int (nI k)]) (rest := []) (wr := ([] : va_W)) (w1 := fun _ : Unit => (w_X0 G gh ih iv ia gl gs ((f_X0_imagine vi ai hd jc (nI k)).1) ((f_X0_imagine vi ai hd jc (nI k)).2) hd sn jc lf)) (wj := fun _ : Unit => (w_X0 G gh ih iv ia gl gs (f_X0_imagine vi ai hd jc (nI k)).1 (f_X0_imagine vi ai hd jc (nI k)).2 hd sn jc lf)) (ci := 0) (q0 := 0) F (c_X0_imagine l G gh ih iv ia gl gs vi ai hd sn jc lf (nI k) h_3) gX0_mostLeftBehind_X0_imagine rfl rfl rfl zd_X0_imagine ⟨Nat.le_of_ble_eq_true rfl, Nat.le_of_ble_eq_true rfl⟩ rfl rfl (Nat.le_of_ble_eq_true rfl) dX0_mostLeftBehind_29 ⟨Nat.le_of_ble_eq_true rfl, Nat.le_of_ble_eq_true rfl⟩ hK hP hD hS hA hl.1 rfl rfl [0, 1, 2, 3, 4, 5] [] [0, 1, 2, 3, 4, 5] rfl rfl rfl rfl (by decide) rfl (fun _ => rfl) (fun _ H locs hP hD hS => ?_)
        have hP : va_P G.1 vwCl (w_X0 G gh ih iv ia gl gs (f_X0_imagine vi ai hd jc (nI k)).1 (f_X0_imagine vi ai hd jc (nI k)).2 hd sn jc lf) H := hP
        have hD : va_D A (w_X0 G gh ih iv ia gl gs (f_X0_imagine vi ai hd jc (nI k)).1 (f_X0_imagine vi ai hd jc (nI k)).2 hd sn jc lf) := hD
        refine lv_aload_n hx hb dX0_mostLeftBehind_32 rfl (lv_at hl 0 rfl) ?_
        refine va_get (D := G.1) (ci := 0) (v := .ref ih) (C := RX0) (T := TX0) (N := 5) hx hb hts in_X0_mostLeftBehind_X0 hown hK.1 hP 0 rfl rfl 0 (by decide) (hts (.fieldLink RX0 12 "JarRiddle$Guesser" "imagined" "LJarRiddle$Row;") (by decide +kernel)) (fun _ h9 => h9) rfl dX0_mostLeftBehind_33 ?_
        refine lv_iload_n hx hb dX0_mostLeftBehind_36 rfl (lv_at hl 1 rfl) ?_
        refine z_callV (As := [.int x1]) (rest := []) (wr := ([(gh, .inr (0, [.ref ih, .ref gl, .ref gs, .int jc, .int lf])), (gl, .inl (G.2.1, 729, .inl hd)), (gs, .inl (G.2.1, 64, .inl sn))] : va_W)) (w1 := fun _ : Unit => (w_X1 G ih iv ia ((f_X0_imagine vi ai hd jc (nI k)).1) ((f_X1_change ((f_X0_imagine vi ai hd jc (nI k)).1) ((f_X0_imagine vi ai hd jc (nI k)).2) x1).2))) (wj := fun _ : Unit => (w_X0 G gh ih iv ia gl gs (f_X0_imagine vi ai hd jc (nI k)).1 (f_X1_change ((f_X0_imagine vi ai hd jc (nI k)).1) ((f_X0_imagine vi ai hd jc (nI k)).2) x1).2 hd sn jc lf)) (ci := 1) (q0 := 1) F (c_X1_change l G ih iv ia ((f_X0_imagine vi ai hd jc (nI k)).1) ((f_X0_imagine vi ai hd jc (nI k)).2) x1) gX0_mostLeftBehind_X1_change rfl rfl rfl zd_X1_change ⟨Nat.le_of_ble_eq_true rfl, Nat.le_of_ble_eq_true rfl⟩ rfl rfl (Nat.le_of_ble_eq_true rfl) dX0_mostLeftBehind_37 ⟨Nat.le_of_ble_eq_true rfl, Nat.le_of_ble_eq_true rfl⟩ hK hP hD hS hA hl.1 rfl rfl [1, 2, 3] [0, 4, 5] [0, 3, 4, 5, 1, 2] rfl rfl rfl rfl (by decide) rfl (fun _ => rfl) (fun _ H locs hP hD hS => ?_)
        have hP : va_P G.1 vwCl (w_X0 G gh ih iv ia gl gs (f_X0_imagine vi ai hd jc (nI k)).1 (f_X1_change ((f_X0_imagine vi ai hd jc (nI k)).1) ((f_X0_imagine vi ai hd jc (nI k)).2) x1).2 hd sn jc lf) H := hP
        have hD : va_D A (w_X0 G gh ih iv ia gl gs (f_X0_imagine vi ai hd jc (nI k)).1 (f_X1_change ((f_X0_imagine vi ai hd jc (nI k)).1) ((f_X0_imagine vi ai hd jc (nI k)).2) x1).2 hd sn jc lf) := hD
        refine lv_pop hx hb dX0_mostLeftBehind_40 rfl ?_
        refine lv_iload_n hx hb dX0_mostLeftBehind_41 rfl (lv_at hl 2 rfl) ?_
        refine lv_aload_n hx hb dX0_mostLeftBehind_42 rfl (lv_at hl 0 rfl) ?_
        refine lv_aload_n hx hb dX0_mostLeftBehind_43 rfl (lv_at hl 0 rfl) ?_
        refine va_get (D := G.1) (ci := 0) (v := .ref ih) (C := RX0) (T := TX0) (N := 5) hx hb hts in_X0_mostLeftBehind_X0 hown hK.1 hP 0 rfl rfl 0 (by decide) (hts (.fieldLink RX0 12 "JarRiddle$Guesser" "imagined" "LJarRiddle$Row;") (by decide +kernel)) (fun _ h9 => h9) rfl dX0_mostLeftBehind_44 ?_
        refine z_callV (As := []) (rest := [.ref gh, .int x2]) (wr := ([(gh, .inr (0, [.ref ih, .ref gl, .ref gs, .int jc, .int lf])), (gl, .inl (G.2.1, 729, .inl hd)), (gs, .inl (G.2.1, 64, .inl sn))] : va_W)) (w1 := fun _ : Unit => (w_X1 G ih iv ia ((f_X0_imagine vi ai hd jc (nI k)).1) ((f_X1_change ((f_X0_imagine vi ai hd jc (nI k)).1) ((f_X0_imagine vi ai hd jc (nI k)).2) x1).2))) (wj := fun _ : Unit => (w_X0 G gh ih iv ia gl gs (f_X0_imagine vi ai hd jc (nI k)).1 (f_X1_change ((f_X0_imagine vi ai hd jc (nI k)).1) ((f_X0_imagine vi ai hd jc (nI k)).2) x1).2 hd sn jc lf)) (ci := 1) (q0 := 1) F (c_X1_look l G ih iv ia ((f_X0_imagine vi ai hd jc (nI k)).1) ((f_X1_change ((f_X0_imagine vi ai hd jc (nI k)).1) ((f_X0_imagine vi ai hd jc (nI k)).2) x1).2)) gX0_mostLeftBehind_X1_look rfl rfl rfl zd_X1_look ⟨Nat.le_of_ble_eq_true rfl, Nat.le_of_ble_eq_true rfl⟩ rfl rfl (Nat.le_of_ble_eq_true rfl) dX0_mostLeftBehind_47 ⟨Nat.le_of_ble_eq_true rfl, Nat.le_of_ble_eq_true rfl⟩ hK hP hD hS hA hl.1 rfl rfl [1, 2, 3] [0, 4, 5] [0, 3, 4, 5, 1, 2] rfl rfl rfl rfl (by decide) rfl (fun _ => rfl) (fun _ H locs hP hD hS => ?_)
        have hP : va_P G.1 vwCl (w_X0 G gh ih iv ia gl gs (f_X0_imagine vi ai hd jc (nI k)).1 (f_X1_change ((f_X0_imagine vi ai hd jc (nI k)).1) ((f_X0_imagine vi ai hd jc (nI k)).2) x1).2 hd sn jc lf) H := hP
        have hD : va_D A (w_X0 G gh ih iv ia gl gs (f_X0_imagine vi ai hd jc (nI k)).1 (f_X1_change ((f_X0_imagine vi ai hd jc (nI k)).1) ((f_X0_imagine vi ai hd jc (nI k)).2) x1).2 hd sn jc lf) := hD
        obtain ⟨h_4, hs⟩ := hs
        refine z_callV (As := [.int (f_X1_look ((f_X0_imagine vi ai hd jc (nI k)).1) ((f_X1_change ((f_X0_imagine vi ai hd jc (nI k)).1) ((f_X0_imagine vi ai hd jc (nI k)).2) x1).2))]) (rest := [.int x2]) (wr := ([] : va_W)) (w1 := fun _ : Unit => (w_X0 G gh ih iv ia gl gs ((f_X0_imagine vi ai hd jc (nI k)).1) ((f_X1_change ((f_X0_imagine vi ai hd jc (nI k)).1) ((f_X0_imagine vi ai hd jc (nI k)).2) x1).2) hd ((f_X0_tally sn (f_X1_look ((f_X0_imagine vi ai hd jc (nI k)).1) ((f_X1_change ((f_X0_imagine vi ai hd jc (nI k)).1) ((f_X0_imagine vi ai hd jc (nI k)).2) x1).2))).2) jc lf)) (wj := fun _ : Unit => (w_X0 G gh ih iv ia gl gs (f_X0_imagine vi ai hd jc (nI k)).1 (f_X1_change ((f_X0_imagine vi ai hd jc (nI k)).1) ((f_X0_imagine vi ai hd jc (nI k)).2) x1).2 hd (f_X0_mostLeftBehind_t1 vi ai hd sn jc x1 k) jc lf)) (ci := 0) (q0 := 0) F (c_X0_tally l G gh ih iv ia gl gs ((f_X0_imagine vi ai hd jc (nI k)).1) ((f_X1_change ((f_X0_imagine vi ai hd jc (nI k)).1) ((f_X0_imagine vi ai hd jc (nI k)).2) x1).2) hd sn jc lf (f_X1_look ((f_X0_imagine vi ai hd jc (nI k)).1) ((f_X1_change ((f_X0_imagine vi ai hd jc (nI k)).1) ((f_X0_imagine vi ai hd jc (nI k)).2) x1).2)) h_4) gX0_mostLeftBehind_X0_tally rfl rfl rfl zd_X0_tally ⟨Nat.le_of_ble_eq_true rfl, Nat.le_of_ble_eq_true rfl⟩ rfl rfl (Nat.le_of_ble_eq_true rfl) dX0_mostLeftBehind_50 ⟨Nat.le_of_ble_eq_true rfl, Nat.le_of_ble_eq_true rfl⟩ hK hP hD hS hA hl.1 rfl rfl [0, 1, 2, 3, 4, 5] [] [0, 1, 2, 3, 4, 5] rfl rfl rfl rfl (by decide) rfl (fun _ => rfl) (fun _ H locs hP hD hS => ?_)
        have hP : va_P G.1 vwCl (w_X0 G gh ih iv ia gl gs (f_X0_imagine vi ai hd jc (nI k)).1 (f_X1_change ((f_X0_imagine vi ai hd jc (nI k)).1) ((f_X0_imagine vi ai hd jc (nI k)).2) x1).2 hd (f_X0_mostLeftBehind_t1 vi ai hd sn jc x1 k) jc lf) H := hP
        have hD : va_D A (w_X0 G gh ih iv ia gl gs (f_X0_imagine vi ai hd jc (nI k)).1 (f_X1_change ((f_X0_imagine vi ai hd jc (nI k)).1) ((f_X0_imagine vi ai hd jc (nI k)).2) x1).2 hd (f_X0_mostLeftBehind_t1 vi ai hd sn jc x1 k) jc lf) := hD
        refine va_mmax hx hb (hml.trans hl.1.symm) hown (hts (.methodLink RX0 77 Lib.Math.max.name) (by decide +kernel)) (hts (.static Lib.Math.max.name) (by decide +kernel)) (hts (.initialized "java/lang/Math") (by decide +kernel)) (hts (.code Lib.Math.max.name Lib.Math.max.code 2 (some .int)) (by decide +kernel)) (Nat.le_of_ble_eq_true rfl) (Nat.le_of_ble_eq_true rfl) (Nat.zero_le _) (Nat.zero_le _) dX0_mostLeftBehind_53 ?_
        refine lv_istore_n (lv' := [(2, .int (if x2 < (f_X0_mostLeftBehind_t2 vi ai hd sn jc x1 k) then (f_X0_mostLeftBehind_t2 vi ai hd sn jc x1 k) else x2)), (0, .ref gh), (1, .int x1), (3, .int (nI k))]) hx hb dX0_mostLeftBehind_56 rfl hl (by decide) rfl (fun ls hl => ?_)
        refine lv_iinc (v := (nI (k + 1))) (lv' := [(3, .int (nI (k + 1))), (2, .int (if x2 < (f_X0_mostLeftBehind_t2 vi ai hd sn jc x1 k) then (f_X0_mostLeftBehind_t2 vi ai hd sn jc x1 k) else x2)), (0, .ref gh), (1, .int x1)]) hx hb dX0_mostLeftBehind_57 hl (k := 3) rfl (nI_1 k) (by decide) rfl (fun ls hl => ?_)
        refine lv_goto (tgt := 12) hx hb dX0_mostLeftBehind_60 (by decide) ?_
        have e9 : (lf_X0_mostLeftBehind_12 (n + 1) k vi ai hd sn jc x1 x2) = (lf_X0_mostLeftBehind_12 n (k + 1) ((f_X0_imagine vi ai hd jc (nI k)).1) ((f_X1_change ((f_X0_imagine vi ai hd jc (nI k)).1) ((f_X0_imagine vi ai hd jc (nI k)).2) x1).2) hd (f_X0_mostLeftBehind_t1 vi ai hd sn jc x1 k) jc x1 (if x2 < (f_X0_mostLeftBehind_t2 vi ai hd sn jc x1 k) then (f_X0_mostLeftBehind_t2 vi ai hd sn jc x1 k) else x2)) := (lf_X0_mostLeftBehind_12_succ n k vi ai hd sn jc x1 x2).trans ((if_neg c_1).trans ((if_neg c_2).trans (rfl)))
        rw [e9] at kk
        have h9 := zk_lt (N := 729) (by omega) rfl c_1
        exact IH9 (k + 1) ((f_X0_imagine vi ai hd jc (nI k)).1) ((f_X1_change ((f_X0_imagine vi ai hd jc (nI k)).1) ((f_X0_imagine vi ai hd jc (nI k)).2) x1).2) hd (f_X0_mostLeftBehind_t1 vi ai hd sn jc x1 k) jc lf x1 (if x2 < (f_X0_mostLeftBehind_t2 vi ai hd sn jc x1 k) then (f_X0_mostLeftBehind_t2 vi ai hd sn jc x1 k) else x2) (by omega) (by omega) hs H locs ls hP hD hS (lv_sub hl [2, 3, 1, 0] rfl) kk
set_option maxHeartbeats 4000000 in
set_option maxRecDepth 100000 in
/-- JarRiddle$Guesser.mostLeftBehind(I)I -/
theorem c_X0_mostLeftBehind (l : Launch) (G : zG) (gh ih iv ia gl gs : Nat) (vi : Nat → Int32) (ai : Nat → Int32) (hd : Nat → Int32) (sn : Nat → Int32) (jc : Int32) (lf : Int32) (p1 : Int32) (hs : s_X0_mostLeftBehind vi ai hd jc p1) : zC l G yX0_mostLeftBehind wsX0_mostLeftBehind rm_X0_mostLeftBehind 0 0 [.ref gh, .int p1] (w_X0 G gh ih iv ia gl gs vi ai hd sn jc lf) (some (.int (f_X0_mostLeftBehind vi ai hd sn jc p1).1)) (fun _ : Unit => (w_X0 G gh ih iv ia gl gs ((f_X0_mostLeftBehind vi ai hd sn jc p1).2.1) ((f_X0_mostLeftBehind vi ai hd sn jc p1).2.2.1) hd ((f_X0_mostLeftBehind vi ai hd sn jc p1).2.2.2) jc lf)) := by
  refine z_of (cc := cX0_mostLeftBehind) (maxL := 4) (ret := (some .int)) (own := RX0) (by decide) rfl rfl (Nat.le_of_ble_eq_true rfl) ?_
  intro p e s m args below meth c A H locs ls F hr hlocks hname hK hA hP hD hS hl
  obtain ⟨hx, hb, hml, hown, hts⟩ := id F
  have hl : lv_has ls 4 [(0, .ref gh), (1, .int p1)] := hl
  have hs : (sf_X0_mostLeftBehind_12 730 0 vi ai hd jc p1) := hs
  refine lv_aload_n hx hb dX0_mostLeftBehind_0 rfl (lv_at hl 0 rfl) ?_
  refine va_get (D := G.1) (ci := 0) (v := .ref gs) (C := RX0) (T := TX0) (N := 5) hx hb hts in_X0_mostLeftBehind_X0 hown hK.1 hP 0 rfl rfl 2 (by decide) (hts (.fieldLink RX0 22 "JarRiddle$Guesser" "seenBy" "[I") (by decide +kernel)) (fun _ h9 => h9) rfl dX0_mostLeftBehind_1 ?_
  refine lv_iconst (v := (0 : Int32)) hx hb dX0_mostLeftBehind_4 (by decide) ?_
  refine z_callSX (As := [.ref gs, .int (0 : Int32)]) (rest := []) (wr := ([(gh, .inr (0, [.ref ih, .ref gl, .ref gs, .int jc, .int lf])), (ih, .inr (1, [.ref iv, .ref ia])), (iv, .inl (G.2.1, 3, .inl vi)), (ia, .inl (G.2.1, 3, .inl ai)), (gl, .inl (G.2.1, 729, .inl hd))] : va_W)) (w1 := fun _ : Unit => (w_J7 G 64 gs (f_J7_fill_53178 64 sn (0 : Int32)))) (wj := fun _ : Unit => (w_X0 G gh ih iv ia gl gs vi ai hd (f_J7_fill_53178 64 sn (0 : Int32)) jc lf)) F (c_J7_fill_53178 l G 64 gs sn (0 : Int32) (by decide)) gX0_mostLeftBehind_J7_fill_53178 rfl rfl rfl zd_J7_fill_53178 ⟨Nat.le_of_ble_eq_true rfl, Nat.le_of_ble_eq_true rfl⟩ rfl rfl (Nat.le_of_ble_eq_true rfl) dX0_mostLeftBehind_5 ⟨Nat.le_of_ble_eq_true rfl, Nat.le_of_ble_eq_true rfl⟩ hK hP hD hS hA hl.1 [5] [0, 1, 2, 3, 4] [0, 1, 2, 3, 4, 5] rfl rfl rfl rfl (by decide) rfl (fun _ => rfl) (fun _ H locs hP hD hS => ?_)
  have hP : va_P G.1 vwCl (w_X0 G gh ih iv ia gl gs vi ai hd (f_J7_fill_53178 64 sn (0 : Int32)) jc lf) H := hP
  have hD : va_D A (w_X0 G gh ih iv ia gl gs vi ai hd (f_J7_fill_53178 64 sn (0 : Int32)) jc lf) := hD
  refine lv_iconst (v := (0 : Int32)) hx hb dX0_mostLeftBehind_8 (by decide) ?_
  refine lv_istore_n (lv' := [(2, .int (0 : Int32)), (0, .ref gh), (1, .int p1)]) hx hb dX0_mostLeftBehind_9 rfl hl (by decide) rfl (fun ls hl => ?_)
  refine lv_iconst (v := (0 : Int32)) hx hb dX0_mostLeftBehind_10 (by decide) ?_
  refine lv_istore_n (lv' := [(3, .int (0 : Int32)), (2, .int (0 : Int32)), (0, .ref gh), (1, .int p1)]) hx hb dX0_mostLeftBehind_11 rfl hl (by decide) rfl (fun ls hl => ?_)
  have h_5 := hs
  refine l_X0_mostLeftBehind_12 F hr hlocks hK hA gh ih iv ia gl gs 730 0 vi ai hd (f_J7_fill_53178 64 sn (0 : Int32)) jc lf p1 (0 : Int32) (by omega) (by omega) h_5 H locs ls hP hD hS (lv_sub hl [2, 3, 1, 0] rfl) ?_
  intro H locs ls hP hD hS hl
  have hP : va_P G.1 vwCl (w_X0 G gh ih iv ia gl gs (lf_X0_mostLeftBehind_12 730 0 vi ai hd (f_J7_fill_53178 64 sn (0 : Int32)) jc p1 (0 : Int32)).1 (lf_X0_mostLeftBehind_12 730 0 vi ai hd (f_J7_fill_53178 64 sn (0 : Int32)) jc p1 (0 : Int32)).2.1 hd (lf_X0_mostLeftBehind_12 730 0 vi ai hd (f_J7_fill_53178 64 sn (0 : Int32)) jc p1 (0 : Int32)).2.2.1 jc lf) H := hP
  have hD : va_D A (w_X0 G gh ih iv ia gl gs (lf_X0_mostLeftBehind_12 730 0 vi ai hd (f_J7_fill_53178 64 sn (0 : Int32)) jc p1 (0 : Int32)).1 (lf_X0_mostLeftBehind_12 730 0 vi ai hd (f_J7_fill_53178 64 sn (0 : Int32)) jc p1 (0 : Int32)).2.1 hd (lf_X0_mostLeftBehind_12 730 0 vi ai hd (f_J7_fill_53178 64 sn (0 : Int32)) jc p1 (0 : Int32)).2.2.1 jc lf) := hD
  have hl : lv_has ls 4 [(2, .int (lf_X0_mostLeftBehind_12 730 0 vi ai hd (f_J7_fill_53178 64 sn (0 : Int32)) jc p1 (0 : Int32)).2.2.2)] := hl
  refine lv_iload_n hx hb dX0_mostLeftBehind_63 rfl (lv_at hl 0 rfl) ?_
  have e9 : (f_X0_mostLeftBehind vi ai hd sn jc p1) = ((lf_X0_mostLeftBehind_12 730 0 vi ai hd (f_J7_fill_53178 64 sn (0 : Int32)) jc p1 (0 : Int32)).2.2.2, (lf_X0_mostLeftBehind_12 730 0 vi ai hd (f_J7_fill_53178 64 sn (0 : Int32)) jc p1 (0 : Int32)).1, (lf_X0_mostLeftBehind_12 730 0 vi ai hd (f_J7_fill_53178 64 sn (0 : Int32)) jc p1 (0 : Int32)).2.1, (lf_X0_mostLeftBehind_12 730 0 vi ai hd (f_J7_fill_53178 64 sn (0 : Int32)) jc p1 (0 : Int32)).2.2.1) := (f_X0_mostLeftBehind_eq vi ai hd sn jc p1).trans (rfl)
  rw [e9]
  dsimp only
  exact z_iret F hr hlocks hP hD hS () [0, 1, 2, 3, 4, 5] rfl rfl rfl dX0_mostLeftBehind_64
