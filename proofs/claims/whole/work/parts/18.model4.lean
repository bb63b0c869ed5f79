def lf_X4_left_13 : Nat → Nat → (Nat → Int32) → Int32 → Int32
  | 0, k, ml, x1 => x1
  | n + 1, k, ml, x1 => (if (1000 : Int32) ≤ (nI k) then x1 else (if (ml (nI k).toNatClampNeg) = (0 : Int32) then (lf_X4_left_13 n (k + 1) ml (x1 + (0 : Int32))) else (lf_X4_left_13 n (k + 1) ml (x1 + (1 : Int32)))))
theorem lf_X4_left_13_succ (n k : Nat) (ml : Nat → Int32) (x1 : Int32) : lf_X4_left_13 (n + 1) k ml x1 = (if (1000 : Int32) ≤ (nI k) then x1 else (if (ml (nI k).toNatClampNeg) = (0 : Int32) then (lf_X4_left_13 n (k + 1) ml (x1 + (0 : Int32))) else (lf_X4_left_13 n (k + 1) ml (x1 + (1 : Int32))))) := rfl
def f_X4_left (ml : Nat → Int32) : Int32 := (lf_X4_left_13 1001 0 ml (0 : Int32))
theorem f_X4_left_eq (ml : Nat → Int32) : f_X4_left ml = (lf_X4_left_13 1001 0 ml (0 : Int32)) := rfl
abbrev rm_X4_left : Room := { frames := 0, cells := 0, slots := 0, locals := 0 }
theorem zd_X4_left : yX4_left.cls = RX4 ∧ yX4_left.cls ≠ "java/lang/invoke/MethodHandle" ∧ yX4_left.cls ≠ "java/lang/invoke/VarHandle" ∧ (parseMethodDescriptor yX4_left.desc).map (fun d => d.parameters.length) = some 0 := by decide +kernel
theorem in_X4_left_X4 : ∀ w ∈ u_ws RX4 TX4 18, w ∈ wsX4_left := by decide +kernel
set_option maxHeartbeats 4000000 in
set_option maxRecDepth 100000 in
theorem l_X4_left_13 {p : Program} {l : Launch} {e : Env} {s : State} {m : MethodId} {args : Array Value} {below : List Frame} {meth : Method} {c : Code} {A : Nat → Prop} {Q : State → Prop} {G : zG} (F : CallFix p m c cX4_left 6 s args wsX4_left RX4) (hr : meth.sig.returnType = (some .int)) (hlocks : meth.locks = false) (hK : zK G s) (hA : ∀ q : Nat, s.heap.size ≤ q → A q) (mh0 mvq maq mlq mhq mfq mrq moq mbq msq : Nat) :
    ∀ (n k : Nat) (th : Int32) (js : Int32) (mv : Nat → Int32) (ma : Nat → Int32) (ac : Int32) (po : Int32) (si : Int32) (ta : Int32) (ml : Nat → Int32) (mh : Nat → Int32) (gu : Int32) (wr : Int32) (mf : Nat → Int32) (mr : Nat → Int32) (re : Int32) (mo : Nat → Int32) (mb : Nat → Int32) (ms : Nat → Int32) (x1 : Int32), k + n = 1000 + 1 → k ≤ 1000 → ∀ (H : Heap) (locs : List Loc) (ls : Array Slot), va_P G.1 vwCl (w_X4 G mh0 mvq maq mlq mhq mfq mrq moq mbq msq th js mv ma ac po si ta ml mh gu wr mf mr re mo mb ms) H → va_D A (w_X4 G mh0 mvq maq mlq mhq mfq mrq moq mbq msq th js mv ma ac po si ta ml mh gu wr mf mr re mo mb ms) → va_S A s.heap H locs → lv_has ls 6 [(1, .int x1), (2, .ref mlq), (3, .int (1000 : Int32)), (4, .int (nI k))] → (∀ (H : Heap) (locs : List Loc) (ls : Array Slot), va_P G.1 vwCl (w_X4 G mh0 mvq maq mlq mhq mfq mrq moq mbq msq th js mv ma ac po si ta ml mh gu wr mf mr re mo mb ms) H → va_D A (w_X4 G mh0 mvq maq mlq mhq mfq mrq moq mbq msq th js mv ma ac po si ta ml mh gu wr mf mr re mo mb ms) → va_S A s.heap H locs → lv_has ls 6 [(1, .int (lf_X4_left_13 n k ml x1))] → W p l e rm_X4_left s m args below meth c H locs 0 0 Q (F0 m 44 ls [])) → W p l e rm_X4_left s m args below meth c H locs 0 0 Q (F0 m 13 ls []) := by
  obtain ⟨hx, hb, hml, hown, hts⟩ := id F
  intro n
  induction n with
  | zero => intro k th js mv ma ac po si ta ml mh gu wr mf mr re mo mb ms x1 h1 h2; omega
  | succ n IH9 =>
    intro k th js mv ma ac po si ta ml mh gu wr mf mr re mo mb ms x1 hkn hkN H locs ls hP hD hS hl kk
    refine lv_iload hx hb dX4_left_13 (lv_at hl 3 rfl) ?_
    refine lv_iload_n hx hb dX4_left_15 rfl (lv_at hl 2 rfl) ?_
    refine lv_icmp_ge (tgt := 44) hx hb dX4_left_16 (by decide) (fun (c_1 : (1000 : Int32) ≤ (nI k)) => ?_) (fun (c_1 : ¬ (1000 : Int32) ≤ (nI k)) => ?_)
    · have e9 : (lf_X4_left_13 (n + 1) k ml x1) = x1 := (lf_X4_left_13_succ n k ml x1).trans ((if_pos c_1).trans (rfl))
      rw [e9] at kk
      exact kk H locs ls hP hD hS (lv_sub hl [0] rfl)
    · refine lv_aload_n hx hb dX4_left_19 rfl (lv_at hl 1 rfl) ?_
      refine lv_iload hx hb dX4_left_20 (lv_at hl 3 rfl) ?_
      refine va_zald hx hb hK.1 hP 3 1 rfl rfl (vp_in_nI (Nat.lt_of_lt_of_le (zk_lt (N := 1000) (by omega) rfl c_1) (by decide)) (by decide) : vp_in (nI k) 1000) dX4_left_22 ?_
      refine lv_istore (lv' := [(5, .int (ml (nI k).toNatClampNeg)), (1, .int x1), (2, .ref mlq), (3, .int (1000 : Int32)), (4, .int (nI k))]) hx hb dX4_left_23 hl (by decide) rfl (fun ls hl => ?_)
      refine lv_iload_n hx hb dX4_left_25 rfl (lv_at hl 1 rfl) ?_
      refine lv_iload hx hb dX4_left_26 (lv_at hl 0 rfl) ?_
      refine lv_if_eq (tgt := 35) hx hb dX4_left_28 (by decide) (fun (c_2 : (ml (nI k).toNatClampNeg) = (0 : Int32)) => ?_) (fun (c_2 : ¬ (ml (nI k).toNatClampNeg) = (0 : Int32)) => ?_)
      · refine lv_iconst (v := (0 : Int32)) hx hb dX4_left_35 (by decide) ?_
        refine lv_iadd hx hb dX4_left_36 ?_
        refine lv_istore_n (lv' := [(1, .int (x1 + (0 : Int32))), (5, .int (ml (nI k).toNatClampNeg)), (2, .ref mlq), (3, .int (1000 : Int32)), (4, .int (nI k))]) hx hb dX4_left_37 rfl hl (by decide) rfl (fun ls hl => ?_)
        refine lv_iinc (v := (nI (k + 1))) (lv' := [(4, .int (nI (k + 1))), (1, .int (x1 + (0 : Int32))), (5, .int (ml (nI k).toNatClampNeg)), (2, .ref mlq), (3, .int (1000 : Int32))]) hx hb dX4_left_38 hl (k := 4) rfl (nI_1 k) (by decide) rfl (fun ls hl => ?_)
        refine lv_goto (tgt := 13) hx hb dX4_left_41 (by decide) ?_
        have e9 : (lf_X4_left_13 (n + 1) k ml x1) = (lf_X4_left_13 n (k + 1) ml (x1 + (0 : Int32))) := (lf_X4_left_13_succ n k ml x1).trans ((if_neg c_1).trans ((if_pos c_2).trans (rfl)))
        rw [e9] at kk
        have h9 := zk_lt (N := 1000) (by omega) rfl c_1
        exact IH9 (k + 1) th js mv ma ac po si ta ml mh gu wr mf mr re mo mb ms (x1 + (0 : Int32)) (by omega) (by omega) H locs ls hP hD hS (lv_sub hl [1, 3, 4, 0] rfl) kk
      · refine lv_iconst (v := (1 : Int32)) hx hb dX4_left_31 (by decide) ?_
        refine lv_goto (tgt := 36) hx hb dX4_left_32 (by decide) ?_
        refine lv_iadd hx hb dX4_left_36 ?_
        refine lv_istore_n (lv' := [(1, .int (x1 + (1 : Int32))), (5, .int (ml (nI k).toNatClampNeg)), (2, .ref mlq), (3, .int (1000 : Int32)), (4, .int (nI k))]) hx hb dX4_left_37 rfl hl (by decide) rfl (fun ls hl => ?_)
        refine lv_iinc (v := (nI (k + 1))) (lv' := [(4, .int (nI (k + 1))), (1, .int (x1 + (1 : Int32))), (5, .int (ml (nI k).toNatClampNeg)), (2, .ref mlq), (3, .int (1000 : Int32))]) hx hb dX4_left_38 hl (k := 4) rfl (nI_1 k) (by decide) rfl (fun ls hl => ?_)
        refine lv_goto (tgt := 13) hx hb dX4_left_41 (by decide) ?_
        have e9 : (lf_X4_left_13 (n + 1) k ml x1) = (lf_X4_left_13 n (k + 1) ml (x1 + (1 : Int32))) := (lf_X4_left_13_succ n k ml x1).trans ((if_neg c_1).trans ((if_neg c_2).trans (rfl)))
        rw [e9] at kk
        have h9 := zk_lt (N := 1000) (by omega) rfl c_1
        exact IH9 (k + 1) th js mv ma ac po si ta ml mh gu wr mf mr re mo mb ms (x1 + (1 : Int32)) (by omega) (by omega) H locs ls hP hD hS (lv_sub hl [1, 3, 4, 0] rfl) kk
set_option maxHeartbeats 4000000 in
set_option maxRecDepth 100000 in
/-- JarRiddleModel.left()I -/
theorem c_X4_left (l : Launch) (G : zG) (mh0 mvq maq mlq mhq mfq mrq moq mbq msq : Nat) (th : Int32) (js : Int32) (mv : Nat → Int32) (ma : Nat → Int32) (ac : Int32) (po : Int32) (si : Int32) (ta : Int32) (ml : Nat → Int32) (mh : Nat → Int32) (gu : Int32) (wr : Int32) (mf : Nat → Int32) (mr : Nat → Int32) (re : Int32) (mo : Nat → Int32) (mb : Nat → Int32) (ms : Nat → Int32) : zC l G yX4_left wsX4_left rm_X4_left 0 0 [.ref mh0] (w_X4 G mh0 mvq maq mlq mhq mfq mrq moq mbq msq th js mv ma ac po si ta ml mh gu wr mf mr re mo mb ms) (some (.int (f_X4_left ml))) (fun _ : Unit => (w_X4 G mh0 mvq maq mlq mhq mfq mrq moq mbq msq th js mv ma ac po si ta ml mh gu wr mf mr re mo mb ms)) := by
  refine z_of (cc := cX4_left) (maxL := 6) (ret := (some .int)) (own := RX4) (by decide) rfl rfl (Nat.le_of_ble_eq_true rfl) ?_
  intro p e s m args below meth c A H locs ls F hr hlocks hname hK hA hP hD hS hl
  obtain ⟨hx, hb, hml, hown, hts⟩ := id F
  have hl : lv_has ls 6 [(0, .ref mh0)] := hl
  refine lv_iconst (v := (0 : Int32)) hx hb dX4_left_0 (by decide) ?_
  refine lv_istore_n (lv' := [(1, .int (0 : Int32)), (0, .ref mh0)]) hx hb dX4_left_1 rfl hl (by decide) rfl (fun ls hl => ?_)
  refine lv_aload_n hx hb dX4_left_2 rfl (lv_at hl 1 rfl) ?_
  refine va_get (D := G.1) (ci := 4) (v := .ref mlq) (C := RX4) (T := TX4) (N := 18) hx hb hts in_X4_left_X4 hown hK.1 hP 0 rfl rfl 8 (by decide) (hts (.fieldLink RX4 16 "JarRiddleModel" "isLeft" "[Z") (by decide +kernel)) (fun _ h9 => h9) rfl dX4_left_3 ?_
  refine lv_astore_n (lv' := [(2, .ref mlq), (1, .int (0 : Int32)), (0, .ref mh0)]) hx hb dX4_left_6 rfl hl (by decide) rfl (fun ls hl => ?_)
  refine lv_aload_n hx hb dX4_left_7 rfl (lv_at hl 0 rfl) ?_
  refine va_alen (v := (1000 : Int32)) hx hb hK.1 hP 3 1 rfl rfl rfl dX4_left_8 ?_
  refine lv_istore_n (lv' := [(3, .int (1000 : Int32)), (2, .ref mlq), (1, .int (0 : Int32)), (0, .ref mh0)]) hx hb dX4_left_9 rfl hl (by decide) rfl (fun ls hl => ?_)
  refine lv_iconst (v := (0 : Int32)) hx hb dX4_left_10 (by decide) ?_
  refine lv_istore (lv' := [(4, .int (0 : Int32)), (3, .int (1000 : Int32)), (2, .ref mlq), (1, .int (0 : Int32)), (0, .ref mh0)]) hx hb dX4_left_11 hl (by decide) rfl (fun ls hl => ?_)
  refine l_X4_left_13 F hr hlocks hK hA mh0 mvq maq mlq mhq mfq mrq moq mbq msq 1001 0 th js mv ma ac po si ta ml mh gu wr mf mr re mo mb ms (0 : Int32) (by omega) (by omega) H locs ls hP hD hS (lv_sub hl [3, 2, 1, 0] rfl) ?_
  intro H locs ls hP hD hS hl
  have hP : va_P G.1 vwCl (w_X4 G mh0 mvq maq mlq mhq mfq mrq moq mbq msq th js mv ma ac po si ta ml mh gu wr mf mr re mo mb ms) H := hP
  have hD : va_D A (w_X4 G mh0 mvq maq mlq mhq mfq mrq moq mbq msq th js mv ma ac po si ta ml mh gu wr mf mr re mo mb ms) := hD
  have hl : lv_has ls 6 [(1, .int (lf_X4_left_13 1001 0 ml (0 : Int32)))] := hl
  refine lv_iload_n hx hb dX4_left_44 rfl (lv_at hl 0 rfl) ?_
  have e9 : (f_X4_left ml) = (lf_X4_left_13 1001 0 ml (0 : Int32)) := (f_X4_left_eq ml).trans (rfl)
  rw [e9]
  exact z_iret F hr hlocks hP hD hS () [0, 1, 2, 3, 4, 5, 6, 7, 8, 9] rfl rfl rfl dX4_left_45
def f_X4_candidates (th : Int32) (ml : Nat → Int32) : Int32 × Int32 := ((f_X4_ok th (f_X4_left ml)).1, (f_X4_ok th (f_X4_left ml)).2)
theorem f_X4_candidates_eq (th : Int32) (ml : Nat → Int32) : f_X4_candidates th ml = ((f_X4_ok th (f_X4_left ml)).1, (f_X4_ok th (f_X4_left ml)).2) := rfl
abbrev rm_X4_candidates : Room := { frames := 1, cells := 0, slots := 0, locals := 25 }
theorem zd_X4_candidates : yX4_candidates.cls = RX4 ∧ yX4_candidates.cls ≠ "java/lang/invoke/MethodHandle" ∧ yX4_candidates.cls ≠ "java/lang/invoke/VarHandle" ∧ (parseMethodDescriptor yX4_candidates.desc).map (fun d => d.parameters.length) = some 0 := by decide +kernel
set_option maxHeartbeats 4000000 in
set_option maxRecDepth 100000 in
/-- JarRiddleModel.candidates()I -/
theorem c_X4_candidates (l : Launch) (G : zG) (mh0 mvq maq mlq mhq mfq mrq moq mbq msq : Nat) (th : Int32) (js : Int32) (mv : Nat → Int32) (ma : Nat → Int32) (ac : Int32) (po : Int32) (si : Int32) (ta : Int32) (ml : Nat → Int32) (mh : Nat → Int32) (gu : Int32) (wr : Int32) (mf : Nat → Int32) (mr : Nat → Int32) (re : Int32) (mo : Nat → Int32) (mb : Nat → Int32) (ms : Nat → Int32) : zC l G yX4_candidates wsX4_candidates rm_X4_candidates 0 0 [.ref mh0] (w_X4 G mh0 mvq maq mlq mhq mfq mrq moq mbq msq th js mv ma ac po si ta ml mh gu wr mf mr re mo mb ms) (some (.int (f_X4_candidates th ml).1)) (fun _ : Unit => (w_X4 G mh0 mvq maq mlq mhq mfq mrq moq mbq msq ((f_X4_candidates th ml).2) js mv ma ac po si ta ml mh gu wr mf mr re mo mb ms)) := by
  refine z_of (cc := cX4_candidates) (maxL := 1) (ret := (some .int)) (own := RX4) (by decide) rfl rfl (Nat.le_of_ble_eq_true rfl) ?_
  intro p e s m args below meth c A H locs ls F hr hlocks hname hK hA hP hD hS hl
  obtain ⟨hx, hb, hml, hown, hts⟩ := id F
  have hl : lv_has ls 1 [(0, .ref mh0)] := hl
  refine lv_aload_n hx hb dX4_candidates_0 rfl (lv_at hl 0 rfl) ?_
  refine lv_aload_n hx hb dX4_candidates_1 rfl (lv_at hl 0 rfl) ?_
  refine z_callV (As := []) (rest := [.ref mh0]) (wr := ([] : va_W)) (w1 := fun _ : Unit => (w_X4 G mh0 mvq maq mlq mhq mfq mrq moq mbq msq th js mv ma ac po si ta ml mh gu wr mf mr re mo mb ms)) (wj := fun _ : Unit => (w_X4 G mh0 mvq maq mlq mhq mfq mrq moq mbq msq th js mv ma ac po si ta ml mh gu wr mf mr re mo mb ms)) (ci := 4) (q0 := 0) F (c_X4_left l G mh0 mvq maq mlq mhq mfq mrq moq mbq msq th js mv ma ac po si ta ml mh gu wr mf mr re mo mb ms) gX4_candidates_X4_left rfl rfl rfl zd_X4_left ⟨Nat.le_of_ble_eq_true rfl, Nat.le_of_ble_eq_true rfl⟩ rfl rfl (Nat.le_of_ble_eq_true rfl) dX4_candidates_2 ⟨Nat.le_of_ble_eq_true rfl, Nat.le_of_ble_eq_true rfl⟩ hK hP hD hS hA hl.1 rfl rfl [0, 1, 2, 3, 4, 5, 6, 7, 8, 9] [] [0, 1, 2, 3, 4, 5, 6, 7, 8, 9] rfl rfl rfl rfl (by decide) rfl (fun _ => rfl) (fun _ H locs hP hD hS => ?_)
  have hP : va_P G.1 vwCl (w_X4 G mh0 mvq maq mlq mhq mfq mrq moq mbq msq th js mv ma ac po si ta ml mh gu wr mf mr re mo mb ms) H := hP
  have hD : va_D A (w_X4 G mh0 mvq maq mlq mhq mfq mrq moq mbq msq th js mv ma ac po si ta ml mh gu wr mf mr re mo mb ms) := hD
  refine z_callV (As := [.int (f_X4_left ml)]) (rest := []) (wr := ([] : va_W)) (w1 := fun _ : Unit => (w_X4 G mh0 mvq maq mlq mhq mfq mrq moq mbq msq ((f_X4_ok th (f_X4_left ml)).2) js mv ma ac po si ta ml mh gu wr mf mr re mo mb ms)) (wj := fun _ : Unit => (w_X4 G mh0 mvq maq mlq mhq mfq mrq moq mbq msq (f_X4_ok th (f_X4_left ml)).2 js mv ma ac po si ta ml mh gu wr mf mr re mo mb ms)) (ci := 4) (q0 := 0) F (c_X4_ok l G mh0 mvq maq mlq mhq mfq mrq moq mbq msq th js mv ma ac po si ta ml mh gu wr mf mr re mo mb ms (f_X4_left ml)) gX4_candidates_X4_ok rfl rfl rfl zd_X4_ok ⟨Nat.le_of_ble_eq_true rfl, Nat.le_of_ble_eq_true rfl⟩ rfl rfl (Nat.le_of_ble_eq_true rfl) dX4_candidates_5 ⟨Nat.le_of_ble_eq_true rfl, Nat.le_of_ble_eq_true rfl⟩ hK hP hD hS hA hl.1 rfl rfl [0, 1, 2, 3, 4, 5, 6, 7, 8, 9] [] [0, 1, 2, 3, 4, 5, 6, 7, 8, 9] rfl rfl rfl rfl (by decide) rfl (fun _ => rfl) (fun _ H locs hP hD hS => ?_)
  have hP : va_P G.1 vwCl (w_X4 G mh0 mvq maq mlq mhq mfq mrq moq mbq msq (f_X4_ok th (f_X4_left ml)).2 js mv ma ac po si ta ml mh gu wr mf mr re mo mb ms) H := hP
  have hD : va_D A (w_X4 G mh0 mvq maq mlq mhq mfq mrq moq mbq msq (f_X4_ok th (f_X4_left ml)).2 js mv ma ac po si ta ml mh gu wr mf mr re mo mb ms) := hD
  have e9 : (f_X4_candidates th ml) = ((f_X4_ok th (f_X4_left ml)).1, (f_X4_ok th (f_X4_left ml)).2) := (f_X4_candidates_eq th ml).trans (rfl)
  rw [e9]
  dsimp only
  exact z_iret F hr hlocks hP hD hS () [0, 1, 2, 3, 4, 5, 6, 7, 8, 9] rfl rfl rfl dX4_candidates_8
def lf_X4_may_2 : Nat → Nat → (Nat → Int32) → Int32 → Int32 → Int32
  | 0, k, ml, x1, x2 => 0
  | n + 1, k, ml, x1, x2 => (if (1000 : Int32) ≤ (nI k) then (0 : Int32) else (if (ml (nI k).toNatClampNeg) = (0 : Int32) then (lf_X4_may_2 n (k + 1) ml x1 x2) else (if (f_X4_figure (nI k) x1) = x2 then (1 : Int32) else (lf_X4_may_2 n (k + 1) ml x1 x2))))
theorem lf_X4_may_2_succ (n k : Nat) (ml : Nat → Int32) (x1 : Int32) (x2 : Int32) : lf_X4_may_2 (n + 1) k ml x1 x2 = (if (1000 : Int32) ≤ (nI k) then (0 : Int32) else (if (ml (nI k).toNatClampNeg) = (0 : Int32) then (lf_X4_may_2 n (k + 1) ml x1 x2) else (if (f_X4_figure (nI k) x1) = x2 then (1 : Int32) else (lf_X4_may_2 n (k + 1) ml x1 x2)))) := rfl
theorem bf_X4_may_2 : ∀ (n k : Nat) (ml : Nat → Int32) (x1 : Int32) (x2 : Int32), zb (lf_X4_may_2 n k ml x1 x2) := by
  intro n
  induction n with
  | zero => intros; exact Or.inl rfl
  | succ n ih =>
    intro k ml x1 x2
    rw [lf_X4_may_2_succ]
    repeat' split
    all_goals first | exact Or.inl rfl | exact Or.inr rfl | exact ih ..
def f_X4_may (ml : Nat → Int32) (p1 : Int32) (p2 : Int32) : Int32 := (lf_X4_may_2 1001 0 ml p1 p2)
theorem f_X4_may_eq (ml : Nat → Int32) (p1 : Int32) (p2 : Int32) : f_X4_may ml p1 p2 = (lf_X4_may_2 1001 0 ml p1 p2) := rfl
theorem b_X4_may (ml : Nat → Int32) (p1 : Int32) (p2 : Int32) : zb (f_X4_may ml p1 p2) := by
  unfold f_X4_may
  repeat' split
  all_goals first | exact Or.inl rfl | exact Or.inr rfl | exact bf_X4_may_2 ..
abbrev rm_X4_may : Room := { frames := 1, cells := 0, slots := 0, locals := 21 }
theorem zd_X4_may : yX4_may.cls = RX4 ∧ yX4_may.cls ≠ "java/lang/invoke/MethodHandle" ∧ yX4_may.cls ≠ "java/lang/invoke/VarHandle" ∧ (parseMethodDescriptor yX4_may.desc).map (fun d => d.parameters.length) = some 2 := by decide +kernel
theorem in_X4_may_X4 : ∀ w ∈ u_ws RX4 TX4 18, w ∈ wsX4_may := by decide +kernel
set_option maxHeartbeats 4000000 in
set_option maxRecDepth 100000 in
theorem l_X4_may_2 {p : Program} {l : Launch} {e : Env} {s : State} {m : MethodId} {args : Array Value} {below : List Frame} {meth : Method} {c : Code} {A : Nat → Prop} {G : zG} (F : CallFix p m c cX4_may 4 s args wsX4_may RX4) (hr : meth.sig.returnType = (some .boolean)) (hlocks : meth.locks = false) (hK : zK G s) (hA : ∀ q : Nat, s.heap.size ≤ q → A q) (mh0 mvq maq mlq mhq mfq mrq moq mbq msq : Nat) :
    ∀ (n k : Nat) (th : Int32) (js : Int32) (mv : Nat → Int32) (ma : Nat → Int32) (ac : Int32) (po : Int32) (si : Int32) (ta : Int32) (ml : Nat → Int32) (mh : Nat → Int32) (gu : Int32) (wr : Int32) (mf : Nat → Int32) (mr : Nat → Int32) (re : Int32) (mo : Nat → Int32) (mb : Nat → Int32) (ms : Nat → Int32) (x1 : Int32) (x2 : Int32), k + n = 1000 + 1 → k ≤ 1000 → ∀ (H : Heap) (locs : List Loc) (ls : Array Slot), va_P G.1 vwCl (w_X4 G mh0 mvq maq mlq mhq mfq mrq moq mbq msq th js mv ma ac po si ta ml mh gu wr mf mr re mo mb ms) H → va_D A (w_X4 G mh0 mvq maq mlq mhq mfq mrq moq mbq msq th js mv ma ac po si ta ml mh gu wr mf mr re mo mb ms) → va_S A s.heap H locs → lv_has ls 4 [(0, .ref mh0), (1, .int x1), (2, .int x2), (3, .int (nI k))] → W p l e rm_X4_may s m args below meth c H locs 0 0 (MQ below (zQ G (some (.int (lf_X4_may_2 n k ml x1 x2))) (fun _ : Unit => (w_X4 G mh0 mvq maq mlq mhq mfq mrq moq mbq msq th js mv ma ac po si ta ml mh gu wr mf mr re mo mb ms)) A) args s 0 0 A) (F0 m 2 ls []) := by
  obtain ⟨hx, hb, hml, hown, hts⟩ := id F
  intro n
  induction n with
  | zero => intro k th js mv ma ac po si ta ml mh gu wr mf mr re mo mb ms x1 x2 h1 h2; omega
  | succ n IH9 =>
    intro k th js mv ma ac po si ta ml mh gu wr mf mr re mo mb ms x1 x2 hkn hkN H locs ls hP hD hS hl
    refine lv_iload_n hx hb dX4_may_2 rfl (lv_at hl 3 rfl) ?_
    refine lv_sipush (v := (1000 : Int32)) hx hb dX4_may_3 (by decide) ?_
    refine lv_icmp_ge (tgt := 35) hx hb dX4_may_6 (by decide) (fun (c_1 : (1000 : Int32) ≤ (nI k)) => ?_) (fun (c_1 : ¬ (1000 : Int32) ≤ (nI k)) => ?_)
    · refine lv_iconst (v := (0 : Int32)) hx hb dX4_may_35 (by decide) ?_
      have e9 : (lf_X4_may_2 (n + 1) k ml x1 x2) = (0 : Int32) := (lf_X4_may_2_succ n k ml x1 x2).trans ((if_pos c_1).trans (rfl))
      rw [e9]
      exact z_zret F hr hlocks hP hD hS () [0, 1, 2, 3, 4, 5, 6, 7, 8, 9] rfl rfl rfl rfl dX4_may_36
    · refine lv_aload_n hx hb dX4_may_9 rfl (lv_at hl 0 rfl) ?_
      refine va_get (D := G.1) (ci := 4) (v := .ref mlq) (C := RX4) (T := TX4) (N := 18) hx hb hts in_X4_may_X4 hown hK.1 hP 0 rfl rfl 8 (by decide) (hts (.fieldLink RX4 16 "JarRiddleModel" "isLeft" "[Z") (by decide +kernel)) (fun _ h9 => h9) rfl dX4_may_10 ?_
      refine lv_iload_n hx hb dX4_may_13 rfl (lv_at hl 3 rfl) ?_
      refine va_zald hx hb hK.1 hP 3 1 rfl rfl (vp_in_nI (Nat.lt_of_lt_of_le (zk_lt (N := 1000) (by omega) rfl c_1) (by decide)) (by decide) : vp_in (nI k) 1000) dX4_may_14 ?_
      refine lv_if_eq (tgt := 29) hx hb dX4_may_15 (by decide) (fun (c_2 : (ml (nI k).toNatClampNeg) = (0 : Int32)) => ?_) (fun (c_2 : ¬ (ml (nI k).toNatClampNeg) = (0 : Int32)) => ?_)
      · refine lv_iinc (v := (nI (k + 1))) (lv' := [(3, .int (nI (k + 1))), (0, .ref mh0), (1, .int x1), (2, .int x2)]) hx hb dX4_may_29 hl (k := 3) rfl (nI_1 k) (by decide) rfl (fun ls hl => ?_)
        refine lv_goto (tgt := 2) hx hb dX4_may_32 (by decide) ?_
        have e9 : (lf_X4_may_2 (n + 1) k ml x1 x2) = (lf_X4_may_2 n (k + 1) ml x1 x2) := (lf_X4_may_2_succ n k ml x1 x2).trans ((if_neg c_1).trans ((if_pos c_2).trans (rfl)))
        rw [e9]
        have h9 := zk_lt (N := 1000) (by omega) rfl c_1
        exact IH9 (k + 1) th js mv ma ac po si ta ml mh gu wr mf mr re mo mb ms x1 x2 (by omega) (by omega) H locs ls hP hD hS (lv_sub hl [1, 2, 3, 0] rfl)
      · refine lv_iload_n hx hb dX4_may_18 rfl (lv_at hl 3 rfl) ?_
        refine lv_iload_n hx hb dX4_may_19 rfl (lv_at hl 1 rfl) ?_
        refine z_callSX (As := [.int (nI k), .int x1]) (rest := []) (wr := ([(mh0, .inr (4, [.int th, .int js, .ref mvq, .ref maq, .int ac, .int po, .int si, .int ta, .ref mlq, .ref mhq, .int gu, .int wr, .ref mfq, .ref mrq, .int re, .ref moq, .ref mbq, .ref msq])), (mvq, .inl (G.2.1, 3, .inl mv)), (maq, .inl (G.2.1, 3, .inl ma)), (mlq, .inl (G.2.2.1, 1000, .inl ml)), (mhq, .inl (G.2.1, 3000, .inl mh)), (mfq, .inl (G.2.1, 1000, .inl mf)), (mrq, .inl (G.2.1, 1000, .inl mr)), (moq, .inl (G.2.1, 3, .inl mo)), (mbq, .inl (G.2.1, 3, .inl mb)), (msq, .inl (G.2.1, 64, .inl ms))] : va_W)) (w1 := fun _ : Unit => ([] : va_W)) (wj := fun _ : Unit => (w_X4 G mh0 mvq maq mlq mhq mfq mrq moq mbq msq th js mv ma ac po si ta ml mh gu wr mf mr re mo mb ms)) F (c_X4_figure l G (nI k) x1) gX4_may_X4_figure rfl rfl rfl zd_X4_figure ⟨Nat.le_of_ble_eq_true rfl, Nat.le_of_ble_eq_true rfl⟩ rfl rfl (Nat.le_of_ble_eq_true rfl) dX4_may_20 ⟨Nat.le_of_ble_eq_true rfl, Nat.le_of_ble_eq_true rfl⟩ hK hP hD hS hA hl.1 [] [0, 1, 2, 3, 4, 5, 6, 7, 8, 9] [0, 1, 2, 3, 4, 5, 6, 7, 8, 9] rfl rfl rfl rfl (by decide) rfl (fun _ => rfl) (fun _ H locs hP hD hS => ?_)
        have hP : va_P G.1 vwCl (w_X4 G mh0 mvq maq mlq mhq mfq mrq moq mbq msq th js mv ma ac po si ta ml mh gu wr mf mr re mo mb ms) H := hP
        have hD : va_D A (w_X4 G mh0 mvq maq mlq mhq mfq mrq moq mbq msq th js mv ma ac po si ta ml mh gu wr mf mr re mo mb ms) := hD
        refine lv_iload_n hx hb dX4_may_23 rfl (lv_at hl 2 rfl) ?_
        refine lv_icmp_ne (tgt := 29) hx hb dX4_may_24 (by decide) (fun (c_3 : ¬ (f_X4_figure (nI k) x1) = x2) => ?_) (fun (c_3 : (f_X4_figure (nI k) x1) = x2) => ?_)
        · refine lv_iinc (v := (nI (k + 1))) (lv' := [(3, .int (nI (k + 1))), (0, .ref mh0), (1, .int x1), (2, .int x2)]) hx hb dX4_may_29 hl (k := 3) rfl (nI_1 k) (by decide) rfl (fun ls hl => ?_)
          refine lv_goto (tgt := 2) hx hb dX4_may_32 (by decide) ?_
          have e9 : (lf_X4_may_2 (n + 1) k ml x1 x2) = (lf_X4_may_2 n (k + 1) ml x1 x2) := (lf_X4_may_2_succ n k ml x1 x2).trans ((if_neg c_1).trans ((if_neg c_2).trans ((if_neg c_3).trans (rfl))))
          rw [e9]
          have h9 := zk_lt (N := 1000) (by omega) rfl c_1
          exact IH9 (k + 1) th js mv ma ac po si ta ml mh gu wr mf mr re mo mb ms x1 x2 (by omega) (by omega) H locs ls hP hD hS (lv_sub hl [1, 2, 3, 0] rfl)
        · refine lv_iconst (v := (1 : Int32)) hx hb dX4_may_27 (by decide) ?_
          have e9 : (lf_X4_may_2 (n + 1) k ml x1 x2) = (1 : Int32) := (lf_X4_may_2_succ n k ml x1 x2).trans ((if_neg c_1).trans ((if_neg c_2).trans ((if_pos c_3).trans (rfl))))
          rw [e9]
          exact z_zret F hr hlocks hP hD hS () [0, 1, 2, 3, 4, 5, 6, 7, 8, 9] rfl rfl rfl rfl dX4_may_28
set_option maxHeartbeats 4000000 in
set_option maxRecDepth 100000 in
/-- JarRiddleModel.may(II)Z -/
theorem c_X4_may (l : Launch) (G : zG) (mh0 mvq maq mlq mhq mfq mrq moq mbq msq : Nat) (th : Int32) (js : Int32) (mv : Nat → Int32) (ma : Nat → Int32) (ac : Int32) (po : Int32) (si : Int32) (ta : Int32) (ml : Nat → Int32) (mh : Nat → Int32) (gu : Int32) (wr : Int32) (mf : Nat → Int32) (mr : Nat → Int32) (re : Int32) (mo : Nat → Int32) (mb : Nat → Int32) (ms : Nat → Int32) (p1 : Int32) (p2 : Int32) : zC l G yX4_may wsX4_may rm_X4_may 0 0 [.ref mh0, .int p1, .int p2] (w_X4 G mh0 mvq maq mlq mhq mfq mrq moq mbq msq th js mv ma ac po si ta ml mh gu wr mf mr re mo mb ms) (some (.int (f_X4_may ml p1 p2))) (fun _ : Unit => (w_X4 G mh0 mvq maq mlq mhq mfq mrq moq mbq msq th js mv ma ac po si ta ml mh gu wr mf mr re mo mb ms)) := by
  refine z_of (cc := cX4_may) (maxL := 4) (ret := (some .boolean)) (own := RX4) (by decide) rfl rfl (Nat.le_of_ble_eq_true rfl) ?_
  intro p e s m args below meth c A H locs ls F hr hlocks hname hK hA hP hD hS hl
  obtain ⟨hx, hb, hml, hown, hts⟩ := id F
  have hl : lv_has ls 4 [(0, .ref mh0), (1, .int p1), (2, .int p2)] := hl
  refine lv_iconst (v := (0 : Int32)) hx hb dX4_may_0 (by decide) ?_
  refine lv_istore_n (lv' := [(3, .int (0 : Int32)), (0, .ref mh0), (1, .int p1), (2, .int p2)]) hx hb dX4_may_1 rfl hl (by decide) rfl (fun ls hl => ?_)
  have e9 : (f_X4_may ml p1 p2) = (lf_X4_may_2 1001 0 ml p1 p2) := (f_X4_may_eq ml p1 p2).trans (rfl)
  rw [e9]
  exact l_X4_may_2 F hr hlocks hK hA mh0 mvq maq mlq mhq mfq mrq moq mbq msq 1001 0 th js mv ma ac po si ta ml mh gu wr mf mr re mo mb ms p1 p2 (by omega) (by omega) H locs ls hP hD hS (lv_sub hl [1, 2, 3, 0] rfl)
def f_X4_mayBe (th : Int32) (js : Int32) (ml : Nat → Int32) (p1 : Int32) (p2 : Int32) : Int32 × Int32 := (if (f_X4_isJar js p1) = (0 : Int32) then ((f_X4_isNot (0 : Int32) (1 : Int32)).1, (f_X4_isNot (0 : Int32) (1 : Int32)).2) else (if (f_X4_isVolume p2) = (0 : Int32) then ((f_X4_isNot (0 : Int32) (2 : Int32)).1, (f_X4_isNot (0 : Int32) (2 : Int32)).2) else ((f_X4_may ml p1 p2), (0 : Int32))))
theorem f_X4_mayBe_eq (th : Int32) (js : Int32) (ml : Nat → Int32) (p1 : Int32) (p2 : Int32) : f_X4_mayBe th js ml p1 p2 = (if (f_X4_isJar js p1) = (0 : Int32) then ((f_X4_isNot (0 : Int32) (1 : Int32)).1, (f_X4_isNot (0 : Int32) (1 : Int32)).2) else (if (f_X4_isVolume p2) = (0 : Int32) then ((f_X4_isNot (0 : Int32) (2 : Int32)).1, (f_X4_isNot (0 : Int32) (2 : Int32)).2) else ((f_X4_may ml p1 p2), (0 : Int32)))) := rfl
theorem b_X4_mayBe (th : Int32) (js : Int32) (ml : Nat → Int32) (p1 : Int32) (p2 : Int32) : zb (f_X4_mayBe th js ml p1 p2).1 := by
  unfold f_X4_mayBe
  repeat' split
  all_goals first | exact Or.inl rfl | exact Or.inr rfl | exact b_X4_isJar .. | exact b_X4_isNot .. | exact b_X4_isVolume .. | exact b_X4_may ..
abbrev rm_X4_mayBe : Room := { frames := 2, cells := 0, slots := 0, locals := 44 }
theorem zd_X4_mayBe : yX4_mayBe.cls = RX4 ∧ yX4_mayBe.cls ≠ "java/lang/invoke/MethodHandle" ∧ yX4_mayBe.cls ≠ "java/lang/invoke/VarHandle" ∧ (parseMethodDescriptor yX4_mayBe.desc).map (fun d => d.parameters.length) = some 2 := by decide +kernel
theorem in_X4_mayBe_X4 : ∀ w ∈ u_ws RX4 TX4 18, w ∈ wsX4_mayBe := by decide +kernel
set_option maxHeartbeats 4000000 in
set_option maxRecDepth 100000 in
/-- JarRiddleModel.mayBe(II)Z -/
theorem c_X4_mayBe (l : Launch) (G : zG) (mh0 mvq maq mlq mhq mfq mrq moq mbq msq : Nat) (th : Int32) (js : Int32) (mv : Nat → Int32) (ma : Nat → Int32) (ac : Int32) (po : Int32) (si : Int32) (ta : Int32) (ml : Nat → Int32) (mh : Nat → Int32) (gu : Int32) (wr : Int32) (mf : Nat → Int32) (mr : Nat → Int32) (re : Int32) (mo : Nat → Int32) (mb : Nat → Int32) (ms : Nat → Int32) (p1 : Int32) (p2 : Int32) : zC l G yX4_mayBe wsX4_mayBe rm_X4_mayBe 0 0 [.ref mh0, .int p1, .int p2] (w_X4 G mh0 mvq maq mlq mhq mfq mrq moq mbq msq th js mv ma ac po si ta ml mh gu wr mf mr re mo mb ms) (some (.int (f_X4_mayBe th js ml p1 p2).1)) (fun _ : Unit => (w_X4 G mh0 mvq maq mlq mhq mfq mrq moq mbq msq ((f_X4_mayBe th js ml p1 p2).2) js mv ma ac po si ta ml mh gu wr mf mr re mo mb ms)) := by
  refine z_of (cc := cX4_mayBe) (maxL := 3) (ret := (some .boolean)) (own := RX4) (by decide) rfl rfl (Nat.le_of_ble_eq_true rfl) ?_
  intro p e s m args below meth c A H locs ls F hr hlocks hname hK hA hP hD hS hl
  obtain ⟨hx, hb, hml, hown, hts⟩ := id F
  have hl : lv_has ls 3 [(0, .ref mh0), (1, .int p1), (2, .int p2)] := hl
  refine lv_aload_n hx hb dX4_mayBe_0 rfl (lv_at hl 0 rfl) ?_
  refine lv_iconst (v := (0 : Int32)) hx hb dX4_mayBe_1 (by decide) ?_
  refine va_put (D := G.1) (ci := 4) (v := .int (0 : Int32)) (ty := .int) (C := RX4) (T := TX4) (N := 18) hx hb hts in_X4_mayBe_X4 tyX4 tyX4_ok nmX4 hown hK.1 hP hD hS 0 rfl rfl 0 (by decide) (hts (.fieldLink RX4 42 "JarRiddleModel" "thrown" "I") (by decide +kernel)) (fun _ h9 => h9) rfl (by decide +kernel) rfl rfl (Nat.le_of_ble_eq_true rfl) dX4_mayBe_2 (fun H locs hP hD hS => ?_)
  have hP : va_P G.1 vwCl (w_X4 G mh0 mvq maq mlq mhq mfq mrq moq mbq msq (0 : Int32) js mv ma ac po si ta ml mh gu wr mf mr re mo mb ms) H := hP
  have hD : va_D A (w_X4 G mh0 mvq maq mlq mhq mfq mrq moq mbq msq (0 : Int32) js mv ma ac po si ta ml mh gu wr mf mr re mo mb ms) := hD
  refine lv_aload_n hx hb dX4_mayBe_5 rfl (lv_at hl 0 rfl) ?_
  refine lv_iload_n hx hb dX4_mayBe_6 rfl (lv_at hl 1 rfl) ?_
  refine z_callV (As := [.int p1]) (rest := []) (wr := ([] : va_W)) (w1 := fun _ : Unit => (w_X4 G mh0 mvq maq mlq mhq mfq mrq moq mbq msq (0 : Int32) js mv ma ac po si ta ml mh gu wr mf mr re mo mb ms)) (wj := fun _ : Unit => (w_X4 G mh0 mvq maq mlq mhq mfq mrq moq mbq msq (0 : Int32) js mv ma ac po si ta ml mh gu wr mf mr re mo mb ms)) (ci := 4) (q0 := 0) F (c_X4_isJar l G mh0 mvq maq mlq mhq mfq mrq moq mbq msq (0 : Int32) js mv ma ac po si ta ml mh gu wr mf mr re mo mb ms p1) gX4_mayBe_X4_isJar rfl rfl rfl zd_X4_isJar ⟨Nat.le_of_ble_eq_true rfl, Nat.le_of_ble_eq_true rfl⟩ rfl rfl (Nat.le_of_ble_eq_true rfl) dX4_mayBe_7 ⟨Nat.le_of_ble_eq_true rfl, Nat.le_of_ble_eq_true rfl⟩ hK hP hD hS hA hl.1 rfl rfl [0, 1, 2, 3, 4, 5, 6, 7, 8, 9] [] [0, 1, 2, 3, 4, 5, 6, 7, 8, 9] rfl rfl rfl rfl (by decide) rfl (fun _ => rfl) (fun _ H locs hP hD hS => ?_)
  have hP : va_P G.1 vwCl (w_X4 G mh0 mvq maq mlq mhq mfq mrq moq mbq msq (0 : Int32) js mv ma ac po si ta ml mh gu wr mf mr re mo mb ms) H := hP
  have hD : va_D A (w_X4 G mh0 mvq maq mlq mhq mfq mrq moq mbq msq (0 : Int32) js mv ma ac po si ta ml mh gu wr mf mr re mo mb ms) := hD
  refine lv_if_ne (tgt := 19) hx hb dX4_mayBe_10 (by decide) (fun (c_1 : ¬ (f_X4_isJar js p1) = (0 : Int32)) => ?_) (fun (c_1 : (f_X4_isJar js p1) = (0 : Int32)) => ?_)
  · refine lv_iload_n hx hb dX4_mayBe_19 rfl (lv_at hl 2 rfl) ?_
    refine z_callSX (As := [.int p2]) (rest := []) (wr := ([(mh0, .inr (4, [.int (0 : Int32), .int js, .ref mvq, .ref maq, .int ac, .int po, .int si, .int ta, .ref mlq, .ref mhq, .int gu, .int wr, .ref mfq, .ref mrq, .int re, .ref moq, .ref mbq, .ref msq])), (mvq, .inl (G.2.1, 3, .inl mv)), (maq, .inl (G.2.1, 3, .inl ma)), (mlq, .inl (G.2.2.1, 1000, .inl ml)), (mhq, .inl (G.2.1, 3000, .inl mh)), (mfq, .inl (G.2.1, 1000, .inl mf)), (mrq, .inl (G.2.1, 1000, .inl mr)), (moq, .inl (G.2.1, 3, .inl mo)), (mbq, .inl (G.2.1, 3, .inl mb)), (msq, .inl (G.2.1, 64, .inl ms))] : va_W)) (w1 := fun _ : Unit => ([] : va_W)) (wj := fun _ : Unit => (w_X4 G mh0 mvq maq mlq mhq mfq mrq moq mbq msq (0 : Int32) js mv ma ac po si ta ml mh gu wr mf mr re mo mb ms)) F (c_X4_isVolume l G p2) gX4_mayBe_X4_isVolume rfl rfl rfl zd_X4_isVolume ⟨Nat.le_of_ble_eq_true rfl, Nat.le_of_ble_eq_true rfl⟩ rfl rfl (Nat.le_of_ble_eq_true rfl) dX4_mayBe_20 ⟨Nat.le_of_ble_eq_true rfl, Nat.le_of_ble_eq_true rfl⟩ hK hP hD hS hA hl.1 [] [0, 1, 2, 3, 4, 5, 6, 7, 8, 9] [0, 1, 2, 3, 4, 5, 6, 7, 8, 9] rfl rfl rfl rfl (by decide) rfl (fun _ => rfl) (fun _ H locs hP hD hS => ?_)
    have hP : va_P G.1 vwCl (w_X4 G mh0 mvq maq mlq mhq mfq mrq moq mbq msq (0 : Int32) js mv ma ac po si ta ml mh gu wr mf mr re mo mb ms) H := hP
    have hD : va_D A (w_X4 G mh0 mvq maq mlq mhq mfq mrq moq mbq msq (0 : Int32) js mv ma ac po si ta ml mh gu wr mf mr re mo mb ms) := hD
    refine lv_if_eq (tgt := 35) hx hb dX4_mayBe_23 (by decide) (fun (c_2 : (f_X4_isVolume p2) = (0 : Int32)) => ?_) (fun (c_2 : ¬ (f_X4_isVolume p2) = (0 : Int32)) => ?_)
    · refine lv_aload_n hx hb dX4_mayBe_35 rfl (lv_at hl 0 rfl) ?_
      refine lv_iconst (v := (2 : Int32)) hx hb dX4_mayBe_36 (by decide) ?_
      refine z_callV (As := [.int (2 : Int32)]) (rest := []) (wr := ([] : va_W)) (w1 := fun _ : Unit => (w_X4 G mh0 mvq maq mlq mhq mfq mrq moq mbq msq ((f_X4_isNot (0 : Int32) (2 : Int32)).2) js mv ma ac po si ta ml mh gu wr mf mr re mo mb ms)) (wj := fun _ : Unit => (w_X4 G mh0 mvq maq mlq mhq mfq mrq moq mbq msq (f_X4_isNot (0 : Int32) (2 : Int32)).2 js mv ma ac po si ta ml mh gu wr mf mr re mo mb ms)) (ci := 4) (q0 := 0) F (c_X4_isNot l G mh0 mvq maq mlq mhq mfq mrq moq mbq msq (0 : Int32) js mv ma ac po si ta ml mh gu wr mf mr re mo mb ms (2 : Int32)) gX4_mayBe_X4_isNot rfl rfl rfl zd_X4_isNot ⟨Nat.le_of_ble_eq_true rfl, Nat.le_of_ble_eq_true rfl⟩ rfl rfl (Nat.le_of_ble_eq_true rfl) dX4_mayBe_37 ⟨Nat.le_of_ble_eq_true rfl, Nat.le_of_ble_eq_true rfl⟩ hK hP hD hS hA hl.1 rfl rfl [0, 1, 2, 3, 4, 5, 6, 7, 8, 9] [] [0, 1, 2, 3, 4, 5, 6, 7, 8, 9] rfl rfl rfl rfl (by decide) rfl (fun _ => rfl) (fun _ H locs hP hD hS => ?_)
      have hP : va_P G.1 vwCl (w_X4 G mh0 mvq maq mlq mhq mfq mrq moq mbq msq (f_X4_isNot (0 : Int32) (2 : Int32)).2 js mv ma ac po si ta ml mh gu wr mf mr re mo mb ms) H := hP
      have hD : va_D A (w_X4 G mh0 mvq maq mlq mhq mfq mrq moq mbq msq (f_X4_isNot (0 : Int32) (2 : Int32)).2 js mv ma ac po si ta ml mh gu wr mf mr re mo mb ms) := hD
      have e9 : (f_X4_mayBe th js ml p1 p2) = ((f_X4_isNot (0 : Int32) (2 : Int32)).1, (f_X4_isNot (0 : Int32) (2 : Int32)).2) := (f_X4_mayBe_eq th js ml p1 p2).trans ((if_neg c_1).trans ((if_pos c_2).trans (rfl)))
      rw [e9]
      dsimp only
      exact z_zret F hr hlocks hP hD hS () [0, 1, 2, 3, 4, 5, 6, 7, 8, 9] rfl rfl rfl (zb_nar (b_X4_isNot (0 : Int32) (2 : Int32))) dX4_mayBe_40
    · refine lv_aload_n hx hb dX4_mayBe_26 rfl (lv_at hl 0 rfl) ?_
      refine lv_iload_n hx hb dX4_mayBe_27 rfl (lv_at hl 1 rfl) ?_
      refine lv_iload_n hx hb dX4_mayBe_28 rfl (lv_at hl 2 rfl) ?_
      refine z_callV (As := [.int p1, .int p2]) (rest := []) (wr := ([] : va_W)) (w1 := fun _ : Unit => (w_X4 G mh0 mvq maq mlq mhq mfq mrq moq mbq msq (0 : Int32) js mv ma ac po si ta ml mh gu wr mf mr re mo mb ms)) (wj := fun _ : Unit => (w_X4 G mh0 mvq maq mlq mhq mfq mrq moq mbq msq (0 : Int32) js mv ma ac po si ta ml mh gu wr mf mr re mo mb ms)) (ci := 4) (q0 := 0) F (c_X4_may l G mh0 mvq maq mlq mhq mfq mrq moq mbq msq (0 : Int32) js mv ma ac po si ta ml mh gu wr mf mr re mo mb ms p1 p2) gX4_mayBe_X4_may rfl rfl rfl zd_X4_may ⟨Nat.le_of_ble_eq_true rfl, Nat.le_of_ble_eq_true rfl⟩ rfl rfl (Nat.le_of_ble_eq_true rfl) dX4_mayBe_29 ⟨Nat.le_of_ble_eq_true rfl, Nat.le_of_ble_eq_true rfl⟩ hK hP hD hS hA hl.1 rfl rfl [0, 1, 2, 3, 4, 5, 6, 7, 8, 9] [] [0, 1, 2, 3, 4, 5, 6, 7, 8, 9] rfl rfl rfl rfl (by decide) rfl (fun _ => rfl) (fun _ H locs hP hD hS => ?_)
      have hP : va_P G.1 vwCl (w_X4 G mh0 mvq maq mlq mhq mfq mrq moq mbq msq (0 : Int32) js mv ma ac po si ta ml mh gu wr mf mr re mo mb ms) H := hP
      have hD : va_D A (w_X4 G mh0 mvq maq mlq mhq mfq mrq moq mbq msq (0 : Int32) js mv ma ac po si ta ml mh gu wr mf mr re mo mb ms) := hD
      refine lv_goto (tgt := 40) hx hb dX4_mayBe_32 (by decide) ?_
      have e9 : (f_X4_mayBe th js ml p1 p2) = ((f_X4_may ml p1 p2), (0 : Int32)) := (f_X4_mayBe_eq th js ml p1 p2).trans ((if_neg c_1).trans ((if_neg c_2).trans (rfl)))
      rw [e9]
      dsimp only
      exact z_zret F hr hlocks hP hD hS () [0, 1, 2, 3, 4, 5, 6, 7, 8, 9] rfl rfl rfl (zb_nar (b_X4_may ml p1 p2)) dX4_mayBe_40
  · refine lv_aload_n hx hb dX4_mayBe_13 rfl (lv_at hl 0 rfl) ?_
    refine lv_iconst (v := (1 : Int32)) hx hb dX4_mayBe_14 (by decide) ?_
    refine z_callV (As := [.int (1 : Int32)]) (rest := []) (wr := ([] : va_W)) (w1 := fun _ : Unit => (w_X4 G mh0 mvq maq mlq mhq mfq mrq moq mbq msq ((f_X4_isNot (0 : Int32) (1 : Int32)).2) js mv ma ac po si ta ml mh gu wr mf mr re mo mb ms)) (wj := fun _ : Unit => (w_X4 G mh0 mvq maq mlq mhq mfq mrq moq mbq msq (f_X4_isNot (0 : Int32) (1 : Int32)).2 js mv ma ac po si ta ml mh gu wr mf mr re mo mb ms)) (ci := 4) (q0 := 0) F (c_X4_isNot l G mh0 mvq maq mlq mhq mfq mrq moq mbq msq (0 : Int32) js mv ma ac po si ta ml mh gu wr mf mr re mo mb ms (1 : Int32)) gX4_mayBe_X4_isNot rfl rfl rfl zd_X4_isNot ⟨Nat.le_of_ble_eq_true rfl, Nat.le_of_ble_eq_true rfl⟩ rfl rfl (Nat.le_of_ble_eq_true rfl) dX4_mayBe_15 ⟨Nat.le_of_ble_eq_true rfl, Nat.le_of_ble_eq_true rfl⟩ hK hP hD hS hA hl.1 rfl rfl [0, 1, 2, 3, 4, 5, 6, 7, 8, 9] [] [0, 1, 2, 3, 4, 5, 6, 7, 8, 9] rfl rfl rfl rfl (by decide) rfl (fun _ => rfl) (fun _ H locs hP hD hS => ?_)
    have hP : va_P G.1 vwCl (w_X4 G mh0 mvq maq mlq mhq mfq mrq moq mbq msq (f_X4_isNot (0 : Int32) (1 : Int32)).2 js mv ma ac po si ta ml mh gu wr mf mr re mo mb ms) H := hP
    have hD : va_D A (w_X4 G mh0 mvq maq mlq mhq mfq mrq moq mbq msq (f_X4_isNot (0 : Int32) (1 : Int32)).2 js mv ma ac po si ta ml mh gu wr mf mr re mo mb ms) := hD
    have e9 : (f_X4_mayBe th js ml p1 p2) = ((f_X4_isNot (0 : Int32) (1 : Int32)).1, (f_X4_isNot (0 : Int32) (1 : Int32)).2) := (f_X4_mayBe_eq th js ml p1 p2).trans ((if_pos c_1).trans (rfl))
    rw [e9]
    dsimp only
    exact z_zret F hr hlocks hP hD hS () [0, 1, 2, 3, 4, 5, 6, 7, 8, 9] rfl rfl rfl (zb_nar (b_X4_isNot (0 : Int32) (1 : Int32))) dX4_mayBe_18
def lf_X4_known_4 : Nat → Nat → (Nat → Int32) → Int32 → Int32 → Int32
  | 0, k, ml, x1, x2 => x2
  | n + 1, k, ml, x1, x2 => (if (9 : Int32) < (nI k) then x2 else (if (f_X4_may ml x1 (nI k)) = (0 : Int32) then (lf_X4_known_4 n (k + 1) ml x1 (x2 + (0 : Int32))) else (lf_X4_known_4 n (k + 1) ml x1 (x2 + (1 : Int32)))))
theorem lf_X4_known_4_succ (n k : Nat) (ml : Nat → Int32) (x1 : Int32) (x2 : Int32) : lf_X4_known_4 (n + 1) k ml x1 x2 = (if (9 : Int32) < (nI k) then x2 else (if (f_X4_may ml x1 (nI k)) = (0 : Int32) then (lf_X4_known_4 n (k + 1) ml x1 (x2 + (0 : Int32))) else (lf_X4_known_4 n (k + 1) ml x1 (x2 + (1 : Int32))))) := rfl
def f_X4_known (ml : Nat → Int32) (p1 : Int32) : Int32 := (if (lf_X4_known_4 10 1 ml p1 (0 : Int32)) = (1 : Int32) then (1 : Int32) else (0 : Int32))
theorem f_X4_known_eq (ml : Nat → Int32) (p1 : Int32) : f_X4_known ml p1 = (if (lf_X4_known_4 10 1 ml p1 (0 : Int32)) = (1 : Int32) then (1 : Int32) else (0 : Int32)) := rfl
theorem b_X4_known (ml : Nat → Int32) (p1 : Int32) : zb (f_X4_known ml p1) := by
  unfold f_X4_known
  repeat' split
  all_goals first | exact Or.inl rfl | exact Or.inr rfl | exact b_X4_may ..
abbrev rm_X4_known : Room := { frames := 2, cells := 0, slots := 0, locals := 44 }
theorem zd_X4_known : yX4_known.cls = RX4 ∧ yX4_known.cls ≠ "java/lang/invoke/MethodHandle" ∧ yX4_known.cls ≠ "java/lang/invoke/VarHandle" ∧ (parseMethodDescriptor yX4_known.desc).map (fun d => d.parameters.length) = some 1 := by decide +kernel
set_option maxHeartbeats 4000000 in
set_option maxRecDepth 100000 in
theorem l_X4_known_4 {p : Program} {l : Launch} {e : Env} {s : State} {m : MethodId} {args : Array Value} {below : List Frame} {meth : Method} {c : Code} {A : Nat → Prop} {Q : State → Prop} {G : zG} (F : CallFix p m c cX4_known 4 s args wsX4_known RX4) (hr : meth.sig.returnType = (some .boolean)) (hlocks : meth.locks = false) (hK : zK G s) (hA : ∀ q : Nat, s.heap.size ≤ q → A q) (mh0 mvq maq mlq mhq mfq mrq moq mbq msq : Nat) :
    ∀ (n k : Nat) (th : Int32) (js : Int32) (mv : Nat → Int32) (ma : Nat → Int32) (ac : Int32) (po : Int32) (si : Int32) (ta : Int32) (ml : Nat → Int32) (mh : Nat → Int32) (gu : Int32) (wr : Int32) (mf : Nat → Int32) (mr : Nat → Int32) (re : Int32) (mo : Nat → Int32) (mb : Nat → Int32) (ms : Nat → Int32) (x1 : Int32) (x2 : Int32), k + n = 10 + 1 → k ≤ 10 → ∀ (H : Heap) (locs : List Loc) (ls : Array Slot), va_P G.1 vwCl (w_X4 G mh0 mvq maq mlq mhq mfq mrq moq mbq msq th js mv ma ac po si ta ml mh gu wr mf mr re mo mb ms) H → va_D A (w_X4 G mh0 mvq maq mlq mhq mfq mrq moq mbq msq th js mv ma ac po si ta ml mh gu wr mf mr re mo mb ms) → va_S A s.heap H locs → lv_has ls 4 [(0, .ref mh0), (1, .int x1), (2, .int x2), (3, .int (nI k))] → (∀ (H : Heap) (locs : List Loc) (ls : Array Slot), va_P G.1 vwCl (w_X4 G mh0 mvq maq mlq mhq mfq mrq moq mbq msq th js mv ma ac po si ta ml mh gu wr mf mr re mo mb ms) H → va_D A (w_X4 G mh0 mvq maq mlq mhq mfq mrq moq mbq msq th js mv ma ac po si ta ml mh gu wr mf mr re mo mb ms) → va_S A s.heap H locs → lv_has ls 4 [(2, .int (lf_X4_known_4 n k ml x1 x2))] → W p l e rm_X4_known s m args below meth c H locs 0 0 Q (F0 m 33 ls [])) → W p l e rm_X4_known s m args below meth c H locs 0 0 Q (F0 m 4 ls []) := by
  obtain ⟨hx, hb, hml, hown, hts⟩ := id F
  intro n
  induction n with
  | zero => intro k th js mv ma ac po si ta ml mh gu wr mf mr re mo mb ms x1 x2 h1 h2; omega
  | succ n IH9 =>
    intro k th js mv ma ac po si ta ml mh gu wr mf mr re mo mb ms x1 x2 hkn hkN H locs ls hP hD hS hl kk
    refine lv_iload_n hx hb dX4_known_4 rfl (lv_at hl 3 rfl) ?_
    refine lv_bipush (v := (9 : Int32)) hx hb dX4_known_5 (by decide) ?_
    refine lv_icmp_gt (tgt := 33) hx hb dX4_known_7 (by decide) (fun (c_1 : (9 : Int32) < (nI k)) => ?_) (fun (c_1 : ¬ (9 : Int32) < (nI k)) => ?_)
    · have e9 : (lf_X4_known_4 (n + 1) k ml x1 x2) = x2 := (lf_X4_known_4_succ n k ml x1 x2).trans ((if_pos c_1).trans (rfl))
      rw [e9] at kk
      exact kk H locs ls hP hD hS (lv_sub hl [2] rfl)
    · refine lv_iload_n hx hb dX4_known_10 rfl (lv_at hl 2 rfl) ?_
      refine lv_aload_n hx hb dX4_known_11 rfl (lv_at hl 0 rfl) ?_
      refine lv_iload_n hx hb dX4_known_12 rfl (lv_at hl 1 rfl) ?_
      refine lv_iload_n hx hb dX4_known_13 rfl (lv_at hl 3 rfl) ?_
      refine z_callV (As := [.int x1, .int (nI k)]) (rest := [.int x2]) (wr := ([] : va_W)) (w1 := fun _ : Unit => (w_X4 G mh0 mvq maq mlq mhq mfq mrq moq mbq msq th js mv ma ac po si ta ml mh gu wr mf mr re mo mb ms)) (wj := fun _ : Unit => (w_X4 G mh0 mvq maq mlq mhq mfq mrq moq mbq msq th js mv ma ac po si ta ml mh gu wr mf mr re mo mb ms)) (ci := 4) (q0 := 0) F (c_X4_may l G mh0 mvq maq mlq mhq mfq mrq moq mbq msq th js mv ma ac po si ta ml mh gu wr mf mr re mo mb ms x1 (nI k)) gX4_known_X4_may rfl rfl rfl zd_X4_may ⟨Nat.le_of_ble_eq_true rfl, Nat.le_of_ble_eq_true rfl⟩ rfl rfl (Nat.le_of_ble_eq_true rfl) dX4_known_14 ⟨Nat.le_of_ble_eq_true rfl, Nat.le_of_ble_eq_true rfl⟩ hK hP hD hS hA hl.1 rfl rfl [0, 1, 2, 3, 4, 5, 6, 7, 8, 9] [] [0, 1, 2, 3, 4, 5, 6, 7, 8, 9] rfl rfl rfl rfl (by decide) rfl (fun _ => rfl) (fun _ H locs hP hD hS => ?_)
      have hP : va_P G.1 vwCl (w_X4 G mh0 mvq maq mlq mhq mfq mrq moq mbq msq th js mv ma ac po si ta ml mh gu wr mf mr re mo mb ms) H := hP
      have hD : va_D A (w_X4 G mh0 mvq maq mlq mhq mfq mrq moq mbq msq th js mv ma ac po si ta ml mh gu wr mf mr re mo mb ms) := hD
      refine lv_if_eq (tgt := 24) hx hb dX4_known_17 (by decide) (fun (c_2 : (f_X4_may ml x1 (nI k)) = (0 : Int32)) => ?_) (fun (c_2 : ¬ (f_X4_may ml x1 (nI k)) = (0 : Int32)) => ?_)
      · refine lv_iconst (v := (0 : Int32)) hx hb dX4_known_24 (by decide) ?_
        refine lv_iadd hx hb dX4_known_25 ?_
        refine lv_istore_n (lv' := [(2, .int (x2 + (0 : Int32))), (0, .ref mh0), (1, .int x1), (3, .int (nI k))]) hx hb dX4_known_26 rfl hl (by decide) rfl (fun ls hl => ?_)
        refine lv_iinc (v := (nI (k + 1))) (lv' := [(3, .int (nI (k + 1))), (2, .int (x2 + (0 : Int32))), (0, .ref mh0), (1, .int x1)]) hx hb dX4_known_27 hl (k := 3) rfl (nI_1 k) (by decide) rfl (fun ls hl => ?_)
        refine lv_goto (tgt := 4) hx hb dX4_known_30 (by decide) ?_
        have e9 : (lf_X4_known_4 (n + 1) k ml x1 x2) = (lf_X4_known_4 n (k + 1) ml x1 (x2 + (0 : Int32))) := (lf_X4_known_4_succ n k ml x1 x2).trans ((if_neg c_1).trans ((if_pos c_2).trans (rfl)))
        rw [e9] at kk
        have h9 := zk_le (N := 9) (by omega) rfl c_1 (by decide)
        exact IH9 (k + 1) th js mv ma ac po si ta ml mh gu wr mf mr re mo mb ms x1 (x2 + (0 : Int32)) (by omega) (by omega) H locs ls hP hD hS (lv_sub hl [2, 3, 1, 0] rfl) kk
      · refine lv_iconst (v := (1 : Int32)) hx hb dX4_known_20 (by decide) ?_
        refine lv_goto (tgt := 25) hx hb dX4_known_21 (by decide) ?_
        refine lv_iadd hx hb dX4_known_25 ?_
        refine lv_istore_n (lv' := [(2, .int (x2 + (1 : Int32))), (0, .ref mh0), (1, .int x1), (3, .int (nI k))]) hx hb dX4_known_26 rfl hl (by decide) rfl (fun ls hl => ?_)
        refine lv_iinc (v := (nI (k + 1))) (lv' := [(3, .int (nI (k + 1))), (2, .int (x2 + (1 : Int32))), (0, .ref mh0), (1, .int x1)]) hx hb dX4_known_27 hl (k := 3) rfl (nI_1 k) (by decide) rfl (fun ls hl => ?_)
        refine lv_goto (tgt := 4) hx hb dX4_known_30 (by decide) ?_
        have e9 : (lf_X4_known_4 (n + 1) k ml x1 x2) = (lf_X4_known_4 n (k + 1) ml x1 (x2 + (1 : Int32))) := (lf_X4_known_4_succ n k ml x1 x2).trans ((if_neg c_1).trans ((if_neg c_2).trans (rfl)))
        rw [e9] at kk
        have h9 := zk_le (N := 9) (by omega) rfl c_1 (by decide)
        exact IH9 (k + 1) th js mv ma ac po si ta ml mh gu wr mf mr re mo mb ms x1 (x2 + (1 : Int32)) (by omega) (by omega) H locs ls hP hD hS (lv_sub hl [2, 3, 1, 0] rfl) kk
set_option maxHeartbeats 4000000 in
set_option maxRecDepth 100000 in
/-- JarRiddleModel.known(I)Z -/
theorem c_X4_known (l : Launch) (G : zG) (mh0 mvq maq mlq mhq mfq mrq moq mbq msq : Nat) (th : Int32) (js : Int32) (mv : Nat → Int32) (ma : Nat → Int32) (ac : Int32) (po : Int32) (si : Int32) (ta : Int32) (ml : Nat → Int32) (mh : Nat → Int32) (gu : Int32) (wr : Int32) (mf : Nat → Int32) (mr : Nat → Int32) (re : Int32) (mo : Nat → Int32) (mb : Nat → Int32) (ms : Nat → Int32) (p1 : Int32) : zC l G yX4_known wsX4_known rm_X4_known 0 0 [.ref mh0, .int p1] (w_X4 G mh0 mvq maq mlq mhq mfq mrq moq mbq msq th js mv ma ac po si ta ml mh gu wr mf mr re mo mb ms) (some (.int (f_X4_known ml p1))) (fun _ : Unit => (w_X4 G mh0 mvq maq mlq mhq mfq mrq moq mbq msq th js mv ma ac po si ta ml mh gu wr mf mr re mo mb ms)) := by
  refine z_of (cc := cX4_known) (maxL := 4) (ret := (some .boolean)) (own := RX4) (by decide) rfl rfl (Nat.le_of_ble_eq_true rfl) ?_
  intro p e s m args below meth c A H locs ls F hr hlocks hname hK hA hP hD hS hl
  obtain ⟨hx, hb, hml, hown, hts⟩ := id F
  have hl : lv_has ls 4 [(0, .ref mh0), (1, .int p1)] := hl
  refine lv_iconst (v := (0 : Int32)) hx hb dX4_known_0 (by decide) ?_
  refine lv_istore_n (lv' := [(2, .int (0 : Int32)), (0, .ref mh0), (1, .int p1)]) hx hb dX4_known_1 rfl hl (by decide) rfl (fun ls hl => ?_)
  refine lv_iconst (v := (1 : Int32)) hx hb dX4_known_2 (by decide) ?_
  refine lv_istore_n (lv' := [(3, .int (1 : Int32)), (2, .int (0 : Int32)), (0, .ref mh0), (1, .int p1)]) hx hb dX4_known_3 rfl hl (by decide) rfl (fun ls hl => ?_)
  refine l_X4_known_4 F hr hlocks hK hA mh0 mvq maq mlq mhq mfq mrq moq mbq msq 10 1 th js mv ma ac po si ta ml mh gu wr mf mr re mo mb ms p1 (0 : Int32) (by omega) (by omega) H locs ls hP hD hS (lv_sub hl [2, 3, 1, 0] rfl) ?_
  intro H locs ls hP hD hS hl
  have hP : va_P G.1 vwCl (w_X4 G mh0 mvq maq mlq mhq mfq mrq moq mbq msq th js mv ma ac po si ta ml mh gu wr mf mr re mo mb ms) H := hP
  have hD : va_D A (w_X4 G mh0 mvq maq mlq mhq mfq mrq moq mbq msq th js mv ma ac po si ta ml mh gu wr mf mr re mo mb ms) := hD
  have hl : lv_has ls 4 [(2, .int (lf_X4_known_4 10 1 ml p1 (0 : Int32)))] := hl
  refine lv_iload_n hx hb dX4_known_33 rfl (lv_at hl 0 rfl) ?_
  refine lv_iconst (v := (1 : Int32)) hx hb dX4_known_34 (by decide) ?_
  refine lv_icmp_ne (tgt := 42) hx hb dX4_known_35 (by decide) (fun (c_3 : ¬ (lf_X4_known_4 10 1 ml p1 (0 : Int32)) = (1 : Int32)) => ?_) (fun (c_3 : (lf_X4_known_4 10 1 ml p1 (0 : Int32)) = (1 : Int32)) => ?_)
  · refine lv_iconst (v := (0 : Int32)) hx hb dX4_known_42 (by decide) ?_
    have e9 : (f_X4_known ml p1) = (0 : Int32) := (f_X4_known_eq ml p1).trans ((if_neg c_3).trans (rfl))
    rw [e9]
    exact z_zret F hr hlocks hP hD hS () [0, 1, 2, 3, 4, 5, 6, 7, 8, 9] rfl rfl rfl rfl dX4_known_43
  · refine lv_iconst (v := (1 : Int32)) hx hb dX4_known_38 (by decide) ?_
    refine lv_goto (tgt := 43) hx hb dX4_known_39 (by decide) ?_
    have e9 : (f_X4_known ml p1) = (1 : Int32) := (f_X4_known_eq ml p1).trans ((if_pos c_3).trans (rfl))
    rw [e9]
    exact z_zret F hr hlocks hP hD hS () [0, 1, 2, 3, 4, 5, 6, 7, 8, 9] rfl rfl rfl rfl dX4_known_43
def f_X4_isKnown (th : Int32) (js : Int32) (ml : Nat → Int32) (p1 : Int32) : Int32 × Int32 := (if (f_X4_isJar js p1) = (0 : Int32) then ((f_X4_isNot (0 : Int32) (1 : Int32)).1, (f_X4_isNot (0 : Int32) (1 : Int32)).2) else ((f_X4_known ml p1), (0 : Int32)))
theorem f_X4_isKnown_eq (th : Int32) (js : Int32) (ml : Nat → Int32) (p1 : Int32) : f_X4_isKnown th js ml p1 = (if (f_X4_isJar js p1) = (0 : Int32) then ((f_X4_isNot (0 : Int32) (1 : Int32)).1, (f_X4_isNot (0 : Int32) (1 : Int32)).2) else ((f_X4_known ml p1), (0 : Int32))) := rfl
theorem b_X4_isKnown (th : Int32) (js : Int32) (ml : Nat → Int32) (p1 : Int32) : zb (f_X4_isKnown th js ml p1).1 := by
  unfold f_X4_isKnown
  repeat' split
  all_goals first | exact Or.inl rfl | exact Or.inr rfl | exact b_X4_isJar .. | exact b_X4_isNot .. | exact b_X4_known ..
abbrev rm_X4_isKnown : Room := { frames := 3, cells := 0, slots := 0, locals := 67 }
theorem zd_X4_isKnown : yX4_isKnown.cls = RX4 ∧ yX4_isKnown.cls ≠ "java/lang/invoke/MethodHandle" ∧ yX4_isKnown.cls ≠ "java/lang/invoke/VarHandle" ∧ (parseMethodDescriptor yX4_isKnown.desc).map (fun d => d.parameters.length) = some 1 := by decide +kernel
theorem in_X4_isKnown_X4 : ∀ w ∈ u_ws RX4 TX4 18, w ∈ wsX4_isKnown := by decide +kernel
set_option maxHeartbeats 4000000 in
set_option maxRecDepth 100000 in
/-- JarRiddleModel.isKnown(I)Z -/
theorem c_X4_isKnown (l : Launch) (G : zG) (mh0 mvq maq mlq mhq mfq mrq moq mbq msq : Nat) (th : Int32) (js : Int32) (mv : Nat → Int32) (ma : Nat → Int32) (ac : Int32) (po : Int32) (si : Int32) (ta : Int32) (ml : Nat → Int32) (mh : Nat → Int32) (gu : Int32) (wr : Int32) (mf : Nat → Int32) (mr : Nat → Int32) (re : Int32) (mo : Nat → Int32) (mb : Nat → Int32) (ms : Nat → Int32) (p1 : Int32) : zC l G yX4_isKnown wsX4_isKnown rm_X4_isKnown 0 0 [.ref mh0, .int p1] (w_X4 G mh0 mvq maq mlq mhq mfq mrq moq mbq msq th js mv ma ac po si ta ml mh gu wr mf mr re mo mb ms) (some (.int (f_X4_isKnown th js ml p1).1)) (fun _ : Unit => (w_X4 G mh0 mvq maq mlq mhq mfq mrq moq mbq msq ((f_X4_isKnown th js ml p1).2) js mv ma ac po si ta ml mh gu wr mf mr re mo mb ms)) := by
  refine z_of (cc := cX4_isKnown) (maxL := 2) (ret := (some .boolean)) (own := RX4) (by decide) rfl rfl (Nat.le_of_ble_eq_true rfl) ?_
  intro p e s m args below meth c A H locs ls F hr hlocks hname hK hA hP hD hS hl
  obtain ⟨hx, hb, hml, hown, hts⟩ := id F
  have hl : lv_has ls 2 [(0, .ref mh0), (1, .int p1)] := hl
  refine lv_aload_n hx hb dX4_isKnown_0 rfl (lv_at hl 0 rfl) ?_
  refine lv_iconst (v := (0 : Int32)) hx hb dX4_isKnown_1 (by decide) ?_
  refine va_put (D := G.1) (ci := 4) (v := .int (0 : Int32)) (ty := .int) (C := RX4) (T := TX4) (N := 18) hx hb hts in_X4_isKnown_X4 tyX4 tyX4_ok nmX4 hown hK.1 hP hD hS 0 rfl rfl 0 (by decide) (hts (.fieldLink RX4 42 "JarRiddleModel" "thrown" "I") (by decide +kernel)) (fun _ h9 => h9) rfl (by decide +kernel) rfl rfl (Nat.le_of_ble_eq_true rfl) dX4_isKnown_2 (fun H locs hP hD hS => ?_)
  have hP : va_P G.1 vwCl (w_X4 G mh0 mvq maq mlq mhq mfq mrq moq mbq msq (0 : Int32) js mv ma ac po si ta ml mh gu wr mf mr re mo mb ms) H := hP
  have hD : va_D A (w_X4 G mh0 mvq maq mlq mhq mfq mrq moq mbq msq (0 : Int32) js mv ma ac po si ta ml mh gu wr mf mr re mo mb ms) := hD
  refine lv_aload_n hx hb dX4_isKnown_5 rfl (lv_at hl 0 rfl) ?_
  refine lv_iload_n hx hb dX4_isKnown_6 rfl (lv_at hl 1 rfl) ?_
  refine z_callV (As := [.int p1]) (rest := []) (wr := ([] : va_W)) (w1 := fun _ : Unit => (w_X4 G mh0 mvq maq mlq mhq mfq mrq moq mbq msq (0 : Int32) js mv ma ac po si ta ml mh gu wr mf mr re mo mb ms)) (wj := fun _ : Unit => (w_X4 G mh0 mvq maq mlq mhq mfq mrq moq mbq msq (0 : Int32) js mv ma ac po si ta ml mh gu wr mf mr re mo mb ms)) (ci := 4) (q0 := 0) F (c_X4_isJar l G mh0 mvq maq mlq mhq mfq mrq moq mbq msq (0 : Int32) js mv ma ac po si ta ml mh gu wr mf mr re mo mb ms p1) gX4_isKnown_X4_isJar rfl rfl rfl zd_X4_isJar ⟨Nat.le_of_ble_eq_true rfl, Nat.le_of_ble_eq_true rfl⟩ rfl rfl (Nat.le_of_ble_eq_true rfl) dX4_isKnown_7 ⟨Nat.le_of_ble_eq_true rfl, Nat.le_of_ble_eq_true rfl⟩ hK hP hD hS hA hl.1 rfl rfl [0, 1, 2, 3, 4, 5, 6, 7, 8, 9] [] [0, 1, 2, 3, 4, 5, 6, 7, 8, 9] rfl rfl rfl rfl (by decide) rfl (fun _ => rfl) (fun _ H locs hP hD hS => ?_)
  have hP : va_P G.1 vwCl (w_X4 G mh0 mvq maq mlq mhq mfq mrq moq mbq msq (0 : Int32) js mv ma ac po si ta ml mh gu wr mf mr re mo mb ms) H := hP
  have hD : va_D A (w_X4 G mh0 mvq maq mlq mhq mfq mrq moq mbq msq (0 : Int32) js mv ma ac po si ta ml mh gu wr mf mr re mo mb ms) := hD
  refine lv_if_eq (tgt := 21) hx hb dX4_isKnown_10 (by decide) (fun (c_1 : (f_X4_isJar js p1) = (0 : Int32)) => ?_) (fun (c_1 : ¬ (f_X4_isJar js p1) = (0 : Int32)) => ?_)
  · refine lv_aload_n hx hb dX4_isKnown_21 rfl (lv_at hl 0 rfl) ?_
    refine lv_iconst (v := (1 : Int32)) hx hb dX4_isKnown_22 (by decide) ?_
    refine z_callV (As := [.int (1 : Int32)]) (rest := []) (wr := ([] : va_W)) (w1 := fun _ : Unit => (w_X4 G mh0 mvq maq mlq mhq mfq mrq moq mbq msq ((f_X4_isNot (0 : Int32) (1 : Int32)).2) js mv ma ac po si ta ml mh gu wr mf mr re mo mb ms)) (wj := fun _ : Unit => (w_X4 G mh0 mvq maq mlq mhq mfq mrq moq mbq msq (f_X4_isNot (0 : Int32) (1 : Int32)).2 js mv ma ac po si ta ml mh gu wr mf mr re mo mb ms)) (ci := 4) (q0 := 0) F (c_X4_isNot l G mh0 mvq maq mlq mhq mfq mrq moq mbq msq (0 : Int32) js mv ma ac po si ta ml mh gu wr mf mr re mo mb ms (1 : Int32)) gX4_isKnown_X4_isNot rfl rfl rfl zd_X4_isNot ⟨Nat.le_of_ble_eq_true rfl, Nat.le_of_ble_eq_true rfl⟩ rfl rfl (Nat.le_of_ble_eq_true rfl) dX4_isKnown_23 ⟨Nat.le_of_ble_eq_true rfl, Nat.le_of_ble_eq_true rfl⟩ hK hP hD hS hA hl.1 rfl rfl [0, 1, 2, 3, 4, 5, 6, 7, 8, 9] [] [0, 1, 2, 3, 4, 5, 6, 7, 8, 9] rfl rfl rfl rfl (by decide) rfl (fun _ => rfl) (fun _ H locs hP hD hS => ?_)
    have hP : va_P G.1 vwCl (w_X4 G mh0 mvq maq mlq mhq mfq mrq moq mbq msq (f_X4_isNot (0 : Int32) (1 : Int32)).2 js mv ma ac po si ta ml mh gu wr mf mr re mo mb ms) H := hP
    have hD : va_D A (w_X4 G mh0 mvq maq mlq mhq mfq mrq moq mbq msq (f_X4_isNot (0 : Int32) (1 : Int32)).2 js mv ma ac po si ta ml mh gu wr mf mr re mo mb ms) := hD
    have e9 : (f_X4_isKnown th js ml p1) = ((f_X4_isNot (0 : Int32) (1 : Int32)).1, (f_X4_isNot (0 : Int32) (1 : Int32)).2) := (f_X4_isKnown_eq th js ml p1).trans ((if_pos c_1).trans (rfl))
    rw [e9]
    dsimp only
    exact z_zret F hr hlocks hP hD hS () [0, 1, 2, 3, 4, 5, 6, 7, 8, 9] rfl rfl rfl (zb_nar (b_X4_isNot (0 : Int32) (1 : Int32))) dX4_isKnown_26
  · refine lv_aload_n hx hb dX4_isKnown_13 rfl (lv_at hl 0 rfl) ?_
    refine lv_iload_n hx hb dX4_isKnown_14 rfl (lv_at hl 1 rfl) ?_
    refine z_callV (As := [.int p1]) (rest := []) (wr := ([] : va_W)) (w1 := fun _ : Unit => (w_X4 G mh0 mvq maq mlq mhq mfq mrq moq mbq msq (0 : Int32) js mv ma ac po si ta ml mh gu wr mf mr re mo mb ms)) (wj := fun _ : Unit => (w_X4 G mh0 mvq maq mlq mhq mfq mrq moq mbq msq (0 : Int32) js mv ma ac po si ta ml mh gu wr mf mr re mo mb ms)) (ci := 4) (q0 := 0) F (c_X4_known l G mh0 mvq maq mlq mhq mfq mrq moq mbq msq (0 : Int32) js mv ma ac po si ta ml mh gu wr mf mr re mo mb ms p1) gX4_isKnown_X4_known rfl rfl rfl zd_X4_known ⟨Nat.le_of_ble_eq_true rfl, Nat.le_of_ble_eq_true rfl⟩ rfl rfl (Nat.le_of_ble_eq_true rfl) dX4_isKnown_15 ⟨Nat.le_of_ble_eq_true rfl, Nat.le_of_ble_eq_true rfl⟩ hK hP hD hS hA hl.1 rfl rfl [0, 1, 2, 3, 4, 5, 6, 7, 8, 9] [] [0, 1, 2, 3, 4, 5, 6, 7, 8, 9] rfl rfl rfl rfl (by decide) rfl (fun _ => rfl) (fun _ H locs hP hD hS => ?_)
    have hP : va_P G.1 vwCl (w_X4 G mh0 mvq maq mlq mhq mfq mrq moq mbq msq (0 : Int32) js mv ma ac po si ta ml mh gu wr mf mr re mo mb ms) H := hP
    have hD : va_D A (w_X4 G mh0 mvq maq mlq mhq mfq mrq moq mbq msq (0 : Int32) js mv ma ac po si ta ml mh gu wr mf mr re mo mb ms) := hD
    refine lv_goto (tgt := 26) hx hb dX4_isKnown_18 (by decide) ?_
    have e9 : (f_X4_isKnown th js ml p1) = ((f_X4_known ml p1), (0 : Int32)) := (f_X4_isKnown_eq th js ml p1).trans ((if_neg c_1).trans (rfl))
    rw [e9]
    dsimp only
    exact z_zret F hr hlocks hP hD hS () [0, 1, 2, 3, 4, 5, 6, 7, 8, 9] rfl rfl rfl (zb_nar (b_X4_known ml p1)) dX4_isKnown_26
def lf_X4_guess_66 : Nat → Nat → (Nat → Int32) → Int32 → Int32 → Int32 → (Nat → Int32)
  | 0, k, ml, x1, x2, x3 => ml
  | n + 1, k, ml, x1, x2, x3 => (if (1000 : Int32) ≤ (nI k) then ml else (if (f_X4_figure (nI k) x1) = x2 then (if (1 : Int32) = x3 then (lf_X4_guess_66 n (k + 1) (upd ml (nI k).toNatClampNeg (vp_nar .boolean ((ml (nI k).toNatClampNeg) &&& (1 : Int32)))) x1 x2 x3) else (lf_X4_guess_66 n (k + 1) (upd ml (nI k).toNatClampNeg (vp_nar .boolean ((ml (nI k).toNatClampNeg) &&& (0 : Int32)))) x1 x2 x3)) else (if (0 : Int32) = x3 then (lf_X4_guess_66 n (k + 1) (upd ml (nI k).toNatClampNeg (vp_nar .boolean ((ml (nI k).toNatClampNeg) &&& (1 : Int32)))) x1 x2 x3) else (lf_X4_guess_66 n (k + 1) (upd ml (nI k).toNatClampNeg (vp_nar .boolean ((ml (nI k).toNatClampNeg) &&& (0 : Int32)))) x1 x2 x3))))
theorem lf_X4_guess_66_succ (n k : Nat) (ml : Nat → Int32) (x1 : Int32) (x2 : Int32) (x3 : Int32) : lf_X4_guess_66 (n + 1) k ml x1 x2 x3 = (if (1000 : Int32) ≤ (nI k) then ml else (if (f_X4_figure (nI k) x1) = x2 then (if (1 : Int32) = x3 then (lf_X4_guess_66 n (k + 1) (upd ml (nI k).toNatClampNeg (vp_nar .boolean ((ml (nI k).toNatClampNeg) &&& (1 : Int32)))) x1 x2 x3) else (lf_X4_guess_66 n (k + 1) (upd ml (nI k).toNatClampNeg (vp_nar .boolean ((ml (nI k).toNatClampNeg) &&& (0 : Int32)))) x1 x2 x3)) else (if (0 : Int32) = x3 then (lf_X4_guess_66 n (k + 1) (upd ml (nI k).toNatClampNeg (vp_nar .boolean ((ml (nI k).toNatClampNeg) &&& (1 : Int32)))) x1 x2 x3) else (lf_X4_guess_66 n (k + 1) (upd ml (nI k).toNatClampNeg (vp_nar .boolean ((ml (nI k).toNatClampNeg) &&& (0 : Int32)))) x1 x2 x3)))) := rfl
def f_X4_guess (th : Int32) (js : Int32) (mv : Nat → Int32) (ml : Nat → Int32) (gu : Int32) (wr : Int32) (p1 : Int32) (p2 : Int32) : Int32 × Int32 × (Nat → Int32) × Int32 × Int32 := (if (f_X4_isJar js p1) = (0 : Int32) then ((f_X4_isNot (0 : Int32) (1 : Int32)).1, (f_X4_isNot (0 : Int32) (1 : Int32)).2, ml, gu, wr) else (if (f_X4_isVolume p2) = (0 : Int32) then ((f_X4_isNot (0 : Int32) (2 : Int32)).1, (f_X4_isNot (0 : Int32) (2 : Int32)).2, ml, gu, wr) else (if (f_X4_may ml p1 p2) = (0 : Int32) then ((f_X4_isNot (0 : Int32) (3 : Int32)).1, (f_X4_isNot (0 : Int32) (3 : Int32)).2, ml, gu, wr) else (if (mv p1.toNatClampNeg) = p2 then (if (1 : Int32) = (0 : Int32) then ((1 : Int32), (0 : Int32), (lf_X4_guess_66 1001 0 ml p1 p2 (1 : Int32)), (gu + (1 : Int32)), (wr + (1 : Int32))) else ((1 : Int32), (0 : Int32), (lf_X4_guess_66 1001 0 ml p1 p2 (1 : Int32)), (gu + (1 : Int32)), (wr + (0 : Int32)))) else (if (0 : Int32) = (0 : Int32) then ((0 : Int32), (0 : Int32), (lf_X4_guess_66 1001 0 ml p1 p2 (0 : Int32)), (gu + (1 : Int32)), (wr + (1 : Int32))) else ((0 : Int32), (0 : Int32), (lf_X4_guess_66 1001 0 ml p1 p2 (0 : Int32)), (gu + (1 : Int32)), (wr + (0 : Int32))))))))
theorem f_X4_guess_eq (th : Int32) (js : Int32) (mv : Nat → Int32) (ml : Nat → Int32) (gu : Int32) (wr : Int32) (p1 : Int32) (p2 : Int32) : f_X4_guess th js mv ml gu wr p1 p2 = (if (f_X4_isJar js p1) = (0 : Int32) then ((f_X4_isNot (0 : Int32) (1 : Int32)).1, (f_X4_isNot (0 : Int32) (1 : Int32)).2, ml, gu, wr) else (if (f_X4_isVolume p2) = (0 : Int32) then ((f_X4_isNot (0 : Int32) (2 : Int32)).1, (f_X4_isNot (0 : Int32) (2 : Int32)).2, ml, gu, wr) else (if (f_X4_may ml p1 p2) = (0 : Int32) then ((f_X4_isNot (0 : Int32) (3 : Int32)).1, (f_X4_isNot (0 : Int32) (3 : Int32)).2, ml, gu, wr) else (if (mv p1.toNatClampNeg) = p2 then (if (1 : Int32) = (0 : Int32) then ((1 : Int32), (0 : Int32), (lf_X4_guess_66 1001 0 ml p1 p2 (1 : Int32)), (gu + (1 : Int32)), (wr + (1 : Int32))) else ((1 : Int32), (0 : Int32), (lf_X4_guess_66 1001 0 ml p1 p2 (1 : Int32)), (gu + (1 : Int32)), (wr + (0 : Int32)))) else (if (0 : Int32) = (0 : Int32) then ((0 : Int32), (0 : Int32), (lf_X4_guess_66 1001 0 ml p1 p2 (0 : Int32)), (gu + (1 : Int32)), (wr + (1 : Int32))) else ((0 : Int32), (0 : Int32), (lf_X4_guess_66 1001 0 ml p1 p2 (0 : Int32)), (gu + (1 : Int32)), (wr + (0 : Int32)))))))) := rfl
theorem b_X4_guess (th : Int32) (js : Int32) (mv : Nat → Int32) (ml : Nat → Int32) (gu : Int32) (wr : Int32) (p1 : Int32) (p2 : Int32) : zb (f_X4_guess th js mv ml gu wr p1 p2).1 := by
  unfold f_X4_guess
  repeat' split
  all_goals first | exact Or.inl rfl | exact Or.inr rfl | exact b_X4_isJar .. | exact b_X4_isNot .. | exact b_X4_isVolume .. | exact b_X4_may ..
def s_X4_guess (js : Int32) (ml : Nat → Int32) (p1 : Int32) (p2 : Int32) : Prop := (((f_X4_isJar js p1) = (0 : Int32) → True) ∧ (¬ (f_X4_isJar js p1) = (0 : Int32) → (((f_X4_isVolume p2) = (0 : Int32) → True) ∧ (¬ (f_X4_isVolume p2) = (0 : Int32) → (((f_X4_may ml p1 p2) = (0 : Int32) → True) ∧ (¬ (f_X4_may ml p1 p2) = (0 : Int32) → vp_in p1 3))))))
abbrev rm_X4_guess : Room := { frames := 2, cells := 0, slots := 0, locals := 44 }
theorem zd_X4_guess : yX4_guess.cls = RX4 ∧ yX4_guess.cls ≠ "java/lang/invoke/MethodHandle" ∧ yX4_guess.cls ≠ "java/lang/invoke/VarHandle" ∧ (parseMethodDescriptor yX4_guess.desc).map (fun d => d.parameters.length) = some 2 := by decide +kernel
theorem in_X4_guess_X4 : ∀ w ∈ u_ws RX4 TX4 18, w ∈ wsX4_guess := by decide +kernel
set_option maxHeartbeats 4000000 in
set_option maxRecDepth 100000 in
theorem l_X4_guess_66 {p : Program} {l : Launch} {e : Env} {s : State} {m : MethodId} {args : Array Value} {below : List Frame} {meth : Method} {c : Code} {A : Nat → Prop} {Q : State → Prop} {G : zG} (F : CallFix p m c cX4_guess 5 s args wsX4_guess RX4) (hr : meth.sig.returnType = (some .boolean)) (hlocks : meth.locks = false) (hK : zK G s) (hA : ∀ q : Nat, s.heap.size ≤ q → A q) (mh0 mvq maq mlq mhq mfq mrq moq mbq msq : Nat) :
    ∀ (n k : Nat) (th : Int32) (js : Int32) (mv : Nat → Int32) (ma : Nat → Int32) (ac : Int32) (po : Int32) (si : Int32) (ta : Int32) (ml : Nat → Int32) (mh : Nat → Int32) (gu : Int32) (wr : Int32) (mf : Nat → Int32) (mr : Nat → Int32) (re : Int32) (mo : Nat → Int32) (mb : Nat → Int32) (ms : Nat → Int32) (x1 : Int32) (x2 : Int32) (x3 : Int32), k + n = 1000 + 1 → k ≤ 1000 → ∀ (H : Heap) (locs : List Loc) (ls : Array Slot), va_P G.1 vwCl (w_X4 G mh0 mvq maq mlq mhq mfq mrq moq mbq msq th js mv ma ac po si ta ml mh gu wr mf mr re mo mb ms) H → va_D A (w_X4 G mh0 mvq maq mlq mhq mfq mrq moq mbq msq th js mv ma ac po si ta ml mh gu wr mf mr re mo mb ms) → va_S A s.heap H locs → lv_has ls 5 [(0, .ref mh0), (1, .int x1), (2, .int x2), (3, .int x3), (4, .int (nI k))] → (∀ (H : Heap) (locs : List Loc) (ls : Array Slot), va_P G.1 vwCl (w_X4 G mh0 mvq maq mlq mhq mfq mrq moq mbq msq th js mv ma ac po si ta (lf_X4_guess_66 n k ml x1 x2 x3) mh gu wr mf mr re mo mb ms) H → va_D A (w_X4 G mh0 mvq maq mlq mhq mfq mrq moq mbq msq th js mv ma ac po si ta (lf_X4_guess_66 n k ml x1 x2 x3) mh gu wr mf mr re mo mb ms) → va_S A s.heap H locs → lv_has ls 5 [(0, .ref mh0), (3, .int x3)] → W p l e rm_X4_guess s m args below meth c H locs 0 0 Q (F0 m 114 ls [])) → W p l e rm_X4_guess s m args below meth c H locs 0 0 Q (F0 m 66 ls []) := by
  obtain ⟨hx, hb, hml, hown, hts⟩ := id F
  intro n
  induction n with
  | zero => intro k th js mv ma ac po si ta ml mh gu wr mf mr re mo mb ms x1 x2 x3 h1 h2; omega
  | succ n IH9 =>
    intro k th js mv ma ac po si ta ml mh gu wr mf mr re mo mb ms x1 x2 x3 hkn hkN H locs ls hP hD hS hl kk
    refine lv_iload hx hb dX4_guess_66 (lv_at hl 4 rfl) ?_
    refine lv_sipush (v := (1000 : Int32)) hx hb dX4_guess_68 (by decide) ?_
    refine lv_icmp_ge (tgt := 114) hx hb dX4_guess_71 (by decide) (fun (c_6 : (1000 : Int32) ≤ (nI k)) => ?_) (fun (c_6 : ¬ (1000 : Int32) ≤ (nI k)) => ?_)
    · have e9 : (lf_X4_guess_66 (n + 1) k ml x1 x2 x3) = ml := (lf_X4_guess_66_succ n k ml x1 x2 x3).trans ((if_pos c_6).trans (rfl))
      rw [e9] at kk
      exact kk H locs ls hP hD hS (lv_sub hl [0, 3] rfl)
    · refine lv_aload_n hx hb dX4_guess_74 rfl (lv_at hl 0 rfl) ?_
      refine va_get (D := G.1) (ci := 4) (v := .ref mlq) (C := RX4) (T := TX4) (N := 18) hx hb hts in_X4_guess_X4 hown hK.1 hP 0 rfl rfl 8 (by decide) (hts (.fieldLink RX4 16 "JarRiddleModel" "isLeft" "[Z") (by decide +kernel)) (fun _ h9 => h9) rfl dX4_guess_75 ?_
      refine lv_iload hx hb dX4_guess_78 (lv_at hl 4 rfl) ?_
      refine lv_dup2_11 hx hb dX4_guess_80 rfl rfl ?_
      refine va_zald hx hb hK.1 hP 3 1 rfl rfl (vp_in_nI (Nat.lt_of_lt_of_le (zk_lt (N := 1000) (by omega) rfl c_6) (by decide)) (by decide) : vp_in (nI k) 1000) dX4_guess_81 ?_
      refine lv_iload hx hb dX4_guess_82 (lv_at hl 4 rfl) ?_
      refine lv_iload_n hx hb dX4_guess_84 rfl (lv_at hl 1 rfl) ?_
      refine z_callSX (As := [.int (nI k), .int x1]) (rest := [.int (ml (nI k).toNatClampNeg), .int (nI k), .ref mlq]) (wr := ([(mh0, .inr (4, [.int th, .int js, .ref mvq, .ref maq, .int ac, .int po, .int si, .int ta, .ref mlq, .ref mhq, .int gu, .int wr, .ref mfq, .ref mrq, .int re, .ref moq, .ref mbq, .ref msq])), (mvq, .inl (G.2.1, 3, .inl mv)), (maq, .inl (G.2.1, 3, .inl ma)), (mlq, .inl (G.2.2.1, 1000, .inl ml)), (mhq, .inl (G.2.1, 3000, .inl mh)), (mfq, .inl (G.2.1, 1000, .inl mf)), (mrq, .inl (G.2.1, 1000, .inl mr)), (moq, .inl (G.2.1, 3, .inl mo)), (mbq, .inl (G.2.1, 3, .inl mb)), (msq, .inl (G.2.1, 64, .inl ms))] : va_W)) (w1 := fun _ : Unit => ([] : va_W)) (wj := fun _ : Unit => (w_X4 G mh0 mvq maq mlq mhq mfq mrq moq mbq msq th js mv ma ac po si ta ml mh gu wr mf mr re mo mb ms)) F (c_X4_figure l G (nI k) x1) gX4_guess_X4_figure rfl rfl rfl zd_X4_figure ⟨Nat.le_of_ble_eq_true rfl, Nat.le_of_ble_eq_true rfl⟩ rfl rfl (Nat.le_of_ble_eq_true rfl) dX4_guess_85 ⟨Nat.le_of_ble_eq_true rfl, Nat.le_of_ble_eq_true rfl⟩ hK hP hD hS hA hl.1 [] [0, 1, 2, 3, 4, 5, 6, 7, 8, 9] [0, 1, 2, 3, 4, 5, 6, 7, 8, 9] rfl rfl rfl rfl (by decide) rfl (fun _ => rfl) (fun _ H locs hP hD hS => ?_)
      have hP : va_P G.1 vwCl (w_X4 G mh0 mvq maq mlq mhq mfq mrq moq mbq msq th js mv ma ac po si ta ml mh gu wr mf mr re mo mb ms) H := hP
      have hD : va_D A (w_X4 G mh0 mvq maq mlq mhq mfq mrq moq mbq msq th js mv ma ac po si ta ml mh gu wr mf mr re mo mb ms) := hD
      refine lv_iload_n hx hb dX4_guess_88 rfl (lv_at hl 2 rfl) ?_
      refine lv_icmp_ne (tgt := 96) hx hb dX4_guess_89 (by decide) (fun (c_7 : ¬ (f_X4_figure (nI k) x1) = x2) => ?_) (fun (c_7 : (f_X4_figure (nI k) x1) = x2) => ?_)
      · refine lv_iconst (v := (0 : Int32)) hx hb dX4_guess_96 (by decide) ?_
        refine lv_iload_n hx hb dX4_guess_97 rfl (lv_at hl 3 rfl) ?_
        refine lv_icmp_ne (tgt := 105) hx hb dX4_guess_98 (by decide) (fun (c_8 : ¬ (0 : Int32) = x3) => ?_) (fun (c_8 : (0 : Int32) = x3) => ?_)
        · refine lv_iconst (v := (0 : Int32)) hx hb dX4_guess_105 (by decide) ?_
          refine lv_iand hx hb dX4_guess_106 ?_
          refine va_zast hx hb hK.1 hP hD hS 3 1 rfl rfl (vp_in_nI (Nat.lt_of_lt_of_le (zk_lt (N := 1000) (by omega) rfl c_6) (by decide)) (by decide) : vp_in (nI k) 1000) dX4_guess_107 (fun H locs hP hD hS => ?_)
          have hP : va_P G.1 vwCl (w_X4 G mh0 mvq maq mlq mhq mfq mrq moq mbq msq th js mv ma ac po si ta (upd ml (nI k).toNatClampNeg (vp_nar .boolean ((ml (nI k).toNatClampNeg) &&& (0 : Int32)))) mh gu wr mf mr re mo mb ms) H := hP
          have hD : va_D A (w_X4 G mh0 mvq maq mlq mhq mfq mrq moq mbq msq th js mv ma ac po si ta (upd ml (nI k).toNatClampNeg (vp_nar .boolean ((ml (nI k).toNatClampNeg) &&& (0 : Int32)))) mh gu wr mf mr re mo mb ms) := hD
          refine lv_iinc (v := (nI (k + 1))) (lv' := [(4, .int (nI (k + 1))), (0, .ref mh0), (1, .int x1), (2, .int x2), (3, .int x3)]) hx hb dX4_guess_108 hl (k := 4) rfl (nI_1 k) (by decide) rfl (fun ls hl => ?_)
          refine lv_goto (tgt := 66) hx hb dX4_guess_111 (by decide) ?_
          have e9 : (lf_X4_guess_66 (n + 1) k ml x1 x2 x3) = (lf_X4_guess_66 n (k + 1) (upd ml (nI k).toNatClampNeg (vp_nar .boolean ((ml (nI k).toNatClampNeg) &&& (0 : Int32)))) x1 x2 x3) := (lf_X4_guess_66_succ n k ml x1 x2 x3).trans ((if_neg c_6).trans ((if_neg c_7).trans ((if_neg c_8).trans (rfl))))
          rw [e9] at kk
          have h9 := zk_lt (N := 1000) (by omega) rfl c_6
          exact IH9 (k + 1) th js mv ma ac po si ta (upd ml (nI k).toNatClampNeg (vp_nar .boolean ((ml (nI k).toNatClampNeg) &&& (0 : Int32)))) mh gu wr mf mr re mo mb ms x1 x2 x3 (by omega) (by omega) H locs ls hP hD hS (lv_sub hl [1, 2, 3, 4, 0] rfl) kk
        · refine lv_iconst (v := (1 : Int32)) hx hb dX4_guess_101 (by decide) ?_
          refine lv_goto (tgt := 106) hx hb dX4_guess_102 (by decide) ?_
          refine lv_iand hx hb dX4_guess_106 ?_
          refine va_zast hx hb hK.1 hP hD hS 3 1 rfl rfl (vp_in_nI (Nat.lt_of_lt_of_le (zk_lt (N := 1000) (by omega) rfl c_6) (by decide)) (by decide) : vp_in (nI k) 1000) dX4_guess_107 (fun H locs hP hD hS => ?_)
          have hP : va_P G.1 vwCl (w_X4 G mh0 mvq maq mlq mhq mfq mrq moq mbq msq th js mv ma ac po si ta (upd ml (nI k).toNatClampNeg (vp_nar .boolean ((ml (nI k).toNatClampNeg) &&& (1 : Int32)))) mh gu wr mf mr re mo mb ms) H := hP
          have hD : va_D A (w_X4 G mh0 mvq maq mlq mhq mfq mrq moq mbq msq th js mv ma ac po si ta (upd ml (nI k).toNatClampNeg (vp_nar .boolean ((ml (nI k).toNatClampNeg) &&& (1 : Int32)))) mh gu wr mf mr re mo mb ms) := hD
          refine lv_iinc (v := (nI (k + 1))) (lv' := [(4, .int (nI (k + 1))), (0, .ref mh0), (1, .int x1), (2, .int x2), (3, .int x3)]) hx hb dX4_guess_108 hl (k := 4) rfl (nI_1 k) (by decide) rfl (fun ls hl => ?_)
          refine lv_goto (tgt := 66) hx hb dX4_guess_111 (by decide) ?_
          have e9 : (lf_X4_guess_66 (n + 1) k ml x1 x2 x3) = (lf_X4_guess_66 n (k + 1) (upd ml (nI k).toNatClampNeg (vp_nar .boolean ((ml (nI k).toNatClampNeg) &&& (1 : Int32)))) x1 x2 x3) := (lf_X4_guess_66_succ n k ml x1 x2 x3).trans ((if_neg c_6).trans ((if_neg c_7).trans ((if_pos c_8).trans (rfl))))
          rw [e9] at kk
          have h9 := zk_lt (N := 1000) (by omega) rfl c_6
          exact IH9 (k + 1) th js mv ma ac po si ta (upd ml (nI k).toNatClampNeg (vp_nar .boolean ((ml (nI k).toNatClampNeg) &&& (1 : Int32)))) mh gu wr mf mr re mo mb ms x1 x2 x3 (by omega) (by omega) H locs ls hP hD hS (lv_sub hl [1, 2, 3, 4, 0] rfl) kk
      · refine lv_iconst (v := (1 : Int32)) hx hb dX4_guess_92 (by decide) ?_
        refine lv_goto (tgt := 97) hx hb dX4_guess_93 (by decide) ?_
        refine lv_iload_n hx hb dX4_guess_97 rfl (lv_at hl 3 rfl) ?_
        refine lv_icmp_ne (tgt := 105) hx hb dX4_guess_98 (by decide) (fun (c_9 : ¬ (1 : Int32) = x3) => ?_) (fun (c_9 : (1 : Int32) = x3) => ?_)
        · refine lv_iconst (v := (0 : Int32)) hx hb dX4_guess_105 (by decide) ?_
          refine lv_iand hx hb dX4_guess_106 ?_
          refine va_zast hx hb hK.1 hP hD hS 3 1 rfl rfl (vp_in_nI (Nat.lt_of_lt_of_le (zk_lt (N := 1000) (by omega) rfl c_6) (by decide)) (by decide) : vp_in (nI k) 1000) dX4_guess_107 (fun H locs hP hD hS => ?_)
          have hP : va_P G.1 vwCl (w_X4 G mh0 mvq maq mlq mhq mfq mrq moq mbq msq th js mv ma ac po si ta (upd ml (nI k).toNatClampNeg (vp_nar .boolean ((ml (nI k).toNatClampNeg) &&& (0 : Int32)))) mh gu wr mf mr re mo mb ms) H := hP
          have hD : va_D A (w_X4 G mh0 mvq maq mlq mhq mfq mrq moq mbq msq th js mv ma ac po si ta (upd ml (nI k).toNatClampNeg (vp_nar .boolean ((ml (nI k).toNatClampNeg) &&& (0 : Int32)))) mh gu wr mf mr re mo mb ms) := hD
          refine lv_iinc (v := (nI (k + 1))) (lv' := [(4, .int (nI (k + 1))), (0, .ref mh0), (1, .int x1), (2, .int x2), (3, .int x3)]) hx hb dX4_guess_108 hl (k := 4) rfl (nI_1 k) (by decide) rfl (fun ls hl => ?_)
          refine lv_goto (tgt := 66) hx hb dX4_guess_111 (by decide) ?_
          have e9 : (lf_X4_guess_66 (n + 1) k ml x1 x2 x3) = (lf_X4_guess_66 n (k + 1) (upd ml (nI k).toNatClampNeg (vp_nar .boolean ((ml (nI k).toNatClampNeg) &&& (0 : Int32)))) x1 x2 x3) := (lf_X4_guess_66_succ n k ml x1 x2 x3).trans ((if_neg c_6).trans ((if_pos c_7).trans ((if_neg c_9).trans (rfl))))
          rw [e9] at kk
          have h9 := zk_lt (N := 1000) (by omega) rfl c_6
          exact IH9 (k + 1) th js mv ma ac po si ta (upd ml (nI k).toNatClampNeg (vp_nar .boolean ((ml (nI k).toNatClampNeg) &&& (0 : Int32)))) mh gu wr mf mr re mo mb ms x1 x2 x3 (by omega) (by omega) H locs ls hP hD hS (lv_sub hl [1, 2, 3, 4, 0] rfl) kk
        · refine lv_iconst (v := (1 : Int32)) hx hb dX4_guess_101 (by decide) ?_
          refine lv_goto (tgt := 106) hx hb dX4_guess_102 (by decide) ?_
          refine lv_iand hx hb dX4_guess_106 ?_
          refine va_zast hx hb hK.1 hP hD hS 3 1 rfl rfl (vp_in_nI (Nat.lt_of_lt_of_le (zk_lt (N := 1000) (by omega) rfl c_6) (by decide)) (by decide) : vp_in (nI k) 1000) dX4_guess_107 (fun H locs hP hD hS => ?_)
          have hP : va_P G.1 vwCl (w_X4 G mh0 mvq maq mlq mhq mfq mrq moq mbq msq th js mv ma ac po si ta (upd ml (nI k).toNatClampNeg (vp_nar .boolean ((ml (nI k).toNatClampNeg) &&& (1 : Int32)))) mh gu wr mf mr re mo mb ms) H := hP
          have hD : va_D A (w_X4 G mh0 mvq maq mlq mhq mfq mrq moq mbq msq th js mv ma ac po si ta (upd ml (nI k).toNatClampNeg (vp_nar .boolean ((ml (nI k).toNatClampNeg) &&& (1 : Int32)))) mh gu wr mf mr re mo mb ms) := hD
          refine lv_iinc (v := (nI (k + 1))) (lv' := [(4, .int (nI (k + 1))), (0, .ref mh0), (1, .int x1), (2, .int x2), (3, .int x3)]) hx hb dX4_guess_108 hl (k := 4) rfl (nI_1 k) (by decide) rfl (fun ls hl => ?_)
          refine lv_goto (tgt := 66) hx hb dX4_guess_111 (by decide) ?_
          have e9 : (lf_X4_guess_66 (n + 1) k ml x1 x2 x3) = (lf_X4_guess_66 n (k + 1) (upd ml (nI k).toNatClampNeg (vp_nar .boolean ((ml (nI k).toNatClampNeg) &&& (1 : Int32)))) x1 x2 x3) := (lf_X4_guess_66_succ n k ml x1 x2 x3).trans ((if_neg c_6).trans ((if_pos c_7).trans ((if_pos c_9).trans (rfl))))
          rw [e9] at kk
          have h9 := zk_lt (N := 1000) (by omega) rfl c_6
          exact IH9 (k + 1) th js mv ma ac po si ta (upd ml (nI k).toNatClampNeg (vp_nar .boolean ((ml (nI k).toNatClampNeg) &&& (1 : Int32)))) mh gu wr mf mr re mo mb ms x1 x2 x3 (by omega) (by omega) H locs ls hP hD hS (lv_sub hl [1, 2, 3, 4, 0] rfl) kk
set_option maxHeartbeats 4000000 in
set_option maxRecDepth 100000 in
/-- JarRiddleModel.guess(II)Z -/
theorem c_X4_guess (l : Launch) (G : zG) (mh0 mvq maq mlq mhq mfq mrq moq mbq msq : Nat) (th : Int32) (js : Int32) (mv : Nat → Int32) (ma : Nat → Int32) (ac : Int32) (po : Int32) (si : Int32) (ta : Int32) (ml : Nat → Int32) (mh : Nat → Int32) (gu : Int32) (wr : Int32) (mf : Nat → Int32) (mr : Nat → Int32) (re : Int32) (mo : Nat → Int32) (mb : Nat → Int32) (ms : Nat → Int32) (p1 : Int32) (p2 : Int32) (hs : s_X4_guess js ml p1 p2) : zC l G yX4_guess wsX4_guess rm_X4_guess 0 0 [.ref mh0, .int p1, .int p2] (w_X4 G mh0 mvq maq mlq mhq mfq mrq moq mbq msq th js mv ma ac po si ta ml mh gu wr mf mr re mo mb ms) (some (.int (f_X4_guess th js mv ml gu wr p1 p2).1)) (fun _ : Unit => (w_X4 G mh0 mvq maq mlq mhq mfq mrq moq mbq msq ((f_X4_guess th js mv ml gu wr p1 p2).2.1) js mv ma ac po si ta ((f_X4_guess th js mv ml gu wr p1 p2).2.2.1) mh ((f_X4_guess th js mv ml gu wr p1 p2).2.2.2.1) ((f_X4_guess th js mv ml gu wr p1 p2).2.2.2.2) mf mr re mo mb ms)) := by
  refine z_of (cc := cX4_guess) (maxL := 5) (ret := (some .boolean)) (own := RX4) (by decide) rfl rfl (Nat.le_of_ble_eq_true rfl) ?_
  intro p e s m args below meth c A H locs ls F hr hlocks hname hK hA hP hD hS hl
  obtain ⟨hx, hb, hml, hown, hts⟩ := id F
  have hl : lv_has ls 5 [(0, .ref mh0), (1, .int p1), (2, .int p2)] := hl
  have hs : (((f_X4_isJar js p1) = (0 : Int32) → True) ∧ (¬ (f_X4_isJar js p1) = (0 : Int32) → (((f_X4_isVolume p2) = (0 : Int32) → True) ∧ (¬ (f_X4_isVolume p2) = (0 : Int32) → (((f_X4_may ml p1 p2) = (0 : Int32) → True) ∧ (¬ (f_X4_may ml p1 p2) = (0 : Int32) → vp_in p1 3)))))) := hs
  refine lv_aload_n hx hb dX4_guess_0 rfl (lv_at hl 0 rfl) ?_
  refine lv_iconst (v := (0 : Int32)) hx hb dX4_guess_1 (by decide) ?_
  refine va_put (D := G.1) (ci := 4) (v := .int (0 : Int32)) (ty := .int) (C := RX4) (T := TX4) (N := 18) hx hb hts in_X4_guess_X4 tyX4 tyX4_ok nmX4 hown hK.1 hP hD hS 0 rfl rfl 0 (by decide) (hts (.fieldLink RX4 42 "JarRiddleModel" "thrown" "I") (by decide +kernel)) (fun _ h9 => h9) rfl (by decide +kernel) rfl rfl (Nat.le_of_ble_eq_true rfl) dX4_guess_2 (fun H locs hP hD hS => ?_)
  have hP : va_P G.1 vwCl (w_X4 G mh0 mvq maq mlq mhq mfq mrq moq mbq msq (0 : Int32) js mv ma ac po si ta ml mh gu wr mf mr re mo mb ms) H := hP
  have hD : va_D A (w_X4 G mh0 mvq maq mlq mhq mfq mrq moq mbq msq (0 : Int32) js mv ma ac po si ta ml mh gu wr mf mr re mo mb ms) := hD
  refine lv_aload_n hx hb dX4_guess_5 rfl (lv_at hl 0 rfl) ?_
  refine lv_iload_n hx hb dX4_guess_6 rfl (lv_at hl 1 rfl) ?_
  refine z_callV (As := [.int p1]) (rest := []) (wr := ([] : va_W)) (w1 := fun _ : Unit => (w_X4 G mh0 mvq maq mlq mhq mfq mrq moq mbq msq (0 : Int32) js mv ma ac po si ta ml mh gu wr mf mr re mo mb ms)) (wj := fun _ : Unit => (w_X4 G mh0 mvq maq mlq mhq mfq mrq moq mbq msq (0 : Int32) js mv ma ac po si ta ml mh gu wr mf mr re mo mb ms)) (ci := 4) (q0 := 0) F (c_X4_isJar l G mh0 mvq maq mlq mhq mfq mrq moq mbq msq (0 : Int32) js mv ma ac po si ta ml mh gu wr mf mr re mo mb ms p1) gX4_guess_X4_isJar rfl rfl rfl zd_X4_isJar ⟨Nat.le_of_ble_eq_true rfl, Nat.le_of_ble_eq_true rfl⟩ rfl rfl (Nat.le_of_ble_eq_true rfl) dX4_guess_7 ⟨Nat.le_of_ble_eq_true rfl, Nat.le_of_ble_eq_true rfl⟩ hK hP hD hS hA hl.1 rfl rfl [0, 1, 2, 3, 4, 5, 6, 7, 8, 9] [] [0, 1, 2, 3, 4, 5, 6, 7, 8, 9] rfl rfl rfl rfl (by decide) rfl (fun _ => rfl) (fun _ H locs hP hD hS => ?_)
  have hP : va_P G.1 vwCl (w_X4 G mh0 mvq maq mlq mhq mfq mrq moq mbq msq (0 : Int32) js mv ma ac po si ta ml mh gu wr mf mr re mo mb ms) H := hP
  have hD : va_D A (w_X4 G mh0 mvq maq mlq mhq mfq mrq moq mbq msq (0 : Int32) js mv ma ac po si ta ml mh gu wr mf mr re mo mb ms) := hD
  refine lv_if_ne (tgt := 19) hx hb dX4_guess_10 (by decide) (fun (c_1 : ¬ (f_X4_isJar js p1) = (0 : Int32)) => ?_) (fun (c_1 : (f_X4_isJar js p1) = (0 : Int32)) => ?_)
  · have hs := hs.2 c_1
    refine lv_iload_n hx hb dX4_guess_19 rfl (lv_at hl 2 rfl) ?_
    refine z_callSX (As := [.int p2]) (rest := []) (wr := ([(mh0, .inr (4, [.int (0 : Int32), .int js, .ref mvq, .ref maq, .int ac, .int po, .int si, .int ta, .ref mlq, .ref mhq, .int gu, .int wr, .ref mfq, .ref mrq, .int re, .ref moq, .ref mbq, .ref msq])), (mvq, .inl (G.2.1, 3, .inl mv)), (maq, .inl (G.2.1, 3, .inl ma)), (mlq, .inl (G.2.2.1, 1000, .inl ml)), (mhq, .inl (G.2.1, 3000, .inl mh)), (mfq, .inl (G.2.1, 1000, .inl mf)), (mrq, .inl (G.2.1, 1000, .inl mr)), (moq, .inl (G.2.1, 3, .inl mo)), (mbq, .inl (G.2.1, 3, .inl mb)), (msq, .inl (G.2.1, 64, .inl ms))] : va_W)) (w1 := fun _ : Unit => ([] : va_W)) (wj := fun _ : Unit => (w_X4 G mh0 mvq maq mlq mhq mfq mrq moq mbq msq (0 : Int32) js mv ma ac po si ta ml mh gu wr mf mr re mo mb ms)) F (c_X4_isVolume l G p2) gX4_guess_X4_isVolume rfl rfl rfl zd_X4_isVolume ⟨Nat.le_of_ble_eq_true rfl, Nat.le_of_ble_eq_true rfl⟩ rfl rfl (Nat.le_of_ble_eq_true rfl) dX4_guess_20 ⟨Nat.le_of_ble_eq_true rfl, Nat.le_of_ble_eq_true rfl⟩ hK hP hD hS hA hl.1 [] [0, 1, 2, 3, 4, 5, 6, 7, 8, 9] [0, 1, 2, 3, 4, 5, 6, 7, 8, 9] rfl rfl rfl rfl (by decide) rfl (fun _ => rfl) (fun _ H locs hP hD hS => ?_)
    have hP : va_P G.1 vwCl (w_X4 G mh0 mvq maq mlq mhq mfq mrq moq mbq msq (0 : Int32) js mv ma ac po si ta ml mh gu wr mf mr re mo mb ms) H := hP
    have hD : va_D A (w_X4 G mh0 mvq maq mlq mhq mfq mrq moq mbq msq (0 : Int32) js mv ma ac po si ta ml mh gu wr mf mr re mo mb ms) := hD
    refine lv_if_ne (tgt := 32) hx hb dX4_guess_23 (by decide) (fun (c_2 : ¬ (f_X4_isVolume p2) = (0 : Int32)) => ?_) (fun (c_2 : (f_X4_isVolume p2) = (0 : Int32)) => ?_)
    · have hs := hs.2 c_2
      refine lv_aload_n hx hb dX4_guess_32 rfl (lv_at hl 0 rfl) ?_
      refine lv_iload_n hx hb dX4_guess_33 rfl (lv_at hl 1 rfl) ?_
      refine lv_iload_n hx hb dX4_guess_34 rfl (lv_at hl 2 rfl) ?_
      refine z_callV (As := [.int p1, .int p2]) (rest := []) (wr := ([] : va_W)) (w1 := fun _ : Unit => (w_X4 G mh0 mvq maq mlq mhq mfq mrq moq mbq msq (0 : Int32) js mv ma ac po si ta ml mh gu wr mf mr re mo mb ms)) (wj := fun _ : Unit => (w_X4 G mh0 mvq maq mlq mhq mfq mrq moq mbq msq (0 : Int32) js mv ma ac po si ta ml mh gu wr mf mr re mo mb ms)) (ci := 4) (q0 := 0) F (c_X4_may l G mh0 mvq maq mlq mhq mfq mrq moq mbq msq (0 : Int32) js mv ma ac po si ta ml mh gu wr mf mr re mo mb ms p1 p2) gX4_guess_X4_may rfl rfl rfl zd_X4_may ⟨Nat.le_of_ble_eq_true rfl, Nat.le_of_ble_eq_true rfl⟩ rfl rfl (Nat.le_of_ble_eq_true rfl) dX4_guess_35 ⟨Nat.le_of_ble_eq_true rfl, Nat.le_of_ble_eq_true rfl⟩ hK hP hD hS hA hl.1 rfl rfl [0, 1, 2, 3, 4, 5, 6, 7, 8, 9] [] [0, 1, 2, 3, 4, 5, 6, 7, 8, 9] rfl rfl rfl rfl (by decide) rfl (fun _ => rfl) (fun _ H locs hP hD hS => ?_)
      have hP : va_P G.1 vwCl (w_X4 G mh0 mvq maq mlq mhq mfq mrq moq mbq msq (0 : Int32) js mv ma ac po si ta ml mh gu wr mf mr re mo mb ms) H := hP
      have hD : va_D A (w_X4 G mh0 mvq maq mlq mhq mfq mrq moq mbq msq (0 : Int32) js mv ma ac po si ta ml mh gu wr mf mr re mo mb ms) := hD
      refine lv_if_ne (tgt := 47) hx hb dX4_guess_38 (by decide) (fun (c_3 : ¬ (f_X4_may ml p1 p2) = (0 : Int32)) => ?_) (fun (c_3 : (f_X4_may ml p1 p2) = (0 : Int32)) => ?_)
      · have hs := hs.2 c_3
        refine lv_aload_n hx hb dX4_guess_47 rfl (lv_at hl 0 rfl) ?_
        refine va_get (D := G.1) (ci := 4) (v := .ref mvq) (C := RX4) (T := TX4) (N := 18) hx hb hts in_X4_guess_X4 hown hK.1 hP 0 rfl rfl 2 (by decide) (hts (.fieldLink RX4 9 "JarRiddleModel" "volume" "[I") (by decide +kernel)) (fun _ h9 => h9) rfl dX4_guess_48 ?_
        refine lv_iload_n hx hb dX4_guess_51 rfl (lv_at hl 1 rfl) ?_
        have h_4 := hs
        refine va_iald hx hb hK.1 hP 1 0 rfl rfl h_4 dX4_guess_52 ?_
        refine lv_iload_n hx hb dX4_guess_53 rfl (lv_at hl 2 rfl) ?_
        refine lv_icmp_ne (tgt := 61) hx hb dX4_guess_54 (by decide) (fun (c_5 : ¬ (mv p1.toNatClampNeg) = p2) => ?_) (fun (c_5 : (mv p1.toNatClampNeg) = p2) => ?_)
        · refine lv_iconst (v := (0 : Int32)) hx hb dX4_guess_61 (by decide) ?_
          refine lv_istore_n (lv' := [(3, .int (0 : Int32)), (0, .ref mh0), (1, .int p1), (2, .int p2)]) hx hb dX4_guess_62 rfl hl (by decide) rfl (fun ls hl => ?_)
          refine lv_iconst (v := (0 : Int32)) hx hb dX4_guess_63 (by decide) ?_
          refine lv_istore (lv' := [(4, .int (0 : Int32)), (3, .int (0 : Int32)), (0, .ref mh0), (1, .int p1), (2, .int p2)]) hx hb dX4_guess_64 hl (by decide) rfl (fun ls hl => ?_)
          refine l_X4_guess_66 F hr hlocks hK hA mh0 mvq maq mlq mhq mfq mrq moq mbq msq 1001 0 (0 : Int32) js mv ma ac po si ta ml mh gu wr mf mr re mo mb ms p1 p2 (0 : Int32) (by omega) (by omega) H locs ls hP hD hS (lv_sub hl [2, 3, 4, 1, 0] rfl) ?_
          intro H locs ls hP hD hS hl
          have hP : va_P G.1 vwCl (w_X4 G mh0 mvq maq mlq mhq mfq mrq moq mbq msq (0 : Int32) js mv ma ac po si ta (lf_X4_guess_66 1001 0 ml p1 p2 (0 : Int32)) mh gu wr mf mr re mo mb ms) H := hP
          have hD : va_D A (w_X4 G mh0 mvq maq mlq mhq mfq mrq moq mbq msq (0 : Int32) js mv ma ac po si ta (lf_X4_guess_66 1001 0 ml p1 p2 (0 : Int32)) mh gu wr mf mr re mo mb ms) := hD
          have hl : lv_has ls 5 [(0, .ref mh0), (3, .int (0 : Int32))] := hl
          refine lv_aload_n hx hb dX4_guess_114 rfl (lv_at hl 0 rfl) ?_
          refine lv_dup hx hb dX4_guess_115 rfl ?_
          refine va_get (D := G.1) (ci := 4) (v := .int gu) (C := RX4) (T := TX4) (N := 18) hx hb hts in_X4_guess_X4 hown hK.1 hP 0 rfl rfl 10 (by decide) (hts (.fieldLink RX4 69 "JarRiddleModel" "guesses" "I") (by decide +kernel)) (fun _ h9 => h9) rfl dX4_guess_116 ?_
          refine lv_iconst (v := (1 : Int32)) hx hb dX4_guess_119 (by decide) ?_
          refine lv_iadd hx hb dX4_guess_120 ?_
          refine va_put (D := G.1) (ci := 4) (v := .int (gu + (1 : Int32))) (ty := .int) (C := RX4) (T := TX4) (N := 18) hx hb hts in_X4_guess_X4 tyX4 tyX4_ok nmX4 hown hK.1 hP hD hS 0 rfl rfl 10 (by decide) (hts (.fieldLink RX4 69 "JarRiddleModel" "guesses" "I") (by decide +kernel)) (fun _ h9 => h9) rfl (by decide +kernel) rfl rfl (Nat.le_of_ble_eq_true rfl) dX4_guess_121 (fun H locs hP hD hS => ?_)
          have hP : va_P G.1 vwCl (w_X4 G mh0 mvq maq mlq mhq mfq mrq moq mbq msq (0 : Int32) js mv ma ac po si ta (lf_X4_guess_66 1001 0 ml p1 p2 (0 : Int32)) mh (gu + (1 : Int32)) wr mf mr re mo mb ms) H := hP
          have hD : va_D A (w_X4 G mh0 mvq maq mlq mhq mfq mrq moq mbq msq (0 : Int32) js mv ma ac po si ta (lf_X4_guess_66 1001 0 ml p1 p2 (0 : Int32)) mh (gu + (1 : Int32)) wr mf mr re mo mb ms) := hD
          refine lv_aload_n hx hb dX4_guess_124 rfl (lv_at hl 0 rfl) ?_
          refine lv_dup hx hb dX4_guess_125 rfl ?_
          refine va_get (D := G.1) (ci := 4) (v := .int wr) (C := RX4) (T := TX4) (N := 18) hx hb hts in_X4_guess_X4 hown hK.1 hP 0 rfl rfl 11 (by decide) (hts (.fieldLink RX4 72 "JarRiddleModel" "wrong" "I") (by decide +kernel)) (fun _ h9 => h9) rfl dX4_guess_126 ?_
          refine lv_iload_n hx hb dX4_guess_129 rfl (lv_at hl 1 rfl) ?_
          refine lv_if_eq (tgt := 137) hx hb dX4_guess_130 (by decide) (fun (c_10 : (0 : Int32) = (0 : Int32)) => ?_) (fun (c_10 : ¬ (0 : Int32) = (0 : Int32)) => ?_)
          · refine lv_iconst (v := (1 : Int32)) hx hb dX4_guess_137 (by decide) ?_
            refine lv_iadd hx hb dX4_guess_138 ?_
            refine va_put (D := G.1) (ci := 4) (v := .int (wr + (1 : Int32))) (ty := .int) (C := RX4) (T := TX4) (N := 18) hx hb hts in_X4_guess_X4 tyX4 tyX4_ok nmX4 hown hK.1 hP hD hS 0 rfl rfl 11 (by decide) (hts (.fieldLink RX4 72 "JarRiddleModel" "wrong" "I") (by decide +kernel)) (fun _ h9 => h9) rfl (by decide +kernel) rfl rfl (Nat.le_of_ble_eq_true rfl) dX4_guess_139 (fun H locs hP hD hS => ?_)
            have hP : va_P G.1 vwCl (w_X4 G mh0 mvq maq mlq mhq mfq mrq moq mbq msq (0 : Int32) js mv ma ac po si ta (lf_X4_guess_66 1001 0 ml p1 p2 (0 : Int32)) mh (gu + (1 : Int32)) (wr + (1 : Int32)) mf mr re mo mb ms) H := hP
            have hD : va_D A (w_X4 G mh0 mvq maq mlq mhq mfq mrq moq mbq msq (0 : Int32) js mv ma ac po si ta (lf_X4_guess_66 1001 0 ml p1 p2 (0 : Int32)) mh (gu + (1 : Int32)) (wr + (1 : Int32)) mf mr re mo mb ms) := hD
            refine lv_iload_n hx hb dX4_guess_142 rfl (lv_at hl 1 rfl) ?_
            have e9 : (f_X4_guess th js mv ml gu wr p1 p2) = ((0 : Int32), (0 : Int32), (lf_X4_guess_66 1001 0 ml p1 p2 (0 : Int32)), (gu + (1 : Int32)), (wr + (1 : Int32))) := (f_X4_guess_eq th js mv ml gu wr p1 p2).trans ((if_neg c_1).trans ((if_neg c_2).trans ((if_neg c_3).trans ((if_neg c_5).trans ((if_pos c_10).trans (rfl))))))
            rw [e9]
            dsimp only
            exact z_zret F hr hlocks hP hD hS () [0, 1, 2, 3, 4, 5, 6, 7, 8, 9] rfl rfl rfl rfl dX4_guess_143
          · refine lv_iconst (v := (0 : Int32)) hx hb dX4_guess_133 (by decide) ?_
            refine lv_goto (tgt := 138) hx hb dX4_guess_134 (by decide) ?_
            refine lv_iadd hx hb dX4_guess_138 ?_
            refine va_put (D := G.1) (ci := 4) (v := .int (wr + (0 : Int32))) (ty := .int) (C := RX4) (T := TX4) (N := 18) hx hb hts in_X4_guess_X4 tyX4 tyX4_ok nmX4 hown hK.1 hP hD hS 0 rfl rfl 11 (by decide) (hts (.fieldLink RX4 72 "JarRiddleModel" "wrong" "I") (by decide +kernel)) (fun _ h9 => h9) rfl (by decide +kernel) rfl rfl (Nat.le_of_ble_eq_true rfl) dX4_guess_139 (fun H locs hP hD hS => ?_)
            have hP : va_P G.1 vwCl (w_X4 G mh0 mvq maq mlq mhq mfq mrq moq mbq msq (0 : Int32) js mv ma ac po si ta (lf_X4_guess_66 1001 0 ml p1 p2 (0 : Int32)) mh (gu + (1 : Int32)) (wr + (0 : Int32)) mf mr re mo mb ms) H := hP
            have hD : va_D A (w_X4 G mh0 mvq maq mlq mhq mfq mrq moq mbq msq (0 : Int32) js mv ma ac po si ta (lf_X4_guess_66 1001 0 ml p1 p2 (0 : Int32)) mh (gu + (1 : Int32)) (wr + (0 : Int32)) mf mr re mo mb ms) := hD
            refine lv_iload_n hx hb dX4_guess_142 rfl (lv_at hl 1 rfl) ?_
            have e9 : (f_X4_guess th js mv ml gu wr p1 p2) = ((0 : Int32), (0 : Int32), (lf_X4_guess_66 1001 0 ml p1 p2 (0 : Int32)), (gu + (1 : Int32)), (wr + (0 : Int32))) := (f_X4_guess_eq th js mv ml gu wr p1 p2).trans ((if_neg c_1).trans ((if_neg c_2).trans ((if_neg c_3).trans ((if_neg c_5).trans ((if_neg c_10).trans (rfl))))))
            rw [e9]
            dsimp only
            exact z_zret F hr hlocks hP hD hS () [0, 1, 2, 3, 4, 5, 6, 7, 8, 9] rfl rfl rfl rfl dX4_guess_143
        · refine lv_iconst (v := (1 : Int32)) hx hb dX4_guess_57 (by decide) ?_
          refine lv_goto (tgt := 62) hx hb dX4_guess_58 (by decide) ?_
          refine lv_istore_n (lv' := [(3, .int (1 : Int32)), (0, .ref mh0), (1, .int p1), (2, .int p2)]) hx hb dX4_guess_62 rfl hl (by decide) rfl (fun ls hl => ?_)
          refine lv_iconst (v := (0 : Int32)) hx hb dX4_guess_63 (by decide) ?_
          refine lv_istore (lv' := [(4, .int (0 : Int32)), (3, .int (1 : Int32)), (0, .ref mh0), (1, .int p1), (2, .int p2)]) hx hb dX4_guess_64 hl (by decide) rfl (fun ls hl => ?_)
          refine l_X4_guess_66 F hr hlocks hK hA mh0 mvq maq mlq mhq mfq mrq moq mbq msq 1001 0 (0 : Int32) js mv ma ac po si ta ml mh gu wr mf mr re mo mb ms p1 p2 (1 : Int32) (by omega) (by omega) H locs ls hP hD hS (lv_sub hl [2, 3, 4, 1, 0] rfl) ?_
          intro H locs ls hP hD hS hl
          have hP : va_P G.1 vwCl (w_X4 G mh0 mvq maq mlq mhq mfq mrq moq mbq msq (0 : Int32) js mv ma ac po si ta (lf_X4_guess_66 1001 0 ml p1 p2 (1 : Int32)) mh gu wr mf mr re mo mb ms) H := hP
          have hD : va_D A (w_X4 G mh0 mvq maq mlq mhq mfq mrq moq mbq msq (0 : Int32) js mv ma ac po si ta (lf_X4_guess_66 1001 0 ml p1 p2 (1 : Int32)) mh gu wr mf mr re mo mb ms) := hD
          have hl : lv_has ls 5 [(0, .ref mh0), (3, .int (1 : Int32))] := hl
          refine lv_aload_n hx hb dX4_guess_114 rfl (lv_at hl 0 rfl) ?_
          refine lv_dup hx hb dX4_guess_115 rfl ?_
          refine va_get (D := G.1) (ci := 4) (v := .int gu) (C := RX4) (T := TX4) (N := 18) hx hb hts in_X4_guess_X4 hown hK.1 hP 0 rfl rfl 10 (by decide) (hts (.fieldLink RX4 69 "JarRiddleModel" "guesses" "I") (by decide +kernel)) (fun _ h9 => h9) rfl dX4_guess_116 ?_
          refine lv_iconst (v := (1 : Int32)) hx hb dX4_guess_119 (by decide) ?_
          refine lv_iadd hx hb dX4_guess_120 ?_
          refine va_put (D := G.1) (ci := 4) (v := .int (gu + (1 : Int32))) (ty := .int) (C := RX4) (T := TX4) (N := 18) hx hb hts in_X4_guess_X4 tyX4 tyX4_ok nmX4 hown hK.1 hP hD hS 0 rfl rfl 10 (by decide) (hts (.fieldLink RX4 69 "JarRiddleModel" "guesses" "I") (by decide +kernel)) (fun _ h9 => h9) rfl (by decide +kernel) rfl rfl (Nat.le_of_ble_eq_true rfl) dX4_guess_121 (fun H locs hP hD hS => ?_)
          have hP : va_P G.1 vwCl (w_X4 G mh0 mvq maq mlq mhq mfq mrq moq mbq msq (0 : Int32) js mv ma ac po si ta (lf_X4_guess_66 1001 0 ml p1 p2 (1 : Int32)) mh (gu + (1 : Int32)) wr mf mr re mo mb ms) H := hP
          have hD : va_D A (w_X4 G mh0 mvq maq mlq mhq mfq mrq moq mbq msq (0 : Int32) js mv ma ac po si ta (lf_X4_guess_66 1001 0 ml p1 p2 (1 : Int32)) mh (gu + (1 : Int32)) wr mf mr re mo mb ms) := hD
          refine lv_aload_n hx hb dX4_guess_124 rfl (lv_at hl 0 rfl) ?_
          refine lv_dup hx hb dX4_guess_125 rfl ?_
          refine va_get (D := G.1) (ci := 4) (v := .int wr) (C := RX4) (T := TX4) (N := 18) hx hb hts in_X4_guess_X4 hown hK.1 hP 0 rfl rfl 11 (by decide) (hts (.fieldLink RX4 72 "JarRiddleModel" "wrong" "I") (by decide +kernel)) (fun _ h9 => h9) rfl dX4_guess_126 ?_
          refine lv_iload_n hx hb dX4_guess_129 rfl (lv_at hl 1 rfl) ?_
          refine lv_if_eq (tgt := 137) hx hb dX4_guess_130 (by decide) (fun (c_11 : (1 : Int32) = (0 : Int32)) => ?_) (fun (c_11 : ¬ (1 : Int32) = (0 : Int32)) => ?_)
          · refine lv_iconst (v := (1 : Int32)) hx hb dX4_guess_137 (by decide) ?_
            refine lv_iadd hx hb dX4_guess_138 ?_
            refine va_put (D := G.1) (ci := 4) (v := .int (wr + (1 : Int32))) (ty := .int) (C := RX4) (T := TX4) (N := 18) hx hb hts in_X4_guess_X4 tyX4 tyX4_ok nmX4 hown hK.1 hP hD hS 0 rfl rfl 11 (by decide) (hts (.fieldLink RX4 72 "JarRiddleModel" "wrong" "I") (by decide +kernel)) (fun _ h9 => h9) rfl (by decide +kernel) rfl rfl (Nat.le_of_ble_eq_true rfl) dX4_guess_139 (fun H locs hP hD hS => ?_)
            have hP : va_P G.1 vwCl (w_X4 G mh0 mvq maq mlq mhq mfq mrq moq mbq msq (0 : Int32) js mv ma ac po si ta (lf_X4_guess_66 1001 0 ml p1 p2 (1 : Int32)) mh (gu + (1 : Int32)) (wr + (1 : Int32)) mf mr re mo mb ms) H := hP
            have hD : va_D A (w_X4 G mh0 mvq maq mlq mhq mfq mrq moq mbq msq (0 : Int32) js mv ma ac po si ta (lf_X4_guess_66 1001 0 ml p1 p2 (1 : Int32)) mh (gu + (1 : Int32)) (wr + (1 : Int32)) mf mr re mo mb ms) := hD
            refine lv_iload_n hx hb dX4_guess_142 rfl (lv_at hl 1 rfl) ?_
            have e9 : (f_X4_guess th js mv ml gu wr p1 p2) = ((1 : Int32), (0 : Int32), (lf_X4_guess_66 1001 0 ml p1 p2 (1 : Int32)), (gu + (1 : Int32)), (wr + (1 : Int32))) := (f_X4_guess_eq th js mv ml gu wr p1 p2).trans ((if_neg c_1).trans ((if_neg c_2).trans ((if_neg c_3).trans ((if_pos c_5).trans ((if_pos c_11).trans (rfl))))))
            rw [e9]
            dsimp only
            exact z_zret F hr hlocks hP hD hS () [0, 1, 2, 3, 4, 5, 6, 7, 8, 9] rfl rfl rfl rfl dX4_guess_143
          · refine lv_iconst (v := (0 : Int32)) hx hb dX4_guess_133 (by decide) ?_
            refine lv_goto (tgt := 138) hx hb dX4_guess_134 (by decide) ?_
            refine lv_iadd hx hb dX4_guess_138 ?_
            refine va_put (D := G.1) (ci := 4) (v := .int (wr + (0 : Int32))) (ty := .int) (C := RX4) (T := TX4) (N := 18) hx hb hts in_X4_guess_X4 tyX4 tyX4_ok nmX4 hown hK.1 hP hD hS 0 rfl rfl 11 (by decide) (hts (.fieldLink RX4 72 "JarRiddleModel" "wrong" "I") (by decide +kernel)) (fun _ h9 => h9) rfl (by decide +kernel) rfl rfl (Nat.le_of_ble_eq_true rfl) dX4_guess_139 (fun H locs hP hD hS => ?_)
            have hP : va_P G.1 vwCl (w_X4 G mh0 mvq maq mlq mhq mfq mrq moq mbq msq (0 : Int32) js mv ma ac po si ta (lf_X4_guess_66 1001 0 ml p1 p2 (1 : Int32)) mh (gu + (1 : Int32)) (wr + (0 : Int32)) mf mr re mo mb ms) H := hP
            have hD : va_D A (w_X4 G mh0 mvq maq mlq mhq mfq mrq moq mbq msq (0 : Int32) js mv ma ac po si ta (lf_X4_guess_66 1001 0 ml p1 p2 (1 : Int32)) mh (gu + (1 : Int32)) (wr + (0 : Int32)) mf mr re mo mb ms) := hD
            refine lv_iload_n hx hb dX4_guess_142 rfl (lv_at hl 1 rfl) ?_
            have e9 : (f_X4_guess th js mv ml gu wr p1 p2) = ((1 : Int32), (0 : Int32), (lf_X4_guess_66 1001 0 ml p1 p2 (1 : Int32)), (gu + (1 : Int32)), (wr + (0 : Int32))) := (f_X4_guess_eq th js mv ml gu wr p1 p2).trans ((if_neg c_1).trans ((if_neg c_2).trans ((if_neg c_3).trans ((if_pos c_5).trans ((if_neg c_11).trans (rfl))))))
            rw [e9]
            dsimp only
            exact z_zret F hr hlocks hP hD hS () [0, 1, 2, 3, 4, 5, 6, 7, 8, 9] rfl rfl rfl rfl dX4_guess_143
      · refine lv_aload_n hx hb dX4_guess_41 rfl (lv_at hl 0 rfl) ?_
        refine lv_iconst (v := (3 : Int32)) hx hb dX4_guess_42 (by decide) ?_
        refine z_callV (As := [.int (3 : Int32)]) (rest := []) (wr := ([] : va_W)) (w1 := fun _ : Unit => (w_X4 G mh0 mvq maq mlq mhq mfq mrq moq mbq msq ((f_X4_isNot (0 : Int32) (3 : Int32)).2) js mv ma ac po si ta ml mh gu wr mf mr re mo mb ms)) (wj := fun _ : Unit => (w_X4 G mh0 mvq maq mlq mhq mfq mrq moq mbq msq (f_X4_isNot (0 : Int32) (3 : Int32)).2 js mv ma ac po si ta ml mh gu wr mf mr re mo mb ms)) (ci := 4) (q0 := 0) F (c_X4_isNot l G mh0 mvq maq mlq mhq mfq mrq moq mbq msq (0 : Int32) js mv ma ac po si ta ml mh gu wr mf mr re mo mb ms (3 : Int32)) gX4_guess_X4_isNot rfl rfl rfl zd_X4_isNot ⟨Nat.le_of_ble_eq_true rfl, Nat.le_of_ble_eq_true rfl⟩ rfl rfl (Nat.le_of_ble_eq_true rfl) dX4_guess_43 ⟨Nat.le_of_ble_eq_true rfl, Nat.le_of_ble_eq_true rfl⟩ hK hP hD hS hA hl.1 rfl rfl [0, 1, 2, 3, 4, 5, 6, 7, 8, 9] [] [0, 1, 2, 3, 4, 5, 6, 7, 8, 9] rfl rfl rfl rfl (by decide) rfl (fun _ => rfl) (fun _ H locs hP hD hS => ?_)
        have hP : va_P G.1 vwCl (w_X4 G mh0 mvq maq mlq mhq mfq mrq moq mbq msq (f_X4_isNot (0 : Int32) (3 : Int32)).2 js mv ma ac po si ta ml mh gu wr mf mr re mo mb ms) H := hP
        have hD : va_D A (w_X4 G mh0 mvq maq mlq mhq mfq mrq moq mbq msq (f_X4_isNot (0 : Int32) (3 : Int32)).2 js mv ma ac po si ta ml mh gu wr mf mr re mo mb ms) := hD
        have e9 : (f_X4_guess th js mv ml gu wr p1 p2) = ((f_X4_isNot (0 : Int32) (3 : Int32)).1, (f_X4_isNot (0 : Int32) (3 : Int32)).2, ml, gu, wr) := (f_X4_guess_eq th js mv ml gu wr p1 p2).trans ((if_neg c_1).trans ((if_neg c_2).trans ((if_pos c_3).trans (rfl))))
        rw [e9]
        dsimp only
        exact z_zret F hr hlocks hP hD hS () [0, 1, 2, 3, 4, 5, 6, 7, 8, 9] rfl rfl rfl (zb_nar (b_X4_isNot (0 : Int32) (3 : Int32))) dX4_guess_46
    · refine lv_aload_n hx hb dX4_guess_26 rfl (lv_at hl 0 rfl) ?_
      refine lv_iconst (v := (2 : Int32)) hx hb dX4_guess_27 (by decide) ?_
      refine z_callV (As := [.int (2 : Int32)]) (rest := []) (wr := ([] : va_W)) (w1 := fun _ : Unit => (w_X4 G mh0 mvq maq mlq mhq mfq mrq moq mbq msq ((f_X4_isNot (0 : Int32) (2 : Int32)).2) js mv ma ac po si ta ml mh gu wr mf mr re mo mb ms)) (wj := fun _ : Unit => (w_X4 G mh0 mvq maq mlq mhq mfq mrq moq mbq msq (f_X4_isNot (0 : Int32) (2 : Int32)).2 js mv ma ac po si ta ml mh gu wr mf mr re mo mb ms)) (ci := 4) (q0 := 0) F (c_X4_isNot l G mh0 mvq maq mlq mhq mfq mrq moq mbq msq (0 : Int32) js mv ma ac po si ta ml mh gu wr mf mr re mo mb ms (2 : Int32)) gX4_guess_X4_isNot rfl rfl rfl zd_X4_isNot ⟨Nat.le_of_ble_eq_true rfl, Nat.le_of_ble_eq_true rfl⟩ rfl rfl (Nat.le_of_ble_eq_true rfl) dX4_guess_28 ⟨Nat.le_of_ble_eq_true rfl, Nat.le_of_ble_eq_true rfl⟩ hK hP hD hS hA hl.1 rfl rfl [0, 1, 2, 3, 4, 5, 6, 7, 8, 9] [] [0, 1, 2, 3, 4, 5, 6, 7, 8, 9] rfl rfl rfl rfl (by decide) rfl (fun _ => rfl) (fun _ H locs hP hD hS => ?_)
      have hP : va_P G.1 vwCl (w_X4 G mh0 mvq maq mlq mhq mfq mrq moq mbq msq (f_X4_isNot (0 : Int32) (2 : Int32)).2 js mv ma ac po si ta ml mh gu wr mf mr re mo mb ms) H := hP
      have hD : va_D A (w_X4 G mh0 mvq maq mlq mhq mfq mrq moq mbq msq (f_X4_isNot (0 : Int32) (2 : Int32)).2 js mv ma ac po si ta ml mh gu wr mf mr re mo mb ms) := hD
      have e9 : (f_X4_guess th js mv ml gu wr p1 p2) = ((f_X4_isNot (0 : Int32) (2 : Int32)).1, (f_X4_isNot (0 : Int32) (2 : Int32)).2, ml, gu, wr) := (f_X4_guess_eq th js mv ml gu wr p1 p2).trans ((if_neg c_1).trans ((if_pos c_2).trans (rfl)))
      rw [e9]
      dsimp only
      exact z_zret F hr hlocks hP hD hS () [0, 1, 2, 3, 4, 5, 6, 7, 8, 9] rfl rfl rfl (zb_nar (b_X4_isNot (0 : Int32) (2 : Int32))) dX4_guess_31
  · refine lv_aload_n hx hb dX4_guess_13 rfl (lv_at hl 0 rfl) ?_
    refine lv_iconst (v := (1 : Int32)) hx hb dX4_guess_14 (by decide) ?_
    refine z_callV (As := [.int (1 : Int32)]) (rest := []) (wr := ([] : va_W)) (w1 := fun _ : Unit => (w_X4 G mh0 mvq maq mlq mhq mfq mrq moq mbq msq ((f_X4_isNot (0 : Int32) (1 : Int32)).2) js mv ma ac po si ta ml mh gu wr mf mr re mo mb ms)) (wj := fun _ : Unit => (w_X4 G mh0 mvq maq mlq mhq mfq mrq moq mbq msq (f_X4_isNot (0 : Int32) (1 : Int32)).2 js mv ma ac po si ta ml mh gu wr mf mr re mo mb ms)) (ci := 4) (q0 := 0) F (c_X4_isNot l G mh0 mvq maq mlq mhq mfq mrq moq mbq msq (0 : Int32) js mv ma ac po si ta ml mh gu wr mf mr re mo mb ms (1 : Int32)) gX4_guess_X4_isNot rfl rfl rfl zd_X4_isNot ⟨Nat.le_of_ble_eq_true rfl, Nat.le_of_ble_eq_true rfl⟩ rfl rfl (Nat.le_of_ble_eq_true rfl) dX4_guess_15 ⟨Nat.le_of_ble_eq_true rfl, Nat.le_of_ble_eq_true rfl⟩ hK hP hD hS hA hl.1 rfl rfl [0, 1, 2, 3, 4, 5, 6, 7, 8, 9] [] [0, 1, 2, 3, 4, 5, 6, 7, 8, 9] rfl rfl rfl rfl (by decide) rfl (fun _ => rfl) (fun _ H locs hP hD hS => ?_)
    have hP : va_P G.1 vwCl (w_X4 G mh0 mvq maq mlq mhq mfq mrq moq mbq msq (f_X4_isNot (0 : Int32) (1 : Int32)).2 js mv ma ac po si ta ml mh gu wr mf mr re mo mb ms) H := hP
    have hD : va_D A (w_X4 G mh0 mvq maq mlq mhq mfq mrq moq mbq msq (f_X4_isNot (0 : Int32) (1 : Int32)).2 js mv ma ac po si ta ml mh gu wr mf mr re mo mb ms) := hD
    have e9 : (f_X4_guess th js mv ml gu wr p1 p2) = ((f_X4_isNot (0 : Int32) (1 : Int32)).1, (f_X4_isNot (0 : Int32) (1 : Int32)).2, ml, gu, wr) := (f_X4_guess_eq th js mv ml gu wr p1 p2).trans ((if_pos c_1).trans (rfl))
    rw [e9]
    dsimp only
    exact z_zret F hr hlocks hP hD hS () [0, 1, 2, 3, 4, 5, 6, 7, 8, 9] rfl rfl rfl (zb_nar (b_X4_isNot (0 : Int32) (1 : Int32))) dX4_guess_18
def f_X4_guesses (th : Int32) (gu : Int32) : Int32 × Int32 := ((f_X4_ok th gu).1, (f_X4_ok th gu).2)
theorem f_X4_guesses_eq (th : Int32) (gu : Int32) : f_X4_guesses th gu = ((f_X4_ok th gu).1, (f_X4_ok th gu).2) := rfl
abbrev rm_X4_guesses : Room := { frames := 1, cells := 0, slots := 0, locals := 21 }
theorem zd_X4_guesses : yX4_guesses.cls = RX4 ∧ yX4_guesses.cls ≠ "java/lang/invoke/MethodHandle" ∧ yX4_guesses.cls ≠ "java/lang/invoke/VarHandle" ∧ (parseMethodDescriptor yX4_guesses.desc).map (fun d => d.parameters.length) = some 0 := by decide +kernel
theorem in_X4_guesses_X4 : ∀ w ∈ u_ws RX4 TX4 18, w ∈ wsX4_guesses := by decide +kernel
set_option maxHeartbeats 4000000 in
set_option maxRecDepth 100000 in
/-- JarRiddleModel.guesses()I -/
theorem c_X4_guesses (l : Launch) (G : zG) (mh0 mvq maq mlq mhq mfq mrq moq mbq msq : Nat) (th : Int32) (js : Int32) (mv : Nat → Int32) (ma : Nat → Int32) (ac : Int32) (po : Int32) (si : Int32) (ta : Int32) (ml : Nat → Int32) (mh : Nat → Int32) (gu : Int32) (wr : Int32) (mf : Nat → Int32) (mr : Nat → Int32) (re : Int32) (mo : Nat → Int32) (mb : Nat → Int32) (ms : Nat → Int32) : zC l G yX4_guesses wsX4_guesses rm_X4_guesses 0 0 [.ref mh0] (w_X4 G mh0 mvq maq mlq mhq mfq mrq moq mbq msq th js mv ma ac po si ta ml mh gu wr mf mr re mo mb ms) (some (.int (f_X4_guesses th gu).1)) (fun _ : Unit => (w_X4 G mh0 mvq maq mlq mhq mfq mrq moq mbq msq ((f_X4_guesses th gu).2) js mv ma ac po si ta ml mh gu wr mf mr re mo mb ms)) := by
  refine z_of (cc := cX4_guesses) (maxL := 1) (ret := (some .int)) (own := RX4) (by decide) rfl rfl (Nat.le_of_ble_eq_true rfl) ?_
  intro p e s m args below meth c A H locs ls F hr hlocks hname hK hA hP hD hS hl
  obtain ⟨hx, hb, hml, hown, hts⟩ := id F
  have hl : lv_has ls 1 [(0, .ref mh0)] := hl
  refine lv_aload_n hx hb dX4_guesses_0 rfl (lv_at hl 0 rfl) ?_
  refine lv_aload_n hx hb dX4_guesses_1 rfl (lv_at hl 0 rfl) ?_
  refine va_get (D := G.1) (ci := 4) (v := .int gu) (C := RX4) (T := TX4) (N := 18) hx hb hts in_X4_guesses_X4 hown hK.1 hP 0 rfl rfl 10 (by decide) (hts (.fieldLink RX4 69 "JarRiddleModel" "guesses" "I") (by decide +kernel)) (fun _ h9 => h9) rfl dX4_guesses_2 ?_
  refine z_callV (As := [.int gu]) (rest := []) (wr := ([] : va_W)) (w1 := fun _ : Unit => (w_X4 G mh0 mvq maq mlq mhq mfq mrq moq mbq msq ((f_X4_ok th gu).2) js mv ma ac po si ta ml mh gu wr mf mr re mo mb ms)) (wj := fun _ : Unit => (w_X4 G mh0 mvq maq mlq mhq mfq mrq moq mbq msq (f_X4_ok th gu).2 js mv ma ac po si ta ml mh gu wr mf mr re mo mb ms)) (ci := 4) (q0 := 0) F (c_X4_ok l G mh0 mvq maq mlq mhq mfq mrq moq mbq msq th js mv ma ac po si ta ml mh gu wr mf mr re mo mb ms gu) gX4_guesses_X4_ok rfl rfl rfl zd_X4_ok ⟨Nat.le_of_ble_eq_true rfl, Nat.le_of_ble_eq_true rfl⟩ rfl rfl (Nat.le_of_ble_eq_true rfl) dX4_guesses_5 ⟨Nat.le_of_ble_eq_true rfl, Nat.le_of_ble_eq_true rfl⟩ hK hP hD hS hA hl.1 rfl rfl [0, 1, 2, 3, 4, 5, 6, 7, 8, 9] [] [0, 1, 2, 3, 4, 5, 6, 7, 8, 9] rfl rfl rfl rfl (by decide) rfl (fun _ => rfl) (fun _ H locs hP hD hS => ?_)
  have hP : va_P G.1 vwCl (w_X4 G mh0 mvq maq mlq mhq mfq mrq moq mbq msq (f_X4_ok th gu).2 js mv ma ac po si ta ml mh gu wr mf mr re mo mb ms) H := hP
  have hD : va_D A (w_X4 G mh0 mvq maq mlq mhq mfq mrq moq mbq msq (f_X4_ok th gu).2 js mv ma ac po si ta ml mh gu wr mf mr re mo mb ms) := hD
  have e9 : (f_X4_guesses th gu) = ((f_X4_ok th gu).1, (f_X4_ok th gu).2) := (f_X4_guesses_eq th gu).trans (rfl)
  rw [e9]
  dsimp only
  exact z_iret F hr hlocks hP hD hS () [0, 1, 2, 3, 4, 5, 6, 7, 8, 9] rfl rfl rfl dX4_guesses_8
def f_X4_wrongGuesses (th : Int32) (wr : Int32) : Int32 × Int32 := ((f_X4_ok th wr).1, (f_X4_ok th wr).2)
theorem f_X4_wrongGuesses_eq (th : Int32) (wr : Int32) : f_X4_wrongGuesses th wr = ((f_X4_ok th wr).1, (f_X4_ok th wr).2) := rfl
abbrev rm_X4_wrongGuesses : Room := { frames := 1, cells := 0, slots := 0, locals := 21 }
theorem zd_X4_wrongGuesses : yX4_wrongGuesses.cls = RX4 ∧ yX4_wrongGuesses.cls ≠ "java/lang/invoke/MethodHandle" ∧ yX4_wrongGuesses.cls ≠ "java/lang/invoke/VarHandle" ∧ (parseMethodDescriptor yX4_wrongGuesses.desc).map (fun d => d.parameters.length) = some 0 := by decide +kernel
theorem in_X4_wrongGuesses_X4 : ∀ w ∈ u_ws RX4 TX4 18, w ∈ wsX4_wrongGuesses := by decide +kernel
set_option maxHeartbeats 4000000 in
set_option maxRecDepth 100000 in
/-- JarRiddleModel.wrongGuesses()I -/
theorem c_X4_wrongGuesses (l : Launch) (G : zG) (mh0 mvq maq mlq mhq mfq mrq moq mbq msq : Nat) (th : Int32) (js : Int32) (mv : Nat → Int32) (ma : Nat → Int32) (ac : Int32) (po : Int32) (si : Int32) (ta : Int32) (ml : Nat → Int32) (mh : Nat → Int32) (gu : Int32) (wr : Int32) (mf : Nat → Int32) (mr : Nat → Int32) (re : Int32) (mo : Nat → Int32) (mb : Nat → Int32) (ms : Nat → Int32) : zC l G yX4_wrongGuesses wsX4_wrongGuesses rm_X4_wrongGuesses 0 0 [.ref mh0] (w_X4 G mh0 mvq maq mlq mhq mfq mrq moq mbq msq th js mv ma ac po si ta ml mh gu wr mf mr re mo mb ms) (some (.int (f_X4_wrongGuesses th wr).1)) (fun _ : Unit => (w_X4 G mh0 mvq maq mlq mhq mfq mrq moq mbq msq ((f_X4_wrongGuesses th wr).2) js mv ma ac po si ta ml mh gu wr mf mr re mo mb ms)) := by
  refine z_of (cc := cX4_wrongGuesses) (maxL := 1) (ret := (some .int)) (own := RX4) (by decide) rfl rfl (Nat.le_of_ble_eq_true rfl) ?_
  intro p e s m args below meth c A H locs ls F hr hlocks hname hK hA hP hD hS hl
  obtain ⟨hx, hb, hml, hown, hts⟩ := id F
  have hl : lv_has ls 1 [(0, .ref mh0)] := hl
  refine lv_aload_n hx hb dX4_wrongGuesses_0 rfl (lv_at hl 0 rfl) ?_
  refine lv_aload_n hx hb dX4_wrongGuesses_1 rfl (lv_at hl 0 rfl) ?_
  refine va_get (D := G.1) (ci := 4) (v := .int wr) (C := RX4) (T := TX4) (N := 18) hx hb hts in_X4_wrongGuesses_X4 hown hK.1 hP 0 rfl rfl 11 (by decide) (hts (.fieldLink RX4 72 "JarRiddleModel" "wrong" "I") (by decide +kernel)) (fun _ h9 => h9) rfl dX4_wrongGuesses_2 ?_
  refine z_callV (As := [.int wr]) (rest := []) (wr := ([] : va_W)) (w1 := fun _ : Unit => (w_X4 G mh0 mvq maq mlq mhq mfq mrq moq mbq msq ((f_X4_ok th wr).2) js mv ma ac po si ta ml mh gu wr mf mr re mo mb ms)) (wj := fun _ : Unit => (w_X4 G mh0 mvq maq mlq mhq mfq mrq moq mbq msq (f_X4_ok th wr).2 js mv ma ac po si ta ml mh gu wr mf mr re mo mb ms)) (ci := 4) (q0 := 0) F (c_X4_ok l G mh0 mvq maq mlq mhq mfq mrq moq mbq msq th js mv ma ac po si ta ml mh gu wr mf mr re mo mb ms wr) gX4_wrongGuesses_X4_ok rfl rfl rfl zd_X4_ok ⟨Nat.le_of_ble_eq_true rfl, Nat.le_of_ble_eq_true rfl⟩ rfl rfl (Nat.le_of_ble_eq_true rfl) dX4_wrongGuesses_5 ⟨Nat.le_of_ble_eq_true rfl, Nat.le_of_ble_eq_true rfl⟩ hK hP hD hS hA hl.1 rfl rfl [0, 1, 2, 3, 4, 5, 6, 7, 8, 9] [] [0, 1, 2, 3, 4, 5, 6, 7, 8, 9] rfl rfl rfl rfl (by decide) rfl (fun _ => rfl) (fun _ H locs hP hD hS => ?_)
  have hP : va_P G.1 vwCl (w_X4 G mh0 mvq maq mlq mhq mfq mrq moq mbq msq (f_X4_ok th wr).2 js mv ma ac po si ta ml mh gu wr mf mr re mo mb ms) H := hP
  have hD : va_D A (w_X4 G mh0 mvq maq mlq mhq mfq mrq moq mbq msq (f_X4_ok th wr).2 js mv ma ac po si ta ml mh gu wr mf mr re mo mb ms) := hD
  have e9 : (f_X4_wrongGuesses th wr) = ((f_X4_ok th wr).1, (f_X4_ok th wr).2) := (f_X4_wrongGuesses_eq th wr).trans (rfl)
  rw [e9]
  dsimp only
  exact z_iret F hr hlocks hP hD hS () [0, 1, 2, 3, 4, 5, 6, 7, 8, 9] rfl rfl rfl dX4_wrongGuesses_8
def f_X4_mostLeft_t1 (js : Int32) (mh : Nat → Int32) (mo : Nat → Int32) (mb : Nat → Int32) (ms : Nat → Int32) (x1 : Int32) (k : Nat) : Nat → Int32 := (upd ms (f_X4_sight js ((f_X4_move ((f_X4_lookAtRow mh mo mb (nI k)).1) ((f_X4_lookAtRow mh mo mb (nI k)).2) x1).2) ((f_X4_lookAtRow mh mo mb (nI k)).2)).toNatClampNeg ((ms (f_X4_sight js ((f_X4_move ((f_X4_lookAtRow mh mo mb (nI k)).1) ((f_X4_lookAtRow mh mo mb (nI k)).2) x1).2) ((f_X4_lookAtRow mh mo mb (nI k)).2)).toNatClampNeg) + (1 : Int32)))
def f_X4_mostLeft_t2 (js : Int32) (mh : Nat → Int32) (mo : Nat → Int32) (mb : Nat → Int32) (ms : Nat → Int32) (x1 : Int32) (k : Nat) (x2 : Int32) : Int32 := (if x2 < ((f_X4_mostLeft_t1 js mh mo mb ms x1 k) (f_X4_sight js ((f_X4_move ((f_X4_lookAtRow mh mo mb (nI k)).1) ((f_X4_lookAtRow mh mo mb (nI k)).2) x1).2) ((f_X4_lookAtRow mh mo mb (nI k)).2)).toNatClampNeg) then ((f_X4_mostLeft_t1 js mh mo mb ms x1 k) (f_X4_sight js ((f_X4_move ((f_X4_lookAtRow mh mo mb (nI k)).1) ((f_X4_lookAtRow mh mo mb (nI k)).2) x1).2) ((f_X4_lookAtRow mh mo mb (nI k)).2)).toNatClampNeg) else x2)
def lf_X4_mostLeft_2 : Nat → Nat → (Nat → Int32) → (Nat → Int32)
  | 0, k, ms => ms
  | n + 1, k, ms => (if (64 : Int32) ≤ (nI k) then ms else (lf_X4_mostLeft_2 n (k + 1) (upd ms (nI k).toNatClampNeg (0 : Int32))))
theorem lf_X4_mostLeft_2_succ (n k : Nat) (ms : Nat → Int32) : lf_X4_mostLeft_2 (n + 1) k ms = (if (64 : Int32) ≤ (nI k) then ms else (lf_X4_mostLeft_2 n (k + 1) (upd ms (nI k).toNatClampNeg (0 : Int32)))) := rfl
def lf_X4_mostLeft_28 : Nat → Nat → Int32 → (Nat → Int32) → (Nat → Int32) → (Nat → Int32) → (Nat → Int32) → (Nat → Int32) → Int32 → Int32 → (Nat → Int32) × (Nat → Int32) × (Nat → Int32) × Int32
  | 0, k, js, ml, mh, mo, mb, ms, x1, x2 => (mo, mb, ms, x2)
  | n + 1, k, js, ml, mh, mo, mb, ms, x1, x2 => (if (1000 : Int32) ≤ (nI k) then (mo, mb, ms, x2) else (if (ml (nI k).toNatClampNeg) = (0 : Int32) then (lf_X4_mostLeft_28 n (k + 1) js ml mh mo mb ms x1 x2) else (lf_X4_mostLeft_28 n (k + 1) js ml mh ((f_X4_move ((f_X4_lookAtRow mh mo mb (nI k)).1) ((f_X4_lookAtRow mh mo mb (nI k)).2) x1).2) ((f_X4_lookAtRow mh mo mb (nI k)).2) (f_X4_mostLeft_t1 js mh mo mb ms x1 k) x1 (f_X4_mostLeft_t2 js mh mo mb ms x1 k x2))))
theorem lf_X4_mostLeft_28_succ (n k : Nat) (js : Int32) (ml : Nat → Int32) (mh : Nat → Int32) (mo : Nat → Int32) (mb : Nat → Int32) (ms : Nat → Int32) (x1 : Int32) (x2 : Int32) : lf_X4_mostLeft_28 (n + 1) k js ml mh mo mb ms x1 x2 = (if (1000 : Int32) ≤ (nI k) then (mo, mb, ms, x2) else (if (ml (nI k).toNatClampNeg) = (0 : Int32) then (lf_X4_mostLeft_28 n (k + 1) js ml mh mo mb ms x1 x2) else (lf_X4_mostLeft_28 n (k + 1) js ml mh ((f_X4_move ((f_X4_lookAtRow mh mo mb (nI k)).1) ((f_X4_lookAtRow mh mo mb (nI k)).2) x1).2) ((f_X4_lookAtRow mh mo mb (nI k)).2) (f_X4_mostLeft_t1 js mh mo mb ms x1 k) x1 (f_X4_mostLeft_t2 js mh mo mb ms x1 k x2)))) := rfl
def f_X4_mostLeft (js : Int32) (ml : Nat → Int32) (mh : Nat → Int32) (mo : Nat → Int32) (mb : Nat → Int32) (ms : Nat → Int32) (p1 : Int32) : Int32 × (Nat → Int32) × (Nat → Int32) × (Nat → Int32) := ((lf_X4_mostLeft_28 1001 0 js ml mh mo mb (lf_X4_mostLeft_2 65 0 ms) p1 (0 : Int32)).2.2.2, (lf_X4_mostLeft_28 1001 0 js ml mh mo mb (lf_X4_mostLeft_2 65 0 ms) p1 (0 : Int32)).1, (lf_X4_mostLeft_28 1001 0 js ml mh mo mb (lf_X4_mostLeft_2 65 0 ms) p1 (0 : Int32)).2.1, (lf_X4_mostLeft_28 1001 0 js ml mh mo mb (lf_X4_mostLeft_2 65 0 ms) p1 (0 : Int32)).2.2.1)
theorem f_X4_mostLeft_eq (js : Int32) (ml : Nat → Int32) (mh : Nat → Int32) (mo : Nat → Int32) (mb : Nat → Int32) (ms : Nat → Int32) (p1 : Int32) : f_X4_mostLeft js ml mh mo mb ms p1 = ((lf_X4_mostLeft_28 1001 0 js ml mh mo mb (lf_X4_mostLeft_2 65 0 ms) p1 (0 : Int32)).2.2.2, (lf_X4_mostLeft_28 1001 0 js ml mh mo mb (lf_X4_mostLeft_2 65 0 ms) p1 (0 : Int32)).1, (lf_X4_mostLeft_28 1001 0 js ml mh mo mb (lf_X4_mostLeft_2 65 0 ms) p1 (0 : Int32)).2.1, (lf_X4_mostLeft_28 1001 0 js ml mh mo mb (lf_X4_mostLeft_2 65 0 ms) p1 (0 : Int32)).2.2.1) := rfl
def sf_X4_mostLeft_28 : Nat → Nat → Int32 → (Nat → Int32) → (Nat → Int32) → (Nat → Int32) → (Nat → Int32) → Int32 → Prop
  | 0, k, js, ml, mh, mo, mb, x1 => True
  | n + 1, k, js, ml, mh, mo, mb, x1 => (((1000 : Int32) ≤ (nI k) → True) ∧ (¬ (1000 : Int32) ≤ (nI k) → (((ml (nI k).toNatClampNeg) = (0 : Int32) → (sf_X4_mostLeft_28 n (k + 1) js ml mh mo mb x1)) ∧ (¬ (ml (nI k).toNatClampNeg) = (0 : Int32) → (s_X4_lookAtRow (nI k)) ∧ (s_X4_move x1) ∧ (s_X4_sight js ((f_X4_move ((f_X4_lookAtRow mh mo mb (nI k)).1) ((f_X4_lookAtRow mh mo mb (nI k)).2) x1).2) ((f_X4_lookAtRow mh mo mb (nI k)).2)) ∧ vp_in (f_X4_sight js ((f_X4_move ((f_X4_lookAtRow mh mo mb (nI k)).1) ((f_X4_lookAtRow mh mo mb (nI k)).2) x1).2) ((f_X4_lookAtRow mh mo mb (nI k)).2)) 64 ∧ vp_in (f_X4_sight js ((f_X4_move ((f_X4_lookAtRow mh mo mb (nI k)).1) ((f_X4_lookAtRow mh mo mb (nI k)).2) x1).2) ((f_X4_lookAtRow mh mo mb (nI k)).2)) 64 ∧ vp_in (f_X4_sight js ((f_X4_move ((f_X4_lookAtRow mh mo mb (nI k)).1) ((f_X4_lookAtRow mh mo mb (nI k)).2) x1).2) ((f_X4_lookAtRow mh mo mb (nI k)).2)) 64 ∧ (sf_X4_mostLeft_28 n (k + 1) js ml mh ((f_X4_move ((f_X4_lookAtRow mh mo mb (nI k)).1) ((f_X4_lookAtRow mh mo mb (nI k)).2) x1).2) ((f_X4_lookAtRow mh mo mb (nI k)).2) x1)))))
theorem sf_X4_mostLeft_28_succ (n k : Nat) (js : Int32) (ml : Nat → Int32) (mh : Nat → Int32) (mo : Nat → Int32) (mb : Nat → Int32) (x1 : Int32) : sf_X4_mostLeft_28 (n + 1) k js ml mh mo mb x1 = ((((1000 : Int32) ≤ (nI k) → True) ∧ (¬ (1000 : Int32) ≤ (nI k) → (((ml (nI k).toNatClampNeg) = (0 : Int32) → (sf_X4_mostLeft_28 n (k + 1) js ml mh mo mb x1)) ∧ (¬ (ml (nI k).toNatClampNeg) = (0 : Int32) → (s_X4_lookAtRow (nI k)) ∧ (s_X4_move x1) ∧ (s_X4_sight js ((f_X4_move ((f_X4_lookAtRow mh mo mb (nI k)).1) ((f_X4_lookAtRow mh mo mb (nI k)).2) x1).2) ((f_X4_lookAtRow mh mo mb (nI k)).2)) ∧ vp_in (f_X4_sight js ((f_X4_move ((f_X4_lookAtRow mh mo mb (nI k)).1) ((f_X4_lookAtRow mh mo mb (nI k)).2) x1).2) ((f_X4_lookAtRow mh mo mb (nI k)).2)) 64 ∧ vp_in (f_X4_sight js ((f_X4_move ((f_X4_lookAtRow mh mo mb (nI k)).1) ((f_X4_lookAtRow mh mo mb (nI k)).2) x1).2) ((f_X4_lookAtRow mh mo mb (nI k)).2)) 64 ∧ vp_in (f_X4_sight js ((f_X4_move ((f_X4_lookAtRow mh mo mb (nI k)).1) ((f_X4_lookAtRow mh mo mb (nI k)).2) x1).2) ((f_X4_lookAtRow mh mo mb (nI k)).2)) 64 ∧ (sf_X4_mostLeft_28 n (k + 1) js ml mh ((f_X4_move ((f_X4_lookAtRow mh mo mb (nI k)).1) ((f_X4_lookAtRow mh mo mb (nI k)).2) x1).2) ((f_X4_lookAtRow mh mo mb (nI k)).2) x1)))))) := rfl
def s_X4_mostLeft (js : Int32) (ml : Nat → Int32) (mh : Nat → Int32) (mo : Nat → Int32) (mb : Nat → Int32) (p1 : Int32) : Prop := (sf_X4_mostLeft_28 1001 0 js ml mh mo mb p1)
abbrev rm_X4_mostLeft : Room := { frames := 2, cells := 0, slots := 0, locals := 43 }
theorem zd_X4_mostLeft : yX4_mostLeft.cls = RX4 ∧ yX4_mostLeft.cls ≠ "java/lang/invoke/MethodHandle" ∧ yX4_mostLeft.cls ≠ "java/lang/invoke/VarHandle" ∧ (parseMethodDescriptor yX4_mostLeft.desc).map (fun d => d.parameters.length) = some 1 := by decide +kernel
theorem in_X4_mostLeft_X4 : ∀ w ∈ u_ws RX4 TX4 18, w ∈ wsX4_mostLeft := by decide +kernel
set_option maxHeartbeats 4000000 in
set_option maxRecDepth 100000 in
theorem l_X4_mostLeft_2 {p : Program} {l : Launch} {e : Env} {s : State} {m : MethodId} {args : Array Value} {below : List Frame} {meth : Method} {c : Code} {A : Nat → Prop} {Q : State → Prop} {G : zG} (F : CallFix p m c cX4_mostLeft 5 s args wsX4_mostLeft RX4) (hr : meth.sig.returnType = (some .int)) (hlocks : meth.locks = false) (hK : zK G s) (hA : ∀ q : Nat, s.heap.size ≤ q → A q) (mh0 mvq maq mlq mhq mfq mrq moq mbq msq : Nat) :
    ∀ (n k : Nat) (th : Int32) (js : Int32) (mv : Nat → Int32) (ma : Nat → Int32) (ac : Int32) (po : Int32) (si : Int32) (ta : Int32) (ml : Nat → Int32) (mh : Nat → Int32) (gu : Int32) (wr : Int32) (mf : Nat → Int32) (mr : Nat → Int32) (re : Int32) (mo : Nat → Int32) (mb : Nat → Int32) (ms : Nat → Int32) (x1 : Int32), k + n = 64 + 1 → k ≤ 64 → ∀ (H : Heap) (locs : List Loc) (ls : Array Slot), va_P G.1 vwCl (w_X4 G mh0 mvq maq mlq mhq mfq mrq moq mbq msq th js mv ma ac po si ta ml mh gu wr mf mr re mo mb ms) H → va_D A (w_X4 G mh0 mvq maq mlq mhq mfq mrq moq mbq msq th js mv ma ac po si ta ml mh gu wr mf mr re mo mb ms) → va_S A s.heap H locs → lv_has ls 5 [(0, .ref mh0), (1, .int x1), (2, .int (nI k))] → (∀ (H : Heap) (locs : List Loc) (ls : Array Slot), va_P G.1 vwCl (w_X4 G mh0 mvq maq mlq mhq mfq mrq moq mbq msq th js mv ma ac po si ta ml mh gu wr mf mr re mo mb (lf_X4_mostLeft_2 n k ms)) H → va_D A (w_X4 G mh0 mvq maq mlq mhq mfq mrq moq mbq msq th js mv ma ac po si ta ml mh gu wr mf mr re mo mb (lf_X4_mostLeft_2 n k ms)) → va_S A s.heap H locs → lv_has ls 5 [(0, .ref mh0), (1, .int x1)] → W p l e rm_X4_mostLeft s m args below meth c H locs 0 0 Q (F0 m 24 ls [])) → W p l e rm_X4_mostLeft s m args below meth c H locs 0 0 Q (F0 m 2 ls []) := by
  obtain ⟨hx, hb, hml, hown, hts⟩ := id F
  intro n
  induction n with
  | zero => intro k th js mv ma ac po si ta ml mh gu wr mf mr re mo mb ms x1 h1 h2; omega
  | succ n IH9 =>
    intro k th js mv ma ac po si ta ml mh gu wr mf mr re mo mb ms x1 hkn hkN H locs ls hP hD hS hl kk
    refine lv_iload_n hx hb dX4_mostLeft_2 rfl (lv_at hl 2 rfl) ?_
    refine lv_aload_n hx hb dX4_mostLeft_3 rfl (lv_at hl 0 rfl) ?_
    refine va_get (D := G.1) (ci := 4) (v := .ref msq) (C := RX4) (T := TX4) (N := 18) hx hb hts in_X4_mostLeft_X4 hown hK.1 hP 0 rfl rfl 17 (by decide) (hts (.fieldLink RX4 35 "JarRiddleModel" "seen" "[I") (by decide +kernel)) (fun _ h9 => h9) rfl dX4_mostLeft_4 ?_
    refine va_alen (v := (64 : Int32)) hx hb hK.1 hP 9 0 rfl rfl rfl dX4_mostLeft_7 ?_
    refine lv_icmp_ge (tgt := 24) hx hb dX4_mostLeft_8 (by decide) (fun (c_1 : (64 : Int32) ≤ (nI k)) => ?_) (fun (c_1 : ¬ (64 : Int32) ≤ (nI k)) => ?_)
    · have e9 : (lf_X4_mostLeft_2 (n + 1) k ms) = ms := (lf_X4_mostLeft_2_succ n k ms).trans ((if_pos c_1).trans (rfl))
      rw [e9] at kk
      exact kk H locs ls hP hD hS (lv_sub hl [0, 1] rfl)
    · refine lv_aload_n hx hb dX4_mostLeft_11 rfl (lv_at hl 0 rfl) ?_
      refine va_get (D := G.1) (ci := 4) (v := .ref msq) (C := RX4) (T := TX4) (N := 18) hx hb hts in_X4_mostLeft_X4 hown hK.1 hP 0 rfl rfl 17 (by decide) (hts (.fieldLink RX4 35 "JarRiddleModel" "seen" "[I") (by decide +kernel)) (fun _ h9 => h9) rfl dX4_mostLeft_12 ?_
      refine lv_iload_n hx hb dX4_mostLeft_15 rfl (lv_at hl 2 rfl) ?_
      refine lv_iconst (v := (0 : Int32)) hx hb dX4_mostLeft_16 (by decide) ?_
      refine va_iast hx hb hK.1 hP hD hS 9 0 rfl rfl (vp_in_nI (Nat.lt_of_lt_of_le (zk_lt (N := 64) (by omega) rfl c_1) (by decide)) (by decide) : vp_in (nI k) 64) dX4_mostLeft_17 (fun H locs hP hD hS => ?_)
      have hP : va_P G.1 vwCl (w_X4 G mh0 mvq maq mlq mhq mfq mrq moq mbq msq th js mv ma ac po si ta ml mh gu wr mf mr re mo mb (upd ms (nI k).toNatClampNeg (0 : Int32))) H := hP
      have hD : va_D A (w_X4 G mh0 mvq maq mlq mhq mfq mrq moq mbq msq th js mv ma ac po si ta ml mh gu wr mf mr re mo mb (upd ms (nI k).toNatClampNeg (0 : Int32))) := hD
      refine lv_iinc (v := (nI (k + 1))) (lv' := [(2, .int (nI (k + 1))), (0, .ref mh0), (1, .int x1)]) hx hb dX4_mostLeft_18 hl (k := 2) rfl (nI_1 k) (by decide) rfl (fun ls hl => ?_)
      refine lv_goto (tgt := 2) hx hb dX4_mostLeft_21 (by decide) ?_
      have e9 : (lf_X4_mostLeft_2 (n + 1) k ms) = (lf_X4_mostLeft_2 n (k + 1) (upd ms (nI k).toNatClampNeg (0 : Int32))) := (lf_X4_mostLeft_2_succ n k ms).trans ((if_neg c_1).trans (rfl))
      rw [e9] at kk
      have h9 := zk_lt (N := 64) (by omega) rfl c_1
      exact IH9 (k + 1) th js mv ma ac po si ta ml mh gu wr mf mr re mo mb (upd ms (nI k).toNatClampNeg (0 : Int32)) x1 (by omega) (by omega) H locs ls hP hD hS (lv_sub hl [1, 2, 0] rfl) kk
set_option maxHeartbeats 4000000 in
set_option maxRecDepth 100000 in
theorem l_X4_mostLeft_28 {p : Program} {l : Launch} {e : Env} {s : State} {m : MethodId} {args : Array Value} {below : List Frame} {meth : Method} {c : Code} {A : Nat → Prop} {Q : State → Prop} {G : zG} (F : CallFix p m c cX4_mostLeft 5 s args wsX4_mostLeft RX4) (hr : meth.sig.returnType = (some .int)) (hlocks : meth.locks = false) (hK : zK G s) (hA : ∀ q : Nat, s.heap.size ≤ q → A q) (mh0 mvq maq mlq mhq mfq mrq moq mbq msq : Nat) :
    ∀ (n k : Nat) (th : Int32) (js : Int32) (mv : Nat → Int32) (ma : Nat → Int32) (ac : Int32) (po : Int32) (si : Int32) (ta : Int32) (ml : Nat → Int32) (mh : Nat → Int32) (gu : Int32) (wr : Int32) (mf : Nat → Int32) (mr : Nat → Int32) (re : Int32) (mo : Nat → Int32) (mb : Nat → Int32) (ms : Nat → Int32) (x1 : Int32) (x2 : Int32), k + n = 1000 + 1 → k ≤ 1000 → (sf_X4_mostLeft_28 n k js ml mh mo mb x1) → ∀ (H : Heap) (locs : List Loc) (ls : Array Slot), va_P G.1 vwCl (w_X4 G mh0 mvq maq mlq mhq mfq mrq moq mbq msq th js mv ma ac po si ta ml mh gu wr mf mr re mo mb ms) H → va_D A (w_X4 G mh0 mvq maq mlq mhq mfq mrq moq mbq msq th js mv ma ac po si ta ml mh gu wr mf mr re mo mb ms) → va_S A s.heap H locs → lv_has ls 5 [(0, .ref mh0), (1, .int x1), (2, .int x2), (3, .int (nI k))] → (∀ (H : Heap) (locs : List Loc) (ls : Array Slot), va_P G.1 vwCl (w_X4 G mh0 mvq maq mlq mhq mfq mrq moq mbq msq th js mv ma ac po si ta ml mh gu wr mf mr re ((lf_X4_mostLeft_28 n k js ml mh mo mb ms x1 x2).1) ((lf_X4_mostLeft_28 n k js ml mh mo mb ms x1 x2).2.1) ((lf_X4_mostLeft_28 n k js ml mh mo mb ms x1 x2).2.2.1)) H → va_D A (w_X4 G mh0 mvq maq mlq mhq mfq mrq moq mbq msq th js mv ma ac po si ta ml mh gu wr mf mr re ((lf_X4_mostLeft_28 n k js ml mh mo mb ms x1 x2).1) ((lf_X4_mostLeft_28 n k js ml mh mo mb ms x1 x2).2.1) ((lf_X4_mostLeft_28 n k js ml mh mo mb ms x1 x2).2.2.1)) → va_S A s.heap H locs → lv_has ls 5 [(2, .int (lf_X4_mostLeft_28 n k js ml mh mo mb ms x1 x2).2.2.2)] → W p l e rm_X4_mostLeft s m args below meth c H locs 0 0 Q (F0 m 93 ls [])) → W p l e rm_X4_mostLeft s m args below meth c H locs 0 0 Q (F0 m 28 ls []) := by
  obtain ⟨hx, hb, hml, hown, hts⟩ := id F
  intro n
  induction n with
  | zero => intro k th js mv ma ac po si ta ml mh gu wr mf mr re mo mb ms x1 x2 h1 h2; omega
  | succ n IH9 =>
    intro k th js mv ma ac po si ta ml mh gu wr mf mr re mo mb ms x1 x2 hkn hkN hs H locs ls hP hD hS hl kk
    have hs : (((1000 : Int32) ≤ (nI k) → True) ∧ (¬ (1000 : Int32) ≤ (nI k) → (((ml (nI k).toNatClampNeg) = (0 : Int32) → (sf_X4_mostLeft_28 n (k + 1) js ml mh mo mb x1)) ∧ (¬ (ml (nI k).toNatClampNeg) = (0 : Int32) → (s_X4_lookAtRow (nI k)) ∧ (s_X4_move x1) ∧ (s_X4_sight js ((f_X4_move ((f_X4_lookAtRow mh mo mb (nI k)).1) ((f_X4_lookAtRow mh mo mb (nI k)).2) x1).2) ((f_X4_lookAtRow mh mo mb (nI k)).2)) ∧ vp_in (f_X4_sight js ((f_X4_move ((f_X4_lookAtRow mh mo mb (nI k)).1) ((f_X4_lookAtRow mh mo mb (nI k)).2) x1).2) ((f_X4_lookAtRow mh mo mb (nI k)).2)) 64 ∧ vp_in (f_X4_sight js ((f_X4_move ((f_X4_lookAtRow mh mo mb (nI k)).1) ((f_X4_lookAtRow mh mo mb (nI k)).2) x1).2) ((f_X4_lookAtRow mh mo mb (nI k)).2)) 64 ∧ vp_in (f_X4_sight js ((f_X4_move ((f_X4_lookAtRow mh mo mb (nI k)).1) ((f_X4_lookAtRow mh mo mb (nI k)).2) x1).2) ((f_X4_lookAtRow mh mo mb (nI k)).2)) 64 ∧ (sf_X4_mostLeft_28 n (k + 1) js ml mh ((f_X4_move ((f_X4_lookAtRow mh mo mb (nI k)).1) ((f_X4_lookAtRow mh mo mb (nI k)).2) x1).2) ((f_X4_lookAtRow mh mo mb (nI k)).2) x1))))) := hs
    refine lv_iload_n hx hb dX4_mostLeft_28 rfl (lv_at hl 3 rfl) ?_
    refine lv_sipush (v := (1000 : Int32)) hx hb dX4_mostLeft_29 (by decide) ?_
    refine lv_icmp_ge (tgt := 93) hx hb dX4_mostLeft_32 (by decide) (fun (c_2 : (1000 : Int32) ≤ (nI k)) => ?_) (fun (c_2 : ¬ (1000 : Int32) ≤ (nI k)) => ?_)
    · have e9 : (lf_X4_mostLeft_28 (n + 1) k js ml mh mo mb ms x1 x2) = (mo, mb, ms, x2) := (lf_X4_mostLeft_28_succ n k js ml mh mo mb ms x1 x2).trans ((if_pos c_2).trans (rfl))
      rw [e9] at kk
      dsimp only at kk
      exact kk H locs ls hP hD hS (lv_sub hl [2] rfl)
    · have hs := hs.2 c_2
      refine lv_aload_n hx hb dX4_mostLeft_35 rfl (lv_at hl 0 rfl) ?_
      refine va_get (D := G.1) (ci := 4) (v := .ref mlq) (C := RX4) (T := TX4) (N := 18) hx hb hts in_X4_mostLeft_X4 hown hK.1 hP 0 rfl rfl 8 (by decide) (hts (.fieldLink RX4 16 "JarRiddleModel" "isLeft" "[Z") (by decide +kernel)) (fun _ h9 => h9) rfl dX4_mostLeft_36 ?_
      refine lv_iload_n hx hb dX4_mostLeft_39 rfl (lv_at hl 3 rfl) ?_
      refine va_zald hx hb hK.1 hP 3 1 rfl rfl (vp_in_nI (Nat.lt_of_lt_of_le (zk_lt (N := 1000) (by omega) rfl c_2) (by decide)) (by decide) : vp_in (nI k) 1000) dX4_mostLeft_40 ?_
      refine lv_if_ne (tgt := 47) hx hb dX4_mostLeft_41 (by decide) (fun (c_3 : ¬ (ml (nI k).toNatClampNeg) = (0 : Int32)) => ?_) (fun (c_3 : (ml (nI k).toNatClampNeg) = (0 : Int32)) => ?_)
      · have hs := hs.2 c_3
        refine lv_aload_n hx hb dX4_mostLeft_47 rfl (lv_at hl 0 rfl) ?_
        refine lv_iload_n hx hb dX4_mostLeft_48 rfl (lv_at hl 3 rfl) ?_
        obtain ⟨h_4, hs⟩ := hs
        refine z_callV (As := [.int (nI k)]) (rest := []) (wr := ([] : va_W)) (w1 := fun _ : Unit => (w_X4 G mh0 mvq maq mlq mhq mfq mrq moq mbq msq th js mv ma ac po si ta ml mh gu wr mf mr re ((f_X4_lookAtRow mh mo mb (nI k)).1) ((f_X4_lookAtRow mh mo mb (nI k)).2) ms)) (wj := fun _ : Unit => (w_X4 G mh0 mvq maq mlq mhq mfq mrq moq mbq msq th js mv ma ac po si ta ml mh gu wr mf mr re (f_X4_lookAtRow mh mo mb (nI k)).1 (f_X4_lookAtRow mh mo mb (nI k)).2 ms)) (ci := 4) (q0 := 0) F (c_X4_lookAtRow l G mh0 mvq maq mlq mhq mfq mrq moq mbq msq th js mv ma ac po si ta ml mh gu wr mf mr re mo mb ms (nI k) h_4) gX4_mostLeft_X4_lookAtRow rfl rfl rfl zd_X4_lookAtRow ⟨Nat.le_of_ble_eq_true rfl, Nat.le_of_ble_eq_true rfl⟩ rfl rfl (Nat.le_of_ble_eq_true rfl) dX4_mostLeft_49 ⟨Nat.le_of_ble_eq_true rfl, Nat.le_of_ble_eq_true rfl⟩ hK hP hD hS hA hl.1 rfl rfl [0, 1, 2, 3, 4, 5, 6, 7, 8, 9] [] [0, 1, 2, 3, 4, 5, 6, 7, 8, 9] rfl rfl rfl rfl (by decide) rfl (fun _ => rfl) (fun _ H locs hP hD hS => ?_)
        have hP : va_P G.1 vwCl (w_X4 G mh0 mvq maq mlq mhq mfq mrq moq mbq msq th js mv ma ac po si ta ml mh gu wr mf mr re (f_X4_lookAtRow mh mo mb (nI k)).1 (f_X4_lookAtRow mh mo mb (nI k)).2 ms) H := hP
        have hD : va_D A (w_X4 G mh0 mvq maq mlq mhq mfq mrq moq mbq msq th js mv ma ac po si ta ml mh gu wr mf mr re (f_X4_lookAtRow mh mo mb (nI k)).1 (f_X4_lookAtRow mh mo mb (nI k)).2 ms) := hD
        refine lv_aload_n hx hb dX4_mostLeft_52 rfl (lv_at hl 0 rfl) ?_
        refine lv_iload_n hx hb dX4_mostLeft_53 rfl (lv_at hl 1 rfl) ?_
        obtain ⟨h_5, hs⟩ := hs
        refine z_callV (As := [.int x1]) (rest := []) (wr := ([] : va_W)) (w1 := fun _ : Unit => (w_X4 G mh0 mvq maq mlq mhq mfq mrq moq mbq msq th js mv ma ac po si ta ml mh gu wr mf mr re ((f_X4_move ((f_X4_lookAtRow mh mo mb (nI k)).1) ((f_X4_lookAtRow mh mo mb (nI k)).2) x1).2) ((f_X4_lookAtRow mh mo mb (nI k)).2) ms)) (wj := fun _ : Unit => (w_X4 G mh0 mvq maq mlq mhq mfq mrq moq mbq msq th js mv ma ac po si ta ml mh gu wr mf mr re (f_X4_move ((f_X4_lookAtRow mh mo mb (nI k)).1) ((f_X4_lookAtRow mh mo mb (nI k)).2) x1).2 (f_X4_lookAtRow mh mo mb (nI k)).2 ms)) (ci := 4) (q0 := 0) F (c_X4_move l G mh0 mvq maq mlq mhq mfq mrq moq mbq msq th js mv ma ac po si ta ml mh gu wr mf mr re ((f_X4_lookAtRow mh mo mb (nI k)).1) ((f_X4_lookAtRow mh mo mb (nI k)).2) ms x1 h_5) gX4_mostLeft_X4_move rfl rfl rfl zd_X4_move ⟨Nat.le_of_ble_eq_true rfl, Nat.le_of_ble_eq_true rfl⟩ rfl rfl (Nat.le_of_ble_eq_true rfl) dX4_mostLeft_54 ⟨Nat.le_of_ble_eq_true rfl, Nat.le_of_ble_eq_true rfl⟩ hK hP hD hS hA hl.1 rfl rfl [0, 1, 2, 3, 4, 5, 6, 7, 8, 9] [] [0, 1, 2, 3, 4, 5, 6, 7, 8, 9] rfl rfl rfl rfl (by decide) rfl (fun _ => rfl) (fun _ H locs hP hD hS => ?_)
        have hP : va_P G.1 vwCl (w_X4 G mh0 mvq maq mlq mhq mfq mrq moq mbq msq th js mv ma ac po si ta ml mh gu wr mf mr re (f_X4_move ((f_X4_lookAtRow mh mo mb (nI k)).1) ((f_X4_lookAtRow mh mo mb (nI k)).2) x1).2 (f_X4_lookAtRow mh mo mb (nI k)).2 ms) H := hP
        have hD : va_D A (w_X4 G mh0 mvq maq mlq mhq mfq mrq moq mbq msq th js mv ma ac po si ta ml mh gu wr mf mr re (f_X4_move ((f_X4_lookAtRow mh mo mb (nI k)).1) ((f_X4_lookAtRow mh mo mb (nI k)).2) x1).2 (f_X4_lookAtRow mh mo mb (nI k)).2 ms) := hD
        refine lv_pop hx hb dX4_mostLeft_57 rfl ?_
        refine lv_aload_n hx hb dX4_mostLeft_58 rfl (lv_at hl 0 rfl) ?_
        obtain ⟨h_6, hs⟩ := hs
        refine z_callV (As := []) (rest := []) (wr := ([] : va_W)) (w1 := fun _ : Unit => (w_X4 G mh0 mvq maq mlq mhq mfq mrq moq mbq msq th js mv ma ac po si ta ml mh gu wr mf mr re ((f_X4_move ((f_X4_lookAtRow mh mo mb (nI k)).1) ((f_X4_lookAtRow mh mo mb (nI k)).2) x1).2) ((f_X4_lookAtRow mh mo mb (nI k)).2) ms)) (wj := fun _ : Unit => (w_X4 G mh0 mvq maq mlq mhq mfq mrq moq mbq msq th js mv ma ac po si ta ml mh gu wr mf mr re (f_X4_move ((f_X4_lookAtRow mh mo mb (nI k)).1) ((f_X4_lookAtRow mh mo mb (nI k)).2) x1).2 (f_X4_lookAtRow mh mo mb (nI k)).2 ms)) (ci := 4) (q0 := 0) F (c_X4_sight l G mh0 mvq maq mlq mhq mfq mrq moq mbq msq th js mv ma ac po si ta ml mh gu wr mf mr re ((f_X4_move ((f_X4_lookAtRow mh mo mb (nI k)).1) ((f_X4_lookAtRow mh mo mb (nI k)).2) x1).2) ((f_X4_lookAtRow mh mo mb (nI k)).2) ms h_6) gX4_mostLeft_X4_sight rfl rfl rfl zd_X4_sight ⟨Nat.le_of_ble_eq_true rfl, Nat.le_of_ble_eq_true rfl⟩ rfl rfl (Nat.le_of_ble_eq_true rfl) dX4_mostLeft_59 ⟨Nat.le_of_ble_eq_true rfl, Nat.le_of_ble_eq_true rfl⟩ hK hP hD hS hA hl.1 rfl rfl [0, 1, 2, 3, 4, 5, 6, 7, 8, 9] [] [0, 1, 2, 3, 4, 5, 6, 7, 8, 9] rfl rfl rfl rfl (by decide) rfl (fun _ => rfl) (fun _ H locs hP hD hS => ?_)
        have hP : va_P G.1 vwCl (w_X4 G mh0 mvq maq mlq mhq mfq mrq moq mbq msq th js mv ma ac po si ta ml mh gu wr mf mr re (f_X4_move ((f_X4_lookAtRow mh mo mb (nI k)).1) ((f_X4_lookAtRow mh mo mb (nI k)).2) x1).2 (f_X4_lookAtRow mh mo mb (nI k)).2 ms) H := hP
        have hD : va_D A (w_X4 G mh0 mvq maq mlq mhq mfq mrq moq mbq msq th js mv ma ac po si ta ml mh gu wr mf mr re (f_X4_move ((f_X4_lookAtRow mh mo mb (nI k)).1) ((f_X4_lookAtRow mh mo mb (nI k)).2) x1).2 (f_X4_lookAtRow mh mo mb (nI k)).2 ms) := hD
        refine lv_istore (lv' := [(4, .int (f_X4_sight js ((f_X4_move ((f_X4_lookAtRow mh mo mb (nI k)).1) ((f_X4_lookAtRow mh mo mb (nI k)).2) x1).2) ((f_X4_lookAtRow mh mo mb (nI k)).2))), (0, .ref mh0), (1, .int x1), (2, .int x2), (3, .int (nI k))]) hx hb dX4_mostLeft_62 hl (by decide) rfl (fun ls hl => ?_)
        refine lv_aload_n hx hb dX4_mostLeft_64 rfl (lv_at hl 1 rfl) ?_
        refine va_get (D := G.1) (ci := 4) (v := .ref msq) (C := RX4) (T := TX4) (N := 18) hx hb hts in_X4_mostLeft_X4 hown hK.1 hP 0 rfl rfl 17 (by decide) (hts (.fieldLink RX4 35 "JarRiddleModel" "seen" "[I") (by decide +kernel)) (fun _ h9 => h9) rfl dX4_mostLeft_65 ?_
        refine lv_iload hx hb dX4_mostLeft_68 (lv_at hl 0 rfl) ?_
        refine lv_dup2_11 hx hb dX4_mostLeft_70 rfl rfl ?_
        obtain ⟨h_7, hs⟩ := hs
        refine va_iald hx hb hK.1 hP 9 0 rfl rfl h_7 dX4_mostLeft_71 ?_
        refine lv_iconst (v := (1 : Int32)) hx hb dX4_mostLeft_72 (by decide) ?_
        refine lv_iadd hx hb dX4_mostLeft_73 ?_
        obtain ⟨h_8, hs⟩ := hs
        refine va_iast hx hb hK.1 hP hD hS 9 0 rfl rfl h_8 dX4_mostLeft_74 (fun H locs hP hD hS => ?_)
        have hP : va_P G.1 vwCl (w_X4 G mh0 mvq maq mlq mhq mfq mrq moq mbq msq th js mv ma ac po si ta ml mh gu wr mf mr re (f_X4_move ((f_X4_lookAtRow mh mo mb (nI k)).1) ((f_X4_lookAtRow mh mo mb (nI k)).2) x1).2 (f_X4_lookAtRow mh mo mb (nI k)).2 (f_X4_mostLeft_t1 js mh mo mb ms x1 k)) H := hP
        have hD : va_D A (w_X4 G mh0 mvq maq mlq mhq mfq mrq moq mbq msq th js mv ma ac po si ta ml mh gu wr mf mr re (f_X4_move ((f_X4_lookAtRow mh mo mb (nI k)).1) ((f_X4_lookAtRow mh mo mb (nI k)).2) x1).2 (f_X4_lookAtRow mh mo mb (nI k)).2 (f_X4_mostLeft_t1 js mh mo mb ms x1 k)) := hD
        refine lv_iload_n hx hb dX4_mostLeft_75 rfl (lv_at hl 3 rfl) ?_
        refine lv_aload_n hx hb dX4_mostLeft_76 rfl (lv_at hl 1 rfl) ?_
        refine va_get (D := G.1) (ci := 4) (v := .ref msq) (C := RX4) (T := TX4) (N := 18) hx hb hts in_X4_mostLeft_X4 hown hK.1 hP 0 rfl rfl 17 (by decide) (hts (.fieldLink RX4 35 "JarRiddleModel" "seen" "[I") (by decide +kernel)) (fun _ h9 => h9) rfl dX4_mostLeft_77 ?_
        refine lv_iload hx hb dX4_mostLeft_80 (lv_at hl 0 rfl) ?_
        obtain ⟨h_9, hs⟩ := hs
        refine va_iald hx hb hK.1 hP 9 0 rfl rfl h_9 dX4_mostLeft_82 ?_
        refine va_mmax hx hb (hml.trans hl.1.symm) hown (hts (.methodLink RX4 188 Lib.Math.max.name) (by decide +kernel)) (hts (.static Lib.Math.max.name) (by decide +kernel)) (hts (.initialized "java/lang/Math") (by decide +kernel)) (hts (.code Lib.Math.max.name Lib.Math.max.code 2 (some .int)) (by decide +kernel)) (Nat.le_of_ble_eq_true rfl) (Nat.le_of_ble_eq_true rfl) (Nat.zero_le _) (Nat.zero_le _) dX4_mostLeft_83 ?_
        refine lv_istore_n (lv' := [(2, .int (f_X4_mostLeft_t2 js mh mo mb ms x1 k x2)), (4, .int (f_X4_sight js ((f_X4_move ((f_X4_lookAtRow mh mo mb (nI k)).1) ((f_X4_lookAtRow mh mo mb (nI k)).2) x1).2) ((f_X4_lookAtRow mh mo mb (nI k)).2))), (0, .ref mh0), (1, .int x1), (3, .int (nI k))]) hx hb dX4_mostLeft_86 rfl hl (by decide) rfl (fun ls hl => ?_)
        refine lv_iinc (v := (nI (k + 1))) (lv' := [(3, .int (nI (k + 1))), (2, .int (f_X4_mostLeft_t2 js mh mo mb ms x1 k x2)), (4, .int (f_X4_sight js ((f_X4_move ((f_X4_lookAtRow mh mo mb (nI k)).1) ((f_X4_lookAtRow mh mo mb (nI k)).2) x1).2) ((f_X4_lookAtRow mh mo mb (nI k)).2))), (0, .ref mh0), (1, .int x1)]) hx hb dX4_mostLeft_87 hl (k := 4) rfl (nI_1 k) (by decide) rfl (fun ls hl => ?_)
        refine lv_goto (tgt := 28) hx hb dX4_mostLeft_90 (by decide) ?_
        have e9 : (lf_X4_mostLeft_28 (n + 1) k js ml mh mo mb ms x1 x2) = (lf_X4_mostLeft_28 n (k + 1) js ml mh ((f_X4_move ((f_X4_lookAtRow mh mo mb (nI k)).1) ((f_X4_lookAtRow mh mo mb (nI k)).2) x1).2) ((f_X4_lookAtRow mh mo mb (nI k)).2) (f_X4_mostLeft_t1 js mh mo mb ms x1 k) x1 (f_X4_mostLeft_t2 js mh mo mb ms x1 k x2)) := (lf_X4_mostLeft_28_succ n k js ml mh mo mb ms x1 x2).trans ((if_neg c_2).trans ((if_neg c_3).trans (rfl)))
        rw [e9] at kk
        have h9 := zk_lt (N := 1000) (by omega) rfl c_2
        exact IH9 (k + 1) th js mv ma ac po si ta ml mh gu wr mf mr re ((f_X4_move ((f_X4_lookAtRow mh mo mb (nI k)).1) ((f_X4_lookAtRow mh mo mb (nI k)).2) x1).2) ((f_X4_lookAtRow mh mo mb (nI k)).2) (f_X4_mostLeft_t1 js mh mo mb ms x1 k) x1 (f_X4_mostLeft_t2 js mh mo mb ms x1 k x2) (by omega) (by omega) hs H locs ls hP hD hS (lv_sub hl [3, 4, 1, 0] rfl) kk
      · have hs := hs.1 c_3
        refine lv_goto (tgt := 87) hx hb dX4_mostLeft_44 (by decide) ?_
        refine lv_iinc (v := (nI (k + 1))) (lv' := [(3, .int (nI (k + 1))), (0, .ref mh0), (1, .int x1), (2, .int x2)]) hx hb dX4_mostLeft_87 hl (k := 3) rfl (nI_1 k) (by decide) rfl (fun ls hl => ?_)
        refine lv_goto (tgt := 28) hx hb dX4_mostLeft_90 (by decide) ?_
        have e9 : (lf_X4_mostLeft_28 (n + 1) k js ml mh mo mb ms x1 x2) = (lf_X4_mostLeft_28 n (k + 1) js ml mh mo mb ms x1 x2) := (lf_X4_mostLeft_28_succ n k js ml mh mo mb ms x1 x2).trans ((if_neg c_2).trans ((if_pos c_3).trans (rfl)))
        rw [e9] at kk
        have h9 := zk_lt (N := 1000) (by omega) rfl c_2
        exact IH9 (k + 1) th js mv ma ac po si ta ml mh gu wr mf mr re mo mb ms x1 x2 (by omega) (by omega) hs H locs ls hP hD hS (lv_sub hl [1, 2, 3, 0] rfl) kk
set_option maxHeartbeats 4000000 in
set_option maxRecDepth 100000 in
/-- JarRiddleModel.mostLeft(I)I -/
theorem c_X4_mostLeft (l : Launch) (G : zG) (mh0 mvq maq mlq mhq mfq mrq moq mbq msq : Nat) (th : Int32) (js : Int32) (mv : Nat → Int32) (ma : Nat → Int32) (ac : Int32) (po : Int32) (si : Int32) (ta : Int32) (ml : Nat → Int32) (mh : Nat → Int32) (gu : Int32) (wr : Int32) (mf : Nat → Int32) (mr : Nat → Int32) (re : Int32) (mo : Nat → Int32) (mb : Nat → Int32) (ms : Nat → Int32) (p1 : Int32) (hs : s_X4_mostLeft js ml mh mo mb p1) : zC l G yX4_mostLeft wsX4_mostLeft rm_X4_mostLeft 0 0 [.ref mh0, .int p1] (w_X4 G mh0 mvq maq mlq mhq mfq mrq moq mbq msq th js mv ma ac po si ta ml mh gu wr mf mr re mo mb ms) (some (.int (f_X4_mostLeft js ml mh mo mb ms p1).1)) (fun _ : Unit => (w_X4 G mh0 mvq maq mlq mhq mfq mrq moq mbq msq th js mv ma ac po si ta ml mh gu wr mf mr re ((f_X4_mostLeft js ml mh mo mb ms p1).2.1) ((f_X4_mostLeft js ml mh mo mb ms p1).2.2.1) ((f_X4_mostLeft js ml mh mo mb ms p1).2.2.2))) := by
  refine z_of (cc := cX4_mostLeft) (maxL := 5) (ret := (some .int)) (own := RX4) (by decide) rfl rfl (Nat.le_of_ble_eq_true rfl) ?_
  intro p e s m args below meth c A H locs ls F hr hlocks hname hK hA hP hD hS hl
  obtain ⟨hx, hb, hml, hown, hts⟩ := id F
  have hl : lv_has ls 5 [(0, .ref mh0), (1, .int p1)] := hl
  have hs : (sf_X4_mostLeft_28 1001 0 js ml mh mo mb p1) := hs
  refine lv_iconst (v := (0 : Int32)) hx hb dX4_mostLeft_0 (by decide) ?_
  refine lv_istore_n (lv' := [(2, .int (0 : Int32)), (0, .ref mh0), (1, .int p1)]) hx hb dX4_mostLeft_1 rfl hl (by decide) rfl (fun ls hl => ?_)
  refine l_X4_mostLeft_2 F hr hlocks hK hA mh0 mvq maq mlq mhq mfq mrq moq mbq msq 65 0 th js mv ma ac po si ta ml mh gu wr mf mr re mo mb ms p1 (by omega) (by omega) H locs ls hP hD hS (lv_sub hl [1, 2, 0] rfl) ?_
  intro H locs ls hP hD hS hl
  have hP : va_P G.1 vwCl (w_X4 G mh0 mvq maq mlq mhq mfq mrq moq mbq msq th js mv ma ac po si ta ml mh gu wr mf mr re mo mb (lf_X4_mostLeft_2 65 0 ms)) H := hP
  have hD : va_D A (w_X4 G mh0 mvq maq mlq mhq mfq mrq moq mbq msq th js mv ma ac po si ta ml mh gu wr mf mr re mo mb (lf_X4_mostLeft_2 65 0 ms)) := hD
  have hl : lv_has ls 5 [(0, .ref mh0), (1, .int p1)] := hl
  refine lv_iconst (v := (0 : Int32)) hx hb dX4_mostLeft_24 (by decide) ?_
  refine lv_istore_n (lv' := [(2, .int (0 : Int32)), (0, .ref mh0), (1, .int p1)]) hx hb dX4_mostLeft_25 rfl hl (by decide) rfl (fun ls hl => ?_)
  refine lv_iconst (v := (0 : Int32)) hx hb dX4_mostLeft_26 (by decide) ?_
  refine lv_istore_n (lv' := [(3, .int (0 : Int32)), (2, .int (0 : Int32)), (0, .ref mh0), (1, .int p1)]) hx hb dX4_mostLeft_27 rfl hl (by decide) rfl (fun ls hl => ?_)
  have h_10 := hs
  refine l_X4_mostLeft_28 F hr hlocks hK hA mh0 mvq maq mlq mhq mfq mrq moq mbq msq 1001 0 th js mv ma ac po si ta ml mh gu wr mf mr re mo mb (lf_X4_mostLeft_2 65 0 ms) p1 (0 : Int32) (by omega) (by omega) h_10 H locs ls hP hD hS (lv_sub hl [2, 3, 1, 0] rfl) ?_
  intro H locs ls hP hD hS hl
  have hP : va_P G.1 vwCl (w_X4 G mh0 mvq maq mlq mhq mfq mrq moq mbq msq th js mv ma ac po si ta ml mh gu wr mf mr re (lf_X4_mostLeft_28 1001 0 js ml mh mo mb (lf_X4_mostLeft_2 65 0 ms) p1 (0 : Int32)).1 (lf_X4_mostLeft_28 1001 0 js ml mh mo mb (lf_X4_mostLeft_2 65 0 ms) p1 (0 : Int32)).2.1 (lf_X4_mostLeft_28 1001 0 js ml mh mo mb (lf_X4_mostLeft_2 65 0 ms) p1 (0 : Int32)).2.2.1) H := hP
  have hD : va_D A (w_X4 G mh0 mvq maq mlq mhq mfq mrq moq mbq msq th js mv ma ac po si ta ml mh gu wr mf mr re (lf_X4_mostLeft_28 1001 0 js ml mh mo mb (lf_X4_mostLeft_2 65 0 ms) p1 (0 : Int32)).1 (lf_X4_mostLeft_28 1001 0 js ml mh mo mb (lf_X4_mostLeft_2 65 0 ms) p1 (0 : Int32)).2.1 (lf_X4_mostLeft_28 1001 0 js ml mh mo mb (lf_X4_mostLeft_2 65 0 ms) p1 (0 : Int32)).2.2.1) := hD
  have hl : lv_has ls 5 [(2, .int (lf_X4_mostLeft_28 1001 0 js ml mh mo mb (lf_X4_mostLeft_2 65 0 ms) p1 (0 : Int32)).2.2.2)] := hl
  refine lv_iload_n hx hb dX4_mostLeft_93 rfl (lv_at hl 0 rfl) ?_
  have e9 : (f_X4_mostLeft js ml mh mo mb ms p1) = ((lf_X4_mostLeft_28 1001 0 js ml mh mo mb (lf_X4_mostLeft_2 65 0 ms) p1 (0 : Int32)).2.2.2, (lf_X4_mostLeft_28 1001 0 js ml mh mo mb (lf_X4_mostLeft_2 65 0 ms) p1 (0 : Int32)).1, (lf_X4_mostLeft_28 1001 0 js ml mh mo mb (lf_X4_mostLeft_2 65 0 ms) p1 (0 : Int32)).2.1, (lf_X4_mostLeft_28 1001 0 js ml mh mo mb (lf_X4_mostLeft_2 65 0 ms) p1 (0 : Int32)).2.2.1) := (f_X4_mostLeft_eq js ml mh mo mb ms p1).trans (rfl)
  rw [e9]
  dsimp only
  exact z_iret F hr hlocks hP hD hS () [0, 1, 2, 3, 4, 5, 6, 7, 8, 9] rfl rfl rfl dX4_mostLeft_94
def f_X4_leftAtMost (th : Int32) (js : Int32) (ml : Nat → Int32) (mh : Nat → Int32) (mo : Nat → Int32) (mb : Nat → Int32) (ms : Nat → Int32) (p1 : Int32) (p2 : Int32) : Int32 × Int32 × (Nat → Int32) × (Nat → Int32) × (Nat → Int32) := (if (f_X4_isJar js p1) = (0 : Int32) then ((f_X4_no (0 : Int32) (1 : Int32)).1, (f_X4_no (0 : Int32) (1 : Int32)).2, mo, mb, ms) else (if (f_X4_isJar js p2) = (0 : Int32) then ((f_X4_no (0 : Int32) (1 : Int32)).1, (f_X4_no (0 : Int32) (1 : Int32)).2, mo, mb, ms) else (if p1 = p2 then ((f_X4_no (0 : Int32) (2 : Int32)).1, (f_X4_no (0 : Int32) (2 : Int32)).2, mo, mb, ms) else ((f_X4_mostLeft js ml mh mo mb ms (((6 : Int32) + ((3 : Int32) * p1)) + p2)).1, (0 : Int32), (f_X4_mostLeft js ml mh mo mb ms (((6 : Int32) + ((3 : Int32) * p1)) + p2)).2.1, (f_X4_mostLeft js ml mh mo mb ms (((6 : Int32) + ((3 : Int32) * p1)) + p2)).2.2.1, (f_X4_mostLeft js ml mh mo mb ms (((6 : Int32) + ((3 : Int32) * p1)) + p2)).2.2.2))))
theorem f_X4_leftAtMost_eq (th : Int32) (js : Int32) (ml : Nat → Int32) (mh : Nat → Int32) (mo : Nat → Int32) (mb : Nat → Int32) (ms : Nat → Int32) (p1 : Int32) (p2 : Int32) : f_X4_leftAtMost th js ml mh mo mb ms p1 p2 = (if (f_X4_isJar js p1) = (0 : Int32) then ((f_X4_no (0 : Int32) (1 : Int32)).1, (f_X4_no (0 : Int32) (1 : Int32)).2, mo, mb, ms) else (if (f_X4_isJar js p2) = (0 : Int32) then ((f_X4_no (0 : Int32) (1 : Int32)).1, (f_X4_no (0 : Int32) (1 : Int32)).2, mo, mb, ms) else (if p1 = p2 then ((f_X4_no (0 : Int32) (2 : Int32)).1, (f_X4_no (0 : Int32) (2 : Int32)).2, mo, mb, ms) else ((f_X4_mostLeft js ml mh mo mb ms (((6 : Int32) + ((3 : Int32) * p1)) + p2)).1, (0 : Int32), (f_X4_mostLeft js ml mh mo mb ms (((6 : Int32) + ((3 : Int32) * p1)) + p2)).2.1, (f_X4_mostLeft js ml mh mo mb ms (((6 : Int32) + ((3 : Int32) * p1)) + p2)).2.2.1, (f_X4_mostLeft js ml mh mo mb ms (((6 : Int32) + ((3 : Int32) * p1)) + p2)).2.2.2)))) := rfl
def s_X4_leftAtMost (js : Int32) (ml : Nat → Int32) (mh : Nat → Int32) (mo : Nat → Int32) (mb : Nat → Int32) (p1 : Int32) (p2 : Int32) : Prop := (((f_X4_isJar js p1) = (0 : Int32) → True) ∧ (¬ (f_X4_isJar js p1) = (0 : Int32) → (((f_X4_isJar js p2) = (0 : Int32) → True) ∧ (¬ (f_X4_isJar js p2) = (0 : Int32) → ((p1 = p2 → True) ∧ (¬ p1 = p2 → (s_X4_mostLeft js ml mh mo mb (((6 : Int32) + ((3 : Int32) * p1)) + p2))))))))
abbrev rm_X4_leftAtMost : Room := { frames := 3, cells := 0, slots := 0, locals := 67 }
theorem zd_X4_leftAtMost : yX4_leftAtMost.cls = RX4 ∧ yX4_leftAtMost.cls ≠ "java/lang/invoke/MethodHandle" ∧ yX4_leftAtMost.cls ≠ "java/lang/invoke/VarHandle" ∧ (parseMethodDescriptor yX4_leftAtMost.desc).map (fun d => d.parameters.length) = some 2 := by decide +kernel
theorem in_X4_leftAtMost_X4 : ∀ w ∈ u_ws RX4 TX4 18, w ∈ wsX4_leftAtMost := by decide +kernel
set_option maxHeartbeats 4000000 in
set_option maxRecDepth 100000 in
/-- JarRiddleModel.leftAtMost(II)I -/
theorem c_X4_leftAtMost (l : Launch) (G : zG) (mh0 mvq maq mlq mhq mfq mrq moq mbq msq : Nat) (th : Int32) (js : Int32) (mv : Nat → Int32) (ma : Nat → Int32) (ac : Int32) (po : Int32) (si : Int32) (ta : Int32) (ml : Nat → Int32) (mh : Nat → Int32) (gu : Int32) (wr : Int32) (mf : Nat → Int32) (mr : Nat → Int32) (re : Int32) (mo : Nat → Int32) (mb : Nat → Int32) (ms : Nat → Int32) (p1 : Int32) (p2 : Int32) (hs : s_X4_leftAtMost js ml mh mo mb p1 p2) : zC l G yX4_leftAtMost wsX4_leftAtMost rm_X4_leftAtMost 0 0 [.ref mh0, .int p1, .int p2] (w_X4 G mh0 mvq maq mlq mhq mfq mrq moq mbq msq th js mv ma ac po si ta ml mh gu wr mf mr re mo mb ms) (some (.int (f_X4_leftAtMost th js ml mh mo mb ms p1 p2).1)) (fun _ : Unit => (w_X4 G mh0 mvq maq mlq mhq mfq mrq moq mbq msq ((f_X4_leftAtMost th js ml mh mo mb ms p1 p2).2.1) js mv ma ac po si ta ml mh gu wr mf mr re ((f_X4_leftAtMost th js ml mh mo mb ms p1 p2).2.2.1) ((f_X4_leftAtMost th js ml mh mo mb ms p1 p2).2.2.2.1) ((f_X4_leftAtMost th js ml mh mo mb ms p1 p2).2.2.2.2))) := by
  refine z_of (cc := cX4_leftAtMost) (maxL := 3) (ret := (some .int)) (own := RX4) (by decide) rfl rfl (Nat.le_of_ble_eq_true rfl) ?_
  intro p e s m args below meth c A H locs ls F hr hlocks hname hK hA hP hD hS hl
  obtain ⟨hx, hb, hml, hown, hts⟩ := id F
  have hl : lv_has ls 3 [(0, .ref mh0), (1, .int p1), (2, .int p2)] := hl
  have hs : (((f_X4_isJar js p1) = (0 : Int32) → True) ∧ (¬ (f_X4_isJar js p1) = (0 : Int32) → (((f_X4_isJar js p2) = (0 : Int32) → True) ∧ (¬ (f_X4_isJar js p2) = (0 : Int32) → ((p1 = p2 → True) ∧ (¬ p1 = p2 → (s_X4_mostLeft js ml mh mo mb (((6 : Int32) + ((3 : Int32) * p1)) + p2)))))))) := hs
  refine lv_aload_n hx hb dX4_leftAtMost_0 rfl (lv_at hl 0 rfl) ?_
  refine lv_iconst (v := (0 : Int32)) hx hb dX4_leftAtMost_1 (by decide) ?_
  refine va_put (D := G.1) (ci := 4) (v := .int (0 : Int32)) (ty := .int) (C := RX4) (T := TX4) (N := 18) hx hb hts in_X4_leftAtMost_X4 tyX4 tyX4_ok nmX4 hown hK.1 hP hD hS 0 rfl rfl 0 (by decide) (hts (.fieldLink RX4 42 "JarRiddleModel" "thrown" "I") (by decide +kernel)) (fun _ h9 => h9) rfl (by decide +kernel) rfl rfl (Nat.le_of_ble_eq_true rfl) dX4_leftAtMost_2 (fun H locs hP hD hS => ?_)
  have hP : va_P G.1 vwCl (w_X4 G mh0 mvq maq mlq mhq mfq mrq moq mbq msq (0 : Int32) js mv ma ac po si ta ml mh gu wr mf mr re mo mb ms) H := hP
  have hD : va_D A (w_X4 G mh0 mvq maq mlq mhq mfq mrq moq mbq msq (0 : Int32) js mv ma ac po si ta ml mh gu wr mf mr re mo mb ms) := hD
  refine lv_aload_n hx hb dX4_leftAtMost_5 rfl (lv_at hl 0 rfl) ?_
  refine lv_iload_n hx hb dX4_leftAtMost_6 rfl (lv_at hl 1 rfl) ?_
  refine z_callV (As := [.int p1]) (rest := []) (wr := ([] : va_W)) (w1 := fun _ : Unit => (w_X4 G mh0 mvq maq mlq mhq mfq mrq moq mbq msq (0 : Int32) js mv ma ac po si ta ml mh gu wr mf mr re mo mb ms)) (wj := fun _ : Unit => (w_X4 G mh0 mvq maq mlq mhq mfq mrq moq mbq msq (0 : Int32) js mv ma ac po si ta ml mh gu wr mf mr re mo mb ms)) (ci := 4) (q0 := 0) F (c_X4_isJar l G mh0 mvq maq mlq mhq mfq mrq moq mbq msq (0 : Int32) js mv ma ac po si ta ml mh gu wr mf mr re mo mb ms p1) gX4_leftAtMost_X4_isJar rfl rfl rfl zd_X4_isJar ⟨Nat.le_of_ble_eq_true rfl, Nat.le_of_ble_eq_true rfl⟩ rfl rfl (Nat.le_of_ble_eq_true rfl) dX4_leftAtMost_7 ⟨Nat.le_of_ble_eq_true rfl, Nat.le_of_ble_eq_true rfl⟩ hK hP hD hS hA hl.1 rfl rfl [0, 1, 2, 3, 4, 5, 6, 7, 8, 9] [] [0, 1, 2, 3, 4, 5, 6, 7, 8, 9] rfl rfl rfl rfl (by decide) rfl (fun _ => rfl) (fun _ H locs hP hD hS => ?_)
  have hP : va_P G.1 vwCl (w_X4 G mh0 mvq maq mlq mhq mfq mrq moq mbq msq (0 : Int32) js mv ma ac po si ta ml mh gu wr mf mr re mo mb ms) H := hP
  have hD : va_D A (w_X4 G mh0 mvq maq mlq mhq mfq mrq moq mbq msq (0 : Int32) js mv ma ac po si ta ml mh gu wr mf mr re mo mb ms) := hD
  refine lv_if_eq (tgt := 21) hx hb dX4_leftAtMost_10 (by decide) (fun (c_1 : (f_X4_isJar js p1) = (0 : Int32)) => ?_) (fun (c_1 : ¬ (f_X4_isJar js p1) = (0 : Int32)) => ?_)
  · refine lv_aload_n hx hb dX4_leftAtMost_21 rfl (lv_at hl 0 rfl) ?_
    refine lv_iconst (v := (1 : Int32)) hx hb dX4_leftAtMost_22 (by decide) ?_
    refine z_callV (As := [.int (1 : Int32)]) (rest := []) (wr := ([] : va_W)) (w1 := fun _ : Unit => (w_X4 G mh0 mvq maq mlq mhq mfq mrq moq mbq msq ((f_X4_no (0 : Int32) (1 : Int32)).2) js mv ma ac po si ta ml mh gu wr mf mr re mo mb ms)) (wj := fun _ : Unit => (w_X4 G mh0 mvq maq mlq mhq mfq mrq moq mbq msq (f_X4_no (0 : Int32) (1 : Int32)).2 js mv ma ac po si ta ml mh gu wr mf mr re mo mb ms)) (ci := 4) (q0 := 0) F (c_X4_no l G mh0 mvq maq mlq mhq mfq mrq moq mbq msq (0 : Int32) js mv ma ac po si ta ml mh gu wr mf mr re mo mb ms (1 : Int32)) gX4_leftAtMost_X4_no rfl rfl rfl zd_X4_no ⟨Nat.le_of_ble_eq_true rfl, Nat.le_of_ble_eq_true rfl⟩ rfl rfl (Nat.le_of_ble_eq_true rfl) dX4_leftAtMost_23 ⟨Nat.le_of_ble_eq_true rfl, Nat.le_of_ble_eq_true rfl⟩ hK hP hD hS hA hl.1 rfl rfl [0, 1, 2, 3, 4, 5, 6, 7, 8, 9] [] [0, 1, 2, 3, 4, 5, 6, 7, 8, 9] rfl rfl rfl rfl (by decide) rfl (fun _ => rfl) (fun _ H locs hP hD hS => ?_)
    have hP : va_P G.1 vwCl (w_X4 G mh0 mvq maq mlq mhq mfq mrq moq mbq msq (f_X4_no (0 : Int32) (1 : Int32)).2 js mv ma ac po si ta ml mh gu wr mf mr re mo mb ms) H := hP
    have hD : va_D A (w_X4 G mh0 mvq maq mlq mhq mfq mrq moq mbq msq (f_X4_no (0 : Int32) (1 : Int32)).2 js mv ma ac po si ta ml mh gu wr mf mr re mo mb ms) := hD
    have e9 : (f_X4_leftAtMost th js ml mh mo mb ms p1 p2) = ((f_X4_no (0 : Int32) (1 : Int32)).1, (f_X4_no (0 : Int32) (1 : Int32)).2, mo, mb, ms) := (f_X4_leftAtMost_eq th js ml mh mo mb ms p1 p2).trans ((if_pos c_1).trans (rfl))
    rw [e9]
    dsimp only
    exact z_iret F hr hlocks hP hD hS () [0, 1, 2, 3, 4, 5, 6, 7, 8, 9] rfl rfl rfl dX4_leftAtMost_26
  · have hs := hs.2 c_1
    refine lv_aload_n hx hb dX4_leftAtMost_13 rfl (lv_at hl 0 rfl) ?_
    refine lv_iload_n hx hb dX4_leftAtMost_14 rfl (lv_at hl 2 rfl) ?_
    refine z_callV (As := [.int p2]) (rest := []) (wr := ([] : va_W)) (w1 := fun _ : Unit => (w_X4 G mh0 mvq maq mlq mhq mfq mrq moq mbq msq (0 : Int32) js mv ma ac po si ta ml mh gu wr mf mr re mo mb ms)) (wj := fun _ : Unit => (w_X4 G mh0 mvq maq mlq mhq mfq mrq moq mbq msq (0 : Int32) js mv ma ac po si ta ml mh gu wr mf mr re mo mb ms)) (ci := 4) (q0 := 0) F (c_X4_isJar l G mh0 mvq maq mlq mhq mfq mrq moq mbq msq (0 : Int32) js mv ma ac po si ta ml mh gu wr mf mr re mo mb ms p2) gX4_leftAtMost_X4_isJar rfl rfl rfl zd_X4_isJar ⟨Nat.le_of_ble_eq_true rfl, Nat.le_of_ble_eq_true rfl⟩ rfl rfl (Nat.le_of_ble_eq_true rfl) dX4_leftAtMost_15 ⟨Nat.le_of_ble_eq_true rfl, Nat.le_of_ble_eq_true rfl⟩ hK hP hD hS hA hl.1 rfl rfl [0, 1, 2, 3, 4, 5, 6, 7, 8, 9] [] [0, 1, 2, 3, 4, 5, 6, 7, 8, 9] rfl rfl rfl rfl (by decide) rfl (fun _ => rfl) (fun _ H locs hP hD hS => ?_)
    have hP : va_P G.1 vwCl (w_X4 G mh0 mvq maq mlq mhq mfq mrq moq mbq msq (0 : Int32) js mv ma ac po si ta ml mh gu wr mf mr re mo mb ms) H := hP
    have hD : va_D A (w_X4 G mh0 mvq maq mlq mhq mfq mrq moq mbq msq (0 : Int32) js mv ma ac po si ta ml mh gu wr mf mr re mo mb ms) := hD
    refine lv_if_ne (tgt := 27) hx hb dX4_leftAtMost_18 (by decide) (fun (c_2 : ¬ (f_X4_isJar js p2) = (0 : Int32)) => ?_) (fun (c_2 : (f_X4_isJar js p2) = (0 : Int32)) => ?_)
    · have hs := hs.2 c_2
      refine lv_iload_n hx hb dX4_leftAtMost_27 rfl (lv_at hl 1 rfl) ?_
      refine lv_iload_n hx hb dX4_leftAtMost_28 rfl (lv_at hl 2 rfl) ?_
      refine lv_icmp_ne (tgt := 40) hx hb dX4_leftAtMost_29 (by decide) (fun (c_3 : ¬ p1 = p2) => ?_) (fun (c_3 : p1 = p2) => ?_)
      · have hs := hs.2 c_3
        refine lv_aload_n hx hb dX4_leftAtMost_40 rfl (lv_at hl 0 rfl) ?_
        refine lv_bipush (v := (6 : Int32)) hx hb dX4_leftAtMost_41 (by decide) ?_
        refine lv_iconst (v := (3 : Int32)) hx hb dX4_leftAtMost_43 (by decide) ?_
        refine lv_iload_n hx hb dX4_leftAtMost_44 rfl (lv_at hl 1 rfl) ?_
        refine lv_imul hx hb dX4_leftAtMost_45 ?_
        refine lv_iadd hx hb dX4_leftAtMost_46 ?_
        refine lv_iload_n hx hb dX4_leftAtMost_47 rfl (lv_at hl 2 rfl) ?_
        refine lv_iadd hx hb dX4_leftAtMost_48 ?_
        have h_4 := hs
        refine z_callV (As := [.int (((6 : Int32) + ((3 : Int32) * p1)) + p2)]) (rest := []) (wr := ([] : va_W)) (w1 := fun _ : Unit => (w_X4 G mh0 mvq maq mlq mhq mfq mrq moq mbq msq (0 : Int32) js mv ma ac po si ta ml mh gu wr mf mr re ((f_X4_mostLeft js ml mh mo mb ms (((6 : Int32) + ((3 : Int32) * p1)) + p2)).2.1) ((f_X4_mostLeft js ml mh mo mb ms (((6 : Int32) + ((3 : Int32) * p1)) + p2)).2.2.1) ((f_X4_mostLeft js ml mh mo mb ms (((6 : Int32) + ((3 : Int32) * p1)) + p2)).2.2.2))) (wj := fun _ : Unit => (w_X4 G mh0 mvq maq mlq mhq mfq mrq moq mbq msq (0 : Int32) js mv ma ac po si ta ml mh gu wr mf mr re (f_X4_mostLeft js ml mh mo mb ms (((6 : Int32) + ((3 : Int32) * p1)) + p2)).2.1 (f_X4_mostLeft js ml mh mo mb ms (((6 : Int32) + ((3 : Int32) * p1)) + p2)).2.2.1 (f_X4_mostLeft js ml mh mo mb ms (((6 : Int32) + ((3 : Int32) * p1)) + p2)).2.2.2)) (ci := 4) (q0 := 0) F (c_X4_mostLeft l G mh0 mvq maq mlq mhq mfq mrq moq mbq msq (0 : Int32) js mv ma ac po si ta ml mh gu wr mf mr re mo mb ms (((6 : Int32) + ((3 : Int32) * p1)) + p2) h_4) gX4_leftAtMost_X4_mostLeft rfl rfl rfl zd_X4_mostLeft ⟨Nat.le_of_ble_eq_true rfl, Nat.le_of_ble_eq_true rfl⟩ rfl rfl (Nat.le_of_ble_eq_true rfl) dX4_leftAtMost_49 ⟨Nat.le_of_ble_eq_true rfl, Nat.le_of_ble_eq_true rfl⟩ hK hP hD hS hA hl.1 rfl rfl [0, 1, 2, 3, 4, 5, 6, 7, 8, 9] [] [0, 1, 2, 3, 4, 5, 6, 7, 8, 9] rfl rfl rfl rfl (by decide) rfl (fun _ => rfl) (fun _ H locs hP hD hS => ?_)
        have hP : va_P G.1 vwCl (w_X4 G mh0 mvq maq mlq mhq mfq mrq moq mbq msq (0 : Int32) js mv ma ac po si ta ml mh gu wr mf mr re (f_X4_mostLeft js ml mh mo mb ms (((6 : Int32) + ((3 : Int32) * p1)) + p2)).2.1 (f_X4_mostLeft js ml mh mo mb ms (((6 : Int32) + ((3 : Int32) * p1)) + p2)).2.2.1 (f_X4_mostLeft js ml mh mo mb ms (((6 : Int32) + ((3 : Int32) * p1)) + p2)).2.2.2) H := hP
        have hD : va_D A (w_X4 G mh0 mvq maq mlq mhq mfq mrq moq mbq msq (0 : Int32) js mv ma ac po si ta ml mh gu wr mf mr re (f_X4_mostLeft js ml mh mo mb ms (((6 : Int32) + ((3 : Int32) * p1)) + p2)).2.1 (f_X4_mostLeft js ml mh mo mb ms (((6 : Int32) + ((3 : Int32) * p1)) + p2)).2.2.1 (f_X4_mostLeft js ml mh mo mb ms (((6 : Int32) + ((3 : Int32) * p1)) + p2)).2.2.2) := hD
        have e9 : (f_X4_leftAtMost th js ml mh mo mb ms p1 p2) = ((f_X4_mostLeft js ml mh mo mb ms (((6 : Int32) + ((3 : Int32) * p1)) + p2)).1, (0 : Int32), (f_X4_mostLeft js ml mh mo mb ms (((6 : Int32) + ((3 : Int32) * p1)) + p2)).2.1, (f_X4_mostLeft js ml mh mo mb ms (((6 : Int32) + ((3 : Int32) * p1)) + p2)).2.2.1, (f_X4_mostLeft js ml mh mo mb ms (((6 : Int32) + ((3 : Int32) * p1)) + p2)).2.2.2) := (f_X4_leftAtMost_eq th js ml mh mo mb ms p1 p2).trans ((if_neg c_1).trans ((if_neg c_2).trans ((if_neg c_3).trans (rfl))))
        rw [e9]
        dsimp only
        exact z_iret F hr hlocks hP hD hS () [0, 1, 2, 3, 4, 5, 6, 7, 8, 9] rfl rfl rfl dX4_leftAtMost_52
      · refine lv_aload_n hx hb dX4_leftAtMost_32 rfl (lv_at hl 0 rfl) ?_
        refine lv_iconst (v := (2 : Int32)) hx hb dX4_leftAtMost_33 (by decide) ?_
        refine z_callV (As := [.int (2 : Int32)]) (rest := []) (wr := ([] : va_W)) (w1 := fun _ : Unit => (w_X4 G mh0 mvq maq mlq mhq mfq mrq moq mbq msq ((f_X4_no (0 : Int32) (2 : Int32)).2) js mv ma ac po si ta ml mh gu wr mf mr re mo mb ms)) (wj := fun _ : Unit => (w_X4 G mh0 mvq maq mlq mhq mfq mrq moq mbq msq (f_X4_no (0 : Int32) (2 : Int32)).2 js mv ma ac po si ta ml mh gu wr mf mr re mo mb ms)) (ci := 4) (q0 := 0) F (c_X4_no l G mh0 mvq maq mlq mhq mfq mrq moq mbq msq (0 : Int32) js mv ma ac po si ta ml mh gu wr mf mr re mo mb ms (2 : Int32)) gX4_leftAtMost_X4_no rfl rfl rfl zd_X4_no ⟨Nat.le_of_ble_eq_true rfl, Nat.le_of_ble_eq_true rfl⟩ rfl rfl (Nat.le_of_ble_eq_true rfl) dX4_leftAtMost_34 ⟨Nat.le_of_ble_eq_true rfl, Nat.le_of_ble_eq_true rfl⟩ hK hP hD hS hA hl.1 rfl rfl [0, 1, 2, 3, 4, 5, 6, 7, 8, 9] [] [0, 1, 2, 3, 4, 5, 6, 7, 8, 9] rfl rfl rfl rfl (by decide) rfl (fun _ => rfl) (fun _ H locs hP hD hS => ?_)
        have hP : va_P G.1 vwCl (w_X4 G mh0 mvq maq mlq mhq mfq mrq moq mbq msq (f_X4_no (0 : Int32) (2 : Int32)).2 js mv ma ac po si ta ml mh gu wr mf mr re mo mb ms) H := hP
        have hD : va_D A (w_X4 G mh0 mvq maq mlq mhq mfq mrq moq mbq msq (f_X4_no (0 : Int32) (2 : Int32)).2 js mv ma ac po si ta ml mh gu wr mf mr re mo mb ms) := hD
        refine lv_goto (tgt := 52) hx hb dX4_leftAtMost_37 (by decide) ?_
        have e9 : (f_X4_leftAtMost th js ml mh mo mb ms p1 p2) = ((f_X4_no (0 : Int32) (2 : Int32)).1, (f_X4_no (0 : Int32) (2 : Int32)).2, mo, mb, ms) := (f_X4_leftAtMost_eq th js ml mh mo mb ms p1 p2).trans ((if_neg c_1).trans ((if_neg c_2).trans ((if_pos c_3).trans (rfl))))
        rw [e9]
        dsimp only
        exact z_iret F hr hlocks hP hD hS () [0, 1, 2, 3, 4, 5, 6, 7, 8, 9] rfl rfl rfl dX4_leftAtMost_52
    · refine lv_aload_n hx hb dX4_leftAtMost_21 rfl (lv_at hl 0 rfl) ?_
      refine lv_iconst (v := (1 : Int32)) hx hb dX4_leftAtMost_22 (by decide) ?_
      refine z_callV (As := [.int (1 : Int32)]) (rest := []) (wr := ([] : va_W)) (w1 := fun _ : Unit => (w_X4 G mh0 mvq maq mlq mhq mfq mrq moq mbq msq ((f_X4_no (0 : Int32) (1 : Int32)).2) js mv ma ac po si ta ml mh gu wr mf mr re mo mb ms)) (wj := fun _ : Unit => (w_X4 G mh0 mvq maq mlq mhq mfq mrq moq mbq msq (f_X4_no (0 : Int32) (1 : Int32)).2 js mv ma ac po si ta ml mh gu wr mf mr re mo mb ms)) (ci := 4) (q0 := 0) F (c_X4_no l G mh0 mvq maq mlq mhq mfq mrq moq mbq msq (0 : Int32) js mv ma ac po si ta ml mh gu wr mf mr re mo mb ms (1 : Int32)) gX4_leftAtMost_X4_no rfl rfl rfl zd_X4_no ⟨Nat.le_of_ble_eq_true rfl, Nat.le_of_ble_eq_true rfl⟩ rfl rfl (Nat.le_of_ble_eq_true rfl) dX4_leftAtMost_23 ⟨Nat.le_of_ble_eq_true rfl, Nat.le_of_ble_eq_true rfl⟩ hK hP hD hS hA hl.1 rfl rfl [0, 1, 2, 3, 4, 5, 6, 7, 8, 9] [] [0, 1, 2, 3, 4, 5, 6, 7, 8, 9] rfl rfl rfl rfl (by decide) rfl (fun _ => rfl) (fun _ H locs hP hD hS => ?_)
      have hP : va_P G.1 vwCl (w_X4 G mh0 mvq maq mlq mhq mfq mrq moq mbq msq (f_X4_no (0 : Int32) (1 : Int32)).2 js mv ma ac po si ta ml mh gu wr mf mr re mo mb ms) H := hP
      have hD : va_D A (w_X4 G mh0 mvq maq mlq mhq mfq mrq moq mbq msq (f_X4_no (0 : Int32) (1 : Int32)).2 js mv ma ac po si ta ml mh gu wr mf mr re mo mb ms) := hD
      have e9 : (f_X4_leftAtMost th js ml mh mo mb ms p1 p2) = ((f_X4_no (0 : Int32) (1 : Int32)).1, (f_X4_no (0 : Int32) (1 : Int32)).2, mo, mb, ms) := (f_X4_leftAtMost_eq th js ml mh mo mb ms p1 p2).trans ((if_neg c_1).trans ((if_pos c_2).trans (rfl)))
      rw [e9]
      dsimp only
      exact z_iret F hr hlocks hP hD hS () [0, 1, 2, 3, 4, 5, 6, 7, 8, 9] rfl rfl rfl dX4_leftAtMost_26
def lf_X4_tellsMost_10 : Nat → Nat → Int32 → (Nat → Int32) → (Nat → Int32) → (Nat → Int32) → (Nat → Int32) → (Nat → Int32) → Int32 → Int32 → (Nat → Int32) × (Nat → Int32) × (Nat → Int32) × Int32
  | 0, k, js, ml, mh, mo, mb, ms, x1, x2 => (mo, mb, ms, x1)
  | n + 1, k, js, ml, mh, mo, mb, ms, x1, x2 => (if (15 : Int32) ≤ (nI k) then (mo, mb, ms, x1) else (if (f_X4_isAct js (nI k)) = (0 : Int32) then (if (1000 : Int32) < x2 then (lf_X4_tellsMost_10 n (k + 1) js ml mh mo mb ms (nI k) (1000 : Int32)) else (lf_X4_tellsMost_10 n (k + 1) js ml mh mo mb ms x1 x2)) else (if (f_X4_mostLeft js ml mh mo mb ms (nI k)).1 < x2 then (lf_X4_tellsMost_10 n (k + 1) js ml mh ((f_X4_mostLeft js ml mh mo mb ms (nI k)).2.1) ((f_X4_mostLeft js ml mh mo mb ms (nI k)).2.2.1) ((f_X4_mostLeft js ml mh mo mb ms (nI k)).2.2.2) (nI k) ((f_X4_mostLeft js ml mh mo mb ms (nI k)).1)) else (lf_X4_tellsMost_10 n (k + 1) js ml mh ((f_X4_mostLeft js ml mh mo mb ms (nI k)).2.1) ((f_X4_mostLeft js ml mh mo mb ms (nI k)).2.2.1) ((f_X4_mostLeft js ml mh mo mb ms (nI k)).2.2.2) x1 x2))))
theorem lf_X4_tellsMost_10_succ (n k : Nat) (js : Int32) (ml : Nat → Int32) (mh : Nat → Int32) (mo : Nat → Int32) (mb : Nat → Int32) (ms : Nat → Int32) (x1 : Int32) (x2 : Int32) : lf_X4_tellsMost_10 (n + 1) k js ml mh mo mb ms x1 x2 = (if (15 : Int32) ≤ (nI k) then (mo, mb, ms, x1) else (if (f_X4_isAct js (nI k)) = (0 : Int32) then (if (1000 : Int32) < x2 then (lf_X4_tellsMost_10 n (k + 1) js ml mh mo mb ms (nI k) (1000 : Int32)) else (lf_X4_tellsMost_10 n (k + 1) js ml mh mo mb ms x1 x2)) else (if (f_X4_mostLeft js ml mh mo mb ms (nI k)).1 < x2 then (lf_X4_tellsMost_10 n (k + 1) js ml mh ((f_X4_mostLeft js ml mh mo mb ms (nI k)).2.1) ((f_X4_mostLeft js ml mh mo mb ms (nI k)).2.2.1) ((f_X4_mostLeft js ml mh mo mb ms (nI k)).2.2.2) (nI k) ((f_X4_mostLeft js ml mh mo mb ms (nI k)).1)) else (lf_X4_tellsMost_10 n (k + 1) js ml mh ((f_X4_mostLeft js ml mh mo mb ms (nI k)).2.1) ((f_X4_mostLeft js ml mh mo mb ms (nI k)).2.2.1) ((f_X4_mostLeft js ml mh mo mb ms (nI k)).2.2.2) x1 x2)))) := rfl
def f_X4_tellsMost (js : Int32) (ml : Nat → Int32) (mh : Nat → Int32) (mo : Nat → Int32) (mb : Nat → Int32) (ms : Nat → Int32) : Int32 × (Nat → Int32) × (Nat → Int32) × (Nat → Int32) := ((lf_X4_tellsMost_10 10 6 js ml mh mo mb ms (-1 : Int32) (f_X4_left ml)).2.2.2, (lf_X4_tellsMost_10 10 6 js ml mh mo mb ms (-1 : Int32) (f_X4_left ml)).1, (lf_X4_tellsMost_10 10 6 js ml mh mo mb ms (-1 : Int32) (f_X4_left ml)).2.1, (lf_X4_tellsMost_10 10 6 js ml mh mo mb ms (-1 : Int32) (f_X4_left ml)).2.2.1)
theorem f_X4_tellsMost_eq (js : Int32) (ml : Nat → Int32) (mh : Nat → Int32) (mo : Nat → Int32) (mb : Nat → Int32) (ms : Nat → Int32) : f_X4_tellsMost js ml mh mo mb ms = ((lf_X4_tellsMost_10 10 6 js ml mh mo mb ms (-1 : Int32) (f_X4_left ml)).2.2.2, (lf_X4_tellsMost_10 10 6 js ml mh mo mb ms (-1 : Int32) (f_X4_left ml)).1, (lf_X4_tellsMost_10 10 6 js ml mh mo mb ms (-1 : Int32) (f_X4_left ml)).2.1, (lf_X4_tellsMost_10 10 6 js ml mh mo mb ms (-1 : Int32) (f_X4_left ml)).2.2.1) := rfl
def sf_X4_tellsMost_10 : Nat → Nat → Int32 → (Nat → Int32) → (Nat → Int32) → (Nat → Int32) → (Nat → Int32) → (Nat → Int32) → Int32 → Prop
  | 0, k, js, ml, mh, mo, mb, ms, x2 => True
  | n + 1, k, js, ml, mh, mo, mb, ms, x2 => (((15 : Int32) ≤ (nI k) → True) ∧ (¬ (15 : Int32) ≤ (nI k) → (((f_X4_isAct js (nI k)) = (0 : Int32) → (((1000 : Int32) < x2 → (sf_X4_tellsMost_10 n (k + 1) js ml mh mo mb ms (1000 : Int32))) ∧ (¬ (1000 : Int32) < x2 → (sf_X4_tellsMost_10 n (k + 1) js ml mh mo mb ms x2)))) ∧ (¬ (f_X4_isAct js (nI k)) = (0 : Int32) → (s_X4_mostLeft js ml mh mo mb (nI k)) ∧ (((f_X4_mostLeft js ml mh mo mb ms (nI k)).1 < x2 → (sf_X4_tellsMost_10 n (k + 1) js ml mh ((f_X4_mostLeft js ml mh mo mb ms (nI k)).2.1) ((f_X4_mostLeft js ml mh mo mb ms (nI k)).2.2.1) ((f_X4_mostLeft js ml mh mo mb ms (nI k)).2.2.2) ((f_X4_mostLeft js ml mh mo mb ms (nI k)).1))) ∧ (¬ (f_X4_mostLeft js ml mh mo mb ms (nI k)).1 < x2 → (sf_X4_tellsMost_10 n (k + 1) js ml mh ((f_X4_mostLeft js ml mh mo mb ms (nI k)).2.1) ((f_X4_mostLeft js ml mh mo mb ms (nI k)).2.2.1) ((f_X4_mostLeft js ml mh mo mb ms (nI k)).2.2.2) x2)))))))
theorem sf_X4_tellsMost_10_succ (n k : Nat) (js : Int32) (ml : Nat → Int32) (mh : Nat → Int32) (mo : Nat → Int32) (mb : Nat → Int32) (ms : Nat → Int32) (x2 : Int32) : sf_X4_tellsMost_10 (n + 1) k js ml mh mo mb ms x2 = ((((15 : Int32) ≤ (nI k) → True) ∧ (¬ (15 : Int32) ≤ (nI k) → (((f_X4_isAct js (nI k)) = (0 : Int32) → (((1000 : Int32) < x2 → (sf_X4_tellsMost_10 n (k + 1) js ml mh mo mb ms (1000 : Int32))) ∧ (¬ (1000 : Int32) < x2 → (sf_X4_tellsMost_10 n (k + 1) js ml mh mo mb ms x2)))) ∧ (¬ (f_X4_isAct js (nI k)) = (0 : Int32) → (s_X4_mostLeft js ml mh mo mb (nI k)) ∧ (((f_X4_mostLeft js ml mh mo mb ms (nI k)).1 < x2 → (sf_X4_tellsMost_10 n (k + 1) js ml mh ((f_X4_mostLeft js ml mh mo mb ms (nI k)).2.1) ((f_X4_mostLeft js ml mh mo mb ms (nI k)).2.2.1) ((f_X4_mostLeft js ml mh mo mb ms (nI k)).2.2.2) ((f_X4_mostLeft js ml mh mo mb ms (nI k)).1))) ∧ (¬ (f_X4_mostLeft js ml mh mo mb ms (nI k)).1 < x2 → (sf_X4_tellsMost_10 n (k + 1) js ml mh ((f_X4_mostLeft js ml mh mo mb ms (nI k)).2.1) ((f_X4_mostLeft js ml mh mo mb ms (nI k)).2.2.1) ((f_X4_mostLeft js ml mh mo mb ms (nI k)).2.2.2) x2)))))))) := rfl
def s_X4_tellsMost (js : Int32) (ml : Nat → Int32) (mh : Nat → Int32) (mo : Nat → Int32) (mb : Nat → Int32) (ms : Nat → Int32) : Prop := (sf_X4_tellsMost_10 10 6 js ml mh mo mb ms (f_X4_left ml))
abbrev rm_X4_tellsMost : Room := { frames := 3, cells := 0, slots := 0, locals := 67 }
theorem zd_X4_tellsMost : yX4_tellsMost.cls = RX4 ∧ yX4_tellsMost.cls ≠ "java/lang/invoke/MethodHandle" ∧ yX4_tellsMost.cls ≠ "java/lang/invoke/VarHandle" ∧ (parseMethodDescriptor yX4_tellsMost.desc).map (fun d => d.parameters.length) = some 0 := by decide +kernel
set_option maxHeartbeats 4000000 in
set_option maxRecDepth 100000 in
theorem l_X4_tellsMost_10 {p : Program} {l : Launch} {e : Env} {s : State} {m : MethodId} {args : Array Value} {below : List Frame} {meth : Method} {c : Code} {A : Nat → Prop} {Q : State → Prop} {G : zG} (F : CallFix p m c cX4_tellsMost 5 s args wsX4_tellsMost RX4) (hr : meth.sig.returnType = (some .int)) (hlocks : meth.locks = false) (hK : zK G s) (hA : ∀ q : Nat, s.heap.size ≤ q → A q) (mh0 mvq maq mlq mhq mfq mrq moq mbq msq : Nat) :
    ∀ (n k : Nat) (th : Int32) (js : Int32) (mv : Nat → Int32) (ma : Nat → Int32) (ac : Int32) (po : Int32) (si : Int32) (ta : Int32) (ml : Nat → Int32) (mh : Nat → Int32) (gu : Int32) (wr : Int32) (mf : Nat → Int32) (mr : Nat → Int32) (re : Int32) (mo : Nat → Int32) (mb : Nat → Int32) (ms : Nat → Int32) (x1 : Int32) (x2 : Int32), k + n = 15 + 1 → k ≤ 15 → (sf_X4_tellsMost_10 n k js ml mh mo mb ms x2) → ∀ (H : Heap) (locs : List Loc) (ls : Array Slot), va_P G.1 vwCl (w_X4 G mh0 mvq maq mlq mhq mfq mrq moq mbq msq th js mv ma ac po si ta ml mh gu wr mf mr re mo mb ms) H → va_D A (w_X4 G mh0 mvq maq mlq mhq mfq mrq moq mbq msq th js mv ma ac po si ta ml mh gu wr mf mr re mo mb ms) → va_S A s.heap H locs → lv_has ls 5 [(0, .ref mh0), (1, .int x1), (2, .int x2), (3, .int (nI k))] → (∀ (H : Heap) (locs : List Loc) (ls : Array Slot), va_P G.1 vwCl (w_X4 G mh0 mvq maq mlq mhq mfq mrq moq mbq msq th js mv ma ac po si ta ml mh gu wr mf mr re ((lf_X4_tellsMost_10 n k js ml mh mo mb ms x1 x2).1) ((lf_X4_tellsMost_10 n k js ml mh mo mb ms x1 x2).2.1) ((lf_X4_tellsMost_10 n k js ml mh mo mb ms x1 x2).2.2.1)) H → va_D A (w_X4 G mh0 mvq maq mlq mhq mfq mrq moq mbq msq th js mv ma ac po si ta ml mh gu wr mf mr re ((lf_X4_tellsMost_10 n k js ml mh mo mb ms x1 x2).1) ((lf_X4_tellsMost_10 n k js ml mh mo mb ms x1 x2).2.1) ((lf_X4_tellsMost_10 n k js ml mh mo mb ms x1 x2).2.2.1)) → va_S A s.heap H locs → lv_has ls 5 [(1, .int (lf_X4_tellsMost_10 n k js ml mh mo mb ms x1 x2).2.2.2)] → W p l e rm_X4_tellsMost s m args below meth c H locs 0 0 Q (F0 m 57 ls [])) → W p l e rm_X4_tellsMost s m args below meth c H locs 0 0 Q (F0 m 10 ls []) := by
  obtain ⟨hx, hb, hml, hown, hts⟩ := id F
  intro n
  induction n with
  | zero => intro k th js mv ma ac po si ta ml mh gu wr mf mr re mo mb ms x1 x2 h1 h2; omega
  | succ n IH9 =>
    intro k th js mv ma ac po si ta ml mh gu wr mf mr re mo mb ms x1 x2 hkn hkN hs H locs ls hP hD hS hl kk
    have hs : (((15 : Int32) ≤ (nI k) → True) ∧ (¬ (15 : Int32) ≤ (nI k) → (((f_X4_isAct js (nI k)) = (0 : Int32) → (((1000 : Int32) < x2 → (sf_X4_tellsMost_10 n (k + 1) js ml mh mo mb ms (1000 : Int32))) ∧ (¬ (1000 : Int32) < x2 → (sf_X4_tellsMost_10 n (k + 1) js ml mh mo mb ms x2)))) ∧ (¬ (f_X4_isAct js (nI k)) = (0 : Int32) → (s_X4_mostLeft js ml mh mo mb (nI k)) ∧ (((f_X4_mostLeft js ml mh mo mb ms (nI k)).1 < x2 → (sf_X4_tellsMost_10 n (k + 1) js ml mh ((f_X4_mostLeft js ml mh mo mb ms (nI k)).2.1) ((f_X4_mostLeft js ml mh mo mb ms (nI k)).2.2.1) ((f_X4_mostLeft js ml mh mo mb ms (nI k)).2.2.2) ((f_X4_mostLeft js ml mh mo mb ms (nI k)).1))) ∧ (¬ (f_X4_mostLeft js ml mh mo mb ms (nI k)).1 < x2 → (sf_X4_tellsMost_10 n (k + 1) js ml mh ((f_X4_mostLeft js ml mh mo mb ms (nI k)).2.1) ((f_X4_mostLeft js ml mh mo mb ms (nI k)).2.2.1) ((f_X4_mostLeft js ml mh mo mb ms (nI k)).2.2.2) x2))))))) := hs
    refine lv_iload_n hx hb dX4_tellsMost_10 rfl (lv_at hl 3 rfl) ?_
    refine lv_bipush (v := (15 : Int32)) hx hb dX4_tellsMost_11 (by decide) ?_
    refine lv_icmp_ge (tgt := 57) hx hb dX4_tellsMost_13 (by decide) (fun (c_1 : (15 : Int32) ≤ (nI k)) => ?_) (fun (c_1 : ¬ (15 : Int32) ≤ (nI k)) => ?_)
    · have e9 : (lf_X4_tellsMost_10 (n + 1) k js ml mh mo mb ms x1 x2) = (mo, mb, ms, x1) := (lf_X4_tellsMost_10_succ n k js ml mh mo mb ms x1 x2).trans ((if_pos c_1).trans (rfl))
      rw [e9] at kk
      dsimp only at kk
      exact kk H locs ls hP hD hS (lv_sub hl [1] rfl)
    · have hs := hs.2 c_1
      refine lv_aload_n hx hb dX4_tellsMost_16 rfl (lv_at hl 0 rfl) ?_
      refine lv_iload_n hx hb dX4_tellsMost_17 rfl (lv_at hl 3 rfl) ?_
      refine z_callV (As := [.int (nI k)]) (rest := []) (wr := ([] : va_W)) (w1 := fun _ : Unit => (w_X4 G mh0 mvq maq mlq mhq mfq mrq moq mbq msq th js mv ma ac po si ta ml mh gu wr mf mr re mo mb ms)) (wj := fun _ : Unit => (w_X4 G mh0 mvq maq mlq mhq mfq mrq moq mbq msq th js mv ma ac po si ta ml mh gu wr mf mr re mo mb ms)) (ci := 4) (q0 := 0) F (c_X4_isAct l G mh0 mvq maq mlq mhq mfq mrq moq mbq msq th js mv ma ac po si ta ml mh gu wr mf mr re mo mb ms (nI k)) gX4_tellsMost_X4_isAct rfl rfl rfl zd_X4_isAct ⟨Nat.le_of_ble_eq_true rfl, Nat.le_of_ble_eq_true rfl⟩ rfl rfl (Nat.le_of_ble_eq_true rfl) dX4_tellsMost_18 ⟨Nat.le_of_ble_eq_true rfl, Nat.le_of_ble_eq_true rfl⟩ hK hP hD hS hA hl.1 rfl rfl [0, 1, 2, 3, 4, 5, 6, 7, 8, 9] [] [0, 1, 2, 3, 4, 5, 6, 7, 8, 9] rfl rfl rfl rfl (by decide) rfl (fun _ => rfl) (fun _ H locs hP hD hS => ?_)
      have hP : va_P G.1 vwCl (w_X4 G mh0 mvq maq mlq mhq mfq mrq moq mbq msq th js mv ma ac po si ta ml mh gu wr mf mr re mo mb ms) H := hP
      have hD : va_D A (w_X4 G mh0 mvq maq mlq mhq mfq mrq moq mbq msq th js mv ma ac po si ta ml mh gu wr mf mr re mo mb ms) := hD
      refine lv_if_eq (tgt := 32) hx hb dX4_tellsMost_21 (by decide) (fun (c_2 : (f_X4_isAct js (nI k)) = (0 : Int32)) => ?_) (fun (c_2 : ¬ (f_X4_isAct js (nI k)) = (0 : Int32)) => ?_)
      · have hs := hs.1 c_2
        refine lv_sipush (v := (1000 : Int32)) hx hb dX4_tellsMost_32 (by decide) ?_
        refine lv_istore (lv' := [(4, .int (1000 : Int32)), (0, .ref mh0), (1, .int x1), (2, .int x2), (3, .int (nI k))]) hx hb dX4_tellsMost_35 hl (by decide) rfl (fun ls hl => ?_)
        refine lv_iload hx hb dX4_tellsMost_37 (lv_at hl 0 rfl) ?_
        refine lv_iload_n hx hb dX4_tellsMost_39 rfl (lv_at hl 3 rfl) ?_
        refine lv_icmp_lt (tgt := 46) hx hb dX4_tellsMost_40 (by decide) (fun (c_3 : (1000 : Int32) < x2) => ?_) (fun (c_3 : ¬ (1000 : Int32) < x2) => ?_)
        · have hs := hs.1 c_3
          refine lv_iload_n hx hb dX4_tellsMost_46 rfl (lv_at hl 4 rfl) ?_
          refine lv_istore_n (lv' := [(1, .int (nI k)), (4, .int (1000 : Int32)), (0, .ref mh0), (2, .int x2), (3, .int (nI k))]) hx hb dX4_tellsMost_47 rfl hl (by decide) rfl (fun ls hl => ?_)
          refine lv_iload hx hb dX4_tellsMost_48 (lv_at hl 1 rfl) ?_
          refine lv_istore_n (lv' := [(2, .int (1000 : Int32)), (1, .int (nI k)), (4, .int (1000 : Int32)), (0, .ref mh0), (3, .int (nI k))]) hx hb dX4_tellsMost_50 rfl hl (by decide) rfl (fun ls hl => ?_)
          refine lv_iinc (v := (nI (k + 1))) (lv' := [(3, .int (nI (k + 1))), (2, .int (1000 : Int32)), (1, .int (nI k)), (4, .int (1000 : Int32)), (0, .ref mh0)]) hx hb dX4_tellsMost_51 hl (k := 4) rfl (nI_1 k) (by decide) rfl (fun ls hl => ?_)
          refine lv_goto (tgt := 10) hx hb dX4_tellsMost_54 (by decide) ?_
          have e9 : (lf_X4_tellsMost_10 (n + 1) k js ml mh mo mb ms x1 x2) = (lf_X4_tellsMost_10 n (k + 1) js ml mh mo mb ms (nI k) (1000 : Int32)) := (lf_X4_tellsMost_10_succ n k js ml mh mo mb ms x1 x2).trans ((if_neg c_1).trans ((if_pos c_2).trans ((if_pos c_3).trans (rfl))))
          rw [e9] at kk
          have h9 := zk_lt (N := 15) (by omega) rfl c_1
          exact IH9 (k + 1) th js mv ma ac po si ta ml mh gu wr mf mr re mo mb ms (nI k) (1000 : Int32) (by omega) (by omega) hs H locs ls hP hD hS (lv_sub hl [4, 2, 1, 0] rfl) kk
        · have hs := hs.2 c_3
          refine lv_goto (tgt := 51) hx hb dX4_tellsMost_43 (by decide) ?_
          refine lv_iinc (v := (nI (k + 1))) (lv' := [(3, .int (nI (k + 1))), (4, .int (1000 : Int32)), (0, .ref mh0), (1, .int x1), (2, .int x2)]) hx hb dX4_tellsMost_51 hl (k := 4) rfl (nI_1 k) (by decide) rfl (fun ls hl => ?_)
          refine lv_goto (tgt := 10) hx hb dX4_tellsMost_54 (by decide) ?_
          have e9 : (lf_X4_tellsMost_10 (n + 1) k js ml mh mo mb ms x1 x2) = (lf_X4_tellsMost_10 n (k + 1) js ml mh mo mb ms x1 x2) := (lf_X4_tellsMost_10_succ n k js ml mh mo mb ms x1 x2).trans ((if_neg c_1).trans ((if_pos c_2).trans ((if_neg c_3).trans (rfl))))
          rw [e9] at kk
          have h9 := zk_lt (N := 15) (by omega) rfl c_1
          exact IH9 (k + 1) th js mv ma ac po si ta ml mh gu wr mf mr re mo mb ms x1 x2 (by omega) (by omega) hs H locs ls hP hD hS (lv_sub hl [2, 3, 4, 0] rfl) kk
      · have hs := hs.2 c_2
        refine lv_aload_n hx hb dX4_tellsMost_24 rfl (lv_at hl 0 rfl) ?_
        refine lv_iload_n hx hb dX4_tellsMost_25 rfl (lv_at hl 3 rfl) ?_
        obtain ⟨h_4, hs⟩ := hs
        refine z_callV (As := [.int (nI k)]) (rest := []) (wr := ([] : va_W)) (w1 := fun _ : Unit => (w_X4 G mh0 mvq maq mlq mhq mfq mrq moq mbq msq th js mv ma ac po si ta ml mh gu wr mf mr re ((f_X4_mostLeft js ml mh mo mb ms (nI k)).2.1) ((f_X4_mostLeft js ml mh mo mb ms (nI k)).2.2.1) ((f_X4_mostLeft js ml mh mo mb ms (nI k)).2.2.2))) (wj := fun _ : Unit => (w_X4 G mh0 mvq maq mlq mhq mfq mrq moq mbq msq th js mv ma ac po si ta ml mh gu wr mf mr re (f_X4_mostLeft js ml mh mo mb ms (nI k)).2.1 (f_X4_mostLeft js ml mh mo mb ms (nI k)).2.2.1 (f_X4_mostLeft js ml mh mo mb ms (nI k)).2.2.2)) (ci := 4) (q0 := 0) F (c_X4_mostLeft l G mh0 mvq maq mlq mhq mfq mrq moq mbq msq th js mv ma ac po si ta ml mh gu wr mf mr re mo mb ms (nI k) h_4) gX4_tellsMost_X4_mostLeft rfl rfl rfl zd_X4_mostLeft ⟨Nat.le_of_ble_eq_true rfl, Nat.le_of_ble_eq_true rfl⟩ rfl rfl (Nat.le_of_ble_eq_true rfl) dX4_tellsMost_26 ⟨Nat.le_of_ble_eq_true rfl, Nat.le_of_ble_eq_true rfl⟩ hK hP hD hS hA hl.1 rfl rfl [0, 1, 2, 3, 4, 5, 6, 7, 8, 9] [] [0, 1, 2, 3, 4, 5, 6, 7, 8, 9] rfl rfl rfl rfl (by decide) rfl (fun _ => rfl) (fun _ H locs hP hD hS => ?_)
        have hP : va_P G.1 vwCl (w_X4 G mh0 mvq maq mlq mhq mfq mrq moq mbq msq th js mv ma ac po si ta ml mh gu wr mf mr re (f_X4_mostLeft js ml mh mo mb ms (nI k)).2.1 (f_X4_mostLeft js ml mh mo mb ms (nI k)).2.2.1 (f_X4_mostLeft js ml mh mo mb ms (nI k)).2.2.2) H := hP
        have hD : va_D A (w_X4 G mh0 mvq maq mlq mhq mfq mrq moq mbq msq th js mv ma ac po si ta ml mh gu wr mf mr re (f_X4_mostLeft js ml mh mo mb ms (nI k)).2.1 (f_X4_mostLeft js ml mh mo mb ms (nI k)).2.2.1 (f_X4_mostLeft js ml mh mo mb ms (nI k)).2.2.2) := hD
        refine lv_goto (tgt := 35) hx hb dX4_tellsMost_29 (by decide) ?_
        refine lv_istore (lv' := [(4, .int (f_X4_mostLeft js ml mh mo mb ms (nI k)).1), (0, .ref mh0), (1, .int x1), (2, .int x2), (3, .int (nI k))]) hx hb dX4_tellsMost_35 hl (by decide) rfl (fun ls hl => ?_)
        refine lv_iload hx hb dX4_tellsMost_37 (lv_at hl 0 rfl) ?_
        refine lv_iload_n hx hb dX4_tellsMost_39 rfl (lv_at hl 3 rfl) ?_
        refine lv_icmp_lt (tgt := 46) hx hb dX4_tellsMost_40 (by decide) (fun (c_5 : (f_X4_mostLeft js ml mh mo mb ms (nI k)).1 < x2) => ?_) (fun (c_5 : ¬ (f_X4_mostLeft js ml mh mo mb ms (nI k)).1 < x2) => ?_)
        · have hs := hs.1 c_5
          refine lv_iload_n hx hb dX4_tellsMost_46 rfl (lv_at hl 4 rfl) ?_
          refine lv_istore_n (lv' := [(1, .int (nI k)), (4, .int (f_X4_mostLeft js ml mh mo mb ms (nI k)).1), (0, .ref mh0), (2, .int x2), (3, .int (nI k))]) hx hb dX4_tellsMost_47 rfl hl (by decide) rfl (fun ls hl => ?_)
          refine lv_iload hx hb dX4_tellsMost_48 (lv_at hl 1 rfl) ?_
          refine lv_istore_n (lv' := [(2, .int (f_X4_mostLeft js ml mh mo mb ms (nI k)).1), (1, .int (nI k)), (4, .int (f_X4_mostLeft js ml mh mo mb ms (nI k)).1), (0, .ref mh0), (3, .int (nI k))]) hx hb dX4_tellsMost_50 rfl hl (by decide) rfl (fun ls hl => ?_)
          refine lv_iinc (v := (nI (k + 1))) (lv' := [(3, .int (nI (k + 1))), (2, .int (f_X4_mostLeft js ml mh mo mb ms (nI k)).1), (1, .int (nI k)), (4, .int (f_X4_mostLeft js ml mh mo mb ms (nI k)).1), (0, .ref mh0)]) hx hb dX4_tellsMost_51 hl (k := 4) rfl (nI_1 k) (by decide) rfl (fun ls hl => ?_)
          refine lv_goto (tgt := 10) hx hb dX4_tellsMost_54 (by decide) ?_
          have e9 : (lf_X4_tellsMost_10 (n + 1) k js ml mh mo mb ms x1 x2) = (lf_X4_tellsMost_10 n (k + 1) js ml mh ((f_X4_mostLeft js ml mh mo mb ms (nI k)).2.1) ((f_X4_mostLeft js ml mh mo mb ms (nI k)).2.2.1) ((f_X4_mostLeft js ml mh mo mb ms (nI k)).2.2.2) (nI k) ((f_X4_mostLeft js ml mh mo mb ms (nI k)).1)) := (lf_X4_tellsMost_10_succ n k js ml mh mo mb ms x1 x2).trans ((if_neg c_1).trans ((if_neg c_2).trans ((if_pos c_5).trans (rfl))))
          rw [e9] at kk
          have h9 := zk_lt (N := 15) (by omega) rfl c_1
          exact IH9 (k + 1) th js mv ma ac po si ta ml mh gu wr mf mr re ((f_X4_mostLeft js ml mh mo mb ms (nI k)).2.1) ((f_X4_mostLeft js ml mh mo mb ms (nI k)).2.2.1) ((f_X4_mostLeft js ml mh mo mb ms (nI k)).2.2.2) (nI k) ((f_X4_mostLeft js ml mh mo mb ms (nI k)).1) (by omega) (by omega) hs H locs ls hP hD hS (lv_sub hl [4, 2, 1, 0] rfl) kk
        · have hs := hs.2 c_5
          refine lv_goto (tgt := 51) hx hb dX4_tellsMost_43 (by decide) ?_
          refine lv_iinc (v := (nI (k + 1))) (lv' := [(3, .int (nI (k + 1))), (4, .int (f_X4_mostLeft js ml mh mo mb ms (nI k)).1), (0, .ref mh0), (1, .int x1), (2, .int x2)]) hx hb dX4_tellsMost_51 hl (k := 4) rfl (nI_1 k) (by decide) rfl (fun ls hl => ?_)
          refine lv_goto (tgt := 10) hx hb dX4_tellsMost_54 (by decide) ?_
          have e9 : (lf_X4_tellsMost_10 (n + 1) k js ml mh mo mb ms x1 x2) = (lf_X4_tellsMost_10 n (k + 1) js ml mh ((f_X4_mostLeft js ml mh mo mb ms (nI k)).2.1) ((f_X4_mostLeft js ml mh mo mb ms (nI k)).2.2.1) ((f_X4_mostLeft js ml mh mo mb ms (nI k)).2.2.2) x1 x2) := (lf_X4_tellsMost_10_succ n k js ml mh mo mb ms x1 x2).trans ((if_neg c_1).trans ((if_neg c_2).trans ((if_neg c_5).trans (rfl))))
          rw [e9] at kk
          have h9 := zk_lt (N := 15) (by omega) rfl c_1
          exact IH9 (k + 1) th js mv ma ac po si ta ml mh gu wr mf mr re ((f_X4_mostLeft js ml mh mo mb ms (nI k)).2.1) ((f_X4_mostLeft js ml mh mo mb ms (nI k)).2.2.1) ((f_X4_mostLeft js ml mh mo mb ms (nI k)).2.2.2) x1 x2 (by omega) (by omega) hs H locs ls hP hD hS (lv_sub hl [2, 3, 4, 0] rfl) kk
set_option maxHeartbeats 4000000 in
set_option maxRecDepth 100000 in
/-- JarRiddleModel.tellsMost()I -/
theorem c_X4_tellsMost (l : Launch) (G : zG) (mh0 mvq maq mlq mhq mfq mrq moq mbq msq : Nat) (th : Int32) (js : Int32) (mv : Nat → Int32) (ma : Nat → Int32) (ac : Int32) (po : Int32) (si : Int32) (ta : Int32) (ml : Nat → Int32) (mh : Nat → Int32) (gu : Int32) (wr : Int32) (mf : Nat → Int32) (mr : Nat → Int32) (re : Int32) (mo : Nat → Int32) (mb : Nat → Int32) (ms : Nat → Int32) (hs : s_X4_tellsMost js ml mh mo mb ms) : zC l G yX4_tellsMost wsX4_tellsMost rm_X4_tellsMost 0 0 [.ref mh0] (w_X4 G mh0 mvq maq mlq mhq mfq mrq moq mbq msq th js mv ma ac po si ta ml mh gu wr mf mr re mo mb ms) (some (.int (f_X4_tellsMost js ml mh mo mb ms).1)) (fun _ : Unit => (w_X4 G mh0 mvq maq mlq mhq mfq mrq moq mbq msq th js mv ma ac po si ta ml mh gu wr mf mr re ((f_X4_tellsMost js ml mh mo mb ms).2.1) ((f_X4_tellsMost js ml mh mo mb ms).2.2.1) ((f_X4_tellsMost js ml mh mo mb ms).2.2.2))) := by
  refine z_of (cc := cX4_tellsMost) (maxL := 5) (ret := (some .int)) (own := RX4) (by decide) rfl rfl (Nat.le_of_ble_eq_true rfl) ?_
  intro p e s m args below meth c A H locs ls F hr hlocks hname hK hA hP hD hS hl
  obtain ⟨hx, hb, hml, hown, hts⟩ := id F
  have hl : lv_has ls 5 [(0, .ref mh0)] := hl
  have hs : (sf_X4_tellsMost_10 10 6 js ml mh mo mb ms (f_X4_left ml)) := hs
  refine lv_iconst (v := (-1 : Int32)) hx hb dX4_tellsMost_0 (by decide) ?_
  refine lv_istore_n (lv' := [(1, .int (-1 : Int32)), (0, .ref mh0)]) hx hb dX4_tellsMost_1 rfl hl (by decide) rfl (fun ls hl => ?_)
  refine lv_aload_n hx hb dX4_tellsMost_2 rfl (lv_at hl 1 rfl) ?_
  refine z_callV (As := []) (rest := []) (wr := ([] : va_W)) (w1 := fun _ : Unit => (w_X4 G mh0 mvq maq mlq mhq mfq mrq moq mbq msq th js mv ma ac po si ta ml mh gu wr mf mr re mo mb ms)) (wj := fun _ : Unit => (w_X4 G mh0 mvq maq mlq mhq mfq mrq moq mbq msq th js mv ma ac po si ta ml mh gu wr mf mr re mo mb ms)) (ci := 4) (q0 := 0) F (c_X4_left l G mh0 mvq maq mlq mhq mfq mrq moq mbq msq th js mv ma ac po si ta ml mh gu wr mf mr re mo mb ms) gX4_tellsMost_X4_left rfl rfl rfl zd_X4_left ⟨Nat.le_of_ble_eq_true rfl, Nat.le_of_ble_eq_true rfl⟩ rfl rfl (Nat.le_of_ble_eq_true rfl) dX4_tellsMost_3 ⟨Nat.le_of_ble_eq_true rfl, Nat.le_of_ble_eq_true rfl⟩ hK hP hD hS hA hl.1 rfl rfl [0, 1, 2, 3, 4, 5, 6, 7, 8, 9] [] [0, 1, 2, 3, 4, 5, 6, 7, 8, 9] rfl rfl rfl rfl (by decide) rfl (fun _ => rfl) (fun _ H locs hP hD hS => ?_)
  have hP : va_P G.1 vwCl (w_X4 G mh0 mvq maq mlq mhq mfq mrq moq mbq msq th js mv ma ac po si ta ml mh gu wr mf mr re mo mb ms) H := hP
  have hD : va_D A (w_X4 G mh0 mvq maq mlq mhq mfq mrq moq mbq msq th js mv ma ac po si ta ml mh gu wr mf mr re mo mb ms) := hD
  refine lv_istore_n (lv' := [(2, .int (f_X4_left ml)), (1, .int (-1 : Int32)), (0, .ref mh0)]) hx hb dX4_tellsMost_6 rfl hl (by decide) rfl (fun ls hl => ?_)
  refine lv_bipush (v := (6 : Int32)) hx hb dX4_tellsMost_7 (by decide) ?_
  refine lv_istore_n (lv' := [(3, .int (6 : Int32)), (2, .int (f_X4_left ml)), (1, .int (-1 : Int32)), (0, .ref mh0)]) hx hb dX4_tellsMost_9 rfl hl (by decide) rfl (fun ls hl => ?_)
  have h_6 := hs
  refine l_X4_tellsMost_10 F hr hlocks hK hA mh0 mvq maq mlq mhq mfq mrq moq mbq msq 10 6 th js mv ma ac po si ta ml mh gu wr mf mr re mo mb ms (-1 : Int32) (f_X4_left ml) (by omega) (by omega) h_6 H locs ls hP hD hS (lv_sub hl [3, 2, 1, 0] rfl) ?_
  intro H locs ls hP hD hS hl
  have hP : va_P G.1 vwCl (w_X4 G mh0 mvq maq mlq mhq mfq mrq moq mbq msq th js mv ma ac po si ta ml mh gu wr mf mr re (lf_X4_tellsMost_10 10 6 js ml mh mo mb ms (-1 : Int32) (f_X4_left ml)).1 (lf_X4_tellsMost_10 10 6 js ml mh mo mb ms (-1 : Int32) (f_X4_left ml)).2.1 (lf_X4_tellsMost_10 10 6 js ml mh mo mb ms (-1 : Int32) (f_X4_left ml)).2.2.1) H := hP
  have hD : va_D A (w_X4 G mh0 mvq maq mlq mhq mfq mrq moq mbq msq th js mv ma ac po si ta ml mh gu wr mf mr re (lf_X4_tellsMost_10 10 6 js ml mh mo mb ms (-1 : Int32) (f_X4_left ml)).1 (lf_X4_tellsMost_10 10 6 js ml mh mo mb ms (-1 : Int32) (f_X4_left ml)).2.1 (lf_X4_tellsMost_10 10 6 js ml mh mo mb ms (-1 : Int32) (f_X4_left ml)).2.2.1) := hD
  have hl : lv_has ls 5 [(1, .int (lf_X4_tellsMost_10 10 6 js ml mh mo mb ms (-1 : Int32) (f_X4_left ml)).2.2.2)] := hl
  refine lv_iload_n hx hb dX4_tellsMost_57 rfl (lv_at hl 0 rfl) ?_
  have e9 : (f_X4_tellsMost js ml mh mo mb ms) = ((lf_X4_tellsMost_10 10 6 js ml mh mo mb ms (-1 : Int32) (f_X4_left ml)).2.2.2, (lf_X4_tellsMost_10 10 6 js ml mh mo mb ms (-1 : Int32) (f_X4_left ml)).1, (lf_X4_tellsMost_10 10 6 js ml mh mo mb ms (-1 : Int32) (f_X4_left ml)).2.1, (lf_X4_tellsMost_10 10 6 js ml mh mo mb ms (-1 : Int32) (f_X4_left ml)).2.2.1) := (f_X4_tellsMost_eq js ml mh mo mb ms).trans (rfl)
  rw [e9]
  dsimp only
  exact z_iret F hr hlocks hP hD hS () [0, 1, 2, 3, 4, 5, 6, 7, 8, 9] rfl rfl rfl dX4_tellsMost_58
def f_X4_bestPour (th : Int32) (js : Int32) (ml : Nat → Int32) (mh : Nat → Int32) (mo : Nat → Int32) (mb : Nat → Int32) (ms : Nat → Int32) : Int32 × Int32 × (Nat → Int32) × (Nat → Int32) × (Nat → Int32) := ((f_X4_ok th ((f_X4_tellsMost js ml mh mo mb ms).1)).1, (f_X4_ok th ((f_X4_tellsMost js ml mh mo mb ms).1)).2, (f_X4_tellsMost js ml mh mo mb ms).2.1, (f_X4_tellsMost js ml mh mo mb ms).2.2.1, (f_X4_tellsMost js ml mh mo mb ms).2.2.2)
theorem f_X4_bestPour_eq (th : Int32) (js : Int32) (ml : Nat → Int32) (mh : Nat → Int32) (mo : Nat → Int32) (mb : Nat → Int32) (ms : Nat → Int32) : f_X4_bestPour th js ml mh mo mb ms = ((f_X4_ok th ((f_X4_tellsMost js ml mh mo mb ms).1)).1, (f_X4_ok th ((f_X4_tellsMost js ml mh mo mb ms).1)).2, (f_X4_tellsMost js ml mh mo mb ms).2.1, (f_X4_tellsMost js ml mh mo mb ms).2.2.1, (f_X4_tellsMost js ml mh mo mb ms).2.2.2) := rfl
def s_X4_bestPour (js : Int32) (ml : Nat → Int32) (mh : Nat → Int32) (mo : Nat → Int32) (mb : Nat → Int32) (ms : Nat → Int32) : Prop := (s_X4_tellsMost js ml mh mo mb ms)
abbrev rm_X4_bestPour : Room := { frames := 4, cells := 0, slots := 0, locals := 91 }
theorem zd_X4_bestPour : yX4_bestPour.cls = RX4 ∧ yX4_bestPour.cls ≠ "java/lang/invoke/MethodHandle" ∧ yX4_bestPour.cls ≠ "java/lang/invoke/VarHandle" ∧ (parseMethodDescriptor yX4_bestPour.desc).map (fun d => d.parameters.length) = some 0 := by decide +kernel
set_option maxHeartbeats 4000000 in
set_option maxRecDepth 100000 in
/-- JarRiddleModel.bestPour()I -/
theorem c_X4_bestPour (l : Launch) (G : zG) (mh0 mvq maq mlq mhq mfq mrq moq mbq msq : Nat) (th : Int32) (js : Int32) (mv : Nat → Int32) (ma : Nat → Int32) (ac : Int32) (po : Int32) (si : Int32) (ta : Int32) (ml : Nat → Int32) (mh : Nat → Int32) (gu : Int32) (wr : Int32) (mf : Nat → Int32) (mr : Nat → Int32) (re : Int32) (mo : Nat → Int32) (mb : Nat → Int32) (ms : Nat → Int32) (hs : s_X4_bestPour js ml mh mo mb ms) : zC l G yX4_bestPour wsX4_bestPour rm_X4_bestPour 0 0 [.ref mh0] (w_X4 G mh0 mvq maq mlq mhq mfq mrq moq mbq msq th js mv ma ac po si ta ml mh gu wr mf mr re mo mb ms) (some (.int (f_X4_bestPour th js ml mh mo mb ms).1)) (fun _ : Unit => (w_X4 G mh0 mvq maq mlq mhq mfq mrq moq mbq msq ((f_X4_bestPour th js ml mh mo mb ms).2.1) js mv ma ac po si ta ml mh gu wr mf mr re ((f_X4_bestPour th js ml mh mo mb ms).2.2.1) ((f_X4_bestPour th js ml mh mo mb ms).2.2.2.1) ((f_X4_bestPour th js ml mh mo mb ms).2.2.2.2))) := by
  refine z_of (cc := cX4_bestPour) (maxL := 1) (ret := (some .int)) (own := RX4) (by decide) rfl rfl (Nat.le_of_ble_eq_true rfl) ?_
  intro p e s m args below meth c A H locs ls F hr hlocks hname hK hA hP hD hS hl
  obtain ⟨hx, hb, hml, hown, hts⟩ := id F
  have hl : lv_has ls 1 [(0, .ref mh0)] := hl
  have hs : (s_X4_tellsMost js ml mh mo mb ms) := hs
  refine lv_aload_n hx hb dX4_bestPour_0 rfl (lv_at hl 0 rfl) ?_
  refine lv_aload_n hx hb dX4_bestPour_1 rfl (lv_at hl 0 rfl) ?_
  have h_1 := hs
  refine z_callV (As := []) (rest := [.ref mh0]) (wr := ([] : va_W)) (w1 := fun _ : Unit => (w_X4 G mh0 mvq maq mlq mhq mfq mrq moq mbq msq th js mv ma ac po si ta ml mh gu wr mf mr re ((f_X4_tellsMost js ml mh mo mb ms).2.1) ((f_X4_tellsMost js ml mh mo mb ms).2.2.1) ((f_X4_tellsMost js ml mh mo mb ms).2.2.2))) (wj := fun _ : Unit => (w_X4 G mh0 mvq maq mlq mhq mfq mrq moq mbq msq th js mv ma ac po si ta ml mh gu wr mf mr re (f_X4_tellsMost js ml mh mo mb ms).2.1 (f_X4_tellsMost js ml mh mo mb ms).2.2.1 (f_X4_tellsMost js ml mh mo mb ms).2.2.2)) (ci := 4) (q0 := 0) F (c_X4_tellsMost l G mh0 mvq maq mlq mhq mfq mrq moq mbq msq th js mv ma ac po si ta ml mh gu wr mf mr re mo mb ms h_1) gX4_bestPour_X4_tellsMost rfl rfl rfl zd_X4_tellsMost ⟨Nat.le_of_ble_eq_true rfl, Nat.le_of_ble_eq_true rfl⟩ rfl rfl (Nat.le_of_ble_eq_true rfl) dX4_bestPour_2 ⟨Nat.le_of_ble_eq_true rfl, Nat.le_of_ble_eq_true rfl⟩ hK hP hD hS hA hl.1 rfl rfl [0, 1, 2, 3, 4, 5, 6, 7, 8, 9] [] [0, 1, 2, 3, 4, 5, 6, 7, 8, 9] rfl rfl rfl rfl (by decide) rfl (fun _ => rfl) (fun _ H locs hP hD hS => ?_)
  have hP : va_P G.1 vwCl (w_X4 G mh0 mvq maq mlq mhq mfq mrq moq mbq msq th js mv ma ac po si ta ml mh gu wr mf mr re (f_X4_tellsMost js ml mh mo mb ms).2.1 (f_X4_tellsMost js ml mh mo mb ms).2.2.1 (f_X4_tellsMost js ml mh mo mb ms).2.2.2) H := hP
  have hD : va_D A (w_X4 G mh0 mvq maq mlq mhq mfq mrq moq mbq msq th js mv ma ac po si ta ml mh gu wr mf mr re (f_X4_tellsMost js ml mh mo mb ms).2.1 (f_X4_tellsMost js ml mh mo mb ms).2.2.1 (f_X4_tellsMost js ml mh mo mb ms).2.2.2) := hD
  refine z_callV (As := [.int (f_X4_tellsMost js ml mh mo mb ms).1]) (rest := []) (wr := ([] : va_W)) (w1 := fun _ : Unit => (w_X4 G mh0 mvq maq mlq mhq mfq mrq moq mbq msq ((f_X4_ok th ((f_X4_tellsMost js ml mh mo mb ms).1)).2) js mv ma ac po si ta ml mh gu wr mf mr re ((f_X4_tellsMost js ml mh mo mb ms).2.1) ((f_X4_tellsMost js ml mh mo mb ms).2.2.1) ((f_X4_tellsMost js ml mh mo mb ms).2.2.2))) (wj := fun _ : Unit => (w_X4 G mh0 mvq maq mlq mhq mfq mrq moq mbq msq (f_X4_ok th ((f_X4_tellsMost js ml mh mo mb ms).1)).2 js mv ma ac po si ta ml mh gu wr mf mr re (f_X4_tellsMost js ml mh mo mb ms).2.1 (f_X4_tellsMost js ml mh mo mb ms).2.2.1 (f_X4_tellsMost js ml mh mo mb ms).2.2.2)) (ci := 4) (q0 := 0) F (c_X4_ok l G mh0 mvq maq mlq mhq mfq mrq moq mbq msq th js mv ma ac po si ta ml mh gu wr mf mr re ((f_X4_tellsMost js ml mh mo mb ms).2.1) ((f_X4_tellsMost js ml mh mo mb ms).2.2.1) ((f_X4_tellsMost js ml mh mo mb ms).2.2.2) ((f_X4_tellsMost js ml mh mo mb ms).1)) gX4_bestPour_X4_ok rfl rfl rfl zd_X4_ok ⟨Nat.le_of_ble_eq_true rfl, Nat.le_of_ble_eq_true rfl⟩ rfl rfl (Nat.le_of_ble_eq_true rfl) dX4_bestPour_5 ⟨Nat.le_of_ble_eq_true rfl, Nat.le_of_ble_eq_true rfl⟩ hK hP hD hS hA hl.1 rfl rfl [0, 1, 2, 3, 4, 5, 6, 7, 8, 9] [] [0, 1, 2, 3, 4, 5, 6, 7, 8, 9] rfl rfl rfl rfl (by decide) rfl (fun _ => rfl) (fun _ H locs hP hD hS => ?_)
  have hP : va_P G.1 vwCl (w_X4 G mh0 mvq maq mlq mhq mfq mrq moq mbq msq (f_X4_ok th ((f_X4_tellsMost js ml mh mo mb ms).1)).2 js mv ma ac po si ta ml mh gu wr mf mr re (f_X4_tellsMost js ml mh mo mb ms).2.1 (f_X4_tellsMost js ml mh mo mb ms).2.2.1 (f_X4_tellsMost js ml mh mo mb ms).2.2.2) H := hP
  have hD : va_D A (w_X4 G mh0 mvq maq mlq mhq mfq mrq moq mbq msq (f_X4_ok th ((f_X4_tellsMost js ml mh mo mb ms).1)).2 js mv ma ac po si ta ml mh gu wr mf mr re (f_X4_tellsMost js ml mh mo mb ms).2.1 (f_X4_tellsMost js ml mh mo mb ms).2.2.1 (f_X4_tellsMost js ml mh mo mb ms).2.2.2) := hD
  have e9 : (f_X4_bestPour th js ml mh mo mb ms) = ((f_X4_ok th ((f_X4_tellsMost js ml mh mo mb ms).1)).1, (f_X4_ok th ((f_X4_tellsMost js ml mh mo mb ms).1)).2, (f_X4_tellsMost js ml mh mo mb ms).2.1, (f_X4_tellsMost js ml mh mo mb ms).2.2.1, (f_X4_tellsMost js ml mh mo mb ms).2.2.2) := (f_X4_bestPour_eq th js ml mh mo mb ms).trans (rfl)
  rw [e9]
  dsimp only
  exact z_iret F hr hlocks hP hD hS () [0, 1, 2, 3, 4, 5, 6, 7, 8, 9] rfl rfl rfl dX4_bestPour_8
def f_X4_meanAmount (th : Int32) (js : Int32) (ma : Nat → Int32) : UInt64 × Int32 := ((FP.ddiv (FP.i2d (f_X4_all ma)) (FP.i2d js)), (0 : Int32))
theorem f_X4_meanAmount_eq (th : Int32) (js : Int32) (ma : Nat → Int32) : f_X4_meanAmount th js ma = ((FP.ddiv (FP.i2d (f_X4_all ma)) (FP.i2d js)), (0 : Int32)) := rfl
def s_X4_meanAmount (js : Int32) (ma : Nat → Int32) : Prop := vf_n64 (FP.ddiv (FP.i2d (f_X4_all ma)) (FP.i2d js))
abbrev rm_X4_meanAmount : Room := { frames := 1, cells := 0, slots := 0, locals := 20 }
theorem zd_X4_meanAmount : yX4_meanAmount.cls = RX4 ∧ yX4_meanAmount.cls ≠ "java/lang/invoke/MethodHandle" ∧ yX4_meanAmount.cls ≠ "java/lang/invoke/VarHandle" ∧ (parseMethodDescriptor yX4_meanAmount.desc).map (fun d => d.parameters.length) = some 0 := by decide +kernel
theorem in_X4_meanAmount_X4 : ∀ w ∈ u_ws RX4 TX4 18, w ∈ wsX4_meanAmount := by decide +kernel
set_option maxHeartbeats 4000000 in
set_option maxRecDepth 100000 in
/-- JarRiddleModel.meanAmount()D -/
theorem c_X4_meanAmount (l : Launch) (G : zG) (mh0 mvq maq mlq mhq mfq mrq moq mbq msq : Nat) (th : Int32) (js : Int32) (mv : Nat → Int32) (ma : Nat → Int32) (ac : Int32) (po : Int32) (si : Int32) (ta : Int32) (ml : Nat → Int32) (mh : Nat → Int32) (gu : Int32) (wr : Int32) (mf : Nat → Int32) (mr : Nat → Int32) (re : Int32) (mo : Nat → Int32) (mb : Nat → Int32) (ms : Nat → Int32) (hs : s_X4_meanAmount js ma) : zC l G yX4_meanAmount wsX4_meanAmount rm_X4_meanAmount 0 0 [.ref mh0] (w_X4 G mh0 mvq maq mlq mhq mfq mrq moq mbq msq th js mv ma ac po si ta ml mh gu wr mf mr re mo mb ms) (some (.double (f_X4_meanAmount th js ma).1)) (fun _ : Unit => (w_X4 G mh0 mvq maq mlq mhq mfq mrq moq mbq msq ((f_X4_meanAmount th js ma).2) js mv ma ac po si ta ml mh gu wr mf mr re mo mb ms)) := by
  refine z_of (cc := cX4_meanAmount) (maxL := 1) (ret := (some .double)) (own := RX4) (by decide) rfl rfl (Nat.le_of_ble_eq_true rfl) ?_
  intro p e s m args below meth c A H locs ls F hr hlocks hname hK hA hP hD hS hl
  obtain ⟨hx, hb, hml, hown, hts⟩ := id F
  have hl : lv_has ls 1 [(0, .ref mh0)] := hl
  have hs : vf_n64 (FP.ddiv (FP.i2d (f_X4_all ma)) (FP.i2d js)) := hs
  refine lv_aload_n hx hb dX4_meanAmount_0 rfl (lv_at hl 0 rfl) ?_
  refine lv_iconst (v := (0 : Int32)) hx hb dX4_meanAmount_1 (by decide) ?_
  refine va_put (D := G.1) (ci := 4) (v := .int (0 : Int32)) (ty := .int) (C := RX4) (T := TX4) (N := 18) hx hb hts in_X4_meanAmount_X4 tyX4 tyX4_ok nmX4 hown hK.1 hP hD hS 0 rfl rfl 0 (by decide) (hts (.fieldLink RX4 42 "JarRiddleModel" "thrown" "I") (by decide +kernel)) (fun _ h9 => h9) rfl (by decide +kernel) rfl rfl (Nat.le_of_ble_eq_true rfl) dX4_meanAmount_2 (fun H locs hP hD hS => ?_)
  have hP : va_P G.1 vwCl (w_X4 G mh0 mvq maq mlq mhq mfq mrq moq mbq msq (0 : Int32) js mv ma ac po si ta ml mh gu wr mf mr re mo mb ms) H := hP
  have hD : va_D A (w_X4 G mh0 mvq maq mlq mhq mfq mrq moq mbq msq (0 : Int32) js mv ma ac po si ta ml mh gu wr mf mr re mo mb ms) := hD
  refine lv_aload_n hx hb dX4_meanAmount_5 rfl (lv_at hl 0 rfl) ?_
  refine z_callV (As := []) (rest := []) (wr := ([] : va_W)) (w1 := fun _ : Unit => (w_X4 G mh0 mvq maq mlq mhq mfq mrq moq mbq msq (0 : Int32) js mv ma ac po si ta ml mh gu wr mf mr re mo mb ms)) (wj := fun _ : Unit => (w_X4 G mh0 mvq maq mlq mhq mfq mrq moq mbq msq (0 : Int32) js mv ma ac po si ta ml mh gu wr mf mr re mo mb ms)) (ci := 4) (q0 := 0) F (c_X4_all l G mh0 mvq maq mlq mhq mfq mrq moq mbq msq (0 : Int32) js mv ma ac po si ta ml mh gu wr mf mr re mo mb ms) gX4_meanAmount_X4_all rfl rfl rfl zd_X4_all ⟨Nat.le_of_ble_eq_true rfl, Nat.le_of_ble_eq_true rfl⟩ rfl rfl (Nat.le_of_ble_eq_true rfl) dX4_meanAmount_6 ⟨Nat.le_of_ble_eq_true rfl, Nat.le_of_ble_eq_true rfl⟩ hK hP hD hS hA hl.1 rfl rfl [0, 1, 2, 3, 4, 5, 6, 7, 8, 9] [] [0, 1, 2, 3, 4, 5, 6, 7, 8, 9] rfl rfl rfl rfl (by decide) rfl (fun _ => rfl) (fun _ H locs hP hD hS => ?_)
  have hP : va_P G.1 vwCl (w_X4 G mh0 mvq maq mlq mhq mfq mrq moq mbq msq (0 : Int32) js mv ma ac po si ta ml mh gu wr mf mr re mo mb ms) H := hP
  have hD : va_D A (w_X4 G mh0 mvq maq mlq mhq mfq mrq moq mbq msq (0 : Int32) js mv ma ac po si ta ml mh gu wr mf mr re mo mb ms) := hD
  refine lv_i2d hx hb dX4_meanAmount_9 ?_
  refine lv_aload_n hx hb dX4_meanAmount_10 rfl (lv_at hl 0 rfl) ?_
  refine va_get (D := G.1) (ci := 4) (v := .int js) (C := RX4) (T := TX4) (N := 18) hx hb hts in_X4_meanAmount_X4 hown hK.1 hP 0 rfl rfl 1 (by decide) (hts (.fieldLink RX4 46 "JarRiddleModel" "jars" "I") (by decide +kernel)) (fun _ h9 => h9) rfl dX4_meanAmount_11 ?_
  refine lv_i2d hx hb dX4_meanAmount_14 ?_
  have h_1 := hs
  refine lv_ddiv hx hb dX4_meanAmount_15 h_1 ?_
  have e9 : (f_X4_meanAmount th js ma) = ((FP.ddiv (FP.i2d (f_X4_all ma)) (FP.i2d js)), (0 : Int32)) := (f_X4_meanAmount_eq th js ma).trans (rfl)
  rw [e9]
  dsimp only
  exact z_dret F hr hlocks hP hD hS () [0, 1, 2, 3, 4, 5, 6, 7, 8, 9] rfl rfl rfl dX4_meanAmount_16
def f_X4_bit (p0 : Int32) : Int32 := (if p0 = (0 : Int32) then (0 : Int32) else (1 : Int32))
theorem f_X4_bit_eq (p0 : Int32) : f_X4_bit p0 = (if p0 = (0 : Int32) then (0 : Int32) else (1 : Int32)) := rfl
abbrev rm_X4_bit : Room := { frames := 0, cells := 0, slots := 0, locals := 0 }
theorem zd_X4_bit : yX4_bit.cls ≠ "java/lang/invoke/MethodHandle" ∧ yX4_bit.cls ≠ "java/lang/invoke/VarHandle" ∧ (parseMethodDescriptor yX4_bit.desc).map (fun d => d.parameters.length) = some 1 := by decide +kernel
set_option maxHeartbeats 4000000 in
set_option maxRecDepth 100000 in
/-- JarRiddleModel.bit(Z)I -/
theorem c_X4_bit (l : Launch) (G : zG) (p0 : Int32) : zC l G yX4_bit wsX4_bit rm_X4_bit 0 0 [.int p0] ([] : va_W) (some (.int (f_X4_bit p0))) (fun _ : Unit => ([] : va_W)) := by
  refine z_of (cc := cX4_bit) (maxL := 1) (ret := (some .int)) (own := RX4) (by decide) rfl rfl (Nat.le_of_ble_eq_true rfl) ?_
  intro p e s m args below meth c A H locs ls F hr hlocks hname hK hA hP hD hS hl
  obtain ⟨hx, hb, hml, hown, hts⟩ := id F
  have hl : lv_has ls 1 [(0, .int p0)] := hl
  refine lv_iload_n hx hb dX4_bit_0 rfl (lv_at hl 0 rfl) ?_
  refine lv_if_eq (tgt := 8) hx hb dX4_bit_1 (by decide) (fun (c_1 : p0 = (0 : Int32)) => ?_) (fun (c_1 : ¬ p0 = (0 : Int32)) => ?_)
  · refine lv_iconst (v := (0 : Int32)) hx hb dX4_bit_8 (by decide) ?_
    have e9 : (f_X4_bit p0) = (0 : Int32) := (f_X4_bit_eq p0).trans ((if_pos c_1).trans (rfl))
    rw [e9]
    exact z_iret F hr hlocks hP hD hS () [] rfl rfl rfl dX4_bit_9
  · refine lv_iconst (v := (1 : Int32)) hx hb dX4_bit_4 (by decide) ?_
    refine lv_goto (tgt := 9) hx hb dX4_bit_5 (by decide) ?_
    have e9 : (f_X4_bit p0) = (1 : Int32) := (f_X4_bit_eq p0).trans ((if_neg c_1).trans (rfl))
    rw [e9]
    exact z_iret F hr hlocks hP hD hS () [] rfl rfl rfl dX4_bit_9
