abbrev w_X1 (G : zG) (rh rv ra : Nat) (vr : Nat → Int32) (ar : Nat → Int32) : va_W := [(rh, .inr (1, [.ref rv, .ref ra])), (rv, .inl (G.2.1, 3, .inl vr)), (ra, .inl (G.2.1, 3, .inl ar))]
abbrev w_J7 (G : zG) (N : Nat) (q : Nat) (f : Nat → Int32) : va_W := [(q, .inl (G.2.1, N, .inl f))]
def lf_J7_fill_53178_5 (N : Nat) : Nat → Nat → (Nat → Int32) → Int32 → (Nat → Int32)
  | 0, k, f, x1 => f
  | n + 1, k, f, x1 => (if (nI N) ≤ (nI k) then f else (lf_J7_fill_53178_5 N n (k + 1) (upd f (nI k).toNatClampNeg x1) x1))
theorem lf_J7_fill_53178_5_succ (N : Nat) (n k : Nat) (f : Nat → Int32) (x1 : Int32) : lf_J7_fill_53178_5 N (n + 1) k f x1 = (if (nI N) ≤ (nI k) then f else (lf_J7_fill_53178_5 N n (k + 1) (upd f (nI k).toNatClampNeg x1) x1)) := rfl
def f_J7_fill_53178 (N : Nat) (f : Nat → Int32) (p1 : Int32) : (Nat → Int32) := (lf_J7_fill_53178_5 N (N + 1) 0 f p1)
theorem f_J7_fill_53178_eq (N : Nat) (f : Nat → Int32) (p1 : Int32) : f_J7_fill_53178 N f p1 = (lf_J7_fill_53178_5 N (N + 1) 0 f p1) := rfl
abbrev rm_J7_fill_53178 : Room := { frames := 0, cells := 0, slots := 0, locals := 0 }
theorem zd_J7_fill_53178 : yJ7_fill_53178.cls ≠ "java/lang/invoke/MethodHandle" ∧ yJ7_fill_53178.cls ≠ "java/lang/invoke/VarHandle" ∧ (parseMethodDescriptor yJ7_fill_53178.desc).map (fun d => d.parameters.length) = some 2 := by decide +kernel
set_option maxHeartbeats 4000000 in
set_option maxRecDepth 100000 in
theorem l_J7_fill_53178_5 {p : Program} {l : Launch} {e : Env} {s : State} {m : MethodId} {args : Array Value} {below : List Frame} {meth : Method} {c : Code} {A : Nat → Prop} {Q : State → Prop} {G : zG} (F : CallFix p m c cJ7_fill_53178 4 s args wsJ7_fill_53178 RJ7) (hr : meth.sig.returnType = none) (hlocks : meth.locks = false) (hK : zK G s) (hA : ∀ q : Nat, s.heap.size ≤ q → A q) (N : Nat) (q : Nat) (hN : N < 2 ^ 31) :
    ∀ (n k : Nat) (f : Nat → Int32) (x1 : Int32), k + n = N + 1 → k ≤ N → ∀ (H : Heap) (locs : List Loc) (ls : Array Slot), va_P G.1 vwCl (w_J7 G N q f) H → va_D A (w_J7 G N q f) → va_S A s.heap H locs → lv_has ls 4 [(0, .ref q), (1, .int x1), (2, .int (nI k)), (3, .int (nI N))] → (∀ (H : Heap) (locs : List Loc) (ls : Array Slot), va_P G.1 vwCl (w_J7 G N q (lf_J7_fill_53178_5 N n k f x1)) H → va_D A (w_J7 G N q (lf_J7_fill_53178_5 N n k f x1)) → va_S A s.heap H locs → lv_has ls 4 [] → W p l e rm_J7_fill_53178 s m args below meth c H locs 0 0 Q (F0 m 20 ls [])) → W p l e rm_J7_fill_53178 s m args below meth c H locs 0 0 Q (F0 m 5 ls []) := by
  obtain ⟨hx, hb, hml, hown, hts⟩ := id F
  intro n
  induction n with
  | zero => intro k f x1 h1 h2; omega
  | succ n IH9 =>
    intro k f x1 hkn hkN H locs ls hP hD hS hl kk
    refine lv_iload_n hx hb dJ7_fill_53178_5 rfl (lv_at hl 2 rfl) ?_
    refine lv_iload_n hx hb dJ7_fill_53178_6 rfl (lv_at hl 3 rfl) ?_
    refine lv_icmp_ge (tgt := 20) hx hb dJ7_fill_53178_7 (by decide) (fun (c_1 : (nI N) ≤ (nI k)) => ?_) (fun (c_1 : ¬ (nI N) ≤ (nI k)) => ?_)
    · have e9 : (lf_J7_fill_53178_5 N (n + 1) k f x1) = f := (lf_J7_fill_53178_5_succ N n k f x1).trans ((if_pos c_1).trans (rfl))
      rw [e9] at kk
      exact kk H locs ls hP hD hS (lv_sub hl [] rfl)
    · refine lv_aload_n hx hb dJ7_fill_53178_10 rfl (lv_at hl 0 rfl) ?_
      refine lv_iload_n hx hb dJ7_fill_53178_11 rfl (lv_at hl 2 rfl) ?_
      refine lv_iload_n hx hb dJ7_fill_53178_12 rfl (lv_at hl 1 rfl) ?_
      refine va_iast hx hb hK.1 hP hD hS 0 0 rfl rfl (vp_in_nI (zk_lt (by omega) (nI_clamp hN) c_1) hN) dJ7_fill_53178_13 (fun H locs hP hD hS => ?_)
      have hP : va_P G.1 vwCl (w_J7 G N q (upd f (nI k).toNatClampNeg x1)) H := hP
      have hD : va_D A (w_J7 G N q (upd f (nI k).toNatClampNeg x1)) := hD
      refine lv_iinc (v := (nI (k + 1))) (lv' := [(2, .int (nI (k + 1))), (0, .ref q), (1, .int x1), (3, .int (nI N))]) hx hb dJ7_fill_53178_14 hl (k := 2) rfl (nI_1 k) (by decide) rfl (fun ls hl => ?_)
      refine lv_goto (tgt := 5) hx hb dJ7_fill_53178_17 (by decide) ?_
      have e9 : (lf_J7_fill_53178_5 N (n + 1) k f x1) = (lf_J7_fill_53178_5 N n (k + 1) (upd f (nI k).toNatClampNeg x1) x1) := (lf_J7_fill_53178_5_succ N n k f x1).trans ((if_neg c_1).trans (rfl))
      rw [e9] at kk
      have h9 := zk_lt (N := N) (by omega) (nI_clamp hN) c_1
      exact IH9 (k + 1) (upd f (nI k).toNatClampNeg x1) x1 (by omega) (by omega) H locs ls hP hD hS (lv_sub hl [1, 2, 0, 3] rfl) kk
set_option maxHeartbeats 4000000 in
set_option maxRecDepth 100000 in
/-- java/util/Arrays.fill([II)V -/
theorem c_J7_fill_53178 (l : Launch) (G : zG) (N : Nat) (q : Nat) (f : Nat → Int32) (p1 : Int32) (hN : N < 2 ^ 31) : zC l G yJ7_fill_53178 wsJ7_fill_53178 rm_J7_fill_53178 0 0 [.ref q, .int p1] (w_J7 G N q f) none (fun _ : Unit => (w_J7 G N q (f_J7_fill_53178 N f p1))) := by
  refine z_of (cc := cJ7_fill_53178) (maxL := 4) (ret := none) (own := RJ7) (by decide) rfl rfl (Nat.le_of_ble_eq_true rfl) ?_
  intro p e s m args below meth c A H locs ls F hr hlocks hname hK hA hP hD hS hl
  obtain ⟨hx, hb, hml, hown, hts⟩ := id F
  have hl : lv_has ls 4 [(0, .ref q), (1, .int p1)] := hl
  refine lv_iconst (v := (0 : Int32)) hx hb dJ7_fill_53178_0 (by decide) ?_
  refine lv_istore_n (lv' := [(2, .int (0 : Int32)), (0, .ref q), (1, .int p1)]) hx hb dJ7_fill_53178_1 rfl hl (by decide) rfl (fun ls hl => ?_)
  refine lv_aload_n hx hb dJ7_fill_53178_2 rfl (lv_at hl 1 rfl) ?_
  refine va_alen (v := (nI N)) hx hb hK.1 hP 0 0 rfl rfl rfl dJ7_fill_53178_3 ?_
  refine lv_istore_n (lv' := [(3, .int (nI N)), (2, .int (0 : Int32)), (0, .ref q), (1, .int p1)]) hx hb dJ7_fill_53178_4 rfl hl (by decide) rfl (fun ls hl => ?_)
  refine l_J7_fill_53178_5 F hr hlocks hK hA N q hN (N + 1) 0 f p1 (by omega) (by omega) H locs ls hP hD hS (lv_sub hl [2, 3, 1, 0] rfl) ?_
  intro H locs ls hP hD hS hl
  have hP : va_P G.1 vwCl (w_J7 G N q (lf_J7_fill_53178_5 N (N + 1) 0 f p1)) H := hP
  have hD : va_D A (w_J7 G N q (lf_J7_fill_53178_5 N (N + 1) 0 f p1)) := hD
  have hl : lv_has ls 4 [] := hl
  have e9 : (f_J7_fill_53178 N f p1) = (lf_J7_fill_53178_5 N (N + 1) 0 f p1) := (f_J7_fill_53178_eq N f p1).trans (rfl)
  rw [e9]
  exact z_vret F hr hlocks hP hD hS () [0] rfl rfl rfl dJ7_fill_53178_20
def f_X3_oneIf (p0 : Int32) : Int32 := (if p0 = (0 : Int32) then (0 : Int32) else (1 : Int32))
theorem f_X3_oneIf_eq (p0 : Int32) : f_X3_oneIf p0 = (if p0 = (0 : Int32) then (0 : Int32) else (1 : Int32)) := rfl
abbrev rm_X3_oneIf : Room := { frames := 0, cells := 0, slots := 0, locals := 0 }
theorem zd_X3_oneIf : yX3_oneIf.cls ≠ "java/lang/invoke/MethodHandle" ∧ yX3_oneIf.cls ≠ "java/lang/invoke/VarHandle" ∧ (parseMethodDescriptor yX3_oneIf.desc).map (fun d => d.parameters.length) = some 1 := by decide +kernel
set_option maxHeartbeats 4000000 in
set_option maxRecDepth 100000 in
/-- JarRiddle.oneIf(Z)I -/
theorem c_X3_oneIf (l : Launch) (G : zG) (p0 : Int32) : zC l G yX3_oneIf wsX3_oneIf rm_X3_oneIf 0 0 [.int p0] ([] : va_W) (some (.int (f_X3_oneIf p0))) (fun _ : Unit => ([] : va_W)) := by
  refine z_of (cc := cX3_oneIf) (maxL := 1) (ret := (some .int)) (own := RX3) (by decide) rfl rfl (Nat.le_of_ble_eq_true rfl) ?_
  intro p e s m args below meth c A H locs ls F hr hlocks hname hK hA hP hD hS hl
  obtain ⟨hx, hb, hml, hown, hts⟩ := id F
  have hl : lv_has ls 1 [(0, .int p0)] := hl
  refine lv_iload_n hx hb dX3_oneIf_0 rfl (lv_at hl 0 rfl) ?_
  refine lv_if_eq (tgt := 8) hx hb dX3_oneIf_1 (by decide) (fun (c_1 : p0 = (0 : Int32)) => ?_) (fun (c_1 : ¬ p0 = (0 : Int32)) => ?_)
  · refine lv_iconst (v := (0 : Int32)) hx hb dX3_oneIf_8 (by decide) ?_
    have e9 : (f_X3_oneIf p0) = (0 : Int32) := (f_X3_oneIf_eq p0).trans ((if_pos c_1).trans (rfl))
    rw [e9]
    exact z_iret F hr hlocks hP hD hS () [] rfl rfl rfl dX3_oneIf_9
  · refine lv_iconst (v := (1 : Int32)) hx hb dX3_oneIf_4 (by decide) ?_
    refine lv_goto (tgt := 9) hx hb dX3_oneIf_5 (by decide) ?_
    have e9 : (f_X3_oneIf p0) = (1 : Int32) := (f_X3_oneIf_eq p0).trans ((if_neg c_1).trans (rfl))
    rw [e9]
    exact z_iret F hr hlocks hP hD hS () [] rfl rfl rfl dX3_oneIf_9
def f_J6_bitCount_0f7a4_t1 (p0 : Int32) : Int32 := (((p0 - ((((p0).toUInt32 >>> (((1 : Int32)).toUInt32 &&& Int32.toUInt32 31)).toInt32) &&& (1431655765 : Int32))) &&& (858993459 : Int32)) + (((((p0 - ((((p0).toUInt32 >>> (((1 : Int32)).toUInt32 &&& Int32.toUInt32 31)).toInt32) &&& (1431655765 : Int32)))).toUInt32 >>> (((2 : Int32)).toUInt32 &&& Int32.toUInt32 31)).toInt32) &&& (858993459 : Int32)))
def f_J6_bitCount_0f7a4_t2 (p0 : Int32) : Int32 := ((((f_J6_bitCount_0f7a4_t1 p0) + ((((f_J6_bitCount_0f7a4_t1 p0)).toUInt32 >>> (((4 : Int32)).toUInt32 &&& Int32.toUInt32 31)).toInt32)) &&& (252645135 : Int32)) + ((((((f_J6_bitCount_0f7a4_t1 p0) + ((((f_J6_bitCount_0f7a4_t1 p0)).toUInt32 >>> (((4 : Int32)).toUInt32 &&& Int32.toUInt32 31)).toInt32)) &&& (252645135 : Int32))).toUInt32 >>> (((8 : Int32)).toUInt32 &&& Int32.toUInt32 31)).toInt32))
def f_J6_bitCount_0f7a4 (p0 : Int32) : Int32 := (((f_J6_bitCount_0f7a4_t2 p0) + ((((f_J6_bitCount_0f7a4_t2 p0)).toUInt32 >>> (((16 : Int32)).toUInt32 &&& Int32.toUInt32 31)).toInt32)) &&& (63 : Int32))
theorem f_J6_bitCount_0f7a4_eq (p0 : Int32) : f_J6_bitCount_0f7a4 p0 = (((f_J6_bitCount_0f7a4_t2 p0) + ((((f_J6_bitCount_0f7a4_t2 p0)).toUInt32 >>> (((16 : Int32)).toUInt32 &&& Int32.toUInt32 31)).toInt32)) &&& (63 : Int32)) := rfl
abbrev rm_J6_bitCount_0f7a4 : Room := { frames := 0, cells := 0, slots := 0, locals := 0 }
theorem zd_J6_bitCount_0f7a4 : yJ6_bitCount_0f7a4.cls ≠ "java/lang/invoke/MethodHandle" ∧ yJ6_bitCount_0f7a4.cls ≠ "java/lang/invoke/VarHandle" ∧ (parseMethodDescriptor yJ6_bitCount_0f7a4.desc).map (fun d => d.parameters.length) = some 1 := by decide +kernel
set_option maxHeartbeats 4000000 in
set_option maxRecDepth 100000 in
/-- java/lang/Integer.bitCount(I)I -/
theorem c_J6_bitCount_0f7a4 (l : Launch) (G : zG) (p0 : Int32) : zC l G yJ6_bitCount_0f7a4 wsJ6_bitCount_0f7a4 rm_J6_bitCount_0f7a4 0 0 [.int p0] ([] : va_W) (some (.int (f_J6_bitCount_0f7a4 p0))) (fun _ : Unit => ([] : va_W)) := by
  refine z_of (cc := cJ6_bitCount_0f7a4) (maxL := 1) (ret := (some .int)) (own := RJ6) (by decide) rfl rfl (Nat.le_of_ble_eq_true rfl) ?_
  intro p e s m args below meth c A H locs ls F hr hlocks hname hK hA hP hD hS hl
  obtain ⟨hx, hb, hml, hown, hts⟩ := id F
  have hl : lv_has ls 1 [(0, .int p0)] := hl
  refine lv_iload_n hx hb dJ6_bitCount_0f7a4_0 rfl (lv_at hl 0 rfl) ?_
  refine lv_iload_n hx hb dJ6_bitCount_0f7a4_1 rfl (lv_at hl 0 rfl) ?_
  refine lv_iconst (v := (1 : Int32)) hx hb dJ6_bitCount_0f7a4_2 (by decide) ?_
  refine lv_iushr (v := (((p0).toUInt32 >>> (((1 : Int32)).toUInt32 &&& Int32.toUInt32 31)).toInt32)) hx hb dJ6_bitCount_0f7a4_3 rfl ?_
  refine lv_ldcw (v := (1431655765 : Int32)) hx hb hown (hts (.constant RJ6 265 1431655765) (by decide +kernel)) dJ6_bitCount_0f7a4_4 ?_
  refine lv_iand hx hb dJ6_bitCount_0f7a4_7 ?_
  refine lv_isub hx hb dJ6_bitCount_0f7a4_8 ?_
  refine lv_istore_n (lv' := [(0, .int (p0 - ((((p0).toUInt32 >>> (((1 : Int32)).toUInt32 &&& Int32.toUInt32 31)).toInt32) &&& (1431655765 : Int32))))]) hx hb dJ6_bitCount_0f7a4_9 rfl hl (by decide) rfl (fun ls hl => ?_)
  refine lv_iload_n hx hb dJ6_bitCount_0f7a4_10 rfl (lv_at hl 0 rfl) ?_
  refine lv_ldcw (v := (858993459 : Int32)) hx hb hown (hts (.constant RJ6 266 858993459) (by decide +kernel)) dJ6_bitCount_0f7a4_11 ?_
  refine lv_iand hx hb dJ6_bitCount_0f7a4_14 ?_
  refine lv_iload_n hx hb dJ6_bitCount_0f7a4_15 rfl (lv_at hl 0 rfl) ?_
  refine lv_iconst (v := (2 : Int32)) hx hb dJ6_bitCount_0f7a4_16 (by decide) ?_
  refine lv_iushr (v := ((((p0 - ((((p0).toUInt32 >>> (((1 : Int32)).toUInt32 &&& Int32.toUInt32 31)).toInt32) &&& (1431655765 : Int32)))).toUInt32 >>> (((2 : Int32)).toUInt32 &&& Int32.toUInt32 31)).toInt32)) hx hb dJ6_bitCount_0f7a4_17 rfl ?_
  refine lv_ldcw (v := (858993459 : Int32)) hx hb hown (hts (.constant RJ6 266 858993459) (by decide +kernel)) dJ6_bitCount_0f7a4_18 ?_
  refine lv_iand hx hb dJ6_bitCount_0f7a4_21 ?_
  refine lv_iadd hx hb dJ6_bitCount_0f7a4_22 ?_
  refine lv_istore_n (lv' := [(0, .int (f_J6_bitCount_0f7a4_t1 p0))]) hx hb dJ6_bitCount_0f7a4_23 rfl hl (by decide) rfl (fun ls hl => ?_)
  refine lv_iload_n hx hb dJ6_bitCount_0f7a4_24 rfl (lv_at hl 0 rfl) ?_
  refine lv_iload_n hx hb dJ6_bitCount_0f7a4_25 rfl (lv_at hl 0 rfl) ?_
  refine lv_iconst (v := (4 : Int32)) hx hb dJ6_bitCount_0f7a4_26 (by decide) ?_
  refine lv_iushr (v := ((((f_J6_bitCount_0f7a4_t1 p0)).toUInt32 >>> (((4 : Int32)).toUInt32 &&& Int32.toUInt32 31)).toInt32)) hx hb dJ6_bitCount_0f7a4_27 rfl ?_
  refine lv_iadd hx hb dJ6_bitCount_0f7a4_28 ?_
  refine lv_ldcw (v := (252645135 : Int32)) hx hb hown (hts (.constant RJ6 267 252645135) (by decide +kernel)) dJ6_bitCount_0f7a4_29 ?_
  refine lv_iand hx hb dJ6_bitCount_0f7a4_32 ?_
  refine lv_istore_n (lv' := [(0, .int (((f_J6_bitCount_0f7a4_t1 p0) + ((((f_J6_bitCount_0f7a4_t1 p0)).toUInt32 >>> (((4 : Int32)).toUInt32 &&& Int32.toUInt32 31)).toInt32)) &&& (252645135 : Int32)))]) hx hb dJ6_bitCount_0f7a4_33 rfl hl (by decide) rfl (fun ls hl => ?_)
  refine lv_iload_n hx hb dJ6_bitCount_0f7a4_34 rfl (lv_at hl 0 rfl) ?_
  refine lv_iload_n hx hb dJ6_bitCount_0f7a4_35 rfl (lv_at hl 0 rfl) ?_
  refine lv_bipush (v := (8 : Int32)) hx hb dJ6_bitCount_0f7a4_36 (by decide) ?_
  refine lv_iushr (v := ((((((f_J6_bitCount_0f7a4_t1 p0) + ((((f_J6_bitCount_0f7a4_t1 p0)).toUInt32 >>> (((4 : Int32)).toUInt32 &&& Int32.toUInt32 31)).toInt32)) &&& (252645135 : Int32))).toUInt32 >>> (((8 : Int32)).toUInt32 &&& Int32.toUInt32 31)).toInt32)) hx hb dJ6_bitCount_0f7a4_38 rfl ?_
  refine lv_iadd hx hb dJ6_bitCount_0f7a4_39 ?_
  refine lv_istore_n (lv' := [(0, .int (f_J6_bitCount_0f7a4_t2 p0))]) hx hb dJ6_bitCount_0f7a4_40 rfl hl (by decide) rfl (fun ls hl => ?_)
  refine lv_iload_n hx hb dJ6_bitCount_0f7a4_41 rfl (lv_at hl 0 rfl) ?_
  refine lv_iload_n hx hb dJ6_bitCount_0f7a4_42 rfl (lv_at hl 0 rfl) ?_
  refine lv_bipush (v := (16 : Int32)) hx hb dJ6_bitCount_0f7a4_43 (by decide) ?_
  refine lv_iushr (v := ((((f_J6_bitCount_0f7a4_t2 p0)).toUInt32 >>> (((16 : Int32)).toUInt32 &&& Int32.toUInt32 31)).toInt32)) hx hb dJ6_bitCount_0f7a4_45 rfl ?_
  refine lv_iadd hx hb dJ6_bitCount_0f7a4_46 ?_
  refine lv_istore_n (lv' := [(0, .int ((f_J6_bitCount_0f7a4_t2 p0) + ((((f_J6_bitCount_0f7a4_t2 p0)).toUInt32 >>> (((16 : Int32)).toUInt32 &&& Int32.toUInt32 31)).toInt32)))]) hx hb dJ6_bitCount_0f7a4_47 rfl hl (by decide) rfl (fun ls hl => ?_)
  refine lv_iload_n hx hb dJ6_bitCount_0f7a4_48 rfl (lv_at hl 0 rfl) ?_
  refine lv_bipush (v := (63 : Int32)) hx hb dJ6_bitCount_0f7a4_49 (by decide) ?_
  refine lv_iand hx hb dJ6_bitCount_0f7a4_51 ?_
  have e9 : (f_J6_bitCount_0f7a4 p0) = (((f_J6_bitCount_0f7a4_t2 p0) + ((((f_J6_bitCount_0f7a4_t2 p0)).toUInt32 >>> (((16 : Int32)).toUInt32 &&& Int32.toUInt32 31)).toInt32)) &&& (63 : Int32)) := (f_J6_bitCount_0f7a4_eq p0).trans (rfl)
  rw [e9]
  exact z_iret F hr hlocks hP hD hS () [] rfl rfl rfl dJ6_bitCount_0f7a4_52
def f_X1_layEmpty (vr : Nat → Int32) (ar : Nat → Int32) (p1 : Int32) (p2 : Int32) (p3 : Int32) : (Nat → Int32) × (Nat → Int32) := ((upd (upd (upd vr (0 : Int32).toNatClampNeg p1) (1 : Int32).toNatClampNeg p2) (2 : Int32).toNatClampNeg p3), (f_J7_fill_53178 3 ar (0 : Int32)))
theorem f_X1_layEmpty_eq (vr : Nat → Int32) (ar : Nat → Int32) (p1 : Int32) (p2 : Int32) (p3 : Int32) : f_X1_layEmpty vr ar p1 p2 p3 = ((upd (upd (upd vr (0 : Int32).toNatClampNeg p1) (1 : Int32).toNatClampNeg p2) (2 : Int32).toNatClampNeg p3), (f_J7_fill_53178 3 ar (0 : Int32))) := rfl
abbrev rm_X1_layEmpty : Room := { frames := 1, cells := 0, slots := 0, locals := 23 }
theorem zd_X1_layEmpty : yX1_layEmpty.cls = RX1 ∧ yX1_layEmpty.cls ≠ "java/lang/invoke/MethodHandle" ∧ yX1_layEmpty.cls ≠ "java/lang/invoke/VarHandle" ∧ (parseMethodDescriptor yX1_layEmpty.desc).map (fun d => d.parameters.length) = some 3 := by decide +kernel
theorem in_X1_layEmpty_X1 : ∀ w ∈ u_ws RX1 TX1 2, w ∈ wsX1_layEmpty := by decide +kernel
set_option maxHeartbeats 4000000 in
set_option maxRecDepth 100000 in
/-- JarRiddle$Row.layEmpty(III)V -/
theorem c_X1_layEmpty (l : Launch) (G : zG) (rh rv ra : Nat) (vr : Nat → Int32) (ar : Nat → Int32) (p1 : Int32) (p2 : Int32) (p3 : Int32) : zC l G yX1_layEmpty wsX1_layEmpty rm_X1_layEmpty 0 0 [.ref rh, .int p1, .int p2, .int p3] (w_X1 G rh rv ra vr ar) none (fun _ : Unit => (w_X1 G rh rv ra ((f_X1_layEmpty vr ar p1 p2 p3).1) ((f_X1_layEmpty vr ar p1 p2 p3).2))) := by
  refine z_of (cc := cX1_layEmpty) (maxL := 4) (ret := none) (own := RX1) (by decide) rfl rfl (Nat.le_of_ble_eq_true rfl) ?_
  intro p e s m args below meth c A H locs ls F hr hlocks hname hK hA hP hD hS hl
  obtain ⟨hx, hb, hml, hown, hts⟩ := id F
  have hl : lv_has ls 4 [(0, .ref rh), (1, .int p1), (2, .int p2), (3, .int p3)] := hl
  refine lv_aload_n hx hb dX1_layEmpty_0 rfl (lv_at hl 0 rfl) ?_
  refine va_get (D := G.1) (ci := 1) (v := .ref rv) (C := RX1) (T := TX1) (N := 2) hx hb hts in_X1_layEmpty_X1 hown hK.1 hP 0 rfl rfl 0 (by decide) (hts (.fieldLink RX1 9 "JarRiddle$Row" "volume" "[I") (by decide +kernel)) (fun _ h9 => h9) rfl dX1_layEmpty_1 ?_
  refine lv_iconst (v := (0 : Int32)) hx hb dX1_layEmpty_4 (by decide) ?_
  refine lv_iload_n hx hb dX1_layEmpty_5 rfl (lv_at hl 1 rfl) ?_
  refine va_iast hx hb hK.1 hP hD hS 1 0 rfl rfl (vp_in_nI (n := 0) (N := 3) (by decide) (by decide)) dX1_layEmpty_6 (fun H locs hP hD hS => ?_)
  have hP : va_P G.1 vwCl (w_X1 G rh rv ra (upd vr (0 : Int32).toNatClampNeg p1) ar) H := hP
  have hD : va_D A (w_X1 G rh rv ra (upd vr (0 : Int32).toNatClampNeg p1) ar) := hD
  refine lv_aload_n hx hb dX1_layEmpty_7 rfl (lv_at hl 0 rfl) ?_
  refine va_get (D := G.1) (ci := 1) (v := .ref rv) (C := RX1) (T := TX1) (N := 2) hx hb hts in_X1_layEmpty_X1 hown hK.1 hP 0 rfl rfl 0 (by decide) (hts (.fieldLink RX1 9 "JarRiddle$Row" "volume" "[I") (by decide +kernel)) (fun _ h9 => h9) rfl dX1_layEmpty_8 ?_
  refine lv_iconst (v := (1 : Int32)) hx hb dX1_layEmpty_11 (by decide) ?_
  refine lv_iload_n hx hb dX1_layEmpty_12 rfl (lv_at hl 2 rfl) ?_
  refine va_iast hx hb hK.1 hP hD hS 1 0 rfl rfl (vp_in_nI (n := 1) (N := 3) (by decide) (by decide)) dX1_layEmpty_13 (fun H locs hP hD hS => ?_)
  have hP : va_P G.1 vwCl (w_X1 G rh rv ra (upd (upd vr (0 : Int32).toNatClampNeg p1) (1 : Int32).toNatClampNeg p2) ar) H := hP
  have hD : va_D A (w_X1 G rh rv ra (upd (upd vr (0 : Int32).toNatClampNeg p1) (1 : Int32).toNatClampNeg p2) ar) := hD
  refine lv_aload_n hx hb dX1_layEmpty_14 rfl (lv_at hl 0 rfl) ?_
  refine va_get (D := G.1) (ci := 1) (v := .ref rv) (C := RX1) (T := TX1) (N := 2) hx hb hts in_X1_layEmpty_X1 hown hK.1 hP 0 rfl rfl 0 (by decide) (hts (.fieldLink RX1 9 "JarRiddle$Row" "volume" "[I") (by decide +kernel)) (fun _ h9 => h9) rfl dX1_layEmpty_15 ?_
  refine lv_iconst (v := (2 : Int32)) hx hb dX1_layEmpty_18 (by decide) ?_
  refine lv_iload_n hx hb dX1_layEmpty_19 rfl (lv_at hl 3 rfl) ?_
  refine va_iast hx hb hK.1 hP hD hS 1 0 rfl rfl (vp_in_nI (n := 2) (N := 3) (by decide) (by decide)) dX1_layEmpty_20 (fun H locs hP hD hS => ?_)
  have hP : va_P G.1 vwCl (w_X1 G rh rv ra (upd (upd (upd vr (0 : Int32).toNatClampNeg p1) (1 : Int32).toNatClampNeg p2) (2 : Int32).toNatClampNeg p3) ar) H := hP
  have hD : va_D A (w_X1 G rh rv ra (upd (upd (upd vr (0 : Int32).toNatClampNeg p1) (1 : Int32).toNatClampNeg p2) (2 : Int32).toNatClampNeg p3) ar) := hD
  refine lv_aload_n hx hb dX1_layEmpty_21 rfl (lv_at hl 0 rfl) ?_
  refine va_get (D := G.1) (ci := 1) (v := .ref ra) (C := RX1) (T := TX1) (N := 2) hx hb hts in_X1_layEmpty_X1 hown hK.1 hP 0 rfl rfl 1 (by decide) (hts (.fieldLink RX1 15 "JarRiddle$Row" "amount" "[I") (by decide +kernel)) (fun _ h9 => h9) rfl dX1_layEmpty_22 ?_
  refine lv_iconst (v := (0 : Int32)) hx hb dX1_layEmpty_25 (by decide) ?_
  refine z_callSX (As := [.ref ra, .int (0 : Int32)]) (rest := []) (wr := ([(rh, .inr (1, [.ref rv, .ref ra])), (rv, .inl (G.2.1, 3, .inl (upd (upd (upd vr (0 : Int32).toNatClampNeg p1) (1 : Int32).toNatClampNeg p2) (2 : Int32).toNatClampNeg p3)))] : va_W)) (w1 := fun _ : Unit => (w_J7 G 3 ra (f_J7_fill_53178 3 ar (0 : Int32)))) (wj := fun _ : Unit => (w_X1 G rh rv ra (upd (upd (upd vr (0 : Int32).toNatClampNeg p1) (1 : Int32).toNatClampNeg p2) (2 : Int32).toNatClampNeg p3) (f_J7_fill_53178 3 ar (0 : Int32)))) F (c_J7_fill_53178 l G 3 ra ar (0 : Int32) (by decide)) gX1_layEmpty_J7_fill_53178 rfl rfl rfl zd_J7_fill_53178 ⟨Nat.le_of_ble_eq_true rfl, Nat.le_of_ble_eq_true rfl⟩ rfl rfl (Nat.le_of_ble_eq_true rfl) dX1_layEmpty_26 ⟨Nat.le_of_ble_eq_true rfl, Nat.le_of_ble_eq_true rfl⟩ hK hP hD hS hA hl.1 [2] [0, 1] [0, 1, 2] rfl rfl rfl rfl (by decide) rfl (fun _ => rfl) (fun _ H locs hP hD hS => ?_)
  have hP : va_P G.1 vwCl (w_X1 G rh rv ra (upd (upd (upd vr (0 : Int32).toNatClampNeg p1) (1 : Int32).toNatClampNeg p2) (2 : Int32).toNatClampNeg p3) (f_J7_fill_53178 3 ar (0 : Int32))) H := hP
  have hD : va_D A (w_X1 G rh rv ra (upd (upd (upd vr (0 : Int32).toNatClampNeg p1) (1 : Int32).toNatClampNeg p2) (2 : Int32).toNatClampNeg p3) (f_J7_fill_53178 3 ar (0 : Int32))) := hD
  have e9 : (f_X1_layEmpty vr ar p1 p2 p3) = ((upd (upd (upd vr (0 : Int32).toNatClampNeg p1) (1 : Int32).toNatClampNeg p2) (2 : Int32).toNatClampNeg p3), (f_J7_fill_53178 3 ar (0 : Int32))) := (f_X1_layEmpty_eq vr ar p1 p2 p3).trans (rfl)
  rw [e9]
  dsimp only
  exact z_vret F hr hlocks hP hD hS () [0, 1, 2] rfl rfl rfl dX1_layEmpty_29
def f_X1_count (vr : Nat → Int32) : Int32 := (if (vr (2 : Int32).toNatClampNeg) = (0 : Int32) then (2 : Int32) else (3 : Int32))
theorem f_X1_count_eq (vr : Nat → Int32) : f_X1_count vr = (if (vr (2 : Int32).toNatClampNeg) = (0 : Int32) then (2 : Int32) else (3 : Int32)) := rfl
abbrev rm_X1_count : Room := { frames := 0, cells := 0, slots := 0, locals := 0 }
theorem zd_X1_count : yX1_count.cls = RX1 ∧ yX1_count.cls ≠ "java/lang/invoke/MethodHandle" ∧ yX1_count.cls ≠ "java/lang/invoke/VarHandle" ∧ (parseMethodDescriptor yX1_count.desc).map (fun d => d.parameters.length) = some 0 := by decide +kernel
theorem in_X1_count_X1 : ∀ w ∈ u_ws RX1 TX1 2, w ∈ wsX1_count := by decide +kernel
set_option maxHeartbeats 4000000 in
set_option maxRecDepth 100000 in
/-- JarRiddle$Row.count()I -/
theorem c_X1_count (l : Launch) (G : zG) (rh rv ra : Nat) (vr : Nat → Int32) (ar : Nat → Int32) : zC l G yX1_count wsX1_count rm_X1_count 0 0 [.ref rh] (w_X1 G rh rv ra vr ar) (some (.int (f_X1_count vr))) (fun _ : Unit => (w_X1 G rh rv ra vr ar)) := by
  refine z_of (cc := cX1_count) (maxL := 1) (ret := (some .int)) (own := RX1) (by decide) rfl rfl (Nat.le_of_ble_eq_true rfl) ?_
  intro p e s m args below meth c A H locs ls F hr hlocks hname hK hA hP hD hS hl
  obtain ⟨hx, hb, hml, hown, hts⟩ := id F
  have hl : lv_has ls 1 [(0, .ref rh)] := hl
  refine lv_aload_n hx hb dX1_count_0 rfl (lv_at hl 0 rfl) ?_
  refine va_get (D := G.1) (ci := 1) (v := .ref rv) (C := RX1) (T := TX1) (N := 2) hx hb hts in_X1_count_X1 hown hK.1 hP 0 rfl rfl 0 (by decide) (hts (.fieldLink RX1 9 "JarRiddle$Row" "volume" "[I") (by decide +kernel)) (fun _ h9 => h9) rfl dX1_count_1 ?_
  refine lv_iconst (v := (2 : Int32)) hx hb dX1_count_4 (by decide) ?_
  refine va_iald hx hb hK.1 hP 1 0 rfl rfl (vp_in_nI (n := 2) (N := 3) (by decide) (by decide)) dX1_count_5 ?_
  refine lv_if_ne (tgt := 13) hx hb dX1_count_6 (by decide) (fun (c_1 : ¬ (vr (2 : Int32).toNatClampNeg) = (0 : Int32)) => ?_) (fun (c_1 : (vr (2 : Int32).toNatClampNeg) = (0 : Int32)) => ?_)
  · refine lv_iconst (v := (3 : Int32)) hx hb dX1_count_13 (by decide) ?_
    have e9 : (f_X1_count vr) = (3 : Int32) := (f_X1_count_eq vr).trans ((if_neg c_1).trans (rfl))
    rw [e9]
    exact z_iret F hr hlocks hP hD hS () [0, 1, 2] rfl rfl rfl dX1_count_14
  · refine lv_iconst (v := (2 : Int32)) hx hb dX1_count_9 (by decide) ?_
    refine lv_goto (tgt := 14) hx hb dX1_count_10 (by decide) ?_
    have e9 : (f_X1_count vr) = (2 : Int32) := (f_X1_count_eq vr).trans ((if_pos c_1).trans (rfl))
    rw [e9]
    exact z_iret F hr hlocks hP hD hS () [0, 1, 2] rfl rfl rfl dX1_count_14
def f_X1_has (vr : Nat → Int32) (p1 : Int32) : Int32 := (if p1 < (0 : Int32) then (0 : Int32) else (if (3 : Int32) ≤ p1 then (0 : Int32) else (if (vr p1.toNatClampNeg) ≤ (0 : Int32) then (0 : Int32) else (1 : Int32))))
theorem f_X1_has_eq (vr : Nat → Int32) (p1 : Int32) : f_X1_has vr p1 = (if p1 < (0 : Int32) then (0 : Int32) else (if (3 : Int32) ≤ p1 then (0 : Int32) else (if (vr p1.toNatClampNeg) ≤ (0 : Int32) then (0 : Int32) else (1 : Int32)))) := rfl
theorem b_X1_has (vr : Nat → Int32) (p1 : Int32) : zb (f_X1_has vr p1) := by
  unfold f_X1_has
  repeat' split
  all_goals first | exact Or.inl rfl | exact Or.inr rfl
abbrev rm_X1_has : Room := { frames := 0, cells := 0, slots := 0, locals := 0 }
theorem zd_X1_has : yX1_has.cls = RX1 ∧ yX1_has.cls ≠ "java/lang/invoke/MethodHandle" ∧ yX1_has.cls ≠ "java/lang/invoke/VarHandle" ∧ (parseMethodDescriptor yX1_has.desc).map (fun d => d.parameters.length) = some 1 := by decide +kernel
theorem in_X1_has_X1 : ∀ w ∈ u_ws RX1 TX1 2, w ∈ wsX1_has := by decide +kernel
set_option maxHeartbeats 4000000 in
set_option maxRecDepth 100000 in
/-- JarRiddle$Row.has(I)Z -/
theorem c_X1_has (l : Launch) (G : zG) (rh rv ra : Nat) (vr : Nat → Int32) (ar : Nat → Int32) (p1 : Int32) : zC l G yX1_has wsX1_has rm_X1_has 0 0 [.ref rh, .int p1] (w_X1 G rh rv ra vr ar) (some (.int (f_X1_has vr p1))) (fun _ : Unit => (w_X1 G rh rv ra vr ar)) := by
  refine z_of (cc := cX1_has) (maxL := 2) (ret := (some .boolean)) (own := RX1) (by decide) rfl rfl (Nat.le_of_ble_eq_true rfl) ?_
  intro p e s m args below meth c A H locs ls F hr hlocks hname hK hA hP hD hS hl
  obtain ⟨hx, hb, hml, hown, hts⟩ := id F
  have hl : lv_has ls 2 [(0, .ref rh), (1, .int p1)] := hl
  refine lv_iload_n hx hb dX1_has_0 rfl (lv_at hl 1 rfl) ?_
  refine lv_if_lt (tgt := 26) hx hb dX1_has_1 (by decide) (fun (c_1 : p1 < (0 : Int32)) => ?_) (fun (c_1 : ¬ p1 < (0 : Int32)) => ?_)
  · refine lv_iconst (v := (0 : Int32)) hx hb dX1_has_26 (by decide) ?_
    have e9 : (f_X1_has vr p1) = (0 : Int32) := (f_X1_has_eq vr p1).trans ((if_pos c_1).trans (rfl))
    rw [e9]
    exact z_zret F hr hlocks hP hD hS () [0, 1, 2] rfl rfl rfl rfl dX1_has_27
  · refine lv_iload_n hx hb dX1_has_4 rfl (lv_at hl 1 rfl) ?_
    refine lv_aload_n hx hb dX1_has_5 rfl (lv_at hl 0 rfl) ?_
    refine va_get (D := G.1) (ci := 1) (v := .ref rv) (C := RX1) (T := TX1) (N := 2) hx hb hts in_X1_has_X1 hown hK.1 hP 0 rfl rfl 0 (by decide) (hts (.fieldLink RX1 9 "JarRiddle$Row" "volume" "[I") (by decide +kernel)) (fun _ h9 => h9) rfl dX1_has_6 ?_
    refine va_alen (v := (3 : Int32)) hx hb hK.1 hP 1 0 rfl rfl rfl dX1_has_9 ?_
    refine lv_icmp_ge (tgt := 26) hx hb dX1_has_10 (by decide) (fun (c_2 : (3 : Int32) ≤ p1) => ?_) (fun (c_2 : ¬ (3 : Int32) ≤ p1) => ?_)
    · refine lv_iconst (v := (0 : Int32)) hx hb dX1_has_26 (by decide) ?_
      have e9 : (f_X1_has vr p1) = (0 : Int32) := (f_X1_has_eq vr p1).trans ((if_neg c_1).trans ((if_pos c_2).trans (rfl)))
      rw [e9]
      exact z_zret F hr hlocks hP hD hS () [0, 1, 2] rfl rfl rfl rfl dX1_has_27
    · refine lv_aload_n hx hb dX1_has_13 rfl (lv_at hl 0 rfl) ?_
      refine va_get (D := G.1) (ci := 1) (v := .ref rv) (C := RX1) (T := TX1) (N := 2) hx hb hts in_X1_has_X1 hown hK.1 hP 0 rfl rfl 0 (by decide) (hts (.fieldLink RX1 9 "JarRiddle$Row" "volume" "[I") (by decide +kernel)) (fun _ h9 => h9) rfl dX1_has_14 ?_
      refine lv_iload_n hx hb dX1_has_17 rfl (lv_at hl 1 rfl) ?_
      refine va_iald hx hb hK.1 hP 1 0 rfl rfl (zk_in (N := 3) rfl c_1 c_2) dX1_has_18 ?_
      refine lv_if_le (tgt := 26) hx hb dX1_has_19 (by decide) (fun (c_3 : (vr p1.toNatClampNeg) ≤ (0 : Int32)) => ?_) (fun (c_3 : ¬ (vr p1.toNatClampNeg) ≤ (0 : Int32)) => ?_)
      · refine lv_iconst (v := (0 : Int32)) hx hb dX1_has_26 (by decide) ?_
        have e9 : (f_X1_has vr p1) = (0 : Int32) := (f_X1_has_eq vr p1).trans ((if_neg c_1).trans ((if_neg c_2).trans ((if_pos c_3).trans (rfl))))
        rw [e9]
        exact z_zret F hr hlocks hP hD hS () [0, 1, 2] rfl rfl rfl rfl dX1_has_27
      · refine lv_iconst (v := (1 : Int32)) hx hb dX1_has_22 (by decide) ?_
        refine lv_goto (tgt := 27) hx hb dX1_has_23 (by decide) ?_
        have e9 : (f_X1_has vr p1) = (1 : Int32) := (f_X1_has_eq vr p1).trans ((if_neg c_1).trans ((if_neg c_2).trans ((if_neg c_3).trans (rfl))))
        rw [e9]
        exact z_zret F hr hlocks hP hD hS () [0, 1, 2] rfl rfl rfl rfl dX1_has_27
def f_X1_volumeAt (vr : Nat → Int32) (p1 : Int32) : Int32 := (if p1 < (0 : Int32) then (0 : Int32) else (if (3 : Int32) ≤ p1 then (0 : Int32) else (vr p1.toNatClampNeg)))
theorem f_X1_volumeAt_eq (vr : Nat → Int32) (p1 : Int32) : f_X1_volumeAt vr p1 = (if p1 < (0 : Int32) then (0 : Int32) else (if (3 : Int32) ≤ p1 then (0 : Int32) else (vr p1.toNatClampNeg))) := rfl
abbrev rm_X1_volumeAt : Room := { frames := 0, cells := 0, slots := 0, locals := 0 }
theorem zd_X1_volumeAt : yX1_volumeAt.cls = RX1 ∧ yX1_volumeAt.cls ≠ "java/lang/invoke/MethodHandle" ∧ yX1_volumeAt.cls ≠ "java/lang/invoke/VarHandle" ∧ (parseMethodDescriptor yX1_volumeAt.desc).map (fun d => d.parameters.length) = some 1 := by decide +kernel
theorem in_X1_volumeAt_X1 : ∀ w ∈ u_ws RX1 TX1 2, w ∈ wsX1_volumeAt := by decide +kernel
set_option maxHeartbeats 4000000 in
set_option maxRecDepth 100000 in
/-- JarRiddle$Row.volumeAt(I)I -/
theorem c_X1_volumeAt (l : Launch) (G : zG) (rh rv ra : Nat) (vr : Nat → Int32) (ar : Nat → Int32) (p1 : Int32) : zC l G yX1_volumeAt wsX1_volumeAt rm_X1_volumeAt 0 0 [.ref rh, .int p1] (w_X1 G rh rv ra vr ar) (some (.int (f_X1_volumeAt vr p1))) (fun _ : Unit => (w_X1 G rh rv ra vr ar)) := by
  refine z_of (cc := cX1_volumeAt) (maxL := 2) (ret := (some .int)) (own := RX1) (by decide) rfl rfl (Nat.le_of_ble_eq_true rfl) ?_
  intro p e s m args below meth c A H locs ls F hr hlocks hname hK hA hP hD hS hl
  obtain ⟨hx, hb, hml, hown, hts⟩ := id F
  have hl : lv_has ls 2 [(0, .ref rh), (1, .int p1)] := hl
  refine lv_iload_n hx hb dX1_volumeAt_0 rfl (lv_at hl 1 rfl) ?_
  refine lv_if_lt (tgt := 22) hx hb dX1_volumeAt_1 (by decide) (fun (c_1 : p1 < (0 : Int32)) => ?_) (fun (c_1 : ¬ p1 < (0 : Int32)) => ?_)
  · refine lv_iconst (v := (0 : Int32)) hx hb dX1_volumeAt_22 (by decide) ?_
    have e9 : (f_X1_volumeAt vr p1) = (0 : Int32) := (f_X1_volumeAt_eq vr p1).trans ((if_pos c_1).trans (rfl))
    rw [e9]
    exact z_iret F hr hlocks hP hD hS () [0, 1, 2] rfl rfl rfl dX1_volumeAt_23
  · refine lv_iload_n hx hb dX1_volumeAt_4 rfl (lv_at hl 1 rfl) ?_
    refine lv_aload_n hx hb dX1_volumeAt_5 rfl (lv_at hl 0 rfl) ?_
    refine va_get (D := G.1) (ci := 1) (v := .ref rv) (C := RX1) (T := TX1) (N := 2) hx hb hts in_X1_volumeAt_X1 hown hK.1 hP 0 rfl rfl 0 (by decide) (hts (.fieldLink RX1 9 "JarRiddle$Row" "volume" "[I") (by decide +kernel)) (fun _ h9 => h9) rfl dX1_volumeAt_6 ?_
    refine va_alen (v := (3 : Int32)) hx hb hK.1 hP 1 0 rfl rfl rfl dX1_volumeAt_9 ?_
    refine lv_icmp_ge (tgt := 22) hx hb dX1_volumeAt_10 (by decide) (fun (c_2 : (3 : Int32) ≤ p1) => ?_) (fun (c_2 : ¬ (3 : Int32) ≤ p1) => ?_)
    · refine lv_iconst (v := (0 : Int32)) hx hb dX1_volumeAt_22 (by decide) ?_
      have e9 : (f_X1_volumeAt vr p1) = (0 : Int32) := (f_X1_volumeAt_eq vr p1).trans ((if_neg c_1).trans ((if_pos c_2).trans (rfl)))
      rw [e9]
      exact z_iret F hr hlocks hP hD hS () [0, 1, 2] rfl rfl rfl dX1_volumeAt_23
    · refine lv_aload_n hx hb dX1_volumeAt_13 rfl (lv_at hl 0 rfl) ?_
      refine va_get (D := G.1) (ci := 1) (v := .ref rv) (C := RX1) (T := TX1) (N := 2) hx hb hts in_X1_volumeAt_X1 hown hK.1 hP 0 rfl rfl 0 (by decide) (hts (.fieldLink RX1 9 "JarRiddle$Row" "volume" "[I") (by decide +kernel)) (fun _ h9 => h9) rfl dX1_volumeAt_14 ?_
      refine lv_iload_n hx hb dX1_volumeAt_17 rfl (lv_at hl 1 rfl) ?_
      refine va_iald hx hb hK.1 hP 1 0 rfl rfl (zk_in (N := 3) rfl c_1 c_2) dX1_volumeAt_18 ?_
      refine lv_goto (tgt := 23) hx hb dX1_volumeAt_19 (by decide) ?_
      have e9 : (f_X1_volumeAt vr p1) = (vr p1.toNatClampNeg) := (f_X1_volumeAt_eq vr p1).trans ((if_neg c_1).trans ((if_neg c_2).trans (rfl)))
      rw [e9]
      exact z_iret F hr hlocks hP hD hS () [0, 1, 2] rfl rfl rfl dX1_volumeAt_23
def f_X1_amountAt (ar : Nat → Int32) (p1 : Int32) : Int32 := (if p1 < (0 : Int32) then (0 : Int32) else (if (3 : Int32) ≤ p1 then (0 : Int32) else (ar p1.toNatClampNeg)))
theorem f_X1_amountAt_eq (ar : Nat → Int32) (p1 : Int32) : f_X1_amountAt ar p1 = (if p1 < (0 : Int32) then (0 : Int32) else (if (3 : Int32) ≤ p1 then (0 : Int32) else (ar p1.toNatClampNeg))) := rfl
abbrev rm_X1_amountAt : Room := { frames := 0, cells := 0, slots := 0, locals := 0 }
theorem zd_X1_amountAt : yX1_amountAt.cls = RX1 ∧ yX1_amountAt.cls ≠ "java/lang/invoke/MethodHandle" ∧ yX1_amountAt.cls ≠ "java/lang/invoke/VarHandle" ∧ (parseMethodDescriptor yX1_amountAt.desc).map (fun d => d.parameters.length) = some 1 := by decide +kernel
theorem in_X1_amountAt_X1 : ∀ w ∈ u_ws RX1 TX1 2, w ∈ wsX1_amountAt := by decide +kernel
set_option maxHeartbeats 4000000 in
set_option maxRecDepth 100000 in
/-- JarRiddle$Row.amountAt(I)I -/
theorem c_X1_amountAt (l : Launch) (G : zG) (rh rv ra : Nat) (vr : Nat → Int32) (ar : Nat → Int32) (p1 : Int32) : zC l G yX1_amountAt wsX1_amountAt rm_X1_amountAt 0 0 [.ref rh, .int p1] (w_X1 G rh rv ra vr ar) (some (.int (f_X1_amountAt ar p1))) (fun _ : Unit => (w_X1 G rh rv ra vr ar)) := by
  refine z_of (cc := cX1_amountAt) (maxL := 2) (ret := (some .int)) (own := RX1) (by decide) rfl rfl (Nat.le_of_ble_eq_true rfl) ?_
  intro p e s m args below meth c A H locs ls F hr hlocks hname hK hA hP hD hS hl
  obtain ⟨hx, hb, hml, hown, hts⟩ := id F
  have hl : lv_has ls 2 [(0, .ref rh), (1, .int p1)] := hl
  refine lv_iload_n hx hb dX1_amountAt_0 rfl (lv_at hl 1 rfl) ?_
  refine lv_if_lt (tgt := 22) hx hb dX1_amountAt_1 (by decide) (fun (c_1 : p1 < (0 : Int32)) => ?_) (fun (c_1 : ¬ p1 < (0 : Int32)) => ?_)
  · refine lv_iconst (v := (0 : Int32)) hx hb dX1_amountAt_22 (by decide) ?_
    have e9 : (f_X1_amountAt ar p1) = (0 : Int32) := (f_X1_amountAt_eq ar p1).trans ((if_pos c_1).trans (rfl))
    rw [e9]
    exact z_iret F hr hlocks hP hD hS () [0, 1, 2] rfl rfl rfl dX1_amountAt_23
  · refine lv_iload_n hx hb dX1_amountAt_4 rfl (lv_at hl 1 rfl) ?_
    refine lv_aload_n hx hb dX1_amountAt_5 rfl (lv_at hl 0 rfl) ?_
    refine va_get (D := G.1) (ci := 1) (v := .ref ra) (C := RX1) (T := TX1) (N := 2) hx hb hts in_X1_amountAt_X1 hown hK.1 hP 0 rfl rfl 1 (by decide) (hts (.fieldLink RX1 15 "JarRiddle$Row" "amount" "[I") (by decide +kernel)) (fun _ h9 => h9) rfl dX1_amountAt_6 ?_
    refine va_alen (v := (3 : Int32)) hx hb hK.1 hP 2 0 rfl rfl rfl dX1_amountAt_9 ?_
    refine lv_icmp_ge (tgt := 22) hx hb dX1_amountAt_10 (by decide) (fun (c_2 : (3 : Int32) ≤ p1) => ?_) (fun (c_2 : ¬ (3 : Int32) ≤ p1) => ?_)
    · refine lv_iconst (v := (0 : Int32)) hx hb dX1_amountAt_22 (by decide) ?_
      have e9 : (f_X1_amountAt ar p1) = (0 : Int32) := (f_X1_amountAt_eq ar p1).trans ((if_neg c_1).trans ((if_pos c_2).trans (rfl)))
      rw [e9]
      exact z_iret F hr hlocks hP hD hS () [0, 1, 2] rfl rfl rfl dX1_amountAt_23
    · refine lv_aload_n hx hb dX1_amountAt_13 rfl (lv_at hl 0 rfl) ?_
      refine va_get (D := G.1) (ci := 1) (v := .ref ra) (C := RX1) (T := TX1) (N := 2) hx hb hts in_X1_amountAt_X1 hown hK.1 hP 0 rfl rfl 1 (by decide) (hts (.fieldLink RX1 15 "JarRiddle$Row" "amount" "[I") (by decide +kernel)) (fun _ h9 => h9) rfl dX1_amountAt_14 ?_
      refine lv_iload_n hx hb dX1_amountAt_17 rfl (lv_at hl 1 rfl) ?_
      refine va_iald hx hb hK.1 hP 2 0 rfl rfl (zk_in (N := 3) rfl c_1 c_2) dX1_amountAt_18 ?_
      refine lv_goto (tgt := 23) hx hb dX1_amountAt_19 (by decide) ?_
      have e9 : (f_X1_amountAt ar p1) = (ar p1.toNatClampNeg) := (f_X1_amountAt_eq ar p1).trans ((if_neg c_1).trans ((if_neg c_2).trans (rfl)))
      rw [e9]
      exact z_iret F hr hlocks hP hD hS () [0, 1, 2] rfl rfl rfl dX1_amountAt_23
def f_X1_emptyAt (ar : Nat → Int32) (p1 : Int32) : Int32 := (if (f_X1_amountAt ar p1) = (0 : Int32) then (1 : Int32) else (0 : Int32))
theorem f_X1_emptyAt_eq (ar : Nat → Int32) (p1 : Int32) : f_X1_emptyAt ar p1 = (if (f_X1_amountAt ar p1) = (0 : Int32) then (1 : Int32) else (0 : Int32)) := rfl
theorem b_X1_emptyAt (ar : Nat → Int32) (p1 : Int32) : zb (f_X1_emptyAt ar p1) := by
  unfold f_X1_emptyAt
  repeat' split
  all_goals first | exact Or.inl rfl | exact Or.inr rfl
abbrev rm_X1_emptyAt : Room := { frames := 1, cells := 0, slots := 0, locals := 21 }
theorem zd_X1_emptyAt : yX1_emptyAt.cls = RX1 ∧ yX1_emptyAt.cls ≠ "java/lang/invoke/MethodHandle" ∧ yX1_emptyAt.cls ≠ "java/lang/invoke/VarHandle" ∧ (parseMethodDescriptor yX1_emptyAt.desc).map (fun d => d.parameters.length) = some 1 := by decide +kernel
set_option maxHeartbeats 4000000 in
set_option maxRecDepth 100000 in
/-- JarRiddle$Row.emptyAt(I)Z -/
theorem c_X1_emptyAt (l : Launch) (G : zG) (rh rv ra : Nat) (vr : Nat → Int32) (ar : Nat → Int32) (p1 : Int32) : zC l G yX1_emptyAt wsX1_emptyAt rm_X1_emptyAt 0 0 [.ref rh, .int p1] (w_X1 G rh rv ra vr ar) (some (.int (f_X1_emptyAt ar p1))) (fun _ : Unit => (w_X1 G rh rv ra vr ar)) := by
  refine z_of (cc := cX1_emptyAt) (maxL := 2) (ret := (some .boolean)) (own := RX1) (by decide) rfl rfl (Nat.le_of_ble_eq_true rfl) ?_
  intro p e s m args below meth c A H locs ls F hr hlocks hname hK hA hP hD hS hl
  obtain ⟨hx, hb, hml, hown, hts⟩ := id F
  have hl : lv_has ls 2 [(0, .ref rh), (1, .int p1)] := hl
  refine lv_aload_n hx hb dX1_emptyAt_0 rfl (lv_at hl 0 rfl) ?_
  refine lv_iload_n hx hb dX1_emptyAt_1 rfl (lv_at hl 1 rfl) ?_
  refine z_callV (As := [.int p1]) (rest := []) (wr := ([] : va_W)) (w1 := fun _ : Unit => (w_X1 G rh rv ra vr ar)) (wj := fun _ : Unit => (w_X1 G rh rv ra vr ar)) (ci := 1) (q0 := 0) F (c_X1_amountAt l G rh rv ra vr ar p1) gX1_emptyAt_X1_amountAt rfl rfl rfl zd_X1_amountAt ⟨Nat.le_of_ble_eq_true rfl, Nat.le_of_ble_eq_true rfl⟩ rfl rfl (Nat.le_of_ble_eq_true rfl) dX1_emptyAt_2 ⟨Nat.le_of_ble_eq_true rfl, Nat.le_of_ble_eq_true rfl⟩ hK hP hD hS hA hl.1 rfl rfl [0, 1, 2] [] [0, 1, 2] rfl rfl rfl rfl (by decide) rfl (fun _ => rfl) (fun _ H locs hP hD hS => ?_)
  have hP : va_P G.1 vwCl (w_X1 G rh rv ra vr ar) H := hP
  have hD : va_D A (w_X1 G rh rv ra vr ar) := hD
  refine lv_if_ne (tgt := 12) hx hb dX1_emptyAt_5 (by decide) (fun (c_1 : ¬ (f_X1_amountAt ar p1) = (0 : Int32)) => ?_) (fun (c_1 : (f_X1_amountAt ar p1) = (0 : Int32)) => ?_)
  · refine lv_iconst (v := (0 : Int32)) hx hb dX1_emptyAt_12 (by decide) ?_
    have e9 : (f_X1_emptyAt ar p1) = (0 : Int32) := (f_X1_emptyAt_eq ar p1).trans ((if_neg c_1).trans (rfl))
    rw [e9]
    exact z_zret F hr hlocks hP hD hS () [0, 1, 2] rfl rfl rfl rfl dX1_emptyAt_13
  · refine lv_iconst (v := (1 : Int32)) hx hb dX1_emptyAt_8 (by decide) ?_
    refine lv_goto (tgt := 13) hx hb dX1_emptyAt_9 (by decide) ?_
    have e9 : (f_X1_emptyAt ar p1) = (1 : Int32) := (f_X1_emptyAt_eq ar p1).trans ((if_pos c_1).trans (rfl))
    rw [e9]
    exact z_zret F hr hlocks hP hD hS () [0, 1, 2] rfl rfl rfl rfl dX1_emptyAt_13
def f_X1_fullAt (vr : Nat → Int32) (ar : Nat → Int32) (p1 : Int32) : Int32 := (if (f_X1_amountAt ar p1) = (f_X1_volumeAt vr p1) then (1 : Int32) else (0 : Int32))
theorem f_X1_fullAt_eq (vr : Nat → Int32) (ar : Nat → Int32) (p1 : Int32) : f_X1_fullAt vr ar p1 = (if (f_X1_amountAt ar p1) = (f_X1_volumeAt vr p1) then (1 : Int32) else (0 : Int32)) := rfl
theorem b_X1_fullAt (vr : Nat → Int32) (ar : Nat → Int32) (p1 : Int32) : zb (f_X1_fullAt vr ar p1) := by
  unfold f_X1_fullAt
  repeat' split
  all_goals first | exact Or.inl rfl | exact Or.inr rfl
abbrev rm_X1_fullAt : Room := { frames := 1, cells := 0, slots := 0, locals := 21 }
theorem zd_X1_fullAt : yX1_fullAt.cls = RX1 ∧ yX1_fullAt.cls ≠ "java/lang/invoke/MethodHandle" ∧ yX1_fullAt.cls ≠ "java/lang/invoke/VarHandle" ∧ (parseMethodDescriptor yX1_fullAt.desc).map (fun d => d.parameters.length) = some 1 := by decide +kernel
set_option maxHeartbeats 4000000 in
set_option maxRecDepth 100000 in
/-- JarRiddle$Row.fullAt(I)Z -/
theorem c_X1_fullAt (l : Launch) (G : zG) (rh rv ra : Nat) (vr : Nat → Int32) (ar : Nat → Int32) (p1 : Int32) : zC l G yX1_fullAt wsX1_fullAt rm_X1_fullAt 0 0 [.ref rh, .int p1] (w_X1 G rh rv ra vr ar) (some (.int (f_X1_fullAt vr ar p1))) (fun _ : Unit => (w_X1 G rh rv ra vr ar)) := by
  refine z_of (cc := cX1_fullAt) (maxL := 2) (ret := (some .boolean)) (own := RX1) (by decide) rfl rfl (Nat.le_of_ble_eq_true rfl) ?_
  intro p e s m args below meth c A H locs ls F hr hlocks hname hK hA hP hD hS hl
  obtain ⟨hx, hb, hml, hown, hts⟩ := id F
  have hl : lv_has ls 2 [(0, .ref rh), (1, .int p1)] := hl
  refine lv_aload_n hx hb dX1_fullAt_0 rfl (lv_at hl 0 rfl) ?_
  refine lv_iload_n hx hb dX1_fullAt_1 rfl (lv_at hl 1 rfl) ?_
  refine z_callV (As := [.int p1]) (rest := []) (wr := ([] : va_W)) (w1 := fun _ : Unit => (w_X1 G rh rv ra vr ar)) (wj := fun _ : Unit => (w_X1 G rh rv ra vr ar)) (ci := 1) (q0 := 0) F (c_X1_amountAt l G rh rv ra vr ar p1) gX1_fullAt_X1_amountAt rfl rfl rfl zd_X1_amountAt ⟨Nat.le_of_ble_eq_true rfl, Nat.le_of_ble_eq_true rfl⟩ rfl rfl (Nat.le_of_ble_eq_true rfl) dX1_fullAt_2 ⟨Nat.le_of_ble_eq_true rfl, Nat.le_of_ble_eq_true rfl⟩ hK hP hD hS hA hl.1 rfl rfl [0, 1, 2] [] [0, 1, 2] rfl rfl rfl rfl (by decide) rfl (fun _ => rfl) (fun _ H locs hP hD hS => ?_)
  have hP : va_P G.1 vwCl (w_X1 G rh rv ra vr ar) H := hP
  have hD : va_D A (w_X1 G rh rv ra vr ar) := hD
  refine lv_aload_n hx hb dX1_fullAt_5 rfl (lv_at hl 0 rfl) ?_
  refine lv_iload_n hx hb dX1_fullAt_6 rfl (lv_at hl 1 rfl) ?_
  refine z_callV (As := [.int p1]) (rest := [.int (f_X1_amountAt ar p1)]) (wr := ([] : va_W)) (w1 := fun _ : Unit => (w_X1 G rh rv ra vr ar)) (wj := fun _ : Unit => (w_X1 G rh rv ra vr ar)) (ci := 1) (q0 := 0) F (c_X1_volumeAt l G rh rv ra vr ar p1) gX1_fullAt_X1_volumeAt rfl rfl rfl zd_X1_volumeAt ⟨Nat.le_of_ble_eq_true rfl, Nat.le_of_ble_eq_true rfl⟩ rfl rfl (Nat.le_of_ble_eq_true rfl) dX1_fullAt_7 ⟨Nat.le_of_ble_eq_true rfl, Nat.le_of_ble_eq_true rfl⟩ hK hP hD hS hA hl.1 rfl rfl [0, 1, 2] [] [0, 1, 2] rfl rfl rfl rfl (by decide) rfl (fun _ => rfl) (fun _ H locs hP hD hS => ?_)
  have hP : va_P G.1 vwCl (w_X1 G rh rv ra vr ar) H := hP
  have hD : va_D A (w_X1 G rh rv ra vr ar) := hD
  refine lv_icmp_ne (tgt := 17) hx hb dX1_fullAt_10 (by decide) (fun (c_1 : ¬ (f_X1_amountAt ar p1) = (f_X1_volumeAt vr p1)) => ?_) (fun (c_1 : (f_X1_amountAt ar p1) = (f_X1_volumeAt vr p1)) => ?_)
  · refine lv_iconst (v := (0 : Int32)) hx hb dX1_fullAt_17 (by decide) ?_
    have e9 : (f_X1_fullAt vr ar p1) = (0 : Int32) := (f_X1_fullAt_eq vr ar p1).trans ((if_neg c_1).trans (rfl))
    rw [e9]
    exact z_zret F hr hlocks hP hD hS () [0, 1, 2] rfl rfl rfl rfl dX1_fullAt_18
  · refine lv_iconst (v := (1 : Int32)) hx hb dX1_fullAt_13 (by decide) ?_
    refine lv_goto (tgt := 18) hx hb dX1_fullAt_14 (by decide) ?_
    have e9 : (f_X1_fullAt vr ar p1) = (1 : Int32) := (f_X1_fullAt_eq vr ar p1).trans ((if_pos c_1).trans (rfl))
    rw [e9]
    exact z_zret F hr hlocks hP hD hS () [0, 1, 2] rfl rfl rfl rfl dX1_fullAt_18
def lf_X1_holdsSomewhere_2 : Nat → Nat → (Nat → Int32) → (Nat → Int32) → Int32 → Int32
  | 0, k, vr, ar, x1 => 0
  | n + 1, k, vr, ar, x1 => (if (f_X1_count vr) ≤ (nI k) then (0 : Int32) else (if (f_X1_amountAt ar (nI k)) = x1 then (1 : Int32) else (lf_X1_holdsSomewhere_2 n (k + 1) vr ar x1)))
theorem lf_X1_holdsSomewhere_2_succ (n k : Nat) (vr : Nat → Int32) (ar : Nat → Int32) (x1 : Int32) : lf_X1_holdsSomewhere_2 (n + 1) k vr ar x1 = (if (f_X1_count vr) ≤ (nI k) then (0 : Int32) else (if (f_X1_amountAt ar (nI k)) = x1 then (1 : Int32) else (lf_X1_holdsSomewhere_2 n (k + 1) vr ar x1))) := rfl
theorem bf_X1_holdsSomewhere_2 : ∀ (n k : Nat) (vr : Nat → Int32) (ar : Nat → Int32) (x1 : Int32), zb (lf_X1_holdsSomewhere_2 n k vr ar x1) := by
  intro n
  induction n with
  | zero => intros; exact Or.inl rfl
  | succ n ih =>
    intro k vr ar x1
    rw [lf_X1_holdsSomewhere_2_succ]
    repeat' split
    all_goals first | exact Or.inl rfl | exact Or.inr rfl | exact ih ..
def f_X1_holdsSomewhere (vr : Nat → Int32) (ar : Nat → Int32) (p1 : Int32) : Int32 := (lf_X1_holdsSomewhere_2 ((f_X1_count vr).toNatClampNeg + 1) 0 vr ar p1)
theorem f_X1_holdsSomewhere_eq (vr : Nat → Int32) (ar : Nat → Int32) (p1 : Int32) : f_X1_holdsSomewhere vr ar p1 = (lf_X1_holdsSomewhere_2 ((f_X1_count vr).toNatClampNeg + 1) 0 vr ar p1) := rfl
theorem b_X1_holdsSomewhere (vr : Nat → Int32) (ar : Nat → Int32) (p1 : Int32) : zb (f_X1_holdsSomewhere vr ar p1) := by
  unfold f_X1_holdsSomewhere
  repeat' split
  all_goals first | exact Or.inl rfl | exact Or.inr rfl | exact bf_X1_holdsSomewhere_2 ..
abbrev rm_X1_holdsSomewhere : Room := { frames := 1, cells := 0, slots := 0, locals := 21 }
theorem zd_X1_holdsSomewhere : yX1_holdsSomewhere.cls = RX1 ∧ yX1_holdsSomewhere.cls ≠ "java/lang/invoke/MethodHandle" ∧ yX1_holdsSomewhere.cls ≠ "java/lang/invoke/VarHandle" ∧ (parseMethodDescriptor yX1_holdsSomewhere.desc).map (fun d => d.parameters.length) = some 1 := by decide +kernel
set_option maxHeartbeats 4000000 in
set_option maxRecDepth 100000 in
theorem l_X1_holdsSomewhere_2 {p : Program} {l : Launch} {e : Env} {s : State} {m : MethodId} {args : Array Value} {below : List Frame} {meth : Method} {c : Code} {A : Nat → Prop} {G : zG} (F : CallFix p m c cX1_holdsSomewhere 3 s args wsX1_holdsSomewhere RX1) (hr : meth.sig.returnType = (some .boolean)) (hlocks : meth.locks = false) (hK : zK G s) (hA : ∀ q : Nat, s.heap.size ≤ q → A q) (rh rv ra : Nat) :
    ∀ (n k : Nat) (vr : Nat → Int32) (ar : Nat → Int32) (x1 : Int32), k + n = (f_X1_count vr).toNatClampNeg + 1 → k ≤ (f_X1_count vr).toNatClampNeg → ∀ (H : Heap) (locs : List Loc) (ls : Array Slot), va_P G.1 vwCl (w_X1 G rh rv ra vr ar) H → va_D A (w_X1 G rh rv ra vr ar) → va_S A s.heap H locs → lv_has ls 3 [(0, .ref rh), (1, .int x1), (2, .int (nI k))] → W p l e rm_X1_holdsSomewhere s m args below meth c H locs 0 0 (MQ below (zQ G (some (.int (lf_X1_holdsSomewhere_2 n k vr ar x1))) (fun _ : Unit => (w_X1 G rh rv ra vr ar)) A) args s 0 0 A) (F0 m 2 ls []) := by
  obtain ⟨hx, hb, hml, hown, hts⟩ := id F
  intro n
  induction n with
  | zero => intro k vr ar x1 h1 h2; omega
  | succ n IH9 =>
    intro k vr ar x1 hkn hkN H locs ls hP hD hS hl
    refine lv_iload_n hx hb dX1_holdsSomewhere_2 rfl (lv_at hl 2 rfl) ?_
    refine lv_aload_n hx hb dX1_holdsSomewhere_3 rfl (lv_at hl 0 rfl) ?_
    refine z_callV (As := []) (rest := [.int (nI k)]) (wr := ([] : va_W)) (w1 := fun _ : Unit => (w_X1 G rh rv ra vr ar)) (wj := fun _ : Unit => (w_X1 G rh rv ra vr ar)) (ci := 1) (q0 := 0) F (c_X1_count l G rh rv ra vr ar) gX1_holdsSomewhere_X1_count rfl rfl rfl zd_X1_count ⟨Nat.le_of_ble_eq_true rfl, Nat.le_of_ble_eq_true rfl⟩ rfl rfl (Nat.le_of_ble_eq_true rfl) dX1_holdsSomewhere_4 ⟨Nat.le_of_ble_eq_true rfl, Nat.le_of_ble_eq_true rfl⟩ hK hP hD hS hA hl.1 rfl rfl [0, 1, 2] [] [0, 1, 2] rfl rfl rfl rfl (by decide) rfl (fun _ => rfl) (fun _ H locs hP hD hS => ?_)
    have hP : va_P G.1 vwCl (w_X1 G rh rv ra vr ar) H := hP
    have hD : va_D A (w_X1 G rh rv ra vr ar) := hD
    refine lv_icmp_ge (tgt := 27) hx hb dX1_holdsSomewhere_7 (by decide) (fun (c_1 : (f_X1_count vr) ≤ (nI k)) => ?_) (fun (c_1 : ¬ (f_X1_count vr) ≤ (nI k)) => ?_)
    · refine lv_iconst (v := (0 : Int32)) hx hb dX1_holdsSomewhere_27 (by decide) ?_
      have e9 : (lf_X1_holdsSomewhere_2 (n + 1) k vr ar x1) = (0 : Int32) := (lf_X1_holdsSomewhere_2_succ n k vr ar x1).trans ((if_pos c_1).trans (rfl))
      rw [e9]
      exact z_zret F hr hlocks hP hD hS () [0, 1, 2] rfl rfl rfl rfl dX1_holdsSomewhere_28
    · refine lv_aload_n hx hb dX1_holdsSomewhere_10 rfl (lv_at hl 0 rfl) ?_
      refine lv_iload_n hx hb dX1_holdsSomewhere_11 rfl (lv_at hl 2 rfl) ?_
      refine z_callV (As := [.int (nI k)]) (rest := []) (wr := ([] : va_W)) (w1 := fun _ : Unit => (w_X1 G rh rv ra vr ar)) (wj := fun _ : Unit => (w_X1 G rh rv ra vr ar)) (ci := 1) (q0 := 0) F (c_X1_amountAt l G rh rv ra vr ar (nI k)) gX1_holdsSomewhere_X1_amountAt rfl rfl rfl zd_X1_amountAt ⟨Nat.le_of_ble_eq_true rfl, Nat.le_of_ble_eq_true rfl⟩ rfl rfl (Nat.le_of_ble_eq_true rfl) dX1_holdsSomewhere_12 ⟨Nat.le_of_ble_eq_true rfl, Nat.le_of_ble_eq_true rfl⟩ hK hP hD hS hA hl.1 rfl rfl [0, 1, 2] [] [0, 1, 2] rfl rfl rfl rfl (by decide) rfl (fun _ => rfl) (fun _ H locs hP hD hS => ?_)
      have hP : va_P G.1 vwCl (w_X1 G rh rv ra vr ar) H := hP
      have hD : va_D A (w_X1 G rh rv ra vr ar) := hD
      refine lv_iload_n hx hb dX1_holdsSomewhere_15 rfl (lv_at hl 1 rfl) ?_
      refine lv_icmp_ne (tgt := 21) hx hb dX1_holdsSomewhere_16 (by decide) (fun (c_2 : ¬ (f_X1_amountAt ar (nI k)) = x1) => ?_) (fun (c_2 : (f_X1_amountAt ar (nI k)) = x1) => ?_)
      · refine lv_iinc (v := (nI (k + 1))) (lv' := [(2, .int (nI (k + 1))), (0, .ref rh), (1, .int x1)]) hx hb dX1_holdsSomewhere_21 hl (k := 2) rfl (nI_1 k) (by decide) rfl (fun ls hl => ?_)
        refine lv_goto (tgt := 2) hx hb dX1_holdsSomewhere_24 (by decide) ?_
        have e9 : (lf_X1_holdsSomewhere_2 (n + 1) k vr ar x1) = (lf_X1_holdsSomewhere_2 n (k + 1) vr ar x1) := (lf_X1_holdsSomewhere_2_succ n k vr ar x1).trans ((if_neg c_1).trans ((if_neg c_2).trans (rfl)))
        rw [e9]
        have h9 := zk_lt (N := (f_X1_count vr).toNatClampNeg) (by have := zk_cl (f_X1_count vr); omega) rfl c_1
        exact IH9 (k + 1) vr ar x1 (by omega) (by omega) H locs ls hP hD hS (lv_sub hl [1, 2, 0] rfl)
      · refine lv_iconst (v := (1 : Int32)) hx hb dX1_holdsSomewhere_19 (by decide) ?_
        have e9 : (lf_X1_holdsSomewhere_2 (n + 1) k vr ar x1) = (1 : Int32) := (lf_X1_holdsSomewhere_2_succ n k vr ar x1).trans ((if_neg c_1).trans ((if_pos c_2).trans (rfl)))
        rw [e9]
        exact z_zret F hr hlocks hP hD hS () [0, 1, 2] rfl rfl rfl rfl dX1_holdsSomewhere_20
set_option maxHeartbeats 4000000 in
set_option maxRecDepth 100000 in
/-- JarRiddle$Row.holdsSomewhere(I)Z -/
theorem c_X1_holdsSomewhere (l : Launch) (G : zG) (rh rv ra : Nat) (vr : Nat → Int32) (ar : Nat → Int32) (p1 : Int32) : zC l G yX1_holdsSomewhere wsX1_holdsSomewhere rm_X1_holdsSomewhere 0 0 [.ref rh, .int p1] (w_X1 G rh rv ra vr ar) (some (.int (f_X1_holdsSomewhere vr ar p1))) (fun _ : Unit => (w_X1 G rh rv ra vr ar)) := by
  refine z_of (cc := cX1_holdsSomewhere) (maxL := 3) (ret := (some .boolean)) (own := RX1) (by decide) rfl rfl (Nat.le_of_ble_eq_true rfl) ?_
  intro p e s m args below meth c A H locs ls F hr hlocks hname hK hA hP hD hS hl
  obtain ⟨hx, hb, hml, hown, hts⟩ := id F
  have hl : lv_has ls 3 [(0, .ref rh), (1, .int p1)] := hl
  refine lv_iconst (v := (0 : Int32)) hx hb dX1_holdsSomewhere_0 (by decide) ?_
  refine lv_istore_n (lv' := [(2, .int (0 : Int32)), (0, .ref rh), (1, .int p1)]) hx hb dX1_holdsSomewhere_1 rfl hl (by decide) rfl (fun ls hl => ?_)
  have e9 : (f_X1_holdsSomewhere vr ar p1) = (lf_X1_holdsSomewhere_2 ((f_X1_count vr).toNatClampNeg + 1) 0 vr ar p1) := (f_X1_holdsSomewhere_eq vr ar p1).trans (rfl)
  rw [e9]
  exact l_X1_holdsSomewhere_2 F hr hlocks hK hA rh rv ra ((f_X1_count vr).toNatClampNeg + 1) 0 vr ar p1 (by omega) (by omega) H locs ls hP hD hS (lv_sub hl [1, 2, 0] rfl)
def f_X1_state (ar : Nat → Int32) : Int32 := (((ar (0 : Int32).toNatClampNeg) + ((10 : Int32) * (ar (1 : Int32).toNatClampNeg))) + ((100 : Int32) * (ar (2 : Int32).toNatClampNeg)))
theorem f_X1_state_eq (ar : Nat → Int32) : f_X1_state ar = (((ar (0 : Int32).toNatClampNeg) + ((10 : Int32) * (ar (1 : Int32).toNatClampNeg))) + ((100 : Int32) * (ar (2 : Int32).toNatClampNeg))) := rfl
abbrev rm_X1_state : Room := { frames := 0, cells := 0, slots := 0, locals := 0 }
theorem zd_X1_state : yX1_state.cls = RX1 ∧ yX1_state.cls ≠ "java/lang/invoke/MethodHandle" ∧ yX1_state.cls ≠ "java/lang/invoke/VarHandle" ∧ (parseMethodDescriptor yX1_state.desc).map (fun d => d.parameters.length) = some 0 := by decide +kernel
theorem in_X1_state_X1 : ∀ w ∈ u_ws RX1 TX1 2, w ∈ wsX1_state := by decide +kernel
set_option maxHeartbeats 4000000 in
set_option maxRecDepth 100000 in
/-- JarRiddle$Row.state()I -/
theorem c_X1_state (l : Launch) (G : zG) (rh rv ra : Nat) (vr : Nat → Int32) (ar : Nat → Int32) : zC l G yX1_state wsX1_state rm_X1_state 0 0 [.ref rh] (w_X1 G rh rv ra vr ar) (some (.int (f_X1_state ar))) (fun _ : Unit => (w_X1 G rh rv ra vr ar)) := by
  refine z_of (cc := cX1_state) (maxL := 1) (ret := (some .int)) (own := RX1) (by decide) rfl rfl (Nat.le_of_ble_eq_true rfl) ?_
  intro p e s m args below meth c A H locs ls F hr hlocks hname hK hA hP hD hS hl
  obtain ⟨hx, hb, hml, hown, hts⟩ := id F
  have hl : lv_has ls 1 [(0, .ref rh)] := hl
  refine lv_aload_n hx hb dX1_state_0 rfl (lv_at hl 0 rfl) ?_
  refine va_get (D := G.1) (ci := 1) (v := .ref ra) (C := RX1) (T := TX1) (N := 2) hx hb hts in_X1_state_X1 hown hK.1 hP 0 rfl rfl 1 (by decide) (hts (.fieldLink RX1 15 "JarRiddle$Row" "amount" "[I") (by decide +kernel)) (fun _ h9 => h9) rfl dX1_state_1 ?_
  refine lv_iconst (v := (0 : Int32)) hx hb dX1_state_4 (by decide) ?_
  refine va_iald hx hb hK.1 hP 2 0 rfl rfl (vp_in_nI (n := 0) (N := 3) (by decide) (by decide)) dX1_state_5 ?_
  refine lv_bipush (v := (10 : Int32)) hx hb dX1_state_6 (by decide) ?_
  refine lv_aload_n hx hb dX1_state_8 rfl (lv_at hl 0 rfl) ?_
  refine va_get (D := G.1) (ci := 1) (v := .ref ra) (C := RX1) (T := TX1) (N := 2) hx hb hts in_X1_state_X1 hown hK.1 hP 0 rfl rfl 1 (by decide) (hts (.fieldLink RX1 15 "JarRiddle$Row" "amount" "[I") (by decide +kernel)) (fun _ h9 => h9) rfl dX1_state_9 ?_
  refine lv_iconst (v := (1 : Int32)) hx hb dX1_state_12 (by decide) ?_
  refine va_iald hx hb hK.1 hP 2 0 rfl rfl (vp_in_nI (n := 1) (N := 3) (by decide) (by decide)) dX1_state_13 ?_
  refine lv_imul hx hb dX1_state_14 ?_
  refine lv_iadd hx hb dX1_state_15 ?_
  refine lv_bipush (v := (100 : Int32)) hx hb dX1_state_16 (by decide) ?_
  refine lv_aload_n hx hb dX1_state_18 rfl (lv_at hl 0 rfl) ?_
  refine va_get (D := G.1) (ci := 1) (v := .ref ra) (C := RX1) (T := TX1) (N := 2) hx hb hts in_X1_state_X1 hown hK.1 hP 0 rfl rfl 1 (by decide) (hts (.fieldLink RX1 15 "JarRiddle$Row" "amount" "[I") (by decide +kernel)) (fun _ h9 => h9) rfl dX1_state_19 ?_
  refine lv_iconst (v := (2 : Int32)) hx hb dX1_state_22 (by decide) ?_
  refine va_iald hx hb hK.1 hP 2 0 rfl rfl (vp_in_nI (n := 2) (N := 3) (by decide) (by decide)) dX1_state_23 ?_
  refine lv_imul hx hb dX1_state_24 ?_
  refine lv_iadd hx hb dX1_state_25 ?_
  have e9 : (f_X1_state ar) = (((ar (0 : Int32).toNatClampNeg) + ((10 : Int32) * (ar (1 : Int32).toNatClampNeg))) + ((100 : Int32) * (ar (2 : Int32).toNatClampNeg))) := (f_X1_state_eq ar).trans (rfl)
  rw [e9]
  exact z_iret F hr hlocks hP hD hS () [0, 1, 2] rfl rfl rfl dX1_state_26
def f_X1_hold_t1 (ar : Nat → Int32) (p1 : Int32) : Nat → Int32 := (upd (upd ar (0 : Int32).toNatClampNeg (p1 - p1 / (10 : Int32) * (10 : Int32))) (1 : Int32).toNatClampNeg ((p1 / (10 : Int32)) - (p1 / (10 : Int32)) / (10 : Int32) * (10 : Int32)))
def f_X1_hold (ar : Nat → Int32) (p1 : Int32) : (Nat → Int32) := (upd (f_X1_hold_t1 ar p1) (2 : Int32).toNatClampNeg ((p1 / (100 : Int32)) - (p1 / (100 : Int32)) / (10 : Int32) * (10 : Int32)))
theorem f_X1_hold_eq (ar : Nat → Int32) (p1 : Int32) : f_X1_hold ar p1 = (upd (f_X1_hold_t1 ar p1) (2 : Int32).toNatClampNeg ((p1 / (100 : Int32)) - (p1 / (100 : Int32)) / (10 : Int32) * (10 : Int32))) := rfl
abbrev rm_X1_hold : Room := { frames := 0, cells := 0, slots := 0, locals := 0 }
theorem zd_X1_hold : yX1_hold.cls = RX1 ∧ yX1_hold.cls ≠ "java/lang/invoke/MethodHandle" ∧ yX1_hold.cls ≠ "java/lang/invoke/VarHandle" ∧ (parseMethodDescriptor yX1_hold.desc).map (fun d => d.parameters.length) = some 1 := by decide +kernel
theorem in_X1_hold_X1 : ∀ w ∈ u_ws RX1 TX1 2, w ∈ wsX1_hold := by decide +kernel
set_option maxHeartbeats 4000000 in
set_option maxRecDepth 100000 in
/-- JarRiddle$Row.hold(I)V -/
theorem c_X1_hold (l : Launch) (G : zG) (rh rv ra : Nat) (vr : Nat → Int32) (ar : Nat → Int32) (p1 : Int32) : zC l G yX1_hold wsX1_hold rm_X1_hold 0 0 [.ref rh, .int p1] (w_X1 G rh rv ra vr ar) none (fun _ : Unit => (w_X1 G rh rv ra vr (f_X1_hold ar p1))) := by
  refine z_of (cc := cX1_hold) (maxL := 2) (ret := none) (own := RX1) (by decide) rfl rfl (Nat.le_of_ble_eq_true rfl) ?_
  intro p e s m args below meth c A H locs ls F hr hlocks hname hK hA hP hD hS hl
  obtain ⟨hx, hb, hml, hown, hts⟩ := id F
  have hl : lv_has ls 2 [(0, .ref rh), (1, .int p1)] := hl
  refine lv_aload_n hx hb dX1_hold_0 rfl (lv_at hl 0 rfl) ?_
  refine va_get (D := G.1) (ci := 1) (v := .ref ra) (C := RX1) (T := TX1) (N := 2) hx hb hts in_X1_hold_X1 hown hK.1 hP 0 rfl rfl 1 (by decide) (hts (.fieldLink RX1 15 "JarRiddle$Row" "amount" "[I") (by decide +kernel)) (fun _ h9 => h9) rfl dX1_hold_1 ?_
  refine lv_iconst (v := (0 : Int32)) hx hb dX1_hold_4 (by decide) ?_
  refine lv_iload_n hx hb dX1_hold_5 rfl (lv_at hl 1 rfl) ?_
  refine lv_bipush (v := (10 : Int32)) hx hb dX1_hold_6 (by decide) ?_
  refine lv_irem hx hb dX1_hold_8 (by decide) ?_
  refine va_iast hx hb hK.1 hP hD hS 2 0 rfl rfl (vp_in_nI (n := 0) (N := 3) (by decide) (by decide)) dX1_hold_9 (fun H locs hP hD hS => ?_)
  have hP : va_P G.1 vwCl (w_X1 G rh rv ra vr (upd ar (0 : Int32).toNatClampNeg (p1 - p1 / (10 : Int32) * (10 : Int32)))) H := hP
  have hD : va_D A (w_X1 G rh rv ra vr (upd ar (0 : Int32).toNatClampNeg (p1 - p1 / (10 : Int32) * (10 : Int32)))) := hD
  refine lv_aload_n hx hb dX1_hold_10 rfl (lv_at hl 0 rfl) ?_
  refine va_get (D := G.1) (ci := 1) (v := .ref ra) (C := RX1) (T := TX1) (N := 2) hx hb hts in_X1_hold_X1 hown hK.1 hP 0 rfl rfl 1 (by decide) (hts (.fieldLink RX1 15 "JarRiddle$Row" "amount" "[I") (by decide +kernel)) (fun _ h9 => h9) rfl dX1_hold_11 ?_
  refine lv_iconst (v := (1 : Int32)) hx hb dX1_hold_14 (by decide) ?_
  refine lv_iload_n hx hb dX1_hold_15 rfl (lv_at hl 1 rfl) ?_
  refine lv_bipush (v := (10 : Int32)) hx hb dX1_hold_16 (by decide) ?_
  refine lv_idiv hx hb dX1_hold_18 (by decide) ?_
  refine lv_bipush (v := (10 : Int32)) hx hb dX1_hold_19 (by decide) ?_
  refine lv_irem hx hb dX1_hold_21 (by decide) ?_
  refine va_iast hx hb hK.1 hP hD hS 2 0 rfl rfl (vp_in_nI (n := 1) (N := 3) (by decide) (by decide)) dX1_hold_22 (fun H locs hP hD hS => ?_)
  have hP : va_P G.1 vwCl (w_X1 G rh rv ra vr (f_X1_hold_t1 ar p1)) H := hP
  have hD : va_D A (w_X1 G rh rv ra vr (f_X1_hold_t1 ar p1)) := hD
  refine lv_aload_n hx hb dX1_hold_23 rfl (lv_at hl 0 rfl) ?_
  refine va_get (D := G.1) (ci := 1) (v := .ref ra) (C := RX1) (T := TX1) (N := 2) hx hb hts in_X1_hold_X1 hown hK.1 hP 0 rfl rfl 1 (by decide) (hts (.fieldLink RX1 15 "JarRiddle$Row" "amount" "[I") (by decide +kernel)) (fun _ h9 => h9) rfl dX1_hold_24 ?_
  refine lv_iconst (v := (2 : Int32)) hx hb dX1_hold_27 (by decide) ?_
  refine lv_iload_n hx hb dX1_hold_28 rfl (lv_at hl 1 rfl) ?_
  refine lv_bipush (v := (100 : Int32)) hx hb dX1_hold_29 (by decide) ?_
  refine lv_idiv hx hb dX1_hold_31 (by decide) ?_
  refine lv_bipush (v := (10 : Int32)) hx hb dX1_hold_32 (by decide) ?_
  refine lv_irem hx hb dX1_hold_34 (by decide) ?_
  refine va_iast hx hb hK.1 hP hD hS 2 0 rfl rfl (vp_in_nI (n := 2) (N := 3) (by decide) (by decide)) dX1_hold_35 (fun H locs hP hD hS => ?_)
  have hP : va_P G.1 vwCl (w_X1 G rh rv ra vr (upd (f_X1_hold_t1 ar p1) (2 : Int32).toNatClampNeg ((p1 / (100 : Int32)) - (p1 / (100 : Int32)) / (10 : Int32) * (10 : Int32)))) H := hP
  have hD : va_D A (w_X1 G rh rv ra vr (upd (f_X1_hold_t1 ar p1) (2 : Int32).toNatClampNeg ((p1 / (100 : Int32)) - (p1 / (100 : Int32)) / (10 : Int32) * (10 : Int32)))) := hD
  have e9 : (f_X1_hold ar p1) = (upd (f_X1_hold_t1 ar p1) (2 : Int32).toNatClampNeg ((p1 / (100 : Int32)) - (p1 / (100 : Int32)) / (10 : Int32) * (10 : Int32))) := (f_X1_hold_eq ar p1).trans (rfl)
  rw [e9]
  exact z_vret F hr hlocks hP hD hS () [0, 1, 2] rfl rfl rfl dX1_hold_36
def lf_X1_look_4 : Nat → Nat → (Nat → Int32) → (Nat → Int32) → Int32 → Int32
  | 0, k, vr, ar, x1 => x1
  | n + 1, k, vr, ar, x1 => (if (3 : Int32) ≤ (nI k) then x1 else (lf_X1_look_4 n (k + 1) vr ar (((x1 * (4 : Int32)) + ((f_X3_oneIf (f_X1_emptyAt ar (nI k))) * (2 : Int32))) + (f_X3_oneIf (f_X1_fullAt vr ar (nI k))))))
theorem lf_X1_look_4_succ (n k : Nat) (vr : Nat → Int32) (ar : Nat → Int32) (x1 : Int32) : lf_X1_look_4 (n + 1) k vr ar x1 = (if (3 : Int32) ≤ (nI k) then x1 else (lf_X1_look_4 n (k + 1) vr ar (((x1 * (4 : Int32)) + ((f_X3_oneIf (f_X1_emptyAt ar (nI k))) * (2 : Int32))) + (f_X3_oneIf (f_X1_fullAt vr ar (nI k)))))) := rfl
def f_X1_look (vr : Nat → Int32) (ar : Nat → Int32) : Int32 := (lf_X1_look_4 4 0 vr ar (0 : Int32))
theorem f_X1_look_eq (vr : Nat → Int32) (ar : Nat → Int32) : f_X1_look vr ar = (lf_X1_look_4 4 0 vr ar (0 : Int32)) := rfl
abbrev rm_X1_look : Room := { frames := 2, cells := 0, slots := 0, locals := 42 }
theorem zd_X1_look : yX1_look.cls = RX1 ∧ yX1_look.cls ≠ "java/lang/invoke/MethodHandle" ∧ yX1_look.cls ≠ "java/lang/invoke/VarHandle" ∧ (parseMethodDescriptor yX1_look.desc).map (fun d => d.parameters.length) = some 0 := by decide +kernel
set_option maxHeartbeats 4000000 in
set_option maxRecDepth 100000 in
theorem l_X1_look_4 {p : Program} {l : Launch} {e : Env} {s : State} {m : MethodId} {args : Array Value} {below : List Frame} {meth : Method} {c : Code} {A : Nat → Prop} {Q : State → Prop} {G : zG} (F : CallFix p m c cX1_look 3 s args wsX1_look RX1) (hr : meth.sig.returnType = (some .int)) (hlocks : meth.locks = false) (hK : zK G s) (hA : ∀ q : Nat, s.heap.size ≤ q → A q) (rh rv ra : Nat) :
    ∀ (n k : Nat) (vr : Nat → Int32) (ar : Nat → Int32) (x1 : Int32), k + n = 3 + 1 → k ≤ 3 → ∀ (H : Heap) (locs : List Loc) (ls : Array Slot), va_P G.1 vwCl (w_X1 G rh rv ra vr ar) H → va_D A (w_X1 G rh rv ra vr ar) → va_S A s.heap H locs → lv_has ls 3 [(0, .ref rh), (1, .int x1), (2, .int (nI k))] → (∀ (H : Heap) (locs : List Loc) (ls : Array Slot), va_P G.1 vwCl (w_X1 G rh rv ra vr ar) H → va_D A (w_X1 G rh rv ra vr ar) → va_S A s.heap H locs → lv_has ls 3 [(1, .int (lf_X1_look_4 n k vr ar x1))] → W p l e rm_X1_look s m args below meth c H locs 0 0 Q (F0 m 39 ls [])) → W p l e rm_X1_look s m args below meth c H locs 0 0 Q (F0 m 4 ls []) := by
  obtain ⟨hx, hb, hml, hown, hts⟩ := id F
  intro n
  induction n with
  | zero => intro k vr ar x1 h1 h2; omega
  | succ n IH9 =>
    intro k vr ar x1 hkn hkN H locs ls hP hD hS hl kk
    refine lv_iload_n hx hb dX1_look_4 rfl (lv_at hl 2 rfl) ?_
    refine lv_iconst (v := (3 : Int32)) hx hb dX1_look_5 (by decide) ?_
    refine lv_icmp_ge (tgt := 39) hx hb dX1_look_6 (by decide) (fun (c_1 : (3 : Int32) ≤ (nI k)) => ?_) (fun (c_1 : ¬ (3 : Int32) ≤ (nI k)) => ?_)
    · have e9 : (lf_X1_look_4 (n + 1) k vr ar x1) = x1 := (lf_X1_look_4_succ n k vr ar x1).trans ((if_pos c_1).trans (rfl))
      rw [e9] at kk
      exact kk H locs ls hP hD hS (lv_sub hl [1] rfl)
    · refine lv_iload_n hx hb dX1_look_9 rfl (lv_at hl 1 rfl) ?_
      refine lv_iconst (v := (4 : Int32)) hx hb dX1_look_10 (by decide) ?_
      refine lv_imul hx hb dX1_look_11 ?_
      refine lv_aload_n hx hb dX1_look_12 rfl (lv_at hl 0 rfl) ?_
      refine lv_iload_n hx hb dX1_look_13 rfl (lv_at hl 2 rfl) ?_
      refine z_callV (As := [.int (nI k)]) (rest := [.int (x1 * (4 : Int32))]) (wr := ([] : va_W)) (w1 := fun _ : Unit => (w_X1 G rh rv ra vr ar)) (wj := fun _ : Unit => (w_X1 G rh rv ra vr ar)) (ci := 1) (q0 := 0) F (c_X1_emptyAt l G rh rv ra vr ar (nI k)) gX1_look_X1_emptyAt rfl rfl rfl zd_X1_emptyAt ⟨Nat.le_of_ble_eq_true rfl, Nat.le_of_ble_eq_true rfl⟩ rfl rfl (Nat.le_of_ble_eq_true rfl) dX1_look_14 ⟨Nat.le_of_ble_eq_true rfl, Nat.le_of_ble_eq_true rfl⟩ hK hP hD hS hA hl.1 rfl rfl [0, 1, 2] [] [0, 1, 2] rfl rfl rfl rfl (by decide) rfl (fun _ => rfl) (fun _ H locs hP hD hS => ?_)
      have hP : va_P G.1 vwCl (w_X1 G rh rv ra vr ar) H := hP
      have hD : va_D A (w_X1 G rh rv ra vr ar) := hD
      refine z_callSN (host := "JarRiddle") (As := [.int (f_X1_emptyAt ar (nI k))]) (rest := [.int (x1 * (4 : Int32))]) (wr := ([(rh, .inr (1, [.ref rv, .ref ra])), (rv, .inl (G.2.1, 3, .inl vr)), (ra, .inl (G.2.1, 3, .inl ar))] : va_W)) (w1 := fun _ : Unit => ([] : va_W)) (wj := fun _ : Unit => (w_X1 G rh rv ra vr ar)) F (c_X3_oneIf l G (f_X1_emptyAt ar (nI k))) gX1_look_X3_oneIf_n39 (hK.2.1 _ (List.mem_of_getElem? (i := 0) rfl)) (hts (.initialized RX3) (by decide +kernel)) (hts (.static yX3_oneIf) (by decide +kernel)) rfl rfl rfl zd_X3_oneIf ⟨Nat.le_of_ble_eq_true rfl, Nat.le_of_ble_eq_true rfl⟩ rfl rfl (Nat.le_of_ble_eq_true rfl) dX1_look_17 ⟨Nat.le_of_ble_eq_true rfl, Nat.le_of_ble_eq_true rfl⟩ hK hP hD hS hA hl.1 [] [0, 1, 2] [0, 1, 2] rfl rfl rfl rfl (by decide) rfl (fun _ => rfl) (fun _ H locs hP hD hS => ?_)
      have hP : va_P G.1 vwCl (w_X1 G rh rv ra vr ar) H := hP
      have hD : va_D A (w_X1 G rh rv ra vr ar) := hD
      refine lv_iconst (v := (2 : Int32)) hx hb dX1_look_20 (by decide) ?_
      refine lv_imul hx hb dX1_look_21 ?_
      refine lv_iadd hx hb dX1_look_22 ?_
      refine lv_aload_n hx hb dX1_look_23 rfl (lv_at hl 0 rfl) ?_
      refine lv_iload_n hx hb dX1_look_24 rfl (lv_at hl 2 rfl) ?_
      refine z_callV (As := [.int (nI k)]) (rest := [.int ((x1 * (4 : Int32)) + ((f_X3_oneIf (f_X1_emptyAt ar (nI k))) * (2 : Int32)))]) (wr := ([] : va_W)) (w1 := fun _ : Unit => (w_X1 G rh rv ra vr ar)) (wj := fun _ : Unit => (w_X1 G rh rv ra vr ar)) (ci := 1) (q0 := 0) F (c_X1_fullAt l G rh rv ra vr ar (nI k)) gX1_look_X1_fullAt rfl rfl rfl zd_X1_fullAt ⟨Nat.le_of_ble_eq_true rfl, Nat.le_of_ble_eq_true rfl⟩ rfl rfl (Nat.le_of_ble_eq_true rfl) dX1_look_25 ⟨Nat.le_of_ble_eq_true rfl, Nat.le_of_ble_eq_true rfl⟩ hK hP hD hS hA hl.1 rfl rfl [0, 1, 2] [] [0, 1, 2] rfl rfl rfl rfl (by decide) rfl (fun _ => rfl) (fun _ H locs hP hD hS => ?_)
      have hP : va_P G.1 vwCl (w_X1 G rh rv ra vr ar) H := hP
      have hD : va_D A (w_X1 G rh rv ra vr ar) := hD
      refine z_callSN (host := "JarRiddle") (As := [.int (f_X1_fullAt vr ar (nI k))]) (rest := [.int ((x1 * (4 : Int32)) + ((f_X3_oneIf (f_X1_emptyAt ar (nI k))) * (2 : Int32)))]) (wr := ([(rh, .inr (1, [.ref rv, .ref ra])), (rv, .inl (G.2.1, 3, .inl vr)), (ra, .inl (G.2.1, 3, .inl ar))] : va_W)) (w1 := fun _ : Unit => ([] : va_W)) (wj := fun _ : Unit => (w_X1 G rh rv ra vr ar)) F (c_X3_oneIf l G (f_X1_fullAt vr ar (nI k))) gX1_look_X3_oneIf_n39 (hK.2.1 _ (List.mem_of_getElem? (i := 0) rfl)) (hts (.initialized RX3) (by decide +kernel)) (hts (.static yX3_oneIf) (by decide +kernel)) rfl rfl rfl zd_X3_oneIf ⟨Nat.le_of_ble_eq_true rfl, Nat.le_of_ble_eq_true rfl⟩ rfl rfl (Nat.le_of_ble_eq_true rfl) dX1_look_28 ⟨Nat.le_of_ble_eq_true rfl, Nat.le_of_ble_eq_true rfl⟩ hK hP hD hS hA hl.1 [] [0, 1, 2] [0, 1, 2] rfl rfl rfl rfl (by decide) rfl (fun _ => rfl) (fun _ H locs hP hD hS => ?_)
      have hP : va_P G.1 vwCl (w_X1 G rh rv ra vr ar) H := hP
      have hD : va_D A (w_X1 G rh rv ra vr ar) := hD
      refine lv_iadd hx hb dX1_look_31 ?_
      refine lv_istore_n (lv' := [(1, .int (((x1 * (4 : Int32)) + ((f_X3_oneIf (f_X1_emptyAt ar (nI k))) * (2 : Int32))) + (f_X3_oneIf (f_X1_fullAt vr ar (nI k))))), (0, .ref rh), (2, .int (nI k))]) hx hb dX1_look_32 rfl hl (by decide) rfl (fun ls hl => ?_)
      refine lv_iinc (v := (nI (k + 1))) (lv' := [(2, .int (nI (k + 1))), (1, .int (((x1 * (4 : Int32)) + ((f_X3_oneIf (f_X1_emptyAt ar (nI k))) * (2 : Int32))) + (f_X3_oneIf (f_X1_fullAt vr ar (nI k))))), (0, .ref rh)]) hx hb dX1_look_33 hl (k := 2) rfl (nI_1 k) (by decide) rfl (fun ls hl => ?_)
      refine lv_goto (tgt := 4) hx hb dX1_look_36 (by decide) ?_
      have e9 : (lf_X1_look_4 (n + 1) k vr ar x1) = (lf_X1_look_4 n (k + 1) vr ar (((x1 * (4 : Int32)) + ((f_X3_oneIf (f_X1_emptyAt ar (nI k))) * (2 : Int32))) + (f_X3_oneIf (f_X1_fullAt vr ar (nI k))))) := (lf_X1_look_4_succ n k vr ar x1).trans ((if_neg c_1).trans (rfl))
      rw [e9] at kk
      have h9 := zk_lt (N := 3) (by omega) rfl c_1
      exact IH9 (k + 1) vr ar (((x1 * (4 : Int32)) + ((f_X3_oneIf (f_X1_emptyAt ar (nI k))) * (2 : Int32))) + (f_X3_oneIf (f_X1_fullAt vr ar (nI k)))) (by omega) (by omega) H locs ls hP hD hS (lv_sub hl [2, 1, 0] rfl) kk
set_option maxHeartbeats 4000000 in
set_option maxRecDepth 100000 in
/-- JarRiddle$Row.look()I -/
theorem c_X1_look (l : Launch) (G : zG) (rh rv ra : Nat) (vr : Nat → Int32) (ar : Nat → Int32) : zC l G yX1_look wsX1_look rm_X1_look 0 0 [.ref rh] (w_X1 G rh rv ra vr ar) (some (.int (f_X1_look vr ar))) (fun _ : Unit => (w_X1 G rh rv ra vr ar)) := by
  refine z_of (cc := cX1_look) (maxL := 3) (ret := (some .int)) (own := RX1) (by decide) rfl rfl (Nat.le_of_ble_eq_true rfl) ?_
  intro p e s m args below meth c A H locs ls F hr hlocks hname hK hA hP hD hS hl
  obtain ⟨hx, hb, hml, hown, hts⟩ := id F
  have hl : lv_has ls 3 [(0, .ref rh)] := hl
  refine lv_iconst (v := (0 : Int32)) hx hb dX1_look_0 (by decide) ?_
  refine lv_istore_n (lv' := [(1, .int (0 : Int32)), (0, .ref rh)]) hx hb dX1_look_1 rfl hl (by decide) rfl (fun ls hl => ?_)
  refine lv_iconst (v := (0 : Int32)) hx hb dX1_look_2 (by decide) ?_
  refine lv_istore_n (lv' := [(2, .int (0 : Int32)), (1, .int (0 : Int32)), (0, .ref rh)]) hx hb dX1_look_3 rfl hl (by decide) rfl (fun ls hl => ?_)
  refine l_X1_look_4 F hr hlocks hK hA rh rv ra 4 0 vr ar (0 : Int32) (by omega) (by omega) H locs ls hP hD hS (lv_sub hl [2, 1, 0] rfl) ?_
  intro H locs ls hP hD hS hl
  have hP : va_P G.1 vwCl (w_X1 G rh rv ra vr ar) H := hP
  have hD : va_D A (w_X1 G rh rv ra vr ar) := hD
  have hl : lv_has ls 3 [(1, .int (lf_X1_look_4 4 0 vr ar (0 : Int32)))] := hl
  refine lv_iload_n hx hb dX1_look_39 rfl (lv_at hl 0 rfl) ?_
  have e9 : (f_X1_look vr ar) = (lf_X1_look_4 4 0 vr ar (0 : Int32)) := (f_X1_look_eq vr ar).trans (rfl)
  rw [e9]
  exact z_iret F hr hlocks hP hD hS () [0, 1, 2] rfl rfl rfl dX1_look_40
def f_X1_allows (vr : Nat → Int32) (p1 : Int32) : Int32 := (if (3 : Int32) ≤ p1 then (if (6 : Int32) ≤ p1 then (if (f_X1_has vr ((p1 - (6 : Int32)) / (3 : Int32))) = (0 : Int32) then (0 : Int32) else (if (f_X1_has vr ((p1 - (6 : Int32)) - (p1 - (6 : Int32)) / (3 : Int32) * (3 : Int32))) = (0 : Int32) then (0 : Int32) else (if ((p1 - (6 : Int32)) / (3 : Int32)) = ((p1 - (6 : Int32)) - (p1 - (6 : Int32)) / (3 : Int32) * (3 : Int32)) then (0 : Int32) else (1 : Int32)))) else (f_X1_has vr (p1 - (3 : Int32)))) else (f_X1_has vr p1))
theorem f_X1_allows_eq (vr : Nat → Int32) (p1 : Int32) : f_X1_allows vr p1 = (if (3 : Int32) ≤ p1 then (if (6 : Int32) ≤ p1 then (if (f_X1_has vr ((p1 - (6 : Int32)) / (3 : Int32))) = (0 : Int32) then (0 : Int32) else (if (f_X1_has vr ((p1 - (6 : Int32)) - (p1 - (6 : Int32)) / (3 : Int32) * (3 : Int32))) = (0 : Int32) then (0 : Int32) else (if ((p1 - (6 : Int32)) / (3 : Int32)) = ((p1 - (6 : Int32)) - (p1 - (6 : Int32)) / (3 : Int32) * (3 : Int32)) then (0 : Int32) else (1 : Int32)))) else (f_X1_has vr (p1 - (3 : Int32)))) else (f_X1_has vr p1)) := rfl
theorem b_X1_allows (vr : Nat → Int32) (p1 : Int32) : zb (f_X1_allows vr p1) := by
  unfold f_X1_allows
  repeat' split
  all_goals first | exact Or.inl rfl | exact Or.inr rfl | exact b_X1_has ..
abbrev rm_X1_allows : Room := { frames := 1, cells := 0, slots := 0, locals := 21 }
theorem zd_X1_allows : yX1_allows.cls = RX1 ∧ yX1_allows.cls ≠ "java/lang/invoke/MethodHandle" ∧ yX1_allows.cls ≠ "java/lang/invoke/VarHandle" ∧ (parseMethodDescriptor yX1_allows.desc).map (fun d => d.parameters.length) = some 1 := by decide +kernel
set_option maxHeartbeats 4000000 in
set_option maxRecDepth 100000 in
/-- JarRiddle$Row.allows(I)Z -/
theorem c_X1_allows (l : Launch) (G : zG) (rh rv ra : Nat) (vr : Nat → Int32) (ar : Nat → Int32) (p1 : Int32) : zC l G yX1_allows wsX1_allows rm_X1_allows 0 0 [.ref rh, .int p1] (w_X1 G rh rv ra vr ar) (some (.int (f_X1_allows vr p1))) (fun _ : Unit => (w_X1 G rh rv ra vr ar)) := by
  refine z_of (cc := cX1_allows) (maxL := 4) (ret := (some .boolean)) (own := RX1) (by decide) rfl rfl (Nat.le_of_ble_eq_true rfl) ?_
  intro p e s m args below meth c A H locs ls F hr hlocks hname hK hA hP hD hS hl
  obtain ⟨hx, hb, hml, hown, hts⟩ := id F
  have hl : lv_has ls 4 [(0, .ref rh), (1, .int p1)] := hl
  refine lv_iload_n hx hb dX1_allows_0 rfl (lv_at hl 1 rfl) ?_
  refine lv_iconst (v := (3 : Int32)) hx hb dX1_allows_1 (by decide) ?_
  refine lv_icmp_ge (tgt := 11) hx hb dX1_allows_2 (by decide) (fun (c_1 : (3 : Int32) ≤ p1) => ?_) (fun (c_1 : ¬ (3 : Int32) ≤ p1) => ?_)
  · refine lv_iload_n hx hb dX1_allows_11 rfl (lv_at hl 1 rfl) ?_
    refine lv_bipush (v := (6 : Int32)) hx hb dX1_allows_12 (by decide) ?_
    refine lv_icmp_ge (tgt := 25) hx hb dX1_allows_14 (by decide) (fun (c_2 : (6 : Int32) ≤ p1) => ?_) (fun (c_2 : ¬ (6 : Int32) ≤ p1) => ?_)
    · refine lv_iload_n hx hb dX1_allows_25 rfl (lv_at hl 1 rfl) ?_
      refine lv_bipush (v := (6 : Int32)) hx hb dX1_allows_26 (by decide) ?_
      refine lv_isub hx hb dX1_allows_28 ?_
      refine lv_iconst (v := (3 : Int32)) hx hb dX1_allows_29 (by decide) ?_
      refine lv_idiv hx hb dX1_allows_30 (by decide) ?_
      refine lv_istore_n (lv' := [(2, .int ((p1 - (6 : Int32)) / (3 : Int32))), (0, .ref rh), (1, .int p1)]) hx hb dX1_allows_31 rfl hl (by decide) rfl (fun ls hl => ?_)
      refine lv_iload_n hx hb dX1_allows_32 rfl (lv_at hl 2 rfl) ?_
      refine lv_bipush (v := (6 : Int32)) hx hb dX1_allows_33 (by decide) ?_
      refine lv_isub hx hb dX1_allows_35 ?_
      refine lv_iconst (v := (3 : Int32)) hx hb dX1_allows_36 (by decide) ?_
      refine lv_irem hx hb dX1_allows_37 (by decide) ?_
      refine lv_istore_n (lv' := [(3, .int ((p1 - (6 : Int32)) - (p1 - (6 : Int32)) / (3 : Int32) * (3 : Int32))), (2, .int ((p1 - (6 : Int32)) / (3 : Int32))), (0, .ref rh), (1, .int p1)]) hx hb dX1_allows_38 rfl hl (by decide) rfl (fun ls hl => ?_)
      refine lv_aload_n hx hb dX1_allows_39 rfl (lv_at hl 2 rfl) ?_
      refine lv_iload_n hx hb dX1_allows_40 rfl (lv_at hl 1 rfl) ?_
      refine z_callV (As := [.int ((p1 - (6 : Int32)) / (3 : Int32))]) (rest := []) (wr := ([] : va_W)) (w1 := fun _ : Unit => (w_X1 G rh rv ra vr ar)) (wj := fun _ : Unit => (w_X1 G rh rv ra vr ar)) (ci := 1) (q0 := 0) F (c_X1_has l G rh rv ra vr ar ((p1 - (6 : Int32)) / (3 : Int32))) gX1_allows_X1_has rfl rfl rfl zd_X1_has ⟨Nat.le_of_ble_eq_true rfl, Nat.le_of_ble_eq_true rfl⟩ rfl rfl (Nat.le_of_ble_eq_true rfl) dX1_allows_41 ⟨Nat.le_of_ble_eq_true rfl, Nat.le_of_ble_eq_true rfl⟩ hK hP hD hS hA hl.1 rfl rfl [0, 1, 2] [] [0, 1, 2] rfl rfl rfl rfl (by decide) rfl (fun _ => rfl) (fun _ H locs hP hD hS => ?_)
      have hP : va_P G.1 vwCl (w_X1 G rh rv ra vr ar) H := hP
      have hD : va_D A (w_X1 G rh rv ra vr ar) := hD
      refine lv_if_eq (tgt := 64) hx hb dX1_allows_44 (by decide) (fun (c_3 : (f_X1_has vr ((p1 - (6 : Int32)) / (3 : Int32))) = (0 : Int32)) => ?_) (fun (c_3 : ¬ (f_X1_has vr ((p1 - (6 : Int32)) / (3 : Int32))) = (0 : Int32)) => ?_)
      · refine lv_iconst (v := (0 : Int32)) hx hb dX1_allows_64 (by decide) ?_
        have e9 : (f_X1_allows vr p1) = (0 : Int32) := (f_X1_allows_eq vr p1).trans ((if_pos c_1).trans ((if_pos c_2).trans ((if_pos c_3).trans (rfl))))
        rw [e9]
        exact z_zret F hr hlocks hP hD hS () [0, 1, 2] rfl rfl rfl rfl dX1_allows_65
      · refine lv_aload_n hx hb dX1_allows_47 rfl (lv_at hl 2 rfl) ?_
        refine lv_iload_n hx hb dX1_allows_48 rfl (lv_at hl 0 rfl) ?_
        refine z_callV (As := [.int ((p1 - (6 : Int32)) - (p1 - (6 : Int32)) / (3 : Int32) * (3 : Int32))]) (rest := []) (wr := ([] : va_W)) (w1 := fun _ : Unit => (w_X1 G rh rv ra vr ar)) (wj := fun _ : Unit => (w_X1 G rh rv ra vr ar)) (ci := 1) (q0 := 0) F (c_X1_has l G rh rv ra vr ar ((p1 - (6 : Int32)) - (p1 - (6 : Int32)) / (3 : Int32) * (3 : Int32))) gX1_allows_X1_has rfl rfl rfl zd_X1_has ⟨Nat.le_of_ble_eq_true rfl, Nat.le_of_ble_eq_true rfl⟩ rfl rfl (Nat.le_of_ble_eq_true rfl) dX1_allows_49 ⟨Nat.le_of_ble_eq_true rfl, Nat.le_of_ble_eq_true rfl⟩ hK hP hD hS hA hl.1 rfl rfl [0, 1, 2] [] [0, 1, 2] rfl rfl rfl rfl (by decide) rfl (fun _ => rfl) (fun _ H locs hP hD hS => ?_)
        have hP : va_P G.1 vwCl (w_X1 G rh rv ra vr ar) H := hP
        have hD : va_D A (w_X1 G rh rv ra vr ar) := hD
        refine lv_if_eq (tgt := 64) hx hb dX1_allows_52 (by decide) (fun (c_4 : (f_X1_has vr ((p1 - (6 : Int32)) - (p1 - (6 : Int32)) / (3 : Int32) * (3 : Int32))) = (0 : Int32)) => ?_) (fun (c_4 : ¬ (f_X1_has vr ((p1 - (6 : Int32)) - (p1 - (6 : Int32)) / (3 : Int32) * (3 : Int32))) = (0 : Int32)) => ?_)
        · refine lv_iconst (v := (0 : Int32)) hx hb dX1_allows_64 (by decide) ?_
          have e9 : (f_X1_allows vr p1) = (0 : Int32) := (f_X1_allows_eq vr p1).trans ((if_pos c_1).trans ((if_pos c_2).trans ((if_neg c_3).trans ((if_pos c_4).trans (rfl)))))
          rw [e9]
          exact z_zret F hr hlocks hP hD hS () [0, 1, 2] rfl rfl rfl rfl dX1_allows_65
        · refine lv_iload_n hx hb dX1_allows_55 rfl (lv_at hl 1 rfl) ?_
          refine lv_iload_n hx hb dX1_allows_56 rfl (lv_at hl 0 rfl) ?_
          refine lv_icmp_eq (tgt := 64) hx hb dX1_allows_57 (by decide) (fun (c_5 : ((p1 - (6 : Int32)) / (3 : Int32)) = ((p1 - (6 : Int32)) - (p1 - (6 : Int32)) / (3 : Int32) * (3 : Int32))) => ?_) (fun (c_5 : ¬ ((p1 - (6 : Int32)) / (3 : Int32)) = ((p1 - (6 : Int32)) - (p1 - (6 : Int32)) / (3 : Int32) * (3 : Int32))) => ?_)
          · refine lv_iconst (v := (0 : Int32)) hx hb dX1_allows_64 (by decide) ?_
            have e9 : (f_X1_allows vr p1) = (0 : Int32) := (f_X1_allows_eq vr p1).trans ((if_pos c_1).trans ((if_pos c_2).trans ((if_neg c_3).trans ((if_neg c_4).trans ((if_pos c_5).trans (rfl))))))
            rw [e9]
            exact z_zret F hr hlocks hP hD hS () [0, 1, 2] rfl rfl rfl rfl dX1_allows_65
          · refine lv_iconst (v := (1 : Int32)) hx hb dX1_allows_60 (by decide) ?_
            refine lv_goto (tgt := 65) hx hb dX1_allows_61 (by decide) ?_
            have e9 : (f_X1_allows vr p1) = (1 : Int32) := (f_X1_allows_eq vr p1).trans ((if_pos c_1).trans ((if_pos c_2).trans ((if_neg c_3).trans ((if_neg c_4).trans ((if_neg c_5).trans (rfl))))))
            rw [e9]
            exact z_zret F hr hlocks hP hD hS () [0, 1, 2] rfl rfl rfl rfl dX1_allows_65
    · refine lv_aload_n hx hb dX1_allows_17 rfl (lv_at hl 0 rfl) ?_
      refine lv_iload_n hx hb dX1_allows_18 rfl (lv_at hl 1 rfl) ?_
      refine lv_iconst (v := (3 : Int32)) hx hb dX1_allows_19 (by decide) ?_
      refine lv_isub hx hb dX1_allows_20 ?_
      refine z_callV (As := [.int (p1 - (3 : Int32))]) (rest := []) (wr := ([] : va_W)) (w1 := fun _ : Unit => (w_X1 G rh rv ra vr ar)) (wj := fun _ : Unit => (w_X1 G rh rv ra vr ar)) (ci := 1) (q0 := 0) F (c_X1_has l G rh rv ra vr ar (p1 - (3 : Int32))) gX1_allows_X1_has rfl rfl rfl zd_X1_has ⟨Nat.le_of_ble_eq_true rfl, Nat.le_of_ble_eq_true rfl⟩ rfl rfl (Nat.le_of_ble_eq_true rfl) dX1_allows_21 ⟨Nat.le_of_ble_eq_true rfl, Nat.le_of_ble_eq_true rfl⟩ hK hP hD hS hA hl.1 rfl rfl [0, 1, 2] [] [0, 1, 2] rfl rfl rfl rfl (by decide) rfl (fun _ => rfl) (fun _ H locs hP hD hS => ?_)
      have hP : va_P G.1 vwCl (w_X1 G rh rv ra vr ar) H := hP
      have hD : va_D A (w_X1 G rh rv ra vr ar) := hD
      have e9 : (f_X1_allows vr p1) = (f_X1_has vr (p1 - (3 : Int32))) := (f_X1_allows_eq vr p1).trans ((if_pos c_1).trans ((if_neg c_2).trans (rfl)))
      rw [e9]
      exact z_zret F hr hlocks hP hD hS () [0, 1, 2] rfl rfl rfl (zb_nar (b_X1_has vr (p1 - (3 : Int32)))) dX1_allows_24
  · refine lv_aload_n hx hb dX1_allows_5 rfl (lv_at hl 0 rfl) ?_
    refine lv_iload_n hx hb dX1_allows_6 rfl (lv_at hl 1 rfl) ?_
    refine z_callV (As := [.int p1]) (rest := []) (wr := ([] : va_W)) (w1 := fun _ : Unit => (w_X1 G rh rv ra vr ar)) (wj := fun _ : Unit => (w_X1 G rh rv ra vr ar)) (ci := 1) (q0 := 0) F (c_X1_has l G rh rv ra vr ar p1) gX1_allows_X1_has rfl rfl rfl zd_X1_has ⟨Nat.le_of_ble_eq_true rfl, Nat.le_of_ble_eq_true rfl⟩ rfl rfl (Nat.le_of_ble_eq_true rfl) dX1_allows_7 ⟨Nat.le_of_ble_eq_true rfl, Nat.le_of_ble_eq_true rfl⟩ hK hP hD hS hA hl.1 rfl rfl [0, 1, 2] [] [0, 1, 2] rfl rfl rfl rfl (by decide) rfl (fun _ => rfl) (fun _ H locs hP hD hS => ?_)
    have hP : va_P G.1 vwCl (w_X1 G rh rv ra vr ar) H := hP
    have hD : va_D A (w_X1 G rh rv ra vr ar) := hD
    have e9 : (f_X1_allows vr p1) = (f_X1_has vr p1) := (f_X1_allows_eq vr p1).trans ((if_neg c_1).trans (rfl))
    rw [e9]
    exact z_zret F hr hlocks hP hD hS () [0, 1, 2] rfl rfl rfl (zb_nar (b_X1_has vr p1)) dX1_allows_10
def f_X1_add (ar : Nat → Int32) (p1 : Int32) (p2 : Int32) : Int32 × (Nat → Int32) := (if p1 < (0 : Int32) then (p2, ar) else (if (3 : Int32) ≤ p1 then (p2, ar) else (p2, (upd ar p1.toNatClampNeg ((ar p1.toNatClampNeg) + p2)))))
theorem f_X1_add_eq (ar : Nat → Int32) (p1 : Int32) (p2 : Int32) : f_X1_add ar p1 p2 = (if p1 < (0 : Int32) then (p2, ar) else (if (3 : Int32) ≤ p1 then (p2, ar) else (p2, (upd ar p1.toNatClampNeg ((ar p1.toNatClampNeg) + p2))))) := rfl
abbrev rm_X1_add : Room := { frames := 0, cells := 0, slots := 0, locals := 0 }
theorem zd_X1_add : yX1_add.cls = RX1 ∧ yX1_add.cls ≠ "java/lang/invoke/MethodHandle" ∧ yX1_add.cls ≠ "java/lang/invoke/VarHandle" ∧ (parseMethodDescriptor yX1_add.desc).map (fun d => d.parameters.length) = some 2 := by decide +kernel
theorem in_X1_add_X1 : ∀ w ∈ u_ws RX1 TX1 2, w ∈ wsX1_add := by decide +kernel
set_option maxHeartbeats 4000000 in
set_option maxRecDepth 100000 in
/-- JarRiddle$Row.add(II)I -/
theorem c_X1_add (l : Launch) (G : zG) (rh rv ra : Nat) (vr : Nat → Int32) (ar : Nat → Int32) (p1 : Int32) (p2 : Int32) : zC l G yX1_add wsX1_add rm_X1_add 0 0 [.ref rh, .int p1, .int p2] (w_X1 G rh rv ra vr ar) (some (.int (f_X1_add ar p1 p2).1)) (fun _ : Unit => (w_X1 G rh rv ra vr ((f_X1_add ar p1 p2).2))) := by
  refine z_of (cc := cX1_add) (maxL := 3) (ret := (some .int)) (own := RX1) (by decide) rfl rfl (Nat.le_of_ble_eq_true rfl) ?_
  intro p e s m args below meth c A H locs ls F hr hlocks hname hK hA hP hD hS hl
  obtain ⟨hx, hb, hml, hown, hts⟩ := id F
  have hl : lv_has ls 3 [(0, .ref rh), (1, .int p1), (2, .int p2)] := hl
  refine lv_iload_n hx hb dX1_add_0 rfl (lv_at hl 1 rfl) ?_
  refine lv_if_lt (tgt := 23) hx hb dX1_add_1 (by decide) (fun (c_1 : p1 < (0 : Int32)) => ?_) (fun (c_1 : ¬ p1 < (0 : Int32)) => ?_)
  · refine lv_iload_n hx hb dX1_add_23 rfl (lv_at hl 2 rfl) ?_
    have e9 : (f_X1_add ar p1 p2) = (p2, ar) := (f_X1_add_eq ar p1 p2).trans ((if_pos c_1).trans (rfl))
    rw [e9]
    dsimp only
    exact z_iret F hr hlocks hP hD hS () [0, 1, 2] rfl rfl rfl dX1_add_24
  · refine lv_iload_n hx hb dX1_add_4 rfl (lv_at hl 1 rfl) ?_
    refine lv_aload_n hx hb dX1_add_5 rfl (lv_at hl 0 rfl) ?_
    refine va_get (D := G.1) (ci := 1) (v := .ref ra) (C := RX1) (T := TX1) (N := 2) hx hb hts in_X1_add_X1 hown hK.1 hP 0 rfl rfl 1 (by decide) (hts (.fieldLink RX1 15 "JarRiddle$Row" "amount" "[I") (by decide +kernel)) (fun _ h9 => h9) rfl dX1_add_6 ?_
    refine va_alen (v := (3 : Int32)) hx hb hK.1 hP 2 0 rfl rfl rfl dX1_add_9 ?_
    refine lv_icmp_ge (tgt := 23) hx hb dX1_add_10 (by decide) (fun (c_2 : (3 : Int32) ≤ p1) => ?_) (fun (c_2 : ¬ (3 : Int32) ≤ p1) => ?_)
    · refine lv_iload_n hx hb dX1_add_23 rfl (lv_at hl 2 rfl) ?_
      have e9 : (f_X1_add ar p1 p2) = (p2, ar) := (f_X1_add_eq ar p1 p2).trans ((if_neg c_1).trans ((if_pos c_2).trans (rfl)))
      rw [e9]
      dsimp only
      exact z_iret F hr hlocks hP hD hS () [0, 1, 2] rfl rfl rfl dX1_add_24
    · refine lv_aload_n hx hb dX1_add_13 rfl (lv_at hl 0 rfl) ?_
      refine va_get (D := G.1) (ci := 1) (v := .ref ra) (C := RX1) (T := TX1) (N := 2) hx hb hts in_X1_add_X1 hown hK.1 hP 0 rfl rfl 1 (by decide) (hts (.fieldLink RX1 15 "JarRiddle$Row" "amount" "[I") (by decide +kernel)) (fun _ h9 => h9) rfl dX1_add_14 ?_
      refine lv_iload_n hx hb dX1_add_17 rfl (lv_at hl 1 rfl) ?_
      refine lv_dup2_11 hx hb dX1_add_18 rfl rfl ?_
      refine va_iald hx hb hK.1 hP 2 0 rfl rfl (zk_in (N := 3) rfl c_1 c_2) dX1_add_19 ?_
      refine lv_iload_n hx hb dX1_add_20 rfl (lv_at hl 2 rfl) ?_
      refine lv_iadd hx hb dX1_add_21 ?_
      refine va_iast hx hb hK.1 hP hD hS 2 0 rfl rfl (zk_in (N := 3) rfl c_1 c_2) dX1_add_22 (fun H locs hP hD hS => ?_)
      have hP : va_P G.1 vwCl (w_X1 G rh rv ra vr (upd ar p1.toNatClampNeg ((ar p1.toNatClampNeg) + p2))) H := hP
      have hD : va_D A (w_X1 G rh rv ra vr (upd ar p1.toNatClampNeg ((ar p1.toNatClampNeg) + p2))) := hD
      refine lv_iload_n hx hb dX1_add_23 rfl (lv_at hl 2 rfl) ?_
      have e9 : (f_X1_add ar p1 p2) = (p2, (upd ar p1.toNatClampNeg ((ar p1.toNatClampNeg) + p2))) := (f_X1_add_eq ar p1 p2).trans ((if_neg c_1).trans ((if_neg c_2).trans (rfl)))
      rw [e9]
      dsimp only
      exact z_iret F hr hlocks hP hD hS () [0, 1, 2] rfl rfl rfl dX1_add_24
def f_X1_change_t1 (vr : Nat → Int32) (ar : Nat → Int32) (p1 : Int32) : Int32 := (if ((f_X1_volumeAt vr ((p1 - (6 : Int32)) - (p1 - (6 : Int32)) / (3 : Int32) * (3 : Int32))) - (f_X1_amountAt ar ((p1 - (6 : Int32)) - (p1 - (6 : Int32)) / (3 : Int32) * (3 : Int32)))) < (f_X1_amountAt ar ((p1 - (6 : Int32)) / (3 : Int32))) then ((f_X1_volumeAt vr ((p1 - (6 : Int32)) - (p1 - (6 : Int32)) / (3 : Int32) * (3 : Int32))) - (f_X1_amountAt ar ((p1 - (6 : Int32)) - (p1 - (6 : Int32)) / (3 : Int32) * (3 : Int32)))) else (f_X1_amountAt ar ((p1 - (6 : Int32)) / (3 : Int32))))
def f_X1_change_t2 (vr : Nat → Int32) (ar : Nat → Int32) (p1 : Int32) : Nat → Int32 := (f_X1_add ((f_X1_add ar ((p1 - (6 : Int32)) / (3 : Int32)) (-(f_X1_change_t1 vr ar p1))).2) ((p1 - (6 : Int32)) - (p1 - (6 : Int32)) / (3 : Int32) * (3 : Int32)) (f_X1_change_t1 vr ar p1)).2
def f_X1_change_t3 (vr : Nat → Int32) (ar : Nat → Int32) (p1 : Int32) : Int32 := (f_X1_add ((f_X1_add ar ((p1 - (6 : Int32)) / (3 : Int32)) (-(f_X1_change_t1 vr ar p1))).2) ((p1 - (6 : Int32)) - (p1 - (6 : Int32)) / (3 : Int32) * (3 : Int32)) (f_X1_change_t1 vr ar p1)).1
def f_X1_change (vr : Nat → Int32) (ar : Nat → Int32) (p1 : Int32) : Int32 × (Nat → Int32) := (if (3 : Int32) ≤ p1 then (if (6 : Int32) ≤ p1 then ((f_X1_change_t3 vr ar p1), (f_X1_change_t2 vr ar p1)) else ((-(f_X1_add ar (p1 - (3 : Int32)) (-(f_X1_amountAt ar (p1 - (3 : Int32))))).1), (f_X1_add ar (p1 - (3 : Int32)) (-(f_X1_amountAt ar (p1 - (3 : Int32))))).2)) else ((f_X1_add ar p1 ((f_X1_volumeAt vr p1) - (f_X1_amountAt ar p1))).1, (f_X1_add ar p1 ((f_X1_volumeAt vr p1) - (f_X1_amountAt ar p1))).2))
theorem f_X1_change_eq (vr : Nat → Int32) (ar : Nat → Int32) (p1 : Int32) : f_X1_change vr ar p1 = (if (3 : Int32) ≤ p1 then (if (6 : Int32) ≤ p1 then ((f_X1_change_t3 vr ar p1), (f_X1_change_t2 vr ar p1)) else ((-(f_X1_add ar (p1 - (3 : Int32)) (-(f_X1_amountAt ar (p1 - (3 : Int32))))).1), (f_X1_add ar (p1 - (3 : Int32)) (-(f_X1_amountAt ar (p1 - (3 : Int32))))).2)) else ((f_X1_add ar p1 ((f_X1_volumeAt vr p1) - (f_X1_amountAt ar p1))).1, (f_X1_add ar p1 ((f_X1_volumeAt vr p1) - (f_X1_amountAt ar p1))).2)) := rfl
abbrev rm_X1_change : Room := { frames := 1, cells := 0, slots := 0, locals := 22 }
theorem zd_X1_change : yX1_change.cls = RX1 ∧ yX1_change.cls ≠ "java/lang/invoke/MethodHandle" ∧ yX1_change.cls ≠ "java/lang/invoke/VarHandle" ∧ (parseMethodDescriptor yX1_change.desc).map (fun d => d.parameters.length) = some 1 := by decide +kernel
set_option maxHeartbeats 4000000 in
set_option maxRecDepth 100000 in
/-- JarRiddle$Row.change(I)I -/
theorem c_X1_change (l : Launch) (G : zG) (rh rv ra : Nat) (vr : Nat → Int32) (ar : Nat → Int32) (p1 : Int32) : zC l G yX1_change wsX1_change rm_X1_change 0 0 [.ref rh, .int p1] (w_X1 G rh rv ra vr ar) (some (.int (f_X1_change vr ar p1).1)) (fun _ : Unit => (w_X1 G rh rv ra vr ((f_X1_change vr ar p1).2))) := by
  refine z_of (cc := cX1_change) (maxL := 5) (ret := (some .int)) (own := RX1) (by decide) rfl rfl (Nat.le_of_ble_eq_true rfl) ?_
  intro p e s m args below meth c A H locs ls F hr hlocks hname hK hA hP hD hS hl
  obtain ⟨hx, hb, hml, hown, hts⟩ := id F
  have hl : lv_has ls 5 [(0, .ref rh), (1, .int p1)] := hl
  refine lv_iload_n hx hb dX1_change_0 rfl (lv_at hl 1 rfl) ?_
  refine lv_iconst (v := (3 : Int32)) hx hb dX1_change_1 (by decide) ?_
  refine lv_icmp_ge (tgt := 22) hx hb dX1_change_2 (by decide) (fun (c_1 : (3 : Int32) ≤ p1) => ?_) (fun (c_1 : ¬ (3 : Int32) ≤ p1) => ?_)
  · refine lv_iload_n hx hb dX1_change_22 rfl (lv_at hl 1 rfl) ?_
    refine lv_bipush (v := (6 : Int32)) hx hb dX1_change_23 (by decide) ?_
    refine lv_icmp_ge (tgt := 45) hx hb dX1_change_25 (by decide) (fun (c_2 : (6 : Int32) ≤ p1) => ?_) (fun (c_2 : ¬ (6 : Int32) ≤ p1) => ?_)
    · refine lv_iload_n hx hb dX1_change_45 rfl (lv_at hl 1 rfl) ?_
      refine lv_bipush (v := (6 : Int32)) hx hb dX1_change_46 (by decide) ?_
      refine lv_isub hx hb dX1_change_48 ?_
      refine lv_iconst (v := (3 : Int32)) hx hb dX1_change_49 (by decide) ?_
      refine lv_idiv hx hb dX1_change_50 (by decide) ?_
      refine lv_istore_n (lv' := [(2, .int ((p1 - (6 : Int32)) / (3 : Int32))), (0, .ref rh), (1, .int p1)]) hx hb dX1_change_51 rfl hl (by decide) rfl (fun ls hl => ?_)
      refine lv_iload_n hx hb dX1_change_52 rfl (lv_at hl 2 rfl) ?_
      refine lv_bipush (v := (6 : Int32)) hx hb dX1_change_53 (by decide) ?_
      refine lv_isub hx hb dX1_change_55 ?_
      refine lv_iconst (v := (3 : Int32)) hx hb dX1_change_56 (by decide) ?_
      refine lv_irem hx hb dX1_change_57 (by decide) ?_
      refine lv_istore_n (lv' := [(3, .int ((p1 - (6 : Int32)) - (p1 - (6 : Int32)) / (3 : Int32) * (3 : Int32))), (2, .int ((p1 - (6 : Int32)) / (3 : Int32))), (0, .ref rh), (1, .int p1)]) hx hb dX1_change_58 rfl hl (by decide) rfl (fun ls hl => ?_)
      refine lv_aload_n hx hb dX1_change_59 rfl (lv_at hl 2 rfl) ?_
      refine lv_iload_n hx hb dX1_change_60 rfl (lv_at hl 1 rfl) ?_
      refine z_callV (As := [.int ((p1 - (6 : Int32)) / (3 : Int32))]) (rest := []) (wr := ([] : va_W)) (w1 := fun _ : Unit => (w_X1 G rh rv ra vr ar)) (wj := fun _ : Unit => (w_X1 G rh rv ra vr ar)) (ci := 1) (q0 := 0) F (c_X1_amountAt l G rh rv ra vr ar ((p1 - (6 : Int32)) / (3 : Int32))) gX1_change_X1_amountAt rfl rfl rfl zd_X1_amountAt ⟨Nat.le_of_ble_eq_true rfl, Nat.le_of_ble_eq_true rfl⟩ rfl rfl (Nat.le_of_ble_eq_true rfl) dX1_change_61 ⟨Nat.le_of_ble_eq_true rfl, Nat.le_of_ble_eq_true rfl⟩ hK hP hD hS hA hl.1 rfl rfl [0, 1, 2] [] [0, 1, 2] rfl rfl rfl rfl (by decide) rfl (fun _ => rfl) (fun _ H locs hP hD hS => ?_)
      have hP : va_P G.1 vwCl (w_X1 G rh rv ra vr ar) H := hP
      have hD : va_D A (w_X1 G rh rv ra vr ar) := hD
      refine lv_aload_n hx hb dX1_change_64 rfl (lv_at hl 2 rfl) ?_
      refine lv_iload_n hx hb dX1_change_65 rfl (lv_at hl 0 rfl) ?_
      refine z_callV (As := [.int ((p1 - (6 : Int32)) - (p1 - (6 : Int32)) / (3 : Int32) * (3 : Int32))]) (rest := [.int (f_X1_amountAt ar ((p1 - (6 : Int32)) / (3 : Int32)))]) (wr := ([] : va_W)) (w1 := fun _ : Unit => (w_X1 G rh rv ra vr ar)) (wj := fun _ : Unit => (w_X1 G rh rv ra vr ar)) (ci := 1) (q0 := 0) F (c_X1_volumeAt l G rh rv ra vr ar ((p1 - (6 : Int32)) - (p1 - (6 : Int32)) / (3 : Int32) * (3 : Int32))) gX1_change_X1_volumeAt rfl rfl rfl zd_X1_volumeAt ⟨Nat.le_of_ble_eq_true rfl, Nat.le_of_ble_eq_true rfl⟩ rfl rfl (Nat.le_of_ble_eq_true rfl) dX1_change_66 ⟨Nat.le_of_ble_eq_true rfl, Nat.le_of_ble_eq_true rfl⟩ hK hP hD hS hA hl.1 rfl rfl [0, 1, 2] [] [0, 1, 2] rfl rfl rfl rfl (by decide) rfl (fun _ => rfl) (fun _ H locs hP hD hS => ?_)
      have hP : va_P G.1 vwCl (w_X1 G rh rv ra vr ar) H := hP
      have hD : va_D A (w_X1 G rh rv ra vr ar) := hD
      refine lv_aload_n hx hb dX1_change_69 rfl (lv_at hl 2 rfl) ?_
      refine lv_iload_n hx hb dX1_change_70 rfl (lv_at hl 0 rfl) ?_
      refine z_callV (As := [.int ((p1 - (6 : Int32)) - (p1 - (6 : Int32)) / (3 : Int32) * (3 : Int32))]) (rest := [.int (f_X1_volumeAt vr ((p1 - (6 : Int32)) - (p1 - (6 : Int32)) / (3 : Int32) * (3 : Int32))), .int (f_X1_amountAt ar ((p1 - (6 : Int32)) / (3 : Int32)))]) (wr := ([] : va_W)) (w1 := fun _ : Unit => (w_X1 G rh rv ra vr ar)) (wj := fun _ : Unit => (w_X1 G rh rv ra vr ar)) (ci := 1) (q0 := 0) F (c_X1_amountAt l G rh rv ra vr ar ((p1 - (6 : Int32)) - (p1 - (6 : Int32)) / (3 : Int32) * (3 : Int32))) gX1_change_X1_amountAt rfl rfl rfl zd_X1_amountAt ⟨Nat.le_of_ble_eq_true rfl, Nat.le_of_ble_eq_true rfl⟩ rfl rfl (Nat.le_of_ble_eq_true rfl) dX1_change_71 ⟨Nat.le_of_ble_eq_true rfl, Nat.le_of_ble_eq_true rfl⟩ hK hP hD hS hA hl.1 rfl rfl [0, 1, 2] [] [0, 1, 2] rfl rfl rfl rfl (by decide) rfl (fun _ => rfl) (fun _ H locs hP hD hS => ?_)
      have hP : va_P G.1 vwCl (w_X1 G rh rv ra vr ar) H := hP
      have hD : va_D A (w_X1 G rh rv ra vr ar) := hD
      refine lv_isub hx hb dX1_change_74 ?_
      refine va_mmin hx hb (hml.trans hl.1.symm) hown (hts (.methodLink RX1 53 Lib.Math.min.name) (by decide +kernel)) (hts (.static Lib.Math.min.name) (by decide +kernel)) (hts (.initialized "java/lang/Math") (by decide +kernel)) (hts (.code Lib.Math.min.name Lib.Math.min.code 2 (some .int)) (by decide +kernel)) (Nat.le_of_ble_eq_true rfl) (Nat.le_of_ble_eq_true rfl) (Nat.zero_le _) (Nat.zero_le _) dX1_change_75 ?_
      refine lv_istore (lv' := [(4, .int (f_X1_change_t1 vr ar p1)), (3, .int ((p1 - (6 : Int32)) - (p1 - (6 : Int32)) / (3 : Int32) * (3 : Int32))), (2, .int ((p1 - (6 : Int32)) / (3 : Int32))), (0, .ref rh), (1, .int p1)]) hx hb dX1_change_78 hl (by decide) rfl (fun ls hl => ?_)
      refine lv_aload_n hx hb dX1_change_80 rfl (lv_at hl 3 rfl) ?_
      refine lv_iload_n hx hb dX1_change_81 rfl (lv_at hl 2 rfl) ?_
      refine lv_iload hx hb dX1_change_82 (lv_at hl 0 rfl) ?_
      refine lv_ineg hx hb dX1_change_84 ?_
      refine z_callV (As := [.int ((p1 - (6 : Int32)) / (3 : Int32)), .int (-(f_X1_change_t1 vr ar p1))]) (rest := []) (wr := ([] : va_W)) (w1 := fun _ : Unit => (w_X1 G rh rv ra vr ((f_X1_add ar ((p1 - (6 : Int32)) / (3 : Int32)) (-(f_X1_change_t1 vr ar p1))).2))) (wj := fun _ : Unit => (w_X1 G rh rv ra vr (f_X1_add ar ((p1 - (6 : Int32)) / (3 : Int32)) (-(f_X1_change_t1 vr ar p1))).2)) (ci := 1) (q0 := 0) F (c_X1_add l G rh rv ra vr ar ((p1 - (6 : Int32)) / (3 : Int32)) (-(f_X1_change_t1 vr ar p1))) gX1_change_X1_add rfl rfl rfl zd_X1_add ⟨Nat.le_of_ble_eq_true rfl, Nat.le_of_ble_eq_true rfl⟩ rfl rfl (Nat.le_of_ble_eq_true rfl) dX1_change_85 ⟨Nat.le_of_ble_eq_true rfl, Nat.le_of_ble_eq_true rfl⟩ hK hP hD hS hA hl.1 rfl rfl [0, 1, 2] [] [0, 1, 2] rfl rfl rfl rfl (by decide) rfl (fun _ => rfl) (fun _ H locs hP hD hS => ?_)
      have hP : va_P G.1 vwCl (w_X1 G rh rv ra vr (f_X1_add ar ((p1 - (6 : Int32)) / (3 : Int32)) (-(f_X1_change_t1 vr ar p1))).2) H := hP
      have hD : va_D A (w_X1 G rh rv ra vr (f_X1_add ar ((p1 - (6 : Int32)) / (3 : Int32)) (-(f_X1_change_t1 vr ar p1))).2) := hD
      refine lv_pop hx hb dX1_change_88 rfl ?_
      refine lv_aload_n hx hb dX1_change_89 rfl (lv_at hl 3 rfl) ?_
      refine lv_iload_n hx hb dX1_change_90 rfl (lv_at hl 1 rfl) ?_
      refine lv_iload hx hb dX1_change_91 (lv_at hl 0 rfl) ?_
      refine z_callV (As := [.int ((p1 - (6 : Int32)) - (p1 - (6 : Int32)) / (3 : Int32) * (3 : Int32)), .int (f_X1_change_t1 vr ar p1)]) (rest := []) (wr := ([] : va_W)) (w1 := fun _ : Unit => (w_X1 G rh rv ra vr ((f_X1_add ((f_X1_add ar ((p1 - (6 : Int32)) / (3 : Int32)) (-(f_X1_change_t1 vr ar p1))).2) ((p1 - (6 : Int32)) - (p1 - (6 : Int32)) / (3 : Int32) * (3 : Int32)) (f_X1_change_t1 vr ar p1)).2))) (wj := fun _ : Unit => (w_X1 G rh rv ra vr (f_X1_change_t2 vr ar p1))) (ci := 1) (q0 := 0) F (c_X1_add l G rh rv ra vr ((f_X1_add ar ((p1 - (6 : Int32)) / (3 : Int32)) (-(f_X1_change_t1 vr ar p1))).2) ((p1 - (6 : Int32)) - (p1 - (6 : Int32)) / (3 : Int32) * (3 : Int32)) (f_X1_change_t1 vr ar p1)) gX1_change_X1_add rfl rfl rfl zd_X1_add ⟨Nat.le_of_ble_eq_true rfl, Nat.le_of_ble_eq_true rfl⟩ rfl rfl (Nat.le_of_ble_eq_true rfl) dX1_change_93 ⟨Nat.le_of_ble_eq_true rfl, Nat.le_of_ble_eq_true rfl⟩ hK hP hD hS hA hl.1 rfl rfl [0, 1, 2] [] [0, 1, 2] rfl rfl rfl rfl (by decide) rfl (fun _ => rfl) (fun _ H locs hP hD hS => ?_)
      have hP : va_P G.1 vwCl (w_X1 G rh rv ra vr (f_X1_change_t2 vr ar p1)) H := hP
      have hD : va_D A (w_X1 G rh rv ra vr (f_X1_change_t2 vr ar p1)) := hD
      have e9 : (f_X1_change vr ar p1) = ((f_X1_change_t3 vr ar p1), (f_X1_change_t2 vr ar p1)) := (f_X1_change_eq vr ar p1).trans ((if_pos c_1).trans ((if_pos c_2).trans (rfl)))
      rw [e9]
      dsimp only
      exact z_iret F hr hlocks hP hD hS () [0, 1, 2] rfl rfl rfl dX1_change_96
    · refine lv_iload_n hx hb dX1_change_28 rfl (lv_at hl 1 rfl) ?_
      refine lv_iconst (v := (3 : Int32)) hx hb dX1_change_29 (by decide) ?_
      refine lv_isub hx hb dX1_change_30 ?_
      refine lv_istore_n (lv' := [(2, .int (p1 - (3 : Int32))), (0, .ref rh), (1, .int p1)]) hx hb dX1_change_31 rfl hl (by decide) rfl (fun ls hl => ?_)
      refine lv_aload_n hx hb dX1_change_32 rfl (lv_at hl 1 rfl) ?_
      refine lv_iload_n hx hb dX1_change_33 rfl (lv_at hl 0 rfl) ?_
      refine lv_aload_n hx hb dX1_change_34 rfl (lv_at hl 1 rfl) ?_
      refine lv_iload_n hx hb dX1_change_35 rfl (lv_at hl 0 rfl) ?_
      refine z_callV (As := [.int (p1 - (3 : Int32))]) (rest := [.int (p1 - (3 : Int32)), .ref rh]) (wr := ([] : va_W)) (w1 := fun _ : Unit => (w_X1 G rh rv ra vr ar)) (wj := fun _ : Unit => (w_X1 G rh rv ra vr ar)) (ci := 1) (q0 := 0) F (c_X1_amountAt l G rh rv ra vr ar (p1 - (3 : Int32))) gX1_change_X1_amountAt rfl rfl rfl zd_X1_amountAt ⟨Nat.le_of_ble_eq_true rfl, Nat.le_of_ble_eq_true rfl⟩ rfl rfl (Nat.le_of_ble_eq_true rfl) dX1_change_36 ⟨Nat.le_of_ble_eq_true rfl, Nat.le_of_ble_eq_true rfl⟩ hK hP hD hS hA hl.1 rfl rfl [0, 1, 2] [] [0, 1, 2] rfl rfl rfl rfl (by decide) rfl (fun _ => rfl) (fun _ H locs hP hD hS => ?_)
      have hP : va_P G.1 vwCl (w_X1 G rh rv ra vr ar) H := hP
      have hD : va_D A (w_X1 G rh rv ra vr ar) := hD
      refine lv_ineg hx hb dX1_change_39 ?_
      refine z_callV (As := [.int (p1 - (3 : Int32)), .int (-(f_X1_amountAt ar (p1 - (3 : Int32))))]) (rest := []) (wr := ([] : va_W)) (w1 := fun _ : Unit => (w_X1 G rh rv ra vr ((f_X1_add ar (p1 - (3 : Int32)) (-(f_X1_amountAt ar (p1 - (3 : Int32))))).2))) (wj := fun _ : Unit => (w_X1 G rh rv ra vr (f_X1_add ar (p1 - (3 : Int32)) (-(f_X1_amountAt ar (p1 - (3 : Int32))))).2)) (ci := 1) (q0 := 0) F (c_X1_add l G rh rv ra vr ar (p1 - (3 : Int32)) (-(f_X1_amountAt ar (p1 - (3 : Int32))))) gX1_change_X1_add rfl rfl rfl zd_X1_add ⟨Nat.le_of_ble_eq_true rfl, Nat.le_of_ble_eq_true rfl⟩ rfl rfl (Nat.le_of_ble_eq_true rfl) dX1_change_40 ⟨Nat.le_of_ble_eq_true rfl, Nat.le_of_ble_eq_true rfl⟩ hK hP hD hS hA hl.1 rfl rfl [0, 1, 2] [] [0, 1, 2] rfl rfl rfl rfl (by decide) rfl (fun _ => rfl) (fun _ H locs hP hD hS => ?_)
      have hP : va_P G.1 vwCl (w_X1 G rh rv ra vr (f_X1_add ar (p1 - (3 : Int32)) (-(f_X1_amountAt ar (p1 - (3 : Int32))))).2) H := hP
      have hD : va_D A (w_X1 G rh rv ra vr (f_X1_add ar (p1 - (3 : Int32)) (-(f_X1_amountAt ar (p1 - (3 : Int32))))).2) := hD
      refine lv_ineg hx hb dX1_change_43 ?_
      have e9 : (f_X1_change vr ar p1) = ((-(f_X1_add ar (p1 - (3 : Int32)) (-(f_X1_amountAt ar (p1 - (3 : Int32))))).1), (f_X1_add ar (p1 - (3 : Int32)) (-(f_X1_amountAt ar (p1 - (3 : Int32))))).2) := (f_X1_change_eq vr ar p1).trans ((if_pos c_1).trans ((if_neg c_2).trans (rfl)))
      rw [e9]
      dsimp only
      exact z_iret F hr hlocks hP hD hS () [0, 1, 2] rfl rfl rfl dX1_change_44
  · refine lv_aload_n hx hb dX1_change_5 rfl (lv_at hl 0 rfl) ?_
    refine lv_iload_n hx hb dX1_change_6 rfl (lv_at hl 1 rfl) ?_
    refine lv_aload_n hx hb dX1_change_7 rfl (lv_at hl 0 rfl) ?_
    refine lv_iload_n hx hb dX1_change_8 rfl (lv_at hl 1 rfl) ?_
    refine z_callV (As := [.int p1]) (rest := [.int p1, .ref rh]) (wr := ([] : va_W)) (w1 := fun _ : Unit => (w_X1 G rh rv ra vr ar)) (wj := fun _ : Unit => (w_X1 G rh rv ra vr ar)) (ci := 1) (q0 := 0) F (c_X1_volumeAt l G rh rv ra vr ar p1) gX1_change_X1_volumeAt rfl rfl rfl zd_X1_volumeAt ⟨Nat.le_of_ble_eq_true rfl, Nat.le_of_ble_eq_true rfl⟩ rfl rfl (Nat.le_of_ble_eq_true rfl) dX1_change_9 ⟨Nat.le_of_ble_eq_true rfl, Nat.le_of_ble_eq_true rfl⟩ hK hP hD hS hA hl.1 rfl rfl [0, 1, 2] [] [0, 1, 2] rfl rfl rfl rfl (by decide) rfl (fun _ => rfl) (fun _ H locs hP hD hS => ?_)
    have hP : va_P G.1 vwCl (w_X1 G rh rv ra vr ar) H := hP
    have hD : va_D A (w_X1 G rh rv ra vr ar) := hD
    refine lv_aload_n hx hb dX1_change_12 rfl (lv_at hl 0 rfl) ?_
    refine lv_iload_n hx hb dX1_change_13 rfl (lv_at hl 1 rfl) ?_
    refine z_callV (As := [.int p1]) (rest := [.int (f_X1_volumeAt vr p1), .int p1, .ref rh]) (wr := ([] : va_W)) (w1 := fun _ : Unit => (w_X1 G rh rv ra vr ar)) (wj := fun _ : Unit => (w_X1 G rh rv ra vr ar)) (ci := 1) (q0 := 0) F (c_X1_amountAt l G rh rv ra vr ar p1) gX1_change_X1_amountAt rfl rfl rfl zd_X1_amountAt ⟨Nat.le_of_ble_eq_true rfl, Nat.le_of_ble_eq_true rfl⟩ rfl rfl (Nat.le_of_ble_eq_true rfl) dX1_change_14 ⟨Nat.le_of_ble_eq_true rfl, Nat.le_of_ble_eq_true rfl⟩ hK hP hD hS hA hl.1 rfl rfl [0, 1, 2] [] [0, 1, 2] rfl rfl rfl rfl (by decide) rfl (fun _ => rfl) (fun _ H locs hP hD hS => ?_)
    have hP : va_P G.1 vwCl (w_X1 G rh rv ra vr ar) H := hP
    have hD : va_D A (w_X1 G rh rv ra vr ar) := hD
    refine lv_isub hx hb dX1_change_17 ?_
    refine z_callV (As := [.int p1, .int ((f_X1_volumeAt vr p1) - (f_X1_amountAt ar p1))]) (rest := []) (wr := ([] : va_W)) (w1 := fun _ : Unit => (w_X1 G rh rv ra vr ((f_X1_add ar p1 ((f_X1_volumeAt vr p1) - (f_X1_amountAt ar p1))).2))) (wj := fun _ : Unit => (w_X1 G rh rv ra vr (f_X1_add ar p1 ((f_X1_volumeAt vr p1) - (f_X1_amountAt ar p1))).2)) (ci := 1) (q0 := 0) F (c_X1_add l G rh rv ra vr ar p1 ((f_X1_volumeAt vr p1) - (f_X1_amountAt ar p1))) gX1_change_X1_add rfl rfl rfl zd_X1_add ⟨Nat.le_of_ble_eq_true rfl, Nat.le_of_ble_eq_true rfl⟩ rfl rfl (Nat.le_of_ble_eq_true rfl) dX1_change_18 ⟨Nat.le_of_ble_eq_true rfl, Nat.le_of_ble_eq_true rfl⟩ hK hP hD hS hA hl.1 rfl rfl [0, 1, 2] [] [0, 1, 2] rfl rfl rfl rfl (by decide) rfl (fun _ => rfl) (fun _ H locs hP hD hS => ?_)
    have hP : va_P G.1 vwCl (w_X1 G rh rv ra vr (f_X1_add ar p1 ((f_X1_volumeAt vr p1) - (f_X1_amountAt ar p1))).2) H := hP
    have hD : va_D A (w_X1 G rh rv ra vr (f_X1_add ar p1 ((f_X1_volumeAt vr p1) - (f_X1_amountAt ar p1))).2) := hD
    have e9 : (f_X1_change vr ar p1) = ((f_X1_add ar p1 ((f_X1_volumeAt vr p1) - (f_X1_amountAt ar p1))).1, (f_X1_add ar p1 ((f_X1_volumeAt vr p1) - (f_X1_amountAt ar p1))).2) := (f_X1_change_eq vr ar p1).trans ((if_neg c_1).trans (rfl))
    rw [e9]
    dsimp only
    exact z_iret F hr hlocks hP hD hS () [0, 1, 2] rfl rfl rfl dX1_change_21
