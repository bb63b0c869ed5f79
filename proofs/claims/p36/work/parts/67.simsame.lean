/-! calls where the class stands first and the law's own jars behind it -/
section ZLL
variable {p : Program} {l : Launch} {e : Env} {R : Room} {s : State} {m : MethodId} {args : Array Value} {below : List Frame} {meth : Method} {c9 : Code} {H : Heap} {locs : List Loc} {cells slots : Nat} {Q : State → Prop}
variable {cc bytes : ByteArray} {pc nL maxL mc ms n index : Nat} {ls : Array Slot} {rest st0 : List Value} {A : Nat → Prop} {G : zG} {own : String} {Ts ws ws' : List Cond} {y : MethodName} {ret : Option FieldType} {rm : Room}
variable {a : Nat → Nat} {V X : Nat → Nat} {C : zCs} {t : zU} {c : zS} {SW Pr : va_W} {As : List Value} {rv : Option Value}
/-- the class is called -/
theorem zl_C (F : CallFix p m c9 cc nL s args Ts own) (hM : zC l G y ws rm 0 0 (.ref (a 0) :: As) (zCW3 G a c) rv (zAf G a V X C t)) (hG : GoodIn Ts (wsV own index RX3 y ws)) (hw : ws = Cond.code y bytes maxL ret :: ws') (hrc : rm.cells = 0) (hrs : rm.slots = 0)
    (hd : y.cls = RX3 ∧ y.cls ≠ "java/lang/invoke/MethodHandle" ∧ y.cls ≠ "java/lang/invoke/VarHandle" ∧ (parseMethodDescriptor y.desc).map (fun d => d.parameters.length) = some n) (hR9 : rm.frames + 1 ≤ R.frames ∧ 8 + (maxL + 11) + rm.locals ≤ R.locals)
    (hn9 : As.length = n) (hst : st0 = As.reverse ++ .ref (a 0) :: rest) (hW : (rest.map fun v => v.category).sum ≤ 8) (hdg : decode cc pc = .ok (.invokevirtual index, 3)) (hf9 : cells ≤ R.cells ∧ slots ≤ R.slots)
    (hK : zK G s) (hP : va_P G.1 vwCl (zCW3 G a c ++ SW) H) (hD : va_D A (zCW3 G a c ++ SW)) (hS : va_S A s.heap H locs) (hA : ∀ q : Nat, s.heap.size ≤ q → A q) (hls : ls.size = nL)
    (kk : ∀ (c' : zS) (H1 : Heap) (locs1 : List Loc), zR V X C c' t → va_P G.1 vwCl (zCW3 G a c' ++ SW) H1 → va_D A (zCW3 G a c' ++ SW) → va_S A s.heap H1 locs1 → W p l e R s m args below meth c9 H1 locs1 cells slots Q (F0 m (pc + 3) ls (rv.toList ++ rest))) :
    W p l e R s m args below meth c9 H locs cells slots Q (F0 m pc ls st0) :=
  zr_V (q := (RX3, TX3, 9)) (b := a 0) (q0 := 0) (ci := 3) (As := As) (rest := rest) (wr := SW) F hM.r hG hw hrc hrs hd hR9 hn9 hst hW hdg hf9 hK hP hD hS hA hls rfl rfl (List.Perm.refl _) (fun u H1 locs1 hP hD hS => kk u.1 H1 locs1 u.2 hP hD hS)
/-- the law's own jars are called -/
theorem zl_M {S : Type} {rv : S → Option Value} {w1 : S → va_W} {n9 sh : Nat} {u : zSu}
    (F : CallFix p m c9 cc nL s args Ts own) (hM : zCr l G y ws rm mc ms (.ref sh :: As) (zSW G sh n9 V X t u) rv w1) (hG : GoodIn Ts (wsV own index RX4 y ws)) (hw : ws = Cond.code y bytes maxL ret :: ws') (hrc : rm.cells = mc) (hrs : rm.slots = ms)
    (hd : y.cls = RX4 ∧ y.cls ≠ "java/lang/invoke/MethodHandle" ∧ y.cls ≠ "java/lang/invoke/VarHandle" ∧ (parseMethodDescriptor y.desc).map (fun d => d.parameters.length) = some n) (hR9 : rm.frames + 1 ≤ R.frames ∧ 8 + (maxL + 11) + rm.locals ≤ R.locals)
    (hn9 : As.length = n) (hst : st0 = As.reverse ++ .ref sh :: rest) (hW : (rest.map fun v => v.category).sum ≤ 8) (hdg : decode cc pc = .ok (.invokevirtual index, 3)) (hf9 : cells + mc ≤ R.cells ∧ slots + ms ≤ R.slots)
    (hK : zK G s) (hP : va_P G.1 vwCl (Pr ++ zSW G sh n9 V X t u) H) (hD : va_D A (Pr ++ zSW G sh n9 V X t u)) (hS : va_S A s.heap H locs) (hA : ∀ q : Nat, s.heap.size ≤ q → A q) (hls : ls.size = nL)
    (kk : ∀ (u' : S) (H1 : Heap) (locs1 : List Loc), va_P G.1 vwCl (Pr ++ w1 u') H1 → va_D A (Pr ++ w1 u') → va_S A s.heap H1 locs1 → W p l e R s m args below meth c9 H1 locs1 (cells + mc) (slots + ms) Q (F0 m (pc + 3) ls ((rv u').toList ++ rest))) :
    W p l e R s m args below meth c9 H locs cells slots Q (F0 m pc ls st0) :=
  zr_V (q := (RX4, TX4, 4)) (b := sh) (q0 := Pr.length + 0) (ci := 4) (As := As) (rest := rest) (wr := Pr) F hM hG hw hrc hrs hd hR9 hn9 hst hW hdg hf9 hK hP hD hS hA hls rfl (zj_appL (wc := Pr) rfl) List.perm_append_comm (fun u H1 locs1 hP hD hS => kk u H1 locs1 (hP.perm List.perm_append_comm) (hD.perm List.perm_append_comm) hS)
end ZLL
abbrev rm_X4_isSame : Room := { frames := 5, cells := 0, slots := 0, locals := 130 }
theorem in_X4_isSame_X4 : ∀ w ∈ u_ws RX4 TX4 4, w ∈ wsX4_isSame := by decide +kernel
theorem zd_X4_isSame : yX4_isSame.cls = RX4 ∧ yX4_isSame.cls ≠ "java/lang/invoke/MethodHandle" ∧ yX4_isSame.cls ≠ "java/lang/invoke/VarHandle" ∧ (parseMethodDescriptor yX4_isSame.desc).map (fun d => d.parameters.length) = some 1 := by decide +kernel
def zsum (X : Nat → Nat) : Nat → Nat
  | 0 => 0
  | k + 1 => zsum X k + X k
theorem zsum_n {V X : Nat → Nat} (ok : zOK V X) : zsum X (zn V) = X 0 + X 1 + X 2 := by
  have o := ok 2 (by omega)
  rcases zn_23 V with h | h
  · rw [h]
    have : V 2 = 0 := by unfold zn at h; split at h <;> omega
    show 0 + X 0 + X 1 = _
    omega
  · rw [h]
    show 0 + X 0 + X 1 + X 2 = _
    omega
theorem zsum_le {V X : Nat → Nat} (ok : zOK V X) : ∀ k, k ≤ 3 → zsum X k ≤ 9 * k := by
  intro k
  induction k with
  | zero => intro _; exact Nat.le_refl _
  | succ k ih => intro h; have o := ok k (by omega); have := ih (by omega); unfold zsum; omega
theorem zMean_eq (n k : Nat) (hn : n = 2 ∨ n = 3) : zMean n k = FP.ddiv (FP.i2d (nI k)) (FP.i2d (nI n)) := by
  unfold zMean
  rcases hn with rfl | rfl
  · rw [if_pos rfl, z_two]
  · rw [if_neg (by decide), z_three]
theorem zMean_cmp (n k : Nat) (hn : n = 2 ∨ n = 3) (hk : k < 28) : FP.dcmp (zMean n k) (zMean n k) = some Ordering.eq := by
  unfold zMean
  rcases hn with rfl | rfl
  · rw [if_pos rfl]; exact z_mc2 k hk
  · rw [if_neg (by decide)]; exact z_mc3 k hk
set_option maxHeartbeats 4000000 in
set_option maxRecDepth 100000 in
theorem s_isSame (l : Launch) (G : zG) (a : Nat → Nat) {V X : Nat → Nat} {C : zCs} {c : zS} {t : zU} (hR : zR V X C c t) (sh sv sa sc sl : Nat) (rows : zRows) (hu : zRw C (sv, sa, sc, sl, rows)) : zCr l G yX4_isSame wsX4_isSame rm_X4_isSame 0 0 [.ref sh, .ref (a 0)] (zCW3 G a c ++ (zSW G sh (zn V) V X t (sv, sa, sc, sl, rows))) (fun _ : {c : zS // zR V X C c t} => some (.int (nI 1))) (fun u : {c : zS // zR V X C c t} => zCW3 G a u.1 ++ (zSW G sh (zn V) V X t (sv, sa, sc, sl, rows))) := by
  refine z_ofr (cc := cX4_isSame) (maxL := 8) (ret := (some .boolean)) (own := RX4) (by decide) rfl rfl (Nat.le_of_ble_eq_true rfl) ?_
  intro p e s m args below meth c9 A H locs ls F hr hlocks hname hK hA hP hD hS hl
  obtain ⟨hx, hb, hml, hown, hts⟩ := id F
  have hl : lv_has ls 8 [(0, .ref sh), (1, .ref (a 0))] := hl
  have hP : va_P G.1 vwCl (zCW3 G a c ++ (([(sh, .inr (4, [.ref sv, .ref sa, .ref sc, .ref sl])), (sv, .inl (G.2.1, zn V, .inl (zar (zn V) V))), (sa, .inl (G.2.1, zn V, .inl (zar (zn V) X))), (sc, .inl (G.2.1, 6, .inl (zkt t))), (sl, .inl (G.2.2.1, rows.length, .inr (.inr (.inr (.inr (zlf rows))))))] : va_W) ++ rows.map (zrc G (zn V)))) H := hP
  have hD : va_D A (zCW3 G a c ++ (([(sh, .inr (4, [.ref sv, .ref sa, .ref sc, .ref sl])), (sv, .inl (G.2.1, zn V, .inl (zar (zn V) V))), (sa, .inl (G.2.1, zn V, .inl (zar (zn V) X))), (sc, .inl (G.2.1, 6, .inl (zkt t))), (sl, .inl (G.2.2.1, rows.length, .inr (.inr (.inr (.inr (zlf rows))))))] : va_W) ++ rows.map (zrc G (zn V)))) := hD
  have hz := zn_23 V
  have ok := hR.ok
  have hr9 := hu.ok hR.cok
  have hlen := hu.len
  have hs3 := zsum_n ok
  have hb3 := zsum_le ok (zn V) (by omega)
  have hm9 := hr9.1
  have hmean := (zp_meanAmount hR).2.2.1
  have hmc := zMean_cmp (zn V) (X 0 + X 1 + X 2) hz (by omega)
  have hbc : ∀ f k, zBc f k ≤ k := fun f k => by
    induction k with
    | zero => exact Nat.le_refl _
    | succ k ih => unfold zBc; split <;> omega
  have loopV : ∀ (j : Nat), j < zn V → (∀ (c : zS) (H : Heap) (locs : List Loc) (ls : Array Slot), zR V X C c t → va_P G.1 vwCl (zCW3 G a c ++ (([(sh, .inr (4, [.ref sv, .ref sa, .ref sc, .ref sl])), (sv, .inl (G.2.1, zn V, .inl (zar (zn V) V))), (sa, .inl (G.2.1, zn V, .inl (zar (zn V) X))), (sc, .inl (G.2.1, 6, .inl (zkt t))), (sl, .inl (G.2.2.1, rows.length, .inr (.inr (.inr (.inr (zlf rows))))))] : va_W) ++ rows.map (zrc G (zn V)))) H → va_D A (zCW3 G a c ++ (([(sh, .inr (4, [.ref sv, .ref sa, .ref sc, .ref sl])), (sv, .inl (G.2.1, zn V, .inl (zar (zn V) V))), (sa, .inl (G.2.1, zn V, .inl (zar (zn V) X))), (sc, .inl (G.2.1, 6, .inl (zkt t))), (sl, .inl (G.2.2.1, rows.length, .inr (.inr (.inr (.inr (zlf rows))))))] : va_W) ++ rows.map (zrc G (zn V)))) → va_S A s.heap H locs → lv_has ls 8 [(5, .int (nI (zBc (zMay (zn V) C j) 9))), (4, .int (nI j)), (2, .int (nI (zn V))), (0, .ref sh), (1, .ref (a 0))] → W p l e rm_X4_isSame s m args below meth c9 H locs 0 0 (MQ below (zQr G (fun _ : {c : zS // zR V X C c t} => some (.int (nI 1))) (fun u : {c : zS // zR V X C c t} => zCW3 G a u.1 ++ (zSW G sh (zn V) V X t (sv, sa, sc, sl, rows))) A) args s 0 0 A) (F0 m 325 ls [])) → ∀ (r v : Nat) (c : zS) (H : Heap) (locs : List Loc) (ls : Array Slot), v + r = 9 → zR V X C c t → va_P G.1 vwCl (zCW3 G a c ++ (([(sh, .inr (4, [.ref sv, .ref sa, .ref sc, .ref sl])), (sv, .inl (G.2.1, zn V, .inl (zar (zn V) V))), (sa, .inl (G.2.1, zn V, .inl (zar (zn V) X))), (sc, .inl (G.2.1, 6, .inl (zkt t))), (sl, .inl (G.2.2.1, rows.length, .inr (.inr (.inr (.inr (zlf rows))))))] : va_W) ++ rows.map (zrc G (zn V)))) H → va_D A (zCW3 G a c ++ (([(sh, .inr (4, [.ref sv, .ref sa, .ref sc, .ref sl])), (sv, .inl (G.2.1, zn V, .inl (zar (zn V) V))), (sa, .inl (G.2.1, zn V, .inl (zar (zn V) X))), (sc, .inl (G.2.1, 6, .inl (zkt t))), (sl, .inl (G.2.2.1, rows.length, .inr (.inr (.inr (.inr (zlf rows))))))] : va_W) ++ rows.map (zrc G (zn V)))) → va_S A s.heap H locs → lv_has ls 8 [(6, .int (nI (v + 1))), (5, .int (nI (zBc (zMay (zn V) C j) v))), (4, .int (nI j)), (2, .int (nI (zn V))), (0, .ref sh), (1, .ref (a 0))] → W p l e rm_X4_isSame s m args below meth c9 H locs 0 0 (MQ below (zQr G (fun _ : {c : zS // zR V X C c t} => some (.int (nI 1))) (fun u : {c : zS // zR V X C c t} => zCW3 G a u.1 ++ (zSW G sh (zn V) V X t (sv, sa, sc, sl, rows))) A) args s 0 0 A) (F0 m 272 ls []) := by
    intro j hj kk r
    induction r with
    | zero =>
      intro v c H locs ls hv hR hP hD hS hl
      obtain rfl : v = 9 := by omega
      refine lv_iload hx hb dX4_isSame_272 (lv_at hl 0 rfl) ?_
      refine lv_bipush (v := nI 10) hx hb dX4_isSame_274 (by decide) ?_
      refine lv_icmp_ge (tgt := 325) hx hb dX4_isSame_276 (by decide) (fun _ => ?_) (fun z => absurd (show (nI 10) ≤ (nI 10) from (by decide)) z)
      exact kk c H locs ls hR hP hD hS (lv_sub hl [1, 2, 3, 4, 5] rfl)
    | succ r ih =>
      intro v c H locs ls hv hR hP hD hS hl
      have hb1 := hbc (zMay (zn V) C j) v
      refine lv_iload hx hb dX4_isSame_272 (lv_at hl 0 rfl) ?_
      refine lv_bipush (v := nI 10) hx hb dX4_isSame_274 (by decide) ?_
      refine lv_icmp_ge (tgt := 325) hx hb dX4_isSame_276 (by decide) (fun z => absurd z (show ¬ (nI 10) ≤ (nI (v + 1)) from (nI_ge (by omega) (by omega)))) (fun _ => ?_)
      refine lv_aload_n hx hb dX4_isSame_279 rfl (lv_at hl 4 rfl) ?_
      refine lv_iload hx hb dX4_isSame_280 (lv_at hl 2 rfl) ?_
      refine lv_iload hx hb dX4_isSame_282 (lv_at hl 0 rfl) ?_
      refine zl_M (As := [.int (nI j), .int (nI (v + 1))]) (rest := []) (u := (sv, sa, sc, sl, rows)) F (s_may l G sh sv sa sc sl rows hz hr9 hj (by omega)) gX4_isSame_X4_may rfl rfl rfl zd_X4_may ⟨(Nat.le_of_ble_eq_true rfl), (Nat.le_of_ble_eq_true rfl)⟩ rfl rfl (Nat.le_of_ble_eq_true rfl) dX4_isSame_284 ⟨(Nat.le_of_ble_eq_true rfl), (Nat.le_of_ble_eq_true rfl)⟩ hK hP hD hS hA hl.1 (fun _ H locs hP hD hS => ?_)
      refine zt_top (v := zb01 (zMay (zn V) C j (v + 1))) (congrArg zb01 (hu.may (zn V) j (v + 1))) ?_
      refine lv_istore (lv' := [(7, .int (zb01 (zMay (zn V) C j (v + 1)))), (6, .int (nI (v + 1))), (5, .int (nI (zBc (zMay (zn V) C j) v))), (4, .int (nI j)), (2, .int (nI (zn V))), (0, .ref sh), (1, .ref (a 0))]) hx hb dX4_isSame_287 hl (by decide) rfl (fun ls hl => ?_)
      refine lv_aload_n hx hb dX4_isSame_289 rfl (lv_at hl 6 rfl) ?_
      refine lv_iload hx hb dX4_isSame_290 (lv_at hl 3 rfl) ?_
      refine lv_iload hx hb dX4_isSame_292 (lv_at hl 1 rfl) ?_
      refine zl_C (As := [.int (nI j), .int (nI (v + 1))]) (rest := []) F (q_mayBe l G a hR hj (by omega) (by omega)) gX4_isSame_X3_mayBe rfl rfl rfl zd_X3_mayBe ⟨(Nat.le_of_ble_eq_true rfl), (Nat.le_of_ble_eq_true rfl)⟩ rfl rfl (Nat.le_of_ble_eq_true rfl) dX4_isSame_294 ⟨(Nat.le_of_ble_eq_true rfl), (Nat.le_of_ble_eq_true rfl)⟩ hK hP hD hS hA hl.1 (fun c H locs hR hP hD hS => ?_)
      refine lv_iload hx hb dX4_isSame_297 (lv_at hl 0 rfl) ?_
      refine lv_icmp_eq (tgt := 304) hx hb dX4_isSame_299 (by decide) (fun _ => ?_) (fun z => absurd (show (zb01 (zMay (zn V) C j (v + 1))) = (zb01 (zMay (zn V) C j (v + 1))) from rfl) z)
      refine lv_iload hx hb dX4_isSame_304 (lv_at hl 2 rfl) ?_
      refine lv_iload hx hb dX4_isSame_306 (lv_at hl 0 rfl) ?_
      by_cases q : zMay (zn V) C j (v + 1) = true
      · refine lv_if_eq (tgt := 315) hx hb dX4_isSame_308 (by decide) (fun z => absurd z (show ¬ (zb01 (zMay (zn V) C j (v + 1))) = (nI 0) from (by rw [q]; decide))) (fun _ => ?_)
        refine lv_iconst (v := nI 1) hx hb dX4_isSame_311 (by decide) ?_
        refine lv_goto (tgt := 316) hx hb dX4_isSame_312 (by decide) ?_
        refine lv_iadd hx hb dX4_isSame_316 ?_
        refine zt_top (v := (nI (zBc (zMay (zn V) C j) (v + 1)))) ((nI_add (zBc (zMay (zn V) C j) v) 1).trans (congrArg nI (show zBc (zMay (zn V) C j) v + 1 = zBc (zMay (zn V) C j) v + (if zMay (zn V) C j (v + 1) = true then 1 else 0) by rw [if_pos q]))) ?_
        refine lv_istore (lv' := [(5, .int (nI (zBc (zMay (zn V) C j) (v + 1)))), (7, .int (zb01 (zMay (zn V) C j (v + 1)))), (6, .int (nI (v + 1))), (4, .int (nI j)), (2, .int (nI (zn V))), (0, .ref sh), (1, .ref (a 0))]) hx hb dX4_isSame_317 hl (by decide) rfl (fun ls hl => ?_)
        refine lv_iinc (v := (nI ((v + 1) + 1))) (lv' := [(6, .int (nI ((v + 1) + 1))), (5, .int (nI (zBc (zMay (zn V) C j) (v + 1)))), (7, .int (zb01 (zMay (zn V) C j (v + 1)))), (4, .int (nI j)), (2, .int (nI (zn V))), (0, .ref sh), (1, .ref (a 0))]) hx hb dX4_isSame_319 hl (k := 2) rfl (nI_1 (v + 1)) (by decide) rfl (fun ls hl => ?_)
        refine lv_goto (tgt := 272) hx hb dX4_isSame_322 (by decide) ?_
        exact ih (v + 1) c H locs ls (by omega) hR hP hD hS (lv_sub hl [0, 1, 3, 4, 5, 6] rfl)
      · refine lv_if_eq (tgt := 315) hx hb dX4_isSame_308 (by decide) (fun _ => ?_) (fun z => absurd (show (zb01 (zMay (zn V) C j (v + 1))) = (nI 0) from (by rw [Bool.eq_false_iff.mpr q]; rfl)) z)
        refine lv_iconst (v := nI 0) hx hb dX4_isSame_315 (by decide) ?_
        refine lv_iadd hx hb dX4_isSame_316 ?_
        refine zt_top (v := (nI (zBc (zMay (zn V) C j) (v + 1)))) ((nI_add (zBc (zMay (zn V) C j) v) 0).trans (congrArg nI (show zBc (zMay (zn V) C j) v = zBc (zMay (zn V) C j) v + (if zMay (zn V) C j (v + 1) = true then 1 else 0) by rw [if_neg q, Nat.add_zero]))) ?_
        refine lv_istore (lv' := [(5, .int (nI (zBc (zMay (zn V) C j) (v + 1)))), (7, .int (zb01 (zMay (zn V) C j (v + 1)))), (6, .int (nI (v + 1))), (4, .int (nI j)), (2, .int (nI (zn V))), (0, .ref sh), (1, .ref (a 0))]) hx hb dX4_isSame_317 hl (by decide) rfl (fun ls hl => ?_)
        refine lv_iinc (v := (nI ((v + 1) + 1))) (lv' := [(6, .int (nI ((v + 1) + 1))), (5, .int (nI (zBc (zMay (zn V) C j) (v + 1)))), (7, .int (zb01 (zMay (zn V) C j (v + 1)))), (4, .int (nI j)), (2, .int (nI (zn V))), (0, .ref sh), (1, .ref (a 0))]) hx hb dX4_isSame_319 hl (k := 2) rfl (nI_1 (v + 1)) (by decide) rfl (fun ls hl => ?_)
        refine lv_goto (tgt := 272) hx hb dX4_isSame_322 (by decide) ?_
        exact ih (v + 1) c H locs ls (by omega) hR hP hD hS (lv_sub hl [0, 1, 3, 4, 5, 6] rfl)
  have loopJ : ∀ (r j : Nat) (c : zS) (H : Heap) (locs : List Loc) (ls : Array Slot), j + r = zn V → zR V X C c t → va_P G.1 vwCl (zCW3 G a c ++ (([(sh, .inr (4, [.ref sv, .ref sa, .ref sc, .ref sl])), (sv, .inl (G.2.1, zn V, .inl (zar (zn V) V))), (sa, .inl (G.2.1, zn V, .inl (zar (zn V) X))), (sc, .inl (G.2.1, 6, .inl (zkt t))), (sl, .inl (G.2.2.1, rows.length, .inr (.inr (.inr (.inr (zlf rows))))))] : va_W) ++ rows.map (zrc G (zn V)))) H → va_D A (zCW3 G a c ++ (([(sh, .inr (4, [.ref sv, .ref sa, .ref sc, .ref sl])), (sv, .inl (G.2.1, zn V, .inl (zar (zn V) V))), (sa, .inl (G.2.1, zn V, .inl (zar (zn V) X))), (sc, .inl (G.2.1, 6, .inl (zkt t))), (sl, .inl (G.2.2.1, rows.length, .inr (.inr (.inr (.inr (zlf rows))))))] : va_W) ++ rows.map (zrc G (zn V)))) → va_S A s.heap H locs → lv_has ls 8 [(4, .int (nI j)), (2, .int (nI (zn V))), (0, .ref sh), (1, .ref (a 0))] → W p l e rm_X4_isSame s m args below meth c9 H locs 0 0 (MQ below (zQr G (fun _ : {c : zS // zR V X C c t} => some (.int (nI 1))) (fun u : {c : zS // zR V X C c t} => zCW3 G a u.1 ++ (zSW G sh (zn V) V X t (sv, sa, sc, sl, rows))) A) args s 0 0 A) (F0 m 171 ls []) := by
    intro r
    induction r with
    | zero =>
      intro j c H locs ls hj hR hP hD hS hl
      obtain rfl : j = zn V := by omega
      refine lv_iload hx hb dX4_isSame_171 (lv_at hl 0 rfl) ?_
      refine lv_iload_n hx hb dX4_isSame_173 rfl (lv_at hl 1 rfl) ?_
      refine lv_icmp_ge (tgt := 353) hx hb dX4_isSame_174 (by decide) (fun _ => ?_) (fun z => absurd (show (nI (zn V)) ≤ (nI (zn V)) from (nI_le (by omega) (by omega))) z)
      refine lv_iconst (v := nI 1) hx hb dX4_isSame_353 (by decide) ?_
      exact zr_zret F hr hlocks hP hD hS ⟨c, hR⟩ (List.Perm.refl _) rfl rfl dX4_isSame_354
    | succ r ih =>
      intro j c H locs ls hj hR hP hD hS hl
      have hj2 : j < zn V := by omega
      have o9 := ok j (by omega)
      refine lv_iload hx hb dX4_isSame_171 (lv_at hl 0 rfl) ?_
      refine lv_iload_n hx hb dX4_isSame_173 rfl (lv_at hl 1 rfl) ?_
      refine lv_icmp_ge (tgt := 353) hx hb dX4_isSame_174 (by decide) (fun z => absurd z (show ¬ (nI (zn V)) ≤ (nI j) from (nI_ge (by omega) (by omega)))) (fun _ => ?_)
      refine lv_aload_n hx hb dX4_isSame_177 rfl (lv_at hl 3 rfl) ?_
      refine lv_iload hx hb dX4_isSame_178 (lv_at hl 0 rfl) ?_
      refine zl_C (As := [.int (nI j)]) (rest := []) F (q_volumeOf l G a hR hj2) gX4_isSame_X3_volumeOf rfl rfl rfl zd_X3_volumeOf ⟨(Nat.le_of_ble_eq_true rfl), (Nat.le_of_ble_eq_true rfl)⟩ rfl rfl (Nat.le_of_ble_eq_true rfl) dX4_isSame_180 ⟨(Nat.le_of_ble_eq_true rfl), (Nat.le_of_ble_eq_true rfl)⟩ hK hP hD hS hA hl.1 (fun c H locs hR hP hD hS => ?_)
      refine lv_aload_n hx hb dX4_isSame_183 rfl (lv_at hl 2 rfl) ?_
      refine va_get (D := G.1) (ci := 4) (v := .ref sv) (C := RX4) (T := TX4) (N := 4) hx hb hts in_X4_isSame_X4 hown hK.1 hP 17 rfl rfl 0 (by decide) (hts (.fieldLink RX4 7 "JarRiddleLaw$Sim" "volume" "[I") (by decide +kernel)) (fun _ h9 => h9) rfl dX4_isSame_184 ?_
      refine lv_iload hx hb dX4_isSame_187 (lv_at hl 0 rfl) ?_
      refine zr_iald (v := (nI (V j))) hx hb hK hP 18 rfl (by omega) (by omega) (zar_at hj2) dX4_isSame_189 ?_
      refine lv_icmp_ne (tgt := 264) hx hb dX4_isSame_190 (by decide) (fun z => absurd (show (nI (V j)) = (nI (V j)) from rfl) z) (fun _ => ?_)
      refine lv_aload_n hx hb dX4_isSame_193 rfl (lv_at hl 3 rfl) ?_
      refine lv_iload hx hb dX4_isSame_194 (lv_at hl 0 rfl) ?_
      refine zl_C (As := [.int (nI j)]) (rest := []) F (q_amountOf l G a hR hj2) gX4_isSame_X3_amountOf rfl rfl rfl zd_X3_amountOf ⟨(Nat.le_of_ble_eq_true rfl), (Nat.le_of_ble_eq_true rfl)⟩ rfl rfl (Nat.le_of_ble_eq_true rfl) dX4_isSame_196 ⟨(Nat.le_of_ble_eq_true rfl), (Nat.le_of_ble_eq_true rfl)⟩ hK hP hD hS hA hl.1 (fun c H locs hR hP hD hS => ?_)
      refine lv_aload_n hx hb dX4_isSame_199 rfl (lv_at hl 2 rfl) ?_
      refine va_get (D := G.1) (ci := 4) (v := .ref sa) (C := RX4) (T := TX4) (N := 4) hx hb hts in_X4_isSame_X4 hown hK.1 hP 17 rfl rfl 1 (by decide) (hts (.fieldLink RX4 13 "JarRiddleLaw$Sim" "amount" "[I") (by decide +kernel)) (fun _ h9 => h9) rfl dX4_isSame_200 ?_
      refine lv_iload hx hb dX4_isSame_203 (lv_at hl 0 rfl) ?_
      refine zr_iald (v := (nI (X j))) hx hb hK hP 19 rfl (by omega) (by omega) (zar_at hj2) dX4_isSame_205 ?_
      refine lv_icmp_ne (tgt := 264) hx hb dX4_isSame_206 (by decide) (fun z => absurd (show (nI (X j)) = (nI (X j)) from rfl) z) (fun _ => ?_)
      refine lv_aload_n hx hb dX4_isSame_209 rfl (lv_at hl 3 rfl) ?_
      refine lv_iload hx hb dX4_isSame_210 (lv_at hl 0 rfl) ?_
      refine zl_C (As := [.int (nI j)]) (rest := []) F (q_isEmpty l G a hR hj2) gX4_isSame_X3_isEmpty rfl rfl rfl zd_X3_isEmpty ⟨(Nat.le_of_ble_eq_true rfl), (Nat.le_of_ble_eq_true rfl)⟩ rfl rfl (Nat.le_of_ble_eq_true rfl) dX4_isSame_212 ⟨(Nat.le_of_ble_eq_true rfl), (Nat.le_of_ble_eq_true rfl)⟩ hK hP hD hS hA hl.1 (fun c H locs hR hP hD hS => ?_)
      refine lv_aload_n hx hb dX4_isSame_215 rfl (lv_at hl 2 rfl) ?_
      refine va_get (D := G.1) (ci := 4) (v := .ref sa) (C := RX4) (T := TX4) (N := 4) hx hb hts in_X4_isSame_X4 hown hK.1 hP 17 rfl rfl 1 (by decide) (hts (.fieldLink RX4 13 "JarRiddleLaw$Sim" "amount" "[I") (by decide +kernel)) (fun _ h9 => h9) rfl dX4_isSame_216 ?_
      refine lv_iload hx hb dX4_isSame_219 (lv_at hl 0 rfl) ?_
      refine zr_iald (v := (nI (X j))) hx hb hK hP 19 rfl (by omega) (by omega) (zar_at hj2) dX4_isSame_221 ?_
      have key : ∀ (c : zS) (H : Heap) (locs : List Loc) (ls : Array Slot), zR V X C c t → va_P G.1 vwCl (zCW3 G a c ++ (([(sh, .inr (4, [.ref sv, .ref sa, .ref sc, .ref sl])), (sv, .inl (G.2.1, zn V, .inl (zar (zn V) V))), (sa, .inl (G.2.1, zn V, .inl (zar (zn V) X))), (sc, .inl (G.2.1, 6, .inl (zkt t))), (sl, .inl (G.2.2.1, rows.length, .inr (.inr (.inr (.inr (zlf rows))))))] : va_W) ++ rows.map (zrc G (zn V)))) H → va_D A (zCW3 G a c ++ (([(sh, .inr (4, [.ref sv, .ref sa, .ref sc, .ref sl])), (sv, .inl (G.2.1, zn V, .inl (zar (zn V) V))), (sa, .inl (G.2.1, zn V, .inl (zar (zn V) X))), (sc, .inl (G.2.1, 6, .inl (zkt t))), (sl, .inl (G.2.2.1, rows.length, .inr (.inr (.inr (.inr (zlf rows))))))] : va_W) ++ rows.map (zrc G (zn V)))) → va_S A s.heap H locs → lv_has ls 8 [(4, .int (nI j)), (2, .int (nI (zn V))), (0, .ref sh), (1, .ref (a 0))] → W p l e rm_X4_isSame s m args below meth c9 H locs 0 0 (MQ below (zQr G (fun _ : {c : zS // zR V X C c t} => some (.int (nI 1))) (fun u : {c : zS // zR V X C c t} => zCW3 G a u.1 ++ (zSW G sh (zn V) V X t (sv, sa, sc, sl, rows))) A) args s 0 0 A) (F0 m 233 ls []) := by
        intro c H locs ls hR hP hD hS hl
        refine lv_aload_n hx hb dX4_isSame_233 rfl (lv_at hl 3 rfl) ?_
        refine lv_iload hx hb dX4_isSame_234 (lv_at hl 0 rfl) ?_
        refine zl_C (As := [.int (nI j)]) (rest := []) F (q_isFull l G a hR hj2) gX4_isSame_X3_isFull rfl rfl rfl zd_X3_isFull ⟨(Nat.le_of_ble_eq_true rfl), (Nat.le_of_ble_eq_true rfl)⟩ rfl rfl (Nat.le_of_ble_eq_true rfl) dX4_isSame_236 ⟨(Nat.le_of_ble_eq_true rfl), (Nat.le_of_ble_eq_true rfl)⟩ hK hP hD hS hA hl.1 (fun c H locs hR hP hD hS => ?_)
        refine lv_aload_n hx hb dX4_isSame_239 rfl (lv_at hl 2 rfl) ?_
        refine va_get (D := G.1) (ci := 4) (v := .ref sa) (C := RX4) (T := TX4) (N := 4) hx hb hts in_X4_isSame_X4 hown hK.1 hP 17 rfl rfl 1 (by decide) (hts (.fieldLink RX4 13 "JarRiddleLaw$Sim" "amount" "[I") (by decide +kernel)) (fun _ h9 => h9) rfl dX4_isSame_240 ?_
        refine lv_iload hx hb dX4_isSame_243 (lv_at hl 0 rfl) ?_
        refine zr_iald (v := (nI (X j))) hx hb hK hP 19 rfl (by omega) (by omega) (zar_at hj2) dX4_isSame_245 ?_
        refine lv_aload_n hx hb dX4_isSame_246 rfl (lv_at hl 2 rfl) ?_
        refine va_get (D := G.1) (ci := 4) (v := .ref sv) (C := RX4) (T := TX4) (N := 4) hx hb hts in_X4_isSame_X4 hown hK.1 hP 17 rfl rfl 0 (by decide) (hts (.fieldLink RX4 7 "JarRiddleLaw$Sim" "volume" "[I") (by decide +kernel)) (fun _ h9 => h9) rfl dX4_isSame_247 ?_
        refine lv_iload hx hb dX4_isSame_250 (lv_at hl 0 rfl) ?_
        refine zr_iald (v := (nI (V j))) hx hb hK hP 18 rfl (by omega) (by omega) (zar_at hj2) dX4_isSame_252 ?_
        have key2 : ∀ (c : zS) (H : Heap) (locs : List Loc) (ls : Array Slot), zR V X C c t → va_P G.1 vwCl (zCW3 G a c ++ (([(sh, .inr (4, [.ref sv, .ref sa, .ref sc, .ref sl])), (sv, .inl (G.2.1, zn V, .inl (zar (zn V) V))), (sa, .inl (G.2.1, zn V, .inl (zar (zn V) X))), (sc, .inl (G.2.1, 6, .inl (zkt t))), (sl, .inl (G.2.2.1, rows.length, .inr (.inr (.inr (.inr (zlf rows))))))] : va_W) ++ rows.map (zrc G (zn V)))) H → va_D A (zCW3 G a c ++ (([(sh, .inr (4, [.ref sv, .ref sa, .ref sc, .ref sl])), (sv, .inl (G.2.1, zn V, .inl (zar (zn V) V))), (sa, .inl (G.2.1, zn V, .inl (zar (zn V) X))), (sc, .inl (G.2.1, 6, .inl (zkt t))), (sl, .inl (G.2.2.1, rows.length, .inr (.inr (.inr (.inr (zlf rows))))))] : va_W) ++ rows.map (zrc G (zn V)))) → va_S A s.heap H locs → lv_has ls 8 [(4, .int (nI j)), (2, .int (nI (zn V))), (0, .ref sh), (1, .ref (a 0))] → W p l e rm_X4_isSame s m args below meth c9 H locs 0 0 (MQ below (zQr G (fun _ : {c : zS // zR V X C c t} => some (.int (nI 1))) (fun u : {c : zS // zR V X C c t} => zCW3 G a u.1 ++ (zSW G sh (zn V) V X t (sv, sa, sc, sl, rows))) A) args s 0 0 A) (F0 m 266 ls []) := by
          intro c H locs ls hR hP hD hS hl
          refine lv_iconst (v := nI 0) hx hb dX4_isSame_266 (by decide) ?_
          refine lv_istore (lv' := [(5, .int (nI 0)), (4, .int (nI j)), (2, .int (nI (zn V))), (0, .ref sh), (1, .ref (a 0))]) hx hb dX4_isSame_267 hl (by decide) rfl (fun ls hl => ?_)
          refine lv_iconst (v := nI 1) hx hb dX4_isSame_269 (by decide) ?_
          refine lv_istore (lv' := [(6, .int (nI 1)), (5, .int (nI 0)), (4, .int (nI j)), (2, .int (nI (zn V))), (0, .ref sh), (1, .ref (a 0))]) hx hb dX4_isSame_270 hl (by decide) rfl (fun ls hl => ?_)
          refine loopV j hj2 ?_ 9 0 c H locs ls (by omega) hR hP hD hS (lv_sub hl [0, 1, 2, 3, 4, 5] rfl)
          intro c H locs ls hR hP hD hS hl
          have hb1 := hbc (zMay (zn V) C j) 9
          refine lv_aload_n hx hb dX4_isSame_325 rfl (lv_at hl 4 rfl) ?_
          refine lv_iload hx hb dX4_isSame_326 (lv_at hl 1 rfl) ?_
          refine zl_C (As := [.int (nI j)]) (rest := []) F (q_isKnown l G a hR hj2) gX4_isSame_X3_isKnown rfl rfl rfl zd_X3_isKnown ⟨(Nat.le_of_ble_eq_true rfl), (Nat.le_of_ble_eq_true rfl)⟩ rfl rfl (Nat.le_of_ble_eq_true rfl) dX4_isSame_328 ⟨(Nat.le_of_ble_eq_true rfl), (Nat.le_of_ble_eq_true rfl)⟩ hK hP hD hS hA hl.1 (fun c H locs hR hP hD hS => ?_)
          refine lv_iload hx hb dX4_isSame_331 (lv_at hl 0 rfl) ?_
          refine lv_iconst (v := nI 1) hx hb dX4_isSame_333 (by decide) ?_
          by_cases q : zBc (zMay (zn V) C j) 9 = 1
          · refine lv_icmp_ne (tgt := 341) hx hb dX4_isSame_334 (by decide) (fun z => absurd (show (nI (zBc (zMay (zn V) C j) 9)) = (nI 1) from (congrArg nI q)) z) (fun _ => ?_)
            refine lv_iconst (v := nI 1) hx hb dX4_isSame_337 (by decide) ?_
            refine lv_goto (tgt := 342) hx hb dX4_isSame_338 (by decide) ?_
            refine lv_icmp_eq (tgt := 347) hx hb dX4_isSame_342 (by decide) (fun _ => ?_) (fun z => absurd (show (zb01 (decide (zBc (zMay (zn V) C j) 9 = 1))) = (nI 1) from (by rw [decide_eq_true q]; rfl)) z)
            refine lv_iinc (v := (nI (j + 1))) (lv' := [(4, .int (nI (j + 1))), (5, .int (nI (zBc (zMay (zn V) C j) 9))), (2, .int (nI (zn V))), (0, .ref sh), (1, .ref (a 0))]) hx hb dX4_isSame_347 hl (k := 1) rfl (nI_1 j) (by decide) rfl (fun ls hl => ?_)
            refine lv_goto (tgt := 171) hx hb dX4_isSame_350 (by decide) ?_
            exact ih (j + 1) c H locs ls (by omega) hR hP hD hS (lv_sub hl [0, 2, 3, 4] rfl)
          · refine lv_icmp_ne (tgt := 341) hx hb dX4_isSame_334 (by decide) (fun _ => ?_) (fun z => absurd z (show ¬ (nI (zBc (zMay (zn V) C j) 9)) = (nI 1) from (fun z => q ((nI_eq (by omega) (by omega)).mp z))))
            refine lv_iconst (v := nI 0) hx hb dX4_isSame_341 (by decide) ?_
            refine lv_icmp_eq (tgt := 347) hx hb dX4_isSame_342 (by decide) (fun _ => ?_) (fun z => absurd (show (zb01 (decide (zBc (zMay (zn V) C j) 9 = 1))) = (nI 0) from (by rw [decide_eq_false q]; rfl)) z)
            refine lv_iinc (v := (nI (j + 1))) (lv' := [(4, .int (nI (j + 1))), (5, .int (nI (zBc (zMay (zn V) C j) 9))), (2, .int (nI (zn V))), (0, .ref sh), (1, .ref (a 0))]) hx hb dX4_isSame_347 hl (k := 1) rfl (nI_1 j) (by decide) rfl (fun ls hl => ?_)
            refine lv_goto (tgt := 171) hx hb dX4_isSame_350 (by decide) ?_
            exact ih (j + 1) c H locs ls (by omega) hR hP hD hS (lv_sub hl [0, 2, 3, 4] rfl)
        by_cases q : X j = V j
        · refine lv_icmp_ne (tgt := 260) hx hb dX4_isSame_253 (by decide) (fun z => absurd (show (nI (X j)) = (nI (V j)) from (congrArg nI q)) z) (fun _ => ?_)
          refine lv_iconst (v := nI 1) hx hb dX4_isSame_256 (by decide) ?_
          refine lv_goto (tgt := 261) hx hb dX4_isSame_257 (by decide) ?_
          refine lv_icmp_eq (tgt := 266) hx hb dX4_isSame_261 (by decide) (fun _ => ?_) (fun z => absurd (show (zb01 (decide (X j = V j))) = (nI 1) from (by rw [decide_eq_true q]; rfl)) z)
          exact key2 c H locs ls hR hP hD hS hl
        · refine lv_icmp_ne (tgt := 260) hx hb dX4_isSame_253 (by decide) (fun _ => ?_) (fun z => absurd z (show ¬ (nI (X j)) = (nI (V j)) from (fun z => q ((nI_eq (by omega) (by omega)).mp z))))
          refine lv_iconst (v := nI 0) hx hb dX4_isSame_260 (by decide) ?_
          refine lv_icmp_eq (tgt := 266) hx hb dX4_isSame_261 (by decide) (fun _ => ?_) (fun z => absurd (show (zb01 (decide (X j = V j))) = (nI 0) from (by rw [decide_eq_false q]; rfl)) z)
          exact key2 c H locs ls hR hP hD hS hl
      by_cases q : X j = 0
      · refine lv_if_ne (tgt := 229) hx hb dX4_isSame_222 (by decide) (fun z => absurd (show (nI (X j)) = (nI 0) from (show nI (X j) = nI 0 from congrArg nI q)) z) (fun _ => ?_)
        refine lv_iconst (v := nI 1) hx hb dX4_isSame_225 (by decide) ?_
        refine lv_goto (tgt := 230) hx hb dX4_isSame_226 (by decide) ?_
        refine lv_icmp_ne (tgt := 264) hx hb dX4_isSame_230 (by decide) (fun z => absurd (show (zb01 (decide (X j = 0))) = (nI 1) from (by rw [decide_eq_true q]; rfl)) z) (fun _ => ?_)
        exact key c H locs ls hR hP hD hS hl
      · refine lv_if_ne (tgt := 229) hx hb dX4_isSame_222 (by decide) (fun _ => ?_) (fun z => absurd z (show ¬ (nI (X j)) = (nI 0) from (fun z => q ((nI_eq (by omega) (by omega)).mp z))))
        refine lv_iconst (v := nI 0) hx hb dX4_isSame_229 (by decide) ?_
        refine lv_icmp_ne (tgt := 264) hx hb dX4_isSame_230 (by decide) (fun z => absurd (show (zb01 (decide (X j = 0))) = (nI 0) from (by rw [decide_eq_false q]; rfl)) z) (fun _ => ?_)
        exact key c H locs ls hR hP hD hS hl
  have loopS : ∀ (r k : Nat) (ls : Array Slot), k + r = zn V → lv_has ls 8 [(6, .int (nI k)), (5, .int (nI (zn V))), (4, .ref sa), (3, .int (nI (zsum X k))), (2, .int (nI (zn V))), (0, .ref sh), (1, .ref (a 0))] → W p l e rm_X4_isSame s m args below meth c9 H locs 0 0 (MQ below (zQr G (fun _ : {c : zS // zR V X C c t} => some (.int (nI 1))) (fun u : {c : zS // zR V X C c t} => zCW3 G a u.1 ++ (zSW G sh (zn V) V X t (sv, sa, sc, sl, rows))) A) args s 0 0 A) (F0 m 22 ls []) := by
    intro r
    induction r with
    | zero =>
      intro k ls hk hl
      obtain rfl : k = zn V := by omega
      rw [hs3] at hl
      refine lv_iload hx hb dX4_isSame_22 (lv_at hl 0 rfl) ?_
      refine lv_iload hx hb dX4_isSame_24 (lv_at hl 1 rfl) ?_
      refine lv_icmp_ge (tgt := 47) hx hb dX4_isSame_26 (by decide) (fun _ => ?_) (fun z => absurd (show (nI (zn V)) ≤ (nI (zn V)) from (nI_le (by omega) (by omega))) z)
      refine lv_aload_n hx hb dX4_isSame_47 rfl (lv_at hl 6 rfl) ?_
      refine zl_C (As := []) (rest := []) F (q_jars l G a hR) gX4_isSame_X3_jars rfl rfl rfl zd_X3_jars ⟨(Nat.le_of_ble_eq_true rfl), (Nat.le_of_ble_eq_true rfl)⟩ rfl rfl (Nat.le_of_ble_eq_true rfl) dX4_isSame_48 ⟨(Nat.le_of_ble_eq_true rfl), (Nat.le_of_ble_eq_true rfl)⟩ hK hP hD hS hA hl.1 (fun c H locs hR hP hD hS => ?_)
      refine lv_iload_n hx hb dX4_isSame_51 rfl (lv_at hl 4 rfl) ?_
      refine lv_icmp_ne (tgt := 166) hx hb dX4_isSame_52 (by decide) (fun z => absurd (show (nI (zn V)) = (nI (zn V)) from rfl) z) (fun _ => ?_)
      refine lv_aload_n hx hb dX4_isSame_55 rfl (lv_at hl 6 rfl) ?_
      refine zl_C (As := []) (rest := []) F (q_heldInAll l G a hR) gX4_isSame_X3_heldInAll rfl rfl rfl zd_X3_heldInAll ⟨(Nat.le_of_ble_eq_true rfl), (Nat.le_of_ble_eq_true rfl)⟩ rfl rfl (Nat.le_of_ble_eq_true rfl) dX4_isSame_56 ⟨(Nat.le_of_ble_eq_true rfl), (Nat.le_of_ble_eq_true rfl)⟩ hK hP hD hS hA hl.1 (fun c H locs hR hP hD hS => ?_)
      refine lv_iload_n hx hb dX4_isSame_59 rfl (lv_at hl 3 rfl) ?_
      refine lv_icmp_ne (tgt := 166) hx hb dX4_isSame_60 (by decide) (fun z => absurd (show (nI (X 0 + X 1 + X 2)) = (nI (X 0 + X 1 + X 2)) from rfl) z) (fun _ => ?_)
      refine lv_aload_n hx hb dX4_isSame_63 rfl (lv_at hl 6 rfl) ?_
      refine zl_C (As := []) (rest := []) F (q_acts l G a hR) gX4_isSame_X3_acts rfl rfl rfl zd_X3_acts ⟨(Nat.le_of_ble_eq_true rfl), (Nat.le_of_ble_eq_true rfl)⟩ rfl rfl (Nat.le_of_ble_eq_true rfl) dX4_isSame_64 ⟨(Nat.le_of_ble_eq_true rfl), (Nat.le_of_ble_eq_true rfl)⟩ hK hP hD hS hA hl.1 (fun c H locs hR hP hD hS => ?_)
      refine lv_aload_n hx hb dX4_isSame_67 rfl (lv_at hl 5 rfl) ?_
      refine va_get (D := G.1) (ci := 4) (v := .ref sc) (C := RX4) (T := TX4) (N := 4) hx hb hts in_X4_isSame_X4 hown hK.1 hP 17 rfl rfl 2 (by decide) (hts (.fieldLink RX4 16 "JarRiddleLaw$Sim" "counts" "[I") (by decide +kernel)) (fun _ h9 => h9) rfl dX4_isSame_68 ?_
      refine lv_iconst (v := nI 0) hx hb dX4_isSame_71 (by decide) ?_
      refine zr_iald (v := (nI t.ac)) hx hb hK hP 20 rfl (by omega) (by omega) (rfl) dX4_isSame_72 ?_
      refine lv_icmp_ne (tgt := 166) hx hb dX4_isSame_73 (by decide) (fun z => absurd (show (nI t.ac) = (nI t.ac) from rfl) z) (fun _ => ?_)
      refine lv_aload_n hx hb dX4_isSame_76 rfl (lv_at hl 6 rfl) ?_
      refine zl_C (As := []) (rest := []) F (q_pouredInAll l G a hR) gX4_isSame_X3_pouredInAll rfl rfl rfl zd_X3_pouredInAll ⟨(Nat.le_of_ble_eq_true rfl), (Nat.le_of_ble_eq_true rfl)⟩ rfl rfl (Nat.le_of_ble_eq_true rfl) dX4_isSame_77 ⟨(Nat.le_of_ble_eq_true rfl), (Nat.le_of_ble_eq_true rfl)⟩ hK hP hD hS hA hl.1 (fun c H locs hR hP hD hS => ?_)
      refine lv_aload_n hx hb dX4_isSame_80 rfl (lv_at hl 5 rfl) ?_
      refine va_get (D := G.1) (ci := 4) (v := .ref sc) (C := RX4) (T := TX4) (N := 4) hx hb hts in_X4_isSame_X4 hown hK.1 hP 17 rfl rfl 2 (by decide) (hts (.fieldLink RX4 16 "JarRiddleLaw$Sim" "counts" "[I") (by decide +kernel)) (fun _ h9 => h9) rfl dX4_isSame_81 ?_
      refine lv_iconst (v := nI 1) hx hb dX4_isSame_84 (by decide) ?_
      refine zr_iald (v := (nI t.po)) hx hb hK hP 20 rfl (by omega) (by omega) (rfl) dX4_isSame_85 ?_
      refine lv_icmp_ne (tgt := 166) hx hb dX4_isSame_86 (by decide) (fun z => absurd (show (nI t.po) = (nI t.po) from rfl) z) (fun _ => ?_)
      refine lv_aload_n hx hb dX4_isSame_89 rfl (lv_at hl 6 rfl) ?_
      refine zl_C (As := []) (rest := []) F (q_spilledInAll l G a hR) gX4_isSame_X3_spilledInAll rfl rfl rfl zd_X3_spilledInAll ⟨(Nat.le_of_ble_eq_true rfl), (Nat.le_of_ble_eq_true rfl)⟩ rfl rfl (Nat.le_of_ble_eq_true rfl) dX4_isSame_90 ⟨(Nat.le_of_ble_eq_true rfl), (Nat.le_of_ble_eq_true rfl)⟩ hK hP hD hS hA hl.1 (fun c H locs hR hP hD hS => ?_)
      refine lv_aload_n hx hb dX4_isSame_93 rfl (lv_at hl 5 rfl) ?_
      refine va_get (D := G.1) (ci := 4) (v := .ref sc) (C := RX4) (T := TX4) (N := 4) hx hb hts in_X4_isSame_X4 hown hK.1 hP 17 rfl rfl 2 (by decide) (hts (.fieldLink RX4 16 "JarRiddleLaw$Sim" "counts" "[I") (by decide +kernel)) (fun _ h9 => h9) rfl dX4_isSame_94 ?_
      refine lv_iconst (v := nI 2) hx hb dX4_isSame_97 (by decide) ?_
      refine zr_iald (v := (nI t.si)) hx hb hK hP 20 rfl (by omega) (by omega) (rfl) dX4_isSame_98 ?_
      refine lv_icmp_ne (tgt := 166) hx hb dX4_isSame_99 (by decide) (fun z => absurd (show (nI t.si) = (nI t.si) from rfl) z) (fun _ => ?_)
      refine lv_aload_n hx hb dX4_isSame_102 rfl (lv_at hl 6 rfl) ?_
      refine zl_C (As := []) (rest := []) F (q_takenInAll l G a hR) gX4_isSame_X3_takenInAll rfl rfl rfl zd_X3_takenInAll ⟨(Nat.le_of_ble_eq_true rfl), (Nat.le_of_ble_eq_true rfl)⟩ rfl rfl (Nat.le_of_ble_eq_true rfl) dX4_isSame_103 ⟨(Nat.le_of_ble_eq_true rfl), (Nat.le_of_ble_eq_true rfl)⟩ hK hP hD hS hA hl.1 (fun c H locs hR hP hD hS => ?_)
      refine lv_aload_n hx hb dX4_isSame_106 rfl (lv_at hl 5 rfl) ?_
      refine va_get (D := G.1) (ci := 4) (v := .ref sc) (C := RX4) (T := TX4) (N := 4) hx hb hts in_X4_isSame_X4 hown hK.1 hP 17 rfl rfl 2 (by decide) (hts (.fieldLink RX4 16 "JarRiddleLaw$Sim" "counts" "[I") (by decide +kernel)) (fun _ h9 => h9) rfl dX4_isSame_107 ?_
      refine lv_iconst (v := nI 3) hx hb dX4_isSame_110 (by decide) ?_
      refine zr_iald (v := (nI t.ta)) hx hb hK hP 20 rfl (by omega) (by omega) (rfl) dX4_isSame_111 ?_
      refine lv_icmp_ne (tgt := 166) hx hb dX4_isSame_112 (by decide) (fun z => absurd (show (nI t.ta) = (nI t.ta) from rfl) z) (fun _ => ?_)
      refine lv_aload_n hx hb dX4_isSame_115 rfl (lv_at hl 6 rfl) ?_
      refine zl_C (As := []) (rest := []) F (q_guesses l G a hR) gX4_isSame_X3_guesses rfl rfl rfl zd_X3_guesses ⟨(Nat.le_of_ble_eq_true rfl), (Nat.le_of_ble_eq_true rfl)⟩ rfl rfl (Nat.le_of_ble_eq_true rfl) dX4_isSame_116 ⟨(Nat.le_of_ble_eq_true rfl), (Nat.le_of_ble_eq_true rfl)⟩ hK hP hD hS hA hl.1 (fun c H locs hR hP hD hS => ?_)
      refine lv_aload_n hx hb dX4_isSame_119 rfl (lv_at hl 5 rfl) ?_
      refine va_get (D := G.1) (ci := 4) (v := .ref sc) (C := RX4) (T := TX4) (N := 4) hx hb hts in_X4_isSame_X4 hown hK.1 hP 17 rfl rfl 2 (by decide) (hts (.fieldLink RX4 16 "JarRiddleLaw$Sim" "counts" "[I") (by decide +kernel)) (fun _ h9 => h9) rfl dX4_isSame_120 ?_
      refine lv_iconst (v := nI 4) hx hb dX4_isSame_123 (by decide) ?_
      refine zr_iald (v := (nI t.gu)) hx hb hK hP 20 rfl (by omega) (by omega) (rfl) dX4_isSame_124 ?_
      refine lv_icmp_ne (tgt := 166) hx hb dX4_isSame_125 (by decide) (fun z => absurd (show (nI t.gu) = (nI t.gu) from rfl) z) (fun _ => ?_)
      refine lv_aload_n hx hb dX4_isSame_128 rfl (lv_at hl 6 rfl) ?_
      refine zl_C (As := []) (rest := []) F (q_wrongGuesses l G a hR) gX4_isSame_X3_wrongGuesses rfl rfl rfl zd_X3_wrongGuesses ⟨(Nat.le_of_ble_eq_true rfl), (Nat.le_of_ble_eq_true rfl)⟩ rfl rfl (Nat.le_of_ble_eq_true rfl) dX4_isSame_129 ⟨(Nat.le_of_ble_eq_true rfl), (Nat.le_of_ble_eq_true rfl)⟩ hK hP hD hS hA hl.1 (fun c H locs hR hP hD hS => ?_)
      refine lv_aload_n hx hb dX4_isSame_132 rfl (lv_at hl 5 rfl) ?_
      refine va_get (D := G.1) (ci := 4) (v := .ref sc) (C := RX4) (T := TX4) (N := 4) hx hb hts in_X4_isSame_X4 hown hK.1 hP 17 rfl rfl 2 (by decide) (hts (.fieldLink RX4 16 "JarRiddleLaw$Sim" "counts" "[I") (by decide +kernel)) (fun _ h9 => h9) rfl dX4_isSame_133 ?_
      refine lv_iconst (v := nI 5) hx hb dX4_isSame_136 (by decide) ?_
      refine zr_iald (v := (nI t.wr)) hx hb hK hP 20 rfl (by omega) (by omega) (rfl) dX4_isSame_137 ?_
      refine lv_icmp_ne (tgt := 166) hx hb dX4_isSame_138 (by decide) (fun z => absurd (show (nI t.wr) = (nI t.wr) from rfl) z) (fun _ => ?_)
      refine lv_aload_n hx hb dX4_isSame_141 rfl (lv_at hl 6 rfl) ?_
      refine zl_C (As := []) (rest := []) F (q_candidates l G a hR) gX4_isSame_X3_candidates rfl rfl rfl zd_X3_candidates ⟨(Nat.le_of_ble_eq_true rfl), (Nat.le_of_ble_eq_true rfl)⟩ rfl rfl (Nat.le_of_ble_eq_true rfl) dX4_isSame_142 ⟨(Nat.le_of_ble_eq_true rfl), (Nat.le_of_ble_eq_true rfl)⟩ hK hP hD hS hA hl.1 (fun c H locs hR hP hD hS => ?_)
      refine lv_aload_n hx hb dX4_isSame_145 rfl (lv_at hl 5 rfl) ?_
      refine va_get (D := G.1) (ci := 4) (v := .ref sl) (C := RX4) (T := TX4) (N := 4) hx hb hts in_X4_isSame_X4 hown hK.1 hP 17 rfl rfl 3 (by decide) (hts (.fieldLink RX4 23 "JarRiddleLaw$Sim" "left" "[[I") (by decide +kernel)) (fun _ h9 => h9) rfl dX4_isSame_146 ?_
      refine zr_alenQ hx hb hK hP 21 rfl dX4_isSame_149 ?_
      refine lv_icmp_ne (tgt := 166) hx hb dX4_isSame_150 (by decide) (fun z => absurd (show (nI (zNm C 729)) = (nI rows.length) from (congrArg nI hlen.symm)) z) (fun _ => ?_)
      refine lv_aload_n hx hb dX4_isSame_153 rfl (lv_at hl 6 rfl) ?_
      refine zl_C (As := []) (rest := []) F (q_meanAmount l G a hR) gX4_isSame_X3_meanAmount rfl rfl rfl zd_X3_meanAmount ⟨(Nat.le_of_ble_eq_true rfl), (Nat.le_of_ble_eq_true rfl)⟩ rfl rfl (Nat.le_of_ble_eq_true rfl) dX4_isSame_154 ⟨(Nat.le_of_ble_eq_true rfl), (Nat.le_of_ble_eq_true rfl)⟩ hK hP hD hS hA hl.1 (fun c H locs hR hP hD hS => ?_)
      refine lv_iload_n hx hb dX4_isSame_157 rfl (lv_at hl 3 rfl) ?_
      refine lv_i2d hx hb dX4_isSame_158 ?_
      refine lv_iload_n hx hb dX4_isSame_159 rfl (lv_at hl 4 rfl) ?_
      refine lv_i2d hx hb dX4_isSame_160 ?_
      refine lv_ddiv hx hb dX4_isSame_161 (by rw [← zMean_eq _ _ hz]; exact hmean) ?_
      refine lv_dcmp hx hb dX4_isSame_162 ?_
      refine lv_if_eq (tgt := 168) hx hb dX4_isSame_163 (by decide) (fun _ => ?_) (fun z => absurd (show (Op.cmpValue (FP.dcmp (zMean (zn V) (X 0 + X 1 + X 2)) (FP.ddiv (FP.i2d (nI (X 0 + X 1 + X 2))) (FP.i2d (nI (zn V))))) .l) = (nI 0) from (show Op.cmpValue (FP.dcmp (zMean (zn V) (X 0 + X 1 + X 2)) (FP.ddiv (FP.i2d (nI (X 0 + X 1 + X 2))) (FP.i2d (nI (zn V))))) _ = 0 by rw [← zMean_eq _ _ hz, hmc]; rfl)) z)
      refine lv_iconst (v := nI 0) hx hb dX4_isSame_168 (by decide) ?_
      refine lv_istore (lv' := [(4, .int (nI 0)), (6, .int (nI (zn V))), (5, .int (nI (zn V))), (3, .int (nI (X 0 + X 1 + X 2))), (2, .int (nI (zn V))), (0, .ref sh), (1, .ref (a 0))]) hx hb dX4_isSame_169 hl (by decide) rfl (fun ls hl => ?_)
      exact loopJ (zn V) 0 c H locs ls (by omega) hR hP hD hS (lv_sub hl [0, 4, 5, 6] rfl)
    | succ r ih =>
      intro k ls hk hl
      refine lv_iload hx hb dX4_isSame_22 (lv_at hl 0 rfl) ?_
      refine lv_iload hx hb dX4_isSame_24 (lv_at hl 1 rfl) ?_
      refine lv_icmp_ge (tgt := 47) hx hb dX4_isSame_26 (by decide) (fun z => absurd z (show ¬ (nI (zn V)) ≤ (nI k) from (nI_ge (by omega) (by omega)))) (fun _ => ?_)
      refine lv_aload hx hb dX4_isSame_29 (lv_at hl 2 rfl) ?_
      refine lv_iload hx hb dX4_isSame_31 (lv_at hl 0 rfl) ?_
      refine zr_iald (v := (nI (X k))) hx hb hK hP 19 rfl (by omega) (by omega) (zar_at (by omega)) dX4_isSame_33 ?_
      refine lv_istore (lv' := [(7, .int (nI (X k))), (6, .int (nI k)), (5, .int (nI (zn V))), (4, .ref sa), (3, .int (nI (zsum X k))), (2, .int (nI (zn V))), (0, .ref sh), (1, .ref (a 0))]) hx hb dX4_isSame_34 hl (by decide) rfl (fun ls hl => ?_)
      refine lv_iload_n hx hb dX4_isSame_36 rfl (lv_at hl 4 rfl) ?_
      refine lv_iload hx hb dX4_isSame_37 (lv_at hl 0 rfl) ?_
      refine lv_iadd hx hb dX4_isSame_39 ?_
      refine zt_top (v := (nI (zsum X (k + 1)))) ((nI_add (zsum X k) (X k)).trans (congrArg nI (rfl))) ?_
      refine lv_istore_n (lv' := [(3, .int (nI (zsum X (k + 1)))), (7, .int (nI (X k))), (6, .int (nI k)), (5, .int (nI (zn V))), (4, .ref sa), (2, .int (nI (zn V))), (0, .ref sh), (1, .ref (a 0))]) hx hb dX4_isSame_40 rfl hl (by decide) rfl (fun ls hl => ?_)
      refine lv_iinc (v := (nI (k + 1))) (lv' := [(6, .int (nI (k + 1))), (3, .int (nI (zsum X (k + 1)))), (7, .int (nI (X k))), (5, .int (nI (zn V))), (4, .ref sa), (2, .int (nI (zn V))), (0, .ref sh), (1, .ref (a 0))]) hx hb dX4_isSame_41 hl (k := 2) rfl (nI_1 k) (by decide) rfl (fun ls hl => ?_)
      refine lv_goto (tgt := 22) hx hb dX4_isSame_44 (by decide) ?_
      exact ih (k + 1) ls (by omega) (lv_sub hl [0, 3, 4, 1, 5, 6, 7] rfl)
  refine lv_aload_n hx hb dX4_isSame_0 rfl (lv_at hl 0 rfl) ?_
  refine va_get (D := G.1) (ci := 4) (v := .ref sv) (C := RX4) (T := TX4) (N := 4) hx hb hts in_X4_isSame_X4 hown hK.1 hP 17 rfl rfl 0 (by decide) (hts (.fieldLink RX4 7 "JarRiddleLaw$Sim" "volume" "[I") (by decide +kernel)) (fun _ h9 => h9) rfl dX4_isSame_1 ?_
  refine zr_alen hx hb hK hP 18 rfl dX4_isSame_4 ?_
  refine lv_istore_n (lv' := [(2, .int (nI (zn V))), (0, .ref sh), (1, .ref (a 0))]) hx hb dX4_isSame_5 rfl hl (by decide) rfl (fun ls hl => ?_)
  refine lv_iconst (v := nI 0) hx hb dX4_isSame_6 (by decide) ?_
  refine lv_istore_n (lv' := [(3, .int (nI 0)), (2, .int (nI (zn V))), (0, .ref sh), (1, .ref (a 0))]) hx hb dX4_isSame_7 rfl hl (by decide) rfl (fun ls hl => ?_)
  refine lv_aload_n hx hb dX4_isSame_8 rfl (lv_at hl 2 rfl) ?_
  refine va_get (D := G.1) (ci := 4) (v := .ref sa) (C := RX4) (T := TX4) (N := 4) hx hb hts in_X4_isSame_X4 hown hK.1 hP 17 rfl rfl 1 (by decide) (hts (.fieldLink RX4 13 "JarRiddleLaw$Sim" "amount" "[I") (by decide +kernel)) (fun _ h9 => h9) rfl dX4_isSame_9 ?_
  refine lv_astore (lv' := [(4, .ref sa), (3, .int (nI 0)), (2, .int (nI (zn V))), (0, .ref sh), (1, .ref (a 0))]) hx hb dX4_isSame_12 hl (by decide) rfl (fun ls hl => ?_)
  refine lv_aload hx hb dX4_isSame_14 (lv_at hl 0 rfl) ?_
  refine zr_alen hx hb hK hP 19 rfl dX4_isSame_16 ?_
  refine lv_istore (lv' := [(5, .int (nI (zn V))), (4, .ref sa), (3, .int (nI 0)), (2, .int (nI (zn V))), (0, .ref sh), (1, .ref (a 0))]) hx hb dX4_isSame_17 hl (by decide) rfl (fun ls hl => ?_)
  refine lv_iconst (v := nI 0) hx hb dX4_isSame_19 (by decide) ?_
  refine lv_istore (lv' := [(6, .int (nI 0)), (5, .int (nI (zn V))), (4, .ref sa), (3, .int (nI 0)), (2, .int (nI (zn V))), (0, .ref sh), (1, .ref (a 0))]) hx hb dX4_isSame_20 hl (by decide) rfl (fun ls hl => ?_)
  exact loopS (zn V) 0 ls (by omega) (lv_sub hl [0, 1, 2, 3, 4, 5, 6] rfl)
