/-! the law from its entry -/
theorem zN_in : ∀ w ∈ zN, w ∈ lw_tbl := lw_mem [347, 63, 87, 44, 58, 82, 711] (by decide +kernel)
theorem zB_in : ∀ w ∈ zB, w ∈ lw_tbl := lw_mem [621, 164, 315, 394, 166, 168, 170] (by decide +kernel)
theorem zStr_in : ∀ w ∈ zStr.map (fun q => Cond.stringRef "JarRiddle" q.1 q.2), w ∈ lw_tbl := lw_mem [691, 322, 466, 697, 401, 551, 203, 513, 233] (by decide +kernel)
theorem zNc_in : ∀ q ∈ zNc, Cond.not (Cond.castable q.1 q.2) ∈ flatC (Jvm.Cond.and given_1 narrow_1) := by decide +kernel
theorem z_arr {s : State} {args : Array Value} {ty : FieldType} (h : (Cond.arrayClass ty).before args s = true) (hv : ∀ (U : State) (cA : ClassId), U.vm.findClass ("[" ++ ty.toString) = some cA → va_RA U cA ty) : ∃ cA : ClassId, ArrOfT s cA ty ∧ va_RA s cA ty := by
  obtain ⟨cA, kA, comp, h1, h2, h3⟩ := Cond.arrayClass_spec h
  exact ⟨cA, fun n z => ⟨fun k h => (by cases h), kA, h2, comp, h3⟩, hv s cA h1⟩
/-- what the tables say, at the law's entry -/
theorem zK_start {s : State} {b : Nat} (hts : ∀ w ∈ lw_tbl, w.before #[Value.ref b] s = true) (hgv : (Jvm.Cond.and given_1 narrow_1).before #[Value.ref b] s = true) : ∃ G : zG, zK G s := by
  obtain ⟨c0, i0, k0⟩ := u_known (C := RX0) (T := TX0) (N := 5) (n := 5) hts nX0 (hts (.instantiable RX0 5) (List.mem_of_getElem? (i := 81) (by decide +kernel)))
  obtain ⟨c1, i1, k1⟩ := u_known (C := RX1) (T := TX1) (N := 2) (n := 2) hts nX1 (hts (.instantiable RX1 2) (List.mem_of_getElem? (i := 43) (by decide +kernel)))
  obtain ⟨c2, i2, k2⟩ := u_known (C := RX2) (T := TX2) (N := 5) (n := 5) hts nX2 (hts (.instantiable RX2 5) (List.mem_of_getElem? (i := 57) (by decide +kernel)))
  obtain ⟨c3, i3, k3⟩ := u_known (C := RX3) (T := TX3) (N := 9) (n := 9) hts nX3 (hts (.instantiable RX3 9) (List.mem_of_getElem? (i := 35) (by decide +kernel)))
  obtain ⟨c4, i4, k4⟩ := u_known (C := RX4) (T := TX4) (N := 4) (n := 4) hts nX4 (hts (.instantiable RX4 4) (List.mem_of_getElem? (i := 710) (by decide +kernel)))
  obtain ⟨x0, ax0, rx0⟩ := z_arr (ty := .int) (hts (.arrayClass .int) (List.mem_of_getElem? (i := 55) (by decide +kernel))) (fun _ _ h => h)
  have hov := hts (Cond.arrayOver (.array .int)) (List.mem_of_getElem? (i := 623) (by decide +kernel))
  obtain ⟨comp, x1, kA, h1, -, h3, h4, h5⟩ := arrayOverA_spec hov
  have hcomp : comp = x0 := Option.some.inj (h1.symm.trans (va_nm_int rx0))
  subst hcomp
  refine ⟨((fun k => if k = 0 then c0 else if k = 1 then c1 else if k = 2 then c2 else if k = 3 then c3 else c4, fun k => if k = 0 then i0 else if k = 1 then i1 else if k = 2 then i2 else if k = 3 then i3 else i4), comp, x1, x1), ⟨?_, ?_⟩, fun w hw => va_Nw.of (zN_tab w hw) (hts w (zN_in w hw)), fun q hq => ?_, fun w hw => va_Nw.of (zB_tab w hw) (hts w (zB_in w hw)), fun q hq => va_Nc.of (flat_of_before _ hgv _ (zNc_in q hq)), zAA_over hov, h5, kA, h3, h4⟩
  · intro k q hq
    match k, hq with
    | 0, hq => cases hq; exact k0
    | 1, hq => cases hq; exact k1
    | 2, hq => cases hq; exact k2
    | 3, hq => cases hq; exact k3
    | 4, hq => cases hq; exact k4
    | k + 5, hq => simp [vwCl] at hq
  · intro k q hq
    match k, hq with
    | 0, hq => cases hq; exact ⟨ax0, rx0⟩
    | 1, hq => cases hq; exact ⟨fun n z => ⟨fun k h => (by cases h), kA, h3, comp, h4⟩, h5⟩
    | k + 2, hq => simp [zT] at hq
  · have h := hts _ (zStr_in _ (List.mem_map_of_mem hq))
    obtain ⟨k, cf, i, sa, -, -, -, -, -, h3⟩ := Cond.stringRef_spec (cls := "JarRiddle") k3.2.1 h
    exact ⟨sa, vk_R.of h h3⟩
def zAd (jh rh rv ra wh sh sv sa wd wf wo gh ih iv ia gl gs k : Nat) : Nat := [jh, rh, rv, ra, wh, sh, sv, sa, wd, wf, wo, gh, ih, iv, ia, gl, gs].getD k 0
def zc01 : zS := ((f_X3_begin (fun _ => 0) (fun _ => 0) 0 (fun _ => 0) 0 0 0 0 0 0 0 0 1 1 0).1, (f_X3_begin (fun _ => 0) (fun _ => 0) 0 (fun _ => 0) 0 0 0 0 0 0 0 0 1 1 0).2.1, (fun _ => 0), (fun _ => 0), (fun _ => 0), (fun _ => 0), (fun _ => 0), (f_X3_begin (fun _ => 0) (fun _ => 0) 0 (fun _ => 0) 0 0 0 0 0 0 0 0 1 1 0).2.2.1, (fun _ => 0), (fun _ => 0), (f_X3_begin (fun _ => 0) (fun _ => 0) 0 (fun _ => 0) 0 0 0 0 0 0 0 0 1 1 0).2.2.2.1, (fun _ => 0), (f_X3_begin (fun _ => 0) (fun _ => 0) 0 (fun _ => 0) 0 0 0 0 0 0 0 0 1 1 0).2.2.2.2.1, (f_X3_begin (fun _ => 0) (fun _ => 0) 0 (fun _ => 0) 0 0 0 0 0 0 0 0 1 1 0).2.2.2.2.2.1, (f_X3_begin (fun _ => 0) (fun _ => 0) 0 (fun _ => 0) 0 0 0 0 0 0 0 0 1 1 0).2.2.2.2.2.2.1, (f_X3_begin (fun _ => 0) (fun _ => 0) 0 (fun _ => 0) 0 0 0 0 0 0 0 0 1 1 0).2.2.2.2.2.2.2.1, (f_X3_begin (fun _ => 0) (fun _ => 0) 0 (fun _ => 0) 0 0 0 0 0 0 0 0 1 1 0).2.2.2.2.2.2.2.2.1, (f_X3_begin (fun _ => 0) (fun _ => 0) 0 (fun _ => 0) 0 0 0 0 0 0 0 0 1 1 0).2.2.2.2.2.2.2.2.2.1, (f_X3_begin (fun _ => 0) (fun _ => 0) 0 (fun _ => 0) 0 0 0 0 0 0 0 0 1 1 0).2.2.2.2.2.2.2.2.2.2.1, (f_X3_begin (fun _ => 0) (fun _ => 0) 0 (fun _ => 0) 0 0 0 0 0 0 0 0 1 1 0).2.2.2.2.2.2.2.2.2.2.2)
theorem q_new3 (l : Launch) (G : zG) (jh : Nat) : zC l G yX3_init wsX3_init rm_X3_init 16 3827 [.ref jh] ([(jh, .inr (3, [.null, .null, .null, .int 0, .int 0, .int 0, .int 0, .int 0, .int 0]))] : va_W) none (fun u : Nat × Nat × Nat × Nat × Nat × Nat × Nat × Nat × Nat × Nat × Nat × Nat × Nat × Nat × Nat × Nat => w_X3 G jh u.1 u.2.1 u.2.2.1 u.2.2.2.1 u.2.2.2.2.1 u.2.2.2.2.2.1 u.2.2.2.2.2.2.1 u.2.2.2.2.2.2.2.1 u.2.2.2.2.2.2.2.2.1 u.2.2.2.2.2.2.2.2.2.1 u.2.2.2.2.2.2.2.2.2.2.1 u.2.2.2.2.2.2.2.2.2.2.2.1 u.2.2.2.2.2.2.2.2.2.2.2.2.1 u.2.2.2.2.2.2.2.2.2.2.2.2.2.1 u.2.2.2.2.2.2.2.2.2.2.2.2.2.2.1 u.2.2.2.2.2.2.2.2.2.2.2.2.2.2.2 zc01.vr zc01.ar zc01.vs zc01.asF zc01.ds zc01.fa zc01.od zc01.rd zc01.vi zc01.ai zc01.hd zc01.sn zc01.jc zc01.lf zc01.ad zc01.pd zc01.sp zc01.tk zc01.gm zc01.gw) := by
  have h := c_X3_init l G jh
  dsimp only [zc01, zS.vr, zS.ar, zS.vs, zS.asF, zS.ds, zS.fa, zS.od, zS.rd, zS.vi, zS.ai, zS.hd, zS.sn, zS.jc, zS.lf, zS.ad, zS.pd, zS.sp, zS.tk, zS.gm, zS.gw]
  exact h
set_option maxHeartbeats 4000000 in
set_option maxRecDepth 100000 in
/-- from the entry, for every script of at most 260 ints, the law comes to its end with true -/
theorem whole_start {p : Program} {e : Env} {s : State} {m : MethodId} {below : List Frame} {meth : Method} {c : Code} (l : Launch) (hflags : l.flags = flags0) {b L : Nat} {xs : Nat → Int32} (hL : L ≤ 260) (C0 : lw_At p s m meth c b L xs) : W p l e room_1 s m #[Value.ref b] below meth c s.heap [] 0 0 (lw_Z below #[Value.ref b] s) (entryFrame m ([Value.ref b] : List Value).toArray 19) := by
  obtain ⟨hx, hb, hr, hml, hown, hts, hX, hbl, hlocks, hgv⟩ := id C0
  have hst : l.stackTraces = false := by unfold Launch.stackTraces; rw [hflags]; rfl
  obtain ⟨G, hK⟩ := zK_start hts hgv
  have hA : ∀ q : Nat, s.heap.size ≤ q → (fun q : Nat => s.heap.size ≤ q) q := fun _ h => h
  have hnA : ∀ q : Nat, q < s.heap.size → ¬ (fun q : Nat => s.heap.size ≤ q) q := fun _ h z => absurd h (Nat.not_lt.mpr z)
  have hZ : zZ (fun q => s.heap.size ≤ q) s s.heap := ⟨vx_Zqof (hts _ (List.mem_of_getElem? (i := 189) (by decide +kernel))) (hts _ (List.mem_of_getElem? (i := 26) (by decide +kernel))) (flat_of_before _ hgv _ (by decide +kernel)) hnA, vx_Zqof (hts _ (List.mem_of_getElem? (i := 191) (by decide +kernel))) (hts _ (List.mem_of_getElem? (i := 26) (by decide +kernel))) (flat_of_before _ hgv _ (by decide +kernel)) hnA⟩
  have F : CallFix p m c cL_law 19 s #[.ref b] wsL_law RL := ⟨hx, hb, hml, hown, fun w hw => hts w (wsL_law_in w hw)⟩
  have hS : va_S (fun q : Nat => s.heap.size ≤ q) s.heap s.heap [] := va_S.rf
  have hP : va_P G.1 vwCl [] s.heap := fun k q h => by simp at h
  have hD : va_D (fun q : Nat => s.heap.size ≤ q) [] := ⟨fun i j p q h => by simp at h, fun k q h => by simp at h⟩
  have hl := lv_entry ([.ref b]) (n := 19) (Nat.le_of_ble_eq_true rfl)
  rw [lg_entry_eq]
  generalize (lg_sl ([.ref b]) ++ List.replicate (19 - (lg_sl ([.ref b])).length) Slot.unset).toArray = ls at hl ⊢
  have hl : lv_has ls 19 [(0, .ref b)] := hl
  refine va_new (ci := 3) (fs := [.null, .null, .null, .int 0, .int 0, .int 0, .int 0, .int 0, .int 0]) (C := RX3) (T := TX3) (N := 9) hx hb hts nX3 tyX3 tyX3_ok hown (hts (.classLink RL 10 RX3) (List.mem_of_getElem? (i := 34) (by decide +kernel))) (hts (.instantiable RX3 9) (List.mem_of_getElem? (i := 35) (by decide +kernel))) (hts (.initialized RX3) (List.mem_of_getElem? (i := 20) (by decide +kernel))) hK.1 hP hD hS hA rfl (fun j hj => by rcases (show j = 0 ∨ j = 1 ∨ j = 2 ∨ j = 3 ∨ j = 4 ∨ j = 5 ∨ j = 6 ∨ j = 7 ∨ j = 8 by omega) with rfl | rfl | rfl | rfl | rfl | rfl | rfl | rfl | rfl <;> rfl) (Nat.le_of_ble_eq_true rfl) (Nat.le_of_ble_eq_true rfl) dL_law_0 (fun jh H hP hD hS => ?_)
  have hP : va_P G.1 vwCl ([(jh, .inr (3, [.null, .null, .null, .int 0, .int 0, .int 0, .int 0, .int 0, .int 0]))] : va_W) H := hP
  have hD : va_D (fun q : Nat => s.heap.size ≤ q) ([(jh, .inr (3, [.null, .null, .null, .int 0, .int 0, .int 0, .int 0, .int 0, .int 0]))] : va_W) := hD
  refine lv_dup hx hb dL_law_3 rfl ?_
  refine z_callI (As := []) (rest := [.ref jh]) (wr := []) (w1 := fun u : Nat × Nat × Nat × Nat × Nat × Nat × Nat × Nat × Nat × Nat × Nat × Nat × Nat × Nat × Nat × Nat => w_X3 G jh u.1 u.2.1 u.2.2.1 u.2.2.2.1 u.2.2.2.2.1 u.2.2.2.2.2.1 u.2.2.2.2.2.2.1 u.2.2.2.2.2.2.2.1 u.2.2.2.2.2.2.2.2.1 u.2.2.2.2.2.2.2.2.2.1 u.2.2.2.2.2.2.2.2.2.2.1 u.2.2.2.2.2.2.2.2.2.2.2.1 u.2.2.2.2.2.2.2.2.2.2.2.2.1 u.2.2.2.2.2.2.2.2.2.2.2.2.2.1 u.2.2.2.2.2.2.2.2.2.2.2.2.2.2.1 u.2.2.2.2.2.2.2.2.2.2.2.2.2.2.2 zc01.vr zc01.ar zc01.vs zc01.asF zc01.ds zc01.fa zc01.od zc01.rd zc01.vi zc01.ai zc01.hd zc01.sn zc01.jc zc01.lf zc01.ad zc01.pd zc01.sp zc01.tk zc01.gm zc01.gw) (wj := fun u : Nat × Nat × Nat × Nat × Nat × Nat × Nat × Nat × Nat × Nat × Nat × Nat × Nat × Nat × Nat × Nat => w_X3 G jh u.1 u.2.1 u.2.2.1 u.2.2.2.1 u.2.2.2.2.1 u.2.2.2.2.2.1 u.2.2.2.2.2.2.1 u.2.2.2.2.2.2.2.1 u.2.2.2.2.2.2.2.2.1 u.2.2.2.2.2.2.2.2.2.1 u.2.2.2.2.2.2.2.2.2.2.1 u.2.2.2.2.2.2.2.2.2.2.2.1 u.2.2.2.2.2.2.2.2.2.2.2.2.1 u.2.2.2.2.2.2.2.2.2.2.2.2.2.1 u.2.2.2.2.2.2.2.2.2.2.2.2.2.2.1 u.2.2.2.2.2.2.2.2.2.2.2.2.2.2.2 zc01.vr zc01.ar zc01.vs zc01.asF zc01.ds zc01.fa zc01.od zc01.rd zc01.vi zc01.ai zc01.hd zc01.sn zc01.jc zc01.lf zc01.ad zc01.pd zc01.sp zc01.tk zc01.gm zc01.gw) F (q_new3 l G jh) gL_law_X3_init (hts (.initialized RX3) (List.mem_of_getElem? (i := 20) (by decide +kernel))) (hts (.methodLink RL 58 yX3_init) (List.mem_of_getElem? (i := 36) (by decide +kernel))) (hts (.instanceMethod yX3_init) (List.mem_of_getElem? (i := 37) (by decide +kernel))) rfl rfl rfl rfl zd_X3_init ⟨Nat.le_of_ble_eq_true rfl, Nat.le_of_ble_eq_true rfl⟩ rfl rfl (Nat.le_of_ble_eq_true rfl) dL_law_4 ⟨Nat.le_of_ble_eq_true rfl, Nat.le_of_ble_eq_true rfl⟩ hK hP hD hS hA hl.1 [0] [] [0, 1, 2, 3, 4, 5, 6, 7, 8, 9, 10, 11, 12, 13, 14, 15, 16] rfl rfl rfl rfl (by decide) rfl (fun _ => rfl) (fun u H locs hP hD hS => ?_)
  obtain ⟨rh, rv, ra, wh, sh, sv, sa, wd, wf, wo, gh, ih, iv, ia, gl, gs⟩ := u
  have hP : va_P G.1 vwCl (w_X3 G jh rh rv ra wh sh sv sa wd wf wo gh ih iv ia gl gs zc01.vr zc01.ar zc01.vs zc01.asF zc01.ds zc01.fa zc01.od zc01.rd zc01.vi zc01.ai zc01.hd zc01.sn zc01.jc zc01.lf zc01.ad zc01.pd zc01.sp zc01.tk zc01.gm zc01.gw) H := hP
  have hD : va_D (fun q : Nat => s.heap.size ≤ q) (w_X3 G jh rh rv ra wh sh sv sa wd wf wo gh ih iv ia gl gs zc01.vr zc01.ar zc01.vs zc01.asF zc01.ds zc01.fa zc01.od zc01.rd zc01.vi zc01.ai zc01.hd zc01.sn zc01.jc zc01.lf zc01.ad zc01.pd zc01.sp zc01.tk zc01.gm zc01.gw) := hD
  have hP : va_P G.1 vwCl (zCW3 G (zAd jh rh rv ra wh sh sv sa wd wf wo gh ih iv ia gl gs) zc01 ++ []) H := by rw [List.append_nil]; exact hP
  have hD : va_D (fun q : Nat => s.heap.size ≤ q) (zCW3 G (zAd jh rh rv ra wh sh sv sa wd wf wo gh ih iv ia gl gs) zc01 ++ []) := by rw [List.append_nil]; exact hD
  have hbA : ¬ (fun q : Nat => s.heap.size ≤ q) b := Nat.not_le.mpr hbl
  refine lv_astore_n (lv' := [(1, .ref jh), (0, .ref b)]) hx hb dL_law_7 rfl hl (by decide) rfl (fun ls hl => ?_)
  refine lv_aload_n hx hb dL_law_8 rfl (lv_at hl 0 rfl) ?_
  refine lv_aload_n hx hb dL_law_9 rfl (lv_at hl 1 rfl) ?_
  refine zr_SB (As := [.ref jh, .ref b]) (rest := []) (wr := []) F (l_build l G (zAd jh rh rv ra wh sh sv sa wd wf wo gh ih iv ia gl gs) (b := b) (L := L) (xs := xs) zc01 (by omega)) gL_law_L_build rfl rfl rfl zd_L_build ⟨(Nat.le_of_ble_eq_true rfl), (Nat.le_of_ble_eq_true rfl)⟩ rfl rfl (Nat.le_of_ble_eq_true rfl) dL_law_10 ⟨(Nat.le_of_ble_eq_true rfl), (Nat.le_of_ble_eq_true rfl)⟩ hX hbl hbA hK hP hD hS hA hl.1 (List.Perm.refl _) (fun u9 H locs hP hD hS => ?_)
  obtain ⟨⟨sh9, w9⟩, V, X, C, t, c1, ⟨sv1, sa1, sc1, sl1, rows⟩, hL0, hw9⟩ := u9
  have hw9 : w9 = zCW3 G (zAd jh rh rv ra wh sh sv sa wd wf wo gh ih iv ia gl gs) c1 ++ zSW G sh9 (zn V) V X t (sv1, sa1, sc1, sl1, rows) := hw9
  subst hw9
  rw [List.append_nil] at hP hD
  refine lv_astore_n (lv' := [(2, .ref sh9), (1, .ref jh), (0, .ref b)]) hx hb dL_law_13 rfl hl (by decide) rfl (fun ls hl => ?_)
  refine lv_aload_n hx hb dL_law_14 rfl (lv_at hl 0 rfl) ?_
  refine lv_ifnonnull (tgt := 20) hx hb dL_law_15 (by decide) ?_
  refine lv_iconst (v := nI 0) hx hb dL_law_20 (by decide) ?_
  refine lv_istore_n (lv' := [(3, .int (nI 0)), (2, .ref sh9), (1, .ref jh), (0, .ref b)]) hx hb dL_law_21 rfl hl (by decide) rfl (fun ls hl => ?_)
  exact lw_loop (a := (zAd jh rh rv ra wh sh sv sa wd wf wo gh ih iv ia gl gs)) F hst hK hZ hX hbl hL hts hr hlocks 8 0 V X C t c1 sv1 sa1 sc1 sl1 rows _ _ H locs ls rfl hL0 (Nat.le_of_ble_eq_true rfl) (Nat.le_of_ble_eq_true rfl) hP hD hS (lv_sub hl [0, 3, 2, 1] rfl)
