/-! the law's own jars: an act of all candidates -/
section ZSK
variable {p : Program} {l : Launch} {e : Env} {R : Room} {s : State} {m : MethodId} {args : Array Value} {below : List Frame} {meth : Method} {c : Code} {H : Heap} {locs : List Loc} {cells slots : Nat} {Q : State → Prop}
variable {cc bytes : ByteArray} {pc nL maxL mc ms n index : Nat} {ls : Array Slot} {rest st0 : List Value} {A : Nat → Prop} {G : zG} {own : String} {Ts ws ws' : List Cond} {y : MethodName} {ret : Option FieldType} {rm : Room}
/-- invokestatic of what keeps one cell of ours and adds to it -/
theorem zr_SK {S : Type} {rv : S → Option Value} {nw : S → va_W} {x : Nat × va_E} {ws0 : va_W} {As : List Value}
    (F : CallFix p m c cc nL s args Ts own) (hM : zCr l G y ws rm mc ms As [x] rv (fun u => x :: nw u)) (hG : GoodIn Ts (va_wsS own index y ws)) (hw : ws = Cond.code y bytes maxL ret :: ws') (hrc : rm.cells = mc) (hrs : rm.slots = ms)
    (hd : y.cls ≠ "java/lang/invoke/MethodHandle" ∧ y.cls ≠ "java/lang/invoke/VarHandle" ∧ (parseMethodDescriptor y.desc).map (fun d => d.parameters.length) = some n) (hR9 : rm.frames + 1 ≤ R.frames ∧ 8 + (maxL + 11) + rm.locals ≤ R.locals)
    (hn9 : As.length = n) (hst : st0 = As.reverse ++ rest) (hW : (rest.map fun v => v.category).sum ≤ 8) (hdg : decode cc pc = .ok (.invokestatic index, 3)) (hf9 : cells + mc ≤ R.cells ∧ slots + ms ≤ R.slots)
    (hK : zK G s) (hP : va_P G.1 vwCl ws0 H) (hD : va_D A ws0) (hS : va_S A s.heap H locs) (hA : ∀ q : Nat, s.heap.size ≤ q → A q) (hls : ls.size = nL) (hx : x ∈ ws0)
    (kk : ∀ (u : S) (H1 : Heap) (locs1 : List Loc), va_P G.1 vwCl (ws0 ++ nw u) H1 → va_D A (ws0 ++ nw u) → va_S A s.heap H1 locs1 → W p l e R s m args below meth c H1 locs1 (cells + mc) (slots + ms) Q (F0 m (pc + 3) ls ((rv u).toList ++ rest))) :
    W p l e R s m args below meth c H locs cells slots Q (F0 m pc ls st0) := by
  obtain ⟨l1, l2, rfl⟩ := List.append_of_mem hx
  refine zr_S (wr := l1 ++ l2) F hM hG hw hrc hrs hd hR9 hn9 hst hW hdg hf9 hK hP hD hS hA hls List.perm_middle (fun u H1 locs1 hP hD hS => ?_)
  have hq : List.Perm ((x :: nw u) ++ (l1 ++ l2)) ((l1 ++ x :: l2) ++ nw u) :=
    (List.Perm.cons x (List.perm_append_comm (l₁ := nw u) (l₂ := l1 ++ l2))).trans (List.Perm.append_right (nw u) (List.perm_middle (l₁ := l1) (l₂ := l2) (a := x)).symm)
  exact kk u H1 locs1 (hP.perm hq) (hD.perm hq) hS
end ZSK
theorem zpm_vs {a b c : Nat × va_E} {T : va_W} : List.Perm (a :: b :: c :: T) (b :: c :: a :: T) := (List.Perm.swap b a (c :: T)).trans ((List.Perm.swap c a T).cons b)
theorem zkt_0 (t : zU) : upd (zkt t) 0 (nI (t.ac + 1)) = zkt (t.ac + 1, t.po, t.si, t.ta, t.gu, t.wr) := by
  funext i; unfold zkt upd; by_cases q : i = 0
  · subst q; rfl
  · dsimp only; simp only [if_neg q]
theorem zkt_1 (t : zU) (x : Nat) : upd (zkt t) 1 (nI (t.po + x)) = zkt (t.ac, t.po + x, t.si, t.ta, t.gu, t.wr) := by
  funext i; unfold zkt upd; by_cases q : i = 1
  · subst q; rfl
  · dsimp only; simp only [if_neg q]
theorem zkt_2 (t : zU) (x : Nat) : upd (zkt t) 2 (nI (t.si + x)) = zkt (t.ac, t.po, t.si + x, t.ta, t.gu, t.wr) := by
  funext i; unfold zkt upd; by_cases q : i = 2
  · subst q; rfl
  · dsimp only; simp only [if_neg q]
theorem zkt_3 (t : zU) (x : Nat) : upd (zkt t) 3 (nI (t.ta + x)) = zkt (t.ac, t.po, t.si, t.ta + x, t.gu, t.wr) := by
  funext i; unfold zkt upd; by_cases q : i = 3
  · subst q; rfl
  · dsimp only; simp only [if_neg q]
/-- the rows while they are gone through: the first ones new, then the old ones -/
def zlf2 (new rows : zRows) : Nat → Option Nat := fun i => if i < new.length then zlf new i else zlf rows i
def zlfk (new : zRows) (k : Nat) : Nat → Option Nat := fun i => if i < k then zlf new i else none
theorem zlf_at {rows : zRows} {k : Nat} {r : Nat × Nat × Nat} (h : rows[k]? = some r) : zlf rows k = some r.1 := by unfold zlf; rw [h]; rfl
theorem zlf2_0 (rows : zRows) : zlf2 [] rows = zlf rows := by funext i; unfold zlf2; rw [if_neg (by simp)]
theorem zlf2_old {new rows : zRows} {k : Nat} {r : Nat × Nat × Nat} (h : rows[k]? = some r) (hk : new.length ≤ k) : zlf2 new rows k = some r.1 := by
  unfold zlf2; rw [if_neg (by omega)]; exact zlf_at h
theorem zlf2_new {new rows : zRows} {k : Nat} {r : Nat × Nat × Nat} (h : new[k]? = some r) : zlf2 new rows k = some r.1 := by
  unfold zlf2; rw [if_pos (List.getElem?_eq_some_iff.mp h).1]; exact zlf_at h
theorem zlf2_add (new rows : zRows) (r : Nat × Nat × Nat) : va_up (zlf2 new rows) new.length (some r.1) = zlf2 (new ++ [r]) rows := by
  funext i
  unfold va_up zlf2 zlf
  rw [List.length_append, List.length_singleton]
  by_cases q : i = new.length
  · subst q; rw [if_pos rfl, if_pos (by omega), List.getElem?_append_right (by omega), Nat.sub_self]; rfl
  · rw [if_neg q]
    by_cases z : i < new.length
    · rw [if_pos z, if_pos (by omega), List.getElem?_append_left z]
    · rw [if_neg z, if_neg (by omega)]
theorem zlfk_add {new : zRows} {k : Nat} {r : Nat × Nat × Nat} (h : new[k]? = some r) : va_up (zlfk new k) k (some r.1) = zlfk new (k + 1) := by
  funext i
  unfold va_up zlfk
  by_cases q : i = k
  · subst q; rw [if_pos rfl, if_pos (by omega), zlf_at h]
  · rw [if_neg q]
    by_cases z : i < k
    · rw [if_pos z, if_pos (by omega)]
    · rw [if_neg z, if_neg (by omega)]
theorem zlfk_0 (new : zRows) : (fun _ => none) = zlfk new 0 := by funext i; unfold zlfk; rw [if_neg (by omega)]
theorem zlfk_all (new : zRows) : zlfk new new.length = zlf new := by
  funext i; unfold zlfk zlf; split
  · rfl
  · next h => rw [List.getElem?_eq_none (by omega)]; rfl
/-- a candidate behind an act, where it looks as it must -/
def zgo (n a seen : Nat) (r : Nat × Nat) : Option (Nat × Nat) := if zsi (zcv n r.1) (zmv (zcv n r.1) (zdg r.2) a) n = seen then some (r.1, zbh n a r.1 r.2) else none
theorem zsi_congr {V X Y : Nat → Nat} : ∀ j, (∀ i, i < j → X i = Y i) → zsi V X j = zsi V Y j := by
  intro j
  induction j with
  | zero => intro _; rfl
  | succ j ih => intro h; unfold zsi zsd; rw [ih (fun i hi => h i (by omega)), h j (by omega)]
abbrev rm_X4_go : Room := { frames := 2, cells := 2189, slots := 9483, locals := 80 }
theorem in_X4_go_X4 : ∀ w ∈ u_ws RX4 TX4 4, w ∈ wsX4_go := by decide +kernel
theorem zd_X4_go : yX4_go.cls = RX4 ∧ yX4_go.cls ≠ "java/lang/invoke/MethodHandle" ∧ yX4_go.cls ≠ "java/lang/invoke/VarHandle" ∧ (parseMethodDescriptor yX4_go.desc).map (fun d => d.parameters.length) = some 1 := by decide +kernel
/-- the rows are candidates -/
def zRok (n : Nat) (rows : zRows) : Prop := rows.length ≤ 729 ∧ ∀ r ∈ rows, zOK (zcv n r.2.1) (zdg r.2.2)
set_option maxHeartbeats 4000000 in
set_option maxRecDepth 100000 in
theorem s_go (l : Launch) (G : zG) {n : Nat} {V X : Nat → Nat} {t : zU} {a : Nat} (sh sv sa sc sl : Nat) (rows : zRows) (hn : n = 2 ∨ n = 3) (ok : zOK V X) (hr9 : zRok n rows) (ha : a < 15) (hal : zal n a) : zCr l G yX4_go wsX4_go rm_X4_go 2189 9483 [.ref sh, .int (nI a)] (zSW G sh n V X t (sv, sa, sc, sl, rows)) (fun _ : {u : zSu // u.2.2.2.2.map Prod.snd = (rows.map Prod.snd).filterMap (zgo n a (zsi V (zmv V X a) n))} => some (.int (nI (zm V X a)))) (fun u : {u : zSu // u.2.2.2.2.map Prod.snd = (rows.map Prod.snd).filterMap (zgo n a (zsi V (zmv V X a) n))} => zSW G sh n V (zmv V X a) (zUact V X a t) u.1) := by
  refine z_ofr (cc := cX4_go) (maxL := 7) (ret := (some .int)) (own := RX4) (by decide) rfl rfl (Nat.le_of_ble_eq_true rfl) ?_
  intro p e s m args below meth c A H locs ls F hr hlocks hname hK hA hP hD hS hl
  obtain ⟨hx, hb, hml, hown, hts⟩ := id F
  have hl : lv_has ls 7 [(0, .ref sh), (1, .int (nI a))] := hl
  have hP : va_P G.1 vwCl (([(sh, .inr (4, [.ref sv, .ref sa, .ref sc, .ref sl])), (sv, .inl (G.2.1, n, .inl (zar n V))), (sa, .inl (G.2.1, n, .inl (zar n X))), (sc, .inl (G.2.1, 6, .inl (zkt t))), (sl, .inl (G.2.2.1, rows.length, .inr (.inr (.inr (.inr (zlf rows))))))] : va_W) ++ rows.map (zrc G n)) H := hP
  have hD : va_D A (([(sh, .inr (4, [.ref sv, .ref sa, .ref sc, .ref sl])), (sv, .inl (G.2.1, n, .inl (zar n V))), (sa, .inl (G.2.1, n, .inl (zar n X))), (sc, .inl (G.2.1, 6, .inl (zkt t))), (sl, .inl (G.2.2.1, rows.length, .inr (.inr (.inr (.inr (zlf rows))))))] : va_W) ++ rows.map (zrc G n)) := hD
  have ok2 := zmv_ok ok ha
  have b0 := ok2 0 (by omega)
  have b1 := ok2 1 (by omega)
  have b2 := ok2 2 (by omega)
  have hlen := hr9.1
  have loop2 : ∀ (new : zRows) (mq : Nat), new.length ≤ rows.length → new.map Prod.snd = (rows.map Prod.snd).filterMap (zgo n a (zsi V (zmv V X a) n)) → ∀ (r k : Nat) (H : Heap) (locs : List Loc) (ls : Array Slot), k + r = new.length → va_P G.1 vwCl (([(sh, .inr (4, [.ref sv, .ref sa, .ref sc, .ref sl])), (sv, .inl (G.2.1, n, .inl (zar n V))), (sa, .inl (G.2.1, n, .inl (zar n (zmv V X a)))), (sc, .inl (G.2.1, 6, .inl (zkt (zUact V X a t)))), (sl, .inl (G.2.2.1, rows.length, .inr (.inr (.inr (.inr (zlf2 new rows)))))), (mq, .inl (G.2.2.1, new.length, .inr (.inr (.inr (.inr (zlfk new k))))))] : va_W) ++ (rows.map (zrc G n) ++ new.map (zrc G n))) H → va_D A (([(sh, .inr (4, [.ref sv, .ref sa, .ref sc, .ref sl])), (sv, .inl (G.2.1, n, .inl (zar n V))), (sa, .inl (G.2.1, n, .inl (zar n (zmv V X a)))), (sc, .inl (G.2.1, 6, .inl (zkt (zUact V X a t)))), (sl, .inl (G.2.2.1, rows.length, .inr (.inr (.inr (.inr (zlf2 new rows)))))), (mq, .inl (G.2.2.1, new.length, .inr (.inr (.inr (.inr (zlfk new k))))))] : va_W) ++ (rows.map (zrc G n) ++ new.map (zrc G n))) → va_S A s.heap H locs → lv_has ls 7 [(6, .int (nI k)), (5, .ref mq), (4, .int (nI new.length)), (2, .int (nI (zm V X a))), (0, .ref sh)] → W p l e rm_X4_go s m args below meth c H locs 2189 9483 (MQ below (zQr G (fun _ : {u : zSu // u.2.2.2.2.map Prod.snd = (rows.map Prod.snd).filterMap (zgo n a (zsi V (zmv V X a) n))} => some (.int (nI (zm V X a)))) (fun u : {u : zSu // u.2.2.2.2.map Prod.snd = (rows.map Prod.snd).filterMap (zgo n a (zsi V (zmv V X a) n))} => zSW G sh n V (zmv V X a) (zUact V X a t) u.1) A) args s 2189 9483 A) (F0 m 126 ls []) := by
    intro new mq hnl hnw r
    induction r with
    | zero =>
      intro k H locs ls hk hP hD hS hl
      obtain rfl : k = new.length := by omega
      rw [zlfk_all] at hP hD
      refine lv_iload hx hb dX4_go_126 (lv_at hl 0 rfl) ?_
      refine lv_iload hx hb dX4_go_128 (lv_at hl 2 rfl) ?_
      refine lv_icmp_ge (tgt := 151) hx hb dX4_go_130 (by decide) (fun _ => ?_) (fun z => absurd (show (nI new.length) ≤ (nI new.length) from (nI_le (by omega) (by omega))) z)
      refine lv_aload_n hx hb dX4_go_151 rfl (lv_at hl 4 rfl) ?_
      refine lv_aload hx hb dX4_go_152 (lv_at hl 1 rfl) ?_
      refine va_put (D := G.1) (ci := 4) (v := .ref mq) (ty := .array (.array .int)) (C := RX4) (T := TX4) (N := 4) hx hb hts in_X4_go_X4 tyX4 tyX4_ok nmX4 hown hK.1 hP hD hS 0 rfl rfl 3 (by decide) (hts (.fieldLink RX4 23 "JarRiddleLaw$Sim" "left" "[[I") (by decide +kernel)) (fun _ h9 => h9) rfl (by decide +kernel) rfl rfl (Nat.le_of_ble_eq_true rfl) dX4_go_154 (fun H locs hP hD hS => ?_)
      have hP : va_P G.1 vwCl (([(sh, .inr (4, [.ref sv, .ref sa, .ref sc, .ref mq])), (sv, .inl (G.2.1, n, .inl (zar n V))), (sa, .inl (G.2.1, n, .inl (zar n (zmv V X a)))), (sc, .inl (G.2.1, 6, .inl (zkt (zUact V X a t)))), (sl, .inl (G.2.2.1, rows.length, .inr (.inr (.inr (.inr (zlf2 new rows)))))), (mq, .inl (G.2.2.1, new.length, .inr (.inr (.inr (.inr (zlf new))))))] : va_W) ++ (rows.map (zrc G n) ++ new.map (zrc G n))) H := hP
      have hD : va_D A (([(sh, .inr (4, [.ref sv, .ref sa, .ref sc, .ref mq])), (sv, .inl (G.2.1, n, .inl (zar n V))), (sa, .inl (G.2.1, n, .inl (zar n (zmv V X a)))), (sc, .inl (G.2.1, 6, .inl (zkt (zUact V X a t)))), (sl, .inl (G.2.2.1, rows.length, .inr (.inr (.inr (.inr (zlf2 new rows)))))), (mq, .inl (G.2.2.1, new.length, .inr (.inr (.inr (.inr (zlf new))))))] : va_W) ++ (rows.map (zrc G n) ++ new.map (zrc G n))) := hD
      refine lv_iload_n hx hb dX4_go_157 rfl (lv_at hl 3 rfl) ?_
      have hsl : List.Sublist ([(sh, .inr (4, [.ref sv, .ref sa, .ref sc, .ref mq])), (sv, .inl (G.2.1, n, .inl (zar n V))), (sa, .inl (G.2.1, n, .inl (zar n (zmv V X a)))), (sc, .inl (G.2.1, 6, .inl (zkt (zUact V X a t)))), (mq, .inl (G.2.2.1, new.length, .inr (.inr (.inr (.inr (zlf new))))))] ++ new.map (zrc G n) : va_W) (([(sh, .inr (4, [.ref sv, .ref sa, .ref sc, .ref mq])), (sv, .inl (G.2.1, n, .inl (zar n V))), (sa, .inl (G.2.1, n, .inl (zar n (zmv V X a)))), (sc, .inl (G.2.1, 6, .inl (zkt (zUact V X a t)))), (sl, .inl (G.2.2.1, rows.length, .inr (.inr (.inr (.inr (zlf2 new rows)))))), (mq, .inl (G.2.2.1, new.length, .inr (.inr (.inr (.inr (zlf new))))))] : va_W) ++ (rows.map (zrc G n) ++ new.map (zrc G n))) := List.Sublist.append (((((((List.Sublist.refl _).cons _).cons₂ _).cons₂ _).cons₂ _).cons₂ _)) (List.sublist_append_right _ _)
      have hP := hP.subl hsl
      have hD := hD.subl hsl
      exact zr_iret F hr hlocks hP hD hS ⟨(sv, sa, sc, mq, new), hnw⟩ (List.Perm.refl _) rfl dX4_go_158
    | succ r ih =>
      intro k H locs ls hk hP hD hS hl
      obtain ⟨r9, hr9k⟩ : ∃ r9, new[k]? = some r9 := ⟨_, List.getElem?_eq_getElem (by omega)⟩
      refine lv_iload hx hb dX4_go_126 (lv_at hl 0 rfl) ?_
      refine lv_iload hx hb dX4_go_128 (lv_at hl 2 rfl) ?_
      refine lv_icmp_ge (tgt := 151) hx hb dX4_go_130 (by decide) (fun z => absurd z (show ¬ (nI new.length) ≤ (nI k) from (nI_ge (by omega) (by omega)))) (fun _ => ?_)
      refine lv_aload hx hb dX4_go_133 (lv_at hl 1 rfl) ?_
      refine lv_iload hx hb dX4_go_135 (lv_at hl 0 rfl) ?_
      refine lv_aload_n hx hb dX4_go_137 rfl (lv_at hl 4 rfl) ?_
      refine va_get (D := G.1) (ci := 4) (v := .ref sl) (C := RX4) (T := TX4) (N := 4) hx hb hts in_X4_go_X4 hown hK.1 hP 0 rfl rfl 3 (by decide) (hts (.fieldLink RX4 23 "JarRiddleLaw$Sim" "left" "[[I") (by decide +kernel)) (fun _ h9 => h9) rfl dX4_go_138 ?_
      refine lv_iload hx hb dX4_go_141 (lv_at hl 0 rfl) ?_
      refine zr_qld (b := r9.1) hx hb hK hP 4 rfl (by omega) (by omega) (zlf2_new hr9k) dX4_go_143 ?_
      refine zr_qst (g := zlfk new (k + 1)) hx hb hK hP hD hS 5 rfl (List.mem_append_right _ (List.mem_append_right _ (List.mem_map.mpr ⟨r9, List.mem_of_getElem? hr9k, rfl⟩))) (by omega) (by omega) (zlfk_add hr9k) dX4_go_144 (fun H locs hP hD hS => ?_)
      have hP : va_P G.1 vwCl (([(sh, .inr (4, [.ref sv, .ref sa, .ref sc, .ref sl])), (sv, .inl (G.2.1, n, .inl (zar n V))), (sa, .inl (G.2.1, n, .inl (zar n (zmv V X a)))), (sc, .inl (G.2.1, 6, .inl (zkt (zUact V X a t)))), (sl, .inl (G.2.2.1, rows.length, .inr (.inr (.inr (.inr (zlf2 new rows)))))), (mq, .inl (G.2.2.1, new.length, .inr (.inr (.inr (.inr (zlfk new (k + 1)))))))] : va_W) ++ (rows.map (zrc G n) ++ new.map (zrc G n))) H := hP
      have hD : va_D A (([(sh, .inr (4, [.ref sv, .ref sa, .ref sc, .ref sl])), (sv, .inl (G.2.1, n, .inl (zar n V))), (sa, .inl (G.2.1, n, .inl (zar n (zmv V X a)))), (sc, .inl (G.2.1, 6, .inl (zkt (zUact V X a t)))), (sl, .inl (G.2.2.1, rows.length, .inr (.inr (.inr (.inr (zlf2 new rows)))))), (mq, .inl (G.2.2.1, new.length, .inr (.inr (.inr (.inr (zlfk new (k + 1)))))))] : va_W) ++ (rows.map (zrc G n) ++ new.map (zrc G n))) := hD
      refine lv_iinc (v := (nI (k + 1))) (lv' := [(6, .int (nI (k + 1))), (5, .ref mq), (4, .int (nI new.length)), (2, .int (nI (zm V X a))), (0, .ref sh)]) hx hb dX4_go_145 hl (k := 0) rfl (nI_1 k) (by decide) rfl (fun ls hl => ?_)
      refine lv_goto (tgt := 126) hx hb dX4_go_148 (by decide) ?_
      exact ih (k + 1) H locs ls (by omega) hP hD hS (lv_sub hl [0, 1, 2, 3, 4] rfl)
  have loop1 : ∀ (r k : Nat) (new : zRows) (H : Heap) (locs : List Loc) (ls : Array Slot), k + r = rows.length → new.length ≤ k → new.map Prod.snd = ((rows.take k).map Prod.snd).filterMap (zgo n a (zsi V (zmv V X a) n)) → va_P G.1 vwCl (([(sh, .inr (4, [.ref sv, .ref sa, .ref sc, .ref sl])), (sv, .inl (G.2.1, n, .inl (zar n V))), (sa, .inl (G.2.1, n, .inl (zar n (zmv V X a)))), (sc, .inl (G.2.1, 6, .inl (zkt (zUact V X a t)))), (sl, .inl (G.2.2.1, rows.length, .inr (.inr (.inr (.inr (zlf2 new rows))))))] : va_W) ++ (rows.map (zrc G n) ++ new.map (zrc G n))) H → va_D A (([(sh, .inr (4, [.ref sv, .ref sa, .ref sc, .ref sl])), (sv, .inl (G.2.1, n, .inl (zar n V))), (sa, .inl (G.2.1, n, .inl (zar n (zmv V X a)))), (sc, .inl (G.2.1, 6, .inl (zkt (zUact V X a t)))), (sl, .inl (G.2.2.1, rows.length, .inr (.inr (.inr (.inr (zlf2 new rows))))))] : va_W) ++ (rows.map (zrc G n) ++ new.map (zrc G n))) → va_S A s.heap H locs → lv_has ls 7 [(5, .int (nI k)), (4, .int (nI new.length)), (3, .int (nI (zsi V (zmv V X a) n))), (2, .int (nI (zm V X a))), (0, .ref sh), (1, .int (nI a))] → W p l e rm_X4_go s m args below meth c H locs (1 + 3 * k) (6 + 12 * k) (MQ below (zQr G (fun _ : {u : zSu // u.2.2.2.2.map Prod.snd = (rows.map Prod.snd).filterMap (zgo n a (zsi V (zmv V X a) n))} => some (.int (nI (zm V X a)))) (fun u : {u : zSu // u.2.2.2.2.map Prod.snd = (rows.map Prod.snd).filterMap (zgo n a (zsi V (zmv V X a) n))} => zSW G sh n V (zmv V X a) (zUact V X a t) u.1) A) args s 2189 9483 A) (F0 m 66 ls []) := by
    intro r
    induction r with
    | zero =>
      intro k new H locs ls hk hnk hnw hP hD hS hl
      obtain rfl : k = rows.length := by omega
      rw [List.take_length] at hnw
      refine lv_iload hx hb dX4_go_66 (lv_at hl 0 rfl) ?_
      refine lv_aload_n hx hb dX4_go_68 rfl (lv_at hl 4 rfl) ?_
      refine va_get (D := G.1) (ci := 4) (v := .ref sl) (C := RX4) (T := TX4) (N := 4) hx hb hts in_X4_go_X4 hown hK.1 hP 0 rfl rfl 3 (by decide) (hts (.fieldLink RX4 23 "JarRiddleLaw$Sim" "left" "[[I") (by decide +kernel)) (fun _ h9 => h9) rfl dX4_go_69 ?_
      refine zr_alenQ hx hb hK hP 4 rfl dX4_go_72 ?_
      refine lv_icmp_ge (tgt := 116) hx hb dX4_go_73 (by decide) (fun _ => ?_) (fun z => absurd (show (nI rows.length) ≤ (nI rows.length) from (nI_le (by omega) (by omega))) z)
      refine lv_iload hx hb dX4_go_116 (lv_at hl 1 rfl) ?_
      refine zr_newQ (N := new.length) hx hb hown (hts (.classLink RX4 27 "[I") (by decide +kernel)) hK hP hD hS hA (by omega) (show 1 + 3 * rows.length + 1 ≤ 2189 by omega) (show 6 + 12 * rows.length + new.length ≤ 9483 by omega) dX4_go_118 (fun mq H hP hD hS => ?_)
      have hp9 := zj_move ([(sh, .inr (4, [.ref sv, .ref sa, .ref sc, .ref sl])), (sv, .inl (G.2.1, n, .inl (zar n V))), (sa, .inl (G.2.1, n, .inl (zar n (zmv V X a)))), (sc, .inl (G.2.1, 6, .inl (zkt (zUact V X a t)))), (sl, .inl (G.2.2.1, rows.length, .inr (.inr (.inr (.inr (zlf2 new rows))))))] : va_W) ((rows.map (zrc G n) ++ new.map (zrc G n))) (mq, .inl (G.2.2.1, new.length, .inr (.inr (.inr (.inr (fun _ => none))))))
      have hP := hP.perm hp9
      have hD := hD.perm hp9
      have hP : va_P G.1 vwCl (([(sh, .inr (4, [.ref sv, .ref sa, .ref sc, .ref sl])), (sv, .inl (G.2.1, n, .inl (zar n V))), (sa, .inl (G.2.1, n, .inl (zar n (zmv V X a)))), (sc, .inl (G.2.1, 6, .inl (zkt (zUact V X a t)))), (sl, .inl (G.2.2.1, rows.length, .inr (.inr (.inr (.inr (zlf2 new rows)))))), (mq, .inl (G.2.2.1, new.length, .inr (.inr (.inr (.inr (fun _ => none))))))] : va_W) ++ (rows.map (zrc G n) ++ new.map (zrc G n))) H := hP
      have hD : va_D A (([(sh, .inr (4, [.ref sv, .ref sa, .ref sc, .ref sl])), (sv, .inl (G.2.1, n, .inl (zar n V))), (sa, .inl (G.2.1, n, .inl (zar n (zmv V X a)))), (sc, .inl (G.2.1, 6, .inl (zkt (zUact V X a t)))), (sl, .inl (G.2.2.1, rows.length, .inr (.inr (.inr (.inr (zlf2 new rows)))))), (mq, .inl (G.2.2.1, new.length, .inr (.inr (.inr (.inr (fun _ => none))))))] : va_W) ++ (rows.map (zrc G n) ++ new.map (zrc G n))) := hD
      refine lv_astore (lv' := [(5, .ref mq), (4, .int (nI new.length)), (3, .int (nI (zsi V (zmv V X a) n))), (2, .int (nI (zm V X a))), (0, .ref sh), (1, .int (nI a))]) hx hb dX4_go_121 hl (by decide) rfl (fun ls hl => ?_)
      refine lv_iconst (v := nI 0) hx hb dX4_go_123 (by decide) ?_
      refine lv_istore (lv' := [(6, .int (nI 0)), (5, .ref mq), (4, .int (nI new.length)), (3, .int (nI (zsi V (zmv V X a) n))), (2, .int (nI (zm V X a))), (0, .ref sh), (1, .int (nI a))]) hx hb dX4_go_124 hl (by decide) rfl (fun ls hl => ?_)
      rw [zlfk_0 new] at hP hD
      refine W.widen (k := 2189) (n := 9483) (show 1 + 3 * rows.length + 1 ≤ 2189 by omega) (show 6 + 12 * rows.length + new.length ≤ 9483 by omega) ?_
      exact loop2 new mq hnk hnw new.length 0 H locs ls (by omega) hP hD hS (lv_sub hl [0, 1, 2, 4, 5] rfl)
    | succ r ih =>
      intro k new H locs ls hk hnk hnw hP hD hS hl
      obtain ⟨r9, hr9k⟩ : ∃ r9, rows[k]? = some r9 := ⟨_, List.getElem?_eq_getElem (by omega)⟩
      obtain ⟨q9, N9, s9⟩ := r9
      have ok9 := hr9.2 _ (List.mem_of_getElem? hr9k)
      have ok92 := zmv_ok ok9 ha
      have hb8 : ∀ i, i < n → zcv n N9 i ≤ 9 ∧ zdg (zbh n a N9 s9) i ≤ 9 := fun i hi => by
        have y := ok92 i (by omega)
        exact ⟨y.2, Nat.le_trans (Nat.le_of_eq (zdg_st ok92 (by omega))) (Nat.le_trans y.1 y.2)⟩
      have hz1 := zsi_lt (zcv n N9) (zmv (zcv n N9) (zdg s9) a) n
      have hz2 := zsi_lt V (zmv V X a) n
      have hz3 : 3 ^ n ≤ 27 := by rcases hn with rfl | rfl <;> decide
      have etk : (rows.take (k + 1)).map Prod.snd = (rows.take k).map Prod.snd ++ [(N9, s9)] := by rw [List.take_add_one, hr9k, List.map_append]; rfl
      refine lv_iload hx hb dX4_go_66 (lv_at hl 0 rfl) ?_
      refine lv_aload_n hx hb dX4_go_68 rfl (lv_at hl 4 rfl) ?_
      refine va_get (D := G.1) (ci := 4) (v := .ref sl) (C := RX4) (T := TX4) (N := 4) hx hb hts in_X4_go_X4 hown hK.1 hP 0 rfl rfl 3 (by decide) (hts (.fieldLink RX4 23 "JarRiddleLaw$Sim" "left" "[[I") (by decide +kernel)) (fun _ h9 => h9) rfl dX4_go_69 ?_
      refine zr_alenQ hx hb hK hP 4 rfl dX4_go_72 ?_
      refine lv_icmp_ge (tgt := 116) hx hb dX4_go_73 (by decide) (fun z => absurd z (show ¬ (nI rows.length) ≤ (nI k) from (nI_ge (by omega) (by omega)))) (fun _ => ?_)
      refine lv_aload_n hx hb dX4_go_76 rfl (lv_at hl 4 rfl) ?_
      refine va_get (D := G.1) (ci := 4) (v := .ref sl) (C := RX4) (T := TX4) (N := 4) hx hb hts in_X4_go_X4 hown hK.1 hP 0 rfl rfl 3 (by decide) (hts (.fieldLink RX4 23 "JarRiddleLaw$Sim" "left" "[[I") (by decide +kernel)) (fun _ h9 => h9) rfl dX4_go_77 ?_
      refine lv_iload hx hb dX4_go_80 (lv_at hl 0 rfl) ?_
      refine zr_qld (b := q9) hx hb hK hP 4 rfl (by omega) (by omega) (zlf2_old hr9k hnk) dX4_go_82 ?_
      refine lv_iload_n hx hb dX4_go_83 rfl (lv_at hl 5 rfl) ?_
      refine zr_SK (As := [.ref q9, .int (nI a)]) (rest := []) (x := zrc G n (q9, N9, s9)) (nw := fun u : Nat => [zrc G n (u, N9, zbh n a N9 s9)]) F (s_behind l G hn ok9 ha hal q9) gX4_go_X4_behind rfl rfl rfl zd_X4_behind ⟨(Nat.le_of_ble_eq_true rfl), (Nat.le_of_ble_eq_true rfl)⟩ rfl rfl (Nat.le_of_ble_eq_true rfl) dX4_go_84 ⟨show 1 + 3 * k + 3 ≤ 2189 by omega, show 6 + 12 * k + 12 ≤ 9483 by omega⟩ hK hP hD hS hA hl.1 (List.mem_append_right _ (List.mem_append_left _ (List.mem_map.mpr ⟨_, List.mem_of_getElem? hr9k, rfl⟩))) (fun u9 H locs hP hD hS => ?_)
      refine lv_astore (lv' := [(6, .ref u9), (5, .int (nI k)), (4, .int (nI new.length)), (3, .int (nI (zsi V (zmv V X a) n))), (2, .int (nI (zm V X a))), (0, .ref sh), (1, .int (nI a))]) hx hb dX4_go_87 hl (by decide) rfl (fun ls hl => ?_)
      refine lv_aload hx hb dX4_go_89 (lv_at hl 0 rfl) ?_
      refine zr_SK (As := [.ref u9]) (rest := []) (x := zrc G n (u9, N9, zbh n a N9 s9)) (nw := fun _ : Unit => []) F (s_sight l G hn (V := zcv n N9) (X := zdg (zbh n a N9 s9)) (fun i hi => zrw_v hi) (fun i hi => zrw_a hi) hb8 u9) gX4_go_X4_sight rfl rfl rfl zd_X4_sight ⟨(Nat.le_of_ble_eq_true rfl), (Nat.le_of_ble_eq_true rfl)⟩ rfl rfl (Nat.le_of_ble_eq_true rfl) dX4_go_91 ⟨show 1 + 3 * k + 3 + 0 ≤ 2189 by omega, show 6 + 12 * k + 12 + 0 ≤ 9483 by omega⟩ hK hP hD hS hA hl.1 (List.mem_append_right _ List.mem_cons_self) (fun _ H locs hP hD hS => ?_)
      rw [List.append_nil] at hP hD
      refine zt_top (v := nI (zsi (zcv n N9) (zmv (zcv n N9) (zdg s9) a) n)) (congrArg nI (zsi_congr n (fun i hi => zdg_st ok92 (by omega)))) ?_
      refine lv_iload_n hx hb dX4_go_94 rfl (lv_at hl 3 rfl) ?_
      by_cases qs : zsi (zcv n N9) (zmv (zcv n N9) (zdg s9) a) n = zsi V (zmv V X a) n
      · refine lv_icmp_ne (tgt := 110) hx hb dX4_go_95 (by decide) (fun z => absurd (show (nI (zsi (zcv n N9) (zmv (zcv n N9) (zdg s9) a) n)) = (nI (zsi V (zmv V X a) n)) from (congrArg nI qs)) z) (fun _ => ?_)
        have hP : va_P G.1 vwCl (([(sh, .inr (4, [.ref sv, .ref sa, .ref sc, .ref sl])), (sv, .inl (G.2.1, n, .inl (zar n V))), (sa, .inl (G.2.1, n, .inl (zar n (zmv V X a)))), (sc, .inl (G.2.1, 6, .inl (zkt (zUact V X a t)))), (sl, .inl (G.2.2.1, rows.length, .inr (.inr (.inr (.inr (zlf2 new rows))))))] : va_W) ++ (rows.map (zrc G n) ++ (new.map (zrc G n) ++ [zrc G n (u9, N9, zbh n a N9 s9)]))) H := by have h := hP; rw [List.append_assoc, List.append_assoc] at h; exact h
        have hD : va_D A (([(sh, .inr (4, [.ref sv, .ref sa, .ref sc, .ref sl])), (sv, .inl (G.2.1, n, .inl (zar n V))), (sa, .inl (G.2.1, n, .inl (zar n (zmv V X a)))), (sc, .inl (G.2.1, 6, .inl (zkt (zUact V X a t)))), (sl, .inl (G.2.2.1, rows.length, .inr (.inr (.inr (.inr (zlf2 new rows))))))] : va_W) ++ (rows.map (zrc G n) ++ (new.map (zrc G n) ++ [zrc G n (u9, N9, zbh n a N9 s9)]))) := by have h := hD; rw [List.append_assoc, List.append_assoc] at h; exact h
        refine lv_aload_n hx hb dX4_go_98 rfl (lv_at hl 5 rfl) ?_
        refine va_get (D := G.1) (ci := 4) (v := .ref sl) (C := RX4) (T := TX4) (N := 4) hx hb hts in_X4_go_X4 hown hK.1 hP 0 rfl rfl 3 (by decide) (hts (.fieldLink RX4 23 "JarRiddleLaw$Sim" "left" "[[I") (by decide +kernel)) (fun _ h9 => h9) rfl dX4_go_99 ?_
        refine lv_iload hx hb dX4_go_102 (lv_at hl 2 rfl) ?_
        refine lv_aload hx hb dX4_go_104 (lv_at hl 0 rfl) ?_
        refine zr_qst (g := zlf2 (new ++ [(u9, N9, zbh n a N9 s9)]) rows) hx hb hK hP hD hS 4 rfl (List.mem_append_right _ (List.mem_append_right _ (List.mem_append_right _ List.mem_cons_self))) (by omega) (by omega) (zlf2_add new rows (u9, N9, zbh n a N9 s9)) dX4_go_106 (fun H locs hP hD hS => ?_)
        have hP : va_P G.1 vwCl (([(sh, .inr (4, [.ref sv, .ref sa, .ref sc, .ref sl])), (sv, .inl (G.2.1, n, .inl (zar n V))), (sa, .inl (G.2.1, n, .inl (zar n (zmv V X a)))), (sc, .inl (G.2.1, 6, .inl (zkt (zUact V X a t)))), (sl, .inl (G.2.2.1, rows.length, .inr (.inr (.inr (.inr (zlf2 (new ++ [(u9, N9, zbh n a N9 s9)]) rows))))))] : va_W) ++ (rows.map (zrc G n) ++ (new.map (zrc G n) ++ [zrc G n (u9, N9, zbh n a N9 s9)]))) H := hP
        have hD : va_D A (([(sh, .inr (4, [.ref sv, .ref sa, .ref sc, .ref sl])), (sv, .inl (G.2.1, n, .inl (zar n V))), (sa, .inl (G.2.1, n, .inl (zar n (zmv V X a)))), (sc, .inl (G.2.1, 6, .inl (zkt (zUact V X a t)))), (sl, .inl (G.2.2.1, rows.length, .inr (.inr (.inr (.inr (zlf2 (new ++ [(u9, N9, zbh n a N9 s9)]) rows))))))] : va_W) ++ (rows.map (zrc G n) ++ (new.map (zrc G n) ++ [zrc G n (u9, N9, zbh n a N9 s9)]))) := hD
        refine lv_iinc (v := (nI (new.length + 1))) (lv' := [(4, .int (nI (new.length + 1))), (6, .ref u9), (5, .int (nI k)), (3, .int (nI (zsi V (zmv V X a) n))), (2, .int (nI (zm V X a))), (0, .ref sh), (1, .int (nI a))]) hx hb dX4_go_107 hl (k := 2) rfl (nI_1 new.length) (by decide) rfl (fun ls hl => ?_)
        refine lv_iinc (v := (nI (k + 1))) (lv' := [(5, .int (nI (k + 1))), (4, .int (nI (new.length + 1))), (6, .ref u9), (3, .int (nI (zsi V (zmv V X a) n))), (2, .int (nI (zm V X a))), (0, .ref sh), (1, .int (nI a))]) hx hb dX4_go_110 hl (k := 2) rfl (nI_1 k) (by decide) rfl (fun ls hl => ?_)
        refine lv_goto (tgt := 66) hx hb dX4_go_113 (by decide) ?_
        have em : new.map (zrc G n) ++ [zrc G n (u9, N9, zbh n a N9 s9)] = (new ++ [(u9, N9, zbh n a N9 s9)]).map (zrc G n) := by rw [List.map_append]; rfl
        rw [em] at hP hD
        have el : (new ++ [(u9, N9, zbh n a N9 s9)]).length = new.length + 1 := by rw [List.length_append]; rfl
        refine ih (k + 1) (new ++ [(u9, N9, zbh n a N9 s9)]) H locs ls (by omega) (by omega) ?_ hP hD hS ?_
        · rw [etk, List.filterMap_append, ← hnw, List.map_append]
          refine congrArg (List.append _) ?_
          show [(N9, zbh n a N9 s9)] = [(N9, s9)].filterMap _
          rw [List.filterMap_cons]
          unfold zgo
          rw [if_pos qs]
          rfl
        · rw [el]; exact lv_sub hl [0, 1, 3, 4, 5, 6] rfl
      · refine lv_icmp_ne (tgt := 110) hx hb dX4_go_95 (by decide) (fun _ => ?_) (fun z => absurd z (show ¬ (nI (zsi (zcv n N9) (zmv (zcv n N9) (zdg s9) a) n)) = (nI (zsi V (zmv V X a) n)) from (fun z => qs ((nI_eq (by omega) (by omega)).mp z))))
        have hP := hP.subl (List.sublist_append_left _ _)
        have hD := hD.subl (List.sublist_append_left _ _)
        refine lv_iinc (v := (nI (k + 1))) (lv' := [(5, .int (nI (k + 1))), (6, .ref u9), (4, .int (nI new.length)), (3, .int (nI (zsi V (zmv V X a) n))), (2, .int (nI (zm V X a))), (0, .ref sh), (1, .int (nI a))]) hx hb dX4_go_110 hl (k := 1) rfl (nI_1 k) (by decide) rfl (fun ls hl => ?_)
        refine lv_goto (tgt := 66) hx hb dX4_go_113 (by decide) ?_
        refine ih (k + 1) new H locs ls (by omega) (by omega) ?_ hP hD hS (lv_sub hl [0, 2, 3, 4, 5, 6] rfl)
        rw [etk, List.filterMap_append, ← hnw]
        show new.map Prod.snd = new.map Prod.snd ++ [(N9, s9)].filterMap _
        rw [List.filterMap_cons]
        unfold zgo
        rw [if_neg qs]
        exact (List.append_nil _).symm
  have rest : ∀ (H : Heap) (locs : List Loc) (ls : Array Slot), va_P G.1 vwCl (([(sh, .inr (4, [.ref sv, .ref sa, .ref sc, .ref sl])), (sv, .inl (G.2.1, n, .inl (zar n V))), (sa, .inl (G.2.1, n, .inl (zar n (zmv V X a)))), (sc, .inl (G.2.1, 6, .inl (zkt (zUact V X a t)))), (sl, .inl (G.2.2.1, rows.length, .inr (.inr (.inr (.inr (zlf rows))))))] : va_W) ++ rows.map (zrc G n)) H → va_D A (([(sh, .inr (4, [.ref sv, .ref sa, .ref sc, .ref sl])), (sv, .inl (G.2.1, n, .inl (zar n V))), (sa, .inl (G.2.1, n, .inl (zar n (zmv V X a)))), (sc, .inl (G.2.1, 6, .inl (zkt (zUact V X a t)))), (sl, .inl (G.2.2.1, rows.length, .inr (.inr (.inr (.inr (zlf rows))))))] : va_W) ++ rows.map (zrc G n)) → va_S A s.heap H locs → lv_has ls 7 [(2, .int (nI (zm V X a))), (0, .ref sh), (1, .int (nI a))] → W p l e rm_X4_go s m args below meth c H locs 0 0 (MQ below (zQr G (fun _ : {u : zSu // u.2.2.2.2.map Prod.snd = (rows.map Prod.snd).filterMap (zgo n a (zsi V (zmv V X a) n))} => some (.int (nI (zm V X a)))) (fun u : {u : zSu // u.2.2.2.2.map Prod.snd = (rows.map Prod.snd).filterMap (zgo n a (zsi V (zmv V X a) n))} => zSW G sh n V (zmv V X a) (zUact V X a t) u.1) A) args s 2189 9483 A) (F0 m 52 ls []) := by
    intro H locs ls hP hD hS hl
    refine lv_aload_n hx hb dX4_go_52 rfl (lv_at hl 1 rfl) ?_
    refine zr_V (As := []) (rest := []) (b := sh) (q0 := 0) (ci := 4) (q := (RX4, TX4, 4)) (fs := [.ref sv, .ref sa, .ref sc, .ref sl]) (wr := []) F (s_own l G hn sh sv sa sc sl rows) gX4_go_X4_own rfl rfl rfl zd_X4_own ⟨(Nat.le_of_ble_eq_true rfl), (Nat.le_of_ble_eq_true rfl)⟩ rfl rfl (Nat.le_of_ble_eq_true rfl) dX4_go_53 ⟨(Nat.le_of_ble_eq_true rfl), (Nat.le_of_ble_eq_true rfl)⟩ hK hP hD hS hA hl.1 rfl rfl (by rw [List.append_nil]) (fun q9 H locs hP hD hS => ?_)
    rw [List.append_nil] at hP hD
    refine zr_SK (As := [.ref q9]) (rest := []) (x := (q9, .inl (G.2.1, 2 * n, .inl (zow n V (zmv V X a))))) (nw := fun _ : Unit => []) F (s_sight l G hn (V := V) (X := zmv V X a) (fun i hi => if_pos hi) (fun i hi => by show (if n + i < n then nI (V (n + i)) else if n + i < 2 * n then nI (zmv V X a (n + i - n)) else 0) = _; rw [if_neg (by omega), if_pos (by omega), Nat.add_sub_cancel_left]) (fun i hi => by have y := ok2 i (by omega); omega) q9) gX4_go_X4_sight rfl rfl rfl zd_X4_sight ⟨(Nat.le_of_ble_eq_true rfl), (Nat.le_of_ble_eq_true rfl)⟩ rfl rfl (Nat.le_of_ble_eq_true rfl) dX4_go_56 ⟨(Nat.le_of_ble_eq_true rfl), (Nat.le_of_ble_eq_true rfl)⟩ hK hP hD hS hA hl.1 (List.mem_append_right _ List.mem_cons_self) (fun _ H locs hP hD hS => ?_)
    rw [List.append_nil] at hP hD
    have hP := hP.subl (List.sublist_append_left _ _)
    have hD := hD.subl (List.sublist_append_left _ _)
    have hP : va_P G.1 vwCl (([(sh, .inr (4, [.ref sv, .ref sa, .ref sc, .ref sl])), (sv, .inl (G.2.1, n, .inl (zar n V))), (sa, .inl (G.2.1, n, .inl (zar n (zmv V X a)))), (sc, .inl (G.2.1, 6, .inl (zkt (zUact V X a t)))), (sl, .inl (G.2.2.1, rows.length, .inr (.inr (.inr (.inr (zlf rows))))))] : va_W) ++ rows.map (zrc G n)) H := hP
    have hD : va_D A (([(sh, .inr (4, [.ref sv, .ref sa, .ref sc, .ref sl])), (sv, .inl (G.2.1, n, .inl (zar n V))), (sa, .inl (G.2.1, n, .inl (zar n (zmv V X a)))), (sc, .inl (G.2.1, 6, .inl (zkt (zUact V X a t)))), (sl, .inl (G.2.2.1, rows.length, .inr (.inr (.inr (.inr (zlf rows))))))] : va_W) ++ rows.map (zrc G n)) := hD
    refine lv_istore_n (lv' := [(3, .int (nI (zsi V (zmv V X a) n))), (2, .int (nI (zm V X a))), (0, .ref sh), (1, .int (nI a))]) hx hb dX4_go_59 rfl hl (by decide) rfl (fun ls hl => ?_)
    refine lv_iconst (v := nI 0) hx hb dX4_go_60 (by decide) ?_
    refine lv_istore (lv' := [(4, .int (nI 0)), (3, .int (nI (zsi V (zmv V X a) n))), (2, .int (nI (zm V X a))), (0, .ref sh), (1, .int (nI a))]) hx hb dX4_go_61 hl (by decide) rfl (fun ls hl => ?_)
    refine lv_iconst (v := nI 0) hx hb dX4_go_63 (by decide) ?_
    refine lv_istore (lv' := [(5, .int (nI 0)), (4, .int (nI 0)), (3, .int (nI (zsi V (zmv V X a) n))), (2, .int (nI (zm V X a))), (0, .ref sh), (1, .int (nI a))]) hx hb dX4_go_64 hl (by decide) rfl (fun ls hl => ?_)
    have e0 : rows.map (zrc G n) = rows.map (zrc G n) ++ ([] : zRows).map (zrc G n) := (List.append_nil _).symm
    rw [← zlf2_0 rows, e0] at hP hD
    exact loop1 rows.length 0 [] H locs ls (by omega) (Nat.le_refl _) rfl hP hD hS (lv_sub hl [0, 1, 2, 3, 4, 5] rfl)
  refine lv_iload_n hx hb dX4_go_0 rfl (lv_at hl 1 rfl) ?_
  refine lv_aload_n hx hb dX4_go_1 rfl (lv_at hl 0 rfl) ?_
  refine va_get (D := G.1) (ci := 4) (v := .ref sv) (C := RX4) (T := TX4) (N := 4) hx hb hts in_X4_go_X4 hown hK.1 hP 0 rfl rfl 0 (by decide) (hts (.fieldLink RX4 7 "JarRiddleLaw$Sim" "volume" "[I") (by decide +kernel)) (fun _ h9 => h9) rfl dX4_go_2 ?_
  refine lv_aload_n hx hb dX4_go_5 rfl (lv_at hl 0 rfl) ?_
  refine va_get (D := G.1) (ci := 4) (v := .ref sa) (C := RX4) (T := TX4) (N := 4) hx hb hts in_X4_go_X4 hown hK.1 hP 0 rfl rfl 1 (by decide) (hts (.fieldLink RX4 13 "JarRiddleLaw$Sim" "amount" "[I") (by decide +kernel)) (fun _ h9 => h9) rfl dX4_go_6 ?_
  refine zr_S (As := [.int (nI a), .ref sv, .ref sa]) (rest := []) (wr := ((sh, .inr (4, [.ref sv, .ref sa, .ref sc, .ref sl])) :: (sc, .inl (G.2.1, 6, .inl (zkt t))) :: (sl, .inl (G.2.2.1, rows.length, .inr (.inr (.inr (.inr (zlf rows)))))) :: rows.map (zrc G n) : va_W)) F (s_act l G hn ok ha hal sv sa) gX4_go_X4_act rfl rfl rfl zd_X4_act ⟨(Nat.le_of_ble_eq_true rfl), (Nat.le_of_ble_eq_true rfl)⟩ rfl rfl (Nat.le_of_ble_eq_true rfl) dX4_go_9 ⟨(Nat.le_of_ble_eq_true rfl), (Nat.le_of_ble_eq_true rfl)⟩ hK hP hD hS hA hl.1 zpm_vs (fun _ H locs hP hD hS => ?_)
  have hP := hP.perm zpm_vs.symm
  have hD := hD.perm zpm_vs.symm
  have hP : va_P G.1 vwCl (([(sh, .inr (4, [.ref sv, .ref sa, .ref sc, .ref sl])), (sv, .inl (G.2.1, n, .inl (zar n V))), (sa, .inl (G.2.1, n, .inl (zar n (zmv V X a)))), (sc, .inl (G.2.1, 6, .inl (zkt t))), (sl, .inl (G.2.2.1, rows.length, .inr (.inr (.inr (.inr (zlf rows))))))] : va_W) ++ rows.map (zrc G n)) H := hP
  have hD : va_D A (([(sh, .inr (4, [.ref sv, .ref sa, .ref sc, .ref sl])), (sv, .inl (G.2.1, n, .inl (zar n V))), (sa, .inl (G.2.1, n, .inl (zar n (zmv V X a)))), (sc, .inl (G.2.1, 6, .inl (zkt t))), (sl, .inl (G.2.2.1, rows.length, .inr (.inr (.inr (.inr (zlf rows))))))] : va_W) ++ rows.map (zrc G n)) := hD
  refine lv_istore_n (lv' := [(2, .int (nI (zm V X a))), (0, .ref sh), (1, .int (nI a))]) hx hb dX4_go_12 rfl hl (by decide) rfl (fun ls hl => ?_)
  refine lv_aload_n hx hb dX4_go_13 rfl (lv_at hl 1 rfl) ?_
  refine va_get (D := G.1) (ci := 4) (v := .ref sc) (C := RX4) (T := TX4) (N := 4) hx hb hts in_X4_go_X4 hown hK.1 hP 0 rfl rfl 2 (by decide) (hts (.fieldLink RX4 16 "JarRiddleLaw$Sim" "counts" "[I") (by decide +kernel)) (fun _ h9 => h9) rfl dX4_go_14 ?_
  refine lv_iconst (v := nI 0) hx hb dX4_go_17 (by decide) ?_
  refine lv_dup2_11 hx hb dX4_go_18 rfl rfl ?_
  refine zr_iald (v := (nI t.ac)) hx hb hK hP 3 rfl (by omega) (by omega) (rfl) dX4_go_19 ?_
  refine lv_iconst (v := nI 1) hx hb dX4_go_20 (by decide) ?_
  refine lv_iadd hx hb dX4_go_21 ?_
  refine zt_top (v := (nI (t.ac + 1))) (nI_add t.ac 1) ?_
  refine zr_iast (g := zkt (t.ac + 1, t.po, t.si, t.ta, t.gu, t.wr)) hx hb hK hP hD hS 3 rfl (by omega) (by omega) (zkt_0 t) dX4_go_22 (fun H locs hP hD hS => ?_)
  have hP : va_P G.1 vwCl (([(sh, .inr (4, [.ref sv, .ref sa, .ref sc, .ref sl])), (sv, .inl (G.2.1, n, .inl (zar n V))), (sa, .inl (G.2.1, n, .inl (zar n (zmv V X a)))), (sc, .inl (G.2.1, 6, .inl (zkt (t.ac + 1, t.po, t.si, t.ta, t.gu, t.wr)))), (sl, .inl (G.2.2.1, rows.length, .inr (.inr (.inr (.inr (zlf rows))))))] : va_W) ++ rows.map (zrc G n)) H := hP
  have hD : va_D A (([(sh, .inr (4, [.ref sv, .ref sa, .ref sc, .ref sl])), (sv, .inl (G.2.1, n, .inl (zar n V))), (sa, .inl (G.2.1, n, .inl (zar n (zmv V X a)))), (sc, .inl (G.2.1, 6, .inl (zkt (t.ac + 1, t.po, t.si, t.ta, t.gu, t.wr)))), (sl, .inl (G.2.2.1, rows.length, .inr (.inr (.inr (.inr (zlf rows))))))] : va_W) ++ rows.map (zrc G n)) := hD
  refine lv_aload_n hx hb dX4_go_23 rfl (lv_at hl 1 rfl) ?_
  refine va_get (D := G.1) (ci := 4) (v := .ref sc) (C := RX4) (T := TX4) (N := 4) hx hb hts in_X4_go_X4 hown hK.1 hP 0 rfl rfl 2 (by decide) (hts (.fieldLink RX4 16 "JarRiddleLaw$Sim" "counts" "[I") (by decide +kernel)) (fun _ h9 => h9) rfl dX4_go_24 ?_
  refine lv_iload_n hx hb dX4_go_27 rfl (lv_at hl 2 rfl) ?_
  refine lv_iconst (v := nI 3) hx hb dX4_go_28 (by decide) ?_
  by_cases q1 : a < 3
  · refine lv_icmp_ge (tgt := 36) hx hb dX4_go_29 (by decide) (fun z => absurd z (show ¬ (nI 3) ≤ (nI a) from (nI_ge (by omega) (by omega)))) (fun _ => ?_)
    refine lv_iconst (v := nI 3) hx hb dX4_go_32 (by decide) ?_
    refine lv_goto (tgt := 47) hx hb dX4_go_33 (by decide) ?_
    refine lv_dup2_11 hx hb dX4_go_47 rfl rfl ?_
    refine zr_iald (v := (nI t.ta)) hx hb hK hP 3 rfl (by omega) (by omega) (rfl) dX4_go_48 ?_
    refine lv_iload_n hx hb dX4_go_49 rfl (lv_at hl 0 rfl) ?_
    refine lv_iadd hx hb dX4_go_50 ?_
    refine zt_top (v := (nI (t.ta + (zm V X a)))) (nI_add t.ta (zm V X a)) ?_
    refine zr_iast (g := zkt (t.ac + 1, t.po, t.si, t.ta + zm V X a, t.gu, t.wr)) hx hb hK hP hD hS 3 rfl (by omega) (by omega) (zkt_3 (t.ac + 1, t.po, t.si, t.ta, t.gu, t.wr) (zm V X a)) dX4_go_51 (fun H locs hP hD hS => ?_)
    have hP : va_P G.1 vwCl (([(sh, .inr (4, [.ref sv, .ref sa, .ref sc, .ref sl])), (sv, .inl (G.2.1, n, .inl (zar n V))), (sa, .inl (G.2.1, n, .inl (zar n (zmv V X a)))), (sc, .inl (G.2.1, 6, .inl (zkt (t.ac + 1, t.po, t.si, t.ta + zm V X a, t.gu, t.wr)))), (sl, .inl (G.2.2.1, rows.length, .inr (.inr (.inr (.inr (zlf rows))))))] : va_W) ++ rows.map (zrc G n)) H := hP
    have hD : va_D A (([(sh, .inr (4, [.ref sv, .ref sa, .ref sc, .ref sl])), (sv, .inl (G.2.1, n, .inl (zar n V))), (sa, .inl (G.2.1, n, .inl (zar n (zmv V X a)))), (sc, .inl (G.2.1, 6, .inl (zkt (t.ac + 1, t.po, t.si, t.ta + zm V X a, t.gu, t.wr)))), (sl, .inl (G.2.2.1, rows.length, .inr (.inr (.inr (.inr (zlf rows))))))] : va_W) ++ rows.map (zrc G n)) := hD
    have et : (t.ac + 1, t.po, t.si, t.ta + zm V X a, t.gu, t.wr) = zUact V X a t := by unfold zUact; rw [if_neg (by omega), if_neg (by omega), if_neg (by omega), if_neg (by omega)]; rfl
    rw [et] at hP hD
    exact rest H locs ls hP hD hS (lv_sub hl [0, 1, 2] rfl)
  · refine lv_icmp_ge (tgt := 36) hx hb dX4_go_29 (by decide) (fun _ => ?_) (fun z => absurd (show (nI 3) ≤ (nI a) from (nI_le (by omega) (by omega))) z)
    refine lv_iload_n hx hb dX4_go_36 rfl (lv_at hl 2 rfl) ?_
    refine lv_bipush (v := nI 6) hx hb dX4_go_37 (by decide) ?_
    by_cases q2 : a < 6
    · refine lv_icmp_ge (tgt := 46) hx hb dX4_go_39 (by decide) (fun z => absurd z (show ¬ (nI 6) ≤ (nI a) from (nI_ge (by omega) (by omega)))) (fun _ => ?_)
      refine lv_iconst (v := nI 2) hx hb dX4_go_42 (by decide) ?_
      refine lv_goto (tgt := 47) hx hb dX4_go_43 (by decide) ?_
      refine lv_dup2_11 hx hb dX4_go_47 rfl rfl ?_
      refine zr_iald (v := (nI t.si)) hx hb hK hP 3 rfl (by omega) (by omega) (rfl) dX4_go_48 ?_
      refine lv_iload_n hx hb dX4_go_49 rfl (lv_at hl 0 rfl) ?_
      refine lv_iadd hx hb dX4_go_50 ?_
      refine zt_top (v := (nI (t.si + (zm V X a)))) (nI_add t.si (zm V X a)) ?_
      refine zr_iast (g := zkt (t.ac + 1, t.po, t.si + zm V X a, t.ta, t.gu, t.wr)) hx hb hK hP hD hS 3 rfl (by omega) (by omega) (zkt_2 (t.ac + 1, t.po, t.si, t.ta, t.gu, t.wr) (zm V X a)) dX4_go_51 (fun H locs hP hD hS => ?_)
      have hP : va_P G.1 vwCl (([(sh, .inr (4, [.ref sv, .ref sa, .ref sc, .ref sl])), (sv, .inl (G.2.1, n, .inl (zar n V))), (sa, .inl (G.2.1, n, .inl (zar n (zmv V X a)))), (sc, .inl (G.2.1, 6, .inl (zkt (t.ac + 1, t.po, t.si + zm V X a, t.ta, t.gu, t.wr)))), (sl, .inl (G.2.2.1, rows.length, .inr (.inr (.inr (.inr (zlf rows))))))] : va_W) ++ rows.map (zrc G n)) H := hP
      have hD : va_D A (([(sh, .inr (4, [.ref sv, .ref sa, .ref sc, .ref sl])), (sv, .inl (G.2.1, n, .inl (zar n V))), (sa, .inl (G.2.1, n, .inl (zar n (zmv V X a)))), (sc, .inl (G.2.1, 6, .inl (zkt (t.ac + 1, t.po, t.si + zm V X a, t.ta, t.gu, t.wr)))), (sl, .inl (G.2.2.1, rows.length, .inr (.inr (.inr (.inr (zlf rows))))))] : va_W) ++ rows.map (zrc G n)) := hD
      have et : (t.ac + 1, t.po, t.si + zm V X a, t.ta, t.gu, t.wr) = zUact V X a t := by unfold zUact; rw [if_neg (by omega), if_neg (by omega), if_pos (by omega), if_pos (by omega)]; rfl
      rw [et] at hP hD
      exact rest H locs ls hP hD hS (lv_sub hl [0, 1, 2] rfl)
    · refine lv_icmp_ge (tgt := 46) hx hb dX4_go_39 (by decide) (fun _ => ?_) (fun z => absurd (show (nI 6) ≤ (nI a) from (nI_le (by omega) (by omega))) z)
      refine lv_iconst (v := nI 1) hx hb dX4_go_46 (by decide) ?_
      refine lv_dup2_11 hx hb dX4_go_47 rfl rfl ?_
      refine zr_iald (v := (nI t.po)) hx hb hK hP 3 rfl (by omega) (by omega) (rfl) dX4_go_48 ?_
      refine lv_iload_n hx hb dX4_go_49 rfl (lv_at hl 0 rfl) ?_
      refine lv_iadd hx hb dX4_go_50 ?_
      refine zt_top (v := (nI (t.po + (zm V X a)))) (nI_add t.po (zm V X a)) ?_
      refine zr_iast (g := zkt (t.ac + 1, t.po + zm V X a, t.si, t.ta, t.gu, t.wr)) hx hb hK hP hD hS 3 rfl (by omega) (by omega) (zkt_1 (t.ac + 1, t.po, t.si, t.ta, t.gu, t.wr) (zm V X a)) dX4_go_51 (fun H locs hP hD hS => ?_)
      have hP : va_P G.1 vwCl (([(sh, .inr (4, [.ref sv, .ref sa, .ref sc, .ref sl])), (sv, .inl (G.2.1, n, .inl (zar n V))), (sa, .inl (G.2.1, n, .inl (zar n (zmv V X a)))), (sc, .inl (G.2.1, 6, .inl (zkt (t.ac + 1, t.po + zm V X a, t.si, t.ta, t.gu, t.wr)))), (sl, .inl (G.2.2.1, rows.length, .inr (.inr (.inr (.inr (zlf rows))))))] : va_W) ++ rows.map (zrc G n)) H := hP
      have hD : va_D A (([(sh, .inr (4, [.ref sv, .ref sa, .ref sc, .ref sl])), (sv, .inl (G.2.1, n, .inl (zar n V))), (sa, .inl (G.2.1, n, .inl (zar n (zmv V X a)))), (sc, .inl (G.2.1, 6, .inl (zkt (t.ac + 1, t.po + zm V X a, t.si, t.ta, t.gu, t.wr)))), (sl, .inl (G.2.2.1, rows.length, .inr (.inr (.inr (.inr (zlf rows))))))] : va_W) ++ rows.map (zrc G n)) := hD
      have et : (t.ac + 1, t.po + zm V X a, t.si, t.ta, t.gu, t.wr) = zUact V X a t := by unfold zUact; rw [if_pos (by omega), if_pos (by omega), if_pos (by omega)]; rfl
      rw [et] at hP hD
      exact rest H locs ls hP hD hS (lv_sub hl [0, 1, 2] rfl)
