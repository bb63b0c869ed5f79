/-! rows that name what they read and write by numbers nI -/
section ZT
variable {p : Program} {l : Launch} {e : Env} {R : Room} {s : State} {m : MethodId} {args : Array Value} {below : List Frame} {meth : Method} {c : Code} {H : Heap} {locs : List Loc} {cells slots : Nat} {Q : State → Prop}
variable {cc : ByteArray} {pc : Nat} {ls : Array Slot} {rest : List Value} {A : Nat → Prop} {G : zG} {ws : va_W} {a : Nat}
theorem zt_top {x v : Int32} (h : x = v) (k : W p l e R s m args below meth c H locs cells slots Q (F0 m pc ls (.int v :: rest))) : W p l e R s m args below meth c H locs cells slots Q (F0 m pc ls (.int x :: rest)) := by subst h; exact k
theorem zt_vp {j n : Nat} (hj : j < n) (hn : n < 2 ^ 31) : vp_in (nI j) n := vp_in_nI hj hn
theorem zr_iald (hx : p.tables.exec = Jvm.exec) (hb : c.code = cc) (hK : zK G s) (hP : va_P G.1 vwCl ws H) (q0 : Nat) {n : Nat} {f : Nat → Int32} (ha : ws[q0]? = some (a, .inl (G.2.1, n, .inl f))) {j : Nat} (hj : j < n) (hn : n < 2 ^ 31) {v : Int32} (hv : f j = v) (hdg : decode cc pc = .ok (.iaload, 1))
    (kk : W p l e R s m args below meth c H locs cells slots Q (F0 m (pc + 1) ls (.int v :: rest))) : W p l e R s m args below meth c H locs cells slots Q (F0 m pc ls (.int (nI j) :: .ref a :: rest)) := by
  subst hv
  refine va_iald hx hb hK.1 hP q0 0 ha rfl (zt_vp hj hn) hdg ?_
  rw [nI_clamp (by omega)]
  exact kk
theorem zr_iast (hx : p.tables.exec = Jvm.exec) (hb : c.code = cc) (hK : zK G s) (hP : va_P G.1 vwCl ws H) (hD : va_D A ws) (hS : va_S A s.heap H locs) (q0 : Nat) {n : Nat} {f g : Nat → Int32} (ha : ws[q0]? = some (a, .inl (G.2.1, n, .inl f))) {j : Nat} (hj : j < n) (hn : n < 2 ^ 31) {v : Int32} (hg : upd f j v = g) (hdg : decode cc pc = .ok (.iastore, 1))
    (kk : ∀ (H1 : Heap) (locs1 : List Loc), va_P G.1 vwCl (ws.set q0 (a, .inl (G.2.1, n, .inl g))) H1 → va_D A (ws.set q0 (a, .inl (G.2.1, n, .inl g))) → va_S A s.heap H1 locs1 → W p l e R s m args below meth c H1 locs1 cells slots Q (F0 m (pc + 1) ls rest)) : W p l e R s m args below meth c H locs cells slots Q (F0 m pc ls (.int v :: .int (nI j) :: .ref a :: rest)) := by
  subst hg
  refine va_iast hx hb hK.1 hP hD hS q0 0 ha rfl (zt_vp hj hn) hdg ?_
  rw [nI_clamp (by omega)]
  exact kk
theorem zr_alen (hx : p.tables.exec = Jvm.exec) (hb : c.code = cc) (hK : zK G s) (hP : va_P G.1 vwCl ws H) (q0 : Nat) {n : Nat} {x : (Nat → Int32) ⊕ (Nat → Int64) ⊕ (Nat → UInt32) ⊕ (Nat → UInt64) ⊕ (Nat → Option Nat)} (ha : ws[q0]? = some (a, .inl (G.2.1, n, x))) (hdg : decode cc pc = .ok (.arraylength, 1))
    (kk : W p l e R s m args below meth c H locs cells slots Q (F0 m (pc + 1) ls (.int (nI n) :: rest))) : W p l e R s m args below meth c H locs cells slots Q (F0 m pc ls (.ref a :: rest)) :=
  va_alen (v := nI n) hx hb hK.1 hP q0 0 ha rfl rfl hdg kk
theorem zr_alenQ (hx : p.tables.exec = Jvm.exec) (hb : c.code = cc) (hK : zK G s) (hP : va_P G.1 vwCl ws H) (q0 : Nat) {n : Nat} {x : (Nat → Int32) ⊕ (Nat → Int64) ⊕ (Nat → UInt32) ⊕ (Nat → UInt64) ⊕ (Nat → Option Nat)} (ha : ws[q0]? = some (a, .inl (G.2.2.1, n, x))) (hdg : decode cc pc = .ok (.arraylength, 1))
    (kk : W p l e R s m args below meth c H locs cells slots Q (F0 m (pc + 1) ls (.int (nI n) :: rest))) : W p l e R s m args below meth c H locs cells slots Q (F0 m pc ls (.ref a :: rest)) :=
  va_alen (v := nI n) hx hb hK.1 hP q0 1 ha rfl rfl hdg kk
theorem zr_new (hx : p.tables.exec = Jvm.exec) (hb : c.code = cc) (harr : (Cond.arrayClass .int).before args s = true) (hK : zK G s) (hP : va_P G.1 vwCl ws H) (hD : va_D A ws) (hS : va_S A s.heap H locs) (hA : ∀ q : Nat, s.heap.size ≤ q → A q) {N : Nat} (hN : N ≤ 1000) (hcells : cells + 1 ≤ R.cells) (hslots : slots + N ≤ R.slots) (hdg : decode cc pc = .ok (.newarray .int, 2))
    (kk : ∀ (q : Nat) (H1 : Heap), va_P G.1 vwCl (ws ++ [(q, .inl (G.2.1, N, .inl (fun _ => 0)))]) H1 → va_D A (ws ++ [(q, .inl (G.2.1, N, .inl (fun _ => 0)))]) → va_S A s.heap H1 locs → W p l e R s m args below meth c H1 locs (cells + 1) (slots + N) Q (F0 m (pc + 2) ls (.ref q :: rest))) :
    W p l e R s m args below meth c H locs cells slots Q (F0 m pc ls (.int (nI N) :: rest)) := by
  refine va_newa (atype := .int) hx hb harr (ty := .int) rfl hK.1 hP hD hS hA (N' := N) (a0 := (N, .inl (fun _ => 0))) (fun _ => rfl) (nI_pos (by omega)) (nI_clamp (by omega)) (show N * 4 ≤ 536870912 by omega) hcells hslots hdg (fun q cA H1 hK2 hP hD hS => ?_)
  obtain rfl := z_newI hK hK2
  exact kk q H1 hP hD hS
theorem zr_newQ (hx : p.tables.exec = Jvm.exec) (hb : c.code = cc) {own : String} {index : Nat} (hown : s.vm.findClass own = some m.cls) (hclink : (Cond.classLink own index "[I").before args s = true) (hK : zK G s) (hP : va_P G.1 vwCl ws H) (hD : va_D A ws) (hS : va_S A s.heap H locs) (hA : ∀ q : Nat, s.heap.size ≤ q → A q) {N : Nat} (hN : N ≤ 1000) (hcells : cells + 1 ≤ R.cells) (hslots : slots + N ≤ R.slots) (hdg : decode cc pc = .ok (.anewarray index, 3))
    (kk : ∀ (q : Nat) (H1 : Heap), va_P G.1 vwCl (ws ++ [(q, .inl (G.2.2.1, N, .inr (.inr (.inr (.inr (fun _ => none))))))]) H1 → va_D A (ws ++ [(q, .inl (G.2.2.1, N, .inr (.inr (.inr (.inr (fun _ => none))))))]) → va_S A s.heap H1 locs → W p l e R s m args below meth c H1 locs (cells + 1) (slots + N) Q (F0 m (pc + 3) ls (.ref q :: rest))) :
    W p l e R s m args below meth c H locs cells slots Q (F0 m pc ls (.int (nI N) :: rest)) :=
  zr_anew hx hb hown hclink hK hP hD hS hA (nI_pos (by omega)) (nI_clamp (by omega)) (by omega) hcells hslots hdg kk
/-- int[][] read and written by numbers nI -/
theorem zr_qld (hx : p.tables.exec = Jvm.exec) (hb : c.code = cc) (hK : zK G s) (hP : va_P G.1 vwCl ws H) (q0 : Nat) {n : Nat} {f : Nat → Option Nat} (ha : ws[q0]? = some (a, .inl (G.2.2.1, n, .inr (.inr (.inr (.inr f)))))) {j b : Nat} (hj : j < n) (hn : n < 2 ^ 31) (hf : f j = some b) (hdg : decode cc pc = .ok (.aaload, 1))
    (kk : W p l e R s m args below meth c H locs cells slots Q (F0 m (pc + 1) ls (.ref b :: rest))) : W p l e R s m args below meth c H locs cells slots Q (F0 m pc ls (.int (nI j) :: .ref a :: rest)) :=
  zr_aald hx hb hK hP q0 ha (zt_vp hj hn) (nI_clamp (by omega)) hf hdg kk
theorem zr_qst (hx : p.tables.exec = Jvm.exec) (hb : c.code = cc) (hK : zK G s) {v : Nat} (hP : va_P G.1 vwCl ws H) (hD : va_D A ws) (hS : va_S A s.heap H locs) (q0 : Nat) {n n2 : Nat} {f g : Nat → Option Nat} {g2 : Nat → Int32} (ha : ws[q0]? = some (a, .inl (G.2.2.1, n, .inr (.inr (.inr (.inr f)))))) (hv : (v, .inl (G.2.1, n2, .inl g2)) ∈ ws) {j : Nat} (hj : j < n) (hn : n < 2 ^ 31) (hg : va_up f j (some v) = g) (hdg : decode cc pc = .ok (.aastore, 1))
    (kk : ∀ (H1 : Heap) (locs1 : List Loc), va_P G.1 vwCl (ws.set q0 (a, .inl (G.2.2.1, n, .inr (.inr (.inr (.inr g)))))) H1 → va_D A (ws.set q0 (a, .inl (G.2.2.1, n, .inr (.inr (.inr (.inr g)))))) → va_S A s.heap H1 locs1 → W p l e R s m args below meth c H1 locs1 cells slots Q (F0 m (pc + 1) ls rest)) : W p l e R s m args below meth c H locs cells slots Q (F0 m pc ls (.ref v :: .int (nI j) :: .ref a :: rest)) := by
  subst hg
  obtain ⟨qk, hv⟩ := List.getElem?_of_mem hv
  refine zr_aast hx hb hK hP hD hS q0 qk ha hv (zt_vp hj hn) hdg ?_
  rw [nI_clamp (by omega)]
  exact kk
end ZT
/-! what the law's own object holds -/
def zar (n : Nat) (X : Nat → Nat) : Nat → Int32 := fun j => if j < n then nI (X j) else 0
def zkt (t : zU) : Nat → Int32 := fun i => if i = 0 then nI t.ac else if i = 1 then nI t.po else if i = 2 then nI t.si else if i = 3 then nI t.ta else if i = 4 then nI t.gu else if i = 5 then nI t.wr else 0
/-- a candidate's row: volumes, amounts -/
def zrw (n N s : Nat) : Nat → Int32 := fun i => if i < n then nI (zcv n N i) else if i < 2 * n then nI (zdg s (i - n)) else 0
abbrev zRows : Type := List (Nat × Nat × Nat)
abbrev zrc (G : zG) (n : Nat) (r : Nat × Nat × Nat) : Nat × va_E := (r.1, .inl (G.2.1, 2 * n, .inl (zrw n r.2.1 r.2.2)))
def zlf (rows : zRows) : Nat → Option Nat := fun i => (rows[i]?).map Prod.fst
/-- the candidates, in their numbers' order -/
def zCl (C : zCs) : List (Nat × Nat) := (List.range 729).filterMap (fun N => (C N).map (fun s => (N, s)))
abbrev zSu : Type := Nat × Nat × Nat × Nat × zRows
abbrev zSW (G : zG) (sh : Nat) (n : Nat) (V X : Nat → Nat) (t : zU) (u : zSu) : va_W := [(sh, .inr (4, [.ref u.1, .ref u.2.1, .ref u.2.2.1, .ref u.2.2.2.1])), (u.1, .inl (G.2.1, n, .inl (zar n V))), (u.2.1, .inl (G.2.1, n, .inl (zar n X))), (u.2.2.1, .inl (G.2.1, 6, .inl (zkt t))), (u.2.2.2.1, .inl (G.2.2.1, u.2.2.2.2.length, .inr (.inr (.inr (.inr (zlf u.2.2.2.2))))))] ++ u.2.2.2.2.map (zrc G n)
theorem zar_at {n : Nat} {X : Nat → Nat} {j : Nat} (hj : j < n) : zar n X j = nI (X j) := if_pos hj
theorem zar_upd {n : Nat} {X Y : Nat → Nat} {j x : Nat} (hj : j < n) (hY : ∀ i, i < n → Y i = if i = j then x else X i) : upd (zar n X) j (nI x) = zar n Y := by
  funext i
  unfold zar
  by_cases q : i = j
  · subst q
    rw [pk_us, if_pos hj, hY i hj, if_pos rfl]
  · rw [pk_un q]
    by_cases z : i < n
    · rw [if_pos z, if_pos z, hY i z, if_neg q]
    · rw [if_neg z, if_neg z]
theorem zar_congr {n : Nat} {X Y : Nat → Nat} (h : ∀ j, j < n → X j = Y j) : zar n X = zar n Y := by
  funext i
  unfold zar
  by_cases z : i < n
  · rw [if_pos z, if_pos z, h i z]
  · rw [if_neg z, if_neg z]
theorem zrw_v {n N s i : Nat} (h : i < n) : zrw n N s i = nI (zcv n N i) := if_pos h
theorem zrw_a {n N s i : Nat} (h : i < n) : zrw n N s (n + i) = nI (zdg s i) := by
  unfold zrw
  rw [if_neg (by omega), if_pos (by omega), Nat.add_sub_cancel_left]
theorem zj_move (a b : va_W) (x : Nat × va_E) : ((a ++ b) ++ [x]).Perm ((a ++ [x]) ++ b) := by
  rw [List.append_assoc, List.append_assoc]
  exact List.Perm.append_left a List.perm_append_comm
