/-! the candidates as a list -/
theorem zcl_map {C : zCs} {h : Nat → Nat → Option Nat} {g : Nat × Nat → Option (Nat × Nat)} (hg : ∀ N s, C N = some s → g (N, s) = (h N s).map (fun x => (N, x))) : zCl (zUp C h) = (zCl C).filterMap g := by
  unfold zCl
  rw [List.filterMap_filterMap]
  refine congrArg (fun f => List.filterMap f (List.range 729)) (funext (fun N => ?_))
  unfold zUp
  cases hs : C N with
  | none => rfl
  | some s =>
    show (h N s).map _ = g (N, s)
    rw [hg N s hs]
theorem zcs_3 {V X : Nat → Nat} {j : Nat} (h : 1 ≤ V j) : (zct V X j = 2 ∧ zsd V X j = 1) ∨ (zct V X j = 1 ∧ zsd V X j = 2) ∨ (zct V X j = 0 ∧ zsd V X j = 0) := by
  unfold zct zsd
  by_cases a : X j = 0
  · left; rw [if_pos a, if_neg (by omega), if_pos a]; exact ⟨rfl, rfl⟩
  · by_cases b : X j = V j
    · right; left; rw [if_neg a, if_pos b, if_neg a, if_pos b]; exact ⟨rfl, rfl⟩
    · right; right; rw [if_neg a, if_neg b, if_neg a, if_neg b]; exact ⟨rfl, rfl⟩
theorem zct_sd {V V' X X' : Nat → Nat} {j : Nat} (h : 1 ≤ V j) (h' : 1 ≤ V' j) : zct V X j = zct V' X' j ↔ zsd V X j = zsd V' X' j := by
  have a := zcs_3 (X := X) h
  have b := zcs_3 (X := X') h'
  omega
theorem zsi_lk {n : Nat} (hn : n = 2 ∨ n = 3) {V V' X X' : Nat → Nat} (h : ∀ j, j < n → 1 ≤ V j) (h' : ∀ j, j < n → 1 ≤ V' j) (ht : zTw n V X) (ht' : zTw n V' X') : zsi V X n = zsi V' X' n ↔ zlk V X = zlk V' X' := by
  have d0 := zct_sd (X := X) (X' := X') (h 0 (by omega)) (h' 0 (by omega))
  have d1 := zct_sd (X := X) (X' := X') (h 1 (by omega)) (h' 1 (by omega))
  have b : ∀ (V X : Nat → Nat) j, zsd V X j ≤ 2 := fun V X j => by unfold zsd; split; omega; split <;> omega
  have c := zct_le
  have b0 := b V X 0
  have b1 := b V X 1
  have b0' := b V' X' 0
  have b1' := b V' X' 1
  have c0 := c V X 0
  have c1 := c V X 1
  have c2 := c V X 2
  have c0' := c V' X' 0
  have c1' := c V' X' 1
  have c2' := c V' X' 2
  rcases hn with rfl | rfl
  · have t := ht rfl
    have t' := ht' rfl
    have e2 : zct V X 2 = zct V' X' 2 := by unfold zct; rw [t.1, t.2, t'.1, t'.2]
    show 3 * (3 * 0 + zsd V X 0) + zsd V X 1 = 3 * (3 * 0 + zsd V' X' 0) + zsd V' X' 1 ↔ _
    unfold zlk
    constructor
    · intro z
      have z0 := d0.mpr (by omega)
      have z1 := d1.mpr (by omega)
      omega
    · intro z
      have z0 := d0.mp (by omega)
      have z1 := d1.mp (by omega)
      omega
  · have d2 := zct_sd (X := X) (X' := X') (h 2 (by omega)) (h' 2 (by omega))
    have b2 := b V X 2
    have b2' := b V' X' 2
    show 3 * (3 * (3 * 0 + zsd V X 0) + zsd V X 1) + zsd V X 2 = 3 * (3 * (3 * 0 + zsd V' X' 0) + zsd V' X' 1) + zsd V' X' 2 ↔ _
    unfold zlk
    constructor
    · intro z
      have z0 := d0.mpr (by omega)
      have z1 := d1.mpr (by omega)
      have z2 := d2.mpr (by omega)
      omega
    · intro z
      have z0 := d0.mp (by omega)
      have z1 := d1.mp (by omega)
      have z2 := d2.mp (by omega)
      omega
theorem zcv_1 {n N j : Nat} (hn : n = 2 ∨ n = 3) (hj : j < n) : 1 ≤ zcv n N j := by
  unfold zcv
  split
  · omega
  · split
    · omega
    · rw [if_neg (by omega)]; omega
theorem zV_1 {V : Nat → Nat} (hp : zPv V) {j : Nat} (hj : j < zn V) : 1 ≤ V j := by
  have hz := zn_23 V
  rcases (by omega : j = 0 ∨ j = 1 ∨ j = 2) with rfl | rfl | rfl
  · exact hp.1.1
  · exact hp.2.1
  · unfold zn at hj; split at hj <;> omega
theorem zTw_cv {n N : Nat} {Y : Nat → Nat} (ok : zOK (zcv n N) Y) : zTw n (zcv n N) Y := by
  intro h
  have o := ok 2 (by omega)
  have e : zcv n N 2 = 0 := by unfold zcv; rw [if_neg (by omega), if_neg (by omega), if_pos h]
  exact ⟨e, by omega⟩
theorem zCl_act {V X : Nat → Nat} {C : zCs} (ok : zOK V X) (pv : zPv V) (cok : zCok (zn V) C) {a : Nat} (ha : a < 15) : zCl (zNew V X a C) = (zCl C).filterMap (zgo (zn V) a (zsi V (zmv V X a) (zn V))) := by
  have hn := zn_23 V
  refine zcl_map (fun N s hs => ?_)
  have o := cok.2 N s hs
  have ok1 := zmv_ok o.2 ha
  have ok2 := zmv_ok ok ha
  have e := zsi_lk hn (V := zcv (zn V) N) (V' := V) (X := zmv (zcv (zn V) N) (zdg s) a) (X' := zmv V X a) (fun j hj => zcv_1 hn hj) (fun j hj => zV_1 pv hj) (zTw_cv ok1) (zTw_zn ok2)
  unfold zgo zgSee
  by_cases q : zlk (zcv (zn V) N) (zmv (zcv (zn V) N) (zdg s) a) = zlk V (zmv V X a)
  · rw [if_pos q, if_pos (e.mpr q)]; rfl
  · rw [if_neg q, if_neg (fun z => q (e.mp z))]; rfl
theorem zCl_learn {n : Nat} {C : zCs} {j v : Nat} {b : Bool} : zCl (zUp C (zgLearn n j v b)) = (zCl C).filterMap (zgg n j v b) := by
  refine zcl_map (fun N s _ => ?_)
  unfold zgg zgLearn
  by_cases q : decide (zcv n N j = v) = b
  · rw [if_pos q, if_pos q]; rfl
  · rw [if_neg q, if_neg q]; rfl
theorem zCl_0 {n : Nat} (hn : n = 2 ∨ n = 3) : zCl (zC0 n) = zAll n := by
  unfold zCl zAll zC0 zcnt
  rcases hn with rfl | rfl
  · rw [if_pos rfl]; decide +kernel
  · rw [if_neg (by decide)]; decide +kernel
theorem zNm_cl (C : zCs) : ∀ k, ((List.range k).filterMap (fun N => (C N).map (fun s => (N, s)))).length = zNm C k := by
  intro k
  induction k with
  | zero => rfl
  | succ k ih =>
    rw [List.range_succ, List.filterMap_append, List.length_append, ih]
    show _ = zNm C k + if (C k).isSome = true then 1 else 0
    cases h : C k with
    | none => simp [List.filterMap_cons, h]
    | some s => simp [List.filterMap_cons, h]
theorem zCl_len (C : zCs) : (zCl C).length = zNm C 729 := zNm_cl C 729
theorem zMay_cl (n : Nat) (C : zCs) (j v : Nat) : ∀ k, ((List.range k).filterMap (fun N => (C N).map (fun s => (N, s)))).any (fun r => decide (zcv n r.1 j = v)) = zGo C (zyF n j v) k 0 false := by
  intro k
  induction k with
  | zero => rfl
  | succ k ih =>
    rw [List.range_succ, List.filterMap_append, List.any_append, ih, zGo_succ]
    unfold zSp
    cases h : C k with
    | none => simp [List.filterMap_cons, h]
    | some s => simp [List.filterMap_cons, h, zyF]
theorem zCl_may (n : Nat) (C : zCs) (j v : Nat) : (zCl C).any (fun r => decide (zcv n r.1 j = v)) = zMay n C j v := zMay_cl n C j v 729
theorem zCl_mem {C : zCs} {r : Nat × Nat} (h : r ∈ zCl C) : C r.1 = some r.2 := by
  unfold zCl at h
  obtain ⟨N, -, h2⟩ := List.mem_filterMap.mp h
  cases hs : C N with
  | none => rw [hs] at h2; cases h2
  | some s => rw [hs] at h2; cases h2; exact hs
/-- what holds of the law's own rows -/
def zRw (C : zCs) (u : zSu) : Prop := u.2.2.2.2.map Prod.snd = zCl C
theorem zRw.ok {n : Nat} {C : zCs} {u : zSu} (h : zRw C u) (cok : zCok n C) : zRok n u.2.2.2.2 := by
  refine ⟨?_, fun r hr => ?_⟩
  · have := congrArg List.length h
    rw [List.length_map, zCl_len] at this
    rw [this]; exact zNm_le C 729
  · have h2 : r.2 ∈ zCl C := by rw [← h]; exact List.mem_map_of_mem hr
    exact (cok.2 r.2.1 r.2.2 (zCl_mem h2)).2
theorem zRw.len {C : zCs} {u : zSu} (h : zRw C u) : u.2.2.2.2.length = zNm C 729 := by
  have := congrArg List.length h
  rw [List.length_map, zCl_len] at this
  exact this
theorem zRw.may {C : zCs} {u : zSu} (h : zRw C u) (n j v : Nat) : u.2.2.2.2.any (zhv n j v) = zMay n C j v := by
  rw [← zCl_may, ← h, List.any_map]
  rfl
