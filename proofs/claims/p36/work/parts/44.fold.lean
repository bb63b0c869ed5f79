/-! going through all candidates: one fold for the class's rows and for the model's -/
def zSp {σ : Type} (C : zCs) (F : Nat → Nat → σ → σ) (s : σ) (N : Nat) : σ := match C N with
  | none => s
  | some x => F N x s
def zGo {σ : Type} (C : zCs) (F : Nat → Nat → σ → σ) : Nat → Nat → σ → σ
  | 0, _, s => s
  | m + 1, k, s => zGo C F m (k + 1) (zSp C F s k)
theorem zGo_list {σ : Type} (C : zCs) (F : Nat → Nat → σ → σ) : ∀ (m k : Nat) (s : σ), zGo C F m k s = (List.range' k m).foldl (zSp C F) s := by
  intro m
  induction m with
  | zero => intro k s; rfl
  | succ m ih => intro k s; unfold zGo; rw [ih, List.range'_succ]; rfl
theorem zGo_none {σ : Type} {C : zCs} {F : Nat → Nat → σ → σ} : ∀ (m k : Nat) (s : σ), (∀ N, k ≤ N → C N = none) → zGo C F m k s = s := by
  intro m
  induction m with
  | zero => intro k s _; rfl
  | succ m ih =>
    intro k s h
    unfold zGo
    rw [ih _ _ (fun N hN => h N (by omega))]
    unfold zSp
    rw [h k (Nat.le_refl _)]
theorem zGo_add {σ : Type} {C : zCs} {F : Nat → Nat → σ → σ} : ∀ (a b k : Nat) (s : σ), zGo C F (a + b) k s = zGo C F b (k + a) (zGo C F a k s) := by
  intro a
  induction a with
  | zero => intro b k s; rw [Nat.zero_add]; rfl
  | succ a ih =>
    intro b k s
    rw [show a + 1 + b = (a + b) + 1 by omega]
    show zGo C F (a + b) (k + 1) _ = _
    rw [ih, show k + 1 + a = k + (a + 1) by omega]
    rfl
/-- the rows of the model -/
def zrow (n N : Nat) : Nat := (N % 9 + 1) + 10 * (N / 9 % 9 + 1) + 100 * (if n = 2 then 0 else N / 81 + 1)
def zinv (n r : Nat) : Option Nat := if 0 < r % 10 ∧ 0 < r / 10 % 10 ∧ (if n = 2 then r / 100 = 0 else 0 < r / 100) then some ((r % 10 - 1) + 9 * (r / 10 % 10 - 1) + (if n = 2 then 0 else 81 * (r / 100 - 1))) else none
theorem zinv_2 : (List.range' 0 1000).filterMap (zinv 2) = List.range' 0 81 := by decide +kernel
theorem zinv_3 : (List.range' 0 1000).filterMap (zinv 3) = List.range' 0 729 := by decide +kernel
/-- the model's way through its rows -/
def zGm {σ : Type} (n : Nat) (C : zCs) (F : Nat → Nat → σ → σ) : Nat → Nat → σ → σ
  | 0, _, s => s
  | m + 1, r, s => zGm n C F m (r + 1) (match zinv n r with
    | none => s
    | some N => zSp C F s N)
theorem zGm_list {σ : Type} (n : Nat) (C : zCs) (F : Nat → Nat → σ → σ) : ∀ (m k : Nat) (s : σ), zGm n C F m k s = ((List.range' k m).filterMap (zinv n)).foldl (zSp C F) s := by
  intro m
  induction m with
  | zero => intro k s; rfl
  | succ m ih =>
    intro k s
    unfold zGm
    rw [ih, List.range'_succ]
    cases q : zinv n k with
    | none => rw [List.filterMap_cons_none q]
    | some N => rw [List.filterMap_cons_some q]; rfl
theorem zGm_eq {σ : Type} {n : Nat} (hn : n = 2 ∨ n = 3) {C : zCs} (hC : zCok n C) (F : Nat → Nat → σ → σ) (s : σ) : zGm n C F 1000 0 s = zGo C F 729 0 s := by
  rw [zGm_list]
  rcases hn with rfl | rfl
  · rw [zinv_2, ← zGo_list, show (729 : Nat) = 81 + 648 from rfl, zGo_add]
    exact (zGo_none _ _ _ (fun N hN => hC.1 N (by show 81 ≤ N; omega))).symm
  · rw [zinv_3, ← zGo_list]
theorem zinv_eq2 (r : Nat) : zinv 2 r = if 0 < r % 10 ∧ 0 < r / 10 % 10 ∧ r / 100 = 0 then some ((r % 10 - 1) + 9 * (r / 10 % 10 - 1)) else none := by
  unfold zinv; simp
theorem zinv_eq3 (r : Nat) : zinv 3 r = if 0 < r % 10 ∧ 0 < r / 10 % 10 ∧ 0 < r / 100 then some ((r % 10 - 1) + 9 * (r / 10 % 10 - 1) + 81 * (r / 100 - 1)) else none := by
  unfold zinv; simp
theorem zinv_row {n r N : Nat} (hn : n = 2 ∨ n = 3) (hr : r < 1000) (h : zinv n r = some N) : zrow n N = r ∧ N < zcnt n ∧ ∀ j, j < 3 → zdg r j = zcv n N j := by
  rcases hn with rfl | rfl
  · rw [zinv_eq2] at h
    by_cases q : 0 < r % 10 ∧ 0 < r / 10 % 10 ∧ r / 100 = 0
    · rw [if_pos q] at h
      have h := Option.some.inj h
      unfold zrow zcnt zcv zdg
      refine ⟨?_, ?_, fun j hj => ?_⟩
      · rw [if_pos rfl]; omega
      · rw [if_pos rfl]; omega
      · rcases z_j3 hj with rfl | rfl | rfl
        · rw [if_pos rfl, if_pos rfl]; omega
        · rw [if_neg (by omega), if_pos rfl, if_neg (by omega), if_pos rfl]; omega
        · rw [if_neg (by omega), if_neg (by omega), if_neg (by omega), if_neg (by omega), if_pos rfl]; omega
    · rw [if_neg q] at h; cases h
  · rw [zinv_eq3] at h
    by_cases q : 0 < r % 10 ∧ 0 < r / 10 % 10 ∧ 0 < r / 100
    · rw [if_pos q] at h
      have h := Option.some.inj h
      unfold zrow zcnt zcv zdg
      refine ⟨?_, ?_, fun j hj => ?_⟩
      · rw [if_neg (by omega)]; omega
      · rw [if_neg (by omega)]; omega
      · rcases z_j3 hj with rfl | rfl | rfl
        · rw [if_pos rfl, if_pos rfl]; omega
        · rw [if_neg (by omega), if_pos rfl, if_neg (by omega), if_pos rfl]; omega
        · rw [if_neg (by omega), if_neg (by omega), if_neg (by omega), if_neg (by omega), if_neg (by omega)]; omega
    · rw [if_neg q] at h; cases h
theorem zrow_inv {n N : Nat} (hn : n = 2 ∨ n = 3) (hN : N < zcnt n) : zrow n N < 1000 ∧ zinv n (zrow n N) = some N := by
  unfold zcnt at hN
  unfold zinv zrow
  rcases hn with rfl | rfl
  · rw [if_pos rfl] at hN
    rw [if_pos rfl]
    refine ⟨by omega, ?_⟩
    rw [if_pos ⟨by omega, by omega, by rw [if_pos rfl]; omega⟩, if_pos rfl]
    congr 1; omega
  · rw [if_neg (by omega)] at hN
    rw [if_neg (by omega)]
    refine ⟨by omega, ?_⟩
    rw [if_pos ⟨by omega, by omega, by rw [if_neg (by omega)]; omega⟩, if_neg (by omega)]
    congr 1; omega
/-- the model's table of candidates -/
def zRo (o : Option Nat) (ml mh : Nat → Int32) (r : Nat) : Prop := match o with
  | none => ml r = 0
  | some s => ml r = 1 ∧ ∀ j, j < 3 → mh (3 * r + j) = nI (zdg s j)
def zCm (n : Nat) (C : zCs) (ml mh : Nat → Int32) : Prop := ∀ r, r < 1000 → zRo ((zinv n r).bind C) ml mh r
theorem zGm_no {σ : Type} {n : Nat} {C : zCs} {F : Nat → Nat → σ → σ} {m r : Nat} {s : σ} (h : (zinv n r).bind C = none) : zGm n C F (m + 1) r s = zGm n C F m (r + 1) s := by
  show zGm n C F m (r + 1) (match zinv n r with
    | none => s
    | some N => zSp C F s N) = _
  cases q : zinv n r with
  | none => rfl
  | some N =>
    rw [q] at h
    have h : C N = none := h
    show zGm n C F m (r + 1) (zSp C F s N) = _
    unfold zSp
    rw [h]
theorem zGm_yes {σ : Type} {n : Nat} {C : zCs} {F : Nat → Nat → σ → σ} {m r N x : Nat} {s : σ} (h : zinv n r = some N) (h2 : C N = some x) : zGm n C F (m + 1) r s = zGm n C F m (r + 1) (F N x s) := by
  show zGm n C F m (r + 1) (match zinv n r with
    | none => s
    | some N => zSp C F s N) = _
  rw [h]
  show zGm n C F m (r + 1) (zSp C F s N) = _
  unfold zSp
  rw [h2]
theorem z_bind (n : Nat) (C : zCs) (r : Nat) : (zinv n r).bind C = none ∨ ∃ N x, zinv n r = some N ∧ C N = some x ∧ (zinv n r).bind C = some x := by
  cases q : zinv n r with
  | none => exact Or.inl rfl
  | some N =>
    cases q2 : C N with
    | none => left; show C N = none; exact q2
    | some x => exact Or.inr ⟨N, x, rfl, q2, q2⟩
/-- how many, as a fold -/
theorem zGo_succ {σ : Type} {C : zCs} {F : Nat → Nat → σ → σ} (k : Nat) (s : σ) : zGo C F (k + 1) 0 s = zSp C F (zGo C F k 0 s) k := by
  rw [zGo_add, Nat.zero_add]; rfl
theorem zNm_go (C : zCs) : ∀ k, zGo C (fun _ _ c => c + 1) k 0 0 = zNm C k := by
  intro k
  induction k with
  | zero => rfl
  | succ k ih =>
    rw [zGo_succ, ih]
    show zSp C _ (zNm C k) k = zNm C k + (if (C k).isSome = true then 1 else 0)
    unfold zSp
    cases C k with
    | none => rfl
    | some x => rfl
/-- some candidate has this volume -/
def zMay (n : Nat) (C : zCs) (jar v : Nat) : Bool := zGo C (fun N _ b => b || decide (zcv n N jar = v)) 729 0 false
