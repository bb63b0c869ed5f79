/-! candidates: what each row of volumes would hold, or nothing -/
abbrev zCs : Type := Nat → Option Nat
def zcnt (n : Nat) : Nat := if n = 2 then 81 else 729
/-- the volumes of the row N -/
def zcv (n N j : Nat) : Nat := if j = 0 then N % 9 + 1 else if j = 1 then N / 9 % 9 + 1 else if n = 2 then 0 else N / 81 + 1
def zO (o : Option Nat) : Int32 := match o with
  | some s => nI s
  | none => -1
/-- candidates that make sense -/
def zCok (n : Nat) (C : zCs) : Prop := (∀ N, zcnt n ≤ N → C N = none) ∧ ∀ N s, C N = some s → s < 1000 ∧ zOK (zcv n N) (zdg s)
/-- the class's table of them -/
def zCc (C : zCs) (hd : Nat → Int32) : Prop := ∀ N, N < 729 → hd N = zO (C N)
def zNm (C : zCs) : Nat → Nat
  | 0 => 0
  | k + 1 => zNm C k + if (C k).isSome = true then 1 else 0
theorem zNm_le (C : zCs) : ∀ k, zNm C k ≤ k := by
  intro k
  induction k with
  | zero => exact Nat.le_refl _
  | succ k ih => unfold zNm; split <;> omega
theorem zNm_congr {C D : zCs} : ∀ k, (∀ N, N < k → C N = D N) → zNm C k = zNm D k := by
  intro k
  induction k with
  | zero => intro _; rfl
  | succ k ih =>
    intro h
    unfold zNm
    rw [ih (fun N hN => h N (by omega)), h k (by omega)]
/-- one row changed -/
theorem zNm_one {C D : zCs} {i : Nat} : ∀ k, i < k → (∀ N, N ≠ i → C N = D N) → zNm C k + (if (D i).isSome = true then 1 else 0) = zNm D k + (if (C i).isSome = true then 1 else 0) := by
  intro k
  induction k with
  | zero => intro h; omega
  | succ k ih =>
    intro hi h
    unfold zNm
    rcases Nat.eq_or_lt_of_le (Nat.le_of_lt_succ hi) with q | q
    · subst q
      rw [zNm_congr i (fun N hN => h N (by omega))]
      omega
    · have := ih q h
      rw [h k (by omega)]
      omega
theorem zcv_le {n N : Nat} (hN : N < 729) (j : Nat) : zcv n N j ≤ 9 := by
  unfold zcv
  split
  · omega
  · split
    · omega
    · split <;> omega
theorem zO_no {C : zCs} {n N : Nat} (h : zCok n C) : (zO (C N) = (-1 : Int32) ↔ C N = none) := by
  cases q : C N with
  | none => exact ⟨fun _ => rfl, fun _ => rfl⟩
  | some s =>
    have := (h.2 N s q).1
    exact ⟨fun z => absurd z (z_m1 (by omega)), fun z => by cases z⟩
theorem zc_isCand {C : zCs} {n : Nat} {hd : Nat → Int32} (hC : zCok n C) (h : zCc C hd) {N : Nat} (hN : N < 729) : f_X0_isCandidate hd (nI N) = if (C N).isSome = true then 1 else 0 := by
  unfold f_X0_isCandidate
  rw [if_neg (z_neg (by omega)), zl729, z_if_le (by omega) (by omega), if_neg (by omega), nI_clamp (by omega), h N hN]
  cases q : C N with
  | none => rfl
  | some s =>
    have hs := (hC.2 N s q).1
    have h1 : ¬ zO (some s) = (-1 : Int32) := z_m1 (d := s) (by omega)
    rw [if_neg h1]
    rfl
