/-! does some jar hold it; safety of the model's small methods -/
def zhas (n : Nat) (X : Nat → Nat) (v : Nat) : Bool := decide (X 0 = v) || (decide (X 1 = v) || (decide (n = 3) && decide (X 2 = v)))
def zb01 (b : Bool) : Int32 := if b = true then 1 else 0
theorem zb01_0 {b : Bool} : zb01 b = 0 ↔ b = false := by cases b <;> decide
theorem zb01_1 {b : Bool} : zb01 b = 1 ↔ b = true := by cases b <;> decide
theorem zhas_congr {n : Nat} {X Y : Nat → Nat} (e : ∀ j, j < 3 → X j = Y j) (v : Nat) : zhas n X v = zhas n Y v := by
  unfold zhas; rw [e 0 (by omega), e 1 (by omega), e 2 (by omega)]
theorem zn_23 (V : Nat → Nat) : zn V = 2 ∨ zn V = 3 := by unfold zn; split <;> omega
theorem zr_some {vr ar : Nat → Int32} {V X : Nat → Nat} (hv : zE3 vr V) (hx : zE3 ar X) (ok : zOK V X) {v : Nat} (h9 : v < 2 ^ 31) : f_X1_holdsSomewhere vr ar (nI v) = zb01 (zhas (zn V) X v) := by
  have hc := zr_count hv (ok 2 (by omega)).2
  have step : ∀ (m k : Nat), k < zn V → k < 3 → lf_X1_holdsSomewhere_2 (m + 1) k vr ar (nI v) = if X k = v then 1 else lf_X1_holdsSomewhere_2 m (k + 1) vr ar (nI v) := by
    intro m k hk hk3
    have o := ok k hk3
    have hz := zn_23 V
    rw [lf_X1_holdsSomewhere_2_succ, hc, z_if_le (by omega) (by omega), if_neg (by omega), zr_amt hk3, hx k hk3, z_if_eq (by omega) h9]
  have fin : ∀ (m : Nat), zn V < 2 ^ 31 → lf_X1_holdsSomewhere_2 (m + 1) (zn V) vr ar (nI v) = 0 := by
    intro m h
    rw [lf_X1_holdsSomewhere_2_succ, hc, if_pos (Int32.le_refl _)]
  unfold f_X1_holdsSomewhere zhas
  rw [hc]
  rcases zn_23 V with e | e
  · rw [e, nI_clamp (by omega), step 2 0 (by omega) (by omega), step 1 (0 + 1) (by omega) (by omega)]
    have f := fin 0 (by omega)
    rw [e] at f
    rw [show (0 + 1 + 1 : Nat) = 2 from rfl, f]
    by_cases q0 : X 0 = v
    · simp [q0, zb01]
    · by_cases q1 : X 1 = v
      · simp [q0, q1, zb01]
      · simp [q0, q1, zb01]
  · rw [e, nI_clamp (by omega), step 3 0 (by omega) (by omega), step 2 (0 + 1) (by omega) (by omega), step 1 (0 + 1 + 1) (by omega) (by omega)]
    have f := fin 0 (by omega)
    rw [e] at f
    rw [show (0 + 1 + 1 + 1 : Nat) = 3 from rfl, f]
    by_cases q0 : X 0 = v
    · simp [q0, zb01]
    · by_cases q1 : X 1 = v
      · simp [q0, q1, zb01]
      · by_cases q2 : X 2 = v
        · simp [q0, q1, q2, zb01]
        · simp [q0, q1, q2, zb01]
theorem zb01_or (a b : Bool) : zb01 a ||| zb01 b = zb01 (a || b) := by cases a <;> cases b <;> decide
