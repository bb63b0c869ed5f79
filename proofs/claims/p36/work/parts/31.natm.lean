/-! the model's rows -/
def zbt (V X : Nat → Nat) (j : Nat) : Nat := (if X j = 0 then 1 else 0) + (if X j = V j then 2 else 0)
def zct (V X : Nat → Nat) (j : Nat) : Nat := (if X j = 0 then 2 else 0) + (if X j = V j then 1 else 0)
/-- what the model sees, what the class sees -/
def zsg (n : Nat) (V X : Nat → Nat) : Nat := if n = 2 then 4 * zbt V X 0 + zbt V X 1 else 4 * (4 * zbt V X 0 + zbt V X 1) + zbt V X 2
def zlk (V X : Nat → Nat) : Nat := (zct V X 0 * 4 + zct V X 1) * 4 + zct V X 2
theorem zbt_le (V X : Nat → Nat) (j : Nat) : zbt V X j ≤ 3 := by unfold zbt; split <;> split <;> omega
theorem zct_le (V X : Nat → Nat) (j : Nat) : zct V X j ≤ 3 := by unfold zct; split <;> split <;> omega
theorem zr_oneIf {x : Int32} (h : x = 0 ∨ x = 1) : f_X3_oneIf x = x := by
  rcases h with rfl | rfl <;> rfl
theorem zr_look {vr ar : Nat → Int32} {V X : Nat → Nat} (hv : zE3 vr V) (hx : zE3 ar X) (ok : zOK V X) : f_X1_look vr ar = nI (zlk V X) := by
  have step : ∀ (m k x : Nat), k < 3 → lf_X1_look_4 (m + 1) k vr ar (nI x) = lf_X1_look_4 m (k + 1) vr ar (nI (x * 4 + zct V X k)) := by
    intro m k x hk3
    have o := ok k hk3
    rw [lf_X1_look_4_succ, zl3, z_if_le (by omega) (by omega), if_neg (by omega), zr_oneIf (b_X1_emptyAt ar (nI k)), zr_oneIf (b_X1_fullAt vr ar (nI k))]
    unfold f_X1_emptyAt f_X1_fullAt zct
    rw [zr_amt hk3, zr_vol hk3, hx k hk3, hv k hk3, zl0, z_if_eq (by omega) (by omega), z_if_eq (by omega) (by omega), zl4, zl1, zl2, pk_mul]
    by_cases q1 : X k = 0
    · rw [if_pos q1, if_pos q1]
      by_cases q2 : X k = V k
      · rw [if_pos q2, if_pos q2, pk_mul, nI_add, nI_add, Nat.add_assoc]
      · rw [if_neg q2, if_neg q2, pk_mul, nI_add, nI_add, Nat.add_assoc]
    · rw [if_neg q1, if_neg q1]
      by_cases q2 : X k = V k
      · rw [if_pos q2, if_pos q2, pk_mul, nI_add, nI_add, Nat.add_assoc]
      · rw [if_neg q2, if_neg q2, pk_mul, nI_add, nI_add, Nat.add_assoc]
  unfold f_X1_look zlk
  rw [show (0 : Int32) = nI 0 from rfl, step _ 0 0 (by omega), step _ (0 + 1) _ (by omega), step _ (0 + 1 + 1) _ (by omega), lf_X1_look_4_succ, if_pos (by decide)]
  exact congrArg nI (by show ((0 * 4 + zct V X 0) * 4 + zct V X 1) * 4 + zct V X 2 = _; omega)
