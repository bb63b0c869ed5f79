/-! does some jar hold it; safety of the model's small methods -/
def zhas (n : Nat) (X : Nat → Nat) (v : Nat) : Bool := decide (X 0 = v) || (decide (X 1 = v) || (decide (n = 3) && decide (X 2 = v)))
def zb01 (b : Bool) : Int32 := if b = true then 1 else 0
theorem zb01_0 {b : Bool} : zb01 b = 0 ↔ b = false := by cases b <;> decide
theorem zb01_1 {b : Bool} : zb01 b = 1 ↔ b = true := by cases b <;> decide
theorem zhas_congr {n : Nat} {X Y : Nat → Nat} (e : ∀ j, j < 3 → X j = Y j) (v : Nat) : zhas n X v = zhas n Y v := by
  unfold zhas; rw [e 0 (by omega), e 1 (by omega), e 2 (by omega)]
theorem zn_23 (V : Nat → Nat) : zn V = 2 ∨ zn V = 3 := by unfold zn; split <;> omega
theorem zr_some {vr ar : Nat → Int32} {V X : Nat → Nat} (hv : zE3 vr V) (hx : zE3 ar X) (ok : zOK V X) {v : Nat} (h9 : v < 2 ^ 31) : f_X1_holdsSomewhere vr ar (nI v) = zb01 (zhas (zn V) X v) := by
  have hc := zr_count hv (ok 2 (by omega)).2
  have step : ∀ (m k : Nat), k < zn V → k < 3 → lf_X1_holdsSomewhere_2 (m + 1) k vr ar (nI v) = if X k = v then 1 else lf_X1_holdsSomewhere_2 m (k + 1) vr ar (nI v) := by
    intro m k hk hk3
    have o := ok k hk3
    have hz := zn_23 V
    rw [lf_X1_holdsSomewhere_2_succ, hc, z_if_le (by omega) (by omega), if_neg (by omega), zr_amt hk3, hx k hk3, z_if_eq (by omega) h9]
  have fin : ∀ (m : Nat), zn V < 2 ^ 31 → lf_X1_holdsSomewhere_2 (m + 1) (zn V) vr ar (nI v) = 0 := by
    intro m h
    rw [lf_X1_holdsSomewhere_2_succ, hc, if_pos (Int32.le_refl _)]
  unfold f_X1_holdsSomewhere zhas
  rw [hc]
  rcases zn_23 V with e | e
  · rw [e, nI_clamp (by omega), step 2 0 (by omega) (by omega), step 1 (0 + 1) (by omega) (by omega)]
    have f := fin 0 (by omega)
    rw [e] at f
    rw [show (0 + 1 + 1 : Nat) = 2 from rfl, f]
    by_cases q0 : X 0 = v
    · simp [q0, zb01]
    · by_cases q1 : X 1 = v
      · simp [q0, q1, zb01]
      · simp [q0, q1, zb01]
  · rw [e, nI_clamp (by omega), step 3 0 (by omega) (by omega), step 2 (0 + 1) (by omega) (by omega), step 1 (0 + 1 + 1) (by omega) (by omega)]
    have f := fin 0 (by omega)
    rw [e] at f
    rw [show (0 + 1 + 1 + 1 : Nat) = 3 from rfl, f]
    by_cases q0 : X 0 = v
    · simp [q0, zb01]
    · by_cases q1 : X 1 = v
      · simp [q0, q1, zb01]
      · by_cases q2 : X 2 = v
        · simp [q0, q1, q2, zb01]
        · simp [q0, q1, q2, zb01]
theorem zb01_or (a b : Bool) : zb01 a ||| zb01 b = zb01 (a || b) := by cases a <;> cases b <;> decide
theorem zq_holds {s j v : Nat} (hs : s < 1000) (hj : j < 3) (h9 : v < 2 ^ 31) : f_X4_holds (nI s) (nI j) (nI v) = zb01 (decide (zdg s j = v)) := by
  have hd : zdg s j < 1000 := by unfold zdg; split; omega; split <;> omega
  unfold f_X4_holds
  rw [zq_fig (by omega) hj, z_if_eq (by omega) h9]
  by_cases q : zdg s j = v
  · simp [q, zb01]
  · simp [q, zb01]
theorem zq_some {n : Nat} (hn : n = 2 ∨ n = 3) {s v : Nat} (hs : s < 1000) (h9 : v < 2 ^ 31) : f_X4_isSomewhere (nI n) (nI s) (nI v) = zb01 (zhas n (zdg s) v) := by
  have step : ∀ (m k : Nat) (b : Bool), k < n → k < 3 → lf_X4_isSomewhere_5 (m + 1) k (nI n) (nI s) (nI v) (zb01 b) = lf_X4_isSomewhere_5 m (k + 1) (nI n) (nI s) (nI v) (zb01 (b || decide (zdg s k = v))) := by
    intro m k b hk hk3
    rw [lf_X4_isSomewhere_5_succ, z_if_le (by omega) (by omega), if_neg (by omega), zq_holds hs hk3 h9, zb01_or]
  have fin : ∀ (m : Nat) (b : Bool), lf_X4_isSomewhere_5 (m + 1) n (nI n) (nI s) (nI v) (zb01 b) = zb01 b := by
    intro m b
    rw [lf_X4_isSomewhere_5_succ, if_pos (Int32.le_refl _)]
  unfold f_X4_isSomewhere zhas
  rw [nI_clamp (by omega), show (0 : Int32) = zb01 false from rfl]
  rcases hn with rfl | rfl
  · rw [step 2 0 _ (by omega) (by omega), step 1 (0 + 1) _ (by omega) (by omega), show (0 + 1 + 1 : Nat) = 2 from rfl, fin]
    simp
  · rw [step 3 0 _ (by omega) (by omega), step 2 (0 + 1) _ (by omega) (by omega), step 1 (0 + 1 + 1) _ (by omega) (by omega), show (0 + 1 + 1 + 1 : Nat) = 3 from rfl, fin]
    simp [Bool.or_assoc]
/-! safety -/
theorem zs_move {a : Nat} (ha : a < 15) : s_X4_move (nI a) := by
  have e1 : nI a - nI a / (3 : Int32) * (3 : Int32) = nI (a % 3) := by rw [zl3, pk_rem (by omega) (by omega) (by omega)]
  have v1 : vp_in (nI a - nI a / (3 : Int32) * (3 : Int32)) 3 := by rw [e1]; exact vp_in_nI (by omega) (by omega)
  unfold s_X4_move
  refine ⟨fun h3 => ⟨fun h6 => ?_, fun _ => ⟨v1, v1⟩⟩, fun _ => ⟨v1, v1, v1, v1⟩⟩
  have h6' : 6 ≤ a := (nI_leI (by omega) (by omega)).mp h6
  have v2 : vp_in ((nI a - (6 : Int32)) / (3 : Int32)) 3 := by
    rw [zl6, zl3, pk_sub h6', pk_div (by omega) (by omega) (by omega)]; exact vp_in_nI (by omega) (by omega)
  exact ⟨v2, v1, v1, v2, v2, v1, v1⟩
theorem zs_lookRow {r : Nat} (hr : r < 1000) : s_X4_lookAtRow (nI r) := by
  have key : ∀ (n k : Nat), k + n ≤ 10 → sf_X4_lookAtRow_2 n k (nI r) := by
    intro n
    induction n with
    | zero => intro k _; exact trivial
    | succ n ih =>
      intro k hk
      rw [sf_X4_lookAtRow_2_succ]
      refine ⟨fun _ => trivial, fun h => ⟨?_, ih (k + 1) (by omega)⟩⟩
      have hk3 : k < 3 := zk_lt (N := 3) (by omega) rfl h
      rw [zl3, pk_mul, nI_add]; exact vp_in_nI (by omega) (by omega)
  exact key 4 0 (by omega)
theorem zs_sight {n : Nat} (hn : n = 2 ∨ n = 3) (mo mb : Nat → Int32) : s_X4_sight (nI n) mo mb := by
  have key : ∀ (m k : Nat), k + m ≤ 10 → sf_X4_sight_4 m k (nI n) mo mb := by
    intro m
    induction m with
    | zero => intro k _; exact trivial
    | succ m ih =>
      intro k hk
      have h2 := ih (k + 1) (by omega)
      rw [sf_X4_sight_4_succ]
      refine ⟨fun _ => trivial, fun h => ?_⟩
      have hkn : k < n := zk_lt (N := n) (by omega) (nI_clamp (by omega)) h
      have hv : vp_in (nI k) 3 := vp_in_nI (by omega) (by omega)
      exact ⟨hv, fun _ => ⟨hv, hv, fun _ => h2, fun _ => h2⟩, fun _ => ⟨hv, hv, fun _ => h2, fun _ => h2⟩⟩
  unfold s_X4_sight
  rw [nI_clamp (by omega)]
  exact key (n + 1) 0 (by omega)
