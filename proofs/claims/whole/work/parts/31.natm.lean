/-! the model's rows -/
def zbt (V X : Nat → Nat) (j : Nat) : Nat := (if X j = 0 then 1 else 0) + (if X j = V j then 2 else 0)
def zct (V X : Nat → Nat) (j : Nat) : Nat := (if X j = 0 then 2 else 0) + (if X j = V j then 1 else 0)
/-- what the model sees, what the class sees -/
def zsg (n : Nat) (V X : Nat → Nat) : Nat := if n = 2 then 4 * zbt V X 0 + zbt V X 1 else 4 * (4 * zbt V X 0 + zbt V X 1) + zbt V X 2
def zlk (V X : Nat → Nat) : Nat := (zct V X 0 * 4 + zct V X 1) * 4 + zct V X 2
theorem zbt_le (V X : Nat → Nat) (j : Nat) : zbt V X j ≤ 3 := by unfold zbt; split <;> split <;> omega
theorem zct_le (V X : Nat → Nat) (j : Nat) : zct V X j ≤ 3 := by unfold zct; split <;> split <;> omega
theorem zq_fig {r j : Nat} (hr : r < 2 ^ 31) (hj : j < 3) : f_X4_figure (nI r) (nI j) = nI (zdg r j) := by
  unfold f_X4_figure zdg
  rw [zl0, z_if_eq (by omega) (by omega), zl1, z_if_eq (by omega) (by omega), zl10, zl100, pk_rem hr (by omega) (by omega), pk_div hr (by omega) (by omega), pk_rem (by omega) (by omega) (by omega), pk_div hr (by omega) (by omega)]
  split
  · rfl
  · split <;> rfl
theorem zq_look {mv mo mb : Nat → Int32} {V : Nat → Nat} (hv : zE3 mv V) {s : Nat} (hs : s < 1000) : zE3 (f_X4_lookAtState mv mo mb (nI s)).1 (zdg s) ∧ zE3 (f_X4_lookAtState mv mo mb (nI s)).2 V := by
  have e : f_X4_lookAtState mv mo mb (nI s) = (upd (upd (upd mo 0 (nI (zdg s 0))) 1 (nI (zdg s 1))) 2 (nI (zdg s 2)), upd (upd (upd mb 0 (mv 0)) 1 (mv 1)) 2 (mv 2)) := by
    unfold f_X4_lookAtState
    rw [lf_X4_lookAtState_2_succ, if_neg (by decide), lf_X4_lookAtState_2_succ, if_neg (by decide), lf_X4_lookAtState_2_succ, if_neg (by decide), lf_X4_lookAtState_2_succ, if_pos (by decide)]
    rw [zq_fig (by omega) (by omega), zq_fig (by omega) (by omega), zq_fig (by omega) (by omega), nI_clamp (by omega), nI_clamp (by omega), nI_clamp (by omega)]
  rw [e]
  refine ⟨fun j hj => ?_, fun j hj => ?_⟩
  · rcases z_j3 hj with rfl | rfl | rfl <;> rfl
  · rw [← hv j hj]
    rcases z_j3 hj with rfl | rfl | rfl <;> rfl
theorem zq_lookRow {mh mo mb : Nat → Int32} {r : Nat} (hr : r < 1000) : (∀ j, j < 3 → (f_X4_lookAtRow mh mo mb (nI r)).1 j = mh (3 * r + j)) ∧ zE3 (f_X4_lookAtRow mh mo mb (nI r)).2 (zdg r) := by
  have e : f_X4_lookAtRow mh mo mb (nI r) = (upd (upd (upd mo 0 (mh (3 * r + 0))) 1 (mh (3 * r + 1))) 2 (mh (3 * r + 2)), upd (upd (upd mb 0 (nI (zdg r 0))) 1 (nI (zdg r 1))) 2 (nI (zdg r 2))) := by
    unfold f_X4_lookAtRow
    rw [lf_X4_lookAtRow_2_succ, if_neg (by decide), lf_X4_lookAtRow_2_succ, if_neg (by decide), lf_X4_lookAtRow_2_succ, if_neg (by decide), lf_X4_lookAtRow_2_succ, if_pos (by decide)]
    rw [zq_fig (by omega) (by omega), zq_fig (by omega) (by omega), zq_fig (by omega) (by omega), zl3, pk_mul, nI_add, nI_add, nI_add, nI_clamp (by omega), nI_clamp (by omega), nI_clamp (by omega), nI_clamp (by omega), nI_clamp (by omega), nI_clamp (by omega)]
  rw [e]
  refine ⟨fun j hj => ?_, fun j hj => ?_⟩
  · rcases z_j3 hj with rfl | rfl | rfl <;> rfl
  · rcases z_j3 hj with rfl | rfl | rfl <;> rfl
theorem zq_state {mo : Nat → Int32} {X : Nat → Nat} (hx : zE3 mo X) : f_X4_stateLookedAt mo = nI (zst X) := zr_state hx
theorem zq_stateM {mo : Nat → Int32} {X : Nat → Nat} (hx : zE3 mo X) : f_X4_state mo = nI (zst X) := zr_state hx
theorem zq_isAct {n : Nat} (hn : n = 2 ∨ n = 3) {a : Nat} (ha : a < 15) : (f_X4_isAct (nI n) (nI a) = 0 ↔ ¬ zal n a) := by
  have h01 : (1 : Int32) ≠ 0 := by decide
  unfold f_X4_isAct zal
  rw [zl3, zl6, pk_rem (by omega) (by omega) (by omega), z_if_le (by omega) (by omega), z_if_lt (by omega) (by omega)]
  by_cases h3 : a < 3
  · rw [if_pos h3, if_pos (show a < 6 by omega), Nat.mod_eq_of_lt h3]
    by_cases q : n ≤ a
    · rw [if_pos q]; exact ⟨fun _ => by omega, fun _ => rfl⟩
    · rw [if_neg q]; exact ⟨fun z => absurd z h01, fun z => absurd (by omega) z⟩
  · rw [if_neg h3]
    by_cases h6 : a < 6
    · rw [if_pos h6, if_pos h6, show a % 3 = a - 3 by omega]
      by_cases q : n ≤ a - 3
      · rw [if_pos q]; exact ⟨fun _ => by omega, fun _ => rfl⟩
      · rw [if_neg q]; exact ⟨fun z => absurd z h01, fun z => absurd (by omega) z⟩
    · rw [if_neg h6, if_neg h6, pk_sub (by omega), pk_div (by omega) (by omega) (by omega), z_if_le (by omega) (by omega), z_if_eq (by omega) (by omega), show a % 3 = (a - 6) % 3 by omega]
      by_cases q2 : n ≤ (a - 6) % 3
      · rw [if_pos q2]; exact ⟨fun _ z => by omega, fun _ => rfl⟩
      · rw [if_neg q2]
        by_cases q1 : n ≤ (a - 6) / 3
        · rw [if_pos q1]; exact ⟨fun _ z => by omega, fun _ => rfl⟩
        · rw [if_neg q1]
          by_cases q3 : (a - 6) / 3 = (a - 6) % 3
          · rw [if_pos q3]; exact ⟨fun _ z => z.2.2 q3, fun _ => rfl⟩
          · rw [if_neg q3]; exact ⟨fun z => absurd z h01, fun z => absurd ⟨by omega, by omega, q3⟩ z⟩
theorem zq_move {mb mo : Nat → Int32} {V X : Nat → Nat} (hv : zE3 mb V) (hx : zE3 mo X) (ok : zOK V X) {a : Nat} (ha : a < 15) (hal : zal 3 a) : (f_X4_move mo mb (nI a)).1 = nI (zm V X a) ∧ zE3 (f_X4_move mo mb (nI a)).2 (zmv V X a) := by
  unfold f_X4_move
  rw [zl3, z_if_le (by omega) (by omega), zl6, z_if_le (by omega) (by omega), pk_rem (by omega) (by omega) (by omega), nI_clamp (show a % 3 < 2 ^ 31 by omega)]
  by_cases h3 : a < 3
  · have o := ok a h3
    rw [if_neg (by omega), Nat.mod_eq_of_lt h3]
    refine ⟨?_, fun j hj => ?_⟩
    · show mb a - mo a = _
      rw [hv a h3, hx a h3, pk_sub o.1]
      unfold zm; rw [if_pos h3]
    · show upd mo a (mb a) j = _
      unfold zmv upd; rw [if_pos h3]
      split
      · exact hv a h3
      · exact hx j hj
  · rw [if_pos (by omega)]
    by_cases h6 : a < 6
    · rw [if_neg (by omega), show a % 3 = a - 3 by omega]
      refine ⟨?_, fun j hj => ?_⟩
      · show mo (a - 3) = _
        rw [hx _ (by omega)]
        unfold zm; rw [if_neg h3, if_pos h6]
      · show upd mo (a - 3) 0 j = _
        unfold zmv upd; rw [if_neg h3, if_pos h6]
        split
        · rfl
        · exact hx j hj
    · rw [if_pos (by omega)]
      have hne : (a - 6) / 3 ≠ (a - 6) % 3 := by
        unfold zal at hal; rw [if_neg h3, if_neg h6] at hal; exact hal.2.2
      have hf : (a - 6) / 3 < 3 := by omega
      have ht : (a - 6) % 3 < 3 := by omega
      have of := ok _ hf
      have ot := ok _ ht
      have et1 : f_X4_move_t1 mo mb (nI a) = nI (zm V X a) := by
        unfold f_X4_move_t1
        rw [zl6, zl3, pk_sub (by omega), pk_rem (by omega) (by omega) (by omega), pk_div (by omega) (by omega) (by omega), nI_clamp (show a % 3 < 2 ^ 31 by omega), nI_clamp (show (a - 6) / 3 < 2 ^ 31 by omega), show a % 3 = (a - 6) % 3 by omega, hv _ ht, hx _ ht, hx _ hf, pk_sub ot.1, z_if_lt (by omega) (by omega)]
        unfold zm; rw [if_neg h3, if_neg h6]
        split
        · next q => rw [Nat.min_eq_right (by omega)]
        · next q => rw [Nat.min_eq_left (by omega)]
      refine ⟨et1, fun j hj => ?_⟩
      show f_X4_move_t2 mo mb (nI a) j = _
      have hm : zm V X a ≤ X ((a - 6) / 3) := by
        unfold zm; rw [if_neg h3, if_neg h6]; exact Nat.min_le_left _ _
      unfold f_X4_move_t2
      rw [et1, zl6, zl3, pk_sub (by omega), pk_rem (by omega) (by omega) (by omega), pk_div (by omega) (by omega) (by omega), nI_clamp (show a % 3 < 2 ^ 31 by omega), nI_clamp (show (a - 6) / 3 < 2 ^ 31 by omega), show a % 3 = (a - 6) % 3 by omega]
      unfold zmv; rw [if_neg h3, if_neg h6]
      by_cases q1 : j = (a - 6) / 3
      · rw [if_pos q1]
        subst q1
        unfold upd
        rw [if_neg hne, if_pos rfl, hx _ hf, pk_sub hm]
      · rw [if_neg q1]
        by_cases q2 : j = (a - 6) % 3
        · rw [if_pos q2]
          subst q2
          unfold upd
          rw [if_pos rfl, if_neg q1, hx _ ht, nI_add]
        · rw [if_neg q2]
          unfold upd
          rw [if_neg q2, if_neg q1]; exact hx j hj
theorem zq_sight {n : Nat} (hn : n = 2 ∨ n = 3) {mo mb : Nat → Int32} {V X : Nat → Nat} (hv : zE3 mb V) (hx : zE3 mo X) (ok : zOK V X) : f_X4_sight (nI n) mo mb = nI (zsg n V X) := by
  have step : ∀ (m k x : Nat), k < n → k < 3 → lf_X4_sight_4 (m + 1) k (nI n) mo mb (nI x) = lf_X4_sight_4 m (k + 1) (nI n) mo mb (nI (4 * x + zbt V X k)) := by
    intro m k x hk hk3
    have o := ok k hk3
    rw [lf_X4_sight_4_succ, z_if_le (by omega) (by omega), if_neg (by omega), nI_clamp (by omega), hx k hk3, hv k hk3, zl0, z_if_eq (by omega) (by omega), z_if_eq (by omega) (by omega), zl4, zl1, zl2, pk_mul]
    unfold zbt
    by_cases q1 : X k = 0
    · rw [if_pos q1, if_pos q1]
      by_cases q2 : X k = V k
      · rw [if_pos q2, if_pos q2, nI_add, nI_add, Nat.add_assoc]
      · rw [if_neg q2, if_neg q2, nI_add, nI_add, Nat.add_assoc]
    · rw [if_neg q1, if_neg q1, z_if_eq (by omega) (by omega)]
      by_cases q2 : X k = V k
      · rw [if_pos q2, if_pos q2, nI_add, nI_add, Nat.add_assoc]
      · rw [if_neg q2, if_neg q2, nI_add, nI_add, Nat.add_assoc]
  unfold f_X4_sight zsg
  rw [nI_clamp (by omega)]
  rcases hn with rfl | rfl
  · rw [if_pos rfl, show (0 : Int32) = nI 0 from rfl, step _ 0 0 (by omega) (by omega), step _ (0 + 1) _ (by omega) (by omega), lf_X4_sight_4_succ, if_pos (by decide)]
    exact congrArg nI (by show 4 * (4 * 0 + zbt V X 0) + zbt V X 1 = _; omega)
  · rw [if_neg (by omega), show (0 : Int32) = nI 0 from rfl, step _ 0 0 (by omega) (by omega), step _ (0 + 1) _ (by omega) (by omega), step _ (0 + 1 + 1) _ (by omega) (by omega), lf_X4_sight_4_succ, if_pos (by decide)]
    exact congrArg nI (by show 4 * (4 * (4 * 0 + zbt V X 0) + zbt V X 1) + zbt V X 2 = _; omega)
theorem zr_oneIf {x : Int32} (h : x = 0 ∨ x = 1) : f_X3_oneIf x = x := by
  rcases h with rfl | rfl <;> rfl
theorem zr_look {vr ar : Nat → Int32} {V X : Nat → Nat} (hv : zE3 vr V) (hx : zE3 ar X) (ok : zOK V X) : f_X1_look vr ar = nI (zlk V X) := by
  have step : ∀ (m k x : Nat), k < 3 → lf_X1_look_4 (m + 1) k vr ar (nI x) = lf_X1_look_4 m (k + 1) vr ar (nI (x * 4 + zct V X k)) := by
    intro m k x hk3
    have o := ok k hk3
    rw [lf_X1_look_4_succ, zl3, z_if_le (by omega) (by omega), if_neg (by omega), zr_oneIf (b_X1_emptyAt ar (nI k)), zr_oneIf (b_X1_fullAt vr ar (nI k))]
    unfold f_X1_emptyAt f_X1_fullAt zct
    rw [zr_amt hk3, zr_vol hk3, hx k hk3, hv k hk3, zl0, z_if_eq (by omega) (by omega), z_if_eq (by omega) (by omega), zl4, zl1, zl2, pk_mul]
    by_cases q1 : X k = 0
    · rw [if_pos q1, if_pos q1]
      by_cases q2 : X k = V k
      · rw [if_pos q2, if_pos q2, pk_mul, nI_add, nI_add, Nat.add_assoc]
      · rw [if_neg q2, if_neg q2, pk_mul, nI_add, nI_add, Nat.add_assoc]
    · rw [if_neg q1, if_neg q1]
      by_cases q2 : X k = V k
      · rw [if_pos q2, if_pos q2, pk_mul, nI_add, nI_add, Nat.add_assoc]
      · rw [if_neg q2, if_neg q2, pk_mul, nI_add, nI_add, Nat.add_assoc]
  unfold f_X1_look zlk
  rw [show (0 : Int32) = nI 0 from rfl, step _ 0 0 (by omega), step _ (0 + 1) _ (by omega), step _ (0 + 1 + 1) _ (by omega), lf_X1_look_4_succ, if_pos (by decide)]
  exact congrArg nI (by show ((0 * 4 + zct V X 0) * 4 + zct V X 1) * 4 + zct V X 2 = _; omega)
