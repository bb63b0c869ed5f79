/-! the model's candidates -/
theorem z_nb0 : vp_nar .boolean (0 : Int32) = 0 := by decide
theorem z_nb1 : vp_nar .boolean (1 : Int32) = 1 := by decide
theorem z_nb (b : Bool) : vp_nar .boolean (zb01 b) = zb01 b := by cases b; exact z_nb0; exact z_nb1
theorem zRo_no {ml mh : Nat → Int32} {r : Nat} {o : Option Nat} (e : o = none) (h : zRo o ml mh r) : ml r = 0 := by subst e; exact h
theorem zRo_yes {ml mh : Nat → Int32} {r s : Nat} {o : Option Nat} (e : o = some s) (h : zRo o ml mh r) : ml r = 1 ∧ ∀ j, j < 3 → mh (3 * r + j) = nI (zdg s j) := by subst e; exact h
/-- how many are left -/
theorem zm_leftLoop {n : Nat} {C : zCs} {ml mh : Nat → Int32} (h : zCm n C ml mh) : ∀ (m k x : Nat), k + m = 1000 → lf_X4_left_13 (m + 1) k ml (nI x) = nI (zGm n C (fun _ _ c => c + 1) m k x) := by
  intro m
  induction m with
  | zero =>
    intro k x hk
    rw [lf_X4_left_13_succ, if_pos (by rw [zl1000, show k = 1000 by omega]; exact Int32.le_refl _)]
    rfl
  | succ m ih =>
    intro k x hk
    have hk' : k < 1000 := by omega
    rw [lf_X4_left_13_succ, zl1000, if_neg (nI_ge hk' (by omega)), nI_clamp (by omega)]
    rcases z_bind n C k with q | ⟨N, s, q1, q2, q⟩
    · rw [if_pos (zRo_no q (h k hk')), zGm_no q, zl0, nI_add]
      exact ih (k + 1) _ (by omega)
    · rw [(zRo_yes q (h k hk')).1, if_neg (by decide), zGm_yes q1 q2, nI_1]
      exact ih (k + 1) _ (by omega)
theorem zm_left {n : Nat} (hn : n = 2 ∨ n = 3) {C : zCs} (hC : zCok n C) {ml mh : Nat → Int32} (h : zCm n C ml mh) : f_X4_left ml = nI (zNm C 729) := by
  have e := zm_leftLoop h 1000 0 0 (by omega)
  rw [zGm_eq hn hC, zNm_go] at e
  exact e
theorem zGm_true {n jar v : Nat} {C : zCs} : ∀ (m k : Nat), zGm n C (zyF n jar v) m k true = true := by
  intro m
  induction m with
  | zero => intro k; rfl
  | succ m ih =>
    intro k
    rcases z_bind n C k with q | ⟨N, s, q1, q2, q⟩
    · rw [zGm_no q]; exact ih _
    · rw [zGm_yes q1 q2]; exact ih _
theorem zm_mayLoop {n jar v : Nat} (hn : n = 2 ∨ n = 3) (hj : jar < 3) (hv : v < 2 ^ 31) {C : zCs} {ml mh : Nat → Int32} (h : zCm n C ml mh) : ∀ (m k : Nat), k + m = 1000 → lf_X4_may_2 (m + 1) k ml (nI jar) (nI v) = zb01 (zGm n C (zyF n jar v) m k false) := by
  intro m
  induction m with
  | zero =>
    intro k hk
    rw [lf_X4_may_2_succ, if_pos (by rw [zl1000, show k = 1000 by omega]; exact Int32.le_refl _)]
    rfl
  | succ m ih =>
    intro k hk
    have hk' : k < 1000 := by omega
    rw [lf_X4_may_2_succ, zl1000, if_neg (nI_ge hk' (by omega)), nI_clamp (by omega)]
    rcases z_bind n C k with q | ⟨N, s, q1, q2, q⟩
    · rw [if_pos (zRo_no q (h k hk')), zGm_no q]
      exact ih (k + 1) (by omega)
    · have e := (zinv_row hn hk' q1).2.2 jar hj
      have hd : zdg k jar < 1000 := by unfold zdg; split; omega; split <;> omega
      rw [(zRo_yes q (h k hk')).1, if_neg (by decide), zGm_yes q1 q2, zq_fig (by omega) hj, z_if_eq (by omega) hv, e]
      show _ = zb01 (zGm n C (zyF n jar v) m (k + 1) (false || decide (zcv n N jar = v)))
      by_cases z : zcv n N jar = v
      · rw [if_pos z, decide_eq_true z]
        show (1 : Int32) = zb01 (zGm n C (zyF n jar v) m (k + 1) true)
        rw [zGm_true]; rfl
      · rw [if_neg z, decide_eq_false z]
        exact ih (k + 1) (by omega)
theorem zm_may {n jar v : Nat} (hn : n = 2 ∨ n = 3) (hj : jar < 3) (hv : v < 2 ^ 31) {C : zCs} (hC : zCok n C) {ml mh : Nat → Int32} (h : zCm n C ml mh) : f_X4_may ml (nI jar) (nI v) = zb01 (zMay n C jar v) := by
  have e := zm_mayLoop hn hj hv h 1000 0 (by omega)
  rw [zGm_eq hn hC] at e
  exact e
theorem zm_known {n jar : Nat} (hn : n = 2 ∨ n = 3) (hj : jar < 3) {C : zCs} (hC : zCok n C) {ml mh : Nat → Int32} (h : zCm n C ml mh) : f_X4_known ml (nI jar) = zb01 (decide (zBc (zMay n C jar) 9 = 1)) := by
  have key : ∀ (m k : Nat), k + m = 9 → lf_X4_known_4 (m + 1) (k + 1) ml (nI jar) (nI (zBc (zMay n C jar) k)) = nI (zBc (zMay n C jar) 9) := by
    intro m
    induction m with
    | zero =>
      intro k hk
      rw [lf_X4_known_4_succ, zl9, if_pos (nI_lt (by omega) (by omega)), show k = 9 by omega]
    | succ m ih =>
      intro k hk
      rw [lf_X4_known_4_succ, zl9, if_neg (nI_nlt (by omega) (by omega)), zm_may hn hj (by omega) hC h]
      have r := ih (k + 1) (by omega)
      have zz : zBc (zMay n C jar) (k + 1) = zBc (zMay n C jar) k + if zMay n C jar (k + 1) = true then 1 else 0 := rfl
      rw [zz] at r
      cases q : zMay n C jar (k + 1) with
      | false =>
        rw [q, if_neg (by decide)] at r
        rw [if_pos (show zb01 false = 0 from rfl), zl0, nI_add]
        exact r
      | true =>
        rw [q, if_pos rfl] at r
        rw [if_neg (by decide), nI_1]
        exact r
  have e := key 9 0 (by omega)
  have hb : ∀ k, zBc (zMay n C jar) k ≤ k := by
    intro k
    induction k with
    | zero => exact Nat.le_refl _
    | succ k ih => unfold zBc; split <;> omega
  unfold f_X4_known
  rw [show (10 : Nat) = 9 + 1 from rfl, show (1 : Nat) = 0 + 1 from rfl]
  rw [show (0 : Int32) = nI (zBc (zMay n C jar) 0) from rfl, e, zl1, z_if_eq (by have := hb 9; omega) (by omega)]
  by_cases z : zBc (zMay n C jar) 9 = 1
  · rw [if_pos z, decide_eq_true z]; rfl
  · rw [if_neg z, decide_eq_false z]; rfl
