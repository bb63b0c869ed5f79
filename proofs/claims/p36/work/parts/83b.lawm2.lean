/-! more of what the law asks -/
theorem zhas_own {V X : Nat → Nat} {j : Nat} (hj : j < zn V) : zhas (zn V) X (X j) = true := by
  have hz := zn_23 V
  unfold zhas
  rcases (by omega : j = 0 ∨ j = 1 ∨ (j = 2 ∧ zn V = 3)) with rfl | rfl | ⟨rfl, h⟩
  · simp
  · simp
  · simp [h]
theorem zWith_0 {V X : Nat → Nat} (okX : zOK V X) {j : Nat} (hj : j < 3) : zDi (zFst (zBFS V (zst X)) (fun t => decide (zdg t j = X j))) = nI 0 := by
  have hs := zst_lt okX
  have ok : zOK V (zdg (zst X)) := okX.congr (fun j hj => (zdg_st okX hj).symm)
  obtain ⟨e, he, h0⟩ := (z_here hs ok (T := fun t => decide (zdg t j = X j))).mp (decide_eq_true (zdg_st okX hj))
  rw [he]
  show nI e.2.1 = nI 0
  rw [h0]
/-- how many amounts below k can be had -/
def zHad (V X : Nat → Nat) : Nat → Nat
  | 0 => 0
  | k + 1 => zHad V X k + (if (zF V X k).isSome = true then 1 else 0)
theorem zHad_le (V X : Nat → Nat) : ∀ k, zHad V X k ≤ k := by
  intro k
  induction k with
  | zero => exact Nat.le_refl _
  | succ k ih => unfold zHad; split <;> omega
theorem zAmn_had {V X : Nat → Nat} (okX : zOK V X) : zAmn (zgA V (zBFS V (zst X))) 11 0 0 = nI (zHad V X 10) := by
  have key : ∀ n k, k + n = 11 → k ≤ 10 → zAmn (zgA V (zBFS V (zst X))) n k (nI (zHad V X k)) = nI (zHad V X 10) := by
    intro n
    induction n with
    | zero => intro k hk hk2; omega
    | succ n ih =>
      intro k hk hk2
      unfold zAmn
      by_cases q : 9 < k
      · rw [if_pos q, show k = 10 by omega]
      · rw [if_neg q]
        have e1 : zgA V (zBFS V (zst X)) k = zDi (zF V X k) := rfl
        have e2 : zHad V X (k + 1) = zHad V X k + (if (zF V X k).isSome = true then 1 else 0) := rfl
        have r := ih (k + 1) (by omega) (by omega)
        rw [e2] at r
        rw [e1]
        cases h : zF V X k with
        | none =>
          rw [h] at r
          rw [if_pos (show zDi none = -1 from rfl)]
          exact r
        | some e =>
          rw [h] at r
          have hb : e.2.1 < 1000 := by
            have hs := zst_lt okX
            have ok : zOK V (zdg (zst X)) := okX.congr (fun j hj => (zdg_st okX hj).symm)
            have hG := zGd_BFS hs ok
            obtain ⟨i, hi, -⟩ := zFst_some h
            have := (hG.2 i e hi).2.2.1
            have := (List.getElem?_eq_some_iff.mp hi).1
            have := zGd_len hG
            omega
          rw [if_neg (show ¬ zDi (some e) = -1 from z_m1 (show e.2.1 < 2 ^ 31 by omega)), zl1, nI_add]
          exact r
  exact key 11 0 rfl (by omega)
theorem zF_b {V X : Nat → Nat} (okX : zOK V X) {v : Nat} {e : Nat × Nat × Nat} (h : zF V X v = some e) : e.2.1 < 1000 ∧ e.2.2 < 15 := by
  have hs := zst_lt okX
  have ok : zOK V (zdg (zst X)) := okX.congr (fun j hj => (zdg_st okX hj).symm)
  have hG := zGd_BFS hs ok
  obtain ⟨i, hi, -⟩ := zFst_some h
  have g := hG.2 i e hi
  have := (List.getElem?_eq_some_iff.mp hi).1
  have := zGd_len hG
  exact ⟨by omega, g.2.2.2.2⟩
/-- the best pour: none, or one that may be done and leaves so many -/
theorem zBq_is (n : Nat) (C : zCs) : ∀ m k (b : Int32) (w : Nat), k + m = 15 → 6 ≤ k → ((b = -1) ∨ ∃ j, 6 ≤ j ∧ j < 15 ∧ b = nI j ∧ zal n j ∧ w = zMost n C j) → ((zBq n C m k b w).1 = -1) ∨ ∃ j, 6 ≤ j ∧ j < 15 ∧ (zBq n C m k b w).1 = nI j ∧ zal n j ∧ (zBq n C m k b w).2 = zMost n C j := by
  intro m
  induction m with
  | zero => intro k b w _ _ h; exact h
  | succ m ih =>
    intro k b w hk h6 h
    unfold zBq
    by_cases q : zalB n k = true
    · rw [if_pos q]
      by_cases q2 : zMost n C k < w
      · rw [if_pos q2]
        exact ih (k + 1) _ _ (by omega) (by omega) (Or.inr ⟨k, h6, by omega, rfl, zalB_iff.mp q, rfl⟩)
      · rw [if_neg q2]; exact ih (k + 1) b w (by omega) (by omega) h
    · rw [if_neg q]; exact ih (k + 1) b w (by omega) (by omega) h
theorem zBq_le (n : Nat) (C : zCs) : ∀ m k (b : Int32) (w : Nat), (zBq n C m k b w).2 ≤ w := by
  intro m
  induction m with
  | zero => intro k b w; exact Nat.le_refl _
  | succ m ih =>
    intro k b w
    unfold zBq
    by_cases q : zalB n k = true
    · rw [if_pos q]
      by_cases q2 : zMost n C k < w
      · rw [if_pos q2]; exact Nat.le_trans (ih _ _ _) (Nat.le_of_lt q2)
      · rw [if_neg q2]; exact ih _ _ _
    · rw [if_neg q]; exact ih _ _ _
theorem zcmp_0 (x : Int64) : lg_cmp x x = 0 := by
  unfold lg_cmp
  rw [if_neg (show ¬ x > x from Int64.lt_irrefl), if_pos rfl]
theorem pk_pred1 (k : Nat) : nI (k + 1) + Int32.ofInt (-1) = nI k := pk_m1 k
theorem pk_pred {k : Nat} (h : 0 < k) : nI k + Int32.ofInt (-1) = nI (k - 1) := by
  obtain ⟨m, rfl⟩ : ∃ m, k = m + 1 := ⟨k - 1, by omega⟩
  exact pk_m1 m
