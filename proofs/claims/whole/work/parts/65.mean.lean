/-! the mean compares with itself -/
theorem z_mc2 : ∀ k, k < 28 → FP.dcmp (FP.ddiv (FP.i2d (nI k)) (4611686018427387904 : UInt64)) (FP.ddiv (FP.i2d (nI k)) (4611686018427387904 : UInt64)) = some Ordering.eq := by decide +kernel
theorem z_mc3 : ∀ k, k < 28 → FP.dcmp (FP.ddiv (FP.i2d (nI k)) (4613937818241073152 : UInt64)) (FP.ddiv (FP.i2d (nI k)) (4613937818241073152 : UInt64)) = some Ordering.eq := by decide +kernel
theorem zo_meanCmp {c : zS} {t : zM} (h : zRel c t) : FP.dcmp (zk_meanAmount c) (zk_meanAmount c) = some Ordering.eq := by
  obtain ⟨V, X, C, h⟩ := h
  have b0 := h.ok 0 (by omega)
  have b1 := h.ok 1 (by omega)
  have b2 := h.ok 2 (by omega)
  have m2 := z_mc2 (X 0 + X 1 + X 2) (by omega)
  have m3 := z_mc3 (X 0 + X 1 + X 2) (by omega)
  have hc := zr_count h.vr h.h9
  have e : zk_meanAmount c = if zn V = 2 then FP.ddiv (FP.i2d (nI (X 0 + X 1 + X 2))) (4611686018427387904 : UInt64) else FP.ddiv (FP.i2d (nI (X 0 + X 1 + X 2))) (4613937818241073152 : UInt64) := by
    unfold zk_meanAmount f_X3_meanAmount
    rw [h.held.1, hc, zl2]
    exact z_if_eq (by have := zn_lt V; omega) (by omega)
  rw [e]
  by_cases q : zn V = 2
  · rw [if_pos q]; exact m2
  · rw [if_neg q]; exact m3
