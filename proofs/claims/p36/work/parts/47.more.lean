/-! small rows -/
/-! the model's candidates -/
theorem z_nb0 : vp_nar .boolean (0 : Int32) = 0 := by decide
theorem z_nb1 : vp_nar .boolean (1 : Int32) = 1 := by decide
theorem z_nb (b : Bool) : vp_nar .boolean (zb01 b) = zb01 b := by cases b; exact z_nb0; exact z_nb1
/-! the model: a guess, rows laid out, an act as a whole -/
theorem z_and1 (b : Bool) : vp_nar .boolean (zb01 b &&& 1) = zb01 b := by cases b <;> decide
theorem z_and0 (b : Bool) : vp_nar .boolean (zb01 b &&& 0) = 0 := by cases b <;> decide
/-! an act of the model, as a whole -/
theorem zn_lt (V : Nat → Nat) : zn V < 4 := by unfold zn; split <;> omega
theorem zTw_zn {V X : Nat → Nat} (ok : zOK V X) : zTw (zn V) V X := by
  intro h
  have o := ok 2 (by omega)
  have : V 2 = 0 := by unfold zn at h; split at h <;> omega
  exact ⟨this, by omega⟩
