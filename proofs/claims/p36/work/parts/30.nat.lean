/-! Numbers: what the rows of jars do, said of natural numbers. -/
def zE3 (f : Nat → Int32) (X : Nat → Nat) : Prop := ∀ j, j < 3 → f j = nI (X j)
/-- amounts that fit their volumes -/
def zOK (V X : Nat → Nat) : Prop := ∀ j, j < 3 → X j ≤ V j ∧ V j ≤ 9
def zn (V : Nat → Nat) : Nat := if V 2 = 0 then 2 else 3
def zst (X : Nat → Nat) : Nat := X 0 + 10 * X 1 + 100 * X 2
def zdg (s j : Nat) : Nat := if j = 0 then s % 10 else if j = 1 then s / 10 % 10 else s / 100
def zm (V X : Nat → Nat) (a : Nat) : Nat := if a < 3 then V a - X a else if a < 6 then X (a - 3) else min (X ((a - 6) / 3)) (V ((a - 6) % 3) - X ((a - 6) % 3))
def zmv (V X : Nat → Nat) (a j : Nat) : Nat := if a < 3 then (if j = a then V a else X j) else if a < 6 then (if j = a - 3 then 0 else X j) else if j = (a - 6) / 3 then X j - zm V X a else if j = (a - 6) % 3 then X j + zm V X a else X j
/-- an act that can be done with n jars -/
def zal (n a : Nat) : Prop := if a < 3 then a < n else if a < 6 then a - 3 < n else (a - 6) / 3 < n ∧ (a - 6) % 3 < n ∧ (a - 6) / 3 ≠ (a - 6) % 3
theorem zl0 : (0 : Int32) = nI 0 := rfl
theorem zl1 : (1 : Int32) = nI 1 := rfl
theorem zl2 : (2 : Int32) = nI 2 := rfl
theorem zl3 : (3 : Int32) = nI 3 := rfl
theorem zl4 : (4 : Int32) = nI 4 := rfl
theorem zl6 : (6 : Int32) = nI 6 := rfl
theorem zl9 : (9 : Int32) = nI 9 := rfl
theorem zl10 : (10 : Int32) = nI 10 := rfl
theorem zl15 : (15 : Int32) = nI 15 := rfl
theorem zl64 : (64 : Int32) = nI 64 := rfl
theorem zl81 : (81 : Int32) = nI 81 := rfl
theorem zl100 : (100 : Int32) = nI 100 := rfl
theorem zl729 : (729 : Int32) = nI 729 := rfl
theorem zl1000 : (1000 : Int32) = nI 1000 := rfl
theorem zc0 : (0 : Int32).toNatClampNeg = 0 := rfl
theorem zc1 : (1 : Int32).toNatClampNeg = 1 := rfl
theorem zc2 : (2 : Int32).toNatClampNeg = 2 := rfl
/-- branches on numbers -/
theorem z_if_le {α : Type} {c a : Nat} {x y : α} (hc : c < 2 ^ 31) (ha : a < 2 ^ 31) : (if nI c ≤ nI a then x else y) = if c ≤ a then x else y := by
  by_cases h : c ≤ a
  · rw [if_pos h, if_pos ((nI_leI hc ha).mpr h)]
  · rw [if_neg h, if_neg (fun q => h ((nI_leI hc ha).mp q))]
theorem z_if_lt {α : Type} {c a : Nat} {x y : α} (hc : c < 2 ^ 31) (ha : a < 2 ^ 31) : (if nI c < nI a then x else y) = if c < a then x else y := by
  by_cases h : c < a
  · rw [if_pos h, if_pos ((nI_ltI hc ha).mpr h)]
  · rw [if_neg h, if_neg (fun q => h ((nI_ltI hc ha).mp q))]
theorem z_if_eq {α : Type} {c a : Nat} {x y : α} (hc : c < 2 ^ 31) (ha : a < 2 ^ 31) : (if nI c = nI a then x else y) = if c = a then x else y := by
  by_cases h : c = a
  · rw [if_pos h, if_pos ((nI_eq hc ha).mpr h)]
  · rw [if_neg h, if_neg (fun q => h ((nI_eq hc ha).mp q))]
theorem z_neg {a : Nat} (ha : a < 2 ^ 31) : ¬ nI a < (0 : Int32) := nI_pos ha
theorem z_j3 {j : Nat} (h : j < 3) : j = 0 ∨ j = 1 ∨ j = 2 := by omega
theorem zst_lt {V X : Nat → Nat} (h : zOK V X) : zst X < 1000 := by
  have h0 := h 0 (by omega); have h1 := h 1 (by omega); have h2 := h 2 (by omega)
  unfold zst; omega
theorem zdg_st {V X : Nat → Nat} (h : zOK V X) {j : Nat} (hj : j < 3) : zdg (zst X) j = X j := by
  have h0 := h 0 (by omega); have h1 := h 1 (by omega); have h2 := h 2 (by omega)
  unfold zst zdg
  rcases z_j3 hj with rfl | rfl | rfl
  · rw [if_pos rfl]; omega
  · rw [if_neg (by omega), if_pos rfl]; omega
  · rw [if_neg (by omega), if_neg (by omega)]; omega
theorem zst_dg {s : Nat} (h : s < 1000) : zst (zdg s) = s := by
  show s % 10 + 10 * (s / 10 % 10) + 100 * (s / 100) = s
  omega
theorem zst_congr {X Y : Nat → Nat} (h : ∀ j, j < 3 → X j = Y j) : zst X = zst Y := by
  unfold zst; rw [h 0 (by omega), h 1 (by omega), h 2 (by omega)]
theorem zE3.congr {f : Nat → Int32} {X Y : Nat → Nat} (h : zE3 f X) (e : ∀ j, j < 3 → X j = Y j) : zE3 f Y := fun j hj => by rw [h j hj, e j hj]
theorem zOK.congr {V X Y : Nat → Nat} (h : zOK V X) (e : ∀ j, j < 3 → X j = Y j) : zOK V Y := fun j hj => by rw [← e j hj]; exact h j hj
theorem zm_congr {V X Y : Nat → Nat} (e : ∀ j, j < 3 → X j = Y j) {a : Nat} (ha : a < 15) : zm V X a = zm V Y a := by
  unfold zm
  by_cases h3 : a < 3
  · rw [if_pos h3, if_pos h3, e a h3]
  · by_cases h6 : a < 6
    · rw [if_neg h3, if_neg h3, if_pos h6, if_pos h6, e _ (by omega)]
    · rw [if_neg h3, if_neg h3, if_neg h6, if_neg h6, e _ (by omega), e _ (by omega)]
theorem zmv_congr {V X Y : Nat → Nat} (e : ∀ j, j < 3 → X j = Y j) {a : Nat} (ha : a < 15) : ∀ j, j < 3 → zmv V X a j = zmv V Y a j := by
  intro j hj
  unfold zmv
  rw [zm_congr e ha, e j hj]
/-- an act keeps the amounts within the volumes -/
theorem zmv_ok {V X : Nat → Nat} (h : zOK V X) {a : Nat} (ha : a < 15) : zOK V (zmv V X a) := by
  intro j hj
  have hj9 := h j hj
  refine ⟨?_, hj9.2⟩
  unfold zmv
  by_cases h3 : a < 3
  · rw [if_pos h3]
    split
    · next e => rw [e]; exact Nat.le_refl _
    · exact hj9.1
  · rw [if_neg h3]
    by_cases h6 : a < 6
    · rw [if_pos h6]
      split
      · exact Nat.zero_le _
      · exact hj9.1
    · rw [if_neg h6]
      split
      · omega
      · split
        · next e2 =>
          have e3 : zm V X a ≤ V j - X j := by
            unfold zm
            rw [if_neg h3, if_neg h6, ← e2]
            exact Nat.min_le_right _ _
          omega
        · exact hj9.1
/-! the class's row of jars -/
theorem zr_count {vr : Nat → Int32} {V : Nat → Nat} (hv : zE3 vr V) (h9 : V 2 ≤ 9) : f_X1_count vr = nI (zn V) := by
  unfold f_X1_count zn
  rw [zc2, hv 2 (by omega), zl0, z_if_eq (by omega) (by omega)]
  split <;> rfl
/-- the jars that are always there have a volume -/
def zPv (V : Nat → Nat) : Prop := (1 ≤ V 0 ∧ V 0 ≤ 9) ∧ 1 ≤ V 1 ∧ V 1 ≤ 9
theorem zr_has {vr : Nat → Int32} {V : Nat → Nat} (hv : zE3 vr V) (h9 : V 2 ≤ 9) (hp : zPv V) {j : Nat} (hj : j < 2 ^ 31) : f_X1_has vr (nI j) = if j < zn V then 1 else 0 := by
  have p0 := hp.1
  have p1 := hp.2
  unfold f_X1_has
  rw [if_neg (z_neg hj), zl3, z_if_le (by omega) hj]
  by_cases h3 : 3 ≤ j
  · rw [if_pos h3, if_neg (by unfold zn; split <;> omega)]
  · have key : (j < zn V ↔ ¬ V j ≤ 0) ∧ V j ≤ 9 := by
      rcases z_j3 (show j < 3 by omega) with rfl | rfl | rfl
      · refine ⟨?_, by omega⟩; unfold zn; split <;> omega
      · refine ⟨?_, by omega⟩; unfold zn; split <;> omega
      · refine ⟨?_, by omega⟩; unfold zn; split <;> omega
    have k9 := key.2
    rw [if_neg h3, nI_clamp hj, hv j (by omega), zl0, z_if_le (by omega) (by omega)]
    by_cases h : j < zn V
    · rw [if_neg (key.1.mp h), if_pos h]
    · rw [if_pos (by have := key.1; omega), if_neg h]
theorem zr_vol {vr : Nat → Int32} {j : Nat} (hj : j < 3) : f_X1_volumeAt vr (nI j) = vr j := by
  unfold f_X1_volumeAt
  rw [if_neg (z_neg (by omega)), zl3, z_if_le (by omega) (by omega), if_neg (by omega), nI_clamp (by omega)]
theorem zr_amt {ar : Nat → Int32} {j : Nat} (hj : j < 3) : f_X1_amountAt ar (nI j) = ar j := by
  unfold f_X1_amountAt
  rw [if_neg (z_neg (by omega)), zl3, z_if_le (by omega) (by omega), if_neg (by omega), nI_clamp (by omega)]
theorem zr_state {ar : Nat → Int32} {X : Nat → Nat} (hx : zE3 ar X) : f_X1_state ar = nI (zst X) := by
  unfold f_X1_state zst
  rw [zc0, zc1, zc2, hx 0 (by omega), hx 1 (by omega), hx 2 (by omega), zl10, zl100, pk_mul, pk_mul, nI_add, nI_add]
theorem zr_hold {ar : Nat → Int32} {s : Nat} (hs : s < 1000) : zE3 (f_X1_hold ar (nI s)) (zdg s) := by
  intro j hj
  unfold f_X1_hold f_X1_hold_t1
  rw [zc0, zc1, zc2, zl10, zl100, pk_rem (by omega) (by omega) (by omega), pk_div (by omega) (by omega) (by omega), pk_rem (by omega) (by omega) (by omega), pk_div (by omega) (by omega) (by omega), pk_rem (by omega) (by omega) (by omega)]
  rcases z_j3 hj with rfl | rfl | rfl
  · rfl
  · rfl
  · show nI (s / 100 % 10) = nI (s / 100)
    rw [Nat.mod_eq_of_lt (by omega)]
theorem zr_add {ar : Nat → Int32} {j : Nat} (hj : j < 3) (d : Int32) : f_X1_add ar (nI j) d = (d, upd ar j (ar j + d)) := by
  unfold f_X1_add
  rw [if_neg (z_neg (by omega)), zl3, z_if_le (by omega) (by omega), if_neg (by omega), nI_clamp (by omega)]
theorem zi_sub_add (x y : Int32) : x + (y - x) = y := by rw [Int32.add_comm]; exact Int32.sub_add_cancel y x
theorem zi_add_neg (x : Int32) : x + -x = 0 := by rw [← Int32.sub_eq_add_neg]; exact Int32.sub_self x
theorem zr_allows {vr : Nat → Int32} {V : Nat → Nat} (hv : zE3 vr V) (h9 : V 2 ≤ 9) (hp : zPv V) {a : Nat} (ha : a < 15) : (f_X1_allows vr (nI a) = 0 ↔ ¬ zal (zn V) a) := by
  have h01 : (1 : Int32) ≠ 0 := by decide
  unfold f_X1_allows zal
  rw [zl3, z_if_le (by omega) (by omega), zl6, z_if_le (by omega) (by omega)]
  by_cases h3 : a < 3
  · rw [if_neg (by omega), if_pos h3, zr_has hv h9 hp (by omega)]
    split
    · next h => exact ⟨fun q => absurd q h01, fun q => absurd h q⟩
    · next h => exact ⟨fun _ => h, fun _ => rfl⟩
  · rw [if_pos (by omega), if_neg h3]
    by_cases h6 : a < 6
    · rw [if_neg (by omega), if_pos h6, pk_sub (by omega), zr_has hv h9 hp (by omega)]
      split
      · next h => exact ⟨fun q => absurd q h01, fun q => absurd h q⟩
      · next h => exact ⟨fun _ => h, fun _ => rfl⟩
    · rw [if_pos (by omega), if_neg h6, pk_sub (by omega), pk_rem (by omega) (by omega) (by omega), pk_div (by omega) (by omega) (by omega), zr_has hv h9 hp (by omega), zr_has hv h9 hp (by omega), z_if_eq (by omega) (by omega)]
      by_cases q1 : (a - 6) / 3 < zn V
      · rw [if_pos q1, if_neg h01]
        by_cases q2 : (a - 6) % 3 < zn V
        · rw [if_pos q2, if_neg h01]
          by_cases q3 : (a - 6) / 3 = (a - 6) % 3
          · rw [if_pos q3]; exact ⟨fun _ h => h.2.2 q3, fun _ => rfl⟩
          · rw [if_neg q3]; exact ⟨fun q => absurd q h01, fun q => absurd ⟨q1, q2, q3⟩ q⟩
        · rw [if_neg q2, if_pos rfl]; exact ⟨fun _ h => q2 h.2.1, fun _ => rfl⟩
      · rw [if_neg q1, if_pos rfl]; exact ⟨fun _ h => q1 h.1, fun _ => rfl⟩
theorem zr_change {vr ar : Nat → Int32} {V X : Nat → Nat} (hv : zE3 vr V) (hx : zE3 ar X) (ok : zOK V X) {a : Nat} (ha : a < 15) (hal : zal 3 a) : (f_X1_change vr ar (nI a)).1 = nI (zm V X a) ∧ zE3 (f_X1_change vr ar (nI a)).2 (zmv V X a) := by
  have h01 : (1 : Int32) ≠ 0 := by decide
  unfold f_X1_change
  rw [zl3, z_if_le (by omega) (by omega), zl6, z_if_le (by omega) (by omega)]
  by_cases h3 : a < 3
  · have o := ok a h3
    rw [if_neg (by omega), zr_vol h3, zr_amt h3, zr_add h3]
    refine ⟨?_, fun j hj => ?_⟩
    · show vr a - ar a = _
      rw [hv a h3, hx a h3, pk_sub o.1]
      unfold zm; rw [if_pos h3]
    · show upd ar a (ar a + (vr a - ar a)) j = _
      rw [zi_sub_add]
      unfold zmv upd; rw [if_pos h3]
      split
      · exact hv a h3
      · exact hx j hj
  · rw [if_pos (by omega)]
    by_cases h6 : a < 6
    · rw [if_neg (by omega), pk_sub (by omega), zr_amt (by omega), zr_add (by omega)]
      refine ⟨?_, fun j hj => ?_⟩
      · show -(-(ar (a - 3))) = _
        rw [Int32.neg_neg, hx _ (by omega)]
        unfold zm; rw [if_neg h3, if_pos h6]
      · show upd ar (a - 3) (ar (a - 3) + -(ar (a - 3))) j = _
        rw [zi_add_neg]
        unfold zmv upd; rw [if_neg h3, if_pos h6]
        split
        · rfl
        · exact hx j hj
    · rw [if_pos (by omega)]
      have hne : (a - 6) / 3 ≠ (a - 6) % 3 := by
        unfold zal at hal; rw [if_neg h3, if_neg h6] at hal; exact hal.2.2
      have hf : (a - 6) / 3 < 3 := by omega
      have ht : (a - 6) % 3 < 3 := by omega
      have of := ok _ hf
      have ot := ok _ ht
      have et1 : f_X1_change_t1 vr ar (nI a) = nI (zm V X a) := by
        unfold f_X1_change_t1
        rw [zl6, zl3, pk_sub (by omega), pk_rem (by omega) (by omega) (by omega), pk_div (by omega) (by omega) (by omega), zr_vol ht, zr_amt ht, zr_amt hf, hv _ ht, hx _ ht, hx _ hf, pk_sub ot.1, z_if_lt (by omega) (by omega)]
        unfold zm; rw [if_neg h3, if_neg h6]
        split
        · next q => rw [Nat.min_eq_right (by omega)]
        · next q => rw [Nat.min_eq_left (by omega)]
      have e3 : f_X1_change_t3 vr ar (nI a) = nI (zm V X a) := by
        unfold f_X1_change_t3
        rw [et1, zl6, zl3, pk_sub (by omega), pk_rem (by omega) (by omega) (by omega), pk_div (by omega) (by omega) (by omega), zr_add ht]
      have e2 : f_X1_change_t2 vr ar (nI a) = upd (upd ar ((a - 6) / 3) (ar ((a - 6) / 3) + -(nI (zm V X a)))) ((a - 6) % 3) (upd ar ((a - 6) / 3) (ar ((a - 6) / 3) + -(nI (zm V X a))) ((a - 6) % 3) + nI (zm V X a)) := by
        unfold f_X1_change_t2
        rw [et1, zl6, zl3, pk_sub (by omega), pk_rem (by omega) (by omega) (by omega), pk_div (by omega) (by omega) (by omega), zr_add hf, zr_add ht]
      refine ⟨e3, fun j hj => ?_⟩
      show f_X1_change_t2 vr ar (nI a) j = _
      have hm : zm V X a ≤ X ((a - 6) / 3) := by
        unfold zm; rw [if_neg h3, if_neg h6]; exact Nat.min_le_left _ _
      rw [e2]
      unfold zmv; rw [if_neg h3, if_neg h6]
      by_cases q1 : j = (a - 6) / 3
      · rw [if_pos q1]
        subst q1
        unfold upd
        rw [if_neg hne, if_pos rfl, ← Int32.sub_eq_add_neg, hx _ hf, pk_sub hm]
      · rw [if_neg q1]
        by_cases q2 : j = (a - 6) % 3
        · rw [if_pos q2]
          subst q2
          unfold upd
          rw [if_pos rfl, if_neg q1, hx _ ht, nI_add]
        · rw [if_neg q2]
          unfold upd
          rw [if_neg q2, if_neg q1]; exact hx j hj
