/-! what is asked of the list: the class's answers and the model's -/
def zDi (o : Option (Nat × Nat × Nat)) : Int32 := match o with
  | some e => nI e.2.1
  | none => -1
def zSt (o : Option (Nat × Nat × Nat)) : Int32 := match o with
  | some e => nI e.1
  | none => -1
/-- how many of the list from the place k on are so far away -/
def zCn (L : zL) (x : Int32) : Nat → Nat → Int32 → Int32
  | 0, _, c => c
  | n + 1, k, c => match L[k]? with
    | none => c
    | some e => if nI e.2.1 = x then zCn L x n (k + 1) (c + 1) else zCn L x n (k + 1) c
theorem zb01_n {b : Bool} : ¬ zb01 b = 0 ↔ b = true := by cases b <;> decide
theorem zc_near {V : Nat → Nat} {vs ds fa od : Nat → Int32} {rd : Int32} {L : zL} (hv : zE3 vs V) (hW : zWc L ds fa od rd) (hG : zGd V L) {v : Nat} (h9 : v < 2 ^ 31) : ∀ (n k : Nat) (as : Nat → Int32), k + n = L.length + 1 → (lf_X2_nearestWith_2 n k vs as od rd (nI v)).1 = zSt (zFa L (fun t => zhas (zn V) (zdg t) v) n k) ∨ n = 0 := by
  intro n
  induction n with
  | zero => intro k as _; exact Or.inr rfl
  | succ n ih =>
    intro k as hk
    have hlen := zGd_len hG
    left
    rw [lf_X2_nearestWith_2_succ]
    unfold zFa
    cases he : L[k]? with
    | none =>
      have hk2 : L.length ≤ k := List.getElem?_eq_none_iff.mp he
      rw [if_pos (by rw [hW.1]; exact nI_le hk2 (by omega))]
      rfl
    | some e =>
      have hk2 := (List.getElem?_eq_some_iff.mp he).1
      have g := hG.2 k e he
      rw [if_neg (by rw [hW.1]; exact nI_ge hk2 (by omega)), z_stateAt hW hlen he, zr_some hv (zr_hold g.1) g.2.1 h9]
      dsimp only
      cases hB : zhas (zn V) (zdg e.1) v with
      | false =>
        rw [if_pos (zb01_0.mpr rfl), if_neg (by decide)]
        rcases ih (k + 1) (f_X1_hold as (nI e.1)) (by omega) with q | q
        · exact q
        · exfalso; omega
      | true =>
        rw [if_neg (zb01_n.mpr rfl), if_pos rfl]
        rfl
theorem zc_nearest {V : Nat → Nat} {vs ds fa od : Nat → Int32} {rd : Int32} {L : zL} (hv : zE3 vs V) (hW : zWc L ds fa od rd) (hG : zGd V L) (as : Nat → Int32) {v : Nat} (h9 : v < 2 ^ 31) : (f_X2_nearestWith vs as od rd (nI v)).1 = zSt (zFst L (fun t => zhas (zn V) (zdg t) v)) := by
  have hlen := zGd_len hG
  unfold f_X2_nearestWith zFst
  rw [hW.1, nI_clamp (by omega), ← hW.1]
  rcases zc_near hv hW hG h9 (L.length + 1) 0 as (by omega) with q | q
  · exact q
  · omega
theorem zc_least {V : Nat → Nat} {vs ds fa od : Nat → Int32} {rd : Int32} {L : zL} (hv : zE3 vs V) (hW : zWc L ds fa od rd) (hG : zGd V L) (as : Nat → Int32) {v : Nat} (h9 : v < 2 ^ 31) : (f_X2_leastActsTo vs as ds od rd (nI v)).1 = zDi (zFst L (fun t => zhas (zn V) (zdg t) v)) := by
  rw [f_X2_leastActsTo_eq]
  dsimp only
  rw [zc_nearest hv hW hG as h9]
  cases h : zFst L (fun t => zhas (zn V) (zdg t) v) with
  | none => rfl
  | some e =>
    obtain ⟨i, hi, -, -⟩ := zFst_some h
    exact z_distOf hW hi (hG.2 i e hi).1
theorem zc_first {V : Nat → Nat} {vs ds fa od : Nat → Int32} {rd : Int32} {L : zL} (hv : zE3 vs V) (hW : zWc L ds fa od rd) (hG : zGd V L) (as : Nat → Int32) {v : Nat} (h9 : v < 2 ^ 31) {e : Nat × Nat × Nat} (h : zFst L (fun t => zhas (zn V) (zdg t) v) = some e) (h0 : 0 < e.2.1) : (f_X2_firstActTo vs as fa od rd (nI v)).1 = nI e.2.2 := by
  rw [f_X2_firstActTo_eq]
  dsimp only
  rw [zc_nearest hv hW hG as h9, h]
  obtain ⟨i, hi, -, -⟩ := zFst_some h
  have g := hG.2 i e hi
  show f_X2_firstActOf fa (nI e.1) = _
  unfold f_X2_firstActOf
  rw [if_neg (z_neg (by omega)), zl1000, z_if_le (by omega) (by omega), if_neg (by omega), nI_clamp (by omega)]
  exact (hW.2.1 i e hi).2.2 (by have := g.2.2.1; omega)
theorem zc_with {V : Nat → Nat} {ds fa od : Nat → Int32} {rd : Int32} {L : zL} (hW : zWc L ds fa od rd) (hG : zGd V L) {j v : Nat} (hj : j < 3) (h9 : v < 2 ^ 31) : ∀ (n k : Nat) (as : Nat → Int32), k + n = L.length + 1 → (lf_X2_leastActsWith_2 n k as ds od rd (nI j) (nI v)).1 = zDi (zFa L (fun t => decide (zdg t j = v)) n k) ∨ n = 0 := by
  intro n
  induction n with
  | zero => intro k as _; exact Or.inr rfl
  | succ n ih =>
    intro k as hk
    have hlen := zGd_len hG
    left
    rw [lf_X2_leastActsWith_2_succ]
    unfold zFa
    cases he : L[k]? with
    | none =>
      have hk2 : L.length ≤ k := List.getElem?_eq_none_iff.mp he
      rw [if_pos (by rw [hW.1]; exact nI_le hk2 (by omega))]
      rfl
    | some e =>
      have hk2 := (List.getElem?_eq_some_iff.mp he).1
      have g := hG.2 k e he
      have o := g.2.1 j hj
      rw [if_neg (by rw [hW.1]; exact nI_ge hk2 (by omega)), z_stateAt hW hlen he, zr_amt hj, zr_hold g.1 j hj, z_if_eq (by omega) h9, z_distOf hW he g.1]
      dsimp only
      by_cases q : zdg e.1 j = v
      · rw [if_pos q, if_pos (decide_eq_true q)]
        rfl
      · rw [if_neg q, if_neg (by rw [decide_eq_false q]; decide)]
        rcases ih (k + 1) (f_X1_hold as (nI e.1)) (by omega) with z | z
        · exact z
        · exfalso; omega
theorem zc_leastWith {V : Nat → Nat} {ds fa od : Nat → Int32} {rd : Int32} {L : zL} (hW : zWc L ds fa od rd) (hG : zGd V L) (as : Nat → Int32) {j v : Nat} (hj : j < 3) (h9 : v < 2 ^ 31) : (f_X2_leastActsWith as ds od rd (nI j) (nI v)).1 = zDi (zFst L (fun t => decide (zdg t j = v))) := by
  have hlen := zGd_len hG
  unfold f_X2_leastActsWith zFst
  rw [hW.1, nI_clamp (by omega), ← hW.1]
  rcases zc_with hW hG hj h9 (L.length + 1) 0 as (by omega) with q | q
  · exact q
  · omega
theorem zc_count {V : Nat → Nat} {ds fa od : Nat → Int32} {rd : Int32} {L : zL} (hW : zWc L ds fa od rd) (hG : zGd V L) (x : Int32) : ∀ (n k : Nat) (c : Int32), k + n = L.length + 1 → lf_X2_statesAt_4 n k ds od rd x c = zCn L x n k c := by
  intro n
  induction n with
  | zero => intro k c _; rfl
  | succ n ih =>
    intro k c hk
    have hlen := zGd_len hG
    rw [lf_X2_statesAt_4_succ]
    unfold zCn
    cases he : L[k]? with
    | none =>
      have hk2 : L.length ≤ k := List.getElem?_eq_none_iff.mp he
      rw [if_pos (by rw [hW.1]; exact nI_le hk2 (by omega))]
    | some e =>
      have hk2 := (List.getElem?_eq_some_iff.mp he).1
      have g := hG.2 k e he
      rw [if_neg (by rw [hW.1]; exact nI_ge hk2 (by omega)), z_stateAt hW hlen he, z_distOf hW he g.1, ih (k + 1) _ (by omega), ih (k + 1) _ (by omega)]
theorem zc_statesAt {V : Nat → Nat} {ds fa od : Nat → Int32} {rd : Int32} {L : zL} (hW : zWc L ds fa od rd) (hG : zGd V L) (x : Int32) : f_X2_statesAt ds od rd x = zCn L x (L.length + 1) 0 0 := by
  have hlen := zGd_len hG
  unfold f_X2_statesAt
  rw [hW.1, nI_clamp (by omega), ← hW.1]
  exact zc_count hW hG x _ 0 0 (by omega)
theorem zc_far {V : Nat → Nat} {ds fa od : Nat → Int32} {rd : Int32} {L : zL} (hW : zWc L ds fa od rd) (hG : zGd V L) {e : Nat × Nat × Nat} (h0 : 0 < L.length) (he : L[L.length - 1]? = some e) : f_X2_greatestDistance ds od rd = nI e.2.1 := by
  have hlen := zGd_len hG
  unfold f_X2_greatestDistance
  have e1 : rd - (1 : Int32) = nI (L.length - 1) := by rw [hW.1, zl1, pk_sub (by omega)]
  rw [e1, z_stateAt hW hlen he]
  exact z_distOf hW he (hG.2 _ e he).1
