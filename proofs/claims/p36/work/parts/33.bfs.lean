theorem fb_holes : ∀ (m n : Nat) (f : Nat → Nat), (∀ i, i < n → f i < m) → (∀ i j, i < j → j < n → f i ≠ f j) → n ≤ m := by
  intro m
  induction m with
  | zero =>
    intro n f h1 _
    rcases Nat.eq_zero_or_pos n with h | h
    · omega
    · exact absurd (h1 0 h) (Nat.not_lt_zero _)
  | succ m ih =>
    intro n f h1 h2
    by_cases hx : ∃ i, i < n ∧ f i = m
    · obtain ⟨a, ha, hfa⟩ := hx
      have hg := ih (n - 1) (fun i => if i < a then f i else f (i + 1)) (by
        intro i hi
        by_cases q : i < a
        · simp only [if_pos q]
          have b1 := h1 i (by omega)
          have b2 := h2 i a q ha
          omega
        · simp only [if_neg q]
          have b1 := h1 (i + 1) (by omega)
          have b2 := h2 a (i + 1) (by omega) (by omega)
          omega) (by
        intro i j hij hj
        by_cases q : i < a
        · by_cases r : j < a
          · simp only [if_pos q, if_pos r]
            exact h2 i j hij (by omega)
          · simp only [if_pos q, if_neg r]
            exact h2 i (j + 1) (by omega) (by omega)
        · have r : ¬ j < a := by omega
          simp only [if_neg q, if_neg r]
          exact h2 (i + 1) (j + 1) (by omega) (by omega))
      omega
    · have hg := ih n f (fun i hi => by
        have b1 := h1 i hi
        have b2 : f i ≠ m := fun e => hx ⟨i, hi, e⟩
        omega) h2
      omega
/-! shortest ways: one list of (state, distance, first act), in the order of reaching -/
def zalB (n a : Nat) : Bool := if a < 3 then decide (a < n) else if a < 6 then decide (a - 3 < n) else decide ((a - 6) / 3 < n) && (decide ((a - 6) % 3 < n) && decide ((a - 6) / 3 ≠ (a - 6) % 3))
theorem zalB_iff {n a : Nat} : zalB n a = true ↔ zal n a := by
  unfold zalB zal
  split
  · simp
  · split
    · simp
    · simp
theorem zal_3 {n a : Nat} (hn : n ≤ 3) (h : zal n a) : zal 3 a := by
  unfold zal at h ⊢
  split
  · next q => rw [if_pos q] at h; omega
  · next q =>
    rw [if_neg q] at h
    split
    · next q2 => rw [if_pos q2] at h; omega
    · next q2 => rw [if_neg q2] at h; exact ⟨by omega, by omega, h.2.2⟩
abbrev zL : Type := List (Nat × Nat × Nat)
def zmem (L : zL) (s : Nat) : Bool := L.any (fun e => e.1 == s)
def zadd (L : zL) (s d f : Nat) : zL := if zmem L s = true then L else L ++ [(s, d, f)]
/-- the state behind an act -/
def zsuc (V : Nat → Nat) (s a : Nat) : Nat := zst (zmv V (zdg s) a)
def zsp1 (V : Nat → Nat) (e : Nat × Nat × Nat) (a : Nat) (L : zL) : zL := if zalB (zn V) a = true then zadd L (zsuc V e.1 a) (e.2.1 + 1) (if e.2.1 = 0 then a else e.2.2) else L
def zspF (V : Nat → Nat) (e : Nat × Nat × Nat) : Nat → Nat → zL → zL
  | 0, _, L => L
  | n + 1, k, L => if 15 ≤ k then L else zspF V e n (k + 1) (zsp1 V e k L)
def zbf (V : Nat → Nat) : Nat → Nat → zL → zL
  | 0, _, L => L
  | n + 1, k, L => match L[k]? with
    | none => L
    | some e => zbf V n (k + 1) (zspF V e 16 0 L)
def zBFS (V : Nat → Nat) (s : Nat) : zL := zbf V 1001 0 [(s, 0, 0)]
theorem zmem_iff {L : zL} {s : Nat} : zmem L s = true ↔ ∃ e ∈ L, e.1 = s := by
  unfold zmem
  rw [List.any_eq_true]
  constructor
  · rintro ⟨e, h1, h2⟩; exact ⟨e, h1, by simpa using h2⟩
  · rintro ⟨e, h1, h2⟩; exact ⟨e, h1, by simpa using h2⟩
theorem zmem_no {L : zL} {s : Nat} : zmem L s = false ↔ ∀ e ∈ L, e.1 ≠ s := by
  constructor
  · intro h e he q
    have : zmem L s = true := zmem_iff.mpr ⟨e, he, q⟩
    rw [h] at this; cases this
  · intro h
    cases q : zmem L s with
    | false => rfl
    | true =>
      obtain ⟨e, h1, h2⟩ := zmem_iff.mp q
      exact absurd h2 (h e h1)
theorem zadd_get {L : zL} {s d f i : Nat} {e : Nat × Nat × Nat} (h : L[i]? = some e) : (zadd L s d f)[i]? = some e := by
  unfold zadd
  split
  · exact h
  · rw [List.getElem?_append_left (List.getElem?_eq_some_iff.mp h).1]; exact h
theorem zsp1_get {V : Nat → Nat} {e : Nat × Nat × Nat} {a : Nat} {L : zL} {i : Nat} {x : Nat × Nat × Nat} (h : L[i]? = some x) : (zsp1 V e a L)[i]? = some x := by
  unfold zsp1
  split
  · exact zadd_get h
  · exact h
theorem zspF_get {V : Nat → Nat} {e : Nat × Nat × Nat} {i : Nat} {x : Nat × Nat × Nat} : ∀ (n k : Nat) (L : zL), L[i]? = some x → (zspF V e n k L)[i]? = some x := by
  intro n
  induction n with
  | zero => intro k L h; exact h
  | succ n ih =>
    intro k L h
    unfold zspF
    split
    · exact h
    · exact ih _ _ (zsp1_get h)
/-- a list as the search makes it -/
def zGd (V : Nat → Nat) (L : zL) : Prop := (∀ (i j : Nat) (e f : Nat × Nat × Nat), i < j → L[i]? = some e → L[j]? = some f → e.1 ≠ f.1) ∧ ∀ (i : Nat) (e : Nat × Nat × Nat), L[i]? = some e → e.1 < 1000 ∧ zOK V (zdg e.1) ∧ e.2.1 ≤ i ∧ (0 < i → 0 < e.2.1) ∧ e.2.2 < 15
theorem zGd_len {V : Nat → Nat} {L : zL} (h : zGd V L) : L.length ≤ 1000 := by
  refine fb_holes 1000 L.length (fun i => match L[i]? with | some e => e.1 | none => 0) (fun i hi => ?_) (fun i j hij hj => ?_)
  · rw [List.getElem?_eq_getElem hi]; exact (h.2 i _ (List.getElem?_eq_getElem hi)).1
  · rw [List.getElem?_eq_getElem (show i < L.length by omega), List.getElem?_eq_getElem hj]
    exact h.1 i j _ _ hij (List.getElem?_eq_getElem _) (List.getElem?_eq_getElem hj)
theorem zGd_add {V : Nat → Nat} {L : zL} (h : zGd V L) {s d f : Nat} (hs : s < 1000) (ok : zOK V (zdg s)) (hd : d ≤ L.length) (h0 : 0 < d) (hf : f < 15) : zGd V (zadd L s d f) := by
  unfold zadd
  split
  · exact h
  · next q =>
    have hq : zmem L s = false := by simpa using q
    have hno := zmem_no.mp hq
    refine ⟨fun i j e f' hij hi hj => ?_, fun i e hi => ?_⟩
    · rcases Nat.lt_or_ge j L.length with q1 | q1
      · rw [List.getElem?_append_left (by omega)] at hi
        rw [List.getElem?_append_left q1] at hj
        exact h.1 i j e f' hij hi hj
      · have hj2 : j = L.length := by
          have := (List.getElem?_eq_some_iff.mp hj).1
          rw [List.length_append] at this
          simp at this; omega
        subst hj2
        rw [List.getElem?_append_left (by omega)] at hi
        rw [List.getElem?_append_right (Nat.le_refl _), Nat.sub_self] at hj
        simp at hj
        subst hj
        exact hno e (List.mem_of_getElem? hi)
    · rcases Nat.lt_or_ge i L.length with q1 | q1
      · rw [List.getElem?_append_left q1] at hi
        exact h.2 i e hi
      · have hi2 : i = L.length := by
          have := (List.getElem?_eq_some_iff.mp hi).1
          rw [List.length_append] at this
          simp at this; omega
        subst hi2
        rw [List.getElem?_append_right (Nat.le_refl _), Nat.sub_self] at hi
        simp at hi
        subst hi
        exact ⟨hs, ok, hd, fun _ => h0, hf⟩
theorem zadd_len {L : zL} {s d f : Nat} : L.length ≤ (zadd L s d f).length := by
  unfold zadd
  split
  · exact Nat.le_refl _
  · rw [List.length_append]; omega
theorem zsuc_ok {V : Nat → Nat} {s a : Nat} (ok : zOK V (zdg s)) (ha : a < 15) : zsuc V s a < 1000 ∧ zOK V (zdg (zsuc V s a)) := by
  have o := zmv_ok ok ha
  exact ⟨zst_lt o, o.congr (fun j hj => (zdg_st o hj).symm)⟩
theorem zGd_sp1 {V : Nat → Nat} {L : zL} (h : zGd V L) {p : Nat} {e : Nat × Nat × Nat} (he : L[p]? = some e) {a : Nat} (ha : a < 15) : zGd V (zsp1 V e a L) := by
  unfold zsp1
  split
  · have g := h.2 p e he
    have o := zsuc_ok g.2.1 ha
    have hp := (List.getElem?_eq_some_iff.mp he).1
    refine zGd_add h o.1 o.2 (by omega) (by omega) ?_
    split
    · exact ha
    · exact g.2.2.2.2
  · exact h
theorem zGd_spF {V : Nat → Nat} {p : Nat} {e : Nat × Nat × Nat} : ∀ (n k : Nat) (L : zL), zGd V L → L[p]? = some e → zGd V (zspF V e n k L) := by
  intro n
  induction n with
  | zero => intro k L h _; exact h
  | succ n ih =>
    intro k L h he
    unfold zspF
    split
    · exact h
    · exact ih _ _ (zGd_sp1 h he (by omega)) (zsp1_get he)
theorem zGd_bf {V : Nat → Nat} : ∀ (n k : Nat) (L : zL), zGd V L → zGd V (zbf V n k L) := by
  intro n
  induction n with
  | zero => intro k L h; exact h
  | succ n ih =>
    intro k L h
    unfold zbf
    split
    · exact h
    · next e he => exact ih _ _ (zGd_spF 16 0 L h he)
theorem zGd_0 {V : Nat → Nat} {s : Nat} (hs : s < 1000) (ok : zOK V (zdg s)) : zGd V [(s, 0, 0)] := by
  refine ⟨fun i j e f hij hi hj => ?_, fun i e hi => ?_⟩
  · have := (List.getElem?_eq_some_iff.mp hj).1
    simp at this; omega
  · have h1 := (List.getElem?_eq_some_iff.mp hi).1
    simp at h1
    subst h1
    simp at hi
    subst hi
    exact ⟨hs, ok, Nat.le_refl _, fun h => absurd h (by omega), by show (0 : Nat) < 15; omega⟩
theorem zGd_BFS {V : Nat → Nat} {s : Nat} (hs : s < 1000) (ok : zOK V (zdg s)) : zGd V (zBFS V s) := zGd_bf _ _ _ (zGd_0 hs ok)
