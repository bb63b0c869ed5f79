/-! the first of the list with a property -/
def zFa (L : zL) (T : Nat → Bool) : Nat → Nat → Option (Nat × Nat × Nat)
  | 0, _ => none
  | n + 1, k => match L[k]? with
    | none => none
    | some e => if T e.1 = true then some e else zFa L T n (k + 1)
def zFst (L : zL) (T : Nat → Bool) : Option (Nat × Nat × Nat) := zFa L T (L.length + 1) 0
theorem zFa_some {L : zL} {T : Nat → Bool} {e : Nat × Nat × Nat} : ∀ (n k : Nat), zFa L T n k = some e → ∃ i, k ≤ i ∧ L[i]? = some e ∧ T e.1 = true ∧ ∀ (j : Nat) (f : Nat × Nat × Nat), k ≤ j → j < i → L[j]? = some f → T f.1 = false := by
  intro n
  induction n with
  | zero => intro k h; cases h
  | succ n ih =>
    intro k h
    unfold zFa at h
    cases hk : L[k]? with
    | none => rw [hk] at h; cases h
    | some x =>
      rw [hk] at h
      dsimp only at h
      by_cases q : T x.1 = true
      · rw [if_pos q] at h
        cases h
        exact ⟨k, Nat.le_refl _, hk, q, fun j f h1 h2 => absurd h2 (by omega)⟩
      · rw [if_neg q] at h
        obtain ⟨i, h1, h2, h3, h4⟩ := ih (k + 1) h
        refine ⟨i, by omega, h2, h3, fun j f j1 j2 j3 => ?_⟩
        rcases Nat.eq_or_lt_of_le j1 with z | z
        · subst z
          rw [hk] at j3
          cases j3
          cases w : T x.1 with
          | false => rfl
          | true => exact absurd w q
        · exact h4 j f (by omega) j2 j3
theorem zFa_none {L : zL} {T : Nat → Bool} : ∀ (n k : Nat), L.length < k + n → zFa L T n k = none → ∀ (j : Nat) (f : Nat × Nat × Nat), k ≤ j → L[j]? = some f → T f.1 = false := by
  intro n
  induction n with
  | zero =>
    intro k hk _ j f h1 h2
    have := (List.getElem?_eq_some_iff.mp h2).1
    omega
  | succ n ih =>
    intro k hl h j f h1 h2
    unfold zFa at h
    cases hk : L[k]? with
    | none =>
      have := List.getElem?_eq_none_iff.mp hk
      have := (List.getElem?_eq_some_iff.mp h2).1
      omega
    | some x =>
      rw [hk] at h
      dsimp only at h
      by_cases q : T x.1 = true
      · rw [if_pos q] at h; cases h
      · rw [if_neg q] at h
        rcases Nat.eq_or_lt_of_le h1 with z | z
        · subst z
          rw [hk] at h2
          cases h2
          cases w : T f.1 with
          | false => rfl
          | true => exact absurd w q
        · exact ih (k + 1) (by omega) h j f (by omega) h2
theorem zFst_some {L : zL} {T : Nat → Bool} {e : Nat × Nat × Nat} (h : zFst L T = some e) : ∃ i, L[i]? = some e ∧ T e.1 = true ∧ ∀ (j : Nat) (f : Nat × Nat × Nat), L[j]? = some f → T f.1 = true → i ≤ j := by
  obtain ⟨i, -, h2, h3, h4⟩ := zFa_some _ _ h
  refine ⟨i, h2, h3, fun j f hj hf => ?_⟩
  rcases Nat.lt_or_ge j i with q | q
  · have := h4 j f (by omega) q hj
    rw [hf] at this; cases this
  · exact q
theorem zFst_ex {L : zL} {T : Nat → Bool} {j : Nat} {f : Nat × Nat × Nat} (hj : L[j]? = some f) (hf : T f.1 = true) : ∃ e, zFst L T = some e := by
  cases h : zFst L T with
  | some e => exact ⟨e, rfl⟩
  | none =>
    have := zFa_none _ _ (by omega) h j f (by omega) hj
    rw [hf] at this; cases this
theorem zIv_path {V : Nat → Nat} {s k : Nat} {L : zL} (hG : zGd V L) (h : zIv V s k L) {i : Nat} {x : Nat × Nat × Nat} (hx : L[i]? = some x) : zPath V x.2.1 s x.1 := by
  rcases Nat.eq_zero_or_pos i with q | q
  · subst q
    rw [h.1] at hx
    cases hx
    exact rfl
  · obtain ⟨h1, h2⟩ := h.2.2.1 i x hx q
    have g := hG.2 i x hx
    have hp := g.2.2.2.1 q
    have e9 : x.2.1 = (x.2.1 - 1) + 1 := by omega
    rw [e9]
    exact zPath_cons g.2.2.2.2 h1 _ _ h2
/-- the first of the list with the property begins with the smallest first act of a shortest way -/
theorem z_first {V : Nat → Nat} {s : Nat} (hs : s < 1000) (ok : zOK V (zdg s)) {T : Nat → Bool} {e : Nat × Nat × Nat} (h : zFst (zBFS V s) T = some e) (h0 : 0 < e.2.1) :
    zalB (zn V) e.2.2 = true ∧ e.2.2 < 15 ∧ (∃ x, zFst (zBFS V (zsuc V s e.2.2)) T = some x ∧ x.2.1 + 1 = e.2.1) ∧ ∀ a, a < e.2.2 → zalB (zn V) a = true → ∀ x, zFst (zBFS V (zsuc V s a)) T = some x → x.2.1 + 1 ≠ e.2.1 := by
  obtain ⟨k, iv, hk⟩ := zBFS_fin hs ok
  have hG := zGd_BFS hs ok
  obtain ⟨i, hi, hT, hmin⟩ := zFst_some h
  have g := hG.2 i e hi
  have hi0 : 0 < i := by
    rcases Nat.eq_zero_or_pos i with q | q
    · subst q
      have := g.2.2.1
      omega
    · exact q
  obtain ⟨hal, hp⟩ := iv.2.2.1 i e hi hi0
  have h15 := g.2.2.2.2
  -- distance of any entry with the property
  have far : ∀ (j : Nat) (f : Nat × Nat × Nat), (zBFS V s)[j]? = some f → T f.1 = true → e.2.1 ≤ f.2.1 ∧ (e.2.1 = f.2.1 → e.2.2 ≤ f.2.2) := by
    intro j f hj hf
    have hij := hmin j f hj hf
    rcases Nat.eq_or_lt_of_le hij with z | z
    · subst z
      rw [hi] at hj
      cases hj
      exact ⟨Nat.le_refl _, fun _ => Nat.le_refl _⟩
    · have := iv.2.1 i j e f z hi hj
      exact ⟨this.1, fun q => this.2 hi0 q⟩
  refine ⟨hal, h15, ?_, fun a ha hala x hx hxd => ?_⟩
  · have o := zsuc_ok ok h15
    obtain ⟨k2, iv2, hk2⟩ := zBFS_fin o.1 o.2
    have hG2 := zGd_BFS o.1 o.2
    obtain ⟨j, y, hj, hy1, hy2⟩ := zBFS_C0 iv2 hk2 _ _ hp
    obtain ⟨x, hx⟩ := zFst_ex hj (by rw [hy1]; exact hT)
    refine ⟨x, hx, ?_⟩
    obtain ⟨i2, hi2, hT2, hmin2⟩ := zFst_some hx
    have hle : x.2.1 ≤ y.2.1 := by
      have hij := hmin2 j y hj (by rw [hy1]; exact hT)
      rcases Nat.eq_or_lt_of_le hij with z | z
      · subst z
        rw [hi2] at hj
        cases hj
        exact Nat.le_refl _
      · exact (iv2.2.1 i2 j x y z hi2 hj).1
    have hpx := zIv_path hG2 iv2 hi2
    obtain ⟨j3, w, hj3, hw1, hw2, -⟩ := zBFS_C iv hk h15 hal _ _ hpx
    have := (far j3 w hj3 (by rw [hw1]; exact hT2)).1
    omega
  · have ha15 : a < 15 := by omega
    have o := zsuc_ok ok ha15
    obtain ⟨k2, iv2, hk2⟩ := zBFS_fin o.1 o.2
    have hG2 := zGd_BFS o.1 o.2
    obtain ⟨i2, hi2, hT2, -⟩ := zFst_some hx
    have hpx := zIv_path hG2 iv2 hi2
    obtain ⟨j3, w, hj3, hw1, hw2, hw3⟩ := zBFS_C iv hk ha15 hala _ _ hpx
    have q := far j3 w hj3 (by rw [hw1]; exact hT2)
    have hd : w.2.1 = x.2.1 + 1 := by omega
    have := hw3 hd
    have := q.2 (by omega)
    omega
/-- the distance is 0 just where the property holds now -/
theorem z_here {V : Nat → Nat} {s : Nat} (hs : s < 1000) (ok : zOK V (zdg s)) {T : Nat → Bool} : T s = true ↔ ∃ e, zFst (zBFS V s) T = some e ∧ e.2.1 = 0 := by
  obtain ⟨k, iv, hk⟩ := zBFS_fin hs ok
  have hG := zGd_BFS hs ok
  constructor
  · intro h
    obtain ⟨e, he⟩ := zFst_ex iv.1 h
    obtain ⟨i, hi, -, hmin⟩ := zFst_some he
    have := hmin 0 _ iv.1 h
    have hi0 : i = 0 := by omega
    subst hi0
    rw [iv.1] at hi
    cases hi
    exact ⟨_, he, rfl⟩
  · rintro ⟨e, he, h0⟩
    obtain ⟨i, hi, hT, -⟩ := zFst_some he
    have hp := zIv_path hG iv hi
    rw [h0] at hp
    have : s = e.1 := hp
    rw [this]; exact hT
