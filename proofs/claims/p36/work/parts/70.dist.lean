/-! how many states are so far away -/
def zcnE (L : zL) (d : Nat) : Nat := (L.filter (fun e => decide (e.2.1 = d))).length
def zcnL (L : zL) (k : Nat) : Nat := (L.filter (fun e => decide (e.2.1 < k))).length
theorem zCn_go {L : zL} {d : Nat} (hd : d < 2 ^ 31) (hb : ∀ (i : Nat) (e : Nat × Nat × Nat), L[i]? = some e → e.2.1 < 2 ^ 31) : ∀ (n k c : Nat), k + n = L.length + 1 → zCn L (nI d) n k (nI c) = nI (c + ((L.drop k).filter (fun e => decide (e.2.1 = d))).length) := by
  intro n
  induction n with
  | zero =>
    intro k c hk
    rw [List.drop_eq_nil_of_le (by omega)]
    rfl
  | succ n ih =>
    intro k c hk
    unfold zCn
    cases h : L[k]? with
    | none =>
      rw [List.drop_eq_nil_of_le (List.getElem?_eq_none_iff.mp h)]
      rfl
    | some e =>
      have hlt := (List.getElem?_eq_some_iff.mp h)
      have hdr : L.drop k = e :: L.drop (k + 1) := by rw [List.drop_eq_getElem_cons hlt.1, hlt.2]
      rw [hdr, List.filter_cons]
      dsimp only
      by_cases q : e.2.1 = d
      · rw [if_pos (congrArg nI q), if_pos (decide_eq_true q), zl1, nI_add, ih (k + 1) (c + 1) (by omega), List.length_cons]
        exact congrArg nI (by omega)
      · rw [if_neg (fun z => q ((nI_eq (hb k e h) hd).mp z)), if_neg (by rw [decide_eq_false q]; decide)]
        exact ih (k + 1) c (by omega)
theorem zcnL_succ (L : zL) (k : Nat) : zcnL L (k + 1) = zcnL L k + zcnE L k := by
  unfold zcnL zcnE
  induction L with
  | nil => rfl
  | cons e L ih =>
    rw [List.filter_cons, List.filter_cons, List.filter_cons]
    rcases Nat.lt_trichotomy e.2.1 k with h | h | h
    · rw [if_pos (decide_eq_true (by omega)), if_pos (decide_eq_true h), if_neg (by rw [decide_eq_false (by omega)]; decide), List.length_cons, List.length_cons]; omega
    · rw [if_pos (decide_eq_true (by omega)), if_neg (by rw [decide_eq_false (by omega)]; decide), if_pos (decide_eq_true h), List.length_cons, List.length_cons]; omega
    · rw [if_neg (by rw [decide_eq_false (by omega)]; decide), if_neg (by rw [decide_eq_false (by omega)]; decide), if_neg (by rw [decide_eq_false (by omega)]; decide)]; exact ih
theorem zcnL_all {L : zL} {k : Nat} (h : ∀ e ∈ L, e.2.1 < k) : zcnL L k = L.length := by
  unfold zcnL
  rw [List.filter_eq_self.mpr (fun e he => decide_eq_true (h e he))]
theorem zcnL_0 (L : zL) : zcnL L 0 = 0 := by
  unfold zcnL
  rw [List.filter_eq_nil_iff.mpr (fun e _ => by rw [decide_eq_false (by omega)]; decide)]
  rfl
theorem zcnE_pos {L : zL} {d : Nat} {e : Nat × Nat × Nat} (he : e ∈ L) (hd : e.2.1 = d) : 1 ≤ zcnE L d :=
  List.length_pos_of_mem (List.mem_filter.mpr ⟨he, decide_eq_true hd⟩)
theorem zcnE_no {L : zL} {d : Nat} (h : ∀ e ∈ L, e.2.1 ≠ d) : zcnE L d = 0 := by
  unfold zcnE
  rw [List.filter_eq_nil_iff.mpr (fun e he => by rw [decide_eq_false (h e he)]; decide)]
  rfl
theorem zcnE_le (L : zL) (d : Nat) : zcnE L d ≤ L.length := List.length_filter_le _ _
/-- where a state is so far away, one is an act less far -/
theorem zBd_prev {V : Nat → Nat} {s : Nat} (hs : s < 1000) (ok : zOK V (zdg s)) {i : Nat} {x : Nat × Nat × Nat} (hx : (zBFS V s)[i]? = some x) (h0 : 0 < x.2.1) : ∃ (j : Nat) (f : Nat × Nat × Nat), (zBFS V s)[j]? = some f ∧ f.2.1 + 1 = x.2.1 := by
  obtain ⟨k, iv, hk⟩ := zBFS_fin hs ok
  have hG := zGd_BFS hs ok
  have p := zIv_path hG iv hx
  obtain ⟨m, hm⟩ : ∃ m, x.2.1 = m + 1 := ⟨x.2.1 - 1, by omega⟩
  rw [hm] at p
  obtain ⟨u, a, pu, ha, hal, hsu⟩ := p
  obtain ⟨j, f, hj, hf1, hf2⟩ := zBFS_C0 iv hk m u pu
  refine ⟨j, f, hj, ?_⟩
  rcases Nat.eq_or_lt_of_le hf2 with q | q
  · omega
  · exfalso
    have pf := zIv_path hG iv hj
    rw [hf1] at pf
    obtain ⟨j2, g, hj2, hg1, hg2⟩ := zBFS_C0 iv hk (f.2.1 + 1) x.1 ⟨u, a, pf, ha, hal, hsu⟩
    rcases Nat.lt_trichotomy i j2 with z | z | z
    · exact hG.1 i j2 x g z hx hj2 hg1.symm
    · subst z
      rw [hx] at hj2
      cases hj2
      omega
    · exact hG.1 j2 i g x z hj2 hx hg1
theorem zBd_all {V : Nat → Nat} {s : Nat} (hs : s < 1000) (ok : zOK V (zdg s)) {i : Nat} {x : Nat × Nat × Nat} (hx : (zBFS V s)[i]? = some x) : ∀ k, k ≤ x.2.1 → ∃ (j : Nat) (f : Nat × Nat × Nat), (zBFS V s)[j]? = some f ∧ f.2.1 = x.2.1 - k := by
  intro k
  induction k with
  | zero => intro _; exact ⟨i, x, hx, rfl⟩
  | succ k ih =>
    intro hk
    obtain ⟨j, f, hj, hf⟩ := ih (by omega)
    obtain ⟨j2, g, hj2, hg⟩ := zBd_prev hs ok hj (by omega)
    exact ⟨j2, g, hj2, by omega⟩
/-- all about distances: the farthest D -/
theorem zBd {V X : Nat → Nat} (okX : zOK V X) : ∃ D, zFr (zBFS V (zst X)) = nI D ∧ D < 1000 ∧ (zBFS V (zst X)).length ≤ 1000 ∧ (∀ d, d ≤ D → 1 ≤ zcnE (zBFS V (zst X)) d) ∧ zcnE (zBFS V (zst X)) 0 = 1 ∧ zcnE (zBFS V (zst X)) (D + 1) = 0 ∧ zcnL (zBFS V (zst X)) (D + 1) = (zBFS V (zst X)).length ∧ ∀ d, d < 2 ^ 31 → zCn (zBFS V (zst X)) (nI d) ((zBFS V (zst X)).length + 1) 0 0 = nI (zcnE (zBFS V (zst X)) d) := by
  have hs := zst_lt okX
  have ok : zOK V (zdg (zst X)) := okX.congr (fun j hj => (zdg_st okX hj).symm)
  obtain ⟨k, iv, hk⟩ := zBFS_fin hs ok
  have hG := zGd_BFS hs ok
  have h0 := zBFS_len V (zst X)
  have hl := zGd_len hG
  have A := fun {i : Nat} {x : Nat × Nat × Nat} (hx : (zBFS V (zst X))[i]? = some x) => zBd_all hs ok hx
  obtain ⟨e, he, hF⟩ := zFr_ex h0
  have bd : ∀ (i : Nat) (f : Nat × Nat × Nat), (zBFS V (zst X))[i]? = some f → f.2.1 < 1000 := fun i f hf => by
    have := (hG.2 i f hf).2.2.1
    have := (List.getElem?_eq_some_iff.mp hf).1
    omega
  have top : ∀ f ∈ zBFS V (zst X), f.2.1 ≤ e.2.1 := fun f hf => by
    obtain ⟨i, hi⟩ := List.getElem?_of_mem hf
    have hi2 := (List.getElem?_eq_some_iff.mp hi).1
    rcases Nat.eq_or_lt_of_le (show i ≤ (zBFS V (zst X)).length - 1 by omega) with q | q
    · rw [q, he] at hi
      cases hi
      exact Nat.le_refl _
    · exact (iv.2.1 i _ f e q hi he).1
  refine ⟨e.2.1, hF, bd _ e he, hl, fun d hd => ?_, ?_, zcnE_no (fun f hf z => by have := top f hf; omega), zcnL_all (fun f hf => by have := top f hf; omega), fun d hd => ?_⟩
  · obtain ⟨j, f, hj, hf⟩ := A he (e.2.1 - d) (by omega)
    exact zcnE_pos (List.mem_of_getElem? hj) (by omega)
  · have h1 := iv.1
    have hpos : ∀ (i : Nat) (f : Nat × Nat × Nat), (zBFS V (zst X))[i]? = some f → 0 < i → 0 < f.2.1 := fun i f hf => (hG.2 i f hf).2.2.2.1
    generalize zBFS V (zst X) = L at h1 hpos
    cases L with
    | nil => cases h1
    | cons x L =>
      cases h1
      unfold zcnE
      rw [List.filter_cons, if_pos (decide_eq_true rfl), List.length_cons]
      have : L.filter (fun e => decide (e.2.1 = 0)) = [] := List.filter_eq_nil_iff.mpr (fun f hf => by
        obtain ⟨i, hi⟩ := List.getElem?_of_mem hf
        have := hpos (i + 1) f hi (by omega)
        rw [decide_eq_false (by omega)]; decide)
      rw [this]
      rfl
  · have r := zCn_go hd (fun i f hf => by have := bd i f hf; omega) ((zBFS V (zst X)).length + 1) 0 0 (by omega)
    rw [List.drop_zero, Nat.zero_add] at r
    exact r
