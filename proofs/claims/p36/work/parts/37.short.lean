/-! the list tells shortest ways, and the smallest first acts of them -/
def zPath (V : Nat → Nat) : Nat → Nat → Nat → Prop
  | 0, s, t => s = t
  | n + 1, s, t => ∃ u a, zPath V n s u ∧ a < 15 ∧ zalB (zn V) a = true ∧ zsuc V u a = t
theorem zPath_cons {V : Nat → Nat} {s a : Nat} (ha : a < 15) (hal : zalB (zn V) a = true) : ∀ (n t : Nat), zPath V n (zsuc V s a) t → zPath V (n + 1) s t := by
  intro n
  induction n with
  | zero => intro t h; exact ⟨s, a, rfl, ha, hal, h⟩
  | succ n ih =>
    intro t h
    obtain ⟨u, b, h1, h2, h3, h4⟩ := h
    exact ⟨u, b, ih u h1, h2, h3, h4⟩
/-- as the search stands when k states have spread -/
def zIv (V : Nat → Nat) (s k : Nat) (L : zL) : Prop :=
  L[0]? = some (s, 0, 0) ∧
  (∀ (i j : Nat) (e f : Nat × Nat × Nat), i < j → L[i]? = some e → L[j]? = some f → e.2.1 ≤ f.2.1 ∧ (0 < i → e.2.1 = f.2.1 → e.2.2 ≤ f.2.2)) ∧
  (∀ (i : Nat) (e : Nat × Nat × Nat), L[i]? = some e → 0 < i → zalB (zn V) e.2.2 = true ∧ zPath V (e.2.1 - 1) (zsuc V s e.2.2) e.1) ∧
  (∀ (i : Nat) (e : Nat × Nat × Nat), i < k → L[i]? = some e → ∀ a, a < 15 → zalB (zn V) a = true → ∃ (j : Nat) (f : Nat × Nat × Nat), L[j]? = some f ∧ f.1 = zsuc V e.1 a ∧ f.2.1 ≤ e.2.1 + 1 ∧ (f.2.1 = e.2.1 + 1 → f.2.2 ≤ if e.2.1 = 0 then a else e.2.2))
/-- .. and when the state e at the place k spreads, by acts below a so far -/
def zIn (V : Nat → Nat) (s k : Nat) (e : Nat × Nat × Nat) (a : Nat) (L : zL) : Prop :=
  zIv V s k L ∧ L[k]? = some e ∧
  (∀ b, b < a → b < 15 → zalB (zn V) b = true → ∃ (j : Nat) (f : Nat × Nat × Nat), L[j]? = some f ∧ f.1 = zsuc V e.1 b ∧ f.2.1 ≤ e.2.1 + 1 ∧ (f.2.1 = e.2.1 + 1 → f.2.2 ≤ if e.2.1 = 0 then b else e.2.2)) ∧
  (∀ (j : Nat) (f : Nat × Nat × Nat), L[j]? = some f → f.2.1 ≤ e.2.1 + 1 ∧ (f.2.1 = e.2.1 + 1 → if e.2.1 = 0 then f.2.2 < a else f.2.2 ≤ e.2.2))
theorem zL_last {L : zL} {x : Nat × Nat × Nat} {i : Nat} {e : Nat × Nat × Nat} (h : (L ++ [x])[i]? = some e) : L[i]? = some e ∨ (i = L.length ∧ e = x) := by
  rcases Nat.lt_or_ge i L.length with q | q
  · rw [List.getElem?_append_left q] at h; exact Or.inl h
  · have hi : i = L.length := by
      have := (List.getElem?_eq_some_iff.mp h).1
      rw [List.length_append] at this
      simp at this; omega
    subst hi
    rw [List.getElem?_append_right (Nat.le_refl _), Nat.sub_self] at h
    simp at h
    exact Or.inr ⟨rfl, h.symm⟩
theorem zIn_step {V : Nat → Nat} {s k : Nat} {e : Nat × Nat × Nat} {a : Nat} {L : zL} (ha : a < 15) (hG : zGd V L) (h : zIn V s k e a L) : zIn V s k e (a + 1) (zsp1 V e a L) := by
  obtain ⟨⟨i0, i2, i3, i4⟩, hk, ip, i5⟩ := h
  cases hB : zalB (zn V) a with
  | false =>
    have e1 : zsp1 V e a L = L := by unfold zsp1; rw [hB]; rfl
    rw [e1]
    refine ⟨⟨i0, i2, i3, i4⟩, hk, fun b hb hb15 hbal => ?_, fun j f hj => ⟨(i5 j f hj).1, fun q => ?_⟩⟩
    · rcases Nat.lt_or_ge b a with q | q
      · exact ip b q hb15 hbal
      · have : b = a := by omega
        subst this; rw [hB] at hbal; cases hbal
    · have := (i5 j f hj).2 q
      split at this
      · next z => rw [if_pos z]; omega
      · next z => rw [if_neg z]; exact this
  | true =>
    have e1 : zsp1 V e a L = zadd L (zsuc V e.1 a) (e.2.1 + 1) (if e.2.1 = 0 then a else e.2.2) := by unfold zsp1; rw [if_pos hB]
    cases hm : zmem L (zsuc V e.1 a) with
    | true =>
      rw [e1, zadd_in hm]
      refine ⟨⟨i0, i2, i3, i4⟩, hk, fun b hb hb15 hbal => ?_, fun j f hj => ⟨(i5 j f hj).1, fun q => ?_⟩⟩
      · rcases Nat.lt_or_ge b a with q | q
        · exact ip b q hb15 hbal
        · have : b = a := by omega
          subst this
          obtain ⟨f, hf, hfs⟩ := zmem_iff.mp hm
          obtain ⟨j, hj⟩ := List.getElem?_of_mem hf
          refine ⟨j, f, hj, hfs, (i5 j f hj).1, fun q => ?_⟩
          have := (i5 j f hj).2 q
          split at this
          · next z => rw [if_pos z]; omega
          · next z => rw [if_neg z]; exact this
      · have := (i5 j f hj).2 q
        split at this
        · next z => rw [if_pos z]; omega
        · next z => rw [if_neg z]; exact this
    | false =>
      rw [e1, zadd_out hm]
      have up : ∀ {j : Nat} {f : Nat × Nat × Nat}, L[j]? = some f → (L ++ [(zsuc V e.1 a, e.2.1 + 1, if e.2.1 = 0 then a else e.2.2)])[j]? = some f := fun hj => by
        rw [List.getElem?_append_left (List.getElem?_eq_some_iff.mp hj).1]; exact hj
      have hnew : (L ++ [(zsuc V e.1 a, e.2.1 + 1, if e.2.1 = 0 then a else e.2.2)])[L.length]? = some (zsuc V e.1 a, e.2.1 + 1, if e.2.1 = 0 then a else e.2.2) := by
        rw [List.getElem?_append_right (Nat.le_refl _), Nat.sub_self]; rfl
      refine ⟨⟨up i0, fun i j x y hij hi hj => ?_, fun i x hi hi0 => ?_, fun i x hi hx b hb hbal => ?_⟩, up hk, fun b hb hb15 hbal => ?_, fun j f hj => ?_⟩
      · rcases zL_last hi with hi | ⟨hi1, -⟩
        · rcases zL_last hj with hj | ⟨-, rfl⟩
          · exact i2 i j x y hij hi hj
          · have q := i5 i x hi
            refine ⟨q.1, fun _ hd => ?_⟩
            have := q.2 hd
            show x.2.2 ≤ if e.2.1 = 0 then a else e.2.2
            split at this
            · next z => rw [if_pos z]; omega
            · next z => rw [if_neg z]; exact this
        · exfalso
          have := (List.getElem?_eq_some_iff.mp hj).1
          rw [List.length_append] at this
          simp at this; omega
      · rcases zL_last hi with hi | ⟨-, rfl⟩
        · exact i3 i x hi hi0
        · show zalB (zn V) (if e.2.1 = 0 then a else e.2.2) = true ∧ zPath V e.2.1 (zsuc V s (if e.2.1 = 0 then a else e.2.2)) (zsuc V e.1 a)
          by_cases z : e.2.1 = 0
          · rw [if_pos z]
            have hk0 : k = 0 := by
              rcases Nat.eq_zero_or_pos k with q | q
              · exact q
              · have := (hG.2 k e hk).2.2.2.1 q; omega
            subst hk0
            rw [i0] at hk
            have he : (s, 0, 0) = e := Option.some.inj hk
            refine ⟨hB, ?_⟩
            rw [z, ← he]
            exact rfl
          · rw [if_neg z]
            have hk0 : 0 < k := by
              rcases Nat.eq_zero_or_pos k with q | q
              · subst q
                rw [i0] at hk
                have he : (s, 0, 0) = e := Option.some.inj hk
                rw [← he] at z
                exact absurd rfl z
              · exact q
            obtain ⟨q1, q2⟩ := i3 k e hk hk0
            refine ⟨q1, ?_⟩
            have e9 : e.2.1 = (e.2.1 - 1) + 1 := by omega
            rw [e9]
            exact ⟨e.1, a, q2, ha, hB, rfl⟩
      · rcases zL_last hx with hx | ⟨hx1, -⟩
        · obtain ⟨j, f, h1, h2⟩ := i4 i x hi hx b hb hbal
          exact ⟨j, f, up h1, h2⟩
        · exfalso
          have := (List.getElem?_eq_some_iff.mp hk).1
          omega
      · rcases Nat.lt_or_ge b a with q | q
        · obtain ⟨j, f, h1, h2⟩ := ip b q hb15 hbal
          exact ⟨j, f, up h1, h2⟩
        · have : b = a := by omega
          subst this
          exact ⟨L.length, _, hnew, rfl, Nat.le_refl _, fun _ => Nat.le_refl _⟩
      · rcases zL_last hj with hj | ⟨-, rfl⟩
        · refine ⟨(i5 j f hj).1, fun q => ?_⟩
          have := (i5 j f hj).2 q
          split at this
          · next z => rw [if_pos z]; omega
          · next z => rw [if_neg z]; exact this
        · refine ⟨Nat.le_refl _, fun _ => ?_⟩
          by_cases z : e.2.1 = 0
          · rw [if_pos z]
            show (if e.2.1 = 0 then a else e.2.2) < a + 1
            rw [if_pos z]; omega
          · rw [if_neg z]
            show (if e.2.1 = 0 then a else e.2.2) ≤ e.2.2
            rw [if_neg z]; exact Nat.le_refl _
theorem zIn_all {V : Nat → Nat} {s k : Nat} {e : Nat × Nat × Nat} : ∀ (n a : Nat) (L : zL), a + n = 16 → a ≤ 15 → zGd V L → zIn V s k e a L → zIn V s k e 15 (zspF V e n a L) ∨ n = 0 := by
  intro n
  induction n with
  | zero => intro a L _ _ _ _; exact Or.inr rfl
  | succ n ih =>
    intro a L h1 h2 hG h
    unfold zspF
    by_cases h15 : 15 ≤ a
    · rw [if_pos h15]
      have : a = 15 := by omega
      subst this
      exact Or.inl h
    · rw [if_neg h15]
      have hs := zIn_step (by omega) hG h
      rcases ih (a + 1) _ (by omega) (by omega) (zGd_sp1 hG h.2.1 (by omega)) hs with q | q
      · exact Or.inl q
      · exfalso; omega
/-- between two states -/
def zIq (V : Nat → Nat) (s k : Nat) (L : zL) : Prop := zIv V s k L ∧ ∀ (e : Nat × Nat × Nat), L[k]? = some e → ∀ (j : Nat) (f : Nat × Nat × Nat), L[j]? = some f → f.2.1 ≤ e.2.1 + 1 ∧ (f.2.1 = e.2.1 + 1 → if e.2.1 = 0 then False else f.2.2 ≤ e.2.2)
theorem zIq_step {V : Nat → Nat} {s k : Nat} {e : Nat × Nat × Nat} {L : zL} (hG : zGd V L) (h : zIq V s k L) (he : L[k]? = some e) : zIq V s (k + 1) (zspF V e 16 0 L) := by
  have h0 : zIn V s k e 0 L := by
    refine ⟨h.1, he, fun b hb => absurd hb (by omega), fun j f hj => ⟨(h.2 e he j f hj).1, fun q => ?_⟩⟩
    have := (h.2 e he j f hj).2 q
    split at this
    · exact this.elim
    · next z => rw [if_neg z]; exact this
  rcases zIn_all 16 0 L (by omega) (by omega) hG h0 with ⟨⟨i0, i2, i3, i4⟩, hk, ip, i5⟩ | q
  · refine ⟨⟨i0, i2, i3, fun i x hi hx a ha hal => ?_⟩, fun e2 he2 j f hj => ?_⟩
    · rcases Nat.lt_or_ge i k with q | q
      · exact i4 i x q hx a ha hal
      · have : i = k := by omega
        subst this
        have : x = e := Option.some.inj (hx.symm.trans hk)
        subst this
        exact ip a ha ha hal
    · have s1 := i2 k (k + 1) e e2 (by omega) hk he2
      have q := i5 j f hj
      refine ⟨by omega, fun hd => ?_⟩
      have hd2 : f.2.1 = e.2.1 + 1 := by omega
      have hd3 : e.2.1 = e2.2.1 := by omega
      have q2 := q.2 hd2
      have hG2 := zGd_spF (e := e) 16 0 L hG he
      have hp2 : 0 < e2.2.1 := (hG2.2 (k + 1) e2 he2).2.2.2.1 (by omega)
      rw [if_neg (by omega)]
      rw [if_neg (by omega)] at q2
      have hk0 : 0 < k := by
        rcases Nat.eq_zero_or_pos k with z | z
        · subst z
          rw [i0] at hk
          have he9 : (s, 0, 0) = e := Option.some.inj hk
          rw [← he9] at hd3
          have : (0 : Nat) = e2.2.1 := hd3
          omega
        · exact z
      have := s1.2 hk0 hd3
      omega
  · omega
theorem zIq_bf {V : Nat → Nat} {s : Nat} : ∀ (n k : Nat) (L : zL), k + n = 1001 → zGd V L → zIq V s k L → ∃ k', zIv V s k' (zbf V n k L) ∧ (zbf V n k L).length ≤ k' := by
  intro n
  induction n with
  | zero =>
    intro k L hk hG h
    have := zGd_len hG
    exact ⟨k, h.1, by show L.length ≤ k; omega⟩
  | succ n ih =>
    intro k L hk hG h
    unfold zbf
    cases he : L[k]? with
    | none => exact ⟨k, h.1, List.getElem?_eq_none_iff.mp he⟩
    | some e => exact ih (k + 1) _ (by omega) (zGd_spF 16 0 L hG he) (zIq_step hG h he)
theorem zIq_0 {V : Nat → Nat} {s : Nat} : zIq V s 0 [(s, 0, 0)] := by
  have one : ∀ {i : Nat} {e : Nat × Nat × Nat}, [((s, 0, 0) : Nat × Nat × Nat)][i]? = some e → i = 0 ∧ e = (s, 0, 0) := by
    intro i e hi
    have h1 := (List.getElem?_eq_some_iff.mp hi).1
    simp at h1
    subst h1
    simp at hi
    exact ⟨rfl, hi.symm⟩
  refine ⟨⟨rfl, fun i j e f hij hi hj => ?_, fun i e hi h0 => ?_, fun i e hi => absurd hi (by omega)⟩, fun e he j f hj => ?_⟩
  · have := (one hj).1; omega
  · have := (one hi).1; omega
  · rw [(one he).2, (one hj).2]
    exact ⟨by show (0 : Nat) ≤ 0 + 1; omega, fun q => by have : (0 : Nat) = 0 + 1 := q; omega⟩
/-- the whole list -/
theorem zBFS_fin {V : Nat → Nat} {s : Nat} (hs : s < 1000) (ok : zOK V (zdg s)) : ∃ k, zIv V s k (zBFS V s) ∧ (zBFS V s).length ≤ k := zIq_bf 1001 0 _ (by omega) (zGd_0 hs ok) zIq_0
theorem zBFS_C {V : Nat → Nat} {s k : Nat} {L : zL} (h : zIv V s k L) (hk : L.length ≤ k) {f : Nat} (hf : f < 15) (hal : zalB (zn V) f = true) : ∀ (n t : Nat), zPath V n (zsuc V s f) t → ∃ (j : Nat) (e : Nat × Nat × Nat), L[j]? = some e ∧ e.1 = t ∧ e.2.1 ≤ n + 1 ∧ (e.2.1 = n + 1 → e.2.2 ≤ f) := by
  obtain ⟨i0, i2, i3, i4⟩ := h
  intro n
  induction n with
  | zero =>
    intro t ht
    have h0 := (List.getElem?_eq_some_iff.mp i0).1
    obtain ⟨j, e, h1, h2, h3, h4⟩ := i4 0 _ (by omega) i0 f hf hal
    have ht2 : zsuc V s f = t := ht
    exact ⟨j, e, h1, by rw [h2]; exact ht2, h3, fun q => h4 q⟩
  | succ n ih =>
    intro t ht
    obtain ⟨u, a, h1, h2, h3, h4⟩ := ht
    obtain ⟨j, e, g1, g2, g3, g4⟩ := ih u h1
    have hj := (List.getElem?_eq_some_iff.mp g1).1
    obtain ⟨j2, e2, k1, k2, k3, k4⟩ := i4 j e (by omega) g1 a h2 h3
    refine ⟨j2, e2, k1, by rw [k2, g2]; exact h4, by omega, fun q => ?_⟩
    have hd : e.2.1 = n + 1 := by omega
    have := k4 (by omega)
    rw [if_neg (by omega)] at this
    have := g4 hd
    omega
theorem zBFS_C0 {V : Nat → Nat} {s k : Nat} {L : zL} (h : zIv V s k L) (hk : L.length ≤ k) : ∀ (n t : Nat), zPath V n s t → ∃ (j : Nat) (e : Nat × Nat × Nat), L[j]? = some e ∧ e.1 = t ∧ e.2.1 ≤ n := by
  obtain ⟨i0, i2, i3, i4⟩ := h
  intro n
  induction n with
  | zero => intro t ht; exact ⟨0, _, i0, ht, Nat.le_refl _⟩
  | succ n ih =>
    intro t ht
    obtain ⟨u, a, h1, h2, h3, h4⟩ := ht
    obtain ⟨j, e, g1, g2, g3⟩ := ih u h1
    have hj := (List.getElem?_eq_some_iff.mp g1).1
    obtain ⟨j2, e2, k1, k2, k3, -⟩ := i4 j e (by omega) g1 a h2 h3
    exact ⟨j2, e2, k1, by rw [k2, g2]; exact h4, by omega⟩
