/-! the class's search and the model's make that list -/
def zWc (L : zL) (ds fa od : Nat → Int32) (rd : Int32) : Prop := rd = nI L.length ∧ (∀ (i : Nat) (e : Nat × Nat × Nat), L[i]? = some e → od i = nI e.1 ∧ ds e.1 = nI e.2.1 ∧ (0 < i → fa e.1 = nI e.2.2)) ∧ ∀ s, s < 1000 → zmem L s = false → ds s = -1
def zWm (L : zL) (mf mr : Nat → Int32) (re : Int32) : Prop := re = nI L.length ∧ (∀ (i : Nat) (e : Nat × Nat × Nat), L[i]? = some e → mr i = nI e.1 ∧ mf e.1 = nI e.2.1) ∧ ∀ s, s < 1000 → zmem L s = false → mf s = -1
theorem z_m1 {d : Nat} (hd : d < 2 ^ 31) : ¬ nI d = (-1 : Int32) := by
  intro h
  have h1 := nI_pos' hd
  rw [h] at h1
  exact absurd h1 (by decide)
theorem zadd_in {L : zL} {s d f : Nat} (h : zmem L s = true) : zadd L s d f = L := by unfold zadd; rw [if_pos h]
theorem zadd_out {L : zL} {s d f : Nat} (h : zmem L s = false) : zadd L s d f = L ++ [(s, d, f)] := by unfold zadd; rw [if_neg (by rw [h]; decide)]
theorem zmem_app {L : zL} {s d f x : Nat} (h : zmem (L ++ [(s, d, f)]) x = false) : zmem L x = false ∧ x ≠ s := by
  have h1 := zmem_no.mp h
  exact ⟨zmem_no.mpr fun e he => h1 e (List.mem_append_left _ he), fun q => h1 (s, d, f) (List.mem_append_right _ List.mem_cons_self) q.symm⟩
theorem zc_reach {V : Nat → Nat} {L : zL} {ds fa od : Nat → Int32} {rd : Int32} (hW : zWc L ds fa od rd) (hG : zGd V L) {s d f : Nat} (hs : s < 1000) (hd : d < 2 ^ 31) (h0 : 0 < L.length) (hG2 : zGd V (zadd L s d f)) :
    zWc (zadd L s d f) (f_X2_reach ds fa od rd (nI s) (nI d) (nI f)).1 (f_X2_reach ds fa od rd (nI s) (nI d) (nI f)).2.1 (f_X2_reach ds fa od rd (nI s) (nI d) (nI f)).2.2.1 (f_X2_reach ds fa od rd (nI s) (nI d) (nI f)).2.2.2 ∧ s_X2_reach ds rd (nI s) (nI d) (nI f) := by
  obtain ⟨e1, e2, e3⟩ := hW
  have hlen := zGd_len hG
  have hsafe : s_X2_reach ds rd (nI s) (nI d) (nI f) := by
    unfold s_X2_reach
    refine ⟨fun _ => trivial, fun _ => ⟨fun _ => trivial, fun _ => ⟨fun _ => trivial, fun _ => ⟨fun h => ⟨fun _ => ?_, fun _ => trivial⟩, fun _ => trivial⟩⟩⟩⟩
    rw [e1] at h ⊢
    rw [zl1000] at h
    exact vp_in_nI ((nI_ltI (by omega) (by omega)).mp h) (by omega)
  refine ⟨?_, hsafe⟩
  cases hm : zmem L s with
  | true =>
    obtain ⟨e, he, hes⟩ := zmem_iff.mp hm
    obtain ⟨i, hi⟩ := List.getElem?_of_mem he
    have g := hG.2 i e hi
    have hds : ¬ ds s = (-1 : Int32) := by
      rw [← hes, (e2 i e hi).2.1]
      have := (List.getElem?_eq_some_iff.mp hi).1
      exact z_m1 (by omega)
    have er : f_X2_reach ds fa od rd (nI s) (nI d) (nI f) = (ds, fa, od, rd) := by
      unfold f_X2_reach
      rw [if_neg (z_neg (by omega)), zl1000, z_if_le (by omega) (by omega), if_neg (by omega), nI_clamp (by omega), if_neg hds, e1, if_neg (z_neg (by omega))]
      split <;> rfl
    rw [er, zadd_in hm]
    exact ⟨e1, e2, e3⟩
  | false =>
    rw [zadd_out hm] at hG2 ⊢
    have hl2 := zGd_len hG2
    rw [List.length_append] at hl2
    simp at hl2
    have er : f_X2_reach ds fa od rd (nI s) (nI d) (nI f) = (upd ds s (nI d), upd fa s (nI f), upd od L.length (nI s), nI (L.length + 1)) := by
      unfold f_X2_reach
      rw [if_neg (z_neg (by omega)), zl1000, z_if_le (by omega) (by omega), if_neg (by omega), nI_clamp (by omega), if_pos (e3 s hs hm), e1, if_neg (z_neg (by omega)), z_if_lt (by omega) (by omega), if_pos (by omega), nI_clamp (by omega), nI_1]
    rw [er]
    have hno := zmem_no.mp hm
    refine ⟨by rw [List.length_append]; rfl, fun i e hi => ?_, fun x hx hx2 => ?_⟩
    · rcases Nat.lt_or_ge i L.length with q1 | q1
      · rw [List.getElem?_append_left q1] at hi
        have g := e2 i e hi
        have hne := hno e (List.mem_of_getElem? hi)
        have k1 : upd ds s (nI d) e.1 = ds e.1 := pk_un hne
        have k2 : upd fa s (nI f) e.1 = fa e.1 := pk_un hne
        have k3 : upd od L.length (nI s) i = od i := pk_un (by omega)
        show upd od L.length (nI s) i = nI e.1 ∧ upd ds s (nI d) e.1 = nI e.2.1 ∧ (0 < i → upd fa s (nI f) e.1 = nI e.2.2)
        rw [k1, k2, k3]
        exact g
      · have hi2 : i = L.length := by
          have := (List.getElem?_eq_some_iff.mp hi).1
          rw [List.length_append] at this
          simp at this; omega
        subst hi2
        rw [List.getElem?_append_right (Nat.le_refl _), Nat.sub_self] at hi
        simp at hi
        subst hi
        refine ⟨?_, ?_, fun _ => ?_⟩
        · show upd od L.length (nI s) L.length = _; unfold upd; rw [if_pos rfl]
        · show upd ds s (nI d) s = _; unfold upd; rw [if_pos rfl]
        · show upd fa s (nI f) s = _; unfold upd; rw [if_pos rfl]
    · obtain ⟨q1, q2⟩ := zmem_app hx2
      show upd ds s (nI d) x = _
      unfold upd; rw [if_neg q2]; exact e3 x hx q1
/-- the class: one state spreads -/
theorem zc_spread {V : Nat → Nat} {vs : Nat → Int32} (hv : zE3 vs V) (hp9 : zPv V) {p : Nat} {e : Nat × Nat × Nat} : ∀ (n k : Nat) (L : zL) (as ds fa od : Nat → Int32) (rd : Int32), k + n = 16 → zWc L ds fa od rd → zGd V L → L[p]? = some e →
    zWc (zspF V e n k L) (lf_X2_spread_8 n k vs as ds fa od rd (nI e.1) (nI e.2.1)).2.1 (lf_X2_spread_8 n k vs as ds fa od rd (nI e.1) (nI e.2.1)).2.2.1 (lf_X2_spread_8 n k vs as ds fa od rd (nI e.1) (nI e.2.1)).2.2.2.1 (lf_X2_spread_8 n k vs as ds fa od rd (nI e.1) (nI e.2.1)).2.2.2.2 ∧ sf_X2_spread_8 n k vs as ds fa od rd (nI e.1) (nI e.2.1) := by
  intro n
  induction n with
  | zero => intro k L as ds fa od rd _ hW _ _; exact ⟨hW, trivial⟩
  | succ n ih =>
    intro k L as ds fa od rd hk hW hG he
    have g := hG.2 p e he
    have hp := (List.getElem?_eq_some_iff.mp he).1
    have hlen := zGd_len hG
    have ok := g.2.1
    have h9 : V 2 ≤ 9 := (ok 2 (by omega)).2
    rw [lf_X2_spread_8_succ, sf_X2_spread_8_succ]
    unfold zspF
    rw [zl15, z_if_le (by omega) (by omega)]
    by_cases h15 : 15 ≤ k
    · rw [if_pos h15, if_pos h15]
      exact ⟨hW, fun _ => trivial, fun h => absurd ((nI_leI (by omega) (by omega)).mpr h15) h⟩
    · rw [if_neg h15, if_neg h15]
      have hal := zr_allows hv h9 hp9 (a := k) (by omega)
      cases hB : zalB (zn V) k with
      | false =>
        have h1 : f_X1_allows vs (nI k) = 0 := hal.mpr (fun q => by have := zalB_iff.mpr q; rw [hB] at this; cases this)
        have e1 : zsp1 V e k L = L := by unfold zsp1; rw [hB]; rfl
        rw [if_pos h1, e1]
        have r := ih (k + 1) L as ds fa od rd (by omega) hW hG he
        exact ⟨r.1, fun h => absurd h (fun q => h15 ((nI_leI (by omega) (by omega)).mp q)), fun _ => ⟨fun _ => r.2, fun h => absurd h1 h⟩⟩
      | true =>
        have hz := zalB_iff.mp hB
        have h1 : ¬ f_X1_allows vs (nI k) = 0 := fun q => hal.mp q hz
        have hz3 := zal_3 (by have := zn_23 V; omega) hz
        have hx := zr_hold (ar := as) g.1
        have hc := (zr_change hv hx ok (a := k) (by omega) hz3).2
        have hst : f_X1_state (f_X1_change vs (f_X1_hold as (nI e.1)) (nI k)).2 = nI (zsuc V e.1 k) := zr_state hc
        have o := zsuc_ok ok (a := k) (by omega)
        have e1 : zsp1 V e k L = zadd L (zsuc V e.1 k) (e.2.1 + 1) (if e.2.1 = 0 then k else e.2.2) := by unfold zsp1; rw [if_pos hB]
        have hG1 := zGd_sp1 hG he (a := k) (by omega)
        have he1 : (zsp1 V e k L)[p]? = some e := zsp1_get he
        rw [if_neg h1]
        rw [hst, nI_1]
        have zf : ∀ (a : Int32), ((nI e.2.1 = (0 : Int32) → a = nI k) ∧ (¬ nI e.2.1 = (0 : Int32) → a = nI e.2.2)) → a = nI (if e.2.1 = 0 then k else e.2.2) := by
          intro a ha
          by_cases q : e.2.1 = 0
          · rw [if_pos q]; exact ha.1 (by rw [q]; rfl)
          · rw [if_neg q]; exact ha.2 (fun h => q ((nI_eq (a := e.2.1) (b := 0) (by omega) (by omega)).mp h))
        have hfo : ¬ nI e.2.1 = (0 : Int32) → f_X2_firstActOf fa (nI e.1) = nI e.2.2 := by
          intro q
          have hp0 : 0 < p := by
            rcases Nat.eq_zero_or_pos p with h | h
            · exfalso; apply q
              have : e.2.1 = 0 := by have := g.2.2.1; omega
              rw [this]; rfl
            · exact h
          unfold f_X2_firstActOf
          rw [if_neg (z_neg (by omega)), zl1000, z_if_le (by omega) (by omega), if_neg (by omega), nI_clamp (by omega)]
          exact ((hW.2.1 p e he).2.2) hp0
        by_cases hd0 : nI e.2.1 = (0 : Int32)
        · rw [if_pos hd0]
          have ef := zf (nI k) ⟨fun _ => rfl, fun h => absurd hd0 h⟩
          have r := zc_reach hW hG o.1 (show e.2.1 + 1 < 2 ^ 31 by omega) (show 0 < L.length by omega) (d := e.2.1 + 1) (f := if e.2.1 = 0 then k else e.2.2) (by rw [← e1]; exact hG1)
          rw [← ef, ← e1] at r
          have r2 := ih (k + 1) (zsp1 V e k L) (f_X1_change vs (f_X1_hold as (nI e.1)) (nI k)).2 _ _ _ _ (by omega) r.1 hG1 he1
          exact ⟨r2.1, fun h => absurd h (fun q => h15 ((nI_leI (by omega) (by omega)).mp q)), fun _ => ⟨fun h => absurd h h1, fun _ => ⟨fun _ => ⟨r.2, r2.2⟩, fun h => absurd hd0 h⟩⟩⟩
        · rw [if_neg hd0]
          have ef := zf (f_X2_firstActOf fa (nI e.1)) ⟨fun h => absurd h hd0, fun h => hfo h⟩
          have r := zc_reach hW hG o.1 (show e.2.1 + 1 < 2 ^ 31 by omega) (show 0 < L.length by omega) (d := e.2.1 + 1) (f := if e.2.1 = 0 then k else e.2.2) (by rw [← e1]; exact hG1)
          rw [← ef, ← e1] at r
          have r2 := ih (k + 1) (zsp1 V e k L) (f_X1_change vs (f_X1_hold as (nI e.1)) (nI k)).2 _ _ _ _ (by omega) r.1 hG1 he1
          exact ⟨r2.1, fun h => absurd h (fun q => h15 ((nI_leI (by omega) (by omega)).mp q)), fun _ => ⟨fun h => absurd h h1, fun _ => ⟨fun h => absurd h hd0, fun _ => ⟨r.2, r2.2⟩⟩⟩⟩
