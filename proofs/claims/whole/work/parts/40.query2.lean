theorem zm_in {V : Nat → Nat} {mf mr : Nat → Int32} {re : Int32} {L : zL} (hW : zWm L mf mr re) (hG : zGd V L) {j v : Nat} (hj : j < 3) (h9 : v < 2 ^ 31) (mo mb : Nat → Int32) : ∀ (n k : Nat), k + n = L.length + 1 → ((lf_X4_leastIn_10 n k mf mr re mo mb (nI j) (nI v)).1 = zDi (zFa L (fun t => decide (zdg t j = v)) n k) ∨ n = 0) ∧ sf_X4_leastIn_10 n k mr re (nI j) (nI v) := by
  intro n
  induction n with
  | zero => intro k _; exact ⟨Or.inr rfl, trivial⟩
  | succ n ih =>
    intro k hk
    have hlen := zGd_len hG
    rw [lf_X4_leastIn_10_succ, sf_X4_leastIn_10_succ]
    unfold zFa
    cases he : L[k]? with
    | none =>
      have hk2 : L.length ≤ k := List.getElem?_eq_none_iff.mp he
      have h1 : re ≤ nI k := by rw [hW.1]; exact nI_le hk2 (by omega)
      rw [if_pos h1]
      exact ⟨Or.inl rfl, fun _ => trivial, fun h => absurd h1 h⟩
    | some e =>
      have hk2 := (List.getElem?_eq_some_iff.mp he).1
      have g := hG.2 k e he
      have h1 : ¬ re ≤ nI k := by rw [hW.1]; exact nI_ge hk2 (by omega)
      have hr := hW.2.1 k e he
      have emr : mr (nI k).toNatClampNeg = nI e.1 := by rw [nI_clamp (by omega)]; exact hr.1
      have emf : mf (nI e.1).toNatClampNeg = nI e.2.1 := by rw [nI_clamp (by omega)]; exact hr.2
      have i1 := ih (k + 1) (by omega)
      have v1 : vp_in (nI k) 1000 := vp_in_nI (by omega) (by omega)
      have v2 : vp_in (nI e.1) 1000 := vp_in_nI g.1 (by omega)
      rw [if_neg h1, emr, zq_holds g.1 hj h9, emf]
      refine ⟨Or.inl ?_, fun h => absurd h h1, fun _ => ⟨v1, fun _ => i1.2, fun _ => ⟨v1, v2⟩⟩⟩
      dsimp only
      cases hB : decide (zdg e.1 j = v) with
      | false =>
        rw [if_pos (zb01_0.mpr rfl), if_neg (by decide)]
        rcases i1.1 with q | q
        · exact q
        · exfalso; omega
      | true =>
        rw [if_neg (zb01_n.mpr rfl), if_pos rfl]
        rfl
theorem zm_leastIn {V X : Nat → Nat} {mv ma : Nat → Int32} (hv : zE3 mv V) (hx : zE3 ma X) (okX : zOK V X) (mf mr : Nat → Int32) (re : Int32) (mo mb : Nat → Int32) {j v : Nat} (hj : j < 3) (h9 : v < 2 ^ 31) : (f_X4_leastIn (nI (zn V)) mv ma mf mr re mo mb (nI j) (nI v)).1 = zDi (zFst (zBFS V (zst X)) (fun t => decide (zdg t j = v))) ∧ s_X4_leastIn (nI (zn V)) mv ma mf mr re mo mb (nI j) (nI v) := by
  have hs := zst_lt okX
  have ok : zOK V (zdg (zst X)) := okX.congr (fun j hj => (zdg_st okX hj).symm)
  have a := zm_all hv mf mr re mo mb hs ok
  have hG := zGd_BFS hs ok
  have hlen := zGd_len hG
  have hre := a.1.1
  have e9 : (f_X4_spread (nI (zn V)) mv mf mr re mo mb (nI (zst X))).2.2.1.toNatClampNeg = (zBFS V (zst X)).length := by rw [hre, nI_clamp (by omega)]
  have k9 := zm_in a.1 hG hj h9 (f_X4_spread (nI (zn V)) mv mf mr re mo mb (nI (zst X))).2.2.2.1 (f_X4_spread (nI (zn V)) mv mf mr re mo mb (nI (zst X))).2.2.2.2 ((zBFS V (zst X)).length + 1) 0 (by omega)
  unfold f_X4_leastIn s_X4_leastIn zFst
  rw [zq_stateM hx, e9]
  refine ⟨?_, a.2, k9.2⟩
  rcases k9.1 with q | q
  · exact q
  · omega
theorem zm_count {V : Nat → Nat} {mf mr : Nat → Int32} {re : Int32} {L : zL} (hW : zWm L mf mr re) (hG : zGd V L) (x : Int32) : ∀ (n k : Nat) (c : Int32), k + n = L.length + 1 → lf_X4_away_12 n k mf mr re x c = zCn L x n k c ∧ sf_X4_away_12 n k mf mr re x := by
  intro n
  induction n with
  | zero => intro k c _; exact ⟨rfl, trivial⟩
  | succ n ih =>
    intro k c hk
    have hlen := zGd_len hG
    rw [lf_X4_away_12_succ, sf_X4_away_12_succ]
    unfold zCn
    cases he : L[k]? with
    | none =>
      have hk2 : L.length ≤ k := List.getElem?_eq_none_iff.mp he
      have h1 : re ≤ nI k := by rw [hW.1]; exact nI_le hk2 (by omega)
      rw [if_pos h1]
      exact ⟨rfl, fun _ => trivial, fun h => absurd h1 h⟩
    | some e =>
      have hk2 := (List.getElem?_eq_some_iff.mp he).1
      have g := hG.2 k e he
      have h1 : ¬ re ≤ nI k := by rw [hW.1]; exact nI_ge hk2 (by omega)
      have hr := hW.2.1 k e he
      have emr : mr (nI k).toNatClampNeg = nI e.1 := by rw [nI_clamp (by omega)]; exact hr.1
      have emf : mf (nI e.1).toNatClampNeg = nI e.2.1 := by rw [nI_clamp (by omega)]; exact hr.2
      have v1 : vp_in (nI k) 1000 := vp_in_nI (by omega) (by omega)
      have v2 : vp_in (nI e.1) 1000 := vp_in_nI g.1 (by omega)
      rw [if_neg h1, emr, emf, (ih (k + 1) _ (by omega)).1, (ih (k + 1) _ (by omega)).1, Int32.add_zero]
      have i2 := (ih (k + 1) c (by omega)).2
      exact ⟨rfl, fun h => absurd h h1, fun _ => ⟨v1, v2, fun _ => i2, fun _ => i2⟩⟩
theorem zm_away {V X : Nat → Nat} {mv ma : Nat → Int32} (hv : zE3 mv V) (hx : zE3 ma X) (okX : zOK V X) (mf mr : Nat → Int32) (re : Int32) (mo mb : Nat → Int32) (x : Int32) : (f_X4_away (nI (zn V)) mv ma mf mr re mo mb x).1 = zCn (zBFS V (zst X)) x ((zBFS V (zst X)).length + 1) 0 0 ∧ s_X4_away (nI (zn V)) mv ma mf mr re mo mb x := by
  have hs := zst_lt okX
  have ok : zOK V (zdg (zst X)) := okX.congr (fun j hj => (zdg_st okX hj).symm)
  have a := zm_all hv mf mr re mo mb hs ok
  have hG := zGd_BFS hs ok
  have hlen := zGd_len hG
  have hre := a.1.1
  have e9 : (f_X4_spread (nI (zn V)) mv mf mr re mo mb (nI (zst X))).2.2.1.toNatClampNeg = (zBFS V (zst X)).length := by rw [hre, nI_clamp (by omega)]
  have k9 := zm_count a.1 hG x ((zBFS V (zst X)).length + 1) 0 0 (by omega)
  rw [f_X4_away_eq]
  dsimp only
  unfold f_X4_away_t1 s_X4_away
  rw [zq_stateM hx, e9]
  exact ⟨k9.1, a.2, k9.2⟩
theorem zm_far {V X : Nat → Nat} {mv ma : Nat → Int32} (hv : zE3 mv V) (hx : zE3 ma X) (okX : zOK V X) (mf mr : Nat → Int32) (re : Int32) (mo mb : Nat → Int32) {e : Nat × Nat × Nat} (he : (zBFS V (zst X))[(zBFS V (zst X)).length - 1]? = some e) : (f_X4_farthestOne (nI (zn V)) mv ma mf mr re mo mb).1 = nI e.2.1 ∧ s_X4_farthestOne (nI (zn V)) mv ma mf mr re mo mb := by
  have hs := zst_lt okX
  have ok : zOK V (zdg (zst X)) := okX.congr (fun j hj => (zdg_st okX hj).symm)
  have a := zm_all hv mf mr re mo mb hs ok
  have hG := zGd_BFS hs ok
  have hlen := zGd_len hG
  have h0 := zBFS_len V (zst X)
  have hr := a.1.2.1 _ e he
  have g := hG.2 _ e he
  have e1 : (f_X4_spread (nI (zn V)) mv mf mr re mo mb (nI (zst X))).2.2.1 - (1 : Int32) = nI ((zBFS V (zst X)).length - 1) := by rw [a.1.1, zl1, pk_sub (by omega)]
  rw [f_X4_farthestOne_eq]
  dsimp only
  unfold s_X4_farthestOne
  rw [zq_stateM hx, e1, nI_clamp (by omega), hr.1, nI_clamp (by omega), hr.2]
  exact ⟨rfl, a.2, vp_in_nI (by omega) (by omega), vp_in_nI g.1 (by omega)⟩
theorem zm_reach9 {V X : Nat → Nat} {mv ma : Nat → Int32} (hv : zE3 mv V) (hx : zE3 ma X) (okX : zOK V X) (mf mr : Nat → Int32) (re : Int32) (mo mb : Nat → Int32) : (f_X4_toReach (nI (zn V)) mv ma mf mr re mo mb).1 = nI (zBFS V (zst X)).length ∧ s_X4_toReach (nI (zn V)) mv ma mf mr mo mb := by
  have hs := zst_lt okX
  have ok : zOK V (zdg (zst X)) := okX.congr (fun j hj => (zdg_st okX hj).symm)
  have a := zm_all hv mf mr re mo mb hs ok
  rw [f_X4_toReach_eq]
  dsimp only
  unfold s_X4_toReach
  rw [zq_stateM hx]
  exact ⟨a.1.1, a.2⟩
/-- the model's first act: the one that the list tells -/
theorem zm_firstLoop {V X : Nat → Nat} {mv ma : Nat → Int32} (hv : zE3 mv V) (hx : zE3 ma X) (okX : zOK V X) {v : Nat} (h9 : v < 2 ^ 31) {e : Nat × Nat × Nat} (he : zFst (zBFS V (zst X)) (fun t => zhas (zn V) (zdg t) v) = some e) (h0 : 0 < e.2.1) : ∀ (n k : Nat) (mf mr : Nat → Int32) (re : Int32) (mo mb : Nat → Int32), k + n = 16 → k ≤ e.2.2 → (lf_X4_firstAct_2 n k (nI (zn V)) mv ma mf mr re mo mb (nI v) (nI e.2.1)).1 = nI e.2.2 ∧ sf_X4_firstAct_2 n k (nI (zn V)) mv ma mf mr re mo mb (nI v) (nI e.2.1) := by
  have hs := zst_lt okX
  have ok : zOK V (zdg (zst X)) := okX.congr (fun j hj => (zdg_st okX hj).symm)
  obtain ⟨f1, f2, f3, f4⟩ := z_first hs ok he h0
  have hG := zGd_BFS hs ok
  have hlen := zGd_len hG
  obtain ⟨i9, hi9, -, -⟩ := zFst_some he
  have g9 := hG.2 i9 e hi9
  have hi99 := (List.getElem?_eq_some_iff.mp hi9).1
  have hn := zn_23 V
  intro n
  induction n with
  | zero => intro k mf mr re mo mb h1 h2; exfalso; omega
  | succ n ih =>
    intro k mf mr re mo mb h1 h2
    rw [lf_X4_firstAct_2_succ, sf_X4_firstAct_2_succ]
    have hk : ¬ (15 : Int32) ≤ nI k := by rw [zl15]; exact nI_ge (by omega) (by omega)
    rw [if_neg hk]
    have hal := zq_isAct hn (a := k) (by omega)
    cases hB : zalB (zn V) k with
    | false =>
      have q1 : f_X4_isAct (nI (zn V)) (nI k) = 0 := hal.mpr (fun q => by have := zalB_iff.mpr q; rw [hB] at this; cases this)
      rw [if_pos q1]
      have hne : k ≠ e.2.2 := fun q => by rw [q, f1] at hB; cases hB
      have r := ih (k + 1) mf mr re mo mb (by omega) (by omega)
      exact ⟨r.1, fun h => absurd h hk, fun _ => ⟨fun _ => r.2, fun h => absurd q1 h⟩⟩
    | true =>
      have hz := zalB_iff.mp hB
      have q1 : ¬ f_X4_isAct (nI (zn V)) (nI k) = 0 := fun q => hal.mp q hz
      have hz3 := zal_3 (by omega) hz
      rw [if_neg q1]
      have hl := zq_look (mo := mo) (mb := mb) hv hs
      have hc := (zq_move hl.2 hl.1 ok (a := k) (by omega) hz3).2
      have hst : f_X4_stateLookedAt (f_X4_move (f_X4_lookAtState mv mo mb (nI (zst X))).1 (f_X4_lookAtState mv mo mb (nI (zst X))).2 (nI k)).2 = nI (zsuc V (zst X) k) := zq_state hc
      have o := zsuc_ok ok (a := k) (by omega)
      have lf := zm_least hv mf mr re (f_X4_move (f_X4_lookAtState mv mo mb (nI (zst X))).1 (f_X4_lookAtState mv mo mb (nI (zst X))).2 (nI k)).2 (f_X4_lookAtState mv mo mb (nI (zst X))).2 o.1 o.2 h9
      have e6 : f_X4_firstAct_t6 (nI (zn V)) mv ma mf mr re mo mb (nI v) k = zDi (zFst (zBFS V (zsuc V (zst X) k)) (fun t => zhas (zn V) (zdg t) v)) := by
        unfold f_X4_firstAct_t6
        rw [zq_stateM hx, hst]
        exact lf.1
      have ed : nI e.2.1 - (1 : Int32) = nI (e.2.1 - 1) := by rw [zl1, pk_sub (by omega)]
      rw [zq_stateM hx, hst, e6, ed]
      by_cases hke : k = e.2.2
      · subst hke
        obtain ⟨x, hx1, hx2⟩ := f3
        have hyes : zDi (zFst (zBFS V (zsuc V (zst X) e.2.2)) (fun t => zhas (zn V) (zdg t) v)) = nI (e.2.1 - 1) := by
          rw [hx1]
          have q9 : x.2.1 = e.2.1 - 1 := by omega
          exact congrArg nI q9
        rw [if_pos hyes]
        exact ⟨rfl, fun h => absurd h hk, fun _ => ⟨fun h => absurd h q1, fun _ => ⟨zs_move (by omega), lf.2, fun _ => trivial, fun h => absurd hyes h⟩⟩⟩
      · have hno : ¬ zDi (zFst (zBFS V (zsuc V (zst X) k)) (fun t => zhas (zn V) (zdg t) v)) = nI (e.2.1 - 1) := by
          intro q
          cases hq : zFst (zBFS V (zsuc V (zst X) k)) (fun t => zhas (zn V) (zdg t) v) with
          | none =>
            rw [hq] at q
            exact z_m1 (d := e.2.1 - 1) (by omega) q.symm
          | some x =>
            rw [hq] at q
            have hG2 := zGd_BFS o.1 o.2
            have hlen2 := zGd_len hG2
            obtain ⟨i2, hi2, -, -⟩ := zFst_some hq
            have g2 := hG2.2 i2 x hi2
            have hi22 := (List.getElem?_eq_some_iff.mp hi2).1
            have q2 : x.2.1 = e.2.1 - 1 := (nI_eq (by omega) (by omega)).mp q
            exact f4 k (by omega) hB x hq (by omega)
        rw [if_neg hno]
        have r := ih (k + 1) (f_X4_firstAct_t1 (nI (zn V)) mv ma mf mr re mo mb (nI v) k) (f_X4_firstAct_t2 (nI (zn V)) mv ma mf mr re mo mb (nI v) k) (f_X4_firstAct_t3 (nI (zn V)) mv ma mf mr re mo mb (nI v) k) (f_X4_firstAct_t4 (nI (zn V)) mv ma mf mr re mo mb (nI v) k) (f_X4_firstAct_t5 (nI (zn V)) mv ma mf mr re mo mb (nI v) k) (by omega) (by omega)
        exact ⟨r.1, fun h => absurd h hk, fun _ => ⟨fun h => absurd h q1, fun _ => ⟨zs_move (by omega), lf.2, fun h => absurd h hno, fun _ => r.2⟩⟩⟩
theorem zm_first {V X : Nat → Nat} {mv ma : Nat → Int32} (hv : zE3 mv V) (hx : zE3 ma X) (okX : zOK V X) {v : Nat} (h9 : v < 2 ^ 31) {e : Nat × Nat × Nat} (he : zFst (zBFS V (zst X)) (fun t => zhas (zn V) (zdg t) v) = some e) (h0 : 0 < e.2.1) (mf mr : Nat → Int32) (re : Int32) (mo mb : Nat → Int32) : (f_X4_firstAct (nI (zn V)) mv ma mf mr re mo mb (nI v) (nI e.2.1)).1 = nI e.2.2 ∧ s_X4_firstAct (nI (zn V)) mv ma mf mr re mo mb (nI v) (nI e.2.1) :=
  zm_firstLoop hv hx okX h9 he h0 16 0 mf mr re mo mb (by omega) (Nat.zero_le _)
