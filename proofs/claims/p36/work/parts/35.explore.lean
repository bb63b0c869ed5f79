/-! the whole search, of the class and of the model -/
theorem z_fill {N : Nat} (hN : N < 2 ^ 31) (x : Int32) : ∀ (n k : Nat) (f : Nat → Int32), k + n = N + 1 → (∀ j, j < k → f j = x) → k ≤ N → ∀ j, j < N → lf_J7_fill_53178_5 N n k f x j = x := by
  intro n
  induction n with
  | zero => intro k f h1 h2 h3; omega
  | succ n ih =>
    intro k f h1 h2 h3 j hj
    rw [lf_J7_fill_53178_5_succ, z_if_le (by omega) (by omega)]
    by_cases q : N ≤ k
    · rw [if_pos q]; exact h2 j (by omega)
    · rw [if_neg q, nI_clamp (by omega)]
      refine ih (k + 1) _ (by omega) (fun i hi => ?_) (by omega) j hj
      unfold upd
      split
      · rfl
      · exact h2 i (by omega)
theorem z_fill0 {N : Nat} (hN : N < 2 ^ 31) (f : Nat → Int32) (x : Int32) {j : Nat} (hj : j < N) : f_J7_fill_53178 N f x j = x := z_fill hN x (N + 1) 0 f (by omega) (fun _ h => absurd h (by omega)) (by omega) j hj
theorem zr_lay (vs as : Nat → Int32) (a b c : Int32) : ((f_X1_layEmpty vs as a b c).1 0 = a ∧ (f_X1_layEmpty vs as a b c).1 1 = b ∧ (f_X1_layEmpty vs as a b c).1 2 = c) ∧ zE3 (f_X1_layEmpty vs as a b c).2 (fun _ => 0) := by
  refine ⟨⟨rfl, rfl, rfl⟩, fun j hj => ?_⟩
  show f_J7_fill_53178 3 as 0 j = _
  exact z_fill0 (by omega) as 0 hj
theorem z_stateAt {L : zL} {ds fa od : Nat → Int32} {rd : Int32} (hW : zWc L ds fa od rd) (hl : L.length ≤ 1000) {k : Nat} {e : Nat × Nat × Nat} (he : L[k]? = some e) : f_X2_stateAt od rd (nI k) = nI e.1 := by
  have hk := (List.getElem?_eq_some_iff.mp he).1
  unfold f_X2_stateAt
  rw [if_neg (z_neg (by omega)), hW.1, z_if_le (by omega) (by omega), if_neg (by omega), zl1000, z_if_le (by omega) (by omega), if_neg (by omega), nI_clamp (by omega)]
  exact (hW.2.1 k e he).1
theorem z_distOf {L : zL} {ds fa od : Nat → Int32} {rd : Int32} (hW : zWc L ds fa od rd) {k : Nat} {e : Nat × Nat × Nat} (he : L[k]? = some e) (h1 : e.1 < 1000) : f_X2_distanceOf ds (nI e.1) = nI e.2.1 := by
  unfold f_X2_distanceOf
  rw [if_neg (z_neg (by omega)), zl1000, z_if_le (by omega) (by omega), if_neg (by omega), nI_clamp (by omega)]
  exact (hW.2.1 k e he).2.1
theorem zc_loop {V : Nat → Nat} {vs : Nat → Int32} (hv : zE3 vs V) (hp9 : zPv V) : ∀ (n k : Nat) (L : zL) (as ds fa od : Nat → Int32) (rd : Int32), k + n = 1001 → zWc L ds fa od rd → zGd V L →
    zWc (zbf V n k L) (lf_X2_explore_50 n k vs as ds fa od rd).2.1 (lf_X2_explore_50 n k vs as ds fa od rd).2.2.1 (lf_X2_explore_50 n k vs as ds fa od rd).2.2.2.1 (lf_X2_explore_50 n k vs as ds fa od rd).2.2.2.2 ∧ sf_X2_explore_50 n k vs as ds fa od rd := by
  intro n
  induction n with
  | zero => intro k L as ds fa od rd _ hW _; exact ⟨hW, trivial⟩
  | succ n ih =>
    intro k L as ds fa od rd hk hW hG
    have hlen := zGd_len hG
    rw [lf_X2_explore_50_succ, sf_X2_explore_50_succ]
    unfold zbf
    cases he : L[k]? with
    | none =>
      have hk2 : L.length ≤ k := List.getElem?_eq_none_iff.mp he
      have h1 : rd ≤ nI k := by rw [hW.1]; exact nI_le hk2 (by omega)
      rw [if_pos h1]
      exact ⟨hW, fun _ => trivial, fun h => absurd h1 h⟩
    | some e =>
      have hk2 := (List.getElem?_eq_some_iff.mp he).1
      have h1 : ¬ rd ≤ nI k := by rw [hW.1]; exact nI_ge hk2 (by omega)
      have h2 : ¬ (1000 : Int32) ≤ nI k := by rw [zl1000]; exact nI_ge (by omega) (by omega)
      have g := hG.2 k e he
      rw [if_neg h1, if_neg h2, z_stateAt hW hlen he]
      have hs := zc_spread hv hp9 16 0 L as ds fa od rd (by omega) hW hG he
      have es : f_X2_spread vs as ds fa od rd (nI e.1) = lf_X2_spread_8 16 0 vs as ds fa od rd (nI e.1) (nI e.2.1) := by
        unfold f_X2_spread
        rw [z_distOf hW he g.1]
      have ess : s_X2_spread vs as ds fa od rd (nI e.1) := by
        unfold s_X2_spread
        rw [z_distOf hW he g.1]
        exact hs.2
      rw [es]
      have r := ih (k + 1) (zspF V e 16 0 L) (lf_X2_spread_8 16 0 vs as ds fa od rd (nI e.1) (nI e.2.1)).1 _ _ _ _ (by omega) hs.1 (zGd_spF 16 0 L hG he)
      exact ⟨r.1, fun h => absurd h h1, fun _ => ⟨fun h => absurd h h2, fun _ => ⟨ess, r.2⟩⟩⟩
theorem zc_start {ds fa od : Nat → Int32} {s : Nat} (hs : s < 1000) (hd : ∀ j, j < 1000 → ds j = -1) :
    zWc [(s, 0, 0)] (f_X2_reach ds fa od (nI 0) (nI s) 0 (-1)).1 (f_X2_reach ds fa od (nI 0) (nI s) 0 (-1)).2.1 (f_X2_reach ds fa od (nI 0) (nI s) 0 (-1)).2.2.1 (f_X2_reach ds fa od (nI 0) (nI s) 0 (-1)).2.2.2 ∧ s_X2_reach ds (nI 0) (nI s) 0 (-1) := by
  have er : f_X2_reach ds fa od (nI 0) (nI s) 0 (-1) = (upd ds s 0, upd fa s (-1), upd od 0 (nI s), nI 1) := by
    unfold f_X2_reach
    rw [if_neg (z_neg (by omega)), zl1000, z_if_le (by omega) (by omega), if_neg (by omega), nI_clamp (by omega), if_pos (hd s hs), if_neg (z_neg (by omega)), z_if_lt (by omega) (by omega), if_pos (by omega), nI_clamp (by omega)]
    rfl
  rw [er]
  refine ⟨⟨rfl, fun i e hi => ?_, fun x hx hx2 => ?_⟩, ?_⟩
  · have h1 := (List.getElem?_eq_some_iff.mp hi).1
    simp at h1
    subst h1
    simp at hi
    subst hi
    refine ⟨rfl, ?_, fun h => absurd h (by omega)⟩
    show upd ds s 0 s = nI 0
    unfold upd; rw [if_pos rfl]; rfl
  · have hne : x ≠ s := by
      have := zmem_no.mp hx2 (s, 0, 0) List.mem_cons_self
      exact fun q => this q.symm
    show upd ds s 0 x = -1
    rw [pk_un hne]; exact hd x hx
  · unfold s_X2_reach
    refine ⟨fun _ => trivial, fun _ => ⟨fun _ => trivial, fun _ => ⟨fun _ => trivial, fun _ => ⟨fun h => ⟨fun _ => vp_in_nI (by omega) (by omega), fun _ => trivial⟩, fun _ => trivial⟩⟩⟩⟩
/-- what the class keeps of its search: nothing, or all of it -/
def zWays (V : Nat → Nat) (s : Nat) (vs ds fa od : Nat → Int32) (rd : Int32) : Prop := zE3 vs V ∧ zWc (zBFS V s) ds fa od rd
theorem zc_explore {V X : Nat → Nat} {vr ar vs as ds fa od : Nat → Int32} {rd : Int32} (hv : zE3 vr V) (hx : zE3 ar X) (ok : zOK V X) (hp9 : zPv V) (h : rd = 0 ∨ (zWays V (zst X) vs ds fa od rd ∧ 0 < rd)) :
    zWays V (zst X) (f_X2_explore vs as ds fa od rd vr ar).1 (f_X2_explore vs as ds fa od rd vr ar).2.2.1 (f_X2_explore vs as ds fa od rd vr ar).2.2.2.1 (f_X2_explore vs as ds fa od rd vr ar).2.2.2.2.1 (f_X2_explore vs as ds fa od rd vr ar).2.2.2.2.2 ∧ s_X2_explore vs as ds fa od rd vr ar := by
  have hs := zst_lt ok
  rcases h with rfl | ⟨hw, hpos⟩
  · have er : f_X2_explore vs as ds fa od 0 vr ar = ((f_X1_layEmpty vs as (f_X1_volumeAt vr (0 : Int32)) (f_X1_volumeAt vr (1 : Int32)) (f_X1_volumeAt vr (2 : Int32))).1, (f_X2_explore_t1 vs as ds fa od 0 vr ar), (f_X2_explore_t2 vs as ds fa od 0 vr ar), (f_X2_explore_t3 vs as ds fa od 0 vr ar), (f_X2_explore_t4 vs as ds fa od 0 vr ar), (f_X2_explore_t5 vs as ds fa od 0 vr ar)) := by
      unfold f_X2_explore
      rw [if_pos (Int32.le_refl _)]
    have hst := zr_state hx
    have hvs : zE3 (f_X1_layEmpty vs as (f_X1_volumeAt vr (0 : Int32)) (f_X1_volumeAt vr (1 : Int32)) (f_X1_volumeAt vr (2 : Int32))).1 V := by
      have l := (zr_lay vs as (f_X1_volumeAt vr (0 : Int32)) (f_X1_volumeAt vr (1 : Int32)) (f_X1_volumeAt vr (2 : Int32))).1
      intro j hj
      rcases z_j3 hj with rfl | rfl | rfl
      · rw [l.1, zl0, zr_vol (by omega)]; exact hv 0 hj
      · rw [l.2.1, zl1, zr_vol (by omega)]; exact hv 1 hj
      · rw [l.2.2, zl2, zr_vol (by omega)]; exact hv 2 hj
    have st := zc_start (ds := f_J7_fill_53178 1000 ds (-1)) (fa := fa) (od := od) hs (fun j hj => z_fill0 (by omega) ds (-1) hj)
    have ok2 : zOK V (zdg (zst X)) := ok.congr (fun j hj => (zdg_st ok hj).symm)
    have lp := zc_loop hvs hp9 1001 0 [(zst X, 0, 0)] (f_X1_layEmpty vs as (f_X1_volumeAt vr (0 : Int32)) (f_X1_volumeAt vr (1 : Int32)) (f_X1_volumeAt vr (2 : Int32))).2 _ _ _ _ (by omega) st.1 (zGd_0 hs ok2)
    refine ⟨?_, ?_⟩
    · rw [er]
      refine ⟨hvs, ?_⟩
      show zWc (zBFS V (zst X)) (f_X2_explore_t2 vs as ds fa od 0 vr ar) (f_X2_explore_t3 vs as ds fa od 0 vr ar) (f_X2_explore_t4 vs as ds fa od 0 vr ar) (f_X2_explore_t5 vs as ds fa od 0 vr ar)
      unfold f_X2_explore_t2 f_X2_explore_t3 f_X2_explore_t4 f_X2_explore_t5
      rw [hst]
      exact lp.1
    · unfold s_X2_explore
      rw [hst]
      exact ⟨fun _ => ⟨st.2, lp.2⟩, fun h => absurd (Int32.le_refl _) h⟩
  · have hn : ¬ rd ≤ (0 : Int32) := fun q => by
      have h1 := Int32.le_iff_toInt_le.mp q
      have h2 := Int32.lt_iff_toInt_lt.mp hpos
      omega
    have er : f_X2_explore vs as ds fa od rd vr ar = (vs, as, ds, fa, od, rd) := by
      unfold f_X2_explore
      rw [if_neg hn]
    rw [er]
    refine ⟨hw, ?_⟩
    unfold s_X2_explore
    exact ⟨fun q => absurd q hn, fun _ => trivial⟩
theorem zBFS_len (V : Nat → Nat) (s : Nat) : 0 < (zBFS V s).length := by
  have key : ∀ (n k : Nat) (L : zL), 0 < L.length → 0 < (zbf V n k L).length := by
    intro n
    induction n with
    | zero => intro k L h; exact h
    | succ n ih =>
      intro k L h
      unfold zbf
      split
      · exact h
      · next e he =>
        refine ih _ _ ?_
        have h0 : L[0]? = some L[0] := List.getElem?_eq_getElem h
        exact (List.getElem?_eq_some_iff.mp (zspF_get (V := V) (e := e) 16 0 L h0)).1
  exact key 1001 0 [(s, 0, 0)] (by simp)
