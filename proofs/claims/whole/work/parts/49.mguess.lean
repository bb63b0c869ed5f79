/-! the model: a guess, rows laid out, an act as a whole -/
theorem z_and1 (b : Bool) : vp_nar .boolean (zb01 b &&& 1) = zb01 b := by cases b <;> decide
theorem z_and0 (b : Bool) : vp_nar .boolean (zb01 b &&& 0) = 0 := by cases b <;> decide
theorem zm_guessLoop {n jar v : Nat} {b : Bool} (hn : n = 2 ∨ n = 3) (hj : jar < 3) (hv : v < 2 ^ 31) {C : zCs} {mh : Nat → Int32} : ∀ (m k : Nat) (ml : Nat → Int32), k + m = 1000 → zRmx n C (zUp C (zgLearn n jar v b)) k ml mh → zCm n (zUp C (zgLearn n jar v b)) (lf_X4_guess_66 (m + 1) k ml (nI jar) (nI v) (zb01 b)) mh := by
  intro m
  induction m with
  | zero =>
    intro k ml hk h
    have q : (1000 : Int32) ≤ nI k := by rw [zl1000, show k = 1000 by omega]; exact Int32.le_refl _
    rw [lf_X4_guess_66_succ, if_pos q]
    exact fun r hr => by have := h r hr; rw [if_pos (by omega)] at this; exact this
  | succ m ih =>
    intro k ml hk h
    have hk' : k < 1000 := by omega
    have q : ¬ (1000 : Int32) ≤ nI k := by rw [zl1000]; exact nI_ge hk' (by omega)
    have hcl : (nI k).toNatClampNeg = k := nI_clamp (by omega)
    have hd : zdg k jar < 1000 := by unfold zdg; split; omega; split <;> omega
    have h0 := zRmx_at h hk'
    -- what the row was and is
    have hml : ∃ c : Bool, ml k = zb01 c := by
      rcases z_bind n C k with p | ⟨N, s, p1, p2, p⟩
      · exact ⟨false, zRo_no p h0⟩
      · exact ⟨true, (zRo_yes p h0).1⟩
    obtain ⟨c, hc⟩ := hml
    have keep : decide (zdg k jar = v) = b → zRmx n C (zUp C (zgLearn n jar v b)) (k + 1) (upd ml k (vp_nar .boolean (ml k &&& 1))) mh := fun z =>
      zRmx_step h (fun r _ hne => pk_un hne) (fun _ _ _ _ _ => rfl) (by
        have e : upd ml k (vp_nar .boolean (ml k &&& 1)) k = ml k := by rw [pk_us, hc, z_and1]
        rcases z_bind n C k with p | ⟨N, s, p1, p2, p⟩
        · rw [zUp_none p]
          show upd ml k _ k = 0
          rw [e]; exact zRo_no p h0
        · have ev := (zinv_row hn hk' p1).2.2 jar hj
          rw [zUp_some p1 p2]
          unfold zgLearn
          rw [if_pos (by rw [← ev]; exact z)]
          have := zRo_yes p h0
          exact ⟨by rw [e]; exact this.1, this.2⟩)
    have lose : ¬ decide (zdg k jar = v) = b → zRmx n C (zUp C (zgLearn n jar v b)) (k + 1) (upd ml k (vp_nar .boolean (ml k &&& 0))) mh := fun z =>
      zRmx_step h (fun r _ hne => pk_un hne) (fun _ _ _ _ _ => rfl) (by
        have e : upd ml k (vp_nar .boolean (ml k &&& 0)) k = 0 := by rw [pk_us, hc, z_and0]
        rcases z_bind n C k with p | ⟨N, s, p1, p2, p⟩
        · rw [zUp_none p]; exact e
        · have ev := (zinv_row hn hk' p1).2.2 jar hj
          rw [zUp_some p1 p2]
          unfold zgLearn
          rw [if_neg (by rw [← ev]; exact z)]
          exact e)
    rw [lf_X4_guess_66_succ, if_neg q, hcl, zq_fig (by omega) hj, z_if_eq (by omega) hv]
    by_cases z : zdg k jar = v
    · rw [if_pos z]
      cases b with
      | true => rw [if_pos (show (1 : Int32) = zb01 true from rfl)]; exact ih (k + 1) _ (by omega) (keep (decide_eq_true z))
      | false => rw [if_neg (show ¬ (1 : Int32) = zb01 false by decide)]; exact ih (k + 1) _ (by omega) (lose (by rw [decide_eq_true z]; decide))
    · rw [if_neg z]
      cases b with
      | true => rw [if_neg (show ¬ (0 : Int32) = zb01 true by decide)]; exact ih (k + 1) _ (by omega) (lose (by rw [decide_eq_false z]; decide))
      | false => rw [if_pos (show (0 : Int32) = zb01 false from rfl)]; exact ih (k + 1) _ (by omega) (keep (decide_eq_false z))
theorem zRmx_0 {n : Nat} {C D : zCs} {ml mh : Nat → Int32} (h : zCm n C ml mh) : zRmx n C D 0 ml mh := fun r hr => by rw [if_neg (by omega)]; exact h r hr
theorem zm_guess {n jar v : Nat} {b : Bool} (hn : n = 2 ∨ n = 3) (hj : jar < 3) (hv : v < 2 ^ 31) {C : zCs} {ml mh : Nat → Int32} (h : zCm n C ml mh) : zCm n (zUp C (zgLearn n jar v b)) (lf_X4_guess_66 1001 0 ml (nI jar) (nI v) (zb01 b)) mh := zm_guessLoop hn hj hv 1000 0 ml (by omega) (zRmx_0 h)
/-! all rows laid out -/
theorem zq_isRow {n r : Nat} (hn : n = 2 ∨ n = 3) (hr : r < 1000) : f_X4_isRow (nI n) (nI r) = zb01 (zinv n r).isSome := by
  have f0 := zq_fig (r := r) (j := 0) (by omega) (by omega)
  have f1 := zq_fig (r := r) (j := 1) (by omega) (by omega)
  have f2 := zq_fig (r := r) (j := 2) (by omega) (by omega)
  have e0 : zdg r 0 = r % 10 := rfl
  have e1 : zdg r 1 = r / 10 % 10 := rfl
  have e2 : zdg r 2 = r / 100 := rfl
  unfold f_X4_isRow
  rw [show (f_X4_figure (nI r) (0 : Int32)) = nI (zdg r 0) from f0, show (f_X4_figure (nI r) (1 : Int32)) = nI (zdg r 1) from f1, show (f_X4_figure (nI r) (2 : Int32)) = nI (zdg r 2) from f2, e0, e1, e2]
  rw [zl0, z_if_le (by omega) (by omega), z_if_le (by omega) (by omega), z_if_le (by omega) (by omega)]
  rcases hn with rfl | rfl
  · rw [zinv_eq2, if_neg (show ¬ nI 2 = (3 : Int32) by decide), if_neg (show ¬ nI 2 = (3 : Int32) by decide)]
    by_cases q0 : r % 10 ≤ 0
    · rw [if_pos q0, if_neg (by omega)]; rfl
    · rw [if_neg q0]
      by_cases q1 : r / 10 % 10 ≤ 0
      · rw [if_pos q1, if_neg (by omega)]; rfl
      · rw [if_neg q1]
        by_cases q2 : r / 100 ≤ 0
        · rw [if_pos q2, if_pos (show 0 < r % 10 ∧ 0 < r / 10 % 10 ∧ r / 100 = 0 by omega)]; rfl
        · rw [if_neg q2, if_neg (show ¬ (1 : Int32) = nI 0 by decide), if_neg (by omega)]; rfl
  · rw [zinv_eq3, if_pos (show nI 3 = (3 : Int32) from rfl), if_pos (show nI 3 = (3 : Int32) from rfl)]
    by_cases q0 : r % 10 ≤ 0
    · rw [if_pos q0, if_neg (by omega)]; rfl
    · rw [if_neg q0]
      by_cases q1 : r / 10 % 10 ≤ 0
      · rw [if_pos q1, if_neg (by omega)]; rfl
      · rw [if_neg q1]
        by_cases q2 : r / 100 ≤ 0
        · rw [if_pos q2, if_neg (show ¬ nI 0 = (1 : Int32) by decide), if_neg (by omega)]; rfl
        · rw [if_neg q2, if_pos (show 0 < r % 10 ∧ 0 < r / 10 % 10 ∧ 0 < r / 100 by omega)]; rfl
theorem zm_lay114 {r : Nat} (hr : r < 1000) (mh : Nat → Int32) : lf_X4_lay_114 4 0 mh (nI r) = upd (upd (upd mh (3 * r + 0) 0) (3 * r + 1) 0) (3 * r + 2) 0 := by
  rw [lf_X4_lay_114_succ, if_neg (by decide), lf_X4_lay_114_succ, if_neg (by decide), lf_X4_lay_114_succ, if_neg (by decide), lf_X4_lay_114_succ, if_pos (by decide)]
  rw [zl3, pk_mul, nI_add, nI_add, nI_add, nI_clamp (by omega), nI_clamp (by omega), nI_clamp (by omega)]
theorem zsm_lay114 {r : Nat} (hr : r < 1000) : sf_X4_lay_114 4 0 (nI r) := by
  have key : ∀ (m k : Nat), k + m ≤ 10 → sf_X4_lay_114 m k (nI r) := by
    intro m
    induction m with
    | zero => intro k _; exact trivial
    | succ m ih =>
      intro k hk
      rw [sf_X4_lay_114_succ]
      refine ⟨fun _ => trivial, fun h => ⟨?_, ih (k + 1) (by omega)⟩⟩
      have hk3 : k < 3 := zk_lt (N := 3) (by omega) rfl h
      rw [zl3, pk_mul, nI_add]; exact vp_in_nI (by omega) (by omega)
  exact key 4 0 (by omega)
theorem zC0_inv {n r N : Nat} (hn : n = 2 ∨ n = 3) (hr : r < 1000) (h : zinv n r = some N) : zC0 n N = some 0 := by
  unfold zC0; rw [if_pos (zinv_row hn hr h).2.1]
theorem zm_layLoop {n : Nat} (hn : n = 2 ∨ n = 3) : ∀ (m k : Nat) (ml mh : Nat → Int32), k + m = 1000 → (∀ r, r < k → zRo ((zinv n r).bind (zC0 n)) ml mh r) → zCm n (zC0 n) (lf_X4_lay_90 (m + 1) k (nI n) ml mh).1 (lf_X4_lay_90 (m + 1) k (nI n) ml mh).2 := by
  intro m
  induction m with
  | zero =>
    intro k ml mh hk h
    have q : (1000 : Int32) ≤ nI k := by rw [zl1000, show k = 1000 by omega]; exact Int32.le_refl _
    rw [lf_X4_lay_90_succ, if_pos q]
    exact fun r hr => h r (by omega)
  | succ m ih =>
    intro k ml mh hk h
    have hk' : k < 1000 := by omega
    have q : ¬ (1000 : Int32) ≤ nI k := by rw [zl1000]; exact nI_ge hk' (by omega)
    have hcl : (nI k).toNatClampNeg = k := nI_clamp (by omega)
    rw [lf_X4_lay_90_succ, if_neg q, hcl, zq_isRow hn hk', z_nb, zm_lay114 hk']
    refine ih (k + 1) _ _ (by omega) (fun r hr => ?_)
    by_cases e : r = k
    · subst e
      cases z : zinv n r with
      | none =>
        show upd ml r (zb01 (none : Option Nat).isSome) r = 0
        rw [pk_us]; rfl
      | some N =>
        show zRo (zC0 n N) _ _ r
        rw [zC0_inv hn hk' z]
        refine ⟨by rw [pk_us]; rfl, fun j hj => ?_⟩
        rcases z_j3 hj with rfl | rfl | rfl
        · rw [pk_un (by omega), pk_un (by omega), pk_us]; rfl
        · rw [pk_un (by omega), pk_us]; rfl
        · rw [pk_us]; rfl
    · refine zRo_ext (pk_un e) (fun j hj => ?_) (h r (by omega))
      rw [pk_un (by omega), pk_un (by omega), pk_un (by omega)]
theorem zsm_layLoop : ∀ (m k : Nat), k + m ≤ 2000 → sf_X4_lay_90 m k := by
  intro m
  induction m with
  | zero => intro k _; exact trivial
  | succ m ih =>
    intro k hk
    rw [sf_X4_lay_90_succ]
    exact ⟨fun _ => trivial, fun h => ⟨zsm_lay114 (zk_lt (N := 1000) (by omega) rfl h), ih (k + 1) (by omega)⟩⟩
theorem zsm_lay (p1 p2 p3 : Int32) : s_X4_lay p1 p2 p3 := ⟨fun _ => zsm_layLoop 1001 0 (by omega), fun _ => zsm_layLoop 1001 0 (by omega)⟩
theorem zm_rows {n : Nat} (hn : n = 2 ∨ n = 3) (ml mh : Nat → Int32) : zCm n (zC0 n) (lf_X4_lay_90 1001 0 (nI n) ml mh).1 (lf_X4_lay_90 1001 0 (nI n) ml mh).2 := zm_layLoop hn 1000 0 ml mh (by omega) (fun r h => absurd h (by omega))
theorem zm_lay37 (ma : Nat → Int32) : zE3 (lf_X4_lay_37 4 0 ma) (fun _ => 0) := by
  have e : lf_X4_lay_37 4 0 ma = upd (upd (upd ma 0 0) 1 0) 2 0 := by
    rw [lf_X4_lay_37_succ, if_neg (by decide), lf_X4_lay_37_succ, if_neg (by decide), lf_X4_lay_37_succ, if_neg (by decide), lf_X4_lay_37_succ, if_pos (by decide)]
    rw [nI_clamp (by omega), nI_clamp (by omega), nI_clamp (by omega)]
  rw [e]
  intro j hj
  rcases z_j3 hj with rfl | rfl | rfl <;> rfl
/-! an act of the model, as a whole -/
theorem zn_lt (V : Nat → Nat) : zn V < 4 := by unfold zn; split <;> omega
theorem zTw_zn {V X : Nat → Nat} (ok : zOK V X) : zTw (zn V) V X := by
  intro h
  have o := ok 2 (by omega)
  have : V 2 = 0 := by unfold zn at h; split at h <;> omega
  exact ⟨this, by omega⟩
theorem zm_act22 {n : Nat} (hn : n = 2 ∨ n = 3) {V X Y : Nat → Nat} {ma mo : Nat → Int32} (hm : zE3 ma X) (ho : zE3 mo Y) (hX : zTw n V X) (hY : zTw n V Y) : zE3 (lf_X4_act_22 (n + 1) 0 (nI n) ma mo) Y := by
  rcases hn with rfl | rfl
  · have e : lf_X4_act_22 (2 + 1) 0 (nI 2) ma mo = upd (upd ma 0 (mo 0)) 1 (mo 1) := by
      rw [lf_X4_act_22_succ, if_neg (by decide), lf_X4_act_22_succ, if_neg (by decide), lf_X4_act_22_succ, if_pos (by decide)]
      rw [nI_clamp (by omega), nI_clamp (by omega)]
    rw [e]
    intro j hj
    rcases z_j3 hj with rfl | rfl | rfl
    · exact ho 0 (by omega)
    · exact ho 1 (by omega)
    · show ma 2 = _
      rw [hm 2 (by omega), (hX rfl).2, (hY rfl).2]
  · have e : lf_X4_act_22 (3 + 1) 0 (nI 3) ma mo = upd (upd (upd ma 0 (mo 0)) 1 (mo 1)) 2 (mo 2) := by
      rw [lf_X4_act_22_succ, if_neg (by decide), lf_X4_act_22_succ, if_neg (by decide), lf_X4_act_22_succ, if_neg (by decide), lf_X4_act_22_succ, if_pos (by decide)]
      rw [nI_clamp (by omega), nI_clamp (by omega), nI_clamp (by omega)]
    rw [e]
    intro j hj
    rcases z_j3 hj with rfl | rfl | rfl
    · exact ho 0 (by omega)
    · exact ho 1 (by omega)
    · exact ho 2 (by omega)
theorem zsm_act22 {n : Nat} (hn : n = 2 ∨ n = 3) : sf_X4_act_22 (n + 1) 0 (nI n) := by
  have key : ∀ (m k : Nat), k + m ≤ 10 → sf_X4_act_22 m k (nI n) := by
    intro m
    induction m with
    | zero => intro k _; exact trivial
    | succ m ih =>
      intro k hk
      rw [sf_X4_act_22_succ]
      refine ⟨fun _ => trivial, fun h => ?_⟩
      have hkn : k < n := zk_lt (N := n) (by omega) (nI_clamp (by omega)) h
      have v : vp_in (nI k) 3 := vp_in_nI (by omega) (by omega)
      exact ⟨v, v, ih (k + 1) (by omega)⟩
  exact key (n + 1) 0 (by omega)
theorem zm_act {V X : Nat → Nat} {a : Nat} (ha : a < 15) (hal : zal (zn V) a) (ok : zOK V X) {C : zCs} (hC : zCok (zn V) C) {mv ma ml mh mo mb : Nat → Int32} (hmv : zE3 mv V) (hma : zE3 ma X) (hm : zCm (zn V) C ml mh) (ac : Int32) :
    (f_X4_act (nI (zn V)) mv ma ac ml mh mo mb (nI a)).1 = nI (zm V X a) ∧ zE3 (f_X4_act (nI (zn V)) mv ma ac ml mh mo mb (nI a)).2.1 (zmv V X a) ∧ (f_X4_act (nI (zn V)) mv ma ac ml mh mo mb (nI a)).2.2.1 = ac + 1 ∧
    zCm (zn V) (zUp C (zgSee (zn V) a (zlk V (zmv V X a)))) (f_X4_act (nI (zn V)) mv ma ac ml mh mo mb (nI a)).2.2.2.1 (f_X4_act (nI (zn V)) mv ma ac ml mh mo mb (nI a)).2.2.2.2.1 ∧ s_X4_act (nI (zn V)) mv ma ml mh mo mb (nI a) := by
  have hn := zn_23 V
  have hal3 := zal_3 (by omega) hal
  have hst : f_X4_state ma = nI (zst X) := zq_stateM hma
  have lk := zq_look (mv := mv) (mo := mo) (mb := mb) hmv (zst_lt ok)
  have l1 : zE3 (f_X4_lookAtState mv mo mb (nI (zst X))).1 X := lk.1.congr (fun j hj => zdg_st ok hj)
  have mv1 := zq_move lk.2 l1 ok ha hal3
  have ok2 := zmv_ok ok ha
  have si := zq_sight hn lk.2 mv1.2 ok2
  have hnc : (nI (zn V)).toNatClampNeg = zn V := nI_clamp (by have := zn_lt V; omega)
  have hlk : zlk V (zmv V X a) = zph (zn V) (zsg (zn V) V (zmv V X a)) := zlk_sg hn (zTw_zn ok2)
  have L := zm_actLoop (n := zn V) (a := a) hn ha hal3 (zsg_lt (zn V) V (zmv V X a)) hlk hC 1000 0 ml mh (f_X4_move (f_X4_lookAtState mv mo mb (nI (zst X))).1 (f_X4_lookAtState mv mo mb (nI (zst X))).2 (nI a)).2 (f_X4_lookAtState mv mo mb (nI (zst X))).2 (by omega) (zRmx_0 hm)
  have t1 : f_X4_act_t1 (nI (zn V)) mv ma mo mb (nI a) = nI (zsg (zn V) V (zmv V X a)) := by
    unfold f_X4_act_t1; rw [hst]; exact si
  refine ⟨?_, ?_, rfl, ?_, ?_⟩
  · show (f_X4_move (f_X4_lookAtState mv mo mb (f_X4_state ma)).1 (f_X4_lookAtState mv mo mb (f_X4_state ma)).2 (nI a)).1 = _
    rw [hst]; exact mv1.1
  · show zE3 (lf_X4_act_22 ((nI (zn V)).toNatClampNeg + 1) 0 (nI (zn V)) ma (f_X4_move (f_X4_lookAtState mv mo mb (f_X4_state ma)).1 (f_X4_lookAtState mv mo mb (f_X4_state ma)).2 (nI a)).2) _
    rw [hst, hnc]
    exact zm_act22 hn hma mv1.2 (zTw_zn ok) (zTw_zn ok2)
  · show zCm _ _ (f_X4_act_t2 (nI (zn V)) mv ma ml mh mo mb (nI a)) (f_X4_act_t3 (nI (zn V)) mv ma ml mh mo mb (nI a))
    unfold f_X4_act_t2 f_X4_act_t3
    rw [t1, hst]; exact L.1
  · unfold s_X4_act
    rw [t1, hst, hnc]
    exact ⟨zs_move ha, zs_sight hn _ _, zsm_act22 hn, L.2⟩
