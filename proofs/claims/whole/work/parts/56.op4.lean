/-! the guesser's answers; jars laid out -/
theorem zo_mayBe {c : zS} {t : zM} (h : zRel c t) (ou : Nat → Int64) (p q : Int32) : zs_mayBe c p q ∧ ms_mayBe t p q ∧ zAn (zk_mayBe c ou p q) (zM_mayBe t p q).th (zO_mayBe c ou p q 0) (mk_mayBe t p q).toInt64 ∧ zRel (zS_mayBe c ou p q) (zM_mayBe t p q) := by
  obtain ⟨V, X, C, h⟩ := h
  have hn := zn_23 V
  have sS : s_X3_mayBe c.vr c.hd c.jc p q → zs_mayBe c p q := fun z => ⟨fun _ => z, fun _ => ⟨fun _ => z, fun _ => z⟩⟩
  refine ⟨?_, trivial, ?_, V, X, C, by unfold zS_mayBe zM_mayBe; exact zR.t2 (zR.g2 h _ _ _ _) _ _ _ _ _ _ _⟩
  all_goals rcases zj_cases h.vr h.h9 h.pv p with ⟨j, hj, rfl, h1, h2⟩ | ⟨h1, h2⟩ <;> rw [← h.js] at h2
  · exact sS ⟨fun _ => ⟨fun _ => by rw [h.jc]; exact (zc_volumes hn (by omega) h.cok h.cc c.vi c.ai).2, fun _ => trivial⟩, fun _ => trivial⟩
  · exact sS ⟨fun z => absurd z (by rw [h1]; decide), fun _ => trivial⟩
  · have n2 : ¬ f_X4_isJar t.js (nI j) = 0 := by rw [h2]; decide
    rcases zv_cases q with ⟨v, v1, v9, rfl, g1, g2, g3⟩ | ⟨g1, g2, g3⟩
    · have t0 : t_X3_mayBe c.vr (nI j) (nI v) = 0 := by unfold t_X3_mayBe; rw [if_pos h1, if_pos g2]
      have m2 : ¬ f_X4_isVolume (nI v) = 0 := by rw [g3]; decide
      have e : (f_X3_mayBe c.vr c.vi c.ai c.hd c.jc (nI j) (nI v)).1 = zb01 (zMay (zn V) C j v) := by
        unfold f_X3_mayBe
        rw [if_pos h1, if_pos g2]
        show f_X3_isAmong (f_X0_volumesFor c.vi c.ai c.hd c.jc (nI j)).1 (nI v) = _
        rw [h.jc]
        exact zc_among hn (by omega) (by omega) h.cok h.cc c.vi c.ai
      have em : f_X4_may t.ml (nI j) (nI v) = zb01 (zMay (zn V) C j v) := zm_may hn (by omega) (by omega) h.cok h.cm
      unfold zAn zk_mayBe zM_mayBe zO_mayBe mk_mayBe f_L_mayBe
      rw [if_pos t0, e]
      simp only [f_X4_mayBe, if_neg n2, if_neg m2, em]
      cases zMay (zn V) C j v
      · exact ⟨rfl, fun _ => z_up0 ou 0⟩
      · exact ⟨rfl, fun _ => z_up0 ou 1⟩
    · have k2 : ¬ t_X3_checkVolume q = 0 := by rw [g2]; decide
      have t0 : t_X3_mayBe c.vr (nI j) q = 2 := by unfold t_X3_mayBe; rw [if_pos h1, if_neg k2]
      have t1 : ¬ t_X3_mayBe c.vr (nI j) q = 0 := by rw [t0]; decide
      have t2 : ¬ t_X3_mayBe c.vr (nI j) q = 1 := by rw [t0]; decide
      unfold zAn zk_mayBe zM_mayBe zO_mayBe mk_mayBe
      simp only [f_L_mayBe, f_X4_mayBe, if_neg t1, if_neg t2, if_neg n2, if_pos g3]
      exact ⟨rfl, fun z => absurd z (by decide)⟩
  · have n1 : ¬ t_X3_checkJar c.vr p = 0 := by rw [h1]; decide
    have t0 : t_X3_mayBe c.vr p q = 1 := by unfold t_X3_mayBe; rw [if_neg n1]
    have t1 : ¬ t_X3_mayBe c.vr p q = 0 := by rw [t0]; decide
    unfold zAn zk_mayBe zM_mayBe zO_mayBe mk_mayBe
    simp only [f_L_mayBe, f_X4_mayBe, if_neg t1, if_pos t0, if_pos h2]
    exact ⟨rfl, fun z => absurd z (by decide)⟩
theorem zo_isKnown {c : zS} {t : zM} (h : zRel c t) (ou : Nat → Int64) (p : Int32) : zs_isKnown c p ∧ ms_isKnown t p ∧ zAn (zk_isKnown c ou p) (zM_isKnown t p).th (zO_isKnown c ou p 0) (mk_isKnown t p).toInt64 ∧ zRel (zS_isKnown c ou p) (zM_isKnown t p) := by
  obtain ⟨V, X, C, h⟩ := h
  have hn := zn_23 V
  have sS : s_X3_isKnown c.vr c.hd c.jc p → zs_isKnown c p := fun z => ⟨fun _ => z, fun _ => z⟩
  refine ⟨?_, trivial, ?_, V, X, C, by unfold zS_isKnown zM_isKnown; exact zR.t2 (zR.g2 h _ _ _ _) _ _ _ _ _ _ _⟩
  all_goals rcases zj_cases h.vr h.h9 h.pv p with ⟨j, hj, rfl, h1, h2⟩ | ⟨h1, h2⟩ <;> rw [← h.js] at h2
  · exact sS ⟨fun _ => by rw [h.jc]; exact (zc_volumes hn (by omega) h.cok h.cc c.vi c.ai).2, fun _ => trivial⟩
  · exact sS ⟨fun z => absurd z (by rw [h1]; decide), fun _ => trivial⟩
  · have n2 : ¬ f_X4_isJar t.js (nI j) = 0 := by rw [h2]; decide
    have t0 : t_X3_isKnown c.vr (nI j) = 0 := by unfold t_X3_isKnown; rw [if_pos h1]
    have e : (f_X3_isKnown c.vr c.vi c.ai c.hd c.jc (nI j)).1 = zb01 (decide (zBc (zMay (zn V) C j) 9 = 1)) := by
      unfold f_X3_isKnown
      rw [if_pos h1]
      show f_X3_isOne (f_X0_volumesFor c.vi c.ai c.hd c.jc (nI j)).1 = _
      rw [h.jc]
      exact zc_one hn hj h.cok h.cc c.vi c.ai
    have em : f_X4_known t.ml (nI j) = zb01 (decide (zBc (zMay (zn V) C j) 9 = 1)) := zm_known hn (by omega) h.cok h.cm
    unfold zAn zk_isKnown zM_isKnown zO_isKnown mk_isKnown f_L_isKnown
    rw [if_pos t0, e]
    simp only [f_X4_isKnown, if_neg n2, em]
    cases decide (zBc (zMay (zn V) C j) 9 = 1)
    · exact ⟨rfl, fun _ => z_up0 ou 0⟩
    · exact ⟨rfl, fun _ => z_up0 ou 1⟩
  · have n1 : ¬ t_X3_checkJar c.vr p = 0 := by rw [h1]; decide
    have t0 : ¬ t_X3_isKnown c.vr p = 0 := by unfold t_X3_isKnown; rw [if_neg n1]; decide
    unfold zAn zk_isKnown zM_isKnown zO_isKnown mk_isKnown
    simp only [f_L_isKnown, f_X4_isKnown, if_neg t0, if_pos h2]
    exact ⟨rfl, fun z => absurd z (by decide)⟩
theorem zo_leftAtMost {c : zS} {t : zM} (h : zRel c t) (ou : Nat → Int64) (p q : Int32) : zs_leftAtMost c p q ∧ ms_leftAtMost t p q ∧ zAn (zk_leftAtMost c ou p q) (zM_leftAtMost t p q).th (zO_leftAtMost c ou p q 0) (mk_leftAtMost t p q).toInt64 ∧ zRel (zS_leftAtMost c ou p q) (zM_leftAtMost t p q) := by
  obtain ⟨V, X, C, h⟩ := h
  have hn := zn_23 V
  have sS : s_X3_leftAtMost c.vr c.vi c.ai c.hd c.jc p q → zs_leftAtMost c p q := fun z => ⟨fun _ => z, fun _ => ⟨fun _ => z, fun _ => z⟩⟩
  refine ⟨?_, ?_, ?_, V, X, C, by unfold zS_leftAtMost zM_leftAtMost; exact zR.t2 (zR.g2 h _ _ _ _) _ _ _ _ _ _ _⟩
  all_goals rcases zp_cases h p q with ⟨j, k, hj, hk, hne, rfl, rfl, h1, n1, n2, n3⟩ | ⟨h1, h2⟩ | ⟨h1, n1, h2⟩ | ⟨h1, n1, n2, h3⟩
  · obtain ⟨ha, hal, ea⟩ := z_pourAct hj hk hne
    have ep : f_X3_pourNumber (nI j) (nI k) = nI (6 + 3 * j + k) := ea
    exact sS ⟨fun _ => by rw [ep, h.jc]; exact (zc_most hn ha (zal_3 (by omega) hal) h.cok h.cc c.vi c.ai c.sn).2, fun z => absurd h1 z⟩
  · exact sS ⟨fun z => absurd z (by rw [h1]; decide), fun _ => trivial⟩
  · exact sS ⟨fun z => absurd z (by rw [h1]; decide), fun _ => trivial⟩
  · exact sS ⟨fun z => absurd z (by rw [h1]; decide), fun _ => trivial⟩
  · obtain ⟨ha, hal, ea⟩ := z_pourAct hj hk hne
    exact ⟨fun z => absurd z n1, fun _ => ⟨fun z => absurd z n2, fun _ => ⟨fun z => absurd z n3, fun _ => by rw [ea, h.js]; exact (zm_most hn ha (zal_3 (by omega) hal) h.cok h.cm t.mo t.mb t.ms).2⟩⟩⟩
  · exact ⟨fun _ => trivial, fun z => absurd h2 z⟩
  · exact ⟨fun z => absurd z n1, fun _ => ⟨fun _ => trivial, fun z => absurd h2 z⟩⟩
  · exact ⟨fun z => absurd z n1, fun _ => ⟨fun z => absurd z n2, fun _ => ⟨fun _ => trivial, fun z => absurd h3 z⟩⟩⟩
  · obtain ⟨ha, hal, ea⟩ := z_pourAct hj hk hne
    have ep : f_X3_pourNumber (nI j) (nI k) = nI (6 + 3 * j + k) := ea
    have t0 : t_X3_leftAtMost c.vr (nI j) (nI k) = 0 := by unfold t_X3_leftAtMost; rw [if_pos h1]
    have e1 := (zc_most hn ha (zal_3 (by omega) hal) h.cok h.cc c.vi c.ai c.sn).1
    have e2 := (zm_most hn ha (zal_3 (by omega) hal) h.cok h.cm t.mo t.mb t.ms).1
    rw [← h.jc] at e1
    rw [← h.js] at e2
    unfold zAn zk_leftAtMost zM_leftAtMost zO_leftAtMost mk_leftAtMost
    simp only [f_L_leftAtMost, f_X3_leftAtMost, f_X4_leftAtMost, if_pos t0, if_pos h1, if_neg n1, if_neg n2, if_neg n3, ea, ep]
    exact ⟨trivial, fun _ => by rw [z_up0, e1, e2]⟩
  · have t0 : t_X3_leftAtMost c.vr p q = 1 := by unfold t_X3_leftAtMost; rw [if_neg (by rw [h1]; decide), if_pos h1]
    have t1 : ¬ t_X3_leftAtMost c.vr p q = 0 := by rw [t0]; decide
    unfold zAn zk_leftAtMost zM_leftAtMost zO_leftAtMost mk_leftAtMost
    simp only [f_L_leftAtMost, f_X4_leftAtMost, if_neg t1, if_pos t0, if_pos h2]
    exact ⟨rfl, fun z => absurd z (by decide)⟩
  · have t0 : t_X3_leftAtMost c.vr p q = 1 := by unfold t_X3_leftAtMost; rw [if_neg (by rw [h1]; decide), if_pos h1]
    have t1 : ¬ t_X3_leftAtMost c.vr p q = 0 := by rw [t0]; decide
    unfold zAn zk_leftAtMost zM_leftAtMost zO_leftAtMost mk_leftAtMost
    simp only [f_L_leftAtMost, f_X4_leftAtMost, if_neg t1, if_pos t0, if_neg n1, if_pos h2]
    exact ⟨rfl, fun z => absurd z (by decide)⟩
  · have t0 : t_X3_leftAtMost c.vr p q = 2 := by unfold t_X3_leftAtMost; rw [if_neg (by rw [h1]; decide), if_neg (by rw [h1]; decide)]
    have t1 : ¬ t_X3_leftAtMost c.vr p q = 0 := by rw [t0]; decide
    have t2 : ¬ t_X3_leftAtMost c.vr p q = 1 := by rw [t0]; decide
    unfold zAn zk_leftAtMost zM_leftAtMost zO_leftAtMost mk_leftAtMost
    simp only [f_L_leftAtMost, f_X4_leftAtMost, if_neg t1, if_neg t2, if_neg n1, if_neg n2, if_pos h3]
    exact ⟨rfl, fun z => absurd z (by decide)⟩
theorem zNm_729 {n : Nat} {C : zCs} : zNm C 729 ≤ 729 := zNm_le C 729
theorem zo_bestPour {c : zS} {t : zM} (h : zRel c t) : zs_bestPour c ∧ ms_bestPour t ∧ zk_bestPour c = mk_bestPour t ∧ zRel (zS_bestPour c) (zM_bestPour t) := by
  obtain ⟨V, X, C, h⟩ := h
  have hn := zn_23 V
  have L := zc_bestLoop h.h9 h.pv h.vr h.cok h.cc 9 6 c.vi c.ai c.sn (-1) (zNm C 729) (by omega) (zNm_le C 729)
  have M := zm_bestLoop hn h.cok h.cm 9 6 t.mo t.mb t.ms (-1) (zNm C 729) (by omega) (zNm_le C 729)
  rw [← h.jc, ← h.lf, show 9 + 1 = 10 from rfl] at L
  rw [← h.js, ← zm_left hn h.cok h.cm, show 9 + 1 = 10 from rfl] at M
  refine ⟨?_, ?_, ?_, V, X, C, by unfold zS_bestPour zM_bestPour; exact zR.t2 (zR.g2 h _ _ _ _) _ _ _ _ _ _ _⟩
  · unfold zs_bestPour s_X3_bestPour f_X0_candidatesLeft; exact L.2
  · unfold ms_bestPour s_X4_bestPour s_X4_tellsMost; exact M.2
  · unfold zk_bestPour mk_bestPour f_X3_bestPour f_X4_bestPour f_X4_ok f_X4_tellsMost f_X0_candidatesLeft
    dsimp only
    rw [L.1, M.1]
