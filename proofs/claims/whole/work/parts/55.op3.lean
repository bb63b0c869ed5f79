/-! small answers -/
theorem zo_volumeOf {c : zS} {t : zM} (h : zRel c t) (ou : Nat → Int64) (p : Int32) : zs_volumeOf c p ∧ ms_volumeOf t p ∧ zAn (zk_volumeOf c ou p) (zM_volumeOf t p).th (zO_volumeOf c ou p 0) (mk_volumeOf t p).toInt64 ∧ zRel (zS_volumeOf c ou p) (zM_volumeOf t p) := by
  obtain ⟨V, X, C, h⟩ := h
  refine ⟨trivial, ?_, ?_, V, X, C, zR.t h rfl rfl rfl rfl rfl rfl rfl rfl rfl rfl rfl⟩
  all_goals rcases zj_cases h.vr h.h9 h.pv p with ⟨j, hj, rfl, h1, h2⟩ | ⟨h1, h2⟩ <;> rw [← h.js] at h2
  · exact ⟨fun _ => trivial, fun _ => vp_in_nI (by have := zn_23 V; omega) (by omega)⟩
  · exact ⟨fun _ => trivial, fun z => absurd h2 z⟩
  · have hj3 : j < 3 := by have := zn_23 V; omega
    have t0 : t_X3_volumeOf c.vr (nI j) = 0 := by unfold t_X3_volumeOf; rw [if_pos h1]
    unfold zAn zk_volumeOf zM_volumeOf zO_volumeOf mk_volumeOf
    simp only [f_L_volumeOf, f_X3_volumeOf, f_X4_volumeOf, t0, h1, h2, if_neg (show ¬ (1 : Int32) = 0 by decide), ↓reduceIte]
    exact ⟨trivial, fun _ => by rw [z_up0, zr_vol hj3, nI_clamp (by omega), h.vr j hj3, h.mv j hj3]⟩
  · have n1 : ¬ t_X3_checkJar c.vr p = 0 := by rw [h1]; decide
    have t0 : ¬ t_X3_volumeOf c.vr p = 0 := by unfold t_X3_volumeOf; rw [if_neg n1]; decide
    unfold zAn zk_volumeOf zM_volumeOf zO_volumeOf mk_volumeOf
    simp only [f_L_volumeOf, f_X4_volumeOf, if_neg t0, h2, ↓reduceIte]
    exact ⟨rfl, fun z => absurd z (by decide)⟩
theorem zo_amountOf {c : zS} {t : zM} (h : zRel c t) (ou : Nat → Int64) (p : Int32) : zs_amountOf c p ∧ ms_amountOf t p ∧ zAn (zk_amountOf c ou p) (zM_amountOf t p).th (zO_amountOf c ou p 0) (mk_amountOf t p).toInt64 ∧ zRel (zS_amountOf c ou p) (zM_amountOf t p) := by
  obtain ⟨V, X, C, h⟩ := h
  refine ⟨trivial, ?_, ?_, V, X, C, zR.t h rfl rfl rfl rfl rfl rfl rfl rfl rfl rfl rfl⟩
  all_goals rcases zj_cases h.vr h.h9 h.pv p with ⟨j, hj, rfl, h1, h2⟩ | ⟨h1, h2⟩ <;> rw [← h.js] at h2
  · exact ⟨fun _ => trivial, fun _ => vp_in_nI (by have := zn_23 V; omega) (by omega)⟩
  · exact ⟨fun _ => trivial, fun z => absurd h2 z⟩
  · have hj3 : j < 3 := by have := zn_23 V; omega
    have t0 : t_X3_amountOf c.vr (nI j) = 0 := by unfold t_X3_amountOf; rw [if_pos h1]
    unfold zAn zk_amountOf zM_amountOf zO_amountOf mk_amountOf
    simp only [f_L_amountOf, f_X3_amountOf, f_X4_amountOf, t0, h1, h2, if_neg (show ¬ (1 : Int32) = 0 by decide), ↓reduceIte]
    exact ⟨trivial, fun _ => by rw [z_up0, zr_amt hj3, nI_clamp (by omega), h.ar j hj3, h.ma j hj3]⟩
  · have n1 : ¬ t_X3_checkJar c.vr p = 0 := by rw [h1]; decide
    have t0 : ¬ t_X3_amountOf c.vr p = 0 := by unfold t_X3_amountOf; rw [if_neg n1]; decide
    unfold zAn zk_amountOf zM_amountOf zO_amountOf mk_amountOf
    simp only [f_L_amountOf, f_X4_amountOf, if_neg t0, h2, ↓reduceIte]
    exact ⟨rfl, fun z => absurd z (by decide)⟩
/-- a boolean answer through the array -/
theorem zb_out {x : Int32} (h : zb x) (ou : Nat → Int64) : (if x = 0 then ((0 : Int32), vp_updL ou (0 : Int32).toNatClampNeg (0 : Int64)) else ((0 : Int32), vp_updL ou (0 : Int32).toNatClampNeg (1 : Int64))) = ((0 : Int32), vp_updL ou (0 : Int32).toNatClampNeg x.toInt64) := by
  rcases h with rfl | rfl
  · rw [if_pos rfl]; rfl
  · rw [if_neg (by decide)]; rfl
theorem zo_isEmpty {c : zS} {t : zM} (h : zRel c t) (ou : Nat → Int64) (p : Int32) : zs_isEmpty c p ∧ ms_isEmpty t p ∧ zAn (zk_isEmpty c ou p) (zM_isEmpty t p).th (zO_isEmpty c ou p 0) (mk_isEmpty t p).toInt64 ∧ zRel (zS_isEmpty c ou p) (zM_isEmpty t p) := by
  obtain ⟨V, X, C, h⟩ := h
  refine ⟨trivial, ?_, ?_, V, X, C, zR.t h rfl rfl rfl rfl rfl rfl rfl rfl rfl rfl rfl⟩
  all_goals rcases zj_cases h.vr h.h9 h.pv p with ⟨j, hj, rfl, h1, h2⟩ | ⟨h1, h2⟩ <;> rw [← h.js] at h2
  · exact ⟨fun _ => trivial, fun _ => vp_in_nI (by have := zn_23 V; omega) (by omega)⟩
  · exact ⟨fun _ => trivial, fun z => absurd h2 z⟩
  · have hj3 : j < 3 := by have := zn_23 V; omega
    have t0 : t_X3_isEmpty c.vr (nI j) = 0 := by unfold t_X3_isEmpty; rw [if_pos h1]
    have e : f_X3_isEmpty c.vr c.ar (nI j) = (f_X4_isEmpty t.th t.js t.ma (nI j)).1 := by
      unfold f_X3_isEmpty f_X4_isEmpty f_X1_emptyAt
      rw [if_pos h1, h2, if_neg (show ¬ (1 : Int32) = 0 by decide), zr_amt hj3, nI_clamp (by omega), h.ar j hj3, h.ma j hj3]
      split <;> rfl
    unfold zAn zk_isEmpty zM_isEmpty zO_isEmpty mk_isEmpty f_L_isEmpty
    rw [if_pos t0, zb_out (b_X3_isEmpty c.vr c.ar (nI j)), e]
    refine ⟨?_, fun _ => z_up0 ou _⟩
    show (f_X4_isEmpty t.th t.js t.ma (nI j)).2 = 0
    unfold f_X4_isEmpty
    rw [h2, if_neg (by decide)]
    split <;> rfl
  · have n1 : ¬ t_X3_checkJar c.vr p = 0 := by rw [h1]; decide
    have t0 : ¬ t_X3_isEmpty c.vr p = 0 := by unfold t_X3_isEmpty; rw [if_neg n1]; decide
    unfold zAn zk_isEmpty zM_isEmpty zO_isEmpty mk_isEmpty
    simp only [f_L_isEmpty, f_X4_isEmpty, if_neg t0, h2, ↓reduceIte]
    exact ⟨rfl, fun z => absurd z (by decide)⟩
theorem zo_isFull {c : zS} {t : zM} (h : zRel c t) (ou : Nat → Int64) (p : Int32) : zs_isFull c p ∧ ms_isFull t p ∧ zAn (zk_isFull c ou p) (zM_isFull t p).th (zO_isFull c ou p 0) (mk_isFull t p).toInt64 ∧ zRel (zS_isFull c ou p) (zM_isFull t p) := by
  obtain ⟨V, X, C, h⟩ := h
  refine ⟨trivial, ?_, ?_, V, X, C, zR.t h rfl rfl rfl rfl rfl rfl rfl rfl rfl rfl rfl⟩
  all_goals rcases zj_cases h.vr h.h9 h.pv p with ⟨j, hj, rfl, h1, h2⟩ | ⟨h1, h2⟩ <;> rw [← h.js] at h2
  · have v : vp_in (nI j) 3 := vp_in_nI (by have := zn_23 V; omega) (by omega)
    exact ⟨fun _ => trivial, fun _ => ⟨v, v⟩⟩
  · exact ⟨fun _ => trivial, fun z => absurd h2 z⟩
  · have hj3 : j < 3 := by have := zn_23 V; omega
    have t0 : t_X3_isFull c.vr (nI j) = 0 := by unfold t_X3_isFull; rw [if_pos h1]
    have e : f_X3_isFull c.vr c.ar (nI j) = (f_X4_isFull t.th t.js t.mv t.ma (nI j)).1 := by
      unfold f_X3_isFull f_X4_isFull f_X1_fullAt
      rw [if_pos h1, h2, if_neg (show ¬ (1 : Int32) = 0 by decide), zr_amt hj3, zr_vol hj3, nI_clamp (by omega), h.ar j hj3, h.ma j hj3, h.vr j hj3, h.mv j hj3]
      split <;> rfl
    unfold zAn zk_isFull zM_isFull zO_isFull mk_isFull f_L_isFull
    rw [if_pos t0, zb_out (b_X3_isFull c.vr c.ar (nI j)), e]
    refine ⟨?_, fun _ => z_up0 ou _⟩
    show (f_X4_isFull t.th t.js t.mv t.ma (nI j)).2 = 0
    unfold f_X4_isFull
    rw [h2, if_neg (by decide)]
    split <;> rfl
  · have n1 : ¬ t_X3_checkJar c.vr p = 0 := by rw [h1]; decide
    have t0 : ¬ t_X3_isFull c.vr p = 0 := by unfold t_X3_isFull; rw [if_neg n1]; decide
    unfold zAn zk_isFull zM_isFull zO_isFull mk_isFull
    simp only [f_L_isFull, f_X4_isFull, if_neg t0, h2, ↓reduceIte]
    exact ⟨rfl, fun z => absurd z (by decide)⟩
theorem zo_isThere {c : zS} {t : zM} (h : zRel c t) (ou : Nat → Int64) (p : Int32) : zs_isThere c p ∧ ms_isThere t p ∧ zAn (zk_isThere c ou p) (zM_isThere t p).th (zO_isThere c ou p 0) (mk_isThere t p).toInt64 ∧ zRel (zS_isThere c ou p) (zM_isThere t p) := by
  obtain ⟨V, X, C, h⟩ := h
  refine ⟨trivial, trivial, ?_, V, X, C, zR.t h rfl rfl rfl rfl rfl rfl rfl rfl rfl rfl rfl⟩
  rcases za_cases p with ⟨v, hv, rfl, h1, h2⟩ | ⟨h1, h2⟩
  · have t0 : t_X3_isThere (nI v) = 0 := by unfold t_X3_isThere; rw [if_pos h1]
    have n2 : ¬ f_X4_isAmount (nI v) = 0 := by rw [h2]; decide
    have e : f_X3_isThere c.vr c.ar (nI v) = (f_X4_isThere t.th t.js t.ma (nI v)).1 := by
      unfold f_X3_isThere f_X4_isThere
      rw [if_pos h1, if_neg n2, zr_some h.vr h.ar h.ok (by omega), zq_stateM h.ma, h.js, zq_some (zn_23 V) (zst_lt h.ok) (by omega)]
      rw [zhas_congr (fun j hj => zdg_st h.ok hj)]
    unfold zAn zk_isThere zM_isThere zO_isThere mk_isThere f_L_isThere
    rw [if_pos t0, zb_out (b_X3_isThere c.vr c.ar (nI v)), e]
    refine ⟨?_, fun _ => z_up0 ou _⟩
    show (f_X4_isThere t.th t.js t.ma (nI v)).2 = 0
    unfold f_X4_isThere
    rw [if_neg n2]
  · have n1 : ¬ t_X3_checkAmount p = 0 := by rw [h1]; decide
    have t0 : ¬ t_X3_isThere p = 0 := by unfold t_X3_isThere; rw [if_neg n1]; decide
    unfold zAn zk_isThere zM_isThere zO_isThere mk_isThere
    simp only [f_L_isThere, f_X4_isThere, if_neg t0, h2, ↓reduceIte]
    exact ⟨rfl, fun z => absurd z (by decide)⟩
/-! numbers that are kept -/
theorem zo_jars {c : zS} {t : zM} (h : zRel c t) : zk_jars c = mk_jars t ∧ zRel (zS_jars c) (zM_jars t) := by
  obtain ⟨V, X, C, h⟩ := h
  refine ⟨?_, V, X, C, zR.t h rfl rfl rfl rfl rfl rfl rfl rfl rfl rfl rfl⟩
  show f_X1_count c.vr = t.js
  rw [zr_count h.vr h.h9, h.js]
theorem zo_heldInAll {c : zS} {t : zM} (h : zRel c t) : zk_heldInAll c = mk_heldInAll t ∧ zRel (zS_heldInAll c) (zM_heldInAll t) := by
  obtain ⟨V, X, C, h⟩ := h
  refine ⟨?_, V, X, C, zR.t h rfl rfl rfl rfl rfl rfl rfl rfl rfl rfl rfl⟩
  show f_X3_heldInAll c.ar = f_X4_all t.ma
  unfold f_X3_heldInAll f_X4_all
  rw [zl0, zl1, zl2, zr_amt (by omega), zr_amt (by omega), zr_amt (by omega), nI_clamp (by omega), nI_clamp (by omega), nI_clamp (by omega), h.ar 0 (by omega), h.ar 1 (by omega), h.ar 2 (by omega), h.ma 0 (by omega), h.ma 1 (by omega), h.ma 2 (by omega)]
theorem zo_acts {c : zS} {t : zM} (h : zRel c t) : zk_acts c = mk_acts t ∧ zRel (zS_acts c) (zM_acts t) := by
  obtain ⟨V, X, C, h⟩ := h
  exact ⟨h.ad, V, X, C, zR.t h rfl rfl rfl rfl rfl rfl rfl rfl rfl rfl rfl⟩
theorem zo_pouredInAll {c : zS} {t : zM} (h : zRel c t) : zk_pouredInAll c = mk_pouredInAll t ∧ zRel (zS_pouredInAll c) (zM_pouredInAll t) := by
  obtain ⟨V, X, C, h⟩ := h
  exact ⟨h.pd, V, X, C, zR.t h rfl rfl rfl rfl rfl rfl rfl rfl rfl rfl rfl⟩
theorem zo_spilledInAll {c : zS} {t : zM} (h : zRel c t) : zk_spilledInAll c = mk_spilledInAll t ∧ zRel (zS_spilledInAll c) (zM_spilledInAll t) := by
  obtain ⟨V, X, C, h⟩ := h
  exact ⟨h.sp, V, X, C, zR.t h rfl rfl rfl rfl rfl rfl rfl rfl rfl rfl rfl⟩
theorem zo_takenInAll {c : zS} {t : zM} (h : zRel c t) : zk_takenInAll c = mk_takenInAll t ∧ zRel (zS_takenInAll c) (zM_takenInAll t) := by
  obtain ⟨V, X, C, h⟩ := h
  exact ⟨h.tk, V, X, C, zR.t h rfl rfl rfl rfl rfl rfl rfl rfl rfl rfl rfl⟩
theorem zo_guesses {c : zS} {t : zM} (h : zRel c t) : zk_guesses c = mk_guesses t ∧ zRel (zS_guesses c) (zM_guesses t) := by
  obtain ⟨V, X, C, h⟩ := h
  exact ⟨h.gm, V, X, C, zR.t h rfl rfl rfl rfl rfl rfl rfl rfl rfl rfl rfl⟩
theorem zo_wrongGuesses {c : zS} {t : zM} (h : zRel c t) : zk_wrongGuesses c = mk_wrongGuesses t ∧ zRel (zS_wrongGuesses c) (zM_wrongGuesses t) := by
  obtain ⟨V, X, C, h⟩ := h
  exact ⟨h.gw, V, X, C, zR.t h rfl rfl rfl rfl rfl rfl rfl rfl rfl rfl rfl⟩
theorem zo_candidates {c : zS} {t : zM} (h : zRel c t) : zk_candidates c = mk_candidates t ∧ zRel (zS_candidates c) (zM_candidates t) := by
  obtain ⟨V, X, C, h⟩ := h
  refine ⟨?_, V, X, C, zR.t h rfl rfl rfl rfl rfl rfl rfl rfl rfl rfl rfl⟩
  show c.lf = f_X4_left t.ml
  rw [h.lf, zm_left (zn_23 V) h.cok h.cm]
