/-! answers from the ways -/
theorem z_ways_eq (vr ar vs as ds fa od : Nat → Int32) (rd : Int32) : f_X3_waysFromHere vr ar vs as ds fa od rd = f_X2_explore vs as ds fa od rd vr ar := by
  unfold f_X3_waysFromHere
  generalize f_X2_explore vs as ds fa od rd vr ar = d
  rfl
def zW (c : zS) : (Nat → Int32) × (Nat → Int32) × (Nat → Int32) × (Nat → Int32) × (Nat → Int32) × Int32 := f_X3_waysFromHere c.vr c.ar c.vs c.asF c.ds c.fa c.od c.rd
theorem zR.gd {V X : Nat → Nat} {C : zCs} {c : zS} {t : zM} (h : zR V X C c t) : zGd V (zBFS V (zst X)) ∧ zst X < 1000 ∧ zOK V (zdg (zst X)) := by
  have hs := zst_lt h.ok
  have ok2 : zOK V (zdg (zst X)) := h.ok.congr (fun j hj => (zdg_st h.ok hj).symm)
  exact ⟨zGd_BFS hs ok2, hs, ok2⟩
theorem zR.w {V X : Nat → Nat} {C : zCs} {c : zS} {t : zM} (h : zR V X C c t) : s_X3_waysFromHere c.vr c.ar c.vs c.asF c.ds c.fa c.od c.rd ∧ zE3 (zW c).1 V ∧ zWc (zBFS V (zst X)) (zW c).2.2.1 (zW c).2.2.2.1 (zW c).2.2.2.2.1 (zW c).2.2.2.2.2 ∧ ∀ as : Nat → Int32, zR V X C (c.vr, c.ar, (zW c).1, as, (zW c).2.2.1, (zW c).2.2.2.1, (zW c).2.2.2.2.1, (zW c).2.2.2.2.2, c.vi, c.ai, c.hd, c.sn, c.jc, c.lf, c.ad, c.pd, c.sp, c.tk, c.gm, c.gw) t := by
  have E := zc_explore (as := c.asF) h.vr h.ar h.ok h.pv h.ws
  have e : zW c = f_X2_explore c.vs c.asF c.ds c.fa c.od c.rd c.vr c.ar := z_ways_eq ..
  rw [← e] at E
  have G := h.gd.1
  have hl := zGd_len G
  have h0 := zBFS_len V (zst X)
  generalize zW c = W at E ⊢
  refine ⟨E.2, E.1.1, E.1.2, fun as => ⟨h.1, h.cok, h.vr, h.ar, h.mv, h.ma, h.jc, h.js, h.cc, h.cm, h.lf, h.ad, h.pd, h.sp, h.tk, h.gm, h.gw, Or.inr ⟨E.1, ?_⟩⟩⟩
  have e2 : W.2.2.2.2.2 = nI (zBFS V (zst X)).length := E.1.2.1
  show (0 : Int32) < W.2.2.2.2.2
  rw [e2, zl0]
  exact nI_lt h0 (by omega)
/-- the first state with an amount -/
def zTv (V : Nat → Nat) (v : Nat) : Nat → Bool := fun t => zhas (zn V) (zdg t) v
def zF (V X : Nat → Nat) (v : Nat) : Option (Nat × Nat × Nat) := zFst (zBFS V (zst X)) (zTv V v)
theorem zR.least {V X : Nat → Nat} {C : zCs} {c : zS} {t : zM} (h : zR V X C c t) {v : Nat} (h9 : v ≤ 9) : (∀ as, (f_X2_leastActsTo (zW c).1 as (zW c).2.2.1 (zW c).2.2.2.2.1 (zW c).2.2.2.2.2 (nI v)).1 = zDi (zF V X v)) ∧ ∀ mf mr re mo mb, (f_X4_leastFrom t.js t.mv mf mr re mo mb (f_X4_state t.ma) (nI v)).1 = zDi (zF V X v) ∧ s_X4_leastFrom t.js t.mv mf mr re mo mb (f_X4_state t.ma) (nI v) := by
  have w := h.w
  have G := h.gd
  refine ⟨fun as => zc_least w.2.1 w.2.2.1 G.1 as (by omega), fun mf mr re mo mb => ?_⟩
  rw [zq_stateM h.ma, h.js]
  exact zm_least h.mv mf mr re mo mb G.2.1 G.2.2 (by omega)
theorem zF_lt {V X : Nat → Nat} {C : zCs} {c : zS} {t : zM} (h : zR V X C c t) {v : Nat} {e : Nat × Nat × Nat} (he : zF V X v = some e) : e.2.1 < 1000 ∧ e.2.2 < 15 := by
  obtain ⟨i, hi, -⟩ := zFst_some he
  have G := h.gd.1
  have g := G.2 i e hi
  have hl := zGd_len G
  have := (List.getElem?_eq_some_iff.mp hi).1
  exact ⟨by omega, g.2.2.2.2⟩
theorem zo_leastActs {c : zS} {t : zM} (h : zRel c t) (ou : Nat → Int64) (p : Int32) : zs_leastActs c p ∧ ms_leastActs t p ∧ zAn (zk_leastActs c ou p) (zM_leastActs t p).th (zO_leastActs c ou p 0) (mk_leastActs t p).toInt64 ∧ zRel (zS_leastActs c ou p) (zM_leastActs t p) := by
  obtain ⟨V, X, C, h⟩ := h
  have w := h.w
  have sS : s_X3_leastActs c.vr c.ar c.vs c.asF c.ds c.fa c.od c.rd p → zs_leastActs c p := fun z => ⟨fun _ => z, fun _ => z⟩
  rcases za_cases p with ⟨v, hv, rfl, h1, h2⟩ | ⟨h1, h2⟩
  · have n2 : ¬ f_X4_isAmount (nI v) = 0 := by rw [h2]; decide
    have t0 : t_X3_leastActs (nI v) = 0 := by unfold t_X3_leastActs; rw [if_pos h1]
    have L := h.least hv
    have e2 : f_X3_leastActs_t2 c.vr c.ar c.vs c.asF c.ds c.fa c.od c.rd (nI v) = zDi (zF V X v) := by
      unfold f_X3_leastActs_t2; exact L.1 _
    refine ⟨sS ⟨fun _ => w.1, fun _ => trivial⟩, ⟨fun z => absurd z n2, fun _ => (L.2 _ _ _ _ _).2⟩, ?_, V, X, C, ?_⟩
    · unfold zAn zk_leastActs zM_leastActs zO_leastActs mk_leastActs
      simp only [f_L_leastActs, f_X3_leastActs, f_X4_leastActs, if_pos t0, if_pos h1, if_neg n2, e2, (L.2 _ _ _ _ _).1]
      exact ⟨trivial, fun _ => z_up0 ou _⟩
    · unfold zS_leastActs zM_leastActs
      simp only [f_L_leastActs, f_X3_leastActs, f_X4_leastActs, if_pos t0, if_pos h1, if_neg n2]
      exact zR.t2 (w.2.2.2 _) _ _ _ _ _ _ _
  · have n1 : ¬ t_X3_checkAmount p = 0 := by rw [h1]; decide
    have t0 : ¬ t_X3_leastActs p = 0 := by unfold t_X3_leastActs; rw [if_neg n1]; decide
    refine ⟨sS ⟨fun z => absurd z n1, fun _ => trivial⟩, ⟨fun _ => trivial, fun z => absurd h2 z⟩, ?_, V, X, C, ?_⟩
    · unfold zAn zk_leastActs zM_leastActs zO_leastActs mk_leastActs
      simp only [f_L_leastActs, f_X4_leastActs, if_neg t0, if_pos h2]
      exact ⟨rfl, fun z => absurd z (by decide)⟩
    · unfold zS_leastActs zM_leastActs
      simp only [f_L_leastActs, f_X3_leastActs, f_X4_leastActs, if_neg t0, if_neg n1, if_pos h2]
      exact zR.t2 (zR.g2 h _ _ _ _) _ _ _ _ _ _ _
theorem zo_leastActsIn {c : zS} {t : zM} (h : zRel c t) (ou : Nat → Int64) (p q : Int32) : zs_leastActsIn c p q ∧ ms_leastActsIn t p q ∧ zAn (zk_leastActsIn c ou p q) (zM_leastActsIn t p q).th (zO_leastActsIn c ou p q 0) (mk_leastActsIn t p q).toInt64 ∧ zRel (zS_leastActsIn c ou p q) (zM_leastActsIn t p q) := by
  obtain ⟨V, X, C, h⟩ := h
  have w := h.w
  have sS : s_X3_leastActsIn c.vr c.ar c.vs c.asF c.ds c.fa c.od c.rd p q → zs_leastActsIn c p q := fun z => ⟨fun _ => z, fun _ => ⟨fun _ => z, fun _ => z⟩⟩
  rcases zj_cases h.vr h.h9 h.pv p with ⟨j, hj, rfl, h1, h2⟩ | ⟨h1, h2⟩ <;> rw [← h.js] at h2
  · have hj3 : j < 3 := by have := zn_23 V; omega
    have n2 : ¬ f_X4_isJar t.js (nI j) = 0 := by rw [h2]; decide
    rcases za_cases q with ⟨v, hv, rfl, g1, g2⟩ | ⟨g1, g2⟩
    · have m2 : ¬ f_X4_isAmount (nI v) = 0 := by rw [g2]; decide
      have t0 : t_X3_leastActsIn c.vr (nI j) (nI v) = 0 := by unfold t_X3_leastActsIn; rw [if_pos h1, if_pos g1]
      have e2 : f_X3_leastActsIn_t2 c.vr c.ar c.vs c.asF c.ds c.fa c.od c.rd (nI j) (nI v) = zDi (zFst (zBFS V (zst X)) (fun t => decide (zdg t j = v))) := by
        unfold f_X3_leastActsIn_t2; exact zc_leastWith w.2.2.1 h.gd.1 _ hj3 (by omega)
      have M := zm_leastIn h.mv h.ma h.ok t.mf t.mr t.re t.mo t.mb hj3 (v := v) (by omega)
      rw [← h.js] at M
      refine ⟨sS ⟨fun _ => ⟨fun _ => w.1, fun _ => trivial⟩, fun _ => trivial⟩, ⟨fun z => absurd z n2, fun _ => ⟨fun z => absurd z m2, fun _ => M.2⟩⟩, ?_, V, X, C, ?_⟩
      · unfold zAn zk_leastActsIn zM_leastActsIn zO_leastActsIn mk_leastActsIn
        simp only [f_L_leastActsIn, f_X3_leastActsIn, f_X4_leastActsIn, if_pos t0, if_pos h1, if_pos g1, if_neg n2, if_neg m2, e2, M.1]
        exact ⟨trivial, fun _ => z_up0 ou _⟩
      · unfold zS_leastActsIn zM_leastActsIn
        simp only [f_L_leastActsIn, f_X3_leastActsIn, f_X4_leastActsIn, if_pos t0, if_pos h1, if_pos g1, if_neg n2, if_neg m2]
        exact zR.t2 (w.2.2.2 _) _ _ _ _ _ _ _
    · have k1 : ¬ t_X3_checkAmount q = 0 := by rw [g1]; decide
      have t0 : t_X3_leastActsIn c.vr (nI j) q = 2 := by unfold t_X3_leastActsIn; rw [if_pos h1, if_neg k1]
      have t1 : ¬ t_X3_leastActsIn c.vr (nI j) q = 0 := by rw [t0]; decide
      have t2 : ¬ t_X3_leastActsIn c.vr (nI j) q = 1 := by rw [t0]; decide
      refine ⟨sS ⟨fun _ => ⟨fun z => absurd z k1, fun _ => trivial⟩, fun _ => trivial⟩, ⟨fun z => absurd z n2, fun _ => ⟨fun _ => trivial, fun z => absurd g2 z⟩⟩, ?_, V, X, C, ?_⟩
      · unfold zAn zk_leastActsIn zM_leastActsIn zO_leastActsIn mk_leastActsIn
        simp only [f_L_leastActsIn, f_X4_leastActsIn, if_neg t1, if_neg t2, if_neg n2, if_pos g2]
        exact ⟨rfl, fun z => absurd z (by decide)⟩
      · unfold zS_leastActsIn zM_leastActsIn
        simp only [f_L_leastActsIn, f_X3_leastActsIn, f_X4_leastActsIn, if_neg t1, if_neg t2, if_neg n2, if_pos g2, if_pos h1, if_neg k1]
        exact zR.t2 (zR.g2 h _ _ _ _) _ _ _ _ _ _ _
  · have n1 : ¬ t_X3_checkJar c.vr p = 0 := by rw [h1]; decide
    have t0 : t_X3_leastActsIn c.vr p q = 1 := by unfold t_X3_leastActsIn; rw [if_neg n1]
    have t1 : ¬ t_X3_leastActsIn c.vr p q = 0 := by rw [t0]; decide
    refine ⟨sS ⟨fun z => absurd z n1, fun _ => trivial⟩, ⟨fun _ => trivial, fun z => absurd h2 z⟩, ?_, V, X, C, ?_⟩
    · unfold zAn zk_leastActsIn zM_leastActsIn zO_leastActsIn mk_leastActsIn
      simp only [f_L_leastActsIn, f_X4_leastActsIn, if_neg t1, if_pos t0, if_pos h2]
      exact ⟨rfl, fun z => absurd z (by decide)⟩
    · unfold zS_leastActsIn zM_leastActsIn
      simp only [f_L_leastActsIn, f_X3_leastActsIn, f_X4_leastActsIn, if_neg t1, if_pos t0, if_pos h2, if_neg n1]
      exact zR.t2 (zR.g2 h _ _ _ _) _ _ _ _ _ _ _
theorem zo_statesAway {c : zS} {t : zM} (h : zRel c t) (ou : Nat → Int64) (p : Int32) : zs_statesAway c p ∧ ms_statesAway t p ∧ zAn (zk_statesAway c ou p) (zM_statesAway t p).th (zO_statesAway c ou p 0) (mk_statesAway t p).toInt64 ∧ zRel (zS_statesAway c ou p) (zM_statesAway t p) := by
  obtain ⟨V, X, C, h⟩ := h
  have w := h.w
  have sS : s_X3_statesAway c.vr c.ar c.vs c.asF c.ds c.fa c.od c.rd p → zs_statesAway c p := fun z => ⟨fun _ => z, fun _ => z⟩
  rcases zx_cases 0 (by omega) p with ⟨v, -, hv, rfl, h1, h2⟩ | ⟨h1, h2⟩ <;> rw [← zl0] at h1 h2
  · have n2 : ¬ f_X4_isIn (nI v) 0 50 = 0 := by rw [h2]; decide
    have t0 : t_X3_statesAway (nI v) = 0 := by unfold t_X3_statesAway; rw [if_pos h1]
    have e2 : f_X3_statesAway_t1 c.vr c.ar c.vs c.asF c.ds c.fa c.od c.rd (nI v) = zCn (zBFS V (zst X)) (nI v) ((zBFS V (zst X)).length + 1) 0 0 := by
      unfold f_X3_statesAway_t1; exact zc_statesAt w.2.2.1 h.gd.1 _
    have M := zm_away h.mv h.ma h.ok t.mf t.mr t.re t.mo t.mb (nI v)
    rw [← h.js] at M
    refine ⟨sS ⟨fun _ => w.1, fun _ => trivial⟩, ⟨fun z => absurd z n2, fun _ => M.2⟩, ?_, V, X, C, ?_⟩
    · unfold zAn zk_statesAway zM_statesAway zO_statesAway mk_statesAway
      simp only [f_L_statesAway, f_X3_statesAway, f_X4_statesAway, if_pos t0, if_pos h1, if_neg n2, e2, M.1]
      exact ⟨trivial, fun _ => z_up0 ou _⟩
    · unfold zS_statesAway zM_statesAway
      simp only [f_L_statesAway, f_X3_statesAway, f_X4_statesAway, if_pos t0, if_pos h1, if_neg n2]
      exact zR.t2 (w.2.2.2 _) _ _ _ _ _ _ _
  · have n1 : ¬ t_X3_checkActs p 0 = 0 := by rw [h1]; decide
    have t0 : ¬ t_X3_statesAway p = 0 := by unfold t_X3_statesAway; rw [if_neg n1]; decide
    refine ⟨sS ⟨fun z => absurd z n1, fun _ => trivial⟩, ⟨fun _ => trivial, fun z => absurd h2 z⟩, ?_, V, X, C, ?_⟩
    · unfold zAn zk_statesAway zM_statesAway zO_statesAway mk_statesAway
      simp only [f_L_statesAway, f_X4_statesAway, if_neg t0, if_pos h2]
      exact ⟨rfl, fun z => absurd z (by decide)⟩
    · unfold zS_statesAway zM_statesAway
      simp only [f_L_statesAway, f_X3_statesAway, f_X4_statesAway, if_neg t0, if_neg n1, if_pos h2]
      exact zR.t2 (zR.g2 h _ _ _ _) _ _ _ _ _ _ _
theorem zo_statesToReach {c : zS} {t : zM} (h : zRel c t) : zs_statesToReach c ∧ ms_statesToReach t ∧ zk_statesToReach c = mk_statesToReach t ∧ zRel (zS_statesToReach c) (zM_statesToReach t) := by
  obtain ⟨V, X, C, h⟩ := h
  have w := h.w
  have M := zm_reach9 h.mv h.ma h.ok t.mf t.mr t.re t.mo t.mb
  rw [← h.js] at M
  refine ⟨w.1, M.2, ?_, V, X, C, ?_⟩
  · unfold zk_statesToReach mk_statesToReach f_X4_statesToReach f_X4_ok f_X3_statesToReach f_X2_statesReached
    dsimp only
    rw [M.1]; exact w.2.2.1.1
  · unfold zS_statesToReach zM_statesToReach f_X3_statesToReach
    dsimp only
    exact zR.t2 (w.2.2.2 _) _ _ _ _ _ _ _
theorem zo_farthest {c : zS} {t : zM} (h : zRel c t) : zs_farthest c ∧ ms_farthest t ∧ zk_farthest c = mk_farthest t ∧ zRel (zS_farthest c) (zM_farthest t) := by
  obtain ⟨V, X, C, h⟩ := h
  have w := h.w
  have h0 := zBFS_len V (zst X)
  have he : (zBFS V (zst X))[(zBFS V (zst X)).length - 1]? = some ((zBFS V (zst X))[(zBFS V (zst X)).length - 1]'(by omega)) := List.getElem?_eq_getElem (by omega)
  have M := zm_far h.mv h.ma h.ok t.mf t.mr t.re t.mo t.mb he
  have K := zc_far w.2.2.1 h.gd.1 h0 he
  rw [← h.js] at M
  refine ⟨w.1, M.2, ?_, V, X, C, ?_⟩
  · unfold zk_farthest mk_farthest f_X4_farthest f_X4_ok f_X3_farthest f_X3_farthest_t1
    dsimp only
    rw [M.1]; exact K
  · unfold zS_farthest zM_farthest f_X3_farthest
    dsimp only
    exact zR.t2 (w.2.2.2 _) _ _ _ _ _ _ _
