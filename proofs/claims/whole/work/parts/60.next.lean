/-! the next act; how many amounts; the mean -/
theorem zDi_cases (o : Option (Nat × Nat × Nat)) (hb : ∀ e, o = some e → e.2.1 < 1000) : (∃ e, o = some e ∧ 0 < e.2.1 ∧ zDi o = nI e.2.1 ∧ (0 : Int32) < zDi o ∧ (1 : Int32) ≤ zDi o) ∨ (¬ (0 : Int32) < zDi o ∧ ¬ (1 : Int32) ≤ zDi o) := by
  cases o with
  | none => exact Or.inr ⟨by decide, by decide⟩
  | some e =>
    have b := hb e rfl
    have e1 : zDi (some e) = nI e.2.1 := rfl
    by_cases q : e.2.1 = 0
    · right; rw [e1, q]; decide
    · left
      refine ⟨e, rfl, by omega, e1, ?_, ?_⟩
      · rw [e1, zl0]; exact nI_lt (by omega) (by omega)
      · rw [e1, zl1]; exact nI_le (by omega) (by omega)
theorem zo_nextAct {c : zS} {t : zM} (h : zRel c t) (ou : Nat → Int64) (p : Int32) : zs_nextAct c p ∧ ms_nextAct t p ∧ zAn (zk_nextAct c ou p) (zM_nextAct t p).th (zO_nextAct c ou p 0) (mk_nextAct t p).toInt64 ∧ zRel (zS_nextAct c ou p) (zM_nextAct t p) := by
  obtain ⟨V, X, C, h⟩ := h
  have w := h.w
  have sS : s_X3_nextAct c.vr c.ar c.vs c.asF c.ds c.fa c.od c.rd p → zs_nextAct c p := fun z => ⟨fun _ => z, fun _ => ⟨fun _ => z, fun _ => z⟩⟩
  rcases za_cases p with ⟨v, hv, rfl, h1, h2⟩ | ⟨h1, h2⟩
  · have n2 : ¬ f_X4_isAmount (nI v) = 0 := by rw [h2]; decide
    have L := h.least hv
    have h2r := w.2.2.2 (f_X3_nextAct_t1 c.vr c.ar c.vs c.asF c.ds c.fa c.od c.rd (nI v))
    have w2 := h2r.w
    have e2 : f_X3_nextAct_t2 c.vr c.ar c.vs c.asF c.ds c.fa c.od c.rd (nI v) = zDi (zF V X v) := by
      unfold f_X3_nextAct_t2; exact L.1 _
    have eL := L.2 t.mf t.mr t.re t.mo t.mb
    rcases zDi_cases (zF V X v) (fun e he => (zF_lt h he).1) with ⟨e, he, h0, e3, q1, q2⟩ | ⟨q1, q2⟩
    · have t0 : t_X3_nextAct c.vr c.ar c.vs c.asF c.ds c.fa c.od c.rd (nI v) = 0 := by unfold t_X3_nextAct; rw [if_pos h1, e2, if_pos q1]
      have K : f_X3_nextAct_t10 c.vr c.ar c.vs c.asF c.ds c.fa c.od c.rd (nI v) = nI e.2.2 := by
        unfold f_X3_nextAct_t10
        exact zc_first w2.2.1 w2.2.2.1 h.gd.1 _ (by omega) he h0
      have M := zm_first h.mv h.ma h.ok (v := v) (by omega) he h0 (f_X4_leastFrom t.js t.mv t.mf t.mr t.re t.mo t.mb (f_X4_state t.ma) (nI v)).2.1 (f_X4_leastFrom t.js t.mv t.mf t.mr t.re t.mo t.mb (f_X4_state t.ma) (nI v)).2.2.1 (f_X4_leastFrom t.js t.mv t.mf t.mr t.re t.mo t.mb (f_X4_state t.ma) (nI v)).2.2.2.1 (f_X4_leastFrom t.js t.mv t.mf t.mr t.re t.mo t.mb (f_X4_state t.ma) (nI v)).2.2.2.2.1 (f_X4_leastFrom t.js t.mv t.mf t.mr t.re t.mo t.mb (f_X4_state t.ma) (nI v)).2.2.2.2.2
      rw [← h.js] at M
      have M6 : f_X4_nextAct_t6 t.js t.mv t.ma t.mf t.mr t.re t.mo t.mb (nI v) = nI e.2.2 := by
        unfold f_X4_nextAct_t6
        rw [eL.1, e3]; exact M.1
      refine ⟨sS ⟨fun _ => ⟨w.1, fun _ => w2.1, fun _ => trivial⟩, fun _ => trivial⟩, ⟨fun z => absurd z n2, fun _ => ⟨eL.2, fun _ => ?_, fun _ => trivial⟩⟩, ?_, V, X, C, ?_⟩
      · rw [eL.1, e3]; exact M.2
      · unfold zAn zk_nextAct zM_nextAct zO_nextAct mk_nextAct
        simp only [f_L_nextAct, f_X3_nextAct, f_X4_nextAct, if_pos t0, if_pos h1, if_neg n2, e2, eL.1, if_pos q1, if_pos q2, K, M6]
        exact ⟨trivial, fun _ => z_up0 ou _⟩
      · unfold zS_nextAct zM_nextAct
        simp only [f_L_nextAct, f_X3_nextAct, f_X4_nextAct, if_pos t0, if_pos h1, if_neg n2, e2, eL.1, if_pos q1, if_pos q2]
        exact zR.t2 (w2.2.2.2 _) _ _ _ _ _ _ _
    · have t0 : t_X3_nextAct c.vr c.ar c.vs c.asF c.ds c.fa c.od c.rd (nI v) = 3 := by unfold t_X3_nextAct; rw [if_pos h1, e2, if_neg q1]
      have t1 : ¬ t_X3_nextAct c.vr c.ar c.vs c.asF c.ds c.fa c.od c.rd (nI v) = 0 := by rw [t0]; decide
      have t2 : ¬ t_X3_nextAct c.vr c.ar c.vs c.asF c.ds c.fa c.od c.rd (nI v) = 2 := by rw [t0]; decide
      have q3 : ¬ (0 : Int32) < f_X3_nextAct_t2 c.vr c.ar c.vs c.asF c.ds c.fa c.od c.rd (nI v) := by rw [e2]; exact q1
      have q4 : ¬ (1 : Int32) ≤ (f_X4_leastFrom t.js t.mv t.mf t.mr t.re t.mo t.mb (f_X4_state t.ma) (nI v)).1 := by rw [eL.1]; exact q2
      refine ⟨sS ⟨fun _ => ⟨w.1, fun z => absurd z q3, fun _ => trivial⟩, fun _ => trivial⟩, ⟨fun z => absurd z n2, fun _ => ⟨eL.2, fun z => absurd z q4, fun _ => trivial⟩⟩, ?_, V, X, C, ?_⟩
      · unfold zAn zk_nextAct zM_nextAct zO_nextAct mk_nextAct
        simp only [f_L_nextAct, f_X4_nextAct, f_X4_no, if_neg t1, if_neg t2, if_neg n2, if_neg q4]
        exact ⟨trivial, fun z => absurd z (by decide)⟩
      · unfold zS_nextAct zM_nextAct
        simp only [f_L_nextAct, f_X3_nextAct, f_X4_nextAct, if_neg t1, if_neg t2, if_pos h1, if_neg n2, if_neg q3, if_neg q4]
        exact zR.t2 (w.2.2.2 _) _ _ _ _ _ _ _
  · have n1 : ¬ t_X3_checkAmount p = 0 := by rw [h1]; decide
    have t0 : t_X3_nextAct c.vr c.ar c.vs c.asF c.ds c.fa c.od c.rd p = 2 := by unfold t_X3_nextAct; rw [if_neg n1]
    have t1 : ¬ t_X3_nextAct c.vr c.ar c.vs c.asF c.ds c.fa c.od c.rd p = 0 := by rw [t0]; decide
    refine ⟨sS ⟨fun z => absurd z n1, fun _ => trivial⟩, ⟨fun _ => trivial, fun z => absurd h2 z⟩, ?_, V, X, C, ?_⟩
    · unfold zAn zk_nextAct zM_nextAct zO_nextAct mk_nextAct
      simp only [f_L_nextAct, f_X4_nextAct, f_X4_no, if_neg t1, if_pos t0, if_pos h2]
      exact ⟨trivial, fun z => absurd z (by decide)⟩
    · unfold zS_nextAct zM_nextAct
      simp only [f_L_nextAct, f_X3_nextAct, f_X4_nextAct, if_neg t1, if_pos t0, if_neg n1, if_pos h2]
      exact zR.t2 (zR.g2 h _ _ _ _) _ _ _ _ _ _ _
/-- how many of the amounts can be had -/
def zgA (V : Nat → Nat) (L : zL) (v : Nat) : Int32 := zDi (zFst L (fun t => zhas (zn V) (zdg t) v))
def zAmn (g : Nat → Int32) : Nat → Nat → Int32 → Int32
  | 0, _, x => x
  | n + 1, k, x => if 9 < k then x else zAmn g n (k + 1) (if g k = -1 then x else x + 1)
theorem zc_amLoop {V : Nat → Nat} {vs ds fa od : Nat → Int32} {rd : Int32} {L : zL} (hv : zE3 vs V) (hW : zWc L ds fa od rd) (hG : zGd V L) : ∀ (n k : Nat) (as : Nat → Int32) (x : Int32), k + n = 11 → (lf_X3_amountsToHave_9 n k vs as ds od rd x).2 = zAmn (zgA V L) n k x := by
  intro n
  induction n with
  | zero => intro k as x _; rfl
  | succ n ih =>
    intro k as x hk
    rw [lf_X3_amountsToHave_9_succ, zl9, z_if_lt (by omega) (by omega)]
    unfold zAmn
    by_cases q : 9 < k
    · rw [if_pos q, if_pos q]
    · rw [if_neg q, if_neg q]
      have e1 : (f_X2_leastActsTo vs as ds od rd (nI k)).1 = zgA V L k := zc_least hv hW hG as (by omega)
      rw [e1]
      by_cases q2 : zgA V L k = -1
      · rw [if_pos q2, if_pos q2]; exact ih _ _ _ (by omega)
      · rw [if_neg q2, if_neg q2]; exact ih _ _ _ (by omega)
theorem zm_amLoop {V X : Nat → Nat} {mv ma : Nat → Int32} (hv : zE3 mv V) (hx : zE3 ma X) (okX : zOK V X) : ∀ (n k : Nat) (mf mr : Nat → Int32) (re : Int32) (mo mb : Nat → Int32) (x : Int32), k + n = 11 → (lf_X4_toHave_4 n k (nI (zn V)) mv ma mf mr re mo mb x).2.2.2.2.2 = zAmn (zgA V (zBFS V (zst X))) n k x ∧ sf_X4_toHave_4 n k (nI (zn V)) mv ma mf mr re mo mb := by
  have hs := zst_lt okX
  have ok : zOK V (zdg (zst X)) := okX.congr (fun j hj => (zdg_st okX hj).symm)
  intro n
  induction n with
  | zero => intro k mf mr re mo mb x _; exact ⟨rfl, trivial⟩
  | succ n ih =>
    intro k mf mr re mo mb x hk
    rw [lf_X4_toHave_4_succ, sf_X4_toHave_4_succ, zq_stateM hx]
    have e1 := zm_least hv mf mr re mo mb hs ok (v := k) (by omega)
    have e2 : (f_X4_leastFrom (nI (zn V)) mv mf mr re mo mb (nI (zst X)) (nI k)).1 = zgA V (zBFS V (zst X)) k := e1.1
    rw [e2]
    unfold zAmn
    by_cases q : 9 < k
    · have q2 : (10 : Int32) ≤ nI k := by rw [zl10]; exact nI_le (by omega) (by omega)
      rw [if_pos q, if_pos q2]
      exact ⟨rfl, fun _ => trivial, fun z => absurd q2 z⟩
    · have q2 : ¬ (10 : Int32) ≤ nI k := by rw [zl10]; exact nI_ge (by omega) (by omega)
      rw [if_neg q, if_neg q2, Int32.add_zero]
      by_cases q3 : zgA V (zBFS V (zst X)) k = -1
      · rw [if_pos q3, if_pos q3]
        have r := ih (k + 1) (f_X4_leastFrom (nI (zn V)) mv mf mr re mo mb (nI (zst X)) (nI k)).2.1 (f_X4_leastFrom (nI (zn V)) mv mf mr re mo mb (nI (zst X)) (nI k)).2.2.1 (f_X4_leastFrom (nI (zn V)) mv mf mr re mo mb (nI (zst X)) (nI k)).2.2.2.1 (f_X4_leastFrom (nI (zn V)) mv mf mr re mo mb (nI (zst X)) (nI k)).2.2.2.2.1 (f_X4_leastFrom (nI (zn V)) mv mf mr re mo mb (nI (zst X)) (nI k)).2.2.2.2.2 x (by omega)
        exact ⟨r.1, fun z => absurd z q2, fun _ => ⟨e1.2, fun _ => r.2, fun _ => r.2⟩⟩
      · rw [if_neg q3, if_neg q3]
        have r := ih (k + 1) (f_X4_leastFrom (nI (zn V)) mv mf mr re mo mb (nI (zst X)) (nI k)).2.1 (f_X4_leastFrom (nI (zn V)) mv mf mr re mo mb (nI (zst X)) (nI k)).2.2.1 (f_X4_leastFrom (nI (zn V)) mv mf mr re mo mb (nI (zst X)) (nI k)).2.2.2.1 (f_X4_leastFrom (nI (zn V)) mv mf mr re mo mb (nI (zst X)) (nI k)).2.2.2.2.1 (f_X4_leastFrom (nI (zn V)) mv mf mr re mo mb (nI (zst X)) (nI k)).2.2.2.2.2 (x + 1) (by omega)
        exact ⟨r.1, fun z => absurd z q2, fun _ => ⟨e1.2, fun _ => r.2, fun _ => r.2⟩⟩
theorem zR.am {V X : Nat → Nat} {C : zCs} {c : zS} {t : zM} (h : zR V X C c t) : (f_X3_amountsToHave c.vr c.ar c.vs c.asF c.ds c.fa c.od c.rd).1 = zAmn (zgA V (zBFS V (zst X))) 11 0 0 ∧ s_X3_amountsToHave c.vr c.ar c.vs c.asF c.ds c.fa c.od c.rd := by
  have w := h.w
  refine ⟨?_, w.1⟩
  rw [f_X3_amountsToHave_eq]
  dsimp only
  unfold f_X3_amountsToHave_t2
  exact zc_amLoop w.2.1 w.2.2.1 h.gd.1 11 0 _ _ (by omega)
theorem zR.mam {V X : Nat → Nat} {C : zCs} {c : zS} {t : zM} (h : zR V X C c t) (mf mr : Nat → Int32) (re : Int32) (mo mb : Nat → Int32) : (f_X4_toHave t.js t.mv t.ma mf mr re mo mb).1 = zAmn (zgA V (zBFS V (zst X))) 11 0 0 ∧ s_X4_toHave t.js t.mv t.ma mf mr re mo mb := by
  rw [h.js]
  unfold f_X4_toHave s_X4_toHave
  dsimp only
  exact zm_amLoop h.mv h.ma h.ok 11 0 mf mr re mo mb 0 (by omega)
theorem zo_amountsToHave {c : zS} {t : zM} (h : zRel c t) : zs_amountsToHave c ∧ ms_amountsToHave t ∧ zk_amountsToHave c = mk_amountsToHave t ∧ zRel (zS_amountsToHave c) (zM_amountsToHave t) := by
  obtain ⟨V, X, C, h⟩ := h
  have M := h.mam t.mf t.mr t.re t.mo t.mb
  refine ⟨h.am.2, M.2, ?_, V, X, C, ?_⟩
  · unfold zk_amountsToHave mk_amountsToHave f_X4_amountsToHave f_X4_ok
    dsimp only
    rw [M.1]; exact h.am.1
  · unfold zS_amountsToHave zM_amountsToHave f_X3_amountsToHave
    dsimp only
    exact zR.t2 (h.w.2.2.2 _) _ _ _ _ _ _ _
/-- the mean is a number -/
theorem z_mean2 : ∀ k, k < 28 → FP.ddiv (FP.i2d (nI k)) (4611686018427387904 : UInt64) &&& 0x7fffffffffffffff ≤ (0x7ff0000000000000 : UInt64) := by decide +kernel
theorem z_mean3 : ∀ k, k < 28 → FP.ddiv (FP.i2d (nI k)) (4613937818241073152 : UInt64) &&& 0x7fffffffffffffff ≤ (0x7ff0000000000000 : UInt64) := by decide +kernel
theorem z_two : FP.i2d (nI 2) = (4611686018427387904 : UInt64) := by decide +kernel
theorem z_three : FP.i2d (nI 3) = (4613937818241073152 : UInt64) := by decide +kernel
theorem zR.held {V X : Nat → Nat} {C : zCs} {c : zS} {t : zM} (h : zR V X C c t) : f_X3_heldInAll c.ar = nI (X 0 + X 1 + X 2) ∧ f_X4_all t.ma = nI (X 0 + X 1 + X 2) := by
  unfold f_X3_heldInAll f_X4_all
  rw [zl0, zl1, zl2, zr_amt (by omega), zr_amt (by omega), zr_amt (by omega), nI_clamp (by omega), nI_clamp (by omega), nI_clamp (by omega), h.ar 0 (by omega), h.ar 1 (by omega), h.ar 2 (by omega), h.ma 0 (by omega), h.ma 1 (by omega), h.ma 2 (by omega), nI_add, nI_add]
  exact ⟨rfl, rfl⟩
theorem zo_meanAmount {c : zS} {t : zM} (h : zRel c t) : zs_meanAmount c ∧ ms_meanAmount t ∧ zk_meanAmount c = mk_meanAmount t ∧ vf_n64 (zk_meanAmount c) ∧ zRel (zS_meanAmount c) (zM_meanAmount t) := by
  obtain ⟨V, X, C, h⟩ := h
  have e := h.held
  have hc := zr_count h.vr h.h9
  have b0 := h.ok 0 (by omega)
  have b1 := h.ok 1 (by omega)
  have b2 := h.ok 2 (by omega)
  have m2 := z_mean2 (X 0 + X 1 + X 2) (by omega)
  have m3 := z_mean3 (X 0 + X 1 + X 2) (by omega)
  have key : zk_meanAmount c = mk_meanAmount t ∧ vf_n64 (zk_meanAmount c) := by
    unfold zk_meanAmount mk_meanAmount f_X3_meanAmount f_X4_meanAmount
    dsimp only
    rw [e.1, e.2, hc, h.js]
    rcases zn_23 V with q | q
    · rw [q, z_two, if_pos (show nI 2 = (2 : Int32) from rfl)]; exact ⟨rfl, m2⟩
    · rw [q, z_three, if_neg (by decide)]; exact ⟨rfl, m3⟩
  refine ⟨?_, ?_, key.1, key.2, V, X, C, zR.t h rfl rfl rfl rfl rfl rfl rfl rfl rfl rfl rfl⟩
  · unfold zs_meanAmount s_X3_meanAmount
    rw [e.1]
    exact ⟨fun _ => m2, fun _ => m3⟩
  · unfold ms_meanAmount s_X4_meanAmount
    rw [e.2, h.js]
    rcases zn_23 V with q | q
    · rw [q, z_two]; exact m2
    · rw [q, z_three]; exact m3
