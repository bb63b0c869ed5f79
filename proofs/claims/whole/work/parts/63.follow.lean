/-! following a shortest way -/
def zLf (n k : Nat) (c : zS) (x y : Int32) : (Nat → Int32) × (Nat → Int32) × (Nat → Int32) × (Nat → Int32) × (Nat → Int32) × (Nat → Int32) × Int32 × (Nat → Int32) × (Nat → Int32) × (Nat → Int32) × Int32 × Int32 × Int32 × Int32 × Int32 := lf_X3_follow_43 n k c.vr c.ar c.vs c.asF c.ds c.fa c.od c.rd c.vi c.ai c.hd c.jc c.lf c.ad c.pd c.sp c.tk x y
def zLm (n k : Nat) (t : zM) (x y : Int32) : (Nat → Int32) × Int32 × Int32 × Int32 × Int32 × (Nat → Int32) × (Nat → Int32) × (Nat → Int32) × (Nat → Int32) × Int32 × (Nat → Int32) × (Nat → Int32) × Int32 := lf_X4_followed_2 n k t.js t.mv t.ma t.ac t.po t.si t.ta t.ml t.mh t.mf t.mr t.re t.mo t.mb x y
def zSf (c : zS) (R : (Nat → Int32) × (Nat → Int32) × (Nat → Int32) × (Nat → Int32) × (Nat → Int32) × (Nat → Int32) × Int32 × (Nat → Int32) × (Nat → Int32) × (Nat → Int32) × Int32 × Int32 × Int32 × Int32 × Int32) : zS := (c.vr, R.1, R.2.1, R.2.2.1, R.2.2.2.1, R.2.2.2.2.1, R.2.2.2.2.2.1, R.2.2.2.2.2.2.1, R.2.2.2.2.2.2.2.1, R.2.2.2.2.2.2.2.2.1, R.2.2.2.2.2.2.2.2.2.1, c.sn, c.jc, R.2.2.2.2.2.2.2.2.2.2.1, R.2.2.2.2.2.2.2.2.2.2.2.1, R.2.2.2.2.2.2.2.2.2.2.2.2.1, R.2.2.2.2.2.2.2.2.2.2.2.2.2.1, R.2.2.2.2.2.2.2.2.2.2.2.2.2.2, c.gm, c.gw)
def zMf (t : zM) (th : Int32) (R : (Nat → Int32) × Int32 × Int32 × Int32 × Int32 × (Nat → Int32) × (Nat → Int32) × (Nat → Int32) × (Nat → Int32) × Int32 × (Nat → Int32) × (Nat → Int32) × Int32) : zM := (th, t.js, t.mv, R.1, R.2.1, R.2.2.1, R.2.2.2.1, R.2.2.2.2.1, R.2.2.2.2.2.1, R.2.2.2.2.2.2.1, t.gu, t.wr, R.2.2.2.2.2.2.2.1, R.2.2.2.2.2.2.2.2.1, R.2.2.2.2.2.2.2.2.2.1, R.2.2.2.2.2.2.2.2.2.2.1, R.2.2.2.2.2.2.2.2.2.2.2.1, t.ms)
/-- the class behind looking for its next act, the model likewise -/
def zcf (c : zS) (x : Int32) : zS := (c.vr, c.ar, (zW c).1, f_X3_follow_t3 c.vr c.ar c.vs c.asF c.ds c.fa c.od c.rd x, (zW c).2.2.1, (zW c).2.2.2.1, (zW c).2.2.2.2.1, (zW c).2.2.2.2.2, c.vi, c.ai, c.hd, c.sn, c.jc, c.lf, c.ad, c.pd, c.sp, c.tk, c.gm, c.gw)
def zmf (t : zM) (x : Int32) : zM := (t.th, t.js, t.mv, t.ma, t.ac, t.po, t.si, t.ta, t.ml, t.mh, t.gu, t.wr, f_X4_followed_t1 t.js t.mv t.ma t.mf t.mr t.re t.mo t.mb x, f_X4_followed_t2 t.js t.mv t.ma t.mf t.mr t.re t.mo t.mb x, f_X4_followed_t3 t.js t.mv t.ma t.mf t.mr t.re t.mo t.mb x, f_X4_followed_t4 t.js t.mv t.ma t.mf t.mr t.re t.mo t.mb x, f_X4_followed_t5 t.js t.mv t.ma t.mf t.mr t.re t.mo t.mb x, t.ms)
def zAcI (c : zS) (a : Int32) : zS :=
  let d := f_X3_doAct c.vr c.ar c.rd c.vi c.ai c.hd c.jc c.lf c.ad c.pd c.sp c.tk a
  (c.vr, d.2.1, c.vs, c.asF, c.ds, c.fa, c.od, d.2.2.1, d.2.2.2.1, d.2.2.2.2.1, d.2.2.2.2.2.1, c.sn, c.jc, d.2.2.2.2.2.2.1, d.2.2.2.2.2.2.2.1, d.2.2.2.2.2.2.2.2.1, d.2.2.2.2.2.2.2.2.2.1, d.2.2.2.2.2.2.2.2.2.2, c.gm, c.gw)
def zAmI (t : zM) (a : Int32) : zM :=
  let d := f_X4_done t.js t.mv t.ma t.ac t.po t.si t.ta t.ml t.mh t.mo t.mb a
  (t.th, t.js, t.mv, d.2.1, d.2.2.1, d.2.2.2.1, d.2.2.2.2.1, d.2.2.2.2.2.1, d.2.2.2.2.2.2.1, d.2.2.2.2.2.2.2.1, t.gu, t.wr, t.mf, t.mr, t.re, d.2.2.2.2.2.2.2.2.1, d.2.2.2.2.2.2.2.2.2, t.ms)
def zft (c : zS) (x : Int32) : Int32 := f_X3_follow_t4 c.vr c.ar c.vs c.asF c.ds c.fa c.od c.rd x
def zgt (t : zM) (x : Int32) : Int32 := f_X4_followed_t6 t.js t.mv t.ma t.mf t.mr t.re t.mo t.mb x
theorem zLf_stop {n k : Nat} {c : zS} {x y : Int32} (q : y ≤ nI k) : zLf (n + 1) k c x y = (c.ar, c.vs, c.asF, c.ds, c.fa, c.od, c.rd, c.vi, c.ai, c.hd, c.lf, c.ad, c.pd, c.sp, c.tk) := by
  unfold zLf
  rw [lf_X3_follow_43_succ, if_pos q]
theorem zLf_go {n k : Nat} {c : zS} {x y : Int32} (q : ¬ y ≤ nI k) : zLf (n + 1) k c x y = zLf n (k + 1) (zAcI (zcf c x) (zft c x)) x y := by
  unfold zLf
  rw [lf_X3_follow_43_succ, if_neg q]
  unfold zAcI zcf zft zW f_X3_follow_t5 f_X3_follow_t6 f_X3_follow_t7 f_X3_follow_t8
  dsimp only [zS.vr, zS.ar, zS.vs, zS.asF, zS.ds, zS.fa, zS.od, zS.rd, zS.vi, zS.ai, zS.hd, zS.sn, zS.jc, zS.lf, zS.ad, zS.pd, zS.sp, zS.tk, zS.gm, zS.gw]
theorem zLm_stop {n k : Nat} {t : zM} {x y : Int32} (q : y ≤ nI k) : zLm (n + 1) k t x y = (t.ma, t.ac, t.po, t.si, t.ta, t.ml, t.mh, t.mf, t.mr, t.re, t.mo, t.mb, nI k) := by
  unfold zLm
  rw [lf_X4_followed_2_succ, if_pos q]
theorem zLm_here {n k : Nat} {t : zM} {x y : Int32} (q : ¬ y ≤ nI k) (q2 : ¬ f_X4_isSomewhere t.js (f_X4_state t.ma) x = 0) : zLm (n + 1) k t x y = (t.ma, t.ac, t.po, t.si, t.ta, t.ml, t.mh, t.mf, t.mr, t.re, t.mo, t.mb, nI k) := by
  unfold zLm
  rw [lf_X4_followed_2_succ, if_neg q, if_neg q2]
theorem zLm_go {n k : Nat} {t : zM} {x y : Int32} (q : ¬ y ≤ nI k) (q2 : f_X4_isSomewhere t.js (f_X4_state t.ma) x = 0) : zLm (n + 1) k t x y = zLm n (k + 1) (zAmI (zmf t x) (zgt t x)) x y := by
  unfold zLm
  rw [lf_X4_followed_2_succ, if_neg q, if_pos q2]
  unfold zAmI zmf zgt f_X4_followed_t7 f_X4_followed_t8 f_X4_followed_t9 f_X4_followed_t10 f_X4_followed_t11 f_X4_followed_t12 f_X4_followed_t13 f_X4_followed_t14 f_X4_followed_t15
  dsimp only [zM.th, zM.js, zM.mv, zM.ma, zM.ac, zM.po, zM.si, zM.ta, zM.ml, zM.mh, zM.gu, zM.wr, zM.mf, zM.mr, zM.re, zM.mo, zM.mb, zM.ms]
def zLfs (n k : Nat) (c : zS) (x y : Int32) : Prop := sf_X3_follow_43 n k c.vr c.ar c.vs c.asF c.ds c.fa c.od c.rd c.vi c.ai c.hd c.jc c.lf c.ad c.pd c.sp c.tk x y
def zLms (n k : Nat) (t : zM) (x y : Int32) : Prop := sf_X4_followed_2 n k t.js t.mv t.ma t.ac t.po t.si t.ta t.ml t.mh t.mf t.mr t.re t.mo t.mb x y
theorem zLfs_stop {n k : Nat} {c : zS} {x y : Int32} (q : y ≤ nI k) : zLfs (n + 1) k c x y := by
  unfold zLfs
  rw [sf_X3_follow_43_succ]
  exact ⟨fun _ => trivial, fun z => absurd q z⟩
theorem zLfs_go {n k : Nat} {c : zS} {x y : Int32} (q : ¬ y ≤ nI k) (h1 : s_X3_waysFromHere c.vr c.ar c.vs c.asF c.ds c.fa c.od c.rd) (h2 : s_X3_doAct c.vr c.ar c.vi c.ai c.hd c.jc c.lf (zft c x)) (h3 : zLfs n (k + 1) (zAcI (zcf c x) (zft c x)) x y) : zLfs (n + 1) k c x y := by
  unfold zLfs zAcI zcf zft zW at h3
  unfold zft at h2
  unfold zLfs
  rw [sf_X3_follow_43_succ]
  unfold f_X3_follow_t5 f_X3_follow_t6 f_X3_follow_t7 f_X3_follow_t8
  dsimp only [zS.vr, zS.ar, zS.vs, zS.asF, zS.ds, zS.fa, zS.od, zS.rd, zS.vi, zS.ai, zS.hd, zS.sn, zS.jc, zS.lf, zS.ad, zS.pd, zS.sp, zS.tk, zS.gm, zS.gw] at h1 h2 h3 ⊢
  exact ⟨fun z => absurd z q, fun _ => ⟨h1, h2, h3⟩⟩
theorem zLms_stop {n k : Nat} {t : zM} {x y : Int32} (q : y ≤ nI k) : zLms (n + 1) k t x y := by
  unfold zLms
  rw [sf_X4_followed_2_succ]
  exact ⟨fun _ => trivial, fun z => absurd q z⟩
theorem zLms_here {n k : Nat} {t : zM} {x y : Int32} (q2 : ¬ f_X4_isSomewhere t.js (f_X4_state t.ma) x = 0) : zLms (n + 1) k t x y := by
  unfold zLms
  rw [sf_X4_followed_2_succ]
  exact ⟨fun _ => trivial, fun _ => ⟨fun z => absurd z q2, fun _ => trivial⟩⟩
theorem zLms_go {n k : Nat} {t : zM} {x y : Int32} (q : ¬ y ≤ nI k) (q2 : f_X4_isSomewhere t.js (f_X4_state t.ma) x = 0) (h1 : s_X4_leastFrom t.js t.mv t.mf t.mr t.re t.mo t.mb (f_X4_state t.ma) x) (h2 : s_X4_firstAct t.js t.mv t.ma (f_X4_leastFrom t.js t.mv t.mf t.mr t.re t.mo t.mb (f_X4_state t.ma) x).2.1 (f_X4_leastFrom t.js t.mv t.mf t.mr t.re t.mo t.mb (f_X4_state t.ma) x).2.2.1 (f_X4_leastFrom t.js t.mv t.mf t.mr t.re t.mo t.mb (f_X4_state t.ma) x).2.2.2.1 (f_X4_leastFrom t.js t.mv t.mf t.mr t.re t.mo t.mb (f_X4_state t.ma) x).2.2.2.2.1 (f_X4_leastFrom t.js t.mv t.mf t.mr t.re t.mo t.mb (f_X4_state t.ma) x).2.2.2.2.2 x (f_X4_leastFrom t.js t.mv t.mf t.mr t.re t.mo t.mb (f_X4_state t.ma) x).1) (h3 : s_X4_done t.js t.mv t.ma t.ml t.mh (zmf t x).mo (zmf t x).mb (zgt t x)) (h4 : zLms n (k + 1) (zAmI (zmf t x) (zgt t x)) x y) : zLms (n + 1) k t x y := by
  unfold zLms zAmI zmf zgt at h4
  unfold zmf zgt at h3
  unfold zLms
  rw [sf_X4_followed_2_succ]
  unfold f_X4_followed_t7 f_X4_followed_t8 f_X4_followed_t9 f_X4_followed_t10 f_X4_followed_t11 f_X4_followed_t12 f_X4_followed_t13 f_X4_followed_t14 f_X4_followed_t15
  dsimp only [zM.th, zM.js, zM.mv, zM.ma, zM.ac, zM.po, zM.si, zM.ta, zM.ml, zM.mh, zM.gu, zM.wr, zM.mf, zM.mr, zM.re, zM.mo, zM.mb, zM.ms] at q2 h1 h2 h3 h4 ⊢
  exact ⟨fun z => absurd z q, fun _ => ⟨fun _ => ⟨h1, h2, h3, h4⟩, fun z => absurd q2 z⟩⟩
theorem zF_next {V X : Nat → Nat} {v : Nat} (okX : zOK V X) {e : Nat × Nat × Nat} (he : zF V X v = some e) (h0 : 0 < e.2.1) : e.2.2 < 15 ∧ zal (zn V) e.2.2 ∧ ∃ x, zF V (zmv V X e.2.2) v = some x ∧ x.2.1 + 1 = e.2.1 := by
  have hs := zst_lt okX
  have ok : zOK V (zdg (zst X)) := okX.congr (fun j hj => (zdg_st okX hj).symm)
  obtain ⟨f1, f2, f3, -⟩ := z_first hs ok he h0
  have es : zsuc V (zst X) e.2.2 = zst (zmv V X e.2.2) := zst_congr (zmv_congr (fun j hj => zdg_st okX hj) f2)
  rw [es] at f3
  exact ⟨f2, zalB_iff.mp f1, f3⟩
theorem zF_here {V X : Nat → Nat} {v : Nat} (okX : zOK V X) {e : Nat × Nat × Nat} (he : zF V X v = some e) : zhas (zn V) (zdg (zst X)) v = true ↔ e.2.1 = 0 := by
  have hs := zst_lt okX
  have ok : zOK V (zdg (zst X)) := okX.congr (fun j hj => (zdg_st okX hj).symm)
  constructor
  · intro h
    obtain ⟨e2, h2, h3⟩ := (z_here hs ok (T := zTv V v)).mp h
    have : some e = some e2 := he.symm.trans h2
    cases this
    exact h3
  · intro h
    exact (z_here hs ok (T := zTv V v)).mpr ⟨e, he, h⟩
theorem zo_followLoop {V : Nat → Nat} {v P D : Nat} (hv9 : v ≤ 9) (hP : P ≤ 50) : ∀ (r k : Nat) (X : Nat → Nat) (C : zCs) (c : zS) (t : zM) (e : Nat × Nat × Nat), zR V X C c t → zF V X v = some e → k + r = D → k ≤ P → min e.2.1 (P - k) = r →
    (zLm (P - k + 1) k t (nI v) (nI P)).2.2.2.2.2.2.2.2.2.2.2.2 = nI D ∧ zLfs (r + 1) k c (nI v) (nI D) ∧ zLms (P - k + 1) k t (nI v) (nI P) ∧ ∀ th, zRel (zSf c (zLf (r + 1) k c (nI v) (nI D))) (zMf t th (zLm (P - k + 1) k t (nI v) (nI P))) := by
  intro r
  induction r with
  | zero =>
    intro k X C c t e h he hk hkP hm
    have eD : D = k := by omega
    subst eD
    have q1 : nI D ≤ nI D := nI_le (Nat.le_refl _) (by omega)
    have R0 : ∀ th, zRel (zSf c (c.ar, c.vs, c.asF, c.ds, c.fa, c.od, c.rd, c.vi, c.ai, c.hd, c.lf, c.ad, c.pd, c.sp, c.tk)) (zMf t th (t.ma, t.ac, t.po, t.si, t.ta, t.ml, t.mh, t.mf, t.mr, t.re, t.mo, t.mb, nI D)) := fun th => ⟨V, X, C, zR.t2 (zR.g2 h _ _ _ _) th _ _ _ _ _ _⟩
    rw [zLf_stop q1]
    by_cases qp : P = D
    · subst qp
      rw [zLm_stop q1]
      exact ⟨rfl, zLfs_stop q1, zLms_stop q1, R0⟩
    · have e0 : e.2.1 = 0 := by omega
      have q2 : ¬ nI P ≤ nI D := nI_ge (by omega) (by omega)
      have sm : ¬ f_X4_isSomewhere t.js (f_X4_state t.ma) (nI v) = 0 := by
        rw [zq_stateM h.ma, h.js, zq_some (zn_23 V) (zst_lt h.ok) (by omega), (zF_here h.ok he).mpr e0]
        decide
      rw [zLm_here q2 sm]
      exact ⟨rfl, zLfs_stop q1, zLms_here sm, R0⟩
  | succ r ih =>
    intro k X C c t e h he hk hkP hm
    have h0 : 0 < e.2.1 := by omega
    have hk2 : k < P := by omega
    obtain ⟨a15, hal, x, hx, hx1⟩ := zF_next h.ok he h0
    have w := h.w
    have q1 : ¬ nI D ≤ nI k := nI_ge (by omega) (by omega)
    have q2 : ¬ nI P ≤ nI k := nI_ge (by omega) (by omega)
    have sm : f_X4_isSomewhere t.js (f_X4_state t.ma) (nI v) = 0 := by
      have : ¬ zhas (zn V) (zdg (zst X)) v = true := fun z => by have := (zF_here h.ok he).mp z; omega
      rw [zq_stateM h.ma, h.js, zq_some (zn_23 V) (zst_lt h.ok) (by omega), Bool.eq_false_iff.mpr this]
      decide
    have L := (h.least hv9).2 t.mf t.mr t.re t.mo t.mb
    have L1 : (f_X4_leastFrom t.js t.mv t.mf t.mr t.re t.mo t.mb (f_X4_state t.ma) (nI v)).1 = nI e.2.1 := by rw [L.1, he]; rfl
    have M := zm_first h.mv h.ma h.ok (v := v) (by omega) he h0 (f_X4_leastFrom t.js t.mv t.mf t.mr t.re t.mo t.mb (f_X4_state t.ma) (nI v)).2.1 (f_X4_leastFrom t.js t.mv t.mf t.mr t.re t.mo t.mb (f_X4_state t.ma) (nI v)).2.2.1 (f_X4_leastFrom t.js t.mv t.mf t.mr t.re t.mo t.mb (f_X4_state t.ma) (nI v)).2.2.2.1 (f_X4_leastFrom t.js t.mv t.mf t.mr t.re t.mo t.mb (f_X4_state t.ma) (nI v)).2.2.2.2.1 (f_X4_leastFrom t.js t.mv t.mf t.mr t.re t.mo t.mb (f_X4_state t.ma) (nI v)).2.2.2.2.2
    rw [← h.js, ← L1] at M
    have gt : zgt t (nI v) = nI e.2.2 := M.1
    have ft : zft c (nI v) = nI e.2.2 := by
      unfold zft f_X3_follow_t4
      exact zc_first w.2.1 w.2.2.1 h.gd.1 _ (by omega) he h0
    have hc : zR V X C (zcf c (nI v)) (zmf t (nI v)) := zR.t2 (w.2.2.2 (f_X3_follow_t3 c.vr c.ar c.vs c.asF c.ds c.fa c.od c.rd (nI v))) t.th _ _ _ _ _ _
    have A := zo_act hc a15 hal
    have r2 := ih (k + 1) (zmv V X e.2.2) (zNew V X e.2.2 C) (zAcI (zcf c (nI v)) (nI e.2.2)) (zAmI (zmf t (nI v)) (nI e.2.2)) x A.2.2.2.2 hx (by omega) (by omega) (by omega)
    have ep : P - k = P - (k + 1) + 1 := by omega
    rw [zLf_go q1, ft]
    rw [ep, zLm_go q2 sm, gt]
    refine ⟨r2.1, zLfs_go q1 w.1 ?_ ?_, zLms_go q2 sm L.2 M.2 ?_ ?_, r2.2.2.2⟩
    · rw [ft]; exact A.2.2.1
    · rw [ft]; exact r2.2.1
    · rw [gt]; exact A.2.2.2.1
    · rw [gt]; exact r2.2.2.1
