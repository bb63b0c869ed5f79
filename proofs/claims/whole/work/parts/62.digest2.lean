/-! the digests of both are the same -/
def zFr (L : zL) : Int32 := match L[L.length - 1]? with
  | some e => nI e.2.1
  | none => 0
theorem zFr_ex {L : zL} (h : 0 < L.length) : ∃ e, L[L.length - 1]? = some e ∧ zFr L = nI e.2.1 := by
  have he : L[L.length - 1]? = some (L[L.length - 1]'(by omega)) := List.getElem?_eq_getElem (by omega)
  exact ⟨_, he, by unfold zFr; rw [he]⟩
theorem zR.sr {V X : Nat → Nat} {C : zCs} {c : zS} {t : zM} (h : zR V X C c t) : (f_X3_statesToReach c.vr c.ar c.vs c.asF c.ds c.fa c.od c.rd).1 = nI (zBFS V (zst X)).length ∧ s_X3_statesToReach c.vr c.ar c.vs c.asF c.ds c.fa c.od c.rd := by
  have w := h.w
  exact ⟨w.2.2.1.1, w.1⟩
theorem zR.fr {V X : Nat → Nat} {C : zCs} {c : zS} {t : zM} (h : zR V X C c t) : (f_X3_farthest c.vr c.ar c.vs c.asF c.ds c.fa c.od c.rd).1 = zFr (zBFS V (zst X)) ∧ s_X3_farthest c.vr c.ar c.vs c.asF c.ds c.fa c.od c.rd := by
  have w := h.w
  obtain ⟨e, he, e2⟩ := zFr_ex (zBFS_len V (zst X))
  refine ⟨?_, w.1⟩
  rw [e2, f_X3_farthest_eq]
  dsimp only
  unfold f_X3_farthest_t1
  exact zc_far w.2.2.1 h.gd.1 (zBFS_len V (zst X)) he
/-- the object behind amountsToHave, statesToReach, farthest -/
def zd1 (c : zS) : zS := (c.vr, c.ar, (zW c).1, f_X3_amountsToHave_t1 c.vr c.ar c.vs c.asF c.ds c.fa c.od c.rd, (zW c).2.2.1, (zW c).2.2.2.1, (zW c).2.2.2.2.1, (zW c).2.2.2.2.2, c.vi, c.ai, c.hd, c.sn, c.jc, c.lf, c.ad, c.pd, c.sp, c.tk, c.gm, c.gw)
def zd2 (c : zS) : zS := (c.vr, c.ar, (zW c).1, (zW c).2.1, (zW c).2.2.1, (zW c).2.2.2.1, (zW c).2.2.2.2.1, (zW c).2.2.2.2.2, c.vi, c.ai, c.hd, c.sn, c.jc, c.lf, c.ad, c.pd, c.sp, c.tk, c.gm, c.gw)
theorem zR.d1 {V X : Nat → Nat} {C : zCs} {c : zS} {t : zM} (h : zR V X C c t) : zR V X C (zd1 c) t := h.w.2.2.2 _
theorem zR.d2 {V X : Nat → Nat} {C : zCs} {c : zS} {t : zM} (h : zR V X C c t) : zR V X C (zd2 c) t := h.w.2.2.2 _
def zD1 (c : zS) : Int64 := f_X3_digest_t18 c.vr c.ar c.vs c.asF c.ds c.fa c.od c.rd c.lf c.ad c.pd c.sp c.tk c.gm c.gw
def zD2 (c : zS) : (Nat → Int32) × (Nat → Int32) × Int64 := lf_X3_digest_150 ((f_X1_count c.vr).toNatClampNeg + 1) 0 c.vr c.ar c.vi c.ai c.hd c.jc (zD1 c)
def zD3 (c : zS) : (Nat → Int32) × (Nat → Int32) × (Nat → Int32) × (Nat → Int32) × (Nat → Int32) × Int32 × Int64 := zLd 11 0 (zd2 (zd2 (zd1 c))) (zD2 c).2.2
theorem zd_f (c : zS) : f_X3_digest c.vr c.ar c.vs c.asF c.ds c.fa c.od c.rd c.vi c.ai c.hd c.jc c.lf c.ad c.pd c.sp c.tk c.gm c.gw = ((zD3 c).2.2.2.2.2.2, (zD3 c).1, (zD3 c).2.1, (zD3 c).2.2.1, (zD3 c).2.2.2.1, (zD3 c).2.2.2.2.1, (zD3 c).2.2.2.2.2.1, (zD2 c).1, (zD2 c).2.1) := rfl
theorem zd_h {V X : Nat → Nat} {C : zCs} {c : zS} {t : zM} (h : zR V X C c t) : zD1 c = zHd (f_X1_count c.vr) (f_X3_heldInAll c.ar) c.ad c.pd c.sp c.tk c.lf c.gm c.gw (zAmn (zgA V (zBFS V (zst X))) 11 0 0) (nI (zBFS V (zst X)).length) (zFr (zBFS V (zst X))) 1877 := by
  have e1 := h.am.1
  have e2 := h.d1.sr.1
  have e3 := h.d1.d2.fr.1
  rw [← e1, ← e2, ← e3]
  rfl
theorem zd_s (c : zS) (h1 : s_X3_amountsToHave c.vr c.ar c.vs c.asF c.ds c.fa c.od c.rd) (h2 : s_X3_statesToReach (zd1 c).vr (zd1 c).ar (zd1 c).vs (zd1 c).asF (zd1 c).ds (zd1 c).fa (zd1 c).od (zd1 c).rd) (h3 : s_X3_farthest (zd2 (zd1 c)).vr (zd2 (zd1 c)).ar (zd2 (zd1 c)).vs (zd2 (zd1 c)).asF (zd2 (zd1 c)).ds (zd2 (zd1 c)).fa (zd2 (zd1 c)).od (zd2 (zd1 c)).rd) (h4 : sf_X3_digest_150 ((f_X1_count c.vr).toNatClampNeg + 1) 0 c.vr c.ar c.vi c.ai c.hd c.jc (zD1 c)) (h5 : sf_X3_digest_176 11 0 (zd2 (zd2 (zd1 c))).vr (zd2 (zd2 (zd1 c))).ar (zd2 (zd2 (zd1 c))).vs (zd2 (zd2 (zd1 c))).asF (zd2 (zd2 (zd1 c))).ds (zd2 (zd2 (zd1 c))).fa (zd2 (zd2 (zd1 c))).od (zd2 (zd2 (zd1 c))).rd) : zs_digest c :=
  ⟨h1, h2, h3, h4, h5⟩
theorem zo_digest {c : zS} {t : zM} (h : zRel c t) : zs_digest c ∧ ms_digest t ∧ zk_digest c = mk_digest t ∧ zRel (zS_digest c) (zM_digest t) := by
  obtain ⟨V, X, C, h⟩ := h
  have hn := zn_23 V
  have hh := h.held
  have hc := zr_count h.vr h.h9
  have ec : (f_X1_count c.vr).toNatClampNeg = zn V := by rw [hc, nI_clamp (by omega)]
  have em : t.js.toNatClampNeg = zn V := by rw [h.js, nI_clamp (by omega)]
  have J := zc_jarLoop h (zn V + 1) 0 c.vi c.ai (zD1 c) (by omega)
  have K := zc_dgLoop 11 0 (zd2 (zd2 (zd1 c))) (zD2 c).2.2 h.d1.d2.d2 (by omega)
  rw [← ec] at J
  have A := h.mam t.mf t.mr t.re t.mo t.mb
  have Re := zm_reach9 h.mv h.ma h.ok (f_X4_toHave t.js t.mv t.ma t.mf t.mr t.re t.mo t.mb).2.1 (f_X4_toHave t.js t.mv t.ma t.mf t.mr t.re t.mo t.mb).2.2.1 (f_X4_toHave t.js t.mv t.ma t.mf t.mr t.re t.mo t.mb).2.2.2.1 (f_X4_toHave t.js t.mv t.ma t.mf t.mr t.re t.mo t.mb).2.2.2.2.1 (f_X4_toHave t.js t.mv t.ma t.mf t.mr t.re t.mo t.mb).2.2.2.2.2
  rw [← h.js] at Re
  obtain ⟨e, he, e2⟩ := zFr_ex (zBFS_len V (zst X))
  have Fa := zm_far h.mv h.ma h.ok (f_X4_digest_t3 t.js t.mv t.ma t.mf t.mr t.re t.mo t.mb) (f_X4_digest_t4 t.js t.mv t.ma t.mf t.mr t.re t.mo t.mb) (f_X4_digest_t5 t.js t.mv t.ma t.mf t.mr t.re t.mo t.mb) (f_X4_digest_t6 t.js t.mv t.ma t.mf t.mr t.re t.mo t.mb) (f_X4_digest_t7 t.js t.mv t.ma t.mf t.mr t.re t.mo t.mb) he
  rw [← h.js, ← e2] at Fa
  have lm := zm_left hn h.cok h.cm
  have hM : f_X4_digest_t16 t.js t.mv t.ma t.ac t.po t.si t.ta t.ml t.gu t.wr t.mf t.mr t.re t.mo t.mb = zD1 c := by
    unfold f_X4_digest_t16 f_X4_digest_t9 f_X4_digest_t2 f_X4_digest_t1
    rw [zm_dl, zd_h h]
    unfold f_X4_digest_t8 f_X4_digest_t15
    rw [A.1, Re.1, Fa.1, lm, ← h.lf, ← h.ad, ← h.pd, ← h.sp, ← h.tk, ← h.gm, ← h.gw, hh.1, hh.2, hc, h.js]
  have Jm := zm_jarLoop h (zn V + 1) 0 (zD1 c) (by omega)
  rw [← em] at Jm
  have Km := zm_dgLoop h.mv h.ma h.ok 11 0 (f_X4_digest_t10 t.js t.mv t.ma t.mf t.mr t.re t.mo t.mb) (f_X4_digest_t11 t.js t.mv t.ma t.mf t.mr t.re t.mo t.mb) (f_X4_digest_t12 t.js t.mv t.ma t.mf t.mr t.re t.mo t.mb) (f_X4_digest_t13 t.js t.mv t.ma t.mf t.mr t.re t.mo t.mb) (f_X4_digest_t14 t.js t.mv t.ma t.mf t.mr t.re t.mo t.mb) (zD2 c).2.2 (by omega)
  rw [← h.js] at Km
  have hJ : lf_X4_digest_148 (t.js.toNatClampNeg + 1) 0 t.js t.mv t.ma t.ml (zD1 c) = (zD2 c).2.2 := by
    rw [Jm.1]
    unfold zD2
    rw [J.1, em, ec]
  refine ⟨zd_s c h.am.2 h.d1.sr.2 h.d1.d2.fr.2 J.2 K.2.1, ⟨A.2, Re.2, Fa.2, Jm.2, Km.2⟩, ?_, V, X, C, ?_⟩
  · unfold zk_digest mk_digest f_X4_digest
    rw [zd_f]
    dsimp only
    unfold f_X4_digest_t26
    rw [hM, hJ, Km.1]
    exact K.1
  · unfold zS_digest zM_digest
    rw [zd_f]
    dsimp only
    exact zR.t2 (K.2.2 (zD3 c).2.1 (zD2 c).1 (zD2 c).2.1 c.sn) _ _ _ _ _ _ _
