/-! the digests of both are the same -/
def zFr (L : zL) : Int32 := match L[L.length - 1]? with
  | some e => nI e.2.1
  | none => 0
theorem zFr_ex {L : zL} (h : 0 < L.length) : ∃ e, L[L.length - 1]? = some e ∧ zFr L = nI e.2.1 := by
  have he : L[L.length - 1]? = some (L[L.length - 1]'(by omega)) := List.getElem?_eq_getElem (by omega)
  exact ⟨_, he, by unfold zFr; rw [he]⟩
theorem zR.sr {V X : Nat → Nat} {C : zCs} {c : zS} {t : zM} (h : zR V X C c t) : (f_X3_statesToReach c.vr c.ar c.vs c.asF c.ds c.fa c.od c.rd).1 = nI (zBFS V (zst X)).length ∧ s_X3_statesToReach c.vr c.ar c.vs c.asF c.ds c.fa c.od c.rd := by
  have w := h.w
  exact ⟨w.2.2.1.1, w.1⟩
theorem zR.fr {V X : Nat → Nat} {C : zCs} {c : zS} {t : zM} (h : zR V X C c t) : (f_X3_farthest c.vr c.ar c.vs c.asF c.ds c.fa c.od c.rd).1 = zFr (zBFS V (zst X)) ∧ s_X3_farthest c.vr c.ar c.vs c.asF c.ds c.fa c.od c.rd := by
  have w := h.w
  obtain ⟨e, he, e2⟩ := zFr_ex (zBFS_len V (zst X))
  refine ⟨?_, w.1⟩
  rw [e2, f_X3_farthest_eq]
  dsimp only
  unfold f_X3_farthest_t1
  exact zc_far w.2.2.1 h.gd.1 (zBFS_len V (zst X)) he
/-- the object behind amountsToHave, statesToReach, farthest -/
def zaf (c : zS) : Int32 × (Nat → Int32) × (Nat → Int32) × (Nat → Int32) × (Nat → Int32) × (Nat → Int32) × Int32 := f_X3_amountsToHave c.vr c.ar c.vs c.asF c.ds c.fa c.od c.rd
def zsf (c : zS) : Int32 × (Nat → Int32) × (Nat → Int32) × (Nat → Int32) × (Nat → Int32) × (Nat → Int32) × Int32 := f_X3_statesToReach c.vr c.ar c.vs c.asF c.ds c.fa c.od c.rd
def zff (c : zS) : Int32 × (Nat → Int32) × (Nat → Int32) × (Nat → Int32) × (Nat → Int32) × (Nat → Int32) × Int32 := f_X3_farthest c.vr c.ar c.vs c.asF c.ds c.fa c.od c.rd
def zd1 (c : zS) : zS := (c.vr, c.ar, (zaf c).2.1, (zaf c).2.2.1, (zaf c).2.2.2.1, (zaf c).2.2.2.2.1, (zaf c).2.2.2.2.2.1, (zaf c).2.2.2.2.2.2, c.vi, c.ai, c.hd, c.sn, c.jc, c.lf, c.ad, c.pd, c.sp, c.tk, c.gm, c.gw)
def zd2 (c : zS) : zS := (c.vr, c.ar, (zsf c).2.1, (zsf c).2.2.1, (zsf c).2.2.2.1, (zsf c).2.2.2.2.1, (zsf c).2.2.2.2.2.1, (zsf c).2.2.2.2.2.2, c.vi, c.ai, c.hd, c.sn, c.jc, c.lf, c.ad, c.pd, c.sp, c.tk, c.gm, c.gw)
theorem zd_vr (c : zS) : (zd2 (zd1 c)).vr = c.vr ∧ (zd2 (zd1 c)).ar = c.ar := by unfold zd2 zd1; exact ⟨rfl, rfl⟩
def zd3 (c : zS) : zS := (c.vr, c.ar, (zff c).2.1, (zff c).2.2.1, (zff c).2.2.2.1, (zff c).2.2.2.2.1, (zff c).2.2.2.2.2.1, (zff c).2.2.2.2.2.2, c.vi, c.ai, c.hd, c.sn, c.jc, c.lf, c.ad, c.pd, c.sp, c.tk, c.gm, c.gw)
theorem zR.d1 {V X : Nat → Nat} {C : zCs} {c : zS} {t : zM} (h : zR V X C c t) : zR V X C (zd1 c) t := by
  unfold zd1 zaf f_X3_amountsToHave
  dsimp only
  exact h.w.2.2.2 _
theorem zR.d2 {V X : Nat → Nat} {C : zCs} {c : zS} {t : zM} (h : zR V X C c t) : zR V X C (zd2 c) t := by
  unfold zd2 zsf f_X3_statesToReach
  dsimp only
  exact h.w.2.2.2 _
theorem zR.d3 {V X : Nat → Nat} {C : zCs} {c : zS} {t : zM} (h : zR V X C c t) : zR V X C (zd3 c) t := by
  unfold zd3 zff f_X3_farthest
  dsimp only
  exact h.w.2.2.2 _
def zD1 (c : zS) : Int64 := f_X3_digest_t18 c.vr c.ar c.vs c.asF c.ds c.fa c.od c.rd c.lf c.ad c.pd c.sp c.tk c.gm c.gw
def zD2 (c : zS) : (Nat → Int32) × (Nat → Int32) × Int64 := lf_X3_digest_150 ((f_X1_count c.vr).toNatClampNeg + 1) 0 c.vr c.ar c.vi c.ai c.hd c.jc (zD1 c)
def zD3 (c : zS) : (Nat → Int32) × (Nat → Int32) × (Nat → Int32) × (Nat → Int32) × (Nat → Int32) × Int32 × Int64 := zLd 11 0 (zd3 (zd2 (zd1 c))) (zD2 c).2.2
theorem zd_t4 (c : zS) : f_X3_digest_t4 c.vr c.ar c.vs c.asF c.ds c.fa c.od c.rd = (zd2 (zd1 c)).vs := by
  unfold f_X3_digest_t4 zd2 zsf zd1 zaf
  dsimp only [zS.vr, zS.ar, zS.vs, zS.asF, zS.ds, zS.fa, zS.od, zS.rd, zS.vi, zS.ai, zS.hd, zS.sn, zS.jc, zS.lf, zS.ad, zS.pd, zS.sp, zS.tk, zS.gm, zS.gw]
theorem zd_t5 (c : zS) : f_X3_digest_t5 c.vr c.ar c.vs c.asF c.ds c.fa c.od c.rd = (zd2 (zd1 c)).asF := by
  unfold f_X3_digest_t5 zd2 zsf zd1 zaf
  dsimp only [zS.vr, zS.ar, zS.vs, zS.asF, zS.ds, zS.fa, zS.od, zS.rd, zS.vi, zS.ai, zS.hd, zS.sn, zS.jc, zS.lf, zS.ad, zS.pd, zS.sp, zS.tk, zS.gm, zS.gw]
theorem zd_t6 (c : zS) : f_X3_digest_t6 c.vr c.ar c.vs c.asF c.ds c.fa c.od c.rd = (zd2 (zd1 c)).ds := by
  unfold f_X3_digest_t6 zd2 zsf zd1 zaf
  dsimp only [zS.vr, zS.ar, zS.vs, zS.asF, zS.ds, zS.fa, zS.od, zS.rd, zS.vi, zS.ai, zS.hd, zS.sn, zS.jc, zS.lf, zS.ad, zS.pd, zS.sp, zS.tk, zS.gm, zS.gw]
theorem zd_t7 (c : zS) : f_X3_digest_t7 c.vr c.ar c.vs c.asF c.ds c.fa c.od c.rd = (zd2 (zd1 c)).fa := by
  unfold f_X3_digest_t7 zd2 zsf zd1 zaf
  dsimp only [zS.vr, zS.ar, zS.vs, zS.asF, zS.ds, zS.fa, zS.od, zS.rd, zS.vi, zS.ai, zS.hd, zS.sn, zS.jc, zS.lf, zS.ad, zS.pd, zS.sp, zS.tk, zS.gm, zS.gw]
theorem zd_t8 (c : zS) : f_X3_digest_t8 c.vr c.ar c.vs c.asF c.ds c.fa c.od c.rd = (zd2 (zd1 c)).od := by
  unfold f_X3_digest_t8 zd2 zsf zd1 zaf
  dsimp only [zS.vr, zS.ar, zS.vs, zS.asF, zS.ds, zS.fa, zS.od, zS.rd, zS.vi, zS.ai, zS.hd, zS.sn, zS.jc, zS.lf, zS.ad, zS.pd, zS.sp, zS.tk, zS.gm, zS.gw]
theorem zd_t9 (c : zS) : f_X3_digest_t9 c.vr c.ar c.vs c.asF c.ds c.fa c.od c.rd = (zd2 (zd1 c)).rd := by
  unfold f_X3_digest_t9 zd2 zsf zd1 zaf
  dsimp only [zS.vr, zS.ar, zS.vs, zS.asF, zS.ds, zS.fa, zS.od, zS.rd, zS.vi, zS.ai, zS.hd, zS.sn, zS.jc, zS.lf, zS.ad, zS.pd, zS.sp, zS.tk, zS.gm, zS.gw]
theorem zd_t10 (c : zS) : f_X3_digest_t10 c.vr c.ar c.vs c.asF c.ds c.fa c.od c.rd = (zsf (zd1 c)).1 := by
  unfold f_X3_digest_t10 zsf zd1 zaf
  dsimp only [zS.vr, zS.ar, zS.vs, zS.asF, zS.ds, zS.fa, zS.od, zS.rd, zS.vi, zS.ai, zS.hd, zS.sn, zS.jc, zS.lf, zS.ad, zS.pd, zS.sp, zS.tk, zS.gm, zS.gw]
theorem zd_t11 (c : zS) : f_X3_digest_t11 c.vr c.ar c.vs c.asF c.ds c.fa c.od c.rd = (zd3 (zd2 (zd1 c))).vs := by
  unfold f_X3_digest_t11
  rw [zd_t4, zd_t5, zd_t6, zd_t7, zd_t8, zd_t9]
  rw [← (zd_vr c).1, ← (zd_vr c).2]
  unfold zd3 zff
  generalize zd2 (zd1 c) = d
  dsimp only [zS.vr, zS.ar, zS.vs, zS.asF, zS.ds, zS.fa, zS.od, zS.rd, zS.vi, zS.ai, zS.hd, zS.sn, zS.jc, zS.lf, zS.ad, zS.pd, zS.sp, zS.tk, zS.gm, zS.gw]
theorem zd_t12 (c : zS) : f_X3_digest_t12 c.vr c.ar c.vs c.asF c.ds c.fa c.od c.rd = (zd3 (zd2 (zd1 c))).asF := by
  unfold f_X3_digest_t12
  rw [zd_t4, zd_t5, zd_t6, zd_t7, zd_t8, zd_t9]
  rw [← (zd_vr c).1, ← (zd_vr c).2]
  unfold zd3 zff
  generalize zd2 (zd1 c) = d
  dsimp only [zS.vr, zS.ar, zS.vs, zS.asF, zS.ds, zS.fa, zS.od, zS.rd, zS.vi, zS.ai, zS.hd, zS.sn, zS.jc, zS.lf, zS.ad, zS.pd, zS.sp, zS.tk, zS.gm, zS.gw]
theorem zd_t13 (c : zS) : f_X3_digest_t13 c.vr c.ar c.vs c.asF c.ds c.fa c.od c.rd = (zd3 (zd2 (zd1 c))).ds := by
  unfold f_X3_digest_t13
  rw [zd_t4, zd_t5, zd_t6, zd_t7, zd_t8, zd_t9]
  rw [← (zd_vr c).1, ← (zd_vr c).2]
  unfold zd3 zff
  generalize zd2 (zd1 c) = d
  dsimp only [zS.vr, zS.ar, zS.vs, zS.asF, zS.ds, zS.fa, zS.od, zS.rd, zS.vi, zS.ai, zS.hd, zS.sn, zS.jc, zS.lf, zS.ad, zS.pd, zS.sp, zS.tk, zS.gm, zS.gw]
theorem zd_t14 (c : zS) : f_X3_digest_t14 c.vr c.ar c.vs c.asF c.ds c.fa c.od c.rd = (zd3 (zd2 (zd1 c))).fa := by
  unfold f_X3_digest_t14
  rw [zd_t4, zd_t5, zd_t6, zd_t7, zd_t8, zd_t9]
  rw [← (zd_vr c).1, ← (zd_vr c).2]
  unfold zd3 zff
  generalize zd2 (zd1 c) = d
  dsimp only [zS.vr, zS.ar, zS.vs, zS.asF, zS.ds, zS.fa, zS.od, zS.rd, zS.vi, zS.ai, zS.hd, zS.sn, zS.jc, zS.lf, zS.ad, zS.pd, zS.sp, zS.tk, zS.gm, zS.gw]
theorem zd_t15 (c : zS) : f_X3_digest_t15 c.vr c.ar c.vs c.asF c.ds c.fa c.od c.rd = (zd3 (zd2 (zd1 c))).od := by
  unfold f_X3_digest_t15
  rw [zd_t4, zd_t5, zd_t6, zd_t7, zd_t8, zd_t9]
  rw [← (zd_vr c).1, ← (zd_vr c).2]
  unfold zd3 zff
  generalize zd2 (zd1 c) = d
  dsimp only [zS.vr, zS.ar, zS.vs, zS.asF, zS.ds, zS.fa, zS.od, zS.rd, zS.vi, zS.ai, zS.hd, zS.sn, zS.jc, zS.lf, zS.ad, zS.pd, zS.sp, zS.tk, zS.gm, zS.gw]
theorem zd_t16 (c : zS) : f_X3_digest_t16 c.vr c.ar c.vs c.asF c.ds c.fa c.od c.rd = (zd3 (zd2 (zd1 c))).rd := by
  unfold f_X3_digest_t16
  rw [zd_t4, zd_t5, zd_t6, zd_t7, zd_t8, zd_t9]
  rw [← (zd_vr c).1, ← (zd_vr c).2]
  unfold zd3 zff
  generalize zd2 (zd1 c) = d
  dsimp only [zS.vr, zS.ar, zS.vs, zS.asF, zS.ds, zS.fa, zS.od, zS.rd, zS.vi, zS.ai, zS.hd, zS.sn, zS.jc, zS.lf, zS.ad, zS.pd, zS.sp, zS.tk, zS.gm, zS.gw]
theorem zd_t17 (c : zS) : f_X3_digest_t17 c.vr c.ar c.vs c.asF c.ds c.fa c.od c.rd = (zff (zd2 (zd1 c))).1 := by
  unfold f_X3_digest_t17
  rw [zd_t4, zd_t5, zd_t6, zd_t7, zd_t8, zd_t9]
  rw [← (zd_vr c).1, ← (zd_vr c).2]
  unfold zff
  generalize zd2 (zd1 c) = d
  dsimp only [zS.vr, zS.ar, zS.vs, zS.asF, zS.ds, zS.fa, zS.od, zS.rd, zS.vi, zS.ai, zS.hd, zS.sn, zS.jc, zS.lf, zS.ad, zS.pd, zS.sp, zS.tk, zS.gm, zS.gw]
theorem zd_v3 (c : zS) : (zd3 (zd2 (zd1 c))).vr = c.vr ∧ (zd3 (zd2 (zd1 c))).ar = c.ar := by unfold zd3 zd2 zd1; exact ⟨rfl, rfl⟩
theorem zd_f (c : zS) : f_X3_digest c.vr c.ar c.vs c.asF c.ds c.fa c.od c.rd c.vi c.ai c.hd c.jc c.lf c.ad c.pd c.sp c.tk c.gm c.gw = ((zD3 c).2.2.2.2.2.2, (zD3 c).1, (zD3 c).2.1, (zD3 c).2.2.1, (zD3 c).2.2.2.1, (zD3 c).2.2.2.2.1, (zD3 c).2.2.2.2.2.1, (zD2 c).1, (zD2 c).2.1) := by
  unfold f_X3_digest f_X3_digest_t21 f_X3_digest_t22 f_X3_digest_t23 f_X3_digest_t24 f_X3_digest_t25 f_X3_digest_t26 f_X3_digest_t27 zD3 zLd
  rw [zd_t11, zd_t12, zd_t13, zd_t14, zd_t15, zd_t16, (zd_v3 c).1, (zd_v3 c).2]
  unfold zD2 zD1
  rfl
theorem zd_h {V X : Nat → Nat} {C : zCs} {c : zS} {t : zM} (h : zR V X C c t) : zD1 c = zHd (f_X1_count c.vr) (f_X3_heldInAll c.ar) c.ad c.pd c.sp c.tk c.lf c.gm c.gw (zAmn (zgA V (zBFS V (zst X))) 11 0 0) (nI (zBFS V (zst X)).length) (zFr (zBFS V (zst X))) 1877 := by
  have e1 := h.am.1
  have e2 : (zsf (zd1 c)).1 = nI (zBFS V (zst X)).length := h.d1.sr.1
  have e3 : (zff (zd2 (zd1 c))).1 = zFr (zBFS V (zst X)) := h.d1.d2.fr.1
  unfold zD1 f_X3_digest_t18 f_X3_digest_t3 f_X3_digest_t2 f_X3_digest_t1
  rw [zd_t10, zd_t17, e1, e2, e3]
  unfold zHd f_X3_jars f_X3_acts f_X3_pouredInAll f_X3_spilledInAll f_X3_takenInAll f_X3_candidates f_X0_candidatesLeft f_X3_guesses f_X3_wrongGuesses
  rfl
theorem zd_K {V X : Nat → Nat} {C : zCs} {c : zS} {t : zM} (h : zR V X C c t) : (zD3 c).2.2.2.2.2.2 = zDg (zgA V (zBFS V (zst X))) 11 0 (zD2 c).2.2 ∧ sf_X3_digest_176 11 0 (zd3 (zd2 (zd1 c))).vr (zd3 (zd2 (zd1 c))).ar (zd3 (zd2 (zd1 c))).vs (zd3 (zd2 (zd1 c))).asF (zd3 (zd2 (zd1 c))).ds (zd3 (zd2 (zd1 c))).fa (zd3 (zd2 (zd1 c))).od (zd3 (zd2 (zd1 c))).rd ∧ ∀ as vi ai sn : Nat → Int32, zR V X C (c.vr, c.ar, (zD3 c).1, as, (zD3 c).2.2.1, (zD3 c).2.2.2.1, (zD3 c).2.2.2.2.1, (zD3 c).2.2.2.2.2.1, vi, ai, c.hd, sn, c.jc, c.lf, c.ad, c.pd, c.sp, c.tk, c.gm, c.gw) t := by
  have K := zc_dgLoop 11 0 (zd3 (zd2 (zd1 c))) (zD2 c).2.2 h.d1.d2.d3 (by omega)
  unfold zD3
  refine ⟨K.1, K.2.1, fun as vi ai sn => ?_⟩
  have K2 := K.2.2 as vi ai sn
  generalize zLd 11 0 (zd3 (zd2 (zd1 c))) (zD2 c).2.2 = R at K2 ⊢
  unfold zd3 zd2 zd1 at K2
  exact K2
theorem zd_s (c : zS) (h1 : s_X3_amountsToHave c.vr c.ar c.vs c.asF c.ds c.fa c.od c.rd) (h2 : s_X3_statesToReach (zd1 c).vr (zd1 c).ar (zd1 c).vs (zd1 c).asF (zd1 c).ds (zd1 c).fa (zd1 c).od (zd1 c).rd) (h3 : s_X3_farthest (zd2 (zd1 c)).vr (zd2 (zd1 c)).ar (zd2 (zd1 c)).vs (zd2 (zd1 c)).asF (zd2 (zd1 c)).ds (zd2 (zd1 c)).fa (zd2 (zd1 c)).od (zd2 (zd1 c)).rd) (h4 : sf_X3_digest_150 ((f_X1_count c.vr).toNatClampNeg + 1) 0 c.vr c.ar c.vi c.ai c.hd c.jc (zD1 c)) (h5 : sf_X3_digest_176 11 0 (zd3 (zd2 (zd1 c))).vr (zd3 (zd2 (zd1 c))).ar (zd3 (zd2 (zd1 c))).vs (zd3 (zd2 (zd1 c))).asF (zd3 (zd2 (zd1 c))).ds (zd3 (zd2 (zd1 c))).fa (zd3 (zd2 (zd1 c))).od (zd3 (zd2 (zd1 c))).rd) : zs_digest c := by
  unfold zs_digest s_X3_digest
  rw [zd_t11, zd_t12, zd_t13, zd_t14, zd_t15, zd_t16, zd_t4, zd_t5, zd_t6, zd_t7, zd_t8, zd_t9]
  rw [(zd_vr c).1, (zd_vr c).2] at h3
  rw [(zd_v3 c).1, (zd_v3 c).2] at h5
  refine ⟨h1, ?_, h3, h4, h5⟩
  unfold zd1 zaf at h2
  dsimp only [zS.vr, zS.ar, zS.vs, zS.asF, zS.ds, zS.fa, zS.od, zS.rd, zS.vi, zS.ai, zS.hd, zS.sn, zS.jc, zS.lf, zS.ad, zS.pd, zS.sp, zS.tk, zS.gm, zS.gw] at h2 ⊢
  exact h2
theorem zo_digest {c : zS} {t : zM} (h : zRel c t) : zs_digest c ∧ ms_digest t ∧ zk_digest c = mk_digest t ∧ zRel (zS_digest c) (zM_digest t) := by
  obtain ⟨V, X, C, h⟩ := h
  have hn := zn_23 V
  have hh := h.held
  have hc := zr_count h.vr h.h9
  have ec : (f_X1_count c.vr).toNatClampNeg = zn V := by rw [hc, nI_clamp (by omega)]
  have em : t.js.toNatClampNeg = zn V := by rw [h.js, nI_clamp (by omega)]
  have J := zc_jarLoop h (zn V + 1) 0 c.vi c.ai (zD1 c) (by omega)
  have K := zd_K h
  rw [← ec] at J
  have A := h.mam t.mf t.mr t.re t.mo t.mb
  have Re := zm_reach9 h.mv h.ma h.ok (f_X4_toHave t.js t.mv t.ma t.mf t.mr t.re t.mo t.mb).2.1 (f_X4_toHave t.js t.mv t.ma t.mf t.mr t.re t.mo t.mb).2.2.1 (f_X4_toHave t.js t.mv t.ma t.mf t.mr t.re t.mo t.mb).2.2.2.1 (f_X4_toHave t.js t.mv t.ma t.mf t.mr t.re t.mo t.mb).2.2.2.2.1 (f_X4_toHave t.js t.mv t.ma t.mf t.mr t.re t.mo t.mb).2.2.2.2.2
  rw [← h.js] at Re
  obtain ⟨e, he, e2⟩ := zFr_ex (zBFS_len V (zst X))
  have Fa := zm_far h.mv h.ma h.ok (f_X4_digest_t3 t.js t.mv t.ma t.mf t.mr t.re t.mo t.mb) (f_X4_digest_t4 t.js t.mv t.ma t.mf t.mr t.re t.mo t.mb) (f_X4_digest_t5 t.js t.mv t.ma t.mf t.mr t.re t.mo t.mb) (f_X4_digest_t6 t.js t.mv t.ma t.mf t.mr t.re t.mo t.mb) (f_X4_digest_t7 t.js t.mv t.ma t.mf t.mr t.re t.mo t.mb) he
  rw [← h.js, ← e2] at Fa
  have lm := zm_left hn h.cok h.cm
  have hM : f_X4_digest_t16 t.js t.mv t.ma t.ac t.po t.si t.ta t.ml t.gu t.wr t.mf t.mr t.re t.mo t.mb = zD1 c := by
    unfold f_X4_digest_t16 f_X4_digest_t9 f_X4_digest_t2 f_X4_digest_t1
    rw [zm_dl, zd_h h]
    unfold f_X4_digest_t8 f_X4_digest_t15
    rw [A.1, Re.1, Fa.1, lm, ← h.lf, ← h.ad, ← h.pd, ← h.sp, ← h.tk, ← h.gm, ← h.gw, hh.1, hh.2, hc, h.js]
  have Jm := zm_jarLoop h (zn V + 1) 0 (zD1 c) (by omega)
  rw [← em] at Jm
  have Km := zm_dgLoop h.mv h.ma h.ok 11 0 (f_X4_digest_t10 t.js t.mv t.ma t.mf t.mr t.re t.mo t.mb) (f_X4_digest_t11 t.js t.mv t.ma t.mf t.mr t.re t.mo t.mb) (f_X4_digest_t12 t.js t.mv t.ma t.mf t.mr t.re t.mo t.mb) (f_X4_digest_t13 t.js t.mv t.ma t.mf t.mr t.re t.mo t.mb) (f_X4_digest_t14 t.js t.mv t.ma t.mf t.mr t.re t.mo t.mb) (zD2 c).2.2 (by omega)
  rw [← h.js] at Km
  have hJ : lf_X4_digest_148 (t.js.toNatClampNeg + 1) 0 t.js t.mv t.ma t.ml (zD1 c) = (zD2 c).2.2 := by
    rw [Jm.1]
    unfold zD2
    rw [J.1, em, ec]
  refine ⟨zd_s c h.am.2 h.d1.sr.2 h.d1.d2.fr.2 J.2 K.2.1, ⟨A.2, Re.2, Fa.2, Jm.2, Km.2⟩, ?_, V, X, C, ?_⟩
  · unfold zk_digest mk_digest f_X4_digest
    rw [zd_f]
    dsimp only
    unfold f_X4_digest_t26
    rw [hM, hJ, Km.1]
    exact K.1
  · unfold zS_digest zM_digest
    rw [zd_f]
    dsimp only
    exact zR.t2 (K.2.2 (zD3 c).2.1 (zD2 c).1 (zD2 c).2.1 c.sn) _ _ _ _ _ _ _
