/-! the mean, the digest, following -/
def zMean (n k : Nat) : UInt64 := if n = 2 then FP.ddiv (FP.i2d (nI k)) (4611686018427387904 : UInt64) else FP.ddiv (FP.i2d (nI k)) (4613937818241073152 : UInt64)
theorem zp_meanAmount {V X : Nat → Nat} {C : zCs} {c : zS} {t : zU} (h : zR V X C c t) : zs_meanAmount c ∧ zk_meanAmount c = zMean (zn V) (X 0 + X 1 + X 2) ∧ vf_n64 (zMean (zn V) (X 0 + X 1 + X 2)) ∧ zR V X C (zS_meanAmount c) t := by
  have e := h.held
  have hc := zr_count h.vr h.h9
  have b0 := h.ok 0 (by omega)
  have b1 := h.ok 1 (by omega)
  have b2 := h.ok 2 (by omega)
  have m2 := z_mean2 (X 0 + X 1 + X 2) (by omega)
  have m3 := z_mean3 (X 0 + X 1 + X 2) (by omega)
  have key : zk_meanAmount c = zMean (zn V) (X 0 + X 1 + X 2) ∧ vf_n64 (zMean (zn V) (X 0 + X 1 + X 2)) := by
    unfold zk_meanAmount f_X3_meanAmount zMean
    dsimp only
    rw [e, hc]
    rcases zn_23 V with q | q
    · rw [q, if_pos (show nI 2 = (2 : Int32) from rfl), if_pos rfl]; exact ⟨rfl, m2⟩
    · rw [q, if_neg (by decide), if_neg (by decide)]; exact ⟨rfl, m3⟩
  refine ⟨?_, key.1, key.2, h⟩
  unfold zs_meanAmount s_X3_meanAmount
  rw [e]
  exact ⟨fun _ => m2, fun _ => m3⟩
/-- the digest, said in mathematics -/
def zDig (V X : Nat → Nat) (C : zCs) (t : zU) : Int64 := zDg (zgA V (zBFS V (zst X))) 11 0 (zDjs V X C (zn V + 1) 0 (zHd (nI (zn V)) (nI (X 0 + X 1 + X 2)) (nI t.ac) (nI t.po) (nI t.si) (nI t.ta) (nI (zNm C 729)) (nI t.gu) (nI t.wr) (zAmn (zgA V (zBFS V (zst X))) 11 0 0) (nI (zBFS V (zst X)).length) (zFr (zBFS V (zst X))) 1877))
theorem zp_digest {V X : Nat → Nat} {C : zCs} {c : zS} {t : zU} (h : zR V X C c t) : zs_digest c ∧ zk_digest c = zDig V X C t ∧ zR V X C (zS_digest c) t := by
  have hn := zn_23 V
  have hh := h.held
  have hc := zr_count h.vr h.h9
  have ec : (f_X1_count c.vr).toNatClampNeg = zn V := by rw [hc, nI_clamp (by omega)]
  have J := zc_jarLoop h (zn V + 1) 0 c.vi c.ai (zD1 c) (by omega)
  have K := zd_K h
  have J2 := J
  rw [← ec] at J2
  refine ⟨zd_s c h.am.2 h.d1.sr.2 h.d1.d2.fr.2 J2.2 K.2.1, ?_, ?_⟩
  · unfold zk_digest
    rw [zd_f]
    dsimp only
    rw [K.1]
    unfold zDig
    refine congrArg (zDg _ 11 0) ?_
    unfold zD2
    rw [ec, J.1, zd_h h, hc, hh, h.ad, h.pd, h.sp, h.tk, h.lf, h.gm, h.gw]
  · unfold zS_digest
    rw [zd_f]
    dsimp only
    exact K.2.2 (zD3 c).2.1 (zD2 c).1 (zD2 c).2.1 c.sn
/-- one act of following -/
theorem zp_follow1 {V X : Nat → Nat} {C : zCs} {c : zS} {t : zU} (h : zR V X C c t) {v : Nat} (hv : v ≤ 9) {e : Nat × Nat × Nat} (he : zF V X v = some e) (h0 : 0 < e.2.1) : zs_follow c (nI v) (nI 1) ∧ zt_follow c (nI v) (nI 1) = 0 ∧ zk_follow c (nI v) (nI 1) = nI 1 ∧ zR V (zmv V X e.2.2) (zNew V X e.2.2 C) (zS_follow c (nI v) (nI 1)) (zUact V X e.2.2 t) := by
  have w := h.w
  have h1 := za_t hv
  have g1 : t_X3_checkActs (nI 1) 1 = 0 := zx_t (lo := 1) (v := 1) (by omega) (by omega)
  have e2 : f_X3_follow_t2 c.vr c.ar c.vs c.asF c.ds c.fa c.od c.rd (nI v) = zDi (zF V X v) := by
    unfold f_X3_follow_t2; exact h.least hv _
  rw [he] at e2
  have hb := zF_lt h he
  have q3 : f_X3_follow_t2 c.vr c.ar c.vs c.asF c.ds c.fa c.od c.rd (nI v) = nI e.2.1 := e2
  have n3 : ¬ f_X3_follow_t2 c.vr c.ar c.vs c.asF c.ds c.fa c.od c.rd (nI v) = -1 := by rw [q3]; exact z_m1 (by omega)
  have ed : (if nI 1 < f_X3_follow_t2 c.vr c.ar c.vs c.asF c.ds c.fa c.od c.rd (nI v) then nI 1 else f_X3_follow_t2 c.vr c.ar c.vs c.asF c.ds c.fa c.od c.rd (nI v)) = nI 1 := by
    rw [q3, z_if_lt (by omega) (by omega)]
    by_cases z : 1 < e.2.1
    · rw [if_pos z]
    · rw [if_neg z]; exact congrArg nI (by omega)
  have fF := zf_follow h1 g1 n3 ed
  rw [nI_clamp (by omega)] at fF
  have h2 : zR V X C (zcg c (nI v)) t := w.2.2.2 _
  have w2 := h2.w
  obtain ⟨a15, hal, -⟩ := zF_next h.ok he h0
  have ft : zft (zcg c (nI v)) (nI v) = nI e.2.2 := by
    unfold zft f_X3_follow_t4
    exact zc_first w2.2.1 w2.2.2.1 h.gd.1 _ (by omega) he h0
  have h3 : zR V X C (zcf (zcg c (nI v)) (nI v)) t := w2.2.2.2 _
  have A := zo_act h3 a15 hal
  have q1 : ¬ nI 1 ≤ nI 0 := by decide
  have q2 : nI 1 ≤ nI (0 + 1) := by decide
  have go : zLf (1 + 1) 0 (zcg c (nI v)) (nI v) (nI 1) = zLf 1 (0 + 1) (zAcI (zcf (zcg c (nI v)) (nI v)) (nI e.2.2)) (nI v) (nI 1) := by rw [zLf_go q1, ft]
  rw [go, zLf_stop q2] at fF
  refine ⟨?_, by unfold zt_follow t_X3_follow; rw [if_pos h1, if_pos g1, if_neg n3], by unfold zk_follow; rw [fF], ?_⟩
  · have s0 : zLfs (1 + 1) 0 (zcg c (nI v)) (nI v) (nI 1) := zLfs_go q1 w2.1 (by rw [ft]; exact A.2.1) (zLfs_stop q2)
    refine ⟨fun _ => ⟨fun _ => ⟨w.1, fun z => absurd z n3, fun _ => ?_⟩, fun _ => trivial⟩, fun _ => trivial⟩
    unfold zLfs zcg zW at s0
    rw [ed, nI_clamp (by omega)]
    dsimp only [zS.vr, zS.ar, zS.vs, zS.asF, zS.ds, zS.fa, zS.od, zS.rd, zS.vi, zS.ai, zS.hd, zS.sn, zS.jc, zS.lf, zS.ad, zS.pd, zS.sp, zS.tk, zS.gm, zS.gw] at s0 ⊢
    exact s0
  · have A3 := A.2.2
    unfold zS_follow
    rw [fF]
    unfold zSact at A3
    unfold zAcI
    exact A3
/-- none where the amount is there -/
theorem zp_follow0 {V X : Nat → Nat} {C : zCs} {c : zS} {t : zU} (h : zR V X C c t) {v : Nat} (hv : v ≤ 9) {e : Nat × Nat × Nat} (he : zF V X v = some e) (h0 : e.2.1 = 0) : zs_follow c (nI v) (nI 50) ∧ zt_follow c (nI v) (nI 50) = 0 ∧ zk_follow c (nI v) (nI 50) = nI 0 ∧ zR V X C (zS_follow c (nI v) (nI 50)) t := by
  have w := h.w
  have h1 := za_t hv
  have g1 : t_X3_checkActs (nI 50) 1 = 0 := zx_t (lo := 1) (v := 50) (by omega) (by omega)
  have e2 : f_X3_follow_t2 c.vr c.ar c.vs c.asF c.ds c.fa c.od c.rd (nI v) = zDi (zF V X v) := by
    unfold f_X3_follow_t2; exact h.least hv _
  rw [he] at e2
  have q3 : f_X3_follow_t2 c.vr c.ar c.vs c.asF c.ds c.fa c.od c.rd (nI v) = nI 0 := by rw [e2]; show nI e.2.1 = _; rw [h0]
  have n3 : ¬ f_X3_follow_t2 c.vr c.ar c.vs c.asF c.ds c.fa c.od c.rd (nI v) = -1 := by rw [q3]; decide
  have ed : (if nI 50 < f_X3_follow_t2 c.vr c.ar c.vs c.asF c.ds c.fa c.od c.rd (nI v) then nI 50 else f_X3_follow_t2 c.vr c.ar c.vs c.asF c.ds c.fa c.od c.rd (nI v)) = nI 0 := by
    rw [q3, if_neg (by decide)]
  have fF := zf_follow h1 g1 n3 ed
  rw [nI_clamp (by omega)] at fF
  have h2 : zR V X C (zcg c (nI v)) t := w.2.2.2 _
  have q2 : nI 0 ≤ nI 0 := Int32.le_refl _
  rw [zLf_stop q2] at fF
  refine ⟨?_, by unfold zt_follow t_X3_follow; rw [if_pos h1, if_pos g1, if_neg n3], by unfold zk_follow; rw [fF], ?_⟩
  · have s0 : zLfs (0 + 1) 0 (zcg c (nI v)) (nI v) (nI 0) := zLfs_stop q2
    refine ⟨fun _ => ⟨fun _ => ⟨w.1, fun z => absurd z n3, fun _ => ?_⟩, fun _ => trivial⟩, fun _ => trivial⟩
    unfold zLfs zcg zW at s0
    rw [ed, nI_clamp (by omega)]
    dsimp only [zS.vr, zS.ar, zS.vs, zS.asF, zS.ds, zS.fa, zS.od, zS.rd, zS.vi, zS.ai, zS.hd, zS.sn, zS.jc, zS.lf, zS.ad, zS.pd, zS.sp, zS.tk, zS.gm, zS.gw] at s0 ⊢
    exact s0
  · unfold zS_follow
    rw [fF]
    exact h2
