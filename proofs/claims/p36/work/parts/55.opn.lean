/-! the mean, the digest, following -/
def zMean (n k : Nat) : UInt64 := if n = 2 then FP.ddiv (FP.i2d (nI k)) (4611686018427387904 : UInt64) else FP.ddiv (FP.i2d (nI k)) (4613937818241073152 : UInt64)
theorem zp_meanAmount {V X : Nat → Nat} {C : zCs} {c : zS} {t : zU} (h : zR V X C c t) : zs_meanAmount c ∧ zk_meanAmount c = zMean (zn V) (X 0 + X 1 + X 2) ∧ vf_n64 (zMean (zn V) (X 0 + X 1 + X 2)) ∧ zR V X C (zS_meanAmount c) t := by
  have e := h.held
  have hc := zr_count h.vr h.h9
  have b0 := h.ok 0 (by omega)
  have b1 := h.ok 1 (by omega)
  have b2 := h.ok 2 (by omega)
  have m2 := z_mean2 (X 0 + X 1 + X 2) (by omega)
  have m3 := z_mean3 (X 0 + X 1 + X 2) (by omega)
  have key : zk_meanAmount c = zMean (zn V) (X 0 + X 1 + X 2) ∧ vf_n64 (zMean (zn V) (X 0 + X 1 + X 2)) := by
    unfold zk_meanAmount f_X3_meanAmount zMean
    rw [e, hc]
    rcases zn_23 V with q | q
    · rw [q, if_pos (show nI 2 = (2 : Int32) from rfl), if_pos rfl]; exact ⟨rfl, m2⟩
    · rw [q, if_neg (by decide), if_neg (by decide)]; exact ⟨rfl, m3⟩
  refine ⟨?_, key.1, key.2, h⟩
  unfold zs_meanAmount s_X3_meanAmount
  rw [e]
  exact ⟨fun _ => m2, fun _ => m3⟩
/-- the digest, said in mathematics -/
def zDig (V X : Nat → Nat) (C : zCs) (t : zU) : Int64 := zDg (zgA V (zBFS V (zst X))) 11 0 (zDjs V X C (zn V + 1) 0 (zHd (nI (zn V)) (nI (X 0 + X 1 + X 2)) (nI t.ac) (nI t.po) (nI t.si) (nI t.ta) (nI (zNm C 729)) (nI t.gu) (nI t.wr) (zAmn (zgA V (zBFS V (zst X))) 11 0 0) (nI (zBFS V (zst X)).length) (zFr (zBFS V (zst X))) 1877))
theorem zp_digest {V X : Nat → Nat} {C : zCs} {c : zS} {t : zU} (h : zR V X C c t) : zs_digest c ∧ zk_digest c = zDig V X C t ∧ zR V X C (zS_digest c) t := by
  have hn := zn_23 V
  have hh := h.held
  have hc := zr_count h.vr h.h9
  have ec : (f_X1_count c.vr).toNatClampNeg = zn V := by rw [hc, nI_clamp (by omega)]
  have J := zc_jarLoop h (zn V + 1) 0 c.vi c.ai (zD1 c) (by omega)
  have K := zd_K h
  have J2 := J
  rw [← ec] at J2
  refine ⟨zd_s c h.am.2 h.d1.sr.2 h.d1.d2.fr.2 J2.2 K.2.1, ?_, ?_⟩
  · unfold zk_digest
    rw [zd_f]
    dsimp only
    rw [K.1]
    unfold zDig
    refine congrArg (zDg _ 11 0) ?_
    unfold zD2
    rw [ec, J.1, zd_h h, hc, hh, h.ad, h.pd, h.sp, h.tk, h.lf, h.gm, h.gw]
  · unfold zS_digest
    rw [zd_f]
    dsimp only
    exact K.2.2 (zD3 c).2.1 (zD2 c).1 (zD2 c).2.1 c.sn
theorem zAcI_eq (y : zS) (a : Nat) : zAcI y (nI a) = zSact y a := rfl
theorem zSf_of {c x : zS} (e1 : x.vr = c.vr) (e2 : x.sn = c.sn) (e3 : x.jc = c.jc) (e4 : x.gm = c.gm) (e5 : x.gw = c.gw) : zSf c (x.ar, x.vs, x.asF, x.ds, x.fa, x.od, x.rd, x.vi, x.ai, x.hd, x.lf, x.ad, x.pd, x.sp, x.tk) = x := by
  unfold zSf
  rw [← e1, ← e2, ← e3, ← e4, ← e5]
theorem zAcI_k (y : zS) (a : Int32) : (zAcI y a).vr = y.vr ∧ (zAcI y a).sn = y.sn ∧ (zAcI y a).jc = y.jc ∧ (zAcI y a).gm = y.gm ∧ (zAcI y a).gw = y.gw := ⟨rfl, rfl, rfl, rfl, rfl⟩
theorem zcf_k (y : zS) (a : Int32) : (zcf y a).vr = y.vr ∧ (zcf y a).sn = y.sn ∧ (zcf y a).jc = y.jc ∧ (zcf y a).gm = y.gm ∧ (zcf y a).gw = y.gw := ⟨rfl, rfl, rfl, rfl, rfl⟩
theorem zcg_k (y : zS) (a : Int32) : (zcg y a).vr = y.vr ∧ (zcg y a).sn = y.sn ∧ (zcg y a).jc = y.jc ∧ (zcg y a).gm = y.gm ∧ (zcg y a).gw = y.gw := ⟨rfl, rfl, rfl, rfl, rfl⟩
theorem zS_follow_of {c : zS} {p q d : Int32} {R : (Nat → Int32) × (Nat → Int32) × (Nat → Int32) × (Nat → Int32) × (Nat → Int32) × (Nat → Int32) × Int32 × (Nat → Int32) × (Nat → Int32) × (Nat → Int32) × Int32 × Int32 × Int32 × Int32 × Int32} (h : f_X3_follow c.vr c.ar c.vs c.asF c.ds c.fa c.od c.rd c.vi c.ai c.hd c.jc c.lf c.ad c.pd c.sp c.tk p q = (d, R)) : zk_follow c p q = d ∧ zS_follow c p q = zSf c R := by
  unfold zk_follow zS_follow zSf
  rw [h]
  exact ⟨rfl, rfl⟩
theorem zLf_one {y : zS} {p : Int32} {a : Nat} (ft : zft y p = nI a) : zLf (1 + 1) 0 y p (nI 1) = ((zSact (zcf y p) a).ar, (zSact (zcf y p) a).vs, (zSact (zcf y p) a).asF, (zSact (zcf y p) a).ds, (zSact (zcf y p) a).fa, (zSact (zcf y p) a).od, (zSact (zcf y p) a).rd, (zSact (zcf y p) a).vi, (zSact (zcf y p) a).ai, (zSact (zcf y p) a).hd, (zSact (zcf y p) a).lf, (zSact (zcf y p) a).ad, (zSact (zcf y p) a).pd, (zSact (zcf y p) a).sp, (zSact (zcf y p) a).tk) := by
  have q1 : ¬ nI 1 ≤ nI 0 := nI_ge (by omega) (by omega)
  have q2 : nI 1 ≤ nI (0 + 1) := nI_le (by omega) (by omega)
  rw [zLf_go (n := 1) (k := 0) q1, ft, zAcI_eq]
  generalize zSact (zcf y p) a = x
  exact zLf_stop (n := 0) q2
theorem zLfs_one {y : zS} {p : Int32} {a : Nat} (ft : zft y p = nI a) (h1 : s_X3_waysFromHere y.vr y.ar y.vs y.asF y.ds y.fa y.od y.rd) (h2 : s_X3_doAct y.vr y.ar y.vi y.ai y.hd y.jc y.lf (nI a)) : zLfs (1 + 1) 0 y p (nI 1) := by
  have q1 : ¬ nI 1 ≤ nI 0 := nI_ge (by omega) (by omega)
  have q2 : nI 1 ≤ nI (0 + 1) := nI_le (by omega) (by omega)
  refine zLfs_go (n := 1) (k := 0) q1 h1 (by rw [ft]; exact h2) ?_
  generalize zAcI (zcf y p) (zft y p) = x
  exact zLfs_stop (n := 0) q2
theorem zSact_k (y : zS) (a : Nat) : (zSact y a).vr = y.vr ∧ (zSact y a).sn = y.sn ∧ (zSact y a).jc = y.jc ∧ (zSact y a).gm = y.gm ∧ (zSact y a).gw = y.gw := ⟨rfl, rfl, rfl, rfl, rfl⟩
theorem zSf_one {c : zS} {p q : Int32} {a : Nat} : zSf c ((zSact (zcf (zcg c p) q) a).ar, (zSact (zcf (zcg c p) q) a).vs, (zSact (zcf (zcg c p) q) a).asF, (zSact (zcf (zcg c p) q) a).ds, (zSact (zcf (zcg c p) q) a).fa, (zSact (zcf (zcg c p) q) a).od, (zSact (zcf (zcg c p) q) a).rd, (zSact (zcf (zcg c p) q) a).vi, (zSact (zcf (zcg c p) q) a).ai, (zSact (zcf (zcg c p) q) a).hd, (zSact (zcf (zcg c p) q) a).lf, (zSact (zcf (zcg c p) q) a).ad, (zSact (zcf (zcg c p) q) a).pd, (zSact (zcf (zcg c p) q) a).sp, (zSact (zcf (zcg c p) q) a).tk) = zSact (zcf (zcg c p) q) a := by
  have k1 := zSact_k (zcf (zcg c p) q) a
  have k2 := zcf_k (zcg c p) q
  have k3 := zcg_k c p
  generalize zSact (zcf (zcg c p) q) a = x at k1
  exact zSf_of (by rw [k1.1, k2.1, k3.1]) (by rw [k1.2.1, k2.2.1, k3.2.1]) (by rw [k1.2.2.1, k2.2.2.1, k3.2.2.1]) (by rw [k1.2.2.2.1, k2.2.2.2.1, k3.2.2.2.1]) (by rw [k1.2.2.2.2, k2.2.2.2.2, k3.2.2.2.2])
theorem zs_follow_of {c : zS} {p q : Int32} {d : Nat} (hd : d < 2 ^ 31) (h1 : s_X3_waysFromHere c.vr c.ar c.vs c.asF c.ds c.fa c.od c.rd) (ed : (if q < f_X3_follow_t2 c.vr c.ar c.vs c.asF c.ds c.fa c.od c.rd p then q else f_X3_follow_t2 c.vr c.ar c.vs c.asF c.ds c.fa c.od c.rd p) = nI d) (s0 : zLfs (d + 1) 0 (zcg c p) p (nI d)) : zs_follow c p q := by
  refine ⟨fun _ => ⟨fun _ => ⟨h1, fun _ => trivial, fun _ => ?_⟩, fun _ => trivial⟩, fun _ => trivial⟩
  unfold zLfs zcg zW at s0
  rw [ed, nI_clamp hd]
  dsimp only [zS.vr, zS.ar, zS.vs, zS.asF, zS.ds, zS.fa, zS.od, zS.rd, zS.vi, zS.ai, zS.hd, zS.sn, zS.jc, zS.lf, zS.ad, zS.pd, zS.sp, zS.tk, zS.gm, zS.gw] at s0 ⊢
  exact s0
/-- one act of following -/
theorem zp_follow1 {V X : Nat → Nat} {C : zCs} {c : zS} {t : zU} (h : zR V X C c t) {v : Nat} (hv : v ≤ 9) {e : Nat × Nat × Nat} (he : zF V X v = some e) (h0 : 0 < e.2.1) : zs_follow c (nI v) (nI 1) ∧ zt_follow c (nI v) (nI 1) = 0 ∧ zk_follow c (nI v) (nI 1) = nI 1 ∧ zR V (zmv V X e.2.2) (zNew V X e.2.2 C) (zS_follow c (nI v) (nI 1)) (zUact V X e.2.2 t) := by
  have w := h.w
  have h1 := za_t hv
  have g1 : t_X3_checkActs (nI 1) 1 = 0 := by rw [zl1]; exact zx_t (lo := 1) (v := 1) (by omega) (by omega)
  have e2 : f_X3_follow_t2 c.vr c.ar c.vs c.asF c.ds c.fa c.od c.rd (nI v) = zDi (zF V X v) := by
    unfold f_X3_follow_t2; exact h.least hv _
  rw [he] at e2
  have hb := zF_lt h he
  have q3 : f_X3_follow_t2 c.vr c.ar c.vs c.asF c.ds c.fa c.od c.rd (nI v) = nI e.2.1 := e2
  have n3 : ¬ f_X3_follow_t2 c.vr c.ar c.vs c.asF c.ds c.fa c.od c.rd (nI v) = -1 := by rw [q3]; exact z_m1 (by omega)
  have ed : (if nI 1 < f_X3_follow_t2 c.vr c.ar c.vs c.asF c.ds c.fa c.od c.rd (nI v) then nI 1 else f_X3_follow_t2 c.vr c.ar c.vs c.asF c.ds c.fa c.od c.rd (nI v)) = nI 1 := by
    rw [q3, z_if_lt (by omega) (by omega)]
    by_cases z : 1 < e.2.1
    · rw [if_pos z]
    · rw [if_neg z]; exact congrArg nI (by omega)
  have fF := zf_follow h1 g1 n3 ed
  rw [nI_clamp (by omega)] at fF
  have h2 : zR V X C (zcg c (nI v)) t := w.2.2.2 _
  have w2 := h2.w
  obtain ⟨a15, hal, -⟩ := zF_next h.ok he h0
  have ft : zft (zcg c (nI v)) (nI v) = nI e.2.2 := by
    unfold zft f_X3_follow_t4
    exact zc_first w2.2.1 w2.2.2.1 h.gd.1 _ (by omega) he h0
  have h3 : zR V X C (zcf (zcg c (nI v)) (nI v)) t := w2.2.2.2 _
  have A := zo_act h3 a15 hal
  have A0 := zo_act h2 a15 hal
  have F := zS_follow_of fF
  rw [zLf_one ft, zSf_one] at F
  exact ⟨zs_follow_of (by omega) w.1 ed (zLfs_one ft w2.1 A0.2.1), by unfold zt_follow t_X3_follow; rw [if_pos h1, if_pos g1, if_neg n3], F.1, by rw [F.2]; exact A.2.2⟩
/-- none where the amount is there -/
theorem zp_follow0 {V X : Nat → Nat} {C : zCs} {c : zS} {t : zU} (h : zR V X C c t) {v : Nat} (hv : v ≤ 9) {e : Nat × Nat × Nat} (he : zF V X v = some e) (h0 : e.2.1 = 0) : zs_follow c (nI v) (nI 50) ∧ zt_follow c (nI v) (nI 50) = 0 ∧ zk_follow c (nI v) (nI 50) = nI 0 ∧ zR V X C (zS_follow c (nI v) (nI 50)) t := by
  have w := h.w
  have h1 := za_t hv
  have g1 : t_X3_checkActs (nI 50) 1 = 0 := by rw [zl1]; exact zx_t (lo := 1) (v := 50) (by omega) (by omega)
  have e2 : f_X3_follow_t2 c.vr c.ar c.vs c.asF c.ds c.fa c.od c.rd (nI v) = zDi (zF V X v) := by
    unfold f_X3_follow_t2; exact h.least hv _
  rw [he] at e2
  have q3 : f_X3_follow_t2 c.vr c.ar c.vs c.asF c.ds c.fa c.od c.rd (nI v) = nI 0 := by rw [e2]; show nI e.2.1 = _; rw [h0]
  have n3 : ¬ f_X3_follow_t2 c.vr c.ar c.vs c.asF c.ds c.fa c.od c.rd (nI v) = -1 := by rw [q3]; exact z_m1 (by omega)
  have ed : (if nI 50 < f_X3_follow_t2 c.vr c.ar c.vs c.asF c.ds c.fa c.od c.rd (nI v) then nI 50 else f_X3_follow_t2 c.vr c.ar c.vs c.asF c.ds c.fa c.od c.rd (nI v)) = nI 0 := by
    rw [q3, z_if_lt (by omega) (by omega), if_neg (by omega)]
  have fF := zf_follow h1 g1 n3 ed
  rw [nI_clamp (by omega)] at fF
  have h2 : zR V X C (zcg c (nI v)) t := w.2.2.2 _
  have q2 : nI 0 ≤ nI 0 := Int32.le_refl _
  have F := zS_follow_of fF
  rw [zLf_stop (n := 0) q2, zSf_of (c := c) (x := zcg c (nI v)) rfl rfl rfl rfl rfl] at F
  refine ⟨?_, by unfold zt_follow t_X3_follow; rw [if_pos h1, if_pos g1, if_neg n3], F.1, by rw [F.2]; exact h2⟩
  exact zs_follow_of (by omega) w.1 ed (zLfs_stop (n := 0) q2)
