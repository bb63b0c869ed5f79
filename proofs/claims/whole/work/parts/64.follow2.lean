/-! follow, of both -/
def zcg (c : zS) (x : Int32) : zS := (c.vr, c.ar, (zW c).1, f_X3_follow_t1 c.vr c.ar c.vs c.asF c.ds c.fa c.od c.rd x, (zW c).2.2.1, (zW c).2.2.2.1, (zW c).2.2.2.2.1, (zW c).2.2.2.2.2, c.vi, c.ai, c.hd, c.sn, c.jc, c.lf, c.ad, c.pd, c.sp, c.tk, c.gm, c.gw)
def zmg (t : zM) (x : Int32) : zM := (t.th, t.js, t.mv, t.ma, t.ac, t.po, t.si, t.ta, t.ml, t.mh, t.gu, t.wr, (f_X4_leastFrom t.js t.mv t.mf t.mr t.re t.mo t.mb (f_X4_state t.ma) x).2.1, (f_X4_leastFrom t.js t.mv t.mf t.mr t.re t.mo t.mb (f_X4_state t.ma) x).2.2.1, (f_X4_leastFrom t.js t.mv t.mf t.mr t.re t.mo t.mb (f_X4_state t.ma) x).2.2.2.1, (f_X4_leastFrom t.js t.mv t.mf t.mr t.re t.mo t.mb (f_X4_state t.ma) x).2.2.2.2.1, (f_X4_leastFrom t.js t.mv t.mf t.mr t.re t.mo t.mb (f_X4_state t.ma) x).2.2.2.2.2, t.ms)
theorem zf_follow {c : zS} {p q : Int32} {d : Int32} (h1 : t_X3_checkAmount p = 0) (h2 : t_X3_checkActs q 1 = 0) (h3 : ¬ f_X3_follow_t2 c.vr c.ar c.vs c.asF c.ds c.fa c.od c.rd p = -1) (hd : (if q < f_X3_follow_t2 c.vr c.ar c.vs c.asF c.ds c.fa c.od c.rd p then q else f_X3_follow_t2 c.vr c.ar c.vs c.asF c.ds c.fa c.od c.rd p) = d) :
    f_X3_follow c.vr c.ar c.vs c.asF c.ds c.fa c.od c.rd c.vi c.ai c.hd c.jc c.lf c.ad c.pd c.sp c.tk p q = (d, zLf (d.toNatClampNeg + 1) 0 (zcg c p) p d) := by
  unfold f_X3_follow
  rw [if_pos h1, if_pos h2, if_neg h3]
  unfold f_X3_follow_t9 f_X3_follow_t10 f_X3_follow_t11 f_X3_follow_t12 f_X3_follow_t13 f_X3_follow_t14 f_X3_follow_t15 f_X3_follow_t16 f_X3_follow_t17 f_X3_follow_t18 f_X3_follow_t19 f_X3_follow_t20 f_X3_follow_t21 f_X3_follow_t22 f_X3_follow_t23
  rw [hd]
  unfold zLf zcg zW
  dsimp only [zS.vr, zS.ar, zS.vs, zS.asF, zS.ds, zS.fa, zS.od, zS.rd, zS.vi, zS.ai, zS.hd, zS.sn, zS.jc, zS.lf, zS.ad, zS.pd, zS.sp, zS.tk, zS.gm, zS.gw]
theorem zf_followM {t : zM} {p q : Int32} (h1 : ¬ f_X4_isAmount p = 0) (h2 : ¬ f_X4_isIn q 1 50 = 0) (h3 : ¬ (f_X4_leastFrom t.js t.mv t.mf t.mr t.re t.mo t.mb (f_X4_state t.ma) p).1 = -1) :
    f_X4_follow t.th t.js t.mv t.ma t.ac t.po t.si t.ta t.ml t.mh t.mf t.mr t.re t.mo t.mb p q = ((zLm (q.toNatClampNeg + 1) 0 (zmg t p) p q).2.2.2.2.2.2.2.2.2.2.2.2, 0, (zLm (q.toNatClampNeg + 1) 0 (zmg t p) p q).1, (zLm (q.toNatClampNeg + 1) 0 (zmg t p) p q).2.1, (zLm (q.toNatClampNeg + 1) 0 (zmg t p) p q).2.2.1, (zLm (q.toNatClampNeg + 1) 0 (zmg t p) p q).2.2.2.1, (zLm (q.toNatClampNeg + 1) 0 (zmg t p) p q).2.2.2.2.1, (zLm (q.toNatClampNeg + 1) 0 (zmg t p) p q).2.2.2.2.2.1, (zLm (q.toNatClampNeg + 1) 0 (zmg t p) p q).2.2.2.2.2.2.1, (zLm (q.toNatClampNeg + 1) 0 (zmg t p) p q).2.2.2.2.2.2.2.1, (zLm (q.toNatClampNeg + 1) 0 (zmg t p) p q).2.2.2.2.2.2.2.2.1, (zLm (q.toNatClampNeg + 1) 0 (zmg t p) p q).2.2.2.2.2.2.2.2.2.1, (zLm (q.toNatClampNeg + 1) 0 (zmg t p) p q).2.2.2.2.2.2.2.2.2.2.1, (zLm (q.toNatClampNeg + 1) 0 (zmg t p) p q).2.2.2.2.2.2.2.2.2.2.2.1) := by
  unfold f_X4_follow
  rw [if_neg h1, if_neg h2, if_neg h3]
  unfold f_X4_follow_t1 f_X4_follow_t2 f_X4_follow_t3 f_X4_follow_t4 f_X4_follow_t5 f_X4_follow_t6 f_X4_follow_t7 f_X4_follow_t8 f_X4_follow_t9 f_X4_follow_t10 f_X4_follow_t11 f_X4_follow_t12 f_X4_follow_t13 f_X4_followed zLm zmg
  dsimp only [zM.th, zM.js, zM.mv, zM.ma, zM.ac, zM.po, zM.si, zM.ta, zM.ml, zM.mh, zM.gu, zM.wr, zM.mf, zM.mr, zM.re, zM.mo, zM.mb, zM.ms]
theorem zo_follow {c : zS} {t : zM} (h : zRel c t) (ou : Nat → Int64) (p q : Int32) : zs_follow c p q ∧ ms_follow t p q ∧ zAn (zk_follow c ou p q) (zM_follow t p q).th (zO_follow c ou p q 0) (mk_follow t p q).toInt64 ∧ zRel (zS_follow c ou p q) (zM_follow t p q) := by
  obtain ⟨V, X, C, h⟩ := h
  have w := h.w
  have sS : s_X3_follow c.vr c.ar c.vs c.asF c.ds c.fa c.od c.rd c.vi c.ai c.hd c.jc c.lf c.ad c.pd c.sp c.tk p q → zs_follow c p q := fun z => ⟨fun _ => z, fun _ => ⟨fun _ => z, fun _ => z⟩⟩
  rcases za_cases p with ⟨v, hv, rfl, h1, h2⟩ | ⟨h1, h2⟩
  · have n2 : ¬ f_X4_isAmount (nI v) = 0 := by rw [h2]; decide
    have kx := zx_cases 1 (by omega) q
    rw [← zl1] at kx
    rcases kx with ⟨P, hP1, hP, rfl, g1, g2⟩ | ⟨g1, g2⟩
    · have m2 : ¬ f_X4_isIn (nI P) 1 50 = 0 := by rw [g2]; decide
      have L := h.least hv
      have e2 : f_X3_follow_t2 c.vr c.ar c.vs c.asF c.ds c.fa c.od c.rd (nI v) = zDi (zF V X v) := by
        unfold f_X3_follow_t2; exact L.1 _
      have eL := L.2 t.mf t.mr t.re t.mo t.mb
      cases he : zF V X v with
      | none =>
        rw [he] at e2 eL
        have q3 : f_X3_follow_t2 c.vr c.ar c.vs c.asF c.ds c.fa c.od c.rd (nI v) = -1 := e2
        have q4 : (f_X4_leastFrom t.js t.mv t.mf t.mr t.re t.mo t.mb (f_X4_state t.ma) (nI v)).1 = -1 := eL.1
        have t0 : t_X3_follow c.vr c.ar c.vs c.asF c.ds c.fa c.od c.rd (nI v) (nI P) = 3 := by unfold t_X3_follow; rw [if_pos h1, if_pos g1, if_pos q3]
        have t1 : ¬ t_X3_follow c.vr c.ar c.vs c.asF c.ds c.fa c.od c.rd (nI v) (nI P) = 0 := by rw [t0]; decide
        have t2 : ¬ t_X3_follow c.vr c.ar c.vs c.asF c.ds c.fa c.od c.rd (nI v) (nI P) = 2 := by rw [t0]; decide
        refine ⟨sS ⟨fun _ => ⟨fun _ => ⟨w.1, fun _ => trivial, fun z => absurd q3 z⟩, fun _ => trivial⟩, fun _ => trivial⟩, ⟨fun z => absurd z n2, fun _ => ⟨fun z => absurd z m2, fun _ => ⟨eL.2, fun _ => trivial, fun z => absurd q4 z⟩⟩⟩, ?_, V, X, C, ?_⟩
        · unfold zAn zk_follow zM_follow zO_follow mk_follow
          simp only [f_L_follow, f_X4_follow, f_X4_no, if_neg t1, if_neg t2, if_neg n2, if_neg m2, if_pos q4]
          exact ⟨trivial, fun z => absurd z (by decide)⟩
        · unfold zS_follow zM_follow
          simp only [f_L_follow, f_X3_follow, f_X4_follow, if_neg t1, if_neg t2, if_pos h1, if_pos g1, if_neg n2, if_neg m2, if_pos q3, if_pos q4]
          exact zR.t2 (zR.g2 (w.2.2.2 (f_X3_follow_t1 c.vr c.ar c.vs c.asF c.ds c.fa c.od c.rd (nI v))) _ c.vi c.ai c.sn) _ _ _ _ _ _ _
      | some e =>
        rw [he] at e2 eL
        have hb := zF_lt h he
        have q3 : f_X3_follow_t2 c.vr c.ar c.vs c.asF c.ds c.fa c.od c.rd (nI v) = nI e.2.1 := e2
        have q4 : (f_X4_leastFrom t.js t.mv t.mf t.mr t.re t.mo t.mb (f_X4_state t.ma) (nI v)).1 = nI e.2.1 := eL.1
        have n3 : ¬ f_X3_follow_t2 c.vr c.ar c.vs c.asF c.ds c.fa c.od c.rd (nI v) = -1 := by rw [q3]; exact z_m1 (by omega)
        have n4 : ¬ (f_X4_leastFrom t.js t.mv t.mf t.mr t.re t.mo t.mb (f_X4_state t.ma) (nI v)).1 = -1 := by rw [q4]; exact z_m1 (by omega)
        have t0 : t_X3_follow c.vr c.ar c.vs c.asF c.ds c.fa c.od c.rd (nI v) (nI P) = 0 := by unfold t_X3_follow; rw [if_pos h1, if_pos g1, if_neg n3]
        have ed : (if nI P < f_X3_follow_t2 c.vr c.ar c.vs c.asF c.ds c.fa c.od c.rd (nI v) then nI P else f_X3_follow_t2 c.vr c.ar c.vs c.asF c.ds c.fa c.od c.rd (nI v)) = nI (min e.2.1 P) := by
          rw [q3, z_if_lt (by omega) (by omega)]
          by_cases z : P < e.2.1
          · rw [if_pos z]; exact congrArg nI (by omega)
          · rw [if_neg z]; exact congrArg nI (by omega)
        have cd : (nI (min e.2.1 P)).toNatClampNeg = min e.2.1 P := nI_clamp (by omega)
        have cp : (nI P).toNatClampNeg = P := nI_clamp (by omega)
        have fF := zf_follow h1 g1 n3 ed
        have fM := zf_followM n2 m2 n4
        rw [cd] at fF
        rw [cp] at fM
        have hc : zR V X C (zcg c (nI v)) (zmg t (nI v)) := zR.t2 (w.2.2.2 (f_X3_follow_t1 c.vr c.ar c.vs c.asF c.ds c.fa c.od c.rd (nI v))) t.th _ _ _ _ _ _
        have R := zo_followLoop (D := min e.2.1 P) hv hP (min e.2.1 P) 0 X C (zcg c (nI v)) (zmg t (nI v)) e hc he (by omega) (by omega) rfl
        rw [Nat.sub_zero] at R
        have R3 : s_X4_followed t.js t.mv t.ma t.ac t.po t.si t.ta t.ml t.mh (f_X4_leastFrom t.js t.mv t.mf t.mr t.re t.mo t.mb (f_X4_state t.ma) (nI v)).2.1 (f_X4_leastFrom t.js t.mv t.mf t.mr t.re t.mo t.mb (f_X4_state t.ma) (nI v)).2.2.1 (f_X4_leastFrom t.js t.mv t.mf t.mr t.re t.mo t.mb (f_X4_state t.ma) (nI v)).2.2.2.1 (f_X4_leastFrom t.js t.mv t.mf t.mr t.re t.mo t.mb (f_X4_state t.ma) (nI v)).2.2.2.2.1 (f_X4_leastFrom t.js t.mv t.mf t.mr t.re t.mo t.mb (f_X4_state t.ma) (nI v)).2.2.2.2.2 (nI v) (nI P) := by
          have R4 := R.2.2.1
          unfold zLms zmg at R4
          unfold s_X4_followed
          rw [cp]
          dsimp only [zM.th, zM.js, zM.mv, zM.ma, zM.ac, zM.po, zM.si, zM.ta, zM.ml, zM.mh, zM.gu, zM.wr, zM.mf, zM.mr, zM.re, zM.mo, zM.mb, zM.ms] at R4 ⊢
          exact R4
        refine ⟨sS ⟨fun _ => ⟨fun _ => ⟨w.1, fun z => absurd z n3, fun _ => ?_⟩, fun _ => trivial⟩, fun _ => trivial⟩, ⟨fun z => absurd z n2, fun _ => ⟨fun z => absurd z m2, fun _ => ⟨eL.2, fun z => absurd z n4, fun _ => R3⟩⟩⟩, ?_, ?_⟩
        · have R5 := R.2.1
          unfold zLfs zcg zW at R5
          rw [ed, cd]
          dsimp only [zS.vr, zS.ar, zS.vs, zS.asF, zS.ds, zS.fa, zS.od, zS.rd, zS.vi, zS.ai, zS.hd, zS.sn, zS.jc, zS.lf, zS.ad, zS.pd, zS.sp, zS.tk, zS.gm, zS.gw] at R5 ⊢
          exact R5
        · unfold zAn zk_follow zM_follow zO_follow mk_follow
          rw [fM]
          simp only [f_L_follow, if_pos t0, fF]
          exact ⟨trivial, fun _ => by rw [z_up0, R.1]⟩
        · have Rl := R.2.2.2 0
          unfold zS_follow zM_follow
          rw [fM]
          simp only [f_L_follow, if_pos t0, fF]
          generalize zLf (min e.2.1 P + 1) 0 (zcg c (nI v)) (nI v) (nI (min e.2.1 P)) = R1 at Rl ⊢
          generalize zLm (P + 1) 0 (zmg t (nI v)) (nI v) (nI P) = R2 at Rl ⊢
          unfold zSf zMf zcg zmg at Rl
          dsimp only [zS.vr, zS.ar, zS.vs, zS.asF, zS.ds, zS.fa, zS.od, zS.rd, zS.vi, zS.ai, zS.hd, zS.sn, zS.jc, zS.lf, zS.ad, zS.pd, zS.sp, zS.tk, zS.gm, zS.gw, zM.th, zM.js, zM.mv, zM.ma, zM.ac, zM.po, zM.si, zM.ta, zM.ml, zM.mh, zM.gu, zM.wr, zM.mf, zM.mr, zM.re, zM.mo, zM.mb, zM.ms] at Rl ⊢
          exact Rl
    · have k1 : ¬ t_X3_checkActs q 1 = 0 := by rw [g1]; decide
      have t0 : t_X3_follow c.vr c.ar c.vs c.asF c.ds c.fa c.od c.rd (nI v) q = 2 := by unfold t_X3_follow; rw [if_pos h1, if_neg k1]
      have t1 : ¬ t_X3_follow c.vr c.ar c.vs c.asF c.ds c.fa c.od c.rd (nI v) q = 0 := by rw [t0]; decide
      refine ⟨sS ⟨fun _ => ⟨fun z => absurd z k1, fun _ => trivial⟩, fun _ => trivial⟩, ⟨fun z => absurd z n2, fun _ => ⟨fun _ => trivial, fun z => absurd g2 z⟩⟩, ?_, V, X, C, ?_⟩
      · unfold zAn zk_follow zM_follow zO_follow mk_follow
        simp only [f_L_follow, f_X4_follow, f_X4_no, if_neg t1, if_pos t0, if_neg n2, if_pos g2]
        exact ⟨trivial, fun z => absurd z (by decide)⟩
      · unfold zS_follow zM_follow
        simp only [f_L_follow, f_X3_follow, f_X4_follow, if_neg t1, if_pos t0, if_pos h1, if_neg k1, if_neg n2, if_pos g2]
        exact zR.t2 (zR.g2 h _ _ _ _) _ _ _ _ _ _ _
  · have n1 : ¬ t_X3_checkAmount p = 0 := by rw [h1]; decide
    have t0 : t_X3_follow c.vr c.ar c.vs c.asF c.ds c.fa c.od c.rd p q = 2 := by unfold t_X3_follow; rw [if_neg n1]
    have t1 : ¬ t_X3_follow c.vr c.ar c.vs c.asF c.ds c.fa c.od c.rd p q = 0 := by rw [t0]; decide
    refine ⟨sS ⟨fun z => absurd z n1, fun _ => trivial⟩, ⟨fun _ => trivial, fun z => absurd h2 z⟩, ?_, V, X, C, ?_⟩
    · unfold zAn zk_follow zM_follow zO_follow mk_follow
      simp only [f_L_follow, f_X4_follow, f_X4_no, if_neg t1, if_pos t0, if_pos h2]
      exact ⟨trivial, fun z => absurd z (by decide)⟩
    · unfold zS_follow zM_follow
      simp only [f_L_follow, f_X3_follow, f_X4_follow, if_neg t1, if_pos t0, if_neg n1, if_pos h2]
      exact zR.t2 (zR.g2 h _ _ _ _) _ _ _ _ _ _ _
