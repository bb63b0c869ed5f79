/-- both lay out the jars -/
theorem zE3_lay {mv : Nat → Int32} (a b d : Nat) : zE3 (upd (upd (upd mv (0 : Int32).toNatClampNeg (nI a)) (1 : Int32).toNatClampNeg (nI b)) (2 : Int32).toNatClampNeg (nI d)) (zV3 a b d) := by
  intro j hj
  rcases z_j3 hj with rfl | rfl | rfl <;> rfl
theorem zV3_ok {a b d : Nat} (ha : a ≤ 9) (hb : b ≤ 9) (hd : d ≤ 9) : zOK (zV3 a b d) (fun _ => 0) := by
  intro j hj
  refine ⟨Nat.zero_le _, ?_⟩
  unfold zV3; split
  · exact ha
  · split
    · exact hb
    · exact hd
theorem zR.lay {a b d : Nat} (ha : 1 ≤ a ∧ a ≤ 9) (hb : 1 ≤ b ∧ b ≤ 9) (hd : d ≤ 9) (c : zS) (t : zM) (th : Int32) :
    zR (zV3 a b d) (fun _ => 0) (zC0 (zn (zV3 a b d)))
      ((f_X3_begin c.vr c.ar c.rd c.hd c.jc c.lf c.ad c.pd c.sp c.tk c.gm c.gw (nI a) (nI b) (nI d)).1, (f_X3_begin c.vr c.ar c.rd c.hd c.jc c.lf c.ad c.pd c.sp c.tk c.gm c.gw (nI a) (nI b) (nI d)).2.1, c.vs, c.asF, c.ds, c.fa, c.od, (f_X3_begin c.vr c.ar c.rd c.hd c.jc c.lf c.ad c.pd c.sp c.tk c.gm c.gw (nI a) (nI b) (nI d)).2.2.1, c.vi, c.ai, (f_X3_begin c.vr c.ar c.rd c.hd c.jc c.lf c.ad c.pd c.sp c.tk c.gm c.gw (nI a) (nI b) (nI d)).2.2.2.1, c.sn, (f_X3_begin c.vr c.ar c.rd c.hd c.jc c.lf c.ad c.pd c.sp c.tk c.gm c.gw (nI a) (nI b) (nI d)).2.2.2.2.1, (f_X3_begin c.vr c.ar c.rd c.hd c.jc c.lf c.ad c.pd c.sp c.tk c.gm c.gw (nI a) (nI b) (nI d)).2.2.2.2.2.1, (f_X3_begin c.vr c.ar c.rd c.hd c.jc c.lf c.ad c.pd c.sp c.tk c.gm c.gw (nI a) (nI b) (nI d)).2.2.2.2.2.2.1, (f_X3_begin c.vr c.ar c.rd c.hd c.jc c.lf c.ad c.pd c.sp c.tk c.gm c.gw (nI a) (nI b) (nI d)).2.2.2.2.2.2.2.1, (f_X3_begin c.vr c.ar c.rd c.hd c.jc c.lf c.ad c.pd c.sp c.tk c.gm c.gw (nI a) (nI b) (nI d)).2.2.2.2.2.2.2.2.1, (f_X3_begin c.vr c.ar c.rd c.hd c.jc c.lf c.ad c.pd c.sp c.tk c.gm c.gw (nI a) (nI b) (nI d)).2.2.2.2.2.2.2.2.2.1, (f_X3_begin c.vr c.ar c.rd c.hd c.jc c.lf c.ad c.pd c.sp c.tk c.gm c.gw (nI a) (nI b) (nI d)).2.2.2.2.2.2.2.2.2.2.1, (f_X3_begin c.vr c.ar c.rd c.hd c.jc c.lf c.ad c.pd c.sp c.tk c.gm c.gw (nI a) (nI b) (nI d)).2.2.2.2.2.2.2.2.2.2.2)
      (th, (f_X4_lay t.js t.mv t.ma t.ac t.po t.si t.ta t.ml t.mh t.gu t.wr (nI a) (nI b) (nI d)).1, (f_X4_lay t.js t.mv t.ma t.ac t.po t.si t.ta t.ml t.mh t.gu t.wr (nI a) (nI b) (nI d)).2.1, (f_X4_lay t.js t.mv t.ma t.ac t.po t.si t.ta t.ml t.mh t.gu t.wr (nI a) (nI b) (nI d)).2.2.1, (f_X4_lay t.js t.mv t.ma t.ac t.po t.si t.ta t.ml t.mh t.gu t.wr (nI a) (nI b) (nI d)).2.2.2.1, (f_X4_lay t.js t.mv t.ma t.ac t.po t.si t.ta t.ml t.mh t.gu t.wr (nI a) (nI b) (nI d)).2.2.2.2.1, (f_X4_lay t.js t.mv t.ma t.ac t.po t.si t.ta t.ml t.mh t.gu t.wr (nI a) (nI b) (nI d)).2.2.2.2.2.1, (f_X4_lay t.js t.mv t.ma t.ac t.po t.si t.ta t.ml t.mh t.gu t.wr (nI a) (nI b) (nI d)).2.2.2.2.2.2.1, (f_X4_lay t.js t.mv t.ma t.ac t.po t.si t.ta t.ml t.mh t.gu t.wr (nI a) (nI b) (nI d)).2.2.2.2.2.2.2.1, (f_X4_lay t.js t.mv t.ma t.ac t.po t.si t.ta t.ml t.mh t.gu t.wr (nI a) (nI b) (nI d)).2.2.2.2.2.2.2.2.1, (f_X4_lay t.js t.mv t.ma t.ac t.po t.si t.ta t.ml t.mh t.gu t.wr (nI a) (nI b) (nI d)).2.2.2.2.2.2.2.2.2.1, (f_X4_lay t.js t.mv t.ma t.ac t.po t.si t.ta t.ml t.mh t.gu t.wr (nI a) (nI b) (nI d)).2.2.2.2.2.2.2.2.2.2, t.mf, t.mr, t.re, t.mo, t.mb, t.ms) ∧
    f_X1_count (f_X3_begin c.vr c.ar c.rd c.hd c.jc c.lf c.ad c.pd c.sp c.tk c.gm c.gw (nI a) (nI b) (nI d)).1 = (f_X4_lay t.js t.mv t.ma t.ac t.po t.si t.ta t.ml t.mh t.gu t.wr (nI a) (nI b) (nI d)).1 := by
  have hn := zn_23 (zV3 a b d)
  have ok := zV3_ok ha.2 hb.2 hd
  have ha9 := ha.2
  have hb9 := hb.2
  have hvr : zE3 (f_X1_layEmpty c.vr c.ar (nI a) (nI b) (nI d)).1 (zV3 a b d) := zE3_lay a b d
  have hc := zr_count hvr (ok 2 (by omega)).2
  have hB : f_X3_begin c.vr c.ar c.rd c.hd c.jc c.lf c.ad c.pd c.sp c.tk c.gm c.gw (nI a) (nI b) (nI d) = ((f_X1_layEmpty c.vr c.ar (nI a) (nI b) (nI d)).1, (f_X1_layEmpty c.vr c.ar (nI a) (nI b) (nI d)).2, (0 : Int32), (f_X0_beginWith c.hd c.jc c.lf (nI (zn (zV3 a b d)))).1, (f_X0_beginWith c.hd c.jc c.lf (nI (zn (zV3 a b d)))).2.1, (f_X0_beginWith c.hd c.jc c.lf (nI (zn (zV3 a b d)))).2.2, (0 : Int32), (0 : Int32), (0 : Int32), (0 : Int32), (0 : Int32), (0 : Int32)) := by
    unfold f_X3_begin f_X2_forget; rw [hc]
  have hL : f_X4_lay t.js t.mv t.ma t.ac t.po t.si t.ta t.ml t.mh t.gu t.wr (nI a) (nI b) (nI d) = (nI (zn (zV3 a b d)), (upd (upd (upd t.mv (0 : Int32).toNatClampNeg (nI a)) (1 : Int32).toNatClampNeg (nI b)) (2 : Int32).toNatClampNeg (nI d)), (lf_X4_lay_37 4 0 t.ma), (0 : Int32), (0 : Int32), (0 : Int32), (0 : Int32), (lf_X4_lay_90 1001 0 (nI (zn (zV3 a b d))) t.ml t.mh).1, (lf_X4_lay_90 1001 0 (nI (zn (zV3 a b d))) t.ml t.mh).2, (0 : Int32), (0 : Int32)) := by
    have e2 : zV3 a b d 2 = d := rfl
    unfold f_X4_lay
    rw [zl0]
    rw [z_if_eq (by omega) (by omega)]
    unfold zn
    rw [e2]
    by_cases q : d = 0
    · rw [if_pos q, if_pos q]; rfl
    · rw [if_neg q, if_neg q]; rfl
  have bw := zc_begin hn c.hd c.jc c.lf
  have mr := zm_rows hn t.ml t.mh
  have ml := zm_lay37 t.ma
  have al := (zr_lay c.vr c.ar (nI a) (nI b) (nI d)).2
  rw [hB, hL]
  generalize lf_X4_lay_90 1001 0 (nI (zn (zV3 a b d))) t.ml t.mh = P at mr ⊢
  generalize f_X0_beginWith c.hd c.jc c.lf (nI (zn (zV3 a b d))) = Q at bw ⊢
  generalize lf_X4_lay_37 4 0 t.ma = P2 at ml ⊢
  refine ⟨⟨⟨ok, ha, hb⟩, zC0_ok _, hvr, al, zE3_lay a b d, ml, bw.2.1, rfl, bw.1, mr, bw.2.2, rfl, rfl, rfl, rfl, rfl, rfl, Or.inl rfl⟩, hc⟩
theorem zo_layOut {c : zS} {t : zM} (h : zRel c t) (ou : Nat → Int64) (p1 p2 p3 : Int32) : zs_layOut c p1 p2 p3 ∧ ms_layOut t p1 p2 p3 ∧ zAn (zk_layOut c ou p1 p2 p3) (zM_layOut t p1 p2 p3).th (zO_layOut c ou p1 p2 p3 0) (mk_layOut t p1 p2 p3).toInt64 ∧ zRel (zS_layOut c ou p1 p2 p3) (zM_layOut t p1 p2 p3) := by
  obtain ⟨V, X, C, h⟩ := h
  refine ⟨trivial, ⟨fun _ => trivial, fun _ => ⟨fun _ => trivial, fun _ => ⟨fun _ => trivial, fun _ => zsm_lay p1 p2 p3⟩⟩⟩, ?_⟩
  rcases zlay_cases p1 p2 p3 with ⟨a, b, d, ha, hb, hd, rfl, rfl, rfl, t0, n1, n2, n3, m1, m2, m3⟩ | ⟨t0, hx, hy⟩
  · have L := zR.lay ha hb hd c t 0
    have hF : f_X3_layOut c.vr c.ar c.rd c.hd c.jc c.lf c.ad c.pd c.sp c.tk c.gm c.gw (nI a) (nI b) (nI d) = (f_X1_count (f_X3_begin c.vr c.ar c.rd c.hd c.jc c.lf c.ad c.pd c.sp c.tk c.gm c.gw (nI a) (nI b) (nI d)).1, f_X3_begin c.vr c.ar c.rd c.hd c.jc c.lf c.ad c.pd c.sp c.tk c.gm c.gw (nI a) (nI b) (nI d)) := by
      unfold f_X3_layOut
      rw [if_neg n1, if_neg n2]
      generalize f_X3_begin c.vr c.ar c.rd c.hd c.jc c.lf c.ad c.pd c.sp c.tk c.gm c.gw (nI a) (nI b) (nI d) = B
      rcases n3 with q | ⟨q, q2⟩
      · rw [if_pos q]
      · rw [if_neg q, if_neg q2]
    refine ⟨?_, zV3 a b d, (fun _ => 0), zC0 (zn (zV3 a b d)), ?_⟩
    · unfold zAn zk_layOut zM_layOut zO_layOut mk_layOut
      simp only [f_L_layOut, f_X4_layOut, if_pos t0, if_neg m1, if_neg m2, if_neg m3, hF]
      exact ⟨trivial, fun _ => by rw [z_up0, L.2]⟩
    · unfold zS_layOut zM_layOut
      simp only [f_L_layOut, f_X4_layOut, if_pos t0, if_neg m1, if_neg m2, if_neg m3, hF]
      exact L.1
  · have t1 : ¬ t_X3_layOut p1 p2 p3 = 0 := by rw [t0]; decide
    have hF : f_X3_layOut c.vr c.ar c.rd c.hd c.jc c.lf c.ad c.pd c.sp c.tk c.gm c.gw p1 p2 p3 = ((0 : Int32), c.vr, c.ar, c.rd, c.hd, c.jc, c.lf, c.ad, c.pd, c.sp, c.tk, c.gm, c.gw) := by
      unfold f_X3_layOut
      rcases hx with q | ⟨q, q2⟩ | ⟨q, q2, q3, q4⟩
      · rw [if_pos q]
      · rw [if_neg q, if_pos q2]
      · rw [if_neg q, if_neg q2, if_neg q3, if_pos q4]
    have hM : f_X4_layOut t.th t.js t.mv t.ma t.ac t.po t.si t.ta t.ml t.mh t.gu t.wr p1 p2 p3 = ((0 : Int32), (1 : Int32), t.js, t.mv, t.ma, t.ac, t.po, t.si, t.ta, t.ml, t.mh, t.gu, t.wr) := by
      unfold f_X4_layOut f_X4_no
      rcases hy with q | ⟨q, q2⟩ | ⟨q, q2, q3⟩
      · rw [if_pos q]
      · rw [if_neg q, if_pos q2]
      · rw [if_neg q, if_neg q2, if_pos q3]
    refine ⟨?_, V, X, C, ?_⟩
    · unfold zAn zk_layOut zM_layOut zO_layOut mk_layOut
      simp only [f_L_layOut, if_neg t1, hM]
      exact ⟨trivial, fun z => absurd z (by decide)⟩
    · unfold zS_layOut zM_layOut
      simp only [f_L_layOut, if_neg t1, hF, hM]
      exact zR.t2 (zR.g2 h _ _ _ _) _ _ _ _ _ _ _
