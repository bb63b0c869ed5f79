/-! the contracts, said of the tuples; a: the addresses -/
abbrev zLW (G : zG) (a : Nat → Nat) (c : zS) (ou : Nat → Int64) : va_W := w_LX G (a 0) (a 1) (a 2) (a 3) (a 4) (a 5) (a 6) (a 7) (a 8) (a 9) (a 10) (a 11) (a 12) (a 13) (a 14) (a 15) (a 16) (a 17) c.vr c.ar c.vs c.asF c.ds c.fa c.od c.rd c.vi c.ai c.hd c.sn c.jc c.lf c.ad c.pd c.sp c.tk c.gm c.gw ou
abbrev zCW3 (G : zG) (a : Nat → Nat) (c : zS) : va_W := w_X3 G (a 0) (a 1) (a 2) (a 3) (a 4) (a 5) (a 6) (a 7) (a 8) (a 9) (a 10) (a 11) (a 12) (a 13) (a 14) (a 15) (a 16) c.vr c.ar c.vs c.asF c.ds c.fa c.od c.rd c.vi c.ai c.hd c.sn c.jc c.lf c.ad c.pd c.sp c.tk c.gm c.gw
abbrev zMW (G : zG) (a : Nat → Nat) (t : zM) : va_W := w_X4 G (a 18) (a 19) (a 20) (a 21) (a 22) (a 23) (a 24) (a 25) (a 26) (a 27) t.th t.js t.mv t.ma t.ac t.po t.si t.ta t.ml t.mh t.gu t.wr t.mf t.mr t.re t.mo t.mb t.ms
theorem q_L_layOut (l : Launch) (G : zG) (a : Nat → Nat) (c : zS) (ou : Nat → Int64) (p1 p2 p3 : Int32) (hz : zs_layOut c p1 p2 p3) (hst : l.stackTraces = false) : zCW l G yL_layOut wsL_layOut rm_L_layOut 1 6 [.ref (a 0), .int p1, .int p2, .int p3, .ref (a 17)] (zLW G a c ou) (some (.int (zk_layOut c ou p1 p2 p3))) (fun _ : Unit => zLW G a (zS_layOut c ou p1 p2 p3) (zO_layOut c ou p1 p2 p3)) := by
  have h := c_L_layOut l G (a 0) (a 1) (a 2) (a 3) (a 4) (a 5) (a 6) (a 7) (a 8) (a 9) (a 10) (a 11) (a 12) (a 13) (a 14) (a 15) (a 16) (a 17) c.vr c.ar c.vs c.asF c.ds c.fa c.od c.rd c.vi c.ai c.hd c.sn c.jc c.lf c.ad c.pd c.sp c.tk c.gm c.gw ou p1 p2 p3 hst
  dsimp only [zS.vr, zS.ar, zS.vs, zS.asF, zS.ds, zS.fa, zS.od, zS.rd, zS.vi, zS.ai, zS.hd, zS.sn, zS.jc, zS.lf, zS.ad, zS.pd, zS.sp, zS.tk, zS.gm, zS.gw] at h
  dsimp only [zLW, zS_layOut, zk_layOut, zO_layOut, zS.vr, zS.ar, zS.vs, zS.asF, zS.ds, zS.fa, zS.od, zS.rd, zS.vi, zS.ai, zS.hd, zS.sn, zS.jc, zS.lf, zS.ad, zS.pd, zS.sp, zS.tk, zS.gm, zS.gw]
  exact h
theorem q_L_fill (l : Launch) (G : zG) (a : Nat → Nat) (c : zS) (ou : Nat → Int64) (p1 : Int32) (hz : zs_fill c p1) (hst : l.stackTraces = false) : zCW l G yL_fill wsL_fill rm_L_fill 1 6 [.ref (a 0), .int p1, .ref (a 17)] (zLW G a c ou) (some (.int (zk_fill c ou p1))) (fun _ : Unit => zLW G a (zS_fill c ou p1) (zO_fill c ou p1)) := by
  have h := c_L_fill l G (a 0) (a 1) (a 2) (a 3) (a 4) (a 5) (a 6) (a 7) (a 8) (a 9) (a 10) (a 11) (a 12) (a 13) (a 14) (a 15) (a 16) (a 17) c.vr c.ar c.vs c.asF c.ds c.fa c.od c.rd c.vi c.ai c.hd c.sn c.jc c.lf c.ad c.pd c.sp c.tk c.gm c.gw ou p1 hz hst
  dsimp only [zS.vr, zS.ar, zS.vs, zS.asF, zS.ds, zS.fa, zS.od, zS.rd, zS.vi, zS.ai, zS.hd, zS.sn, zS.jc, zS.lf, zS.ad, zS.pd, zS.sp, zS.tk, zS.gm, zS.gw] at h
  dsimp only [zLW, zS_fill, zk_fill, zO_fill, zS.vr, zS.ar, zS.vs, zS.asF, zS.ds, zS.fa, zS.od, zS.rd, zS.vi, zS.ai, zS.hd, zS.sn, zS.jc, zS.lf, zS.ad, zS.pd, zS.sp, zS.tk, zS.gm, zS.gw]
  exact h
theorem q_L_empty (l : Launch) (G : zG) (a : Nat → Nat) (c : zS) (ou : Nat → Int64) (p1 : Int32) (hz : zs_empty c p1) (hst : l.stackTraces = false) : zCW l G yL_empty wsL_empty rm_L_empty 1 6 [.ref (a 0), .int p1, .ref (a 17)] (zLW G a c ou) (some (.int (zk_empty c ou p1))) (fun _ : Unit => zLW G a (zS_empty c ou p1) (zO_empty c ou p1)) := by
  have h := c_L_empty l G (a 0) (a 1) (a 2) (a 3) (a 4) (a 5) (a 6) (a 7) (a 8) (a 9) (a 10) (a 11) (a 12) (a 13) (a 14) (a 15) (a 16) (a 17) c.vr c.ar c.vs c.asF c.ds c.fa c.od c.rd c.vi c.ai c.hd c.sn c.jc c.lf c.ad c.pd c.sp c.tk c.gm c.gw ou p1 hz hst
  dsimp only [zS.vr, zS.ar, zS.vs, zS.asF, zS.ds, zS.fa, zS.od, zS.rd, zS.vi, zS.ai, zS.hd, zS.sn, zS.jc, zS.lf, zS.ad, zS.pd, zS.sp, zS.tk, zS.gm, zS.gw] at h
  dsimp only [zLW, zS_empty, zk_empty, zO_empty, zS.vr, zS.ar, zS.vs, zS.asF, zS.ds, zS.fa, zS.od, zS.rd, zS.vi, zS.ai, zS.hd, zS.sn, zS.jc, zS.lf, zS.ad, zS.pd, zS.sp, zS.tk, zS.gm, zS.gw]
  exact h
theorem q_L_pour (l : Launch) (G : zG) (a : Nat → Nat) (c : zS) (ou : Nat → Int64) (p1 p2 : Int32) (hz : zs_pour c p1 p2) (hst : l.stackTraces = false) : zCW l G yL_pour wsL_pour rm_L_pour 1 6 [.ref (a 0), .int p1, .int p2, .ref (a 17)] (zLW G a c ou) (some (.int (zk_pour c ou p1 p2))) (fun _ : Unit => zLW G a (zS_pour c ou p1 p2) (zO_pour c ou p1 p2)) := by
  have h := c_L_pour l G (a 0) (a 1) (a 2) (a 3) (a 4) (a 5) (a 6) (a 7) (a 8) (a 9) (a 10) (a 11) (a 12) (a 13) (a 14) (a 15) (a 16) (a 17) c.vr c.ar c.vs c.asF c.ds c.fa c.od c.rd c.vi c.ai c.hd c.sn c.jc c.lf c.ad c.pd c.sp c.tk c.gm c.gw ou p1 p2 hz hst
  dsimp only [zS.vr, zS.ar, zS.vs, zS.asF, zS.ds, zS.fa, zS.od, zS.rd, zS.vi, zS.ai, zS.hd, zS.sn, zS.jc, zS.lf, zS.ad, zS.pd, zS.sp, zS.tk, zS.gm, zS.gw] at h
  dsimp only [zLW, zS_pour, zk_pour, zO_pour, zS.vr, zS.ar, zS.vs, zS.asF, zS.ds, zS.fa, zS.od, zS.rd, zS.vi, zS.ai, zS.hd, zS.sn, zS.jc, zS.lf, zS.ad, zS.pd, zS.sp, zS.tk, zS.gm, zS.gw]
  exact h
theorem q_L_follow (l : Launch) (G : zG) (a : Nat → Nat) (c : zS) (ou : Nat → Int64) (p1 p2 : Int32) (hz : zs_follow c p1 p2) (hst : l.stackTraces = false) : zCW l G yL_follow wsL_follow rm_L_follow 1 6 [.ref (a 0), .int p1, .int p2, .ref (a 17)] (zLW G a c ou) (some (.int (zk_follow c ou p1 p2))) (fun _ : Unit => zLW G a (zS_follow c ou p1 p2) (zO_follow c ou p1 p2)) := by
  have h := c_L_follow l G (a 0) (a 1) (a 2) (a 3) (a 4) (a 5) (a 6) (a 7) (a 8) (a 9) (a 10) (a 11) (a 12) (a 13) (a 14) (a 15) (a 16) (a 17) c.vr c.ar c.vs c.asF c.ds c.fa c.od c.rd c.vi c.ai c.hd c.sn c.jc c.lf c.ad c.pd c.sp c.tk c.gm c.gw ou p1 p2 hz hst
  dsimp only [zS.vr, zS.ar, zS.vs, zS.asF, zS.ds, zS.fa, zS.od, zS.rd, zS.vi, zS.ai, zS.hd, zS.sn, zS.jc, zS.lf, zS.ad, zS.pd, zS.sp, zS.tk, zS.gm, zS.gw] at h
  dsimp only [zLW, zS_follow, zk_follow, zO_follow, zS.vr, zS.ar, zS.vs, zS.asF, zS.ds, zS.fa, zS.od, zS.rd, zS.vi, zS.ai, zS.hd, zS.sn, zS.jc, zS.lf, zS.ad, zS.pd, zS.sp, zS.tk, zS.gm, zS.gw]
  exact h
theorem q_L_volumeOf (l : Launch) (G : zG) (a : Nat → Nat) (c : zS) (ou : Nat → Int64) (p1 : Int32) (hz : zs_volumeOf c p1) (hst : l.stackTraces = false) : zCW l G yL_volumeOf wsL_volumeOf rm_L_volumeOf 1 6 [.ref (a 0), .int p1, .ref (a 17)] (zLW G a c ou) (some (.int (zk_volumeOf c ou p1))) (fun _ : Unit => zLW G a (zS_volumeOf c ou p1) (zO_volumeOf c ou p1)) := by
  have h := c_L_volumeOf l G (a 0) (a 1) (a 2) (a 3) (a 4) (a 5) (a 6) (a 7) (a 8) (a 9) (a 10) (a 11) (a 12) (a 13) (a 14) (a 15) (a 16) (a 17) c.vr c.ar c.vs c.asF c.ds c.fa c.od c.rd c.vi c.ai c.hd c.sn c.jc c.lf c.ad c.pd c.sp c.tk c.gm c.gw ou p1 hst
  dsimp only [zS.vr, zS.ar, zS.vs, zS.asF, zS.ds, zS.fa, zS.od, zS.rd, zS.vi, zS.ai, zS.hd, zS.sn, zS.jc, zS.lf, zS.ad, zS.pd, zS.sp, zS.tk, zS.gm, zS.gw] at h
  dsimp only [zLW, zS_volumeOf, zk_volumeOf, zO_volumeOf, zS.vr, zS.ar, zS.vs, zS.asF, zS.ds, zS.fa, zS.od, zS.rd, zS.vi, zS.ai, zS.hd, zS.sn, zS.jc, zS.lf, zS.ad, zS.pd, zS.sp, zS.tk, zS.gm, zS.gw]
  exact h
theorem q_L_amountOf (l : Launch) (G : zG) (a : Nat → Nat) (c : zS) (ou : Nat → Int64) (p1 : Int32) (hz : zs_amountOf c p1) (hst : l.stackTraces = false) : zCW l G yL_amountOf wsL_amountOf rm_L_amountOf 1 6 [.ref (a 0), .int p1, .ref (a 17)] (zLW G a c ou) (some (.int (zk_amountOf c ou p1))) (fun _ : Unit => zLW G a (zS_amountOf c ou p1) (zO_amountOf c ou p1)) := by
  have h := c_L_amountOf l G (a 0) (a 1) (a 2) (a 3) (a 4) (a 5) (a 6) (a 7) (a 8) (a 9) (a 10) (a 11) (a 12) (a 13) (a 14) (a 15) (a 16) (a 17) c.vr c.ar c.vs c.asF c.ds c.fa c.od c.rd c.vi c.ai c.hd c.sn c.jc c.lf c.ad c.pd c.sp c.tk c.gm c.gw ou p1 hst
  dsimp only [zS.vr, zS.ar, zS.vs, zS.asF, zS.ds, zS.fa, zS.od, zS.rd, zS.vi, zS.ai, zS.hd, zS.sn, zS.jc, zS.lf, zS.ad, zS.pd, zS.sp, zS.tk, zS.gm, zS.gw] at h
  dsimp only [zLW, zS_amountOf, zk_amountOf, zO_amountOf, zS.vr, zS.ar, zS.vs, zS.asF, zS.ds, zS.fa, zS.od, zS.rd, zS.vi, zS.ai, zS.hd, zS.sn, zS.jc, zS.lf, zS.ad, zS.pd, zS.sp, zS.tk, zS.gm, zS.gw]
  exact h
theorem q_L_isEmpty (l : Launch) (G : zG) (a : Nat → Nat) (c : zS) (ou : Nat → Int64) (p1 : Int32) (hz : zs_isEmpty c p1) (hst : l.stackTraces = false) : zCW l G yL_isEmpty wsL_isEmpty rm_L_isEmpty 1 6 [.ref (a 0), .int p1, .ref (a 17)] (zLW G a c ou) (some (.int (zk_isEmpty c ou p1))) (fun _ : Unit => zLW G a (zS_isEmpty c ou p1) (zO_isEmpty c ou p1)) := by
  have h := c_L_isEmpty l G (a 0) (a 1) (a 2) (a 3) (a 4) (a 5) (a 6) (a 7) (a 8) (a 9) (a 10) (a 11) (a 12) (a 13) (a 14) (a 15) (a 16) (a 17) c.vr c.ar c.vs c.asF c.ds c.fa c.od c.rd c.vi c.ai c.hd c.sn c.jc c.lf c.ad c.pd c.sp c.tk c.gm c.gw ou p1 hst
  dsimp only [zS.vr, zS.ar, zS.vs, zS.asF, zS.ds, zS.fa, zS.od, zS.rd, zS.vi, zS.ai, zS.hd, zS.sn, zS.jc, zS.lf, zS.ad, zS.pd, zS.sp, zS.tk, zS.gm, zS.gw] at h
  dsimp only [zLW, zS_isEmpty, zk_isEmpty, zO_isEmpty, zS.vr, zS.ar, zS.vs, zS.asF, zS.ds, zS.fa, zS.od, zS.rd, zS.vi, zS.ai, zS.hd, zS.sn, zS.jc, zS.lf, zS.ad, zS.pd, zS.sp, zS.tk, zS.gm, zS.gw]
  exact h
theorem q_L_isFull (l : Launch) (G : zG) (a : Nat → Nat) (c : zS) (ou : Nat → Int64) (p1 : Int32) (hz : zs_isFull c p1) (hst : l.stackTraces = false) : zCW l G yL_isFull wsL_isFull rm_L_isFull 1 6 [.ref (a 0), .int p1, .ref (a 17)] (zLW G a c ou) (some (.int (zk_isFull c ou p1))) (fun _ : Unit => zLW G a (zS_isFull c ou p1) (zO_isFull c ou p1)) := by
  have h := c_L_isFull l G (a 0) (a 1) (a 2) (a 3) (a 4) (a 5) (a 6) (a 7) (a 8) (a 9) (a 10) (a 11) (a 12) (a 13) (a 14) (a 15) (a 16) (a 17) c.vr c.ar c.vs c.asF c.ds c.fa c.od c.rd c.vi c.ai c.hd c.sn c.jc c.lf c.ad c.pd c.sp c.tk c.gm c.gw ou p1 hst
  dsimp only [zS.vr, zS.ar, zS.vs, zS.asF, zS.ds, zS.fa, zS.od, zS.rd, zS.vi, zS.ai, zS.hd, zS.sn, zS.jc, zS.lf, zS.ad, zS.pd, zS.sp, zS.tk, zS.gm, zS.gw] at h
  dsimp only [zLW, zS_isFull, zk_isFull, zO_isFull, zS.vr, zS.ar, zS.vs, zS.asF, zS.ds, zS.fa, zS.od, zS.rd, zS.vi, zS.ai, zS.hd, zS.sn, zS.jc, zS.lf, zS.ad, zS.pd, zS.sp, zS.tk, zS.gm, zS.gw]
  exact h
theorem q_L_isThere (l : Launch) (G : zG) (a : Nat → Nat) (c : zS) (ou : Nat → Int64) (p1 : Int32) (hz : zs_isThere c p1) (hst : l.stackTraces = false) : zCW l G yL_isThere wsL_isThere rm_L_isThere 1 6 [.ref (a 0), .int p1, .ref (a 17)] (zLW G a c ou) (some (.int (zk_isThere c ou p1))) (fun _ : Unit => zLW G a (zS_isThere c ou p1) (zO_isThere c ou p1)) := by
  have h := c_L_isThere l G (a 0) (a 1) (a 2) (a 3) (a 4) (a 5) (a 6) (a 7) (a 8) (a 9) (a 10) (a 11) (a 12) (a 13) (a 14) (a 15) (a 16) (a 17) c.vr c.ar c.vs c.asF c.ds c.fa c.od c.rd c.vi c.ai c.hd c.sn c.jc c.lf c.ad c.pd c.sp c.tk c.gm c.gw ou p1 hst
  dsimp only [zS.vr, zS.ar, zS.vs, zS.asF, zS.ds, zS.fa, zS.od, zS.rd, zS.vi, zS.ai, zS.hd, zS.sn, zS.jc, zS.lf, zS.ad, zS.pd, zS.sp, zS.tk, zS.gm, zS.gw] at h
  dsimp only [zLW, zS_isThere, zk_isThere, zO_isThere, zS.vr, zS.ar, zS.vs, zS.asF, zS.ds, zS.fa, zS.od, zS.rd, zS.vi, zS.ai, zS.hd, zS.sn, zS.jc, zS.lf, zS.ad, zS.pd, zS.sp, zS.tk, zS.gm, zS.gw]
  exact h
theorem q_L_leastActs (l : Launch) (G : zG) (a : Nat → Nat) (c : zS) (ou : Nat → Int64) (p1 : Int32) (hz : zs_leastActs c p1) (hst : l.stackTraces = false) : zCW l G yL_leastActs wsL_leastActs rm_L_leastActs 1 6 [.ref (a 0), .int p1, .ref (a 17)] (zLW G a c ou) (some (.int (zk_leastActs c ou p1))) (fun _ : Unit => zLW G a (zS_leastActs c ou p1) (zO_leastActs c ou p1)) := by
  have h := c_L_leastActs l G (a 0) (a 1) (a 2) (a 3) (a 4) (a 5) (a 6) (a 7) (a 8) (a 9) (a 10) (a 11) (a 12) (a 13) (a 14) (a 15) (a 16) (a 17) c.vr c.ar c.vs c.asF c.ds c.fa c.od c.rd c.vi c.ai c.hd c.sn c.jc c.lf c.ad c.pd c.sp c.tk c.gm c.gw ou p1 hz hst
  dsimp only [zS.vr, zS.ar, zS.vs, zS.asF, zS.ds, zS.fa, zS.od, zS.rd, zS.vi, zS.ai, zS.hd, zS.sn, zS.jc, zS.lf, zS.ad, zS.pd, zS.sp, zS.tk, zS.gm, zS.gw] at h
  dsimp only [zLW, zS_leastActs, zk_leastActs, zO_leastActs, zS.vr, zS.ar, zS.vs, zS.asF, zS.ds, zS.fa, zS.od, zS.rd, zS.vi, zS.ai, zS.hd, zS.sn, zS.jc, zS.lf, zS.ad, zS.pd, zS.sp, zS.tk, zS.gm, zS.gw]
  exact h
theorem q_L_leastActsIn (l : Launch) (G : zG) (a : Nat → Nat) (c : zS) (ou : Nat → Int64) (p1 p2 : Int32) (hz : zs_leastActsIn c p1 p2) (hst : l.stackTraces = false) : zCW l G yL_leastActsIn wsL_leastActsIn rm_L_leastActsIn 1 6 [.ref (a 0), .int p1, .int p2, .ref (a 17)] (zLW G a c ou) (some (.int (zk_leastActsIn c ou p1 p2))) (fun _ : Unit => zLW G a (zS_leastActsIn c ou p1 p2) (zO_leastActsIn c ou p1 p2)) := by
  have h := c_L_leastActsIn l G (a 0) (a 1) (a 2) (a 3) (a 4) (a 5) (a 6) (a 7) (a 8) (a 9) (a 10) (a 11) (a 12) (a 13) (a 14) (a 15) (a 16) (a 17) c.vr c.ar c.vs c.asF c.ds c.fa c.od c.rd c.vi c.ai c.hd c.sn c.jc c.lf c.ad c.pd c.sp c.tk c.gm c.gw ou p1 p2 hz hst
  dsimp only [zS.vr, zS.ar, zS.vs, zS.asF, zS.ds, zS.fa, zS.od, zS.rd, zS.vi, zS.ai, zS.hd, zS.sn, zS.jc, zS.lf, zS.ad, zS.pd, zS.sp, zS.tk, zS.gm, zS.gw] at h
  dsimp only [zLW, zS_leastActsIn, zk_leastActsIn, zO_leastActsIn, zS.vr, zS.ar, zS.vs, zS.asF, zS.ds, zS.fa, zS.od, zS.rd, zS.vi, zS.ai, zS.hd, zS.sn, zS.jc, zS.lf, zS.ad, zS.pd, zS.sp, zS.tk, zS.gm, zS.gw]
  exact h
theorem q_L_nextAct (l : Launch) (G : zG) (a : Nat → Nat) (c : zS) (ou : Nat → Int64) (p1 : Int32) (hz : zs_nextAct c p1) (hst : l.stackTraces = false) : zCW l G yL_nextAct wsL_nextAct rm_L_nextAct 1 6 [.ref (a 0), .int p1, .ref (a 17)] (zLW G a c ou) (some (.int (zk_nextAct c ou p1))) (fun _ : Unit => zLW G a (zS_nextAct c ou p1) (zO_nextAct c ou p1)) := by
  have h := c_L_nextAct l G (a 0) (a 1) (a 2) (a 3) (a 4) (a 5) (a 6) (a 7) (a 8) (a 9) (a 10) (a 11) (a 12) (a 13) (a 14) (a 15) (a 16) (a 17) c.vr c.ar c.vs c.asF c.ds c.fa c.od c.rd c.vi c.ai c.hd c.sn c.jc c.lf c.ad c.pd c.sp c.tk c.gm c.gw ou p1 hz hst
  dsimp only [zS.vr, zS.ar, zS.vs, zS.asF, zS.ds, zS.fa, zS.od, zS.rd, zS.vi, zS.ai, zS.hd, zS.sn, zS.jc, zS.lf, zS.ad, zS.pd, zS.sp, zS.tk, zS.gm, zS.gw] at h
  dsimp only [zLW, zS_nextAct, zk_nextAct, zO_nextAct, zS.vr, zS.ar, zS.vs, zS.asF, zS.ds, zS.fa, zS.od, zS.rd, zS.vi, zS.ai, zS.hd, zS.sn, zS.jc, zS.lf, zS.ad, zS.pd, zS.sp, zS.tk, zS.gm, zS.gw]
  exact h
theorem q_L_statesAway (l : Launch) (G : zG) (a : Nat → Nat) (c : zS) (ou : Nat → Int64) (p1 : Int32) (hz : zs_statesAway c p1) (hst : l.stackTraces = false) : zCW l G yL_statesAway wsL_statesAway rm_L_statesAway 1 6 [.ref (a 0), .int p1, .ref (a 17)] (zLW G a c ou) (some (.int (zk_statesAway c ou p1))) (fun _ : Unit => zLW G a (zS_statesAway c ou p1) (zO_statesAway c ou p1)) := by
  have h := c_L_statesAway l G (a 0) (a 1) (a 2) (a 3) (a 4) (a 5) (a 6) (a 7) (a 8) (a 9) (a 10) (a 11) (a 12) (a 13) (a 14) (a 15) (a 16) (a 17) c.vr c.ar c.vs c.asF c.ds c.fa c.od c.rd c.vi c.ai c.hd c.sn c.jc c.lf c.ad c.pd c.sp c.tk c.gm c.gw ou p1 hz hst
  dsimp only [zS.vr, zS.ar, zS.vs, zS.asF, zS.ds, zS.fa, zS.od, zS.rd, zS.vi, zS.ai, zS.hd, zS.sn, zS.jc, zS.lf, zS.ad, zS.pd, zS.sp, zS.tk, zS.gm, zS.gw] at h
  dsimp only [zLW, zS_statesAway, zk_statesAway, zO_statesAway, zS.vr, zS.ar, zS.vs, zS.asF, zS.ds, zS.fa, zS.od, zS.rd, zS.vi, zS.ai, zS.hd, zS.sn, zS.jc, zS.lf, zS.ad, zS.pd, zS.sp, zS.tk, zS.gm, zS.gw]
  exact h
theorem q_L_mayBe (l : Launch) (G : zG) (a : Nat → Nat) (c : zS) (ou : Nat → Int64) (p1 p2 : Int32) (hz : zs_mayBe c p1 p2) (hst : l.stackTraces = false) : zCW l G yL_mayBe wsL_mayBe rm_L_mayBe 1 6 [.ref (a 0), .int p1, .int p2, .ref (a 17)] (zLW G a c ou) (some (.int (zk_mayBe c ou p1 p2))) (fun _ : Unit => zLW G a (zS_mayBe c ou p1 p2) (zO_mayBe c ou p1 p2)) := by
  have h := c_L_mayBe l G (a 0) (a 1) (a 2) (a 3) (a 4) (a 5) (a 6) (a 7) (a 8) (a 9) (a 10) (a 11) (a 12) (a 13) (a 14) (a 15) (a 16) (a 17) c.vr c.ar c.vs c.asF c.ds c.fa c.od c.rd c.vi c.ai c.hd c.sn c.jc c.lf c.ad c.pd c.sp c.tk c.gm c.gw ou p1 p2 hz hst
  dsimp only [zS.vr, zS.ar, zS.vs, zS.asF, zS.ds, zS.fa, zS.od, zS.rd, zS.vi, zS.ai, zS.hd, zS.sn, zS.jc, zS.lf, zS.ad, zS.pd, zS.sp, zS.tk, zS.gm, zS.gw] at h
  dsimp only [zLW, zS_mayBe, zk_mayBe, zO_mayBe, zS.vr, zS.ar, zS.vs, zS.asF, zS.ds, zS.fa, zS.od, zS.rd, zS.vi, zS.ai, zS.hd, zS.sn, zS.jc, zS.lf, zS.ad, zS.pd, zS.sp, zS.tk, zS.gm, zS.gw]
  exact h
theorem q_L_isKnown (l : Launch) (G : zG) (a : Nat → Nat) (c : zS) (ou : Nat → Int64) (p1 : Int32) (hz : zs_isKnown c p1) (hst : l.stackTraces = false) : zCW l G yL_isKnown wsL_isKnown rm_L_isKnown 1 6 [.ref (a 0), .int p1, .ref (a 17)] (zLW G a c ou) (some (.int (zk_isKnown c ou p1))) (fun _ : Unit => zLW G a (zS_isKnown c ou p1) (zO_isKnown c ou p1)) := by
  have h := c_L_isKnown l G (a 0) (a 1) (a 2) (a 3) (a 4) (a 5) (a 6) (a 7) (a 8) (a 9) (a 10) (a 11) (a 12) (a 13) (a 14) (a 15) (a 16) (a 17) c.vr c.ar c.vs c.asF c.ds c.fa c.od c.rd c.vi c.ai c.hd c.sn c.jc c.lf c.ad c.pd c.sp c.tk c.gm c.gw ou p1 hz hst
  dsimp only [zS.vr, zS.ar, zS.vs, zS.asF, zS.ds, zS.fa, zS.od, zS.rd, zS.vi, zS.ai, zS.hd, zS.sn, zS.jc, zS.lf, zS.ad, zS.pd, zS.sp, zS.tk, zS.gm, zS.gw] at h
  dsimp only [zLW, zS_isKnown, zk_isKnown, zO_isKnown, zS.vr, zS.ar, zS.vs, zS.asF, zS.ds, zS.fa, zS.od, zS.rd, zS.vi, zS.ai, zS.hd, zS.sn, zS.jc, zS.lf, zS.ad, zS.pd, zS.sp, zS.tk, zS.gm, zS.gw]
  exact h
theorem q_L_guess (l : Launch) (G : zG) (a : Nat → Nat) (c : zS) (ou : Nat → Int64) (p1 p2 : Int32) (hz : zs_guess c p1 p2) (hst : l.stackTraces = false) : zCW l G yL_guess wsL_guess rm_L_guess 1 6 [.ref (a 0), .int p1, .int p2, .ref (a 17)] (zLW G a c ou) (some (.int (zk_guess c ou p1 p2))) (fun _ : Unit => zLW G a (zS_guess c ou p1 p2) (zO_guess c ou p1 p2)) := by
  have h := c_L_guess l G (a 0) (a 1) (a 2) (a 3) (a 4) (a 5) (a 6) (a 7) (a 8) (a 9) (a 10) (a 11) (a 12) (a 13) (a 14) (a 15) (a 16) (a 17) c.vr c.ar c.vs c.asF c.ds c.fa c.od c.rd c.vi c.ai c.hd c.sn c.jc c.lf c.ad c.pd c.sp c.tk c.gm c.gw ou p1 p2 hz hst
  dsimp only [zS.vr, zS.ar, zS.vs, zS.asF, zS.ds, zS.fa, zS.od, zS.rd, zS.vi, zS.ai, zS.hd, zS.sn, zS.jc, zS.lf, zS.ad, zS.pd, zS.sp, zS.tk, zS.gm, zS.gw] at h
  dsimp only [zLW, zS_guess, zk_guess, zO_guess, zS.vr, zS.ar, zS.vs, zS.asF, zS.ds, zS.fa, zS.od, zS.rd, zS.vi, zS.ai, zS.hd, zS.sn, zS.jc, zS.lf, zS.ad, zS.pd, zS.sp, zS.tk, zS.gm, zS.gw]
  exact h
theorem q_L_leftAtMost (l : Launch) (G : zG) (a : Nat → Nat) (c : zS) (ou : Nat → Int64) (p1 p2 : Int32) (hz : zs_leftAtMost c p1 p2) (hst : l.stackTraces = false) : zCW l G yL_leftAtMost wsL_leftAtMost rm_L_leftAtMost 1 6 [.ref (a 0), .int p1, .int p2, .ref (a 17)] (zLW G a c ou) (some (.int (zk_leftAtMost c ou p1 p2))) (fun _ : Unit => zLW G a (zS_leftAtMost c ou p1 p2) (zO_leftAtMost c ou p1 p2)) := by
  have h := c_L_leftAtMost l G (a 0) (a 1) (a 2) (a 3) (a 4) (a 5) (a 6) (a 7) (a 8) (a 9) (a 10) (a 11) (a 12) (a 13) (a 14) (a 15) (a 16) (a 17) c.vr c.ar c.vs c.asF c.ds c.fa c.od c.rd c.vi c.ai c.hd c.sn c.jc c.lf c.ad c.pd c.sp c.tk c.gm c.gw ou p1 p2 hz hst
  dsimp only [zS.vr, zS.ar, zS.vs, zS.asF, zS.ds, zS.fa, zS.od, zS.rd, zS.vi, zS.ai, zS.hd, zS.sn, zS.jc, zS.lf, zS.ad, zS.pd, zS.sp, zS.tk, zS.gm, zS.gw] at h
  dsimp only [zLW, zS_leftAtMost, zk_leftAtMost, zO_leftAtMost, zS.vr, zS.ar, zS.vs, zS.asF, zS.ds, zS.fa, zS.od, zS.rd, zS.vi, zS.ai, zS.hd, zS.sn, zS.jc, zS.lf, zS.ad, zS.pd, zS.sp, zS.tk, zS.gm, zS.gw]
  exact h
theorem q_C_jars (l : Launch) (G : zG) (a : Nat → Nat) (c : zS) (hz : zs_jars c) : zC l G yX3_jars wsX3_jars rm_X3_jars 0 0 [.ref (a 0)] (zCW3 G a c) (some (.int (zk_jars c))) (fun _ : Unit => zCW3 G a (zS_jars c)) := by
  have h := c_X3_jars l G (a 0) (a 1) (a 2) (a 3) (a 4) (a 5) (a 6) (a 7) (a 8) (a 9) (a 10) (a 11) (a 12) (a 13) (a 14) (a 15) (a 16) c.vr c.ar c.vs c.asF c.ds c.fa c.od c.rd c.vi c.ai c.hd c.sn c.jc c.lf c.ad c.pd c.sp c.tk c.gm c.gw
  dsimp only [zS.vr, zS.ar, zS.vs, zS.asF, zS.ds, zS.fa, zS.od, zS.rd, zS.vi, zS.ai, zS.hd, zS.sn, zS.jc, zS.lf, zS.ad, zS.pd, zS.sp, zS.tk, zS.gm, zS.gw] at h
  dsimp only [zCW3, zS_jars, zk_jars, zS.vr, zS.ar, zS.vs, zS.asF, zS.ds, zS.fa, zS.od, zS.rd, zS.vi, zS.ai, zS.hd, zS.sn, zS.jc, zS.lf, zS.ad, zS.pd, zS.sp, zS.tk, zS.gm, zS.gw]
  exact h
theorem q_C_heldInAll (l : Launch) (G : zG) (a : Nat → Nat) (c : zS) (hz : zs_heldInAll c) : zC l G yX3_heldInAll wsX3_heldInAll rm_X3_heldInAll 0 0 [.ref (a 0)] (zCW3 G a c) (some (.int (zk_heldInAll c))) (fun _ : Unit => zCW3 G a (zS_heldInAll c)) := by
  have h := c_X3_heldInAll l G (a 0) (a 1) (a 2) (a 3) (a 4) (a 5) (a 6) (a 7) (a 8) (a 9) (a 10) (a 11) (a 12) (a 13) (a 14) (a 15) (a 16) c.vr c.ar c.vs c.asF c.ds c.fa c.od c.rd c.vi c.ai c.hd c.sn c.jc c.lf c.ad c.pd c.sp c.tk c.gm c.gw
  dsimp only [zS.vr, zS.ar, zS.vs, zS.asF, zS.ds, zS.fa, zS.od, zS.rd, zS.vi, zS.ai, zS.hd, zS.sn, zS.jc, zS.lf, zS.ad, zS.pd, zS.sp, zS.tk, zS.gm, zS.gw] at h
  dsimp only [zCW3, zS_heldInAll, zk_heldInAll, zS.vr, zS.ar, zS.vs, zS.asF, zS.ds, zS.fa, zS.od, zS.rd, zS.vi, zS.ai, zS.hd, zS.sn, zS.jc, zS.lf, zS.ad, zS.pd, zS.sp, zS.tk, zS.gm, zS.gw]
  exact h
theorem q_C_acts (l : Launch) (G : zG) (a : Nat → Nat) (c : zS) (hz : zs_acts c) : zC l G yX3_acts wsX3_acts rm_X3_acts 0 0 [.ref (a 0)] (zCW3 G a c) (some (.int (zk_acts c))) (fun _ : Unit => zCW3 G a (zS_acts c)) := by
  have h := c_X3_acts l G (a 0) (a 1) (a 2) (a 3) (a 4) (a 5) (a 6) (a 7) (a 8) (a 9) (a 10) (a 11) (a 12) (a 13) (a 14) (a 15) (a 16) c.vr c.ar c.vs c.asF c.ds c.fa c.od c.rd c.vi c.ai c.hd c.sn c.jc c.lf c.ad c.pd c.sp c.tk c.gm c.gw
  dsimp only [zS.vr, zS.ar, zS.vs, zS.asF, zS.ds, zS.fa, zS.od, zS.rd, zS.vi, zS.ai, zS.hd, zS.sn, zS.jc, zS.lf, zS.ad, zS.pd, zS.sp, zS.tk, zS.gm, zS.gw] at h
  dsimp only [zCW3, zS_acts, zk_acts, zS.vr, zS.ar, zS.vs, zS.asF, zS.ds, zS.fa, zS.od, zS.rd, zS.vi, zS.ai, zS.hd, zS.sn, zS.jc, zS.lf, zS.ad, zS.pd, zS.sp, zS.tk, zS.gm, zS.gw]
  exact h
theorem q_C_pouredInAll (l : Launch) (G : zG) (a : Nat → Nat) (c : zS) (hz : zs_pouredInAll c) : zC l G yX3_pouredInAll wsX3_pouredInAll rm_X3_pouredInAll 0 0 [.ref (a 0)] (zCW3 G a c) (some (.int (zk_pouredInAll c))) (fun _ : Unit => zCW3 G a (zS_pouredInAll c)) := by
  have h := c_X3_pouredInAll l G (a 0) (a 1) (a 2) (a 3) (a 4) (a 5) (a 6) (a 7) (a 8) (a 9) (a 10) (a 11) (a 12) (a 13) (a 14) (a 15) (a 16) c.vr c.ar c.vs c.asF c.ds c.fa c.od c.rd c.vi c.ai c.hd c.sn c.jc c.lf c.ad c.pd c.sp c.tk c.gm c.gw
  dsimp only [zS.vr, zS.ar, zS.vs, zS.asF, zS.ds, zS.fa, zS.od, zS.rd, zS.vi, zS.ai, zS.hd, zS.sn, zS.jc, zS.lf, zS.ad, zS.pd, zS.sp, zS.tk, zS.gm, zS.gw] at h
  dsimp only [zCW3, zS_pouredInAll, zk_pouredInAll, zS.vr, zS.ar, zS.vs, zS.asF, zS.ds, zS.fa, zS.od, zS.rd, zS.vi, zS.ai, zS.hd, zS.sn, zS.jc, zS.lf, zS.ad, zS.pd, zS.sp, zS.tk, zS.gm, zS.gw]
  exact h
theorem q_C_spilledInAll (l : Launch) (G : zG) (a : Nat → Nat) (c : zS) (hz : zs_spilledInAll c) : zC l G yX3_spilledInAll wsX3_spilledInAll rm_X3_spilledInAll 0 0 [.ref (a 0)] (zCW3 G a c) (some (.int (zk_spilledInAll c))) (fun _ : Unit => zCW3 G a (zS_spilledInAll c)) := by
  have h := c_X3_spilledInAll l G (a 0) (a 1) (a 2) (a 3) (a 4) (a 5) (a 6) (a 7) (a 8) (a 9) (a 10) (a 11) (a 12) (a 13) (a 14) (a 15) (a 16) c.vr c.ar c.vs c.asF c.ds c.fa c.od c.rd c.vi c.ai c.hd c.sn c.jc c.lf c.ad c.pd c.sp c.tk c.gm c.gw
  dsimp only [zS.vr, zS.ar, zS.vs, zS.asF, zS.ds, zS.fa, zS.od, zS.rd, zS.vi, zS.ai, zS.hd, zS.sn, zS.jc, zS.lf, zS.ad, zS.pd, zS.sp, zS.tk, zS.gm, zS.gw] at h
  dsimp only [zCW3, zS_spilledInAll, zk_spilledInAll, zS.vr, zS.ar, zS.vs, zS.asF, zS.ds, zS.fa, zS.od, zS.rd, zS.vi, zS.ai, zS.hd, zS.sn, zS.jc, zS.lf, zS.ad, zS.pd, zS.sp, zS.tk, zS.gm, zS.gw]
  exact h
theorem q_C_takenInAll (l : Launch) (G : zG) (a : Nat → Nat) (c : zS) (hz : zs_takenInAll c) : zC l G yX3_takenInAll wsX3_takenInAll rm_X3_takenInAll 0 0 [.ref (a 0)] (zCW3 G a c) (some (.int (zk_takenInAll c))) (fun _ : Unit => zCW3 G a (zS_takenInAll c)) := by
  have h := c_X3_takenInAll l G (a 0) (a 1) (a 2) (a 3) (a 4) (a 5) (a 6) (a 7) (a 8) (a 9) (a 10) (a 11) (a 12) (a 13) (a 14) (a 15) (a 16) c.vr c.ar c.vs c.asF c.ds c.fa c.od c.rd c.vi c.ai c.hd c.sn c.jc c.lf c.ad c.pd c.sp c.tk c.gm c.gw
  dsimp only [zS.vr, zS.ar, zS.vs, zS.asF, zS.ds, zS.fa, zS.od, zS.rd, zS.vi, zS.ai, zS.hd, zS.sn, zS.jc, zS.lf, zS.ad, zS.pd, zS.sp, zS.tk, zS.gm, zS.gw] at h
  dsimp only [zCW3, zS_takenInAll, zk_takenInAll, zS.vr, zS.ar, zS.vs, zS.asF, zS.ds, zS.fa, zS.od, zS.rd, zS.vi, zS.ai, zS.hd, zS.sn, zS.jc, zS.lf, zS.ad, zS.pd, zS.sp, zS.tk, zS.gm, zS.gw]
  exact h
theorem q_C_amountsToHave (l : Launch) (G : zG) (a : Nat → Nat) (c : zS) (hz : zs_amountsToHave c) : zC l G yX3_amountsToHave wsX3_amountsToHave rm_X3_amountsToHave 0 0 [.ref (a 0)] (zCW3 G a c) (some (.int (zk_amountsToHave c))) (fun _ : Unit => zCW3 G a (zS_amountsToHave c)) := by
  have h := c_X3_amountsToHave l G (a 0) (a 1) (a 2) (a 3) (a 4) (a 5) (a 6) (a 7) (a 8) (a 9) (a 10) (a 11) (a 12) (a 13) (a 14) (a 15) (a 16) c.vr c.ar c.vs c.asF c.ds c.fa c.od c.rd c.vi c.ai c.hd c.sn c.jc c.lf c.ad c.pd c.sp c.tk c.gm c.gw hz
  dsimp only [zS.vr, zS.ar, zS.vs, zS.asF, zS.ds, zS.fa, zS.od, zS.rd, zS.vi, zS.ai, zS.hd, zS.sn, zS.jc, zS.lf, zS.ad, zS.pd, zS.sp, zS.tk, zS.gm, zS.gw] at h
  dsimp only [zCW3, zS_amountsToHave, zk_amountsToHave, zS.vr, zS.ar, zS.vs, zS.asF, zS.ds, zS.fa, zS.od, zS.rd, zS.vi, zS.ai, zS.hd, zS.sn, zS.jc, zS.lf, zS.ad, zS.pd, zS.sp, zS.tk, zS.gm, zS.gw]
  exact h
theorem q_C_statesToReach (l : Launch) (G : zG) (a : Nat → Nat) (c : zS) (hz : zs_statesToReach c) : zC l G yX3_statesToReach wsX3_statesToReach rm_X3_statesToReach 0 0 [.ref (a 0)] (zCW3 G a c) (some (.int (zk_statesToReach c))) (fun _ : Unit => zCW3 G a (zS_statesToReach c)) := by
  have h := c_X3_statesToReach l G (a 0) (a 1) (a 2) (a 3) (a 4) (a 5) (a 6) (a 7) (a 8) (a 9) (a 10) (a 11) (a 12) (a 13) (a 14) (a 15) (a 16) c.vr c.ar c.vs c.asF c.ds c.fa c.od c.rd c.vi c.ai c.hd c.sn c.jc c.lf c.ad c.pd c.sp c.tk c.gm c.gw hz
  dsimp only [zS.vr, zS.ar, zS.vs, zS.asF, zS.ds, zS.fa, zS.od, zS.rd, zS.vi, zS.ai, zS.hd, zS.sn, zS.jc, zS.lf, zS.ad, zS.pd, zS.sp, zS.tk, zS.gm, zS.gw] at h
  dsimp only [zCW3, zS_statesToReach, zk_statesToReach, zS.vr, zS.ar, zS.vs, zS.asF, zS.ds, zS.fa, zS.od, zS.rd, zS.vi, zS.ai, zS.hd, zS.sn, zS.jc, zS.lf, zS.ad, zS.pd, zS.sp, zS.tk, zS.gm, zS.gw]
  exact h
theorem q_C_farthest (l : Launch) (G : zG) (a : Nat → Nat) (c : zS) (hz : zs_farthest c) : zC l G yX3_farthest wsX3_farthest rm_X3_farthest 0 0 [.ref (a 0)] (zCW3 G a c) (some (.int (zk_farthest c))) (fun _ : Unit => zCW3 G a (zS_farthest c)) := by
  have h := c_X3_farthest l G (a 0) (a 1) (a 2) (a 3) (a 4) (a 5) (a 6) (a 7) (a 8) (a 9) (a 10) (a 11) (a 12) (a 13) (a 14) (a 15) (a 16) c.vr c.ar c.vs c.asF c.ds c.fa c.od c.rd c.vi c.ai c.hd c.sn c.jc c.lf c.ad c.pd c.sp c.tk c.gm c.gw hz
  dsimp only [zS.vr, zS.ar, zS.vs, zS.asF, zS.ds, zS.fa, zS.od, zS.rd, zS.vi, zS.ai, zS.hd, zS.sn, zS.jc, zS.lf, zS.ad, zS.pd, zS.sp, zS.tk, zS.gm, zS.gw] at h
  dsimp only [zCW3, zS_farthest, zk_farthest, zS.vr, zS.ar, zS.vs, zS.asF, zS.ds, zS.fa, zS.od, zS.rd, zS.vi, zS.ai, zS.hd, zS.sn, zS.jc, zS.lf, zS.ad, zS.pd, zS.sp, zS.tk, zS.gm, zS.gw]
  exact h
theorem q_C_candidates (l : Launch) (G : zG) (a : Nat → Nat) (c : zS) (hz : zs_candidates c) : zC l G yX3_candidates wsX3_candidates rm_X3_candidates 0 0 [.ref (a 0)] (zCW3 G a c) (some (.int (zk_candidates c))) (fun _ : Unit => zCW3 G a (zS_candidates c)) := by
  have h := c_X3_candidates l G (a 0) (a 1) (a 2) (a 3) (a 4) (a 5) (a 6) (a 7) (a 8) (a 9) (a 10) (a 11) (a 12) (a 13) (a 14) (a 15) (a 16) c.vr c.ar c.vs c.asF c.ds c.fa c.od c.rd c.vi c.ai c.hd c.sn c.jc c.lf c.ad c.pd c.sp c.tk c.gm c.gw
  dsimp only [zS.vr, zS.ar, zS.vs, zS.asF, zS.ds, zS.fa, zS.od, zS.rd, zS.vi, zS.ai, zS.hd, zS.sn, zS.jc, zS.lf, zS.ad, zS.pd, zS.sp, zS.tk, zS.gm, zS.gw] at h
  dsimp only [zCW3, zS_candidates, zk_candidates, zS.vr, zS.ar, zS.vs, zS.asF, zS.ds, zS.fa, zS.od, zS.rd, zS.vi, zS.ai, zS.hd, zS.sn, zS.jc, zS.lf, zS.ad, zS.pd, zS.sp, zS.tk, zS.gm, zS.gw]
  exact h
theorem q_C_guesses (l : Launch) (G : zG) (a : Nat → Nat) (c : zS) (hz : zs_guesses c) : zC l G yX3_guesses wsX3_guesses rm_X3_guesses 0 0 [.ref (a 0)] (zCW3 G a c) (some (.int (zk_guesses c))) (fun _ : Unit => zCW3 G a (zS_guesses c)) := by
  have h := c_X3_guesses l G (a 0) (a 1) (a 2) (a 3) (a 4) (a 5) (a 6) (a 7) (a 8) (a 9) (a 10) (a 11) (a 12) (a 13) (a 14) (a 15) (a 16) c.vr c.ar c.vs c.asF c.ds c.fa c.od c.rd c.vi c.ai c.hd c.sn c.jc c.lf c.ad c.pd c.sp c.tk c.gm c.gw
  dsimp only [zS.vr, zS.ar, zS.vs, zS.asF, zS.ds, zS.fa, zS.od, zS.rd, zS.vi, zS.ai, zS.hd, zS.sn, zS.jc, zS.lf, zS.ad, zS.pd, zS.sp, zS.tk, zS.gm, zS.gw] at h
  dsimp only [zCW3, zS_guesses, zk_guesses, zS.vr, zS.ar, zS.vs, zS.asF, zS.ds, zS.fa, zS.od, zS.rd, zS.vi, zS.ai, zS.hd, zS.sn, zS.jc, zS.lf, zS.ad, zS.pd, zS.sp, zS.tk, zS.gm, zS.gw]
  exact h
theorem q_C_wrongGuesses (l : Launch) (G : zG) (a : Nat → Nat) (c : zS) (hz : zs_wrongGuesses c) : zC l G yX3_wrongGuesses wsX3_wrongGuesses rm_X3_wrongGuesses 0 0 [.ref (a 0)] (zCW3 G a c) (some (.int (zk_wrongGuesses c))) (fun _ : Unit => zCW3 G a (zS_wrongGuesses c)) := by
  have h := c_X3_wrongGuesses l G (a 0) (a 1) (a 2) (a 3) (a 4) (a 5) (a 6) (a 7) (a 8) (a 9) (a 10) (a 11) (a 12) (a 13) (a 14) (a 15) (a 16) c.vr c.ar c.vs c.asF c.ds c.fa c.od c.rd c.vi c.ai c.hd c.sn c.jc c.lf c.ad c.pd c.sp c.tk c.gm c.gw
  dsimp only [zS.vr, zS.ar, zS.vs, zS.asF, zS.ds, zS.fa, zS.od, zS.rd, zS.vi, zS.ai, zS.hd, zS.sn, zS.jc, zS.lf, zS.ad, zS.pd, zS.sp, zS.tk, zS.gm, zS.gw] at h
  dsimp only [zCW3, zS_wrongGuesses, zk_wrongGuesses, zS.vr, zS.ar, zS.vs, zS.asF, zS.ds, zS.fa, zS.od, zS.rd, zS.vi, zS.ai, zS.hd, zS.sn, zS.jc, zS.lf, zS.ad, zS.pd, zS.sp, zS.tk, zS.gm, zS.gw]
  exact h
theorem q_C_bestPour (l : Launch) (G : zG) (a : Nat → Nat) (c : zS) (hz : zs_bestPour c) : zC l G yX3_bestPour wsX3_bestPour rm_X3_bestPour 0 0 [.ref (a 0)] (zCW3 G a c) (some (.int (zk_bestPour c))) (fun _ : Unit => zCW3 G a (zS_bestPour c)) := by
  have h := c_X3_bestPour l G (a 0) (a 1) (a 2) (a 3) (a 4) (a 5) (a 6) (a 7) (a 8) (a 9) (a 10) (a 11) (a 12) (a 13) (a 14) (a 15) (a 16) c.vr c.ar c.vs c.asF c.ds c.fa c.od c.rd c.vi c.ai c.hd c.sn c.jc c.lf c.ad c.pd c.sp c.tk c.gm c.gw hz
  dsimp only [zS.vr, zS.ar, zS.vs, zS.asF, zS.ds, zS.fa, zS.od, zS.rd, zS.vi, zS.ai, zS.hd, zS.sn, zS.jc, zS.lf, zS.ad, zS.pd, zS.sp, zS.tk, zS.gm, zS.gw] at h
  dsimp only [zCW3, zS_bestPour, zk_bestPour, zS.vr, zS.ar, zS.vs, zS.asF, zS.ds, zS.fa, zS.od, zS.rd, zS.vi, zS.ai, zS.hd, zS.sn, zS.jc, zS.lf, zS.ad, zS.pd, zS.sp, zS.tk, zS.gm, zS.gw]
  exact h
theorem q_C_meanAmount (l : Launch) (G : zG) (a : Nat → Nat) (c : zS) (hz : zs_meanAmount c) : zC l G yX3_meanAmount wsX3_meanAmount rm_X3_meanAmount 0 0 [.ref (a 0)] (zCW3 G a c) (some (.double (zk_meanAmount c))) (fun _ : Unit => zCW3 G a (zS_meanAmount c)) := by
  have h := c_X3_meanAmount l G (a 0) (a 1) (a 2) (a 3) (a 4) (a 5) (a 6) (a 7) (a 8) (a 9) (a 10) (a 11) (a 12) (a 13) (a 14) (a 15) (a 16) c.vr c.ar c.vs c.asF c.ds c.fa c.od c.rd c.vi c.ai c.hd c.sn c.jc c.lf c.ad c.pd c.sp c.tk c.gm c.gw hz
  dsimp only [zS.vr, zS.ar, zS.vs, zS.asF, zS.ds, zS.fa, zS.od, zS.rd, zS.vi, zS.ai, zS.hd, zS.sn, zS.jc, zS.lf, zS.ad, zS.pd, zS.sp, zS.tk, zS.gm, zS.gw] at h
  dsimp only [zCW3, zS_meanAmount, zk_meanAmount, zS.vr, zS.ar, zS.vs, zS.asF, zS.ds, zS.fa, zS.od, zS.rd, zS.vi, zS.ai, zS.hd, zS.sn, zS.jc, zS.lf, zS.ad, zS.pd, zS.sp, zS.tk, zS.gm, zS.gw]
  exact h
theorem q_C_digest (l : Launch) (G : zG) (a : Nat → Nat) (c : zS) (hz : zs_digest c) : zC l G yX3_digest wsX3_digest rm_X3_digest 0 0 [.ref (a 0)] (zCW3 G a c) (some (.long (zk_digest c))) (fun _ : Unit => zCW3 G a (zS_digest c)) := by
  have h := c_X3_digest l G (a 0) (a 1) (a 2) (a 3) (a 4) (a 5) (a 6) (a 7) (a 8) (a 9) (a 10) (a 11) (a 12) (a 13) (a 14) (a 15) (a 16) c.vr c.ar c.vs c.asF c.ds c.fa c.od c.rd c.vi c.ai c.hd c.sn c.jc c.lf c.ad c.pd c.sp c.tk c.gm c.gw hz
  dsimp only [zS.vr, zS.ar, zS.vs, zS.asF, zS.ds, zS.fa, zS.od, zS.rd, zS.vi, zS.ai, zS.hd, zS.sn, zS.jc, zS.lf, zS.ad, zS.pd, zS.sp, zS.tk, zS.gm, zS.gw] at h
  dsimp only [zCW3, zS_digest, zk_digest, zS.vr, zS.ar, zS.vs, zS.asF, zS.ds, zS.fa, zS.od, zS.rd, zS.vi, zS.ai, zS.hd, zS.sn, zS.jc, zS.lf, zS.ad, zS.pd, zS.sp, zS.tk, zS.gm, zS.gw]
  exact h
theorem q_M_layOut (l : Launch) (G : zG) (a : Nat → Nat) (t : zM) (p1 p2 p3 : Int32) (hz : ms_layOut t p1 p2 p3) : zC l G yX4_layOut wsX4_layOut rm_X4_layOut 0 0 [.ref (a 18), .int p1, .int p2, .int p3] (zMW G a t) (some (.int (mk_layOut t p1 p2 p3))) (fun _ : Unit => zMW G a (zM_layOut t p1 p2 p3)) := by
  have h := c_X4_layOut l G (a 18) (a 19) (a 20) (a 21) (a 22) (a 23) (a 24) (a 25) (a 26) (a 27) t.th t.js t.mv t.ma t.ac t.po t.si t.ta t.ml t.mh t.gu t.wr t.mf t.mr t.re t.mo t.mb t.ms p1 p2 p3 hz
  dsimp only [zM.th, zM.js, zM.mv, zM.ma, zM.ac, zM.po, zM.si, zM.ta, zM.ml, zM.mh, zM.gu, zM.wr, zM.mf, zM.mr, zM.re, zM.mo, zM.mb, zM.ms] at h
  dsimp only [zMW, zM_layOut, mk_layOut, zM.th, zM.js, zM.mv, zM.ma, zM.ac, zM.po, zM.si, zM.ta, zM.ml, zM.mh, zM.gu, zM.wr, zM.mf, zM.mr, zM.re, zM.mo, zM.mb, zM.ms]
  exact h
theorem q_M_fill (l : Launch) (G : zG) (a : Nat → Nat) (t : zM) (p1 : Int32) (hz : ms_fill t p1) : zC l G yX4_fill wsX4_fill rm_X4_fill 0 0 [.ref (a 18), .int p1] (zMW G a t) (some (.int (mk_fill t p1))) (fun _ : Unit => zMW G a (zM_fill t p1)) := by
  have h := c_X4_fill l G (a 18) (a 19) (a 20) (a 21) (a 22) (a 23) (a 24) (a 25) (a 26) (a 27) t.th t.js t.mv t.ma t.ac t.po t.si t.ta t.ml t.mh t.gu t.wr t.mf t.mr t.re t.mo t.mb t.ms p1 hz
  dsimp only [zM.th, zM.js, zM.mv, zM.ma, zM.ac, zM.po, zM.si, zM.ta, zM.ml, zM.mh, zM.gu, zM.wr, zM.mf, zM.mr, zM.re, zM.mo, zM.mb, zM.ms] at h
  dsimp only [zMW, zM_fill, mk_fill, zM.th, zM.js, zM.mv, zM.ma, zM.ac, zM.po, zM.si, zM.ta, zM.ml, zM.mh, zM.gu, zM.wr, zM.mf, zM.mr, zM.re, zM.mo, zM.mb, zM.ms]
  exact h
theorem q_M_empty (l : Launch) (G : zG) (a : Nat → Nat) (t : zM) (p1 : Int32) (hz : ms_empty t p1) : zC l G yX4_empty wsX4_empty rm_X4_empty 0 0 [.ref (a 18), .int p1] (zMW G a t) (some (.int (mk_empty t p1))) (fun _ : Unit => zMW G a (zM_empty t p1)) := by
  have h := c_X4_empty l G (a 18) (a 19) (a 20) (a 21) (a 22) (a 23) (a 24) (a 25) (a 26) (a 27) t.th t.js t.mv t.ma t.ac t.po t.si t.ta t.ml t.mh t.gu t.wr t.mf t.mr t.re t.mo t.mb t.ms p1 hz
  dsimp only [zM.th, zM.js, zM.mv, zM.ma, zM.ac, zM.po, zM.si, zM.ta, zM.ml, zM.mh, zM.gu, zM.wr, zM.mf, zM.mr, zM.re, zM.mo, zM.mb, zM.ms] at h
  dsimp only [zMW, zM_empty, mk_empty, zM.th, zM.js, zM.mv, zM.ma, zM.ac, zM.po, zM.si, zM.ta, zM.ml, zM.mh, zM.gu, zM.wr, zM.mf, zM.mr, zM.re, zM.mo, zM.mb, zM.ms]
  exact h
theorem q_M_pour (l : Launch) (G : zG) (a : Nat → Nat) (t : zM) (p1 p2 : Int32) (hz : ms_pour t p1 p2) : zC l G yX4_pour wsX4_pour rm_X4_pour 0 0 [.ref (a 18), .int p1, .int p2] (zMW G a t) (some (.int (mk_pour t p1 p2))) (fun _ : Unit => zMW G a (zM_pour t p1 p2)) := by
  have h := c_X4_pour l G (a 18) (a 19) (a 20) (a 21) (a 22) (a 23) (a 24) (a 25) (a 26) (a 27) t.th t.js t.mv t.ma t.ac t.po t.si t.ta t.ml t.mh t.gu t.wr t.mf t.mr t.re t.mo t.mb t.ms p1 p2 hz
  dsimp only [zM.th, zM.js, zM.mv, zM.ma, zM.ac, zM.po, zM.si, zM.ta, zM.ml, zM.mh, zM.gu, zM.wr, zM.mf, zM.mr, zM.re, zM.mo, zM.mb, zM.ms] at h
  dsimp only [zMW, zM_pour, mk_pour, zM.th, zM.js, zM.mv, zM.ma, zM.ac, zM.po, zM.si, zM.ta, zM.ml, zM.mh, zM.gu, zM.wr, zM.mf, zM.mr, zM.re, zM.mo, zM.mb, zM.ms]
  exact h
theorem q_M_follow (l : Launch) (G : zG) (a : Nat → Nat) (t : zM) (p1 p2 : Int32) (hz : ms_follow t p1 p2) : zC l G yX4_follow wsX4_follow rm_X4_follow 0 0 [.ref (a 18), .int p1, .int p2] (zMW G a t) (some (.int (mk_follow t p1 p2))) (fun _ : Unit => zMW G a (zM_follow t p1 p2)) := by
  have h := c_X4_follow l G (a 18) (a 19) (a 20) (a 21) (a 22) (a 23) (a 24) (a 25) (a 26) (a 27) t.th t.js t.mv t.ma t.ac t.po t.si t.ta t.ml t.mh t.gu t.wr t.mf t.mr t.re t.mo t.mb t.ms p1 p2 hz
  dsimp only [zM.th, zM.js, zM.mv, zM.ma, zM.ac, zM.po, zM.si, zM.ta, zM.ml, zM.mh, zM.gu, zM.wr, zM.mf, zM.mr, zM.re, zM.mo, zM.mb, zM.ms] at h
  dsimp only [zMW, zM_follow, mk_follow, zM.th, zM.js, zM.mv, zM.ma, zM.ac, zM.po, zM.si, zM.ta, zM.ml, zM.mh, zM.gu, zM.wr, zM.mf, zM.mr, zM.re, zM.mo, zM.mb, zM.ms]
  exact h
theorem q_M_volumeOf (l : Launch) (G : zG) (a : Nat → Nat) (t : zM) (p1 : Int32) (hz : ms_volumeOf t p1) : zC l G yX4_volumeOf wsX4_volumeOf rm_X4_volumeOf 0 0 [.ref (a 18), .int p1] (zMW G a t) (some (.int (mk_volumeOf t p1))) (fun _ : Unit => zMW G a (zM_volumeOf t p1)) := by
  have h := c_X4_volumeOf l G (a 18) (a 19) (a 20) (a 21) (a 22) (a 23) (a 24) (a 25) (a 26) (a 27) t.th t.js t.mv t.ma t.ac t.po t.si t.ta t.ml t.mh t.gu t.wr t.mf t.mr t.re t.mo t.mb t.ms p1 hz
  dsimp only [zM.th, zM.js, zM.mv, zM.ma, zM.ac, zM.po, zM.si, zM.ta, zM.ml, zM.mh, zM.gu, zM.wr, zM.mf, zM.mr, zM.re, zM.mo, zM.mb, zM.ms] at h
  dsimp only [zMW, zM_volumeOf, mk_volumeOf, zM.th, zM.js, zM.mv, zM.ma, zM.ac, zM.po, zM.si, zM.ta, zM.ml, zM.mh, zM.gu, zM.wr, zM.mf, zM.mr, zM.re, zM.mo, zM.mb, zM.ms]
  exact h
theorem q_M_amountOf (l : Launch) (G : zG) (a : Nat → Nat) (t : zM) (p1 : Int32) (hz : ms_amountOf t p1) : zC l G yX4_amountOf wsX4_amountOf rm_X4_amountOf 0 0 [.ref (a 18), .int p1] (zMW G a t) (some (.int (mk_amountOf t p1))) (fun _ : Unit => zMW G a (zM_amountOf t p1)) := by
  have h := c_X4_amountOf l G (a 18) (a 19) (a 20) (a 21) (a 22) (a 23) (a 24) (a 25) (a 26) (a 27) t.th t.js t.mv t.ma t.ac t.po t.si t.ta t.ml t.mh t.gu t.wr t.mf t.mr t.re t.mo t.mb t.ms p1 hz
  dsimp only [zM.th, zM.js, zM.mv, zM.ma, zM.ac, zM.po, zM.si, zM.ta, zM.ml, zM.mh, zM.gu, zM.wr, zM.mf, zM.mr, zM.re, zM.mo, zM.mb, zM.ms] at h
  dsimp only [zMW, zM_amountOf, mk_amountOf, zM.th, zM.js, zM.mv, zM.ma, zM.ac, zM.po, zM.si, zM.ta, zM.ml, zM.mh, zM.gu, zM.wr, zM.mf, zM.mr, zM.re, zM.mo, zM.mb, zM.ms]
  exact h
theorem q_M_isEmpty (l : Launch) (G : zG) (a : Nat → Nat) (t : zM) (p1 : Int32) (hz : ms_isEmpty t p1) : zC l G yX4_isEmpty wsX4_isEmpty rm_X4_isEmpty 0 0 [.ref (a 18), .int p1] (zMW G a t) (some (.int (mk_isEmpty t p1))) (fun _ : Unit => zMW G a (zM_isEmpty t p1)) := by
  have h := c_X4_isEmpty l G (a 18) (a 19) (a 20) (a 21) (a 22) (a 23) (a 24) (a 25) (a 26) (a 27) t.th t.js t.mv t.ma t.ac t.po t.si t.ta t.ml t.mh t.gu t.wr t.mf t.mr t.re t.mo t.mb t.ms p1 hz
  dsimp only [zM.th, zM.js, zM.mv, zM.ma, zM.ac, zM.po, zM.si, zM.ta, zM.ml, zM.mh, zM.gu, zM.wr, zM.mf, zM.mr, zM.re, zM.mo, zM.mb, zM.ms] at h
  dsimp only [zMW, zM_isEmpty, mk_isEmpty, zM.th, zM.js, zM.mv, zM.ma, zM.ac, zM.po, zM.si, zM.ta, zM.ml, zM.mh, zM.gu, zM.wr, zM.mf, zM.mr, zM.re, zM.mo, zM.mb, zM.ms]
  exact h
theorem q_M_isFull (l : Launch) (G : zG) (a : Nat → Nat) (t : zM) (p1 : Int32) (hz : ms_isFull t p1) : zC l G yX4_isFull wsX4_isFull rm_X4_isFull 0 0 [.ref (a 18), .int p1] (zMW G a t) (some (.int (mk_isFull t p1))) (fun _ : Unit => zMW G a (zM_isFull t p1)) := by
  have h := c_X4_isFull l G (a 18) (a 19) (a 20) (a 21) (a 22) (a 23) (a 24) (a 25) (a 26) (a 27) t.th t.js t.mv t.ma t.ac t.po t.si t.ta t.ml t.mh t.gu t.wr t.mf t.mr t.re t.mo t.mb t.ms p1 hz
  dsimp only [zM.th, zM.js, zM.mv, zM.ma, zM.ac, zM.po, zM.si, zM.ta, zM.ml, zM.mh, zM.gu, zM.wr, zM.mf, zM.mr, zM.re, zM.mo, zM.mb, zM.ms] at h
  dsimp only [zMW, zM_isFull, mk_isFull, zM.th, zM.js, zM.mv, zM.ma, zM.ac, zM.po, zM.si, zM.ta, zM.ml, zM.mh, zM.gu, zM.wr, zM.mf, zM.mr, zM.re, zM.mo, zM.mb, zM.ms]
  exact h
theorem q_M_isThere (l : Launch) (G : zG) (a : Nat → Nat) (t : zM) (p1 : Int32) (hz : ms_isThere t p1) : zC l G yX4_isThere wsX4_isThere rm_X4_isThere 0 0 [.ref (a 18), .int p1] (zMW G a t) (some (.int (mk_isThere t p1))) (fun _ : Unit => zMW G a (zM_isThere t p1)) := by
  have h := c_X4_isThere l G (a 18) (a 19) (a 20) (a 21) (a 22) (a 23) (a 24) (a 25) (a 26) (a 27) t.th t.js t.mv t.ma t.ac t.po t.si t.ta t.ml t.mh t.gu t.wr t.mf t.mr t.re t.mo t.mb t.ms p1
  dsimp only [zM.th, zM.js, zM.mv, zM.ma, zM.ac, zM.po, zM.si, zM.ta, zM.ml, zM.mh, zM.gu, zM.wr, zM.mf, zM.mr, zM.re, zM.mo, zM.mb, zM.ms] at h
  dsimp only [zMW, zM_isThere, mk_isThere, zM.th, zM.js, zM.mv, zM.ma, zM.ac, zM.po, zM.si, zM.ta, zM.ml, zM.mh, zM.gu, zM.wr, zM.mf, zM.mr, zM.re, zM.mo, zM.mb, zM.ms]
  exact h
theorem q_M_leastActs (l : Launch) (G : zG) (a : Nat → Nat) (t : zM) (p1 : Int32) (hz : ms_leastActs t p1) : zC l G yX4_leastActs wsX4_leastActs rm_X4_leastActs 0 0 [.ref (a 18), .int p1] (zMW G a t) (some (.int (mk_leastActs t p1))) (fun _ : Unit => zMW G a (zM_leastActs t p1)) := by
  have h := c_X4_leastActs l G (a 18) (a 19) (a 20) (a 21) (a 22) (a 23) (a 24) (a 25) (a 26) (a 27) t.th t.js t.mv t.ma t.ac t.po t.si t.ta t.ml t.mh t.gu t.wr t.mf t.mr t.re t.mo t.mb t.ms p1 hz
  dsimp only [zM.th, zM.js, zM.mv, zM.ma, zM.ac, zM.po, zM.si, zM.ta, zM.ml, zM.mh, zM.gu, zM.wr, zM.mf, zM.mr, zM.re, zM.mo, zM.mb, zM.ms] at h
  dsimp only [zMW, zM_leastActs, mk_leastActs, zM.th, zM.js, zM.mv, zM.ma, zM.ac, zM.po, zM.si, zM.ta, zM.ml, zM.mh, zM.gu, zM.wr, zM.mf, zM.mr, zM.re, zM.mo, zM.mb, zM.ms]
  exact h
theorem q_M_leastActsIn (l : Launch) (G : zG) (a : Nat → Nat) (t : zM) (p1 p2 : Int32) (hz : ms_leastActsIn t p1 p2) : zC l G yX4_leastActsIn wsX4_leastActsIn rm_X4_leastActsIn 0 0 [.ref (a 18), .int p1, .int p2] (zMW G a t) (some (.int (mk_leastActsIn t p1 p2))) (fun _ : Unit => zMW G a (zM_leastActsIn t p1 p2)) := by
  have h := c_X4_leastActsIn l G (a 18) (a 19) (a 20) (a 21) (a 22) (a 23) (a 24) (a 25) (a 26) (a 27) t.th t.js t.mv t.ma t.ac t.po t.si t.ta t.ml t.mh t.gu t.wr t.mf t.mr t.re t.mo t.mb t.ms p1 p2 hz
  dsimp only [zM.th, zM.js, zM.mv, zM.ma, zM.ac, zM.po, zM.si, zM.ta, zM.ml, zM.mh, zM.gu, zM.wr, zM.mf, zM.mr, zM.re, zM.mo, zM.mb, zM.ms] at h
  dsimp only [zMW, zM_leastActsIn, mk_leastActsIn, zM.th, zM.js, zM.mv, zM.ma, zM.ac, zM.po, zM.si, zM.ta, zM.ml, zM.mh, zM.gu, zM.wr, zM.mf, zM.mr, zM.re, zM.mo, zM.mb, zM.ms]
  exact h
theorem q_M_nextAct (l : Launch) (G : zG) (a : Nat → Nat) (t : zM) (p1 : Int32) (hz : ms_nextAct t p1) : zC l G yX4_nextAct wsX4_nextAct rm_X4_nextAct 0 0 [.ref (a 18), .int p1] (zMW G a t) (some (.int (mk_nextAct t p1))) (fun _ : Unit => zMW G a (zM_nextAct t p1)) := by
  have h := c_X4_nextAct l G (a 18) (a 19) (a 20) (a 21) (a 22) (a 23) (a 24) (a 25) (a 26) (a 27) t.th t.js t.mv t.ma t.ac t.po t.si t.ta t.ml t.mh t.gu t.wr t.mf t.mr t.re t.mo t.mb t.ms p1 hz
  dsimp only [zM.th, zM.js, zM.mv, zM.ma, zM.ac, zM.po, zM.si, zM.ta, zM.ml, zM.mh, zM.gu, zM.wr, zM.mf, zM.mr, zM.re, zM.mo, zM.mb, zM.ms] at h
  dsimp only [zMW, zM_nextAct, mk_nextAct, zM.th, zM.js, zM.mv, zM.ma, zM.ac, zM.po, zM.si, zM.ta, zM.ml, zM.mh, zM.gu, zM.wr, zM.mf, zM.mr, zM.re, zM.mo, zM.mb, zM.ms]
  exact h
theorem q_M_statesAway (l : Launch) (G : zG) (a : Nat → Nat) (t : zM) (p1 : Int32) (hz : ms_statesAway t p1) : zC l G yX4_statesAway wsX4_statesAway rm_X4_statesAway 0 0 [.ref (a 18), .int p1] (zMW G a t) (some (.int (mk_statesAway t p1))) (fun _ : Unit => zMW G a (zM_statesAway t p1)) := by
  have h := c_X4_statesAway l G (a 18) (a 19) (a 20) (a 21) (a 22) (a 23) (a 24) (a 25) (a 26) (a 27) t.th t.js t.mv t.ma t.ac t.po t.si t.ta t.ml t.mh t.gu t.wr t.mf t.mr t.re t.mo t.mb t.ms p1 hz
  dsimp only [zM.th, zM.js, zM.mv, zM.ma, zM.ac, zM.po, zM.si, zM.ta, zM.ml, zM.mh, zM.gu, zM.wr, zM.mf, zM.mr, zM.re, zM.mo, zM.mb, zM.ms] at h
  dsimp only [zMW, zM_statesAway, mk_statesAway, zM.th, zM.js, zM.mv, zM.ma, zM.ac, zM.po, zM.si, zM.ta, zM.ml, zM.mh, zM.gu, zM.wr, zM.mf, zM.mr, zM.re, zM.mo, zM.mb, zM.ms]
  exact h
theorem q_M_mayBe (l : Launch) (G : zG) (a : Nat → Nat) (t : zM) (p1 p2 : Int32) (hz : ms_mayBe t p1 p2) : zC l G yX4_mayBe wsX4_mayBe rm_X4_mayBe 0 0 [.ref (a 18), .int p1, .int p2] (zMW G a t) (some (.int (mk_mayBe t p1 p2))) (fun _ : Unit => zMW G a (zM_mayBe t p1 p2)) := by
  have h := c_X4_mayBe l G (a 18) (a 19) (a 20) (a 21) (a 22) (a 23) (a 24) (a 25) (a 26) (a 27) t.th t.js t.mv t.ma t.ac t.po t.si t.ta t.ml t.mh t.gu t.wr t.mf t.mr t.re t.mo t.mb t.ms p1 p2
  dsimp only [zM.th, zM.js, zM.mv, zM.ma, zM.ac, zM.po, zM.si, zM.ta, zM.ml, zM.mh, zM.gu, zM.wr, zM.mf, zM.mr, zM.re, zM.mo, zM.mb, zM.ms] at h
  dsimp only [zMW, zM_mayBe, mk_mayBe, zM.th, zM.js, zM.mv, zM.ma, zM.ac, zM.po, zM.si, zM.ta, zM.ml, zM.mh, zM.gu, zM.wr, zM.mf, zM.mr, zM.re, zM.mo, zM.mb, zM.ms]
  exact h
theorem q_M_isKnown (l : Launch) (G : zG) (a : Nat → Nat) (t : zM) (p1 : Int32) (hz : ms_isKnown t p1) : zC l G yX4_isKnown wsX4_isKnown rm_X4_isKnown 0 0 [.ref (a 18), .int p1] (zMW G a t) (some (.int (mk_isKnown t p1))) (fun _ : Unit => zMW G a (zM_isKnown t p1)) := by
  have h := c_X4_isKnown l G (a 18) (a 19) (a 20) (a 21) (a 22) (a 23) (a 24) (a 25) (a 26) (a 27) t.th t.js t.mv t.ma t.ac t.po t.si t.ta t.ml t.mh t.gu t.wr t.mf t.mr t.re t.mo t.mb t.ms p1
  dsimp only [zM.th, zM.js, zM.mv, zM.ma, zM.ac, zM.po, zM.si, zM.ta, zM.ml, zM.mh, zM.gu, zM.wr, zM.mf, zM.mr, zM.re, zM.mo, zM.mb, zM.ms] at h
  dsimp only [zMW, zM_isKnown, mk_isKnown, zM.th, zM.js, zM.mv, zM.ma, zM.ac, zM.po, zM.si, zM.ta, zM.ml, zM.mh, zM.gu, zM.wr, zM.mf, zM.mr, zM.re, zM.mo, zM.mb, zM.ms]
  exact h
theorem q_M_guess (l : Launch) (G : zG) (a : Nat → Nat) (t : zM) (p1 p2 : Int32) (hz : ms_guess t p1 p2) : zC l G yX4_guess wsX4_guess rm_X4_guess 0 0 [.ref (a 18), .int p1, .int p2] (zMW G a t) (some (.int (mk_guess t p1 p2))) (fun _ : Unit => zMW G a (zM_guess t p1 p2)) := by
  have h := c_X4_guess l G (a 18) (a 19) (a 20) (a 21) (a 22) (a 23) (a 24) (a 25) (a 26) (a 27) t.th t.js t.mv t.ma t.ac t.po t.si t.ta t.ml t.mh t.gu t.wr t.mf t.mr t.re t.mo t.mb t.ms p1 p2 hz
  dsimp only [zM.th, zM.js, zM.mv, zM.ma, zM.ac, zM.po, zM.si, zM.ta, zM.ml, zM.mh, zM.gu, zM.wr, zM.mf, zM.mr, zM.re, zM.mo, zM.mb, zM.ms] at h
  dsimp only [zMW, zM_guess, mk_guess, zM.th, zM.js, zM.mv, zM.ma, zM.ac, zM.po, zM.si, zM.ta, zM.ml, zM.mh, zM.gu, zM.wr, zM.mf, zM.mr, zM.re, zM.mo, zM.mb, zM.ms]
  exact h
theorem q_M_leftAtMost (l : Launch) (G : zG) (a : Nat → Nat) (t : zM) (p1 p2 : Int32) (hz : ms_leftAtMost t p1 p2) : zC l G yX4_leftAtMost wsX4_leftAtMost rm_X4_leftAtMost 0 0 [.ref (a 18), .int p1, .int p2] (zMW G a t) (some (.int (mk_leftAtMost t p1 p2))) (fun _ : Unit => zMW G a (zM_leftAtMost t p1 p2)) := by
  have h := c_X4_leftAtMost l G (a 18) (a 19) (a 20) (a 21) (a 22) (a 23) (a 24) (a 25) (a 26) (a 27) t.th t.js t.mv t.ma t.ac t.po t.si t.ta t.ml t.mh t.gu t.wr t.mf t.mr t.re t.mo t.mb t.ms p1 p2 hz
  dsimp only [zM.th, zM.js, zM.mv, zM.ma, zM.ac, zM.po, zM.si, zM.ta, zM.ml, zM.mh, zM.gu, zM.wr, zM.mf, zM.mr, zM.re, zM.mo, zM.mb, zM.ms] at h
  dsimp only [zMW, zM_leftAtMost, mk_leftAtMost, zM.th, zM.js, zM.mv, zM.ma, zM.ac, zM.po, zM.si, zM.ta, zM.ml, zM.mh, zM.gu, zM.wr, zM.mf, zM.mr, zM.re, zM.mo, zM.mb, zM.ms]
  exact h
theorem q_M_jars (l : Launch) (G : zG) (a : Nat → Nat) (t : zM) (hz : ms_jars t) : zC l G yX4_jars wsX4_jars rm_X4_jars 0 0 [.ref (a 18)] (zMW G a t) (some (.int (mk_jars t))) (fun _ : Unit => zMW G a (zM_jars t)) := by
  have h := c_X4_jars l G (a 18) (a 19) (a 20) (a 21) (a 22) (a 23) (a 24) (a 25) (a 26) (a 27) t.th t.js t.mv t.ma t.ac t.po t.si t.ta t.ml t.mh t.gu t.wr t.mf t.mr t.re t.mo t.mb t.ms
  dsimp only [zM.th, zM.js, zM.mv, zM.ma, zM.ac, zM.po, zM.si, zM.ta, zM.ml, zM.mh, zM.gu, zM.wr, zM.mf, zM.mr, zM.re, zM.mo, zM.mb, zM.ms] at h
  dsimp only [zMW, zM_jars, mk_jars, zM.th, zM.js, zM.mv, zM.ma, zM.ac, zM.po, zM.si, zM.ta, zM.ml, zM.mh, zM.gu, zM.wr, zM.mf, zM.mr, zM.re, zM.mo, zM.mb, zM.ms]
  exact h
theorem q_M_heldInAll (l : Launch) (G : zG) (a : Nat → Nat) (t : zM) (hz : ms_heldInAll t) : zC l G yX4_heldInAll wsX4_heldInAll rm_X4_heldInAll 0 0 [.ref (a 18)] (zMW G a t) (some (.int (mk_heldInAll t))) (fun _ : Unit => zMW G a (zM_heldInAll t)) := by
  have h := c_X4_heldInAll l G (a 18) (a 19) (a 20) (a 21) (a 22) (a 23) (a 24) (a 25) (a 26) (a 27) t.th t.js t.mv t.ma t.ac t.po t.si t.ta t.ml t.mh t.gu t.wr t.mf t.mr t.re t.mo t.mb t.ms
  dsimp only [zM.th, zM.js, zM.mv, zM.ma, zM.ac, zM.po, zM.si, zM.ta, zM.ml, zM.mh, zM.gu, zM.wr, zM.mf, zM.mr, zM.re, zM.mo, zM.mb, zM.ms] at h
  dsimp only [zMW, zM_heldInAll, mk_heldInAll, zM.th, zM.js, zM.mv, zM.ma, zM.ac, zM.po, zM.si, zM.ta, zM.ml, zM.mh, zM.gu, zM.wr, zM.mf, zM.mr, zM.re, zM.mo, zM.mb, zM.ms]
  exact h
theorem q_M_acts (l : Launch) (G : zG) (a : Nat → Nat) (t : zM) (hz : ms_acts t) : zC l G yX4_acts wsX4_acts rm_X4_acts 0 0 [.ref (a 18)] (zMW G a t) (some (.int (mk_acts t))) (fun _ : Unit => zMW G a (zM_acts t)) := by
  have h := c_X4_acts l G (a 18) (a 19) (a 20) (a 21) (a 22) (a 23) (a 24) (a 25) (a 26) (a 27) t.th t.js t.mv t.ma t.ac t.po t.si t.ta t.ml t.mh t.gu t.wr t.mf t.mr t.re t.mo t.mb t.ms
  dsimp only [zM.th, zM.js, zM.mv, zM.ma, zM.ac, zM.po, zM.si, zM.ta, zM.ml, zM.mh, zM.gu, zM.wr, zM.mf, zM.mr, zM.re, zM.mo, zM.mb, zM.ms] at h
  dsimp only [zMW, zM_acts, mk_acts, zM.th, zM.js, zM.mv, zM.ma, zM.ac, zM.po, zM.si, zM.ta, zM.ml, zM.mh, zM.gu, zM.wr, zM.mf, zM.mr, zM.re, zM.mo, zM.mb, zM.ms]
  exact h
theorem q_M_pouredInAll (l : Launch) (G : zG) (a : Nat → Nat) (t : zM) (hz : ms_pouredInAll t) : zC l G yX4_pouredInAll wsX4_pouredInAll rm_X4_pouredInAll 0 0 [.ref (a 18)] (zMW G a t) (some (.int (mk_pouredInAll t))) (fun _ : Unit => zMW G a (zM_pouredInAll t)) := by
  have h := c_X4_pouredInAll l G (a 18) (a 19) (a 20) (a 21) (a 22) (a 23) (a 24) (a 25) (a 26) (a 27) t.th t.js t.mv t.ma t.ac t.po t.si t.ta t.ml t.mh t.gu t.wr t.mf t.mr t.re t.mo t.mb t.ms
  dsimp only [zM.th, zM.js, zM.mv, zM.ma, zM.ac, zM.po, zM.si, zM.ta, zM.ml, zM.mh, zM.gu, zM.wr, zM.mf, zM.mr, zM.re, zM.mo, zM.mb, zM.ms] at h
  dsimp only [zMW, zM_pouredInAll, mk_pouredInAll, zM.th, zM.js, zM.mv, zM.ma, zM.ac, zM.po, zM.si, zM.ta, zM.ml, zM.mh, zM.gu, zM.wr, zM.mf, zM.mr, zM.re, zM.mo, zM.mb, zM.ms]
  exact h
theorem q_M_spilledInAll (l : Launch) (G : zG) (a : Nat → Nat) (t : zM) (hz : ms_spilledInAll t) : zC l G yX4_spilledInAll wsX4_spilledInAll rm_X4_spilledInAll 0 0 [.ref (a 18)] (zMW G a t) (some (.int (mk_spilledInAll t))) (fun _ : Unit => zMW G a (zM_spilledInAll t)) := by
  have h := c_X4_spilledInAll l G (a 18) (a 19) (a 20) (a 21) (a 22) (a 23) (a 24) (a 25) (a 26) (a 27) t.th t.js t.mv t.ma t.ac t.po t.si t.ta t.ml t.mh t.gu t.wr t.mf t.mr t.re t.mo t.mb t.ms
  dsimp only [zM.th, zM.js, zM.mv, zM.ma, zM.ac, zM.po, zM.si, zM.ta, zM.ml, zM.mh, zM.gu, zM.wr, zM.mf, zM.mr, zM.re, zM.mo, zM.mb, zM.ms] at h
  dsimp only [zMW, zM_spilledInAll, mk_spilledInAll, zM.th, zM.js, zM.mv, zM.ma, zM.ac, zM.po, zM.si, zM.ta, zM.ml, zM.mh, zM.gu, zM.wr, zM.mf, zM.mr, zM.re, zM.mo, zM.mb, zM.ms]
  exact h
theorem q_M_takenInAll (l : Launch) (G : zG) (a : Nat → Nat) (t : zM) (hz : ms_takenInAll t) : zC l G yX4_takenInAll wsX4_takenInAll rm_X4_takenInAll 0 0 [.ref (a 18)] (zMW G a t) (some (.int (mk_takenInAll t))) (fun _ : Unit => zMW G a (zM_takenInAll t)) := by
  have h := c_X4_takenInAll l G (a 18) (a 19) (a 20) (a 21) (a 22) (a 23) (a 24) (a 25) (a 26) (a 27) t.th t.js t.mv t.ma t.ac t.po t.si t.ta t.ml t.mh t.gu t.wr t.mf t.mr t.re t.mo t.mb t.ms
  dsimp only [zM.th, zM.js, zM.mv, zM.ma, zM.ac, zM.po, zM.si, zM.ta, zM.ml, zM.mh, zM.gu, zM.wr, zM.mf, zM.mr, zM.re, zM.mo, zM.mb, zM.ms] at h
  dsimp only [zMW, zM_takenInAll, mk_takenInAll, zM.th, zM.js, zM.mv, zM.ma, zM.ac, zM.po, zM.si, zM.ta, zM.ml, zM.mh, zM.gu, zM.wr, zM.mf, zM.mr, zM.re, zM.mo, zM.mb, zM.ms]
  exact h
theorem q_M_amountsToHave (l : Launch) (G : zG) (a : Nat → Nat) (t : zM) (hz : ms_amountsToHave t) : zC l G yX4_amountsToHave wsX4_amountsToHave rm_X4_amountsToHave 0 0 [.ref (a 18)] (zMW G a t) (some (.int (mk_amountsToHave t))) (fun _ : Unit => zMW G a (zM_amountsToHave t)) := by
  have h := c_X4_amountsToHave l G (a 18) (a 19) (a 20) (a 21) (a 22) (a 23) (a 24) (a 25) (a 26) (a 27) t.th t.js t.mv t.ma t.ac t.po t.si t.ta t.ml t.mh t.gu t.wr t.mf t.mr t.re t.mo t.mb t.ms hz
  dsimp only [zM.th, zM.js, zM.mv, zM.ma, zM.ac, zM.po, zM.si, zM.ta, zM.ml, zM.mh, zM.gu, zM.wr, zM.mf, zM.mr, zM.re, zM.mo, zM.mb, zM.ms] at h
  dsimp only [zMW, zM_amountsToHave, mk_amountsToHave, zM.th, zM.js, zM.mv, zM.ma, zM.ac, zM.po, zM.si, zM.ta, zM.ml, zM.mh, zM.gu, zM.wr, zM.mf, zM.mr, zM.re, zM.mo, zM.mb, zM.ms]
  exact h
theorem q_M_statesToReach (l : Launch) (G : zG) (a : Nat → Nat) (t : zM) (hz : ms_statesToReach t) : zC l G yX4_statesToReach wsX4_statesToReach rm_X4_statesToReach 0 0 [.ref (a 18)] (zMW G a t) (some (.int (mk_statesToReach t))) (fun _ : Unit => zMW G a (zM_statesToReach t)) := by
  have h := c_X4_statesToReach l G (a 18) (a 19) (a 20) (a 21) (a 22) (a 23) (a 24) (a 25) (a 26) (a 27) t.th t.js t.mv t.ma t.ac t.po t.si t.ta t.ml t.mh t.gu t.wr t.mf t.mr t.re t.mo t.mb t.ms hz
  dsimp only [zM.th, zM.js, zM.mv, zM.ma, zM.ac, zM.po, zM.si, zM.ta, zM.ml, zM.mh, zM.gu, zM.wr, zM.mf, zM.mr, zM.re, zM.mo, zM.mb, zM.ms] at h
  dsimp only [zMW, zM_statesToReach, mk_statesToReach, zM.th, zM.js, zM.mv, zM.ma, zM.ac, zM.po, zM.si, zM.ta, zM.ml, zM.mh, zM.gu, zM.wr, zM.mf, zM.mr, zM.re, zM.mo, zM.mb, zM.ms]
  exact h
theorem q_M_farthest (l : Launch) (G : zG) (a : Nat → Nat) (t : zM) (hz : ms_farthest t) : zC l G yX4_farthest wsX4_farthest rm_X4_farthest 0 0 [.ref (a 18)] (zMW G a t) (some (.int (mk_farthest t))) (fun _ : Unit => zMW G a (zM_farthest t)) := by
  have h := c_X4_farthest l G (a 18) (a 19) (a 20) (a 21) (a 22) (a 23) (a 24) (a 25) (a 26) (a 27) t.th t.js t.mv t.ma t.ac t.po t.si t.ta t.ml t.mh t.gu t.wr t.mf t.mr t.re t.mo t.mb t.ms hz
  dsimp only [zM.th, zM.js, zM.mv, zM.ma, zM.ac, zM.po, zM.si, zM.ta, zM.ml, zM.mh, zM.gu, zM.wr, zM.mf, zM.mr, zM.re, zM.mo, zM.mb, zM.ms] at h
  dsimp only [zMW, zM_farthest, mk_farthest, zM.th, zM.js, zM.mv, zM.ma, zM.ac, zM.po, zM.si, zM.ta, zM.ml, zM.mh, zM.gu, zM.wr, zM.mf, zM.mr, zM.re, zM.mo, zM.mb, zM.ms]
  exact h
theorem q_M_candidates (l : Launch) (G : zG) (a : Nat → Nat) (t : zM) (hz : ms_candidates t) : zC l G yX4_candidates wsX4_candidates rm_X4_candidates 0 0 [.ref (a 18)] (zMW G a t) (some (.int (mk_candidates t))) (fun _ : Unit => zMW G a (zM_candidates t)) := by
  have h := c_X4_candidates l G (a 18) (a 19) (a 20) (a 21) (a 22) (a 23) (a 24) (a 25) (a 26) (a 27) t.th t.js t.mv t.ma t.ac t.po t.si t.ta t.ml t.mh t.gu t.wr t.mf t.mr t.re t.mo t.mb t.ms
  dsimp only [zM.th, zM.js, zM.mv, zM.ma, zM.ac, zM.po, zM.si, zM.ta, zM.ml, zM.mh, zM.gu, zM.wr, zM.mf, zM.mr, zM.re, zM.mo, zM.mb, zM.ms] at h
  dsimp only [zMW, zM_candidates, mk_candidates, zM.th, zM.js, zM.mv, zM.ma, zM.ac, zM.po, zM.si, zM.ta, zM.ml, zM.mh, zM.gu, zM.wr, zM.mf, zM.mr, zM.re, zM.mo, zM.mb, zM.ms]
  exact h
theorem q_M_guesses (l : Launch) (G : zG) (a : Nat → Nat) (t : zM) (hz : ms_guesses t) : zC l G yX4_guesses wsX4_guesses rm_X4_guesses 0 0 [.ref (a 18)] (zMW G a t) (some (.int (mk_guesses t))) (fun _ : Unit => zMW G a (zM_guesses t)) := by
  have h := c_X4_guesses l G (a 18) (a 19) (a 20) (a 21) (a 22) (a 23) (a 24) (a 25) (a 26) (a 27) t.th t.js t.mv t.ma t.ac t.po t.si t.ta t.ml t.mh t.gu t.wr t.mf t.mr t.re t.mo t.mb t.ms
  dsimp only [zM.th, zM.js, zM.mv, zM.ma, zM.ac, zM.po, zM.si, zM.ta, zM.ml, zM.mh, zM.gu, zM.wr, zM.mf, zM.mr, zM.re, zM.mo, zM.mb, zM.ms] at h
  dsimp only [zMW, zM_guesses, mk_guesses, zM.th, zM.js, zM.mv, zM.ma, zM.ac, zM.po, zM.si, zM.ta, zM.ml, zM.mh, zM.gu, zM.wr, zM.mf, zM.mr, zM.re, zM.mo, zM.mb, zM.ms]
  exact h
theorem q_M_wrongGuesses (l : Launch) (G : zG) (a : Nat → Nat) (t : zM) (hz : ms_wrongGuesses t) : zC l G yX4_wrongGuesses wsX4_wrongGuesses rm_X4_wrongGuesses 0 0 [.ref (a 18)] (zMW G a t) (some (.int (mk_wrongGuesses t))) (fun _ : Unit => zMW G a (zM_wrongGuesses t)) := by
  have h := c_X4_wrongGuesses l G (a 18) (a 19) (a 20) (a 21) (a 22) (a 23) (a 24) (a 25) (a 26) (a 27) t.th t.js t.mv t.ma t.ac t.po t.si t.ta t.ml t.mh t.gu t.wr t.mf t.mr t.re t.mo t.mb t.ms
  dsimp only [zM.th, zM.js, zM.mv, zM.ma, zM.ac, zM.po, zM.si, zM.ta, zM.ml, zM.mh, zM.gu, zM.wr, zM.mf, zM.mr, zM.re, zM.mo, zM.mb, zM.ms] at h
  dsimp only [zMW, zM_wrongGuesses, mk_wrongGuesses, zM.th, zM.js, zM.mv, zM.ma, zM.ac, zM.po, zM.si, zM.ta, zM.ml, zM.mh, zM.gu, zM.wr, zM.mf, zM.mr, zM.re, zM.mo, zM.mb, zM.ms]
  exact h
theorem q_M_bestPour (l : Launch) (G : zG) (a : Nat → Nat) (t : zM) (hz : ms_bestPour t) : zC l G yX4_bestPour wsX4_bestPour rm_X4_bestPour 0 0 [.ref (a 18)] (zMW G a t) (some (.int (mk_bestPour t))) (fun _ : Unit => zMW G a (zM_bestPour t)) := by
  have h := c_X4_bestPour l G (a 18) (a 19) (a 20) (a 21) (a 22) (a 23) (a 24) (a 25) (a 26) (a 27) t.th t.js t.mv t.ma t.ac t.po t.si t.ta t.ml t.mh t.gu t.wr t.mf t.mr t.re t.mo t.mb t.ms hz
  dsimp only [zM.th, zM.js, zM.mv, zM.ma, zM.ac, zM.po, zM.si, zM.ta, zM.ml, zM.mh, zM.gu, zM.wr, zM.mf, zM.mr, zM.re, zM.mo, zM.mb, zM.ms] at h
  dsimp only [zMW, zM_bestPour, mk_bestPour, zM.th, zM.js, zM.mv, zM.ma, zM.ac, zM.po, zM.si, zM.ta, zM.ml, zM.mh, zM.gu, zM.wr, zM.mf, zM.mr, zM.re, zM.mo, zM.mb, zM.ms]
  exact h
theorem q_M_meanAmount (l : Launch) (G : zG) (a : Nat → Nat) (t : zM) (hz : ms_meanAmount t) : zC l G yX4_meanAmount wsX4_meanAmount rm_X4_meanAmount 0 0 [.ref (a 18)] (zMW G a t) (some (.double (mk_meanAmount t))) (fun _ : Unit => zMW G a (zM_meanAmount t)) := by
  have h := c_X4_meanAmount l G (a 18) (a 19) (a 20) (a 21) (a 22) (a 23) (a 24) (a 25) (a 26) (a 27) t.th t.js t.mv t.ma t.ac t.po t.si t.ta t.ml t.mh t.gu t.wr t.mf t.mr t.re t.mo t.mb t.ms hz
  dsimp only [zM.th, zM.js, zM.mv, zM.ma, zM.ac, zM.po, zM.si, zM.ta, zM.ml, zM.mh, zM.gu, zM.wr, zM.mf, zM.mr, zM.re, zM.mo, zM.mb, zM.ms] at h
  dsimp only [zMW, zM_meanAmount, mk_meanAmount, zM.th, zM.js, zM.mv, zM.ma, zM.ac, zM.po, zM.si, zM.ta, zM.ml, zM.mh, zM.gu, zM.wr, zM.mf, zM.mr, zM.re, zM.mo, zM.mb, zM.ms]
  exact h
theorem q_M_digest (l : Launch) (G : zG) (a : Nat → Nat) (t : zM) (hz : ms_digest t) : zC l G yX4_digest wsX4_digest rm_X4_digest 1 12 [.ref (a 18)] (zMW G a t) (some (.long (mk_digest t))) (fun _ : Unit => zMW G a (zM_digest t)) := by
  have h := c_X4_digest l G (a 18) (a 19) (a 20) (a 21) (a 22) (a 23) (a 24) (a 25) (a 26) (a 27) t.th t.js t.mv t.ma t.ac t.po t.si t.ta t.ml t.mh t.gu t.wr t.mf t.mr t.re t.mo t.mb t.ms hz
  dsimp only [zM.th, zM.js, zM.mv, zM.ma, zM.ac, zM.po, zM.si, zM.ta, zM.ml, zM.mh, zM.gu, zM.wr, zM.mf, zM.mr, zM.re, zM.mo, zM.mb, zM.ms] at h
  dsimp only [zMW, zM_digest, mk_digest, zM.th, zM.js, zM.mv, zM.ma, zM.ac, zM.po, zM.si, zM.ta, zM.ml, zM.mh, zM.gu, zM.wr, zM.mf, zM.mr, zM.re, zM.mo, zM.mb, zM.ms]
  exact h
theorem q_M_thrown (l : Launch) (G : zG) (a : Nat → Nat) (t : zM) : zC l G yX4_thrown wsX4_thrown rm_X4_thrown 0 0 [.ref (a 18)] (zMW G a t) (some (.int t.th)) (fun _ : Unit => zMW G a t) :=
  c_X4_thrown l G (a 18) (a 19) (a 20) (a 21) (a 22) (a 23) (a 24) (a 25) (a 26) (a 27) t.th t.js t.mv t.ma t.ac t.po t.si t.ta t.ml t.mh t.gu t.wr t.mf t.mr t.re t.mo t.mb t.ms
/-- the answers, in one form -/
theorem u_jars {c : zS} {t : zM} (h : zRel c t) : zs_jars c ∧ ms_jars t ∧ zk_jars c = mk_jars t ∧ zRel (zS_jars c) (zM_jars t) := ⟨trivial, trivial, zo_jars h⟩
theorem u_heldInAll {c : zS} {t : zM} (h : zRel c t) : zs_heldInAll c ∧ ms_heldInAll t ∧ zk_heldInAll c = mk_heldInAll t ∧ zRel (zS_heldInAll c) (zM_heldInAll t) := ⟨trivial, trivial, zo_heldInAll h⟩
theorem u_acts {c : zS} {t : zM} (h : zRel c t) : zs_acts c ∧ ms_acts t ∧ zk_acts c = mk_acts t ∧ zRel (zS_acts c) (zM_acts t) := ⟨trivial, trivial, zo_acts h⟩
theorem u_pouredInAll {c : zS} {t : zM} (h : zRel c t) : zs_pouredInAll c ∧ ms_pouredInAll t ∧ zk_pouredInAll c = mk_pouredInAll t ∧ zRel (zS_pouredInAll c) (zM_pouredInAll t) := ⟨trivial, trivial, zo_pouredInAll h⟩
theorem u_spilledInAll {c : zS} {t : zM} (h : zRel c t) : zs_spilledInAll c ∧ ms_spilledInAll t ∧ zk_spilledInAll c = mk_spilledInAll t ∧ zRel (zS_spilledInAll c) (zM_spilledInAll t) := ⟨trivial, trivial, zo_spilledInAll h⟩
theorem u_takenInAll {c : zS} {t : zM} (h : zRel c t) : zs_takenInAll c ∧ ms_takenInAll t ∧ zk_takenInAll c = mk_takenInAll t ∧ zRel (zS_takenInAll c) (zM_takenInAll t) := ⟨trivial, trivial, zo_takenInAll h⟩
theorem u_amountsToHave {c : zS} {t : zM} (h : zRel c t) : zs_amountsToHave c ∧ ms_amountsToHave t ∧ zk_amountsToHave c = mk_amountsToHave t ∧ zRel (zS_amountsToHave c) (zM_amountsToHave t) := zo_amountsToHave h
theorem u_statesToReach {c : zS} {t : zM} (h : zRel c t) : zs_statesToReach c ∧ ms_statesToReach t ∧ zk_statesToReach c = mk_statesToReach t ∧ zRel (zS_statesToReach c) (zM_statesToReach t) := zo_statesToReach h
theorem u_farthest {c : zS} {t : zM} (h : zRel c t) : zs_farthest c ∧ ms_farthest t ∧ zk_farthest c = mk_farthest t ∧ zRel (zS_farthest c) (zM_farthest t) := zo_farthest h
theorem u_candidates {c : zS} {t : zM} (h : zRel c t) : zs_candidates c ∧ ms_candidates t ∧ zk_candidates c = mk_candidates t ∧ zRel (zS_candidates c) (zM_candidates t) := ⟨trivial, trivial, zo_candidates h⟩
theorem u_guesses {c : zS} {t : zM} (h : zRel c t) : zs_guesses c ∧ ms_guesses t ∧ zk_guesses c = mk_guesses t ∧ zRel (zS_guesses c) (zM_guesses t) := ⟨trivial, trivial, zo_guesses h⟩
theorem u_wrongGuesses {c : zS} {t : zM} (h : zRel c t) : zs_wrongGuesses c ∧ ms_wrongGuesses t ∧ zk_wrongGuesses c = mk_wrongGuesses t ∧ zRel (zS_wrongGuesses c) (zM_wrongGuesses t) := ⟨trivial, trivial, zo_wrongGuesses h⟩
theorem u_bestPour {c : zS} {t : zM} (h : zRel c t) : zs_bestPour c ∧ ms_bestPour t ∧ zk_bestPour c = mk_bestPour t ∧ zRel (zS_bestPour c) (zM_bestPour t) := zo_bestPour h
theorem u_meanAmount {c : zS} {t : zM} (h : zRel c t) : zs_meanAmount c ∧ ms_meanAmount t ∧ zk_meanAmount c = mk_meanAmount t ∧ zRel (zS_meanAmount c) (zM_meanAmount t) := ⟨(zo_meanAmount h).1, (zo_meanAmount h).2.1, (zo_meanAmount h).2.2.1, (zo_meanAmount h).2.2.2.2⟩
theorem u_digest {c : zS} {t : zM} (h : zRel c t) : zs_digest c ∧ ms_digest t ∧ zk_digest c = mk_digest t ∧ zRel (zS_digest c) (zM_digest t) := zo_digest h
theorem zb_isEmpty (t : zM) (p1 : Int32) : zb (mk_isEmpty t p1) := b_X4_isEmpty ..
theorem zb_isFull (t : zM) (p1 : Int32) : zb (mk_isFull t p1) := b_X4_isFull ..
theorem zb_isThere (t : zM) (p1 : Int32) : zb (mk_isThere t p1) := b_X4_isThere ..
theorem zb_mayBe (t : zM) (p1 p2 : Int32) : zb (mk_mayBe t p1 p2) := b_X4_mayBe ..
theorem zb_isKnown (t : zM) (p1 : Int32) : zb (mk_isKnown t p1) := b_X4_isKnown ..
theorem zb_guess (t : zM) (p1 p2 : Int32) : zb (mk_guess t p1 p2) := b_X4_guess ..
