/-! the class's contracts, said of its contents as one tuple -/
abbrev zCW3 (G : zG) (a : Nat → Nat) (c : zS) : va_W := w_X3 G (a 0) (a 1) (a 2) (a 3) (a 4) (a 5) (a 6) (a 7) (a 8) (a 9) (a 10) (a 11) (a 12) (a 13) (a 14) (a 15) (a 16) c.vr c.ar c.vs c.asF c.ds c.fa c.od c.rd c.vi c.ai c.hd c.sn c.jc c.lf c.ad c.pd c.sp c.tk c.gm c.gw
def zk_layOut (c : zS) (p1 : Int32) (p2 : Int32) (p3 : Int32) : Int32 := (f_X3_layOut c.vr c.ar c.rd c.hd c.jc c.lf c.ad c.pd c.sp c.tk c.gm c.gw p1 p2 p3).1
def zS_layOut (c : zS) (p1 : Int32) (p2 : Int32) (p3 : Int32) : zS := ((f_X3_layOut c.vr c.ar c.rd c.hd c.jc c.lf c.ad c.pd c.sp c.tk c.gm c.gw p1 p2 p3).2.1, (f_X3_layOut c.vr c.ar c.rd c.hd c.jc c.lf c.ad c.pd c.sp c.tk c.gm c.gw p1 p2 p3).2.2.1, c.vs, c.asF, c.ds, c.fa, c.od, (f_X3_layOut c.vr c.ar c.rd c.hd c.jc c.lf c.ad c.pd c.sp c.tk c.gm c.gw p1 p2 p3).2.2.2.1, c.vi, c.ai, (f_X3_layOut c.vr c.ar c.rd c.hd c.jc c.lf c.ad c.pd c.sp c.tk c.gm c.gw p1 p2 p3).2.2.2.2.1, c.sn, (f_X3_layOut c.vr c.ar c.rd c.hd c.jc c.lf c.ad c.pd c.sp c.tk c.gm c.gw p1 p2 p3).2.2.2.2.2.1, (f_X3_layOut c.vr c.ar c.rd c.hd c.jc c.lf c.ad c.pd c.sp c.tk c.gm c.gw p1 p2 p3).2.2.2.2.2.2.1, (f_X3_layOut c.vr c.ar c.rd c.hd c.jc c.lf c.ad c.pd c.sp c.tk c.gm c.gw p1 p2 p3).2.2.2.2.2.2.2.1, (f_X3_layOut c.vr c.ar c.rd c.hd c.jc c.lf c.ad c.pd c.sp c.tk c.gm c.gw p1 p2 p3).2.2.2.2.2.2.2.2.1, (f_X3_layOut c.vr c.ar c.rd c.hd c.jc c.lf c.ad c.pd c.sp c.tk c.gm c.gw p1 p2 p3).2.2.2.2.2.2.2.2.2.1, (f_X3_layOut c.vr c.ar c.rd c.hd c.jc c.lf c.ad c.pd c.sp c.tk c.gm c.gw p1 p2 p3).2.2.2.2.2.2.2.2.2.2.1, (f_X3_layOut c.vr c.ar c.rd c.hd c.jc c.lf c.ad c.pd c.sp c.tk c.gm c.gw p1 p2 p3).2.2.2.2.2.2.2.2.2.2.2.1, (f_X3_layOut c.vr c.ar c.rd c.hd c.jc c.lf c.ad c.pd c.sp c.tk c.gm c.gw p1 p2 p3).2.2.2.2.2.2.2.2.2.2.2.2)
def zs_layOut (c : zS) (p1 : Int32) (p2 : Int32) (p3 : Int32) : Prop := True
def zt_layOut (c : zS) (p1 : Int32) (p2 : Int32) (p3 : Int32) : Nat := t_X3_layOut p1 p2 p3
theorem zc_C_layOut (l : Launch) (G : zG) (a : Nat → Nat) (c : zS) (p1 : Int32) (p2 : Int32) (p3 : Int32) (hs : zs_layOut c p1 p2 p3) (ht : zt_layOut c p1 p2 p3 = 0) : zC l G yX3_layOut wsX3_layOut rm_X3_layOut 0 0 [.ref (a 0), .int p1, .int p2, .int p3] (zCW3 G a c) (some (.int (zk_layOut c p1 p2 p3))) (fun _ : Unit => zCW3 G a (zS_layOut c p1 p2 p3)) := by
  have h := c_X3_layOut l G (a 0) (a 1) (a 2) (a 3) (a 4) (a 5) (a 6) (a 7) (a 8) (a 9) (a 10) (a 11) (a 12) (a 13) (a 14) (a 15) (a 16) c.vr c.ar c.vs c.asF c.ds c.fa c.od c.rd c.vi c.ai c.hd c.sn c.jc c.lf c.ad c.pd c.sp c.tk c.gm c.gw p1 p2 p3 ht
  dsimp only [zS.vr, zS.ar, zS.vs, zS.asF, zS.ds, zS.fa, zS.od, zS.rd, zS.vi, zS.ai, zS.hd, zS.sn, zS.jc, zS.lf, zS.ad, zS.pd, zS.sp, zS.tk, zS.gm, zS.gw] at h
  dsimp only [zCW3, zS_layOut, zk_layOut, zS.vr, zS.ar, zS.vs, zS.asF, zS.ds, zS.fa, zS.od, zS.rd, zS.vi, zS.ai, zS.hd, zS.sn, zS.jc, zS.lf, zS.ad, zS.pd, zS.sp, zS.tk, zS.gm, zS.gw]
  exact h
def zk_fill (c : zS) (p1 : Int32) : Int32 := (f_X3_fill c.vr c.ar c.rd c.vi c.ai c.hd c.jc c.lf c.ad c.pd c.sp c.tk p1).1
def zS_fill (c : zS) (p1 : Int32) : zS := (c.vr, (f_X3_fill c.vr c.ar c.rd c.vi c.ai c.hd c.jc c.lf c.ad c.pd c.sp c.tk p1).2.1, c.vs, c.asF, c.ds, c.fa, c.od, (f_X3_fill c.vr c.ar c.rd c.vi c.ai c.hd c.jc c.lf c.ad c.pd c.sp c.tk p1).2.2.1, (f_X3_fill c.vr c.ar c.rd c.vi c.ai c.hd c.jc c.lf c.ad c.pd c.sp c.tk p1).2.2.2.1, (f_X3_fill c.vr c.ar c.rd c.vi c.ai c.hd c.jc c.lf c.ad c.pd c.sp c.tk p1).2.2.2.2.1, (f_X3_fill c.vr c.ar c.rd c.vi c.ai c.hd c.jc c.lf c.ad c.pd c.sp c.tk p1).2.2.2.2.2.1, c.sn, c.jc, (f_X3_fill c.vr c.ar c.rd c.vi c.ai c.hd c.jc c.lf c.ad c.pd c.sp c.tk p1).2.2.2.2.2.2.1, (f_X3_fill c.vr c.ar c.rd c.vi c.ai c.hd c.jc c.lf c.ad c.pd c.sp c.tk p1).2.2.2.2.2.2.2.1, (f_X3_fill c.vr c.ar c.rd c.vi c.ai c.hd c.jc c.lf c.ad c.pd c.sp c.tk p1).2.2.2.2.2.2.2.2.1, (f_X3_fill c.vr c.ar c.rd c.vi c.ai c.hd c.jc c.lf c.ad c.pd c.sp c.tk p1).2.2.2.2.2.2.2.2.2.1, (f_X3_fill c.vr c.ar c.rd c.vi c.ai c.hd c.jc c.lf c.ad c.pd c.sp c.tk p1).2.2.2.2.2.2.2.2.2.2, c.gm, c.gw)
def zs_fill (c : zS) (p1 : Int32) : Prop := s_X3_fill c.vr c.ar c.vi c.ai c.hd c.jc c.lf p1
def zt_fill (c : zS) (p1 : Int32) : Nat := t_X3_fill c.vr p1
theorem zc_C_fill (l : Launch) (G : zG) (a : Nat → Nat) (c : zS) (p1 : Int32) (hs : zs_fill c p1) (ht : zt_fill c p1 = 0) : zC l G yX3_fill wsX3_fill rm_X3_fill 0 0 [.ref (a 0), .int p1] (zCW3 G a c) (some (.int (zk_fill c p1))) (fun _ : Unit => zCW3 G a (zS_fill c p1)) := by
  have h := c_X3_fill l G (a 0) (a 1) (a 2) (a 3) (a 4) (a 5) (a 6) (a 7) (a 8) (a 9) (a 10) (a 11) (a 12) (a 13) (a 14) (a 15) (a 16) c.vr c.ar c.vs c.asF c.ds c.fa c.od c.rd c.vi c.ai c.hd c.sn c.jc c.lf c.ad c.pd c.sp c.tk c.gm c.gw p1 hs ht
  dsimp only [zS.vr, zS.ar, zS.vs, zS.asF, zS.ds, zS.fa, zS.od, zS.rd, zS.vi, zS.ai, zS.hd, zS.sn, zS.jc, zS.lf, zS.ad, zS.pd, zS.sp, zS.tk, zS.gm, zS.gw] at h
  dsimp only [zCW3, zS_fill, zk_fill, zS.vr, zS.ar, zS.vs, zS.asF, zS.ds, zS.fa, zS.od, zS.rd, zS.vi, zS.ai, zS.hd, zS.sn, zS.jc, zS.lf, zS.ad, zS.pd, zS.sp, zS.tk, zS.gm, zS.gw]
  exact h
def zk_empty (c : zS) (p1 : Int32) : Int32 := (f_X3_empty c.vr c.ar c.rd c.vi c.ai c.hd c.jc c.lf c.ad c.pd c.sp c.tk p1).1
def zS_empty (c : zS) (p1 : Int32) : zS := (c.vr, (f_X3_empty c.vr c.ar c.rd c.vi c.ai c.hd c.jc c.lf c.ad c.pd c.sp c.tk p1).2.1, c.vs, c.asF, c.ds, c.fa, c.od, (f_X3_empty c.vr c.ar c.rd c.vi c.ai c.hd c.jc c.lf c.ad c.pd c.sp c.tk p1).2.2.1, (f_X3_empty c.vr c.ar c.rd c.vi c.ai c.hd c.jc c.lf c.ad c.pd c.sp c.tk p1).2.2.2.1, (f_X3_empty c.vr c.ar c.rd c.vi c.ai c.hd c.jc c.lf c.ad c.pd c.sp c.tk p1).2.2.2.2.1, (f_X3_empty c.vr c.ar c.rd c.vi c.ai c.hd c.jc c.lf c.ad c.pd c.sp c.tk p1).2.2.2.2.2.1, c.sn, c.jc, (f_X3_empty c.vr c.ar c.rd c.vi c.ai c.hd c.jc c.lf c.ad c.pd c.sp c.tk p1).2.2.2.2.2.2.1, (f_X3_empty c.vr c.ar c.rd c.vi c.ai c.hd c.jc c.lf c.ad c.pd c.sp c.tk p1).2.2.2.2.2.2.2.1, (f_X3_empty c.vr c.ar c.rd c.vi c.ai c.hd c.jc c.lf c.ad c.pd c.sp c.tk p1).2.2.2.2.2.2.2.2.1, (f_X3_empty c.vr c.ar c.rd c.vi c.ai c.hd c.jc c.lf c.ad c.pd c.sp c.tk p1).2.2.2.2.2.2.2.2.2.1, (f_X3_empty c.vr c.ar c.rd c.vi c.ai c.hd c.jc c.lf c.ad c.pd c.sp c.tk p1).2.2.2.2.2.2.2.2.2.2, c.gm, c.gw)
def zs_empty (c : zS) (p1 : Int32) : Prop := s_X3_empty c.vr c.ar c.vi c.ai c.hd c.jc c.lf p1
def zt_empty (c : zS) (p1 : Int32) : Nat := t_X3_empty c.vr p1
theorem zc_C_empty (l : Launch) (G : zG) (a : Nat → Nat) (c : zS) (p1 : Int32) (hs : zs_empty c p1) (ht : zt_empty c p1 = 0) : zC l G yX3_empty wsX3_empty rm_X3_empty 0 0 [.ref (a 0), .int p1] (zCW3 G a c) (some (.int (zk_empty c p1))) (fun _ : Unit => zCW3 G a (zS_empty c p1)) := by
  have h := c_X3_empty l G (a 0) (a 1) (a 2) (a 3) (a 4) (a 5) (a 6) (a 7) (a 8) (a 9) (a 10) (a 11) (a 12) (a 13) (a 14) (a 15) (a 16) c.vr c.ar c.vs c.asF c.ds c.fa c.od c.rd c.vi c.ai c.hd c.sn c.jc c.lf c.ad c.pd c.sp c.tk c.gm c.gw p1 hs ht
  dsimp only [zS.vr, zS.ar, zS.vs, zS.asF, zS.ds, zS.fa, zS.od, zS.rd, zS.vi, zS.ai, zS.hd, zS.sn, zS.jc, zS.lf, zS.ad, zS.pd, zS.sp, zS.tk, zS.gm, zS.gw] at h
  dsimp only [zCW3, zS_empty, zk_empty, zS.vr, zS.ar, zS.vs, zS.asF, zS.ds, zS.fa, zS.od, zS.rd, zS.vi, zS.ai, zS.hd, zS.sn, zS.jc, zS.lf, zS.ad, zS.pd, zS.sp, zS.tk, zS.gm, zS.gw]
  exact h
def zk_pour (c : zS) (p1 : Int32) (p2 : Int32) : Int32 := (f_X3_pour c.vr c.ar c.rd c.vi c.ai c.hd c.jc c.lf c.ad c.pd c.sp c.tk p1 p2).1
def zS_pour (c : zS) (p1 : Int32) (p2 : Int32) : zS := (c.vr, (f_X3_pour c.vr c.ar c.rd c.vi c.ai c.hd c.jc c.lf c.ad c.pd c.sp c.tk p1 p2).2.1, c.vs, c.asF, c.ds, c.fa, c.od, (f_X3_pour c.vr c.ar c.rd c.vi c.ai c.hd c.jc c.lf c.ad c.pd c.sp c.tk p1 p2).2.2.1, (f_X3_pour c.vr c.ar c.rd c.vi c.ai c.hd c.jc c.lf c.ad c.pd c.sp c.tk p1 p2).2.2.2.1, (f_X3_pour c.vr c.ar c.rd c.vi c.ai c.hd c.jc c.lf c.ad c.pd c.sp c.tk p1 p2).2.2.2.2.1, (f_X3_pour c.vr c.ar c.rd c.vi c.ai c.hd c.jc c.lf c.ad c.pd c.sp c.tk p1 p2).2.2.2.2.2.1, c.sn, c.jc, (f_X3_pour c.vr c.ar c.rd c.vi c.ai c.hd c.jc c.lf c.ad c.pd c.sp c.tk p1 p2).2.2.2.2.2.2.1, (f_X3_pour c.vr c.ar c.rd c.vi c.ai c.hd c.jc c.lf c.ad c.pd c.sp c.tk p1 p2).2.2.2.2.2.2.2.1, (f_X3_pour c.vr c.ar c.rd c.vi c.ai c.hd c.jc c.lf c.ad c.pd c.sp c.tk p1 p2).2.2.2.2.2.2.2.2.1, (f_X3_pour c.vr c.ar c.rd c.vi c.ai c.hd c.jc c.lf c.ad c.pd c.sp c.tk p1 p2).2.2.2.2.2.2.2.2.2.1, (f_X3_pour c.vr c.ar c.rd c.vi c.ai c.hd c.jc c.lf c.ad c.pd c.sp c.tk p1 p2).2.2.2.2.2.2.2.2.2.2, c.gm, c.gw)
def zs_pour (c : zS) (p1 : Int32) (p2 : Int32) : Prop := s_X3_pour c.vr c.ar c.vi c.ai c.hd c.jc c.lf p1 p2
def zt_pour (c : zS) (p1 : Int32) (p2 : Int32) : Nat := t_X3_pour c.vr p1 p2
theorem zc_C_pour (l : Launch) (G : zG) (a : Nat → Nat) (c : zS) (p1 : Int32) (p2 : Int32) (hs : zs_pour c p1 p2) (ht : zt_pour c p1 p2 = 0) : zC l G yX3_pour wsX3_pour rm_X3_pour 0 0 [.ref (a 0), .int p1, .int p2] (zCW3 G a c) (some (.int (zk_pour c p1 p2))) (fun _ : Unit => zCW3 G a (zS_pour c p1 p2)) := by
  have h := c_X3_pour l G (a 0) (a 1) (a 2) (a 3) (a 4) (a 5) (a 6) (a 7) (a 8) (a 9) (a 10) (a 11) (a 12) (a 13) (a 14) (a 15) (a 16) c.vr c.ar c.vs c.asF c.ds c.fa c.od c.rd c.vi c.ai c.hd c.sn c.jc c.lf c.ad c.pd c.sp c.tk c.gm c.gw p1 p2 hs ht
  dsimp only [zS.vr, zS.ar, zS.vs, zS.asF, zS.ds, zS.fa, zS.od, zS.rd, zS.vi, zS.ai, zS.hd, zS.sn, zS.jc, zS.lf, zS.ad, zS.pd, zS.sp, zS.tk, zS.gm, zS.gw] at h
  dsimp only [zCW3, zS_pour, zk_pour, zS.vr, zS.ar, zS.vs, zS.asF, zS.ds, zS.fa, zS.od, zS.rd, zS.vi, zS.ai, zS.hd, zS.sn, zS.jc, zS.lf, zS.ad, zS.pd, zS.sp, zS.tk, zS.gm, zS.gw]
  exact h
def zk_follow (c : zS) (p1 : Int32) (p2 : Int32) : Int32 := (f_X3_follow c.vr c.ar c.vs c.asF c.ds c.fa c.od c.rd c.vi c.ai c.hd c.jc c.lf c.ad c.pd c.sp c.tk p1 p2).1
def zS_follow (c : zS) (p1 : Int32) (p2 : Int32) : zS := (c.vr, (f_X3_follow c.vr c.ar c.vs c.asF c.ds c.fa c.od c.rd c.vi c.ai c.hd c.jc c.lf c.ad c.pd c.sp c.tk p1 p2).2.1, (f_X3_follow c.vr c.ar c.vs c.asF c.ds c.fa c.od c.rd c.vi c.ai c.hd c.jc c.lf c.ad c.pd c.sp c.tk p1 p2).2.2.1, (f_X3_follow c.vr c.ar c.vs c.asF c.ds c.fa c.od c.rd c.vi c.ai c.hd c.jc c.lf c.ad c.pd c.sp c.tk p1 p2).2.2.2.1, (f_X3_follow c.vr c.ar c.vs c.asF c.ds c.fa c.od c.rd c.vi c.ai c.hd c.jc c.lf c.ad c.pd c.sp c.tk p1 p2).2.2.2.2.1, (f_X3_follow c.vr c.ar c.vs c.asF c.ds c.fa c.od c.rd c.vi c.ai c.hd c.jc c.lf c.ad c.pd c.sp c.tk p1 p2).2.2.2.2.2.1, (f_X3_follow c.vr c.ar c.vs c.asF c.ds c.fa c.od c.rd c.vi c.ai c.hd c.jc c.lf c.ad c.pd c.sp c.tk p1 p2).2.2.2.2.2.2.1, (f_X3_follow c.vr c.ar c.vs c.asF c.ds c.fa c.od c.rd c.vi c.ai c.hd c.jc c.lf c.ad c.pd c.sp c.tk p1 p2).2.2.2.2.2.2.2.1, (f_X3_follow c.vr c.ar c.vs c.asF c.ds c.fa c.od c.rd c.vi c.ai c.hd c.jc c.lf c.ad c.pd c.sp c.tk p1 p2).2.2.2.2.2.2.2.2.1, (f_X3_follow c.vr c.ar c.vs c.asF c.ds c.fa c.od c.rd c.vi c.ai c.hd c.jc c.lf c.ad c.pd c.sp c.tk p1 p2).2.2.2.2.2.2.2.2.2.1, (f_X3_follow c.vr c.ar c.vs c.asF c.ds c.fa c.od c.rd c.vi c.ai c.hd c.jc c.lf c.ad c.pd c.sp c.tk p1 p2).2.2.2.2.2.2.2.2.2.2.1, c.sn, c.jc, (f_X3_follow c.vr c.ar c.vs c.asF c.ds c.fa c.od c.rd c.vi c.ai c.hd c.jc c.lf c.ad c.pd c.sp c.tk p1 p2).2.2.2.2.2.2.2.2.2.2.2.1, (f_X3_follow c.vr c.ar c.vs c.asF c.ds c.fa c.od c.rd c.vi c.ai c.hd c.jc c.lf c.ad c.pd c.sp c.tk p1 p2).2.2.2.2.2.2.2.2.2.2.2.2.1, (f_X3_follow c.vr c.ar c.vs c.asF c.ds c.fa c.od c.rd c.vi c.ai c.hd c.jc c.lf c.ad c.pd c.sp c.tk p1 p2).2.2.2.2.2.2.2.2.2.2.2.2.2.1, (f_X3_follow c.vr c.ar c.vs c.asF c.ds c.fa c.od c.rd c.vi c.ai c.hd c.jc c.lf c.ad c.pd c.sp c.tk p1 p2).2.2.2.2.2.2.2.2.2.2.2.2.2.2.1, (f_X3_follow c.vr c.ar c.vs c.asF c.ds c.fa c.od c.rd c.vi c.ai c.hd c.jc c.lf c.ad c.pd c.sp c.tk p1 p2).2.2.2.2.2.2.2.2.2.2.2.2.2.2.2, c.gm, c.gw)
def zs_follow (c : zS) (p1 : Int32) (p2 : Int32) : Prop := s_X3_follow c.vr c.ar c.vs c.asF c.ds c.fa c.od c.rd c.vi c.ai c.hd c.jc c.lf c.ad c.pd c.sp c.tk p1 p2
def zt_follow (c : zS) (p1 : Int32) (p2 : Int32) : Nat := t_X3_follow c.vr c.ar c.vs c.asF c.ds c.fa c.od c.rd p1 p2
theorem zc_C_follow (l : Launch) (G : zG) (a : Nat → Nat) (c : zS) (p1 : Int32) (p2 : Int32) (hs : zs_follow c p1 p2) (ht : zt_follow c p1 p2 = 0) : zC l G yX3_follow wsX3_follow rm_X3_follow 0 0 [.ref (a 0), .int p1, .int p2] (zCW3 G a c) (some (.int (zk_follow c p1 p2))) (fun _ : Unit => zCW3 G a (zS_follow c p1 p2)) := by
  have h := c_X3_follow l G (a 0) (a 1) (a 2) (a 3) (a 4) (a 5) (a 6) (a 7) (a 8) (a 9) (a 10) (a 11) (a 12) (a 13) (a 14) (a 15) (a 16) c.vr c.ar c.vs c.asF c.ds c.fa c.od c.rd c.vi c.ai c.hd c.sn c.jc c.lf c.ad c.pd c.sp c.tk c.gm c.gw p1 p2 hs ht
  dsimp only [zS.vr, zS.ar, zS.vs, zS.asF, zS.ds, zS.fa, zS.od, zS.rd, zS.vi, zS.ai, zS.hd, zS.sn, zS.jc, zS.lf, zS.ad, zS.pd, zS.sp, zS.tk, zS.gm, zS.gw] at h
  dsimp only [zCW3, zS_follow, zk_follow, zS.vr, zS.ar, zS.vs, zS.asF, zS.ds, zS.fa, zS.od, zS.rd, zS.vi, zS.ai, zS.hd, zS.sn, zS.jc, zS.lf, zS.ad, zS.pd, zS.sp, zS.tk, zS.gm, zS.gw]
  exact h
def zk_jars (c : zS) : Int32 := (f_X3_jars c.vr)
def zS_jars (c : zS) : zS := (c.vr, c.ar, c.vs, c.asF, c.ds, c.fa, c.od, c.rd, c.vi, c.ai, c.hd, c.sn, c.jc, c.lf, c.ad, c.pd, c.sp, c.tk, c.gm, c.gw)
def zs_jars (c : zS) : Prop := True
def zt_jars (c : zS) : Nat := 0
theorem zc_C_jars (l : Launch) (G : zG) (a : Nat → Nat) (c : zS) (hs : zs_jars c) (ht : zt_jars c = 0) : zC l G yX3_jars wsX3_jars rm_X3_jars 0 0 [.ref (a 0)] (zCW3 G a c) (some (.int (zk_jars c))) (fun _ : Unit => zCW3 G a (zS_jars c)) := by
  have h := c_X3_jars l G (a 0) (a 1) (a 2) (a 3) (a 4) (a 5) (a 6) (a 7) (a 8) (a 9) (a 10) (a 11) (a 12) (a 13) (a 14) (a 15) (a 16) c.vr c.ar c.vs c.asF c.ds c.fa c.od c.rd c.vi c.ai c.hd c.sn c.jc c.lf c.ad c.pd c.sp c.tk c.gm c.gw
  dsimp only [zS.vr, zS.ar, zS.vs, zS.asF, zS.ds, zS.fa, zS.od, zS.rd, zS.vi, zS.ai, zS.hd, zS.sn, zS.jc, zS.lf, zS.ad, zS.pd, zS.sp, zS.tk, zS.gm, zS.gw] at h
  dsimp only [zCW3, zS_jars, zk_jars, zS.vr, zS.ar, zS.vs, zS.asF, zS.ds, zS.fa, zS.od, zS.rd, zS.vi, zS.ai, zS.hd, zS.sn, zS.jc, zS.lf, zS.ad, zS.pd, zS.sp, zS.tk, zS.gm, zS.gw]
  exact h
def zk_volumeOf (c : zS) (p1 : Int32) : Int32 := (f_X3_volumeOf c.vr p1)
def zS_volumeOf (c : zS) (p1 : Int32) : zS := (c.vr, c.ar, c.vs, c.asF, c.ds, c.fa, c.od, c.rd, c.vi, c.ai, c.hd, c.sn, c.jc, c.lf, c.ad, c.pd, c.sp, c.tk, c.gm, c.gw)
def zs_volumeOf (c : zS) (p1 : Int32) : Prop := True
def zt_volumeOf (c : zS) (p1 : Int32) : Nat := t_X3_volumeOf c.vr p1
theorem zc_C_volumeOf (l : Launch) (G : zG) (a : Nat → Nat) (c : zS) (p1 : Int32) (hs : zs_volumeOf c p1) (ht : zt_volumeOf c p1 = 0) : zC l G yX3_volumeOf wsX3_volumeOf rm_X3_volumeOf 0 0 [.ref (a 0), .int p1] (zCW3 G a c) (some (.int (zk_volumeOf c p1))) (fun _ : Unit => zCW3 G a (zS_volumeOf c p1)) := by
  have h := c_X3_volumeOf l G (a 0) (a 1) (a 2) (a 3) (a 4) (a 5) (a 6) (a 7) (a 8) (a 9) (a 10) (a 11) (a 12) (a 13) (a 14) (a 15) (a 16) c.vr c.ar c.vs c.asF c.ds c.fa c.od c.rd c.vi c.ai c.hd c.sn c.jc c.lf c.ad c.pd c.sp c.tk c.gm c.gw p1 ht
  dsimp only [zS.vr, zS.ar, zS.vs, zS.asF, zS.ds, zS.fa, zS.od, zS.rd, zS.vi, zS.ai, zS.hd, zS.sn, zS.jc, zS.lf, zS.ad, zS.pd, zS.sp, zS.tk, zS.gm, zS.gw] at h
  dsimp only [zCW3, zS_volumeOf, zk_volumeOf, zS.vr, zS.ar, zS.vs, zS.asF, zS.ds, zS.fa, zS.od, zS.rd, zS.vi, zS.ai, zS.hd, zS.sn, zS.jc, zS.lf, zS.ad, zS.pd, zS.sp, zS.tk, zS.gm, zS.gw]
  exact h
def zk_amountOf (c : zS) (p1 : Int32) : Int32 := (f_X3_amountOf c.vr c.ar p1)
def zS_amountOf (c : zS) (p1 : Int32) : zS := (c.vr, c.ar, c.vs, c.asF, c.ds, c.fa, c.od, c.rd, c.vi, c.ai, c.hd, c.sn, c.jc, c.lf, c.ad, c.pd, c.sp, c.tk, c.gm, c.gw)
def zs_amountOf (c : zS) (p1 : Int32) : Prop := True
def zt_amountOf (c : zS) (p1 : Int32) : Nat := t_X3_amountOf c.vr p1
theorem zc_C_amountOf (l : Launch) (G : zG) (a : Nat → Nat) (c : zS) (p1 : Int32) (hs : zs_amountOf c p1) (ht : zt_amountOf c p1 = 0) : zC l G yX3_amountOf wsX3_amountOf rm_X3_amountOf 0 0 [.ref (a 0), .int p1] (zCW3 G a c) (some (.int (zk_amountOf c p1))) (fun _ : Unit => zCW3 G a (zS_amountOf c p1)) := by
  have h := c_X3_amountOf l G (a 0) (a 1) (a 2) (a 3) (a 4) (a 5) (a 6) (a 7) (a 8) (a 9) (a 10) (a 11) (a 12) (a 13) (a 14) (a 15) (a 16) c.vr c.ar c.vs c.asF c.ds c.fa c.od c.rd c.vi c.ai c.hd c.sn c.jc c.lf c.ad c.pd c.sp c.tk c.gm c.gw p1 ht
  dsimp only [zS.vr, zS.ar, zS.vs, zS.asF, zS.ds, zS.fa, zS.od, zS.rd, zS.vi, zS.ai, zS.hd, zS.sn, zS.jc, zS.lf, zS.ad, zS.pd, zS.sp, zS.tk, zS.gm, zS.gw] at h
  dsimp only [zCW3, zS_amountOf, zk_amountOf, zS.vr, zS.ar, zS.vs, zS.asF, zS.ds, zS.fa, zS.od, zS.rd, zS.vi, zS.ai, zS.hd, zS.sn, zS.jc, zS.lf, zS.ad, zS.pd, zS.sp, zS.tk, zS.gm, zS.gw]
  exact h
def zk_isEmpty (c : zS) (p1 : Int32) : Int32 := (f_X3_isEmpty c.vr c.ar p1)
def zS_isEmpty (c : zS) (p1 : Int32) : zS := (c.vr, c.ar, c.vs, c.asF, c.ds, c.fa, c.od, c.rd, c.vi, c.ai, c.hd, c.sn, c.jc, c.lf, c.ad, c.pd, c.sp, c.tk, c.gm, c.gw)
def zs_isEmpty (c : zS) (p1 : Int32) : Prop := True
def zt_isEmpty (c : zS) (p1 : Int32) : Nat := t_X3_isEmpty c.vr p1
theorem zc_C_isEmpty (l : Launch) (G : zG) (a : Nat → Nat) (c : zS) (p1 : Int32) (hs : zs_isEmpty c p1) (ht : zt_isEmpty c p1 = 0) : zC l G yX3_isEmpty wsX3_isEmpty rm_X3_isEmpty 0 0 [.ref (a 0), .int p1] (zCW3 G a c) (some (.int (zk_isEmpty c p1))) (fun _ : Unit => zCW3 G a (zS_isEmpty c p1)) := by
  have h := c_X3_isEmpty l G (a 0) (a 1) (a 2) (a 3) (a 4) (a 5) (a 6) (a 7) (a 8) (a 9) (a 10) (a 11) (a 12) (a 13) (a 14) (a 15) (a 16) c.vr c.ar c.vs c.asF c.ds c.fa c.od c.rd c.vi c.ai c.hd c.sn c.jc c.lf c.ad c.pd c.sp c.tk c.gm c.gw p1 ht
  dsimp only [zS.vr, zS.ar, zS.vs, zS.asF, zS.ds, zS.fa, zS.od, zS.rd, zS.vi, zS.ai, zS.hd, zS.sn, zS.jc, zS.lf, zS.ad, zS.pd, zS.sp, zS.tk, zS.gm, zS.gw] at h
  dsimp only [zCW3, zS_isEmpty, zk_isEmpty, zS.vr, zS.ar, zS.vs, zS.asF, zS.ds, zS.fa, zS.od, zS.rd, zS.vi, zS.ai, zS.hd, zS.sn, zS.jc, zS.lf, zS.ad, zS.pd, zS.sp, zS.tk, zS.gm, zS.gw]
  exact h
def zk_isFull (c : zS) (p1 : Int32) : Int32 := (f_X3_isFull c.vr c.ar p1)
def zS_isFull (c : zS) (p1 : Int32) : zS := (c.vr, c.ar, c.vs, c.asF, c.ds, c.fa, c.od, c.rd, c.vi, c.ai, c.hd, c.sn, c.jc, c.lf, c.ad, c.pd, c.sp, c.tk, c.gm, c.gw)
def zs_isFull (c : zS) (p1 : Int32) : Prop := True
def zt_isFull (c : zS) (p1 : Int32) : Nat := t_X3_isFull c.vr p1
theorem zc_C_isFull (l : Launch) (G : zG) (a : Nat → Nat) (c : zS) (p1 : Int32) (hs : zs_isFull c p1) (ht : zt_isFull c p1 = 0) : zC l G yX3_isFull wsX3_isFull rm_X3_isFull 0 0 [.ref (a 0), .int p1] (zCW3 G a c) (some (.int (zk_isFull c p1))) (fun _ : Unit => zCW3 G a (zS_isFull c p1)) := by
  have h := c_X3_isFull l G (a 0) (a 1) (a 2) (a 3) (a 4) (a 5) (a 6) (a 7) (a 8) (a 9) (a 10) (a 11) (a 12) (a 13) (a 14) (a 15) (a 16) c.vr c.ar c.vs c.asF c.ds c.fa c.od c.rd c.vi c.ai c.hd c.sn c.jc c.lf c.ad c.pd c.sp c.tk c.gm c.gw p1 ht
  dsimp only [zS.vr, zS.ar, zS.vs, zS.asF, zS.ds, zS.fa, zS.od, zS.rd, zS.vi, zS.ai, zS.hd, zS.sn, zS.jc, zS.lf, zS.ad, zS.pd, zS.sp, zS.tk, zS.gm, zS.gw] at h
  dsimp only [zCW3, zS_isFull, zk_isFull, zS.vr, zS.ar, zS.vs, zS.asF, zS.ds, zS.fa, zS.od, zS.rd, zS.vi, zS.ai, zS.hd, zS.sn, zS.jc, zS.lf, zS.ad, zS.pd, zS.sp, zS.tk, zS.gm, zS.gw]
  exact h
def zk_heldInAll (c : zS) : Int32 := (f_X3_heldInAll c.ar)
def zS_heldInAll (c : zS) : zS := (c.vr, c.ar, c.vs, c.asF, c.ds, c.fa, c.od, c.rd, c.vi, c.ai, c.hd, c.sn, c.jc, c.lf, c.ad, c.pd, c.sp, c.tk, c.gm, c.gw)
def zs_heldInAll (c : zS) : Prop := True
def zt_heldInAll (c : zS) : Nat := 0
theorem zc_C_heldInAll (l : Launch) (G : zG) (a : Nat → Nat) (c : zS) (hs : zs_heldInAll c) (ht : zt_heldInAll c = 0) : zC l G yX3_heldInAll wsX3_heldInAll rm_X3_heldInAll 0 0 [.ref (a 0)] (zCW3 G a c) (some (.int (zk_heldInAll c))) (fun _ : Unit => zCW3 G a (zS_heldInAll c)) := by
  have h := c_X3_heldInAll l G (a 0) (a 1) (a 2) (a 3) (a 4) (a 5) (a 6) (a 7) (a 8) (a 9) (a 10) (a 11) (a 12) (a 13) (a 14) (a 15) (a 16) c.vr c.ar c.vs c.asF c.ds c.fa c.od c.rd c.vi c.ai c.hd c.sn c.jc c.lf c.ad c.pd c.sp c.tk c.gm c.gw
  dsimp only [zS.vr, zS.ar, zS.vs, zS.asF, zS.ds, zS.fa, zS.od, zS.rd, zS.vi, zS.ai, zS.hd, zS.sn, zS.jc, zS.lf, zS.ad, zS.pd, zS.sp, zS.tk, zS.gm, zS.gw] at h
  dsimp only [zCW3, zS_heldInAll, zk_heldInAll, zS.vr, zS.ar, zS.vs, zS.asF, zS.ds, zS.fa, zS.od, zS.rd, zS.vi, zS.ai, zS.hd, zS.sn, zS.jc, zS.lf, zS.ad, zS.pd, zS.sp, zS.tk, zS.gm, zS.gw]
  exact h
def zk_acts (c : zS) : Int32 := (f_X3_acts c.ad)
def zS_acts (c : zS) : zS := (c.vr, c.ar, c.vs, c.asF, c.ds, c.fa, c.od, c.rd, c.vi, c.ai, c.hd, c.sn, c.jc, c.lf, c.ad, c.pd, c.sp, c.tk, c.gm, c.gw)
def zs_acts (c : zS) : Prop := True
def zt_acts (c : zS) : Nat := 0
theorem zc_C_acts (l : Launch) (G : zG) (a : Nat → Nat) (c : zS) (hs : zs_acts c) (ht : zt_acts c = 0) : zC l G yX3_acts wsX3_acts rm_X3_acts 0 0 [.ref (a 0)] (zCW3 G a c) (some (.int (zk_acts c))) (fun _ : Unit => zCW3 G a (zS_acts c)) := by
  have h := c_X3_acts l G (a 0) (a 1) (a 2) (a 3) (a 4) (a 5) (a 6) (a 7) (a 8) (a 9) (a 10) (a 11) (a 12) (a 13) (a 14) (a 15) (a 16) c.vr c.ar c.vs c.asF c.ds c.fa c.od c.rd c.vi c.ai c.hd c.sn c.jc c.lf c.ad c.pd c.sp c.tk c.gm c.gw
  dsimp only [zS.vr, zS.ar, zS.vs, zS.asF, zS.ds, zS.fa, zS.od, zS.rd, zS.vi, zS.ai, zS.hd, zS.sn, zS.jc, zS.lf, zS.ad, zS.pd, zS.sp, zS.tk, zS.gm, zS.gw] at h
  dsimp only [zCW3, zS_acts, zk_acts, zS.vr, zS.ar, zS.vs, zS.asF, zS.ds, zS.fa, zS.od, zS.rd, zS.vi, zS.ai, zS.hd, zS.sn, zS.jc, zS.lf, zS.ad, zS.pd, zS.sp, zS.tk, zS.gm, zS.gw]
  exact h
def zk_pouredInAll (c : zS) : Int32 := (f_X3_pouredInAll c.pd)
def zS_pouredInAll (c : zS) : zS := (c.vr, c.ar, c.vs, c.asF, c.ds, c.fa, c.od, c.rd, c.vi, c.ai, c.hd, c.sn, c.jc, c.lf, c.ad, c.pd, c.sp, c.tk, c.gm, c.gw)
def zs_pouredInAll (c : zS) : Prop := True
def zt_pouredInAll (c : zS) : Nat := 0
theorem zc_C_pouredInAll (l : Launch) (G : zG) (a : Nat → Nat) (c : zS) (hs : zs_pouredInAll c) (ht : zt_pouredInAll c = 0) : zC l G yX3_pouredInAll wsX3_pouredInAll rm_X3_pouredInAll 0 0 [.ref (a 0)] (zCW3 G a c) (some (.int (zk_pouredInAll c))) (fun _ : Unit => zCW3 G a (zS_pouredInAll c)) := by
  have h := c_X3_pouredInAll l G (a 0) (a 1) (a 2) (a 3) (a 4) (a 5) (a 6) (a 7) (a 8) (a 9) (a 10) (a 11) (a 12) (a 13) (a 14) (a 15) (a 16) c.vr c.ar c.vs c.asF c.ds c.fa c.od c.rd c.vi c.ai c.hd c.sn c.jc c.lf c.ad c.pd c.sp c.tk c.gm c.gw
  dsimp only [zS.vr, zS.ar, zS.vs, zS.asF, zS.ds, zS.fa, zS.od, zS.rd, zS.vi, zS.ai, zS.hd, zS.sn, zS.jc, zS.lf, zS.ad, zS.pd, zS.sp, zS.tk, zS.gm, zS.gw] at h
  dsimp only [zCW3, zS_pouredInAll, zk_pouredInAll, zS.vr, zS.ar, zS.vs, zS.asF, zS.ds, zS.fa, zS.od, zS.rd, zS.vi, zS.ai, zS.hd, zS.sn, zS.jc, zS.lf, zS.ad, zS.pd, zS.sp, zS.tk, zS.gm, zS.gw]
  exact h
def zk_spilledInAll (c : zS) : Int32 := (f_X3_spilledInAll c.sp)
def zS_spilledInAll (c : zS) : zS := (c.vr, c.ar, c.vs, c.asF, c.ds, c.fa, c.od, c.rd, c.vi, c.ai, c.hd, c.sn, c.jc, c.lf, c.ad, c.pd, c.sp, c.tk, c.gm, c.gw)
def zs_spilledInAll (c : zS) : Prop := True
def zt_spilledInAll (c : zS) : Nat := 0
theorem zc_C_spilledInAll (l : Launch) (G : zG) (a : Nat → Nat) (c : zS) (hs : zs_spilledInAll c) (ht : zt_spilledInAll c = 0) : zC l G yX3_spilledInAll wsX3_spilledInAll rm_X3_spilledInAll 0 0 [.ref (a 0)] (zCW3 G a c) (some (.int (zk_spilledInAll c))) (fun _ : Unit => zCW3 G a (zS_spilledInAll c)) := by
  have h := c_X3_spilledInAll l G (a 0) (a 1) (a 2) (a 3) (a 4) (a 5) (a 6) (a 7) (a 8) (a 9) (a 10) (a 11) (a 12) (a 13) (a 14) (a 15) (a 16) c.vr c.ar c.vs c.asF c.ds c.fa c.od c.rd c.vi c.ai c.hd c.sn c.jc c.lf c.ad c.pd c.sp c.tk c.gm c.gw
  dsimp only [zS.vr, zS.ar, zS.vs, zS.asF, zS.ds, zS.fa, zS.od, zS.rd, zS.vi, zS.ai, zS.hd, zS.sn, zS.jc, zS.lf, zS.ad, zS.pd, zS.sp, zS.tk, zS.gm, zS.gw] at h
  dsimp only [zCW3, zS_spilledInAll, zk_spilledInAll, zS.vr, zS.ar, zS.vs, zS.asF, zS.ds, zS.fa, zS.od, zS.rd, zS.vi, zS.ai, zS.hd, zS.sn, zS.jc, zS.lf, zS.ad, zS.pd, zS.sp, zS.tk, zS.gm, zS.gw]
  exact h
def zk_takenInAll (c : zS) : Int32 := (f_X3_takenInAll c.tk)
def zS_takenInAll (c : zS) : zS := (c.vr, c.ar, c.vs, c.asF, c.ds, c.fa, c.od, c.rd, c.vi, c.ai, c.hd, c.sn, c.jc, c.lf, c.ad, c.pd, c.sp, c.tk, c.gm, c.gw)
def zs_takenInAll (c : zS) : Prop := True
def zt_takenInAll (c : zS) : Nat := 0
theorem zc_C_takenInAll (l : Launch) (G : zG) (a : Nat → Nat) (c : zS) (hs : zs_takenInAll c) (ht : zt_takenInAll c = 0) : zC l G yX3_takenInAll wsX3_takenInAll rm_X3_takenInAll 0 0 [.ref (a 0)] (zCW3 G a c) (some (.int (zk_takenInAll c))) (fun _ : Unit => zCW3 G a (zS_takenInAll c)) := by
  have h := c_X3_takenInAll l G (a 0) (a 1) (a 2) (a 3) (a 4) (a 5) (a 6) (a 7) (a 8) (a 9) (a 10) (a 11) (a 12) (a 13) (a 14) (a 15) (a 16) c.vr c.ar c.vs c.asF c.ds c.fa c.od c.rd c.vi c.ai c.hd c.sn c.jc c.lf c.ad c.pd c.sp c.tk c.gm c.gw
  dsimp only [zS.vr, zS.ar, zS.vs, zS.asF, zS.ds, zS.fa, zS.od, zS.rd, zS.vi, zS.ai, zS.hd, zS.sn, zS.jc, zS.lf, zS.ad, zS.pd, zS.sp, zS.tk, zS.gm, zS.gw] at h
  dsimp only [zCW3, zS_takenInAll, zk_takenInAll, zS.vr, zS.ar, zS.vs, zS.asF, zS.ds, zS.fa, zS.od, zS.rd, zS.vi, zS.ai, zS.hd, zS.sn, zS.jc, zS.lf, zS.ad, zS.pd, zS.sp, zS.tk, zS.gm, zS.gw]
  exact h
def zk_isThere (c : zS) (p1 : Int32) : Int32 := (f_X3_isThere c.vr c.ar p1)
def zS_isThere (c : zS) (p1 : Int32) : zS := (c.vr, c.ar, c.vs, c.asF, c.ds, c.fa, c.od, c.rd, c.vi, c.ai, c.hd, c.sn, c.jc, c.lf, c.ad, c.pd, c.sp, c.tk, c.gm, c.gw)
def zs_isThere (c : zS) (p1 : Int32) : Prop := True
def zt_isThere (c : zS) (p1 : Int32) : Nat := t_X3_isThere p1
theorem zc_C_isThere (l : Launch) (G : zG) (a : Nat → Nat) (c : zS) (p1 : Int32) (hs : zs_isThere c p1) (ht : zt_isThere c p1 = 0) : zC l G yX3_isThere wsX3_isThere rm_X3_isThere 0 0 [.ref (a 0), .int p1] (zCW3 G a c) (some (.int (zk_isThere c p1))) (fun _ : Unit => zCW3 G a (zS_isThere c p1)) := by
  have h := c_X3_isThere l G (a 0) (a 1) (a 2) (a 3) (a 4) (a 5) (a 6) (a 7) (a 8) (a 9) (a 10) (a 11) (a 12) (a 13) (a 14) (a 15) (a 16) c.vr c.ar c.vs c.asF c.ds c.fa c.od c.rd c.vi c.ai c.hd c.sn c.jc c.lf c.ad c.pd c.sp c.tk c.gm c.gw p1 ht
  dsimp only [zS.vr, zS.ar, zS.vs, zS.asF, zS.ds, zS.fa, zS.od, zS.rd, zS.vi, zS.ai, zS.hd, zS.sn, zS.jc, zS.lf, zS.ad, zS.pd, zS.sp, zS.tk, zS.gm, zS.gw] at h
  dsimp only [zCW3, zS_isThere, zk_isThere, zS.vr, zS.ar, zS.vs, zS.asF, zS.ds, zS.fa, zS.od, zS.rd, zS.vi, zS.ai, zS.hd, zS.sn, zS.jc, zS.lf, zS.ad, zS.pd, zS.sp, zS.tk, zS.gm, zS.gw]
  exact h
def zk_leastActs (c : zS) (p1 : Int32) : Int32 := (f_X3_leastActs c.vr c.ar c.vs c.asF c.ds c.fa c.od c.rd p1).1
def zS_leastActs (c : zS) (p1 : Int32) : zS := (c.vr, c.ar, (f_X3_leastActs c.vr c.ar c.vs c.asF c.ds c.fa c.od c.rd p1).2.1, (f_X3_leastActs c.vr c.ar c.vs c.asF c.ds c.fa c.od c.rd p1).2.2.1, (f_X3_leastActs c.vr c.ar c.vs c.asF c.ds c.fa c.od c.rd p1).2.2.2.1, (f_X3_leastActs c.vr c.ar c.vs c.asF c.ds c.fa c.od c.rd p1).2.2.2.2.1, (f_X3_leastActs c.vr c.ar c.vs c.asF c.ds c.fa c.od c.rd p1).2.2.2.2.2.1, (f_X3_leastActs c.vr c.ar c.vs c.asF c.ds c.fa c.od c.rd p1).2.2.2.2.2.2, c.vi, c.ai, c.hd, c.sn, c.jc, c.lf, c.ad, c.pd, c.sp, c.tk, c.gm, c.gw)
def zs_leastActs (c : zS) (p1 : Int32) : Prop := s_X3_leastActs c.vr c.ar c.vs c.asF c.ds c.fa c.od c.rd p1
def zt_leastActs (c : zS) (p1 : Int32) : Nat := t_X3_leastActs p1
theorem zc_C_leastActs (l : Launch) (G : zG) (a : Nat → Nat) (c : zS) (p1 : Int32) (hs : zs_leastActs c p1) (ht : zt_leastActs c p1 = 0) : zC l G yX3_leastActs wsX3_leastActs rm_X3_leastActs 0 0 [.ref (a 0), .int p1] (zCW3 G a c) (some (.int (zk_leastActs c p1))) (fun _ : Unit => zCW3 G a (zS_leastActs c p1)) := by
  have h := c_X3_leastActs l G (a 0) (a 1) (a 2) (a 3) (a 4) (a 5) (a 6) (a 7) (a 8) (a 9) (a 10) (a 11) (a 12) (a 13) (a 14) (a 15) (a 16) c.vr c.ar c.vs c.asF c.ds c.fa c.od c.rd c.vi c.ai c.hd c.sn c.jc c.lf c.ad c.pd c.sp c.tk c.gm c.gw p1 hs ht
  dsimp only [zS.vr, zS.ar, zS.vs, zS.asF, zS.ds, zS.fa, zS.od, zS.rd, zS.vi, zS.ai, zS.hd, zS.sn, zS.jc, zS.lf, zS.ad, zS.pd, zS.sp, zS.tk, zS.gm, zS.gw] at h
  dsimp only [zCW3, zS_leastActs, zk_leastActs, zS.vr, zS.ar, zS.vs, zS.asF, zS.ds, zS.fa, zS.od, zS.rd, zS.vi, zS.ai, zS.hd, zS.sn, zS.jc, zS.lf, zS.ad, zS.pd, zS.sp, zS.tk, zS.gm, zS.gw]
  exact h
def zk_leastActsIn (c : zS) (p1 : Int32) (p2 : Int32) : Int32 := (f_X3_leastActsIn c.vr c.ar c.vs c.asF c.ds c.fa c.od c.rd p1 p2).1
def zS_leastActsIn (c : zS) (p1 : Int32) (p2 : Int32) : zS := (c.vr, c.ar, (f_X3_leastActsIn c.vr c.ar c.vs c.asF c.ds c.fa c.od c.rd p1 p2).2.1, (f_X3_leastActsIn c.vr c.ar c.vs c.asF c.ds c.fa c.od c.rd p1 p2).2.2.1, (f_X3_leastActsIn c.vr c.ar c.vs c.asF c.ds c.fa c.od c.rd p1 p2).2.2.2.1, (f_X3_leastActsIn c.vr c.ar c.vs c.asF c.ds c.fa c.od c.rd p1 p2).2.2.2.2.1, (f_X3_leastActsIn c.vr c.ar c.vs c.asF c.ds c.fa c.od c.rd p1 p2).2.2.2.2.2.1, (f_X3_leastActsIn c.vr c.ar c.vs c.asF c.ds c.fa c.od c.rd p1 p2).2.2.2.2.2.2, c.vi, c.ai, c.hd, c.sn, c.jc, c.lf, c.ad, c.pd, c.sp, c.tk, c.gm, c.gw)
def zs_leastActsIn (c : zS) (p1 : Int32) (p2 : Int32) : Prop := s_X3_leastActsIn c.vr c.ar c.vs c.asF c.ds c.fa c.od c.rd p1 p2
def zt_leastActsIn (c : zS) (p1 : Int32) (p2 : Int32) : Nat := t_X3_leastActsIn c.vr p1 p2
theorem zc_C_leastActsIn (l : Launch) (G : zG) (a : Nat → Nat) (c : zS) (p1 : Int32) (p2 : Int32) (hs : zs_leastActsIn c p1 p2) (ht : zt_leastActsIn c p1 p2 = 0) : zC l G yX3_leastActsIn wsX3_leastActsIn rm_X3_leastActsIn 0 0 [.ref (a 0), .int p1, .int p2] (zCW3 G a c) (some (.int (zk_leastActsIn c p1 p2))) (fun _ : Unit => zCW3 G a (zS_leastActsIn c p1 p2)) := by
  have h := c_X3_leastActsIn l G (a 0) (a 1) (a 2) (a 3) (a 4) (a 5) (a 6) (a 7) (a 8) (a 9) (a 10) (a 11) (a 12) (a 13) (a 14) (a 15) (a 16) c.vr c.ar c.vs c.asF c.ds c.fa c.od c.rd c.vi c.ai c.hd c.sn c.jc c.lf c.ad c.pd c.sp c.tk c.gm c.gw p1 p2 hs ht
  dsimp only [zS.vr, zS.ar, zS.vs, zS.asF, zS.ds, zS.fa, zS.od, zS.rd, zS.vi, zS.ai, zS.hd, zS.sn, zS.jc, zS.lf, zS.ad, zS.pd, zS.sp, zS.tk, zS.gm, zS.gw] at h
  dsimp only [zCW3, zS_leastActsIn, zk_leastActsIn, zS.vr, zS.ar, zS.vs, zS.asF, zS.ds, zS.fa, zS.od, zS.rd, zS.vi, zS.ai, zS.hd, zS.sn, zS.jc, zS.lf, zS.ad, zS.pd, zS.sp, zS.tk, zS.gm, zS.gw]
  exact h
def zk_nextAct (c : zS) (p1 : Int32) : Int32 := (f_X3_nextAct c.vr c.ar c.vs c.asF c.ds c.fa c.od c.rd p1).1
def zS_nextAct (c : zS) (p1 : Int32) : zS := (c.vr, c.ar, (f_X3_nextAct c.vr c.ar c.vs c.asF c.ds c.fa c.od c.rd p1).2.1, (f_X3_nextAct c.vr c.ar c.vs c.asF c.ds c.fa c.od c.rd p1).2.2.1, (f_X3_nextAct c.vr c.ar c.vs c.asF c.ds c.fa c.od c.rd p1).2.2.2.1, (f_X3_nextAct c.vr c.ar c.vs c.asF c.ds c.fa c.od c.rd p1).2.2.2.2.1, (f_X3_nextAct c.vr c.ar c.vs c.asF c.ds c.fa c.od c.rd p1).2.2.2.2.2.1, (f_X3_nextAct c.vr c.ar c.vs c.asF c.ds c.fa c.od c.rd p1).2.2.2.2.2.2, c.vi, c.ai, c.hd, c.sn, c.jc, c.lf, c.ad, c.pd, c.sp, c.tk, c.gm, c.gw)
def zs_nextAct (c : zS) (p1 : Int32) : Prop := s_X3_nextAct c.vr c.ar c.vs c.asF c.ds c.fa c.od c.rd p1
def zt_nextAct (c : zS) (p1 : Int32) : Nat := t_X3_nextAct c.vr c.ar c.vs c.asF c.ds c.fa c.od c.rd p1
theorem zc_C_nextAct (l : Launch) (G : zG) (a : Nat → Nat) (c : zS) (p1 : Int32) (hs : zs_nextAct c p1) (ht : zt_nextAct c p1 = 0) : zC l G yX3_nextAct wsX3_nextAct rm_X3_nextAct 0 0 [.ref (a 0), .int p1] (zCW3 G a c) (some (.int (zk_nextAct c p1))) (fun _ : Unit => zCW3 G a (zS_nextAct c p1)) := by
  have h := c_X3_nextAct l G (a 0) (a 1) (a 2) (a 3) (a 4) (a 5) (a 6) (a 7) (a 8) (a 9) (a 10) (a 11) (a 12) (a 13) (a 14) (a 15) (a 16) c.vr c.ar c.vs c.asF c.ds c.fa c.od c.rd c.vi c.ai c.hd c.sn c.jc c.lf c.ad c.pd c.sp c.tk c.gm c.gw p1 hs ht
  dsimp only [zS.vr, zS.ar, zS.vs, zS.asF, zS.ds, zS.fa, zS.od, zS.rd, zS.vi, zS.ai, zS.hd, zS.sn, zS.jc, zS.lf, zS.ad, zS.pd, zS.sp, zS.tk, zS.gm, zS.gw] at h
  dsimp only [zCW3, zS_nextAct, zk_nextAct, zS.vr, zS.ar, zS.vs, zS.asF, zS.ds, zS.fa, zS.od, zS.rd, zS.vi, zS.ai, zS.hd, zS.sn, zS.jc, zS.lf, zS.ad, zS.pd, zS.sp, zS.tk, zS.gm, zS.gw]
  exact h
def zk_amountsToHave (c : zS) : Int32 := (f_X3_amountsToHave c.vr c.ar c.vs c.asF c.ds c.fa c.od c.rd).1
def zS_amountsToHave (c : zS) : zS := (c.vr, c.ar, (f_X3_amountsToHave c.vr c.ar c.vs c.asF c.ds c.fa c.od c.rd).2.1, (f_X3_amountsToHave c.vr c.ar c.vs c.asF c.ds c.fa c.od c.rd).2.2.1, (f_X3_amountsToHave c.vr c.ar c.vs c.asF c.ds c.fa c.od c.rd).2.2.2.1, (f_X3_amountsToHave c.vr c.ar c.vs c.asF c.ds c.fa c.od c.rd).2.2.2.2.1, (f_X3_amountsToHave c.vr c.ar c.vs c.asF c.ds c.fa c.od c.rd).2.2.2.2.2.1, (f_X3_amountsToHave c.vr c.ar c.vs c.asF c.ds c.fa c.od c.rd).2.2.2.2.2.2, c.vi, c.ai, c.hd, c.sn, c.jc, c.lf, c.ad, c.pd, c.sp, c.tk, c.gm, c.gw)
def zs_amountsToHave (c : zS) : Prop := s_X3_amountsToHave c.vr c.ar c.vs c.asF c.ds c.fa c.od c.rd
def zt_amountsToHave (c : zS) : Nat := 0
theorem zc_C_amountsToHave (l : Launch) (G : zG) (a : Nat → Nat) (c : zS) (hs : zs_amountsToHave c) (ht : zt_amountsToHave c = 0) : zC l G yX3_amountsToHave wsX3_amountsToHave rm_X3_amountsToHave 0 0 [.ref (a 0)] (zCW3 G a c) (some (.int (zk_amountsToHave c))) (fun _ : Unit => zCW3 G a (zS_amountsToHave c)) := by
  have h := c_X3_amountsToHave l G (a 0) (a 1) (a 2) (a 3) (a 4) (a 5) (a 6) (a 7) (a 8) (a 9) (a 10) (a 11) (a 12) (a 13) (a 14) (a 15) (a 16) c.vr c.ar c.vs c.asF c.ds c.fa c.od c.rd c.vi c.ai c.hd c.sn c.jc c.lf c.ad c.pd c.sp c.tk c.gm c.gw hs
  dsimp only [zS.vr, zS.ar, zS.vs, zS.asF, zS.ds, zS.fa, zS.od, zS.rd, zS.vi, zS.ai, zS.hd, zS.sn, zS.jc, zS.lf, zS.ad, zS.pd, zS.sp, zS.tk, zS.gm, zS.gw] at h
  dsimp only [zCW3, zS_amountsToHave, zk_amountsToHave, zS.vr, zS.ar, zS.vs, zS.asF, zS.ds, zS.fa, zS.od, zS.rd, zS.vi, zS.ai, zS.hd, zS.sn, zS.jc, zS.lf, zS.ad, zS.pd, zS.sp, zS.tk, zS.gm, zS.gw]
  exact h
def zk_statesToReach (c : zS) : Int32 := (f_X3_statesToReach c.vr c.ar c.vs c.asF c.ds c.fa c.od c.rd).1
def zS_statesToReach (c : zS) : zS := (c.vr, c.ar, (f_X3_statesToReach c.vr c.ar c.vs c.asF c.ds c.fa c.od c.rd).2.1, (f_X3_statesToReach c.vr c.ar c.vs c.asF c.ds c.fa c.od c.rd).2.2.1, (f_X3_statesToReach c.vr c.ar c.vs c.asF c.ds c.fa c.od c.rd).2.2.2.1, (f_X3_statesToReach c.vr c.ar c.vs c.asF c.ds c.fa c.od c.rd).2.2.2.2.1, (f_X3_statesToReach c.vr c.ar c.vs c.asF c.ds c.fa c.od c.rd).2.2.2.2.2.1, (f_X3_statesToReach c.vr c.ar c.vs c.asF c.ds c.fa c.od c.rd).2.2.2.2.2.2, c.vi, c.ai, c.hd, c.sn, c.jc, c.lf, c.ad, c.pd, c.sp, c.tk, c.gm, c.gw)
def zs_statesToReach (c : zS) : Prop := s_X3_statesToReach c.vr c.ar c.vs c.asF c.ds c.fa c.od c.rd
def zt_statesToReach (c : zS) : Nat := 0
theorem zc_C_statesToReach (l : Launch) (G : zG) (a : Nat → Nat) (c : zS) (hs : zs_statesToReach c) (ht : zt_statesToReach c = 0) : zC l G yX3_statesToReach wsX3_statesToReach rm_X3_statesToReach 0 0 [.ref (a 0)] (zCW3 G a c) (some (.int (zk_statesToReach c))) (fun _ : Unit => zCW3 G a (zS_statesToReach c)) := by
  have h := c_X3_statesToReach l G (a 0) (a 1) (a 2) (a 3) (a 4) (a 5) (a 6) (a 7) (a 8) (a 9) (a 10) (a 11) (a 12) (a 13) (a 14) (a 15) (a 16) c.vr c.ar c.vs c.asF c.ds c.fa c.od c.rd c.vi c.ai c.hd c.sn c.jc c.lf c.ad c.pd c.sp c.tk c.gm c.gw hs
  dsimp only [zS.vr, zS.ar, zS.vs, zS.asF, zS.ds, zS.fa, zS.od, zS.rd, zS.vi, zS.ai, zS.hd, zS.sn, zS.jc, zS.lf, zS.ad, zS.pd, zS.sp, zS.tk, zS.gm, zS.gw] at h
  dsimp only [zCW3, zS_statesToReach, zk_statesToReach, zS.vr, zS.ar, zS.vs, zS.asF, zS.ds, zS.fa, zS.od, zS.rd, zS.vi, zS.ai, zS.hd, zS.sn, zS.jc, zS.lf, zS.ad, zS.pd, zS.sp, zS.tk, zS.gm, zS.gw]
  exact h
def zk_statesAway (c : zS) (p1 : Int32) : Int32 := (f_X3_statesAway c.vr c.ar c.vs c.asF c.ds c.fa c.od c.rd p1).1
def zS_statesAway (c : zS) (p1 : Int32) : zS := (c.vr, c.ar, (f_X3_statesAway c.vr c.ar c.vs c.asF c.ds c.fa c.od c.rd p1).2.1, (f_X3_statesAway c.vr c.ar c.vs c.asF c.ds c.fa c.od c.rd p1).2.2.1, (f_X3_statesAway c.vr c.ar c.vs c.asF c.ds c.fa c.od c.rd p1).2.2.2.1, (f_X3_statesAway c.vr c.ar c.vs c.asF c.ds c.fa c.od c.rd p1).2.2.2.2.1, (f_X3_statesAway c.vr c.ar c.vs c.asF c.ds c.fa c.od c.rd p1).2.2.2.2.2.1, (f_X3_statesAway c.vr c.ar c.vs c.asF c.ds c.fa c.od c.rd p1).2.2.2.2.2.2, c.vi, c.ai, c.hd, c.sn, c.jc, c.lf, c.ad, c.pd, c.sp, c.tk, c.gm, c.gw)
def zs_statesAway (c : zS) (p1 : Int32) : Prop := s_X3_statesAway c.vr c.ar c.vs c.asF c.ds c.fa c.od c.rd p1
def zt_statesAway (c : zS) (p1 : Int32) : Nat := t_X3_statesAway p1
theorem zc_C_statesAway (l : Launch) (G : zG) (a : Nat → Nat) (c : zS) (p1 : Int32) (hs : zs_statesAway c p1) (ht : zt_statesAway c p1 = 0) : zC l G yX3_statesAway wsX3_statesAway rm_X3_statesAway 0 0 [.ref (a 0), .int p1] (zCW3 G a c) (some (.int (zk_statesAway c p1))) (fun _ : Unit => zCW3 G a (zS_statesAway c p1)) := by
  have h := c_X3_statesAway l G (a 0) (a 1) (a 2) (a 3) (a 4) (a 5) (a 6) (a 7) (a 8) (a 9) (a 10) (a 11) (a 12) (a 13) (a 14) (a 15) (a 16) c.vr c.ar c.vs c.asF c.ds c.fa c.od c.rd c.vi c.ai c.hd c.sn c.jc c.lf c.ad c.pd c.sp c.tk c.gm c.gw p1 hs ht
  dsimp only [zS.vr, zS.ar, zS.vs, zS.asF, zS.ds, zS.fa, zS.od, zS.rd, zS.vi, zS.ai, zS.hd, zS.sn, zS.jc, zS.lf, zS.ad, zS.pd, zS.sp, zS.tk, zS.gm, zS.gw] at h
  dsimp only [zCW3, zS_statesAway, zk_statesAway, zS.vr, zS.ar, zS.vs, zS.asF, zS.ds, zS.fa, zS.od, zS.rd, zS.vi, zS.ai, zS.hd, zS.sn, zS.jc, zS.lf, zS.ad, zS.pd, zS.sp, zS.tk, zS.gm, zS.gw]
  exact h
def zk_farthest (c : zS) : Int32 := (f_X3_farthest c.vr c.ar c.vs c.asF c.ds c.fa c.od c.rd).1
def zS_farthest (c : zS) : zS := (c.vr, c.ar, (f_X3_farthest c.vr c.ar c.vs c.asF c.ds c.fa c.od c.rd).2.1, (f_X3_farthest c.vr c.ar c.vs c.asF c.ds c.fa c.od c.rd).2.2.1, (f_X3_farthest c.vr c.ar c.vs c.asF c.ds c.fa c.od c.rd).2.2.2.1, (f_X3_farthest c.vr c.ar c.vs c.asF c.ds c.fa c.od c.rd).2.2.2.2.1, (f_X3_farthest c.vr c.ar c.vs c.asF c.ds c.fa c.od c.rd).2.2.2.2.2.1, (f_X3_farthest c.vr c.ar c.vs c.asF c.ds c.fa c.od c.rd).2.2.2.2.2.2, c.vi, c.ai, c.hd, c.sn, c.jc, c.lf, c.ad, c.pd, c.sp, c.tk, c.gm, c.gw)
def zs_farthest (c : zS) : Prop := s_X3_farthest c.vr c.ar c.vs c.asF c.ds c.fa c.od c.rd
def zt_farthest (c : zS) : Nat := 0
theorem zc_C_farthest (l : Launch) (G : zG) (a : Nat → Nat) (c : zS) (hs : zs_farthest c) (ht : zt_farthest c = 0) : zC l G yX3_farthest wsX3_farthest rm_X3_farthest 0 0 [.ref (a 0)] (zCW3 G a c) (some (.int (zk_farthest c))) (fun _ : Unit => zCW3 G a (zS_farthest c)) := by
  have h := c_X3_farthest l G (a 0) (a 1) (a 2) (a 3) (a 4) (a 5) (a 6) (a 7) (a 8) (a 9) (a 10) (a 11) (a 12) (a 13) (a 14) (a 15) (a 16) c.vr c.ar c.vs c.asF c.ds c.fa c.od c.rd c.vi c.ai c.hd c.sn c.jc c.lf c.ad c.pd c.sp c.tk c.gm c.gw hs
  dsimp only [zS.vr, zS.ar, zS.vs, zS.asF, zS.ds, zS.fa, zS.od, zS.rd, zS.vi, zS.ai, zS.hd, zS.sn, zS.jc, zS.lf, zS.ad, zS.pd, zS.sp, zS.tk, zS.gm, zS.gw] at h
  dsimp only [zCW3, zS_farthest, zk_farthest, zS.vr, zS.ar, zS.vs, zS.asF, zS.ds, zS.fa, zS.od, zS.rd, zS.vi, zS.ai, zS.hd, zS.sn, zS.jc, zS.lf, zS.ad, zS.pd, zS.sp, zS.tk, zS.gm, zS.gw]
  exact h
def zk_candidates (c : zS) : Int32 := (f_X3_candidates c.lf)
def zS_candidates (c : zS) : zS := (c.vr, c.ar, c.vs, c.asF, c.ds, c.fa, c.od, c.rd, c.vi, c.ai, c.hd, c.sn, c.jc, c.lf, c.ad, c.pd, c.sp, c.tk, c.gm, c.gw)
def zs_candidates (c : zS) : Prop := True
def zt_candidates (c : zS) : Nat := 0
theorem zc_C_candidates (l : Launch) (G : zG) (a : Nat → Nat) (c : zS) (hs : zs_candidates c) (ht : zt_candidates c = 0) : zC l G yX3_candidates wsX3_candidates rm_X3_candidates 0 0 [.ref (a 0)] (zCW3 G a c) (some (.int (zk_candidates c))) (fun _ : Unit => zCW3 G a (zS_candidates c)) := by
  have h := c_X3_candidates l G (a 0) (a 1) (a 2) (a 3) (a 4) (a 5) (a 6) (a 7) (a 8) (a 9) (a 10) (a 11) (a 12) (a 13) (a 14) (a 15) (a 16) c.vr c.ar c.vs c.asF c.ds c.fa c.od c.rd c.vi c.ai c.hd c.sn c.jc c.lf c.ad c.pd c.sp c.tk c.gm c.gw
  dsimp only [zS.vr, zS.ar, zS.vs, zS.asF, zS.ds, zS.fa, zS.od, zS.rd, zS.vi, zS.ai, zS.hd, zS.sn, zS.jc, zS.lf, zS.ad, zS.pd, zS.sp, zS.tk, zS.gm, zS.gw] at h
  dsimp only [zCW3, zS_candidates, zk_candidates, zS.vr, zS.ar, zS.vs, zS.asF, zS.ds, zS.fa, zS.od, zS.rd, zS.vi, zS.ai, zS.hd, zS.sn, zS.jc, zS.lf, zS.ad, zS.pd, zS.sp, zS.tk, zS.gm, zS.gw]
  exact h
def zk_mayBe (c : zS) (p1 : Int32) (p2 : Int32) : Int32 := (f_X3_mayBe c.vr c.vi c.ai c.hd c.jc p1 p2).1
def zS_mayBe (c : zS) (p1 : Int32) (p2 : Int32) : zS := (c.vr, c.ar, c.vs, c.asF, c.ds, c.fa, c.od, c.rd, (f_X3_mayBe c.vr c.vi c.ai c.hd c.jc p1 p2).2.1, (f_X3_mayBe c.vr c.vi c.ai c.hd c.jc p1 p2).2.2, c.hd, c.sn, c.jc, c.lf, c.ad, c.pd, c.sp, c.tk, c.gm, c.gw)
def zs_mayBe (c : zS) (p1 : Int32) (p2 : Int32) : Prop := s_X3_mayBe c.vr c.hd c.jc p1 p2
def zt_mayBe (c : zS) (p1 : Int32) (p2 : Int32) : Nat := t_X3_mayBe c.vr p1 p2
theorem zc_C_mayBe (l : Launch) (G : zG) (a : Nat → Nat) (c : zS) (p1 : Int32) (p2 : Int32) (hs : zs_mayBe c p1 p2) (ht : zt_mayBe c p1 p2 = 0) : zC l G yX3_mayBe wsX3_mayBe rm_X3_mayBe 0 0 [.ref (a 0), .int p1, .int p2] (zCW3 G a c) (some (.int (zk_mayBe c p1 p2))) (fun _ : Unit => zCW3 G a (zS_mayBe c p1 p2)) := by
  have h := c_X3_mayBe l G (a 0) (a 1) (a 2) (a 3) (a 4) (a 5) (a 6) (a 7) (a 8) (a 9) (a 10) (a 11) (a 12) (a 13) (a 14) (a 15) (a 16) c.vr c.ar c.vs c.asF c.ds c.fa c.od c.rd c.vi c.ai c.hd c.sn c.jc c.lf c.ad c.pd c.sp c.tk c.gm c.gw p1 p2 hs ht
  dsimp only [zS.vr, zS.ar, zS.vs, zS.asF, zS.ds, zS.fa, zS.od, zS.rd, zS.vi, zS.ai, zS.hd, zS.sn, zS.jc, zS.lf, zS.ad, zS.pd, zS.sp, zS.tk, zS.gm, zS.gw] at h
  dsimp only [zCW3, zS_mayBe, zk_mayBe, zS.vr, zS.ar, zS.vs, zS.asF, zS.ds, zS.fa, zS.od, zS.rd, zS.vi, zS.ai, zS.hd, zS.sn, zS.jc, zS.lf, zS.ad, zS.pd, zS.sp, zS.tk, zS.gm, zS.gw]
  exact h
def zk_isKnown (c : zS) (p1 : Int32) : Int32 := (f_X3_isKnown c.vr c.vi c.ai c.hd c.jc p1).1
def zS_isKnown (c : zS) (p1 : Int32) : zS := (c.vr, c.ar, c.vs, c.asF, c.ds, c.fa, c.od, c.rd, (f_X3_isKnown c.vr c.vi c.ai c.hd c.jc p1).2.1, (f_X3_isKnown c.vr c.vi c.ai c.hd c.jc p1).2.2, c.hd, c.sn, c.jc, c.lf, c.ad, c.pd, c.sp, c.tk, c.gm, c.gw)
def zs_isKnown (c : zS) (p1 : Int32) : Prop := s_X3_isKnown c.vr c.hd c.jc p1
def zt_isKnown (c : zS) (p1 : Int32) : Nat := t_X3_isKnown c.vr p1
theorem zc_C_isKnown (l : Launch) (G : zG) (a : Nat → Nat) (c : zS) (p1 : Int32) (hs : zs_isKnown c p1) (ht : zt_isKnown c p1 = 0) : zC l G yX3_isKnown wsX3_isKnown rm_X3_isKnown 0 0 [.ref (a 0), .int p1] (zCW3 G a c) (some (.int (zk_isKnown c p1))) (fun _ : Unit => zCW3 G a (zS_isKnown c p1)) := by
  have h := c_X3_isKnown l G (a 0) (a 1) (a 2) (a 3) (a 4) (a 5) (a 6) (a 7) (a 8) (a 9) (a 10) (a 11) (a 12) (a 13) (a 14) (a 15) (a 16) c.vr c.ar c.vs c.asF c.ds c.fa c.od c.rd c.vi c.ai c.hd c.sn c.jc c.lf c.ad c.pd c.sp c.tk c.gm c.gw p1 hs ht
  dsimp only [zS.vr, zS.ar, zS.vs, zS.asF, zS.ds, zS.fa, zS.od, zS.rd, zS.vi, zS.ai, zS.hd, zS.sn, zS.jc, zS.lf, zS.ad, zS.pd, zS.sp, zS.tk, zS.gm, zS.gw] at h
  dsimp only [zCW3, zS_isKnown, zk_isKnown, zS.vr, zS.ar, zS.vs, zS.asF, zS.ds, zS.fa, zS.od, zS.rd, zS.vi, zS.ai, zS.hd, zS.sn, zS.jc, zS.lf, zS.ad, zS.pd, zS.sp, zS.tk, zS.gm, zS.gw]
  exact h
def zk_guess (c : zS) (p1 : Int32) (p2 : Int32) : Int32 := (f_X3_guess c.vr c.vi c.ai c.hd c.jc c.lf c.gm c.gw p1 p2).1
def zS_guess (c : zS) (p1 : Int32) (p2 : Int32) : zS := (c.vr, c.ar, c.vs, c.asF, c.ds, c.fa, c.od, c.rd, (f_X3_guess c.vr c.vi c.ai c.hd c.jc c.lf c.gm c.gw p1 p2).2.1, (f_X3_guess c.vr c.vi c.ai c.hd c.jc c.lf c.gm c.gw p1 p2).2.2.1, (f_X3_guess c.vr c.vi c.ai c.hd c.jc c.lf c.gm c.gw p1 p2).2.2.2.1, c.sn, c.jc, (f_X3_guess c.vr c.vi c.ai c.hd c.jc c.lf c.gm c.gw p1 p2).2.2.2.2.1, c.ad, c.pd, c.sp, c.tk, (f_X3_guess c.vr c.vi c.ai c.hd c.jc c.lf c.gm c.gw p1 p2).2.2.2.2.2.1, (f_X3_guess c.vr c.vi c.ai c.hd c.jc c.lf c.gm c.gw p1 p2).2.2.2.2.2.2)
def zs_guess (c : zS) (p1 : Int32) (p2 : Int32) : Prop := s_X3_guess c.vr c.vi c.ai c.hd c.jc c.lf p1 p2
def zt_guess (c : zS) (p1 : Int32) (p2 : Int32) : Nat := t_X3_guess c.vr c.vi c.ai c.hd c.jc p1 p2
theorem zc_C_guess (l : Launch) (G : zG) (a : Nat → Nat) (c : zS) (p1 : Int32) (p2 : Int32) (hs : zs_guess c p1 p2) (ht : zt_guess c p1 p2 = 0) : zC l G yX3_guess wsX3_guess rm_X3_guess 0 0 [.ref (a 0), .int p1, .int p2] (zCW3 G a c) (some (.int (zk_guess c p1 p2))) (fun _ : Unit => zCW3 G a (zS_guess c p1 p2)) := by
  have h := c_X3_guess l G (a 0) (a 1) (a 2) (a 3) (a 4) (a 5) (a 6) (a 7) (a 8) (a 9) (a 10) (a 11) (a 12) (a 13) (a 14) (a 15) (a 16) c.vr c.ar c.vs c.asF c.ds c.fa c.od c.rd c.vi c.ai c.hd c.sn c.jc c.lf c.ad c.pd c.sp c.tk c.gm c.gw p1 p2 hs ht
  dsimp only [zS.vr, zS.ar, zS.vs, zS.asF, zS.ds, zS.fa, zS.od, zS.rd, zS.vi, zS.ai, zS.hd, zS.sn, zS.jc, zS.lf, zS.ad, zS.pd, zS.sp, zS.tk, zS.gm, zS.gw] at h
  dsimp only [zCW3, zS_guess, zk_guess, zS.vr, zS.ar, zS.vs, zS.asF, zS.ds, zS.fa, zS.od, zS.rd, zS.vi, zS.ai, zS.hd, zS.sn, zS.jc, zS.lf, zS.ad, zS.pd, zS.sp, zS.tk, zS.gm, zS.gw]
  exact h
theorem zx_C_guess (l : Launch) (G : zG) (a : Nat → Nat) (c : zS) (p1 : Int32) (p2 : Int32) (hs : zs_guess c p1 p2) (hst : l.stackTraces = false) (ht : zt_guess c p1 p2 = 3) : zX l G yX3_guess wsX3_guess rx_X3_guess 1 6 [.ref (a 0), .int p1, .int p2] (zCW3 G a c) "java/lang/IllegalStateException" (zCW3 G a (zS_guess c p1 p2)) := by
  have h := x_X3_guess_3 l G (a 0) (a 1) (a 2) (a 3) (a 4) (a 5) (a 6) (a 7) (a 8) (a 9) (a 10) (a 11) (a 12) (a 13) (a 14) (a 15) (a 16) c.vr c.ar c.vs c.asF c.ds c.fa c.od c.rd c.vi c.ai c.hd c.sn c.jc c.lf c.ad c.pd c.sp c.tk c.gm c.gw p1 p2 hs hst ht
  dsimp only [zS.vr, zS.ar, zS.vs, zS.asF, zS.ds, zS.fa, zS.od, zS.rd, zS.vi, zS.ai, zS.hd, zS.sn, zS.jc, zS.lf, zS.ad, zS.pd, zS.sp, zS.tk, zS.gm, zS.gw] at h
  dsimp only [zCW3, zS_guess, zS.vr, zS.ar, zS.vs, zS.asF, zS.ds, zS.fa, zS.od, zS.rd, zS.vi, zS.ai, zS.hd, zS.sn, zS.jc, zS.lf, zS.ad, zS.pd, zS.sp, zS.tk, zS.gm, zS.gw]
  exact h
def zk_guesses (c : zS) : Int32 := (f_X3_guesses c.gm)
def zS_guesses (c : zS) : zS := (c.vr, c.ar, c.vs, c.asF, c.ds, c.fa, c.od, c.rd, c.vi, c.ai, c.hd, c.sn, c.jc, c.lf, c.ad, c.pd, c.sp, c.tk, c.gm, c.gw)
def zs_guesses (c : zS) : Prop := True
def zt_guesses (c : zS) : Nat := 0
theorem zc_C_guesses (l : Launch) (G : zG) (a : Nat → Nat) (c : zS) (hs : zs_guesses c) (ht : zt_guesses c = 0) : zC l G yX3_guesses wsX3_guesses rm_X3_guesses 0 0 [.ref (a 0)] (zCW3 G a c) (some (.int (zk_guesses c))) (fun _ : Unit => zCW3 G a (zS_guesses c)) := by
  have h := c_X3_guesses l G (a 0) (a 1) (a 2) (a 3) (a 4) (a 5) (a 6) (a 7) (a 8) (a 9) (a 10) (a 11) (a 12) (a 13) (a 14) (a 15) (a 16) c.vr c.ar c.vs c.asF c.ds c.fa c.od c.rd c.vi c.ai c.hd c.sn c.jc c.lf c.ad c.pd c.sp c.tk c.gm c.gw
  dsimp only [zS.vr, zS.ar, zS.vs, zS.asF, zS.ds, zS.fa, zS.od, zS.rd, zS.vi, zS.ai, zS.hd, zS.sn, zS.jc, zS.lf, zS.ad, zS.pd, zS.sp, zS.tk, zS.gm, zS.gw] at h
  dsimp only [zCW3, zS_guesses, zk_guesses, zS.vr, zS.ar, zS.vs, zS.asF, zS.ds, zS.fa, zS.od, zS.rd, zS.vi, zS.ai, zS.hd, zS.sn, zS.jc, zS.lf, zS.ad, zS.pd, zS.sp, zS.tk, zS.gm, zS.gw]
  exact h
def zk_wrongGuesses (c : zS) : Int32 := (f_X3_wrongGuesses c.gw)
def zS_wrongGuesses (c : zS) : zS := (c.vr, c.ar, c.vs, c.asF, c.ds, c.fa, c.od, c.rd, c.vi, c.ai, c.hd, c.sn, c.jc, c.lf, c.ad, c.pd, c.sp, c.tk, c.gm, c.gw)
def zs_wrongGuesses (c : zS) : Prop := True
def zt_wrongGuesses (c : zS) : Nat := 0
theorem zc_C_wrongGuesses (l : Launch) (G : zG) (a : Nat → Nat) (c : zS) (hs : zs_wrongGuesses c) (ht : zt_wrongGuesses c = 0) : zC l G yX3_wrongGuesses wsX3_wrongGuesses rm_X3_wrongGuesses 0 0 [.ref (a 0)] (zCW3 G a c) (some (.int (zk_wrongGuesses c))) (fun _ : Unit => zCW3 G a (zS_wrongGuesses c)) := by
  have h := c_X3_wrongGuesses l G (a 0) (a 1) (a 2) (a 3) (a 4) (a 5) (a 6) (a 7) (a 8) (a 9) (a 10) (a 11) (a 12) (a 13) (a 14) (a 15) (a 16) c.vr c.ar c.vs c.asF c.ds c.fa c.od c.rd c.vi c.ai c.hd c.sn c.jc c.lf c.ad c.pd c.sp c.tk c.gm c.gw
  dsimp only [zS.vr, zS.ar, zS.vs, zS.asF, zS.ds, zS.fa, zS.od, zS.rd, zS.vi, zS.ai, zS.hd, zS.sn, zS.jc, zS.lf, zS.ad, zS.pd, zS.sp, zS.tk, zS.gm, zS.gw] at h
  dsimp only [zCW3, zS_wrongGuesses, zk_wrongGuesses, zS.vr, zS.ar, zS.vs, zS.asF, zS.ds, zS.fa, zS.od, zS.rd, zS.vi, zS.ai, zS.hd, zS.sn, zS.jc, zS.lf, zS.ad, zS.pd, zS.sp, zS.tk, zS.gm, zS.gw]
  exact h
def zk_leftAtMost (c : zS) (p1 : Int32) (p2 : Int32) : Int32 := (f_X3_leftAtMost c.vr c.vi c.ai c.hd c.sn c.jc p1 p2).1
def zS_leftAtMost (c : zS) (p1 : Int32) (p2 : Int32) : zS := (c.vr, c.ar, c.vs, c.asF, c.ds, c.fa, c.od, c.rd, (f_X3_leftAtMost c.vr c.vi c.ai c.hd c.sn c.jc p1 p2).2.1, (f_X3_leftAtMost c.vr c.vi c.ai c.hd c.sn c.jc p1 p2).2.2.1, c.hd, (f_X3_leftAtMost c.vr c.vi c.ai c.hd c.sn c.jc p1 p2).2.2.2, c.jc, c.lf, c.ad, c.pd, c.sp, c.tk, c.gm, c.gw)
def zs_leftAtMost (c : zS) (p1 : Int32) (p2 : Int32) : Prop := s_X3_leftAtMost c.vr c.vi c.ai c.hd c.jc p1 p2
def zt_leftAtMost (c : zS) (p1 : Int32) (p2 : Int32) : Nat := t_X3_leftAtMost c.vr p1 p2
theorem zc_C_leftAtMost (l : Launch) (G : zG) (a : Nat → Nat) (c : zS) (p1 : Int32) (p2 : Int32) (hs : zs_leftAtMost c p1 p2) (ht : zt_leftAtMost c p1 p2 = 0) : zC l G yX3_leftAtMost wsX3_leftAtMost rm_X3_leftAtMost 0 0 [.ref (a 0), .int p1, .int p2] (zCW3 G a c) (some (.int (zk_leftAtMost c p1 p2))) (fun _ : Unit => zCW3 G a (zS_leftAtMost c p1 p2)) := by
  have h := c_X3_leftAtMost l G (a 0) (a 1) (a 2) (a 3) (a 4) (a 5) (a 6) (a 7) (a 8) (a 9) (a 10) (a 11) (a 12) (a 13) (a 14) (a 15) (a 16) c.vr c.ar c.vs c.asF c.ds c.fa c.od c.rd c.vi c.ai c.hd c.sn c.jc c.lf c.ad c.pd c.sp c.tk c.gm c.gw p1 p2 hs ht
  dsimp only [zS.vr, zS.ar, zS.vs, zS.asF, zS.ds, zS.fa, zS.od, zS.rd, zS.vi, zS.ai, zS.hd, zS.sn, zS.jc, zS.lf, zS.ad, zS.pd, zS.sp, zS.tk, zS.gm, zS.gw] at h
  dsimp only [zCW3, zS_leftAtMost, zk_leftAtMost, zS.vr, zS.ar, zS.vs, zS.asF, zS.ds, zS.fa, zS.od, zS.rd, zS.vi, zS.ai, zS.hd, zS.sn, zS.jc, zS.lf, zS.ad, zS.pd, zS.sp, zS.tk, zS.gm, zS.gw]
  exact h
def zk_bestPour (c : zS) : Int32 := (f_X3_bestPour c.vr c.vi c.ai c.hd c.sn c.jc c.lf).1
def zS_bestPour (c : zS) : zS := (c.vr, c.ar, c.vs, c.asF, c.ds, c.fa, c.od, c.rd, (f_X3_bestPour c.vr c.vi c.ai c.hd c.sn c.jc c.lf).2.1, (f_X3_bestPour c.vr c.vi c.ai c.hd c.sn c.jc c.lf).2.2.1, c.hd, (f_X3_bestPour c.vr c.vi c.ai c.hd c.sn c.jc c.lf).2.2.2, c.jc, c.lf, c.ad, c.pd, c.sp, c.tk, c.gm, c.gw)
def zs_bestPour (c : zS) : Prop := s_X3_bestPour c.vr c.vi c.ai c.hd c.sn c.jc c.lf
def zt_bestPour (c : zS) : Nat := 0
theorem zc_C_bestPour (l : Launch) (G : zG) (a : Nat → Nat) (c : zS) (hs : zs_bestPour c) (ht : zt_bestPour c = 0) : zC l G yX3_bestPour wsX3_bestPour rm_X3_bestPour 0 0 [.ref (a 0)] (zCW3 G a c) (some (.int (zk_bestPour c))) (fun _ : Unit => zCW3 G a (zS_bestPour c)) := by
  have h := c_X3_bestPour l G (a 0) (a 1) (a 2) (a 3) (a 4) (a 5) (a 6) (a 7) (a 8) (a 9) (a 10) (a 11) (a 12) (a 13) (a 14) (a 15) (a 16) c.vr c.ar c.vs c.asF c.ds c.fa c.od c.rd c.vi c.ai c.hd c.sn c.jc c.lf c.ad c.pd c.sp c.tk c.gm c.gw hs
  dsimp only [zS.vr, zS.ar, zS.vs, zS.asF, zS.ds, zS.fa, zS.od, zS.rd, zS.vi, zS.ai, zS.hd, zS.sn, zS.jc, zS.lf, zS.ad, zS.pd, zS.sp, zS.tk, zS.gm, zS.gw] at h
  dsimp only [zCW3, zS_bestPour, zk_bestPour, zS.vr, zS.ar, zS.vs, zS.asF, zS.ds, zS.fa, zS.od, zS.rd, zS.vi, zS.ai, zS.hd, zS.sn, zS.jc, zS.lf, zS.ad, zS.pd, zS.sp, zS.tk, zS.gm, zS.gw]
  exact h
def zk_meanAmount (c : zS) : UInt64 := (f_X3_meanAmount c.vr c.ar)
def zS_meanAmount (c : zS) : zS := (c.vr, c.ar, c.vs, c.asF, c.ds, c.fa, c.od, c.rd, c.vi, c.ai, c.hd, c.sn, c.jc, c.lf, c.ad, c.pd, c.sp, c.tk, c.gm, c.gw)
def zs_meanAmount (c : zS) : Prop := s_X3_meanAmount c.vr c.ar
def zt_meanAmount (c : zS) : Nat := 0
theorem zc_C_meanAmount (l : Launch) (G : zG) (a : Nat → Nat) (c : zS) (hs : zs_meanAmount c) (ht : zt_meanAmount c = 0) : zC l G yX3_meanAmount wsX3_meanAmount rm_X3_meanAmount 0 0 [.ref (a 0)] (zCW3 G a c) (some (.double (zk_meanAmount c))) (fun _ : Unit => zCW3 G a (zS_meanAmount c)) := by
  have h := c_X3_meanAmount l G (a 0) (a 1) (a 2) (a 3) (a 4) (a 5) (a 6) (a 7) (a 8) (a 9) (a 10) (a 11) (a 12) (a 13) (a 14) (a 15) (a 16) c.vr c.ar c.vs c.asF c.ds c.fa c.od c.rd c.vi c.ai c.hd c.sn c.jc c.lf c.ad c.pd c.sp c.tk c.gm c.gw hs
  dsimp only [zS.vr, zS.ar, zS.vs, zS.asF, zS.ds, zS.fa, zS.od, zS.rd, zS.vi, zS.ai, zS.hd, zS.sn, zS.jc, zS.lf, zS.ad, zS.pd, zS.sp, zS.tk, zS.gm, zS.gw] at h
  dsimp only [zCW3, zS_meanAmount, zk_meanAmount, zS.vr, zS.ar, zS.vs, zS.asF, zS.ds, zS.fa, zS.od, zS.rd, zS.vi, zS.ai, zS.hd, zS.sn, zS.jc, zS.lf, zS.ad, zS.pd, zS.sp, zS.tk, zS.gm, zS.gw]
  exact h
def zk_digest (c : zS) : Int64 := (f_X3_digest c.vr c.ar c.vs c.asF c.ds c.fa c.od c.rd c.vi c.ai c.hd c.jc c.lf c.ad c.pd c.sp c.tk c.gm c.gw).1
def zS_digest (c : zS) : zS := (c.vr, c.ar, (f_X3_digest c.vr c.ar c.vs c.asF c.ds c.fa c.od c.rd c.vi c.ai c.hd c.jc c.lf c.ad c.pd c.sp c.tk c.gm c.gw).2.1, (f_X3_digest c.vr c.ar c.vs c.asF c.ds c.fa c.od c.rd c.vi c.ai c.hd c.jc c.lf c.ad c.pd c.sp c.tk c.gm c.gw).2.2.1, (f_X3_digest c.vr c.ar c.vs c.asF c.ds c.fa c.od c.rd c.vi c.ai c.hd c.jc c.lf c.ad c.pd c.sp c.tk c.gm c.gw).2.2.2.1, (f_X3_digest c.vr c.ar c.vs c.asF c.ds c.fa c.od c.rd c.vi c.ai c.hd c.jc c.lf c.ad c.pd c.sp c.tk c.gm c.gw).2.2.2.2.1, (f_X3_digest c.vr c.ar c.vs c.asF c.ds c.fa c.od c.rd c.vi c.ai c.hd c.jc c.lf c.ad c.pd c.sp c.tk c.gm c.gw).2.2.2.2.2.1, (f_X3_digest c.vr c.ar c.vs c.asF c.ds c.fa c.od c.rd c.vi c.ai c.hd c.jc c.lf c.ad c.pd c.sp c.tk c.gm c.gw).2.2.2.2.2.2.1, (f_X3_digest c.vr c.ar c.vs c.asF c.ds c.fa c.od c.rd c.vi c.ai c.hd c.jc c.lf c.ad c.pd c.sp c.tk c.gm c.gw).2.2.2.2.2.2.2.1, (f_X3_digest c.vr c.ar c.vs c.asF c.ds c.fa c.od c.rd c.vi c.ai c.hd c.jc c.lf c.ad c.pd c.sp c.tk c.gm c.gw).2.2.2.2.2.2.2.2, c.hd, c.sn, c.jc, c.lf, c.ad, c.pd, c.sp, c.tk, c.gm, c.gw)
def zs_digest (c : zS) : Prop := s_X3_digest c.vr c.ar c.vs c.asF c.ds c.fa c.od c.rd c.vi c.ai c.hd c.jc c.lf c.ad c.pd c.sp c.tk c.gm c.gw
def zt_digest (c : zS) : Nat := 0
theorem zc_C_digest (l : Launch) (G : zG) (a : Nat → Nat) (c : zS) (hs : zs_digest c) (ht : zt_digest c = 0) : zC l G yX3_digest wsX3_digest rm_X3_digest 0 0 [.ref (a 0)] (zCW3 G a c) (some (.long (zk_digest c))) (fun _ : Unit => zCW3 G a (zS_digest c)) := by
  have h := c_X3_digest l G (a 0) (a 1) (a 2) (a 3) (a 4) (a 5) (a 6) (a 7) (a 8) (a 9) (a 10) (a 11) (a 12) (a 13) (a 14) (a 15) (a 16) c.vr c.ar c.vs c.asF c.ds c.fa c.od c.rd c.vi c.ai c.hd c.sn c.jc c.lf c.ad c.pd c.sp c.tk c.gm c.gw hs
  dsimp only [zS.vr, zS.ar, zS.vs, zS.asF, zS.ds, zS.fa, zS.od, zS.rd, zS.vi, zS.ai, zS.hd, zS.sn, zS.jc, zS.lf, zS.ad, zS.pd, zS.sp, zS.tk, zS.gm, zS.gw] at h
  dsimp only [zCW3, zS_digest, zk_digest, zS.vr, zS.ar, zS.vs, zS.asF, zS.ds, zS.fa, zS.od, zS.rd, zS.vi, zS.ai, zS.hd, zS.sn, zS.jc, zS.lf, zS.ad, zS.pd, zS.sp, zS.tk, zS.gm, zS.gw]
  exact h
def zS_begin (c : zS) (p1 : Int32) (p2 : Int32) (p3 : Int32) : zS := ((f_X3_begin c.vr c.ar c.rd c.hd c.jc c.lf c.ad c.pd c.sp c.tk c.gm c.gw p1 p2 p3).1, (f_X3_begin c.vr c.ar c.rd c.hd c.jc c.lf c.ad c.pd c.sp c.tk c.gm c.gw p1 p2 p3).2.1, c.vs, c.asF, c.ds, c.fa, c.od, (f_X3_begin c.vr c.ar c.rd c.hd c.jc c.lf c.ad c.pd c.sp c.tk c.gm c.gw p1 p2 p3).2.2.1, c.vi, c.ai, (f_X3_begin c.vr c.ar c.rd c.hd c.jc c.lf c.ad c.pd c.sp c.tk c.gm c.gw p1 p2 p3).2.2.2.1, c.sn, (f_X3_begin c.vr c.ar c.rd c.hd c.jc c.lf c.ad c.pd c.sp c.tk c.gm c.gw p1 p2 p3).2.2.2.2.1, (f_X3_begin c.vr c.ar c.rd c.hd c.jc c.lf c.ad c.pd c.sp c.tk c.gm c.gw p1 p2 p3).2.2.2.2.2.1, (f_X3_begin c.vr c.ar c.rd c.hd c.jc c.lf c.ad c.pd c.sp c.tk c.gm c.gw p1 p2 p3).2.2.2.2.2.2.1, (f_X3_begin c.vr c.ar c.rd c.hd c.jc c.lf c.ad c.pd c.sp c.tk c.gm c.gw p1 p2 p3).2.2.2.2.2.2.2.1, (f_X3_begin c.vr c.ar c.rd c.hd c.jc c.lf c.ad c.pd c.sp c.tk c.gm c.gw p1 p2 p3).2.2.2.2.2.2.2.2.1, (f_X3_begin c.vr c.ar c.rd c.hd c.jc c.lf c.ad c.pd c.sp c.tk c.gm c.gw p1 p2 p3).2.2.2.2.2.2.2.2.2.1, (f_X3_begin c.vr c.ar c.rd c.hd c.jc c.lf c.ad c.pd c.sp c.tk c.gm c.gw p1 p2 p3).2.2.2.2.2.2.2.2.2.2.1, (f_X3_begin c.vr c.ar c.rd c.hd c.jc c.lf c.ad c.pd c.sp c.tk c.gm c.gw p1 p2 p3).2.2.2.2.2.2.2.2.2.2.2)
