/-! each call keeps the relation, and answers alike -/
def zRel (c : zS) (t : zM) : Prop := ∃ V X C, zR V X C c t
theorem zR.t {V X : Nat → Nat} {C : zCs} {c : zS} {t t' : zM} (h : zR V X C c t) (e1 : t'.js = t.js) (e2 : t'.mv = t.mv) (e3 : t'.ma = t.ma) (e4 : t'.ac = t.ac) (e5 : t'.po = t.po) (e6 : t'.si = t.si) (e7 : t'.ta = t.ta) (e8 : t'.ml = t.ml) (e9 : t'.mh = t.mh) (e10 : t'.gu = t.gu) (e11 : t'.wr = t.wr) : zR V X C c t' :=
  ⟨h.1, h.cok, h.vr, h.ar, by rw [e2]; exact h.mv, by rw [e3]; exact h.ma, h.jc, by rw [e1]; exact h.js, h.cc, by rw [e8, e9]; exact h.cm, h.lf, by rw [e4]; exact h.ad, by rw [e5]; exact h.pd, by rw [e6]; exact h.sp, by rw [e7]; exact h.tk, by rw [e10]; exact h.gm, by rw [e11]; exact h.gw, h.ws⟩
/-- the guesser's picture and tallies may change -/
theorem zR.g {V X : Nat → Nat} {C : zCs} {c c' : zS} {t : zM} (h : zR V X C c t) (e1 : c'.vr = c.vr) (e2 : c'.ar = c.ar) (e3 : c'.vs = c.vs) (e4 : c'.ds = c.ds) (e5 : c'.fa = c.fa) (e6 : c'.od = c.od) (e7 : c'.rd = c.rd) (e8 : c'.hd = c.hd) (e9 : c'.jc = c.jc) (e10 : c'.lf = c.lf) (e11 : c'.ad = c.ad) (e12 : c'.pd = c.pd) (e13 : c'.sp = c.sp) (e14 : c'.tk = c.tk) (e15 : c'.gm = c.gm) (e16 : c'.gw = c.gw) : zR V X C c' t :=
  ⟨h.1, h.cok, by rw [e1]; exact h.vr, by rw [e2]; exact h.ar, h.mv, h.ma, by rw [e9]; exact h.jc, h.js, by rw [e8]; exact h.cc, h.cm, by rw [e10]; exact h.lf, by rw [e11]; exact h.ad, by rw [e12]; exact h.pd, by rw [e13]; exact h.sp, by rw [e14]; exact h.tk, by rw [e15]; exact h.gm, by rw [e16]; exact h.gw, by rw [e3, e4, e5, e6, e7]; exact h.ws⟩
theorem zR.t2 {V X : Nat → Nat} {C : zCs} {c : zS} {t : zM} (h : zR V X C c t) (th : Int32) (mf mr : Nat → Int32) (re : Int32) (mo mb ms : Nat → Int32) : zR V X C c (th, t.js, t.mv, t.ma, t.ac, t.po, t.si, t.ta, t.ml, t.mh, t.gu, t.wr, mf, mr, re, mo, mb, ms) :=
  ⟨h.1, h.cok, h.vr, h.ar, h.mv, h.ma, h.jc, h.js, h.cc, h.cm, h.lf, h.ad, h.pd, h.sp, h.tk, h.gm, h.gw, h.ws⟩
theorem zR.g2 {V X : Nat → Nat} {C : zCs} {c : zS} {t : zM} (h : zR V X C c t) (as vi ai sn : Nat → Int32) : zR V X C (c.vr, c.ar, c.vs, as, c.ds, c.fa, c.od, c.rd, vi, ai, c.hd, sn, c.jc, c.lf, c.ad, c.pd, c.sp, c.tk, c.gm, c.gw) t :=
  ⟨h.1, h.cok, h.vr, h.ar, h.mv, h.ma, h.jc, h.js, h.cc, h.cm, h.lf, h.ad, h.pd, h.sp, h.tk, h.gm, h.gw, h.ws⟩
theorem z_up0 (ou : Nat → Int64) (x : Int64) : vp_updL ou (0 : Int32).toNatClampNeg x 0 = x := by
  rw [zc0, pk_uLs]
theorem zo_fill {c : zS} {t : zM} (h : zRel c t) (ou : Nat → Int64) (p : Int32) : zs_fill c p ∧ ms_fill t p ∧ zAn (zk_fill c ou p) (zM_fill t p).th (zO_fill c ou p 0) (mk_fill t p).toInt64 ∧ zRel (zS_fill c ou p) (zM_fill t p) := by
  obtain ⟨V, X, C, h⟩ := h
  rcases zj_cases h.vr h.h9 h.pv p with ⟨j, hj, rfl, h1, h2⟩ | ⟨h1, h2⟩
  · have hz := zn_23 V
    have hal : zal (zn V) j := by unfold zal; rw [if_pos (by omega)]; exact hj
    have A := zo_act h (a := j) (by omega) hal
    rw [← h.js] at h2
    have n2 : ¬ f_X4_isJar t.js (nI j) = 0 := by rw [h2]; decide
    have t0 : t_X3_fill c.vr (nI j) = 0 := by unfold t_X3_fill; rw [if_pos h1]
    have sf : s_X3_fill c.vr c.ar c.vi c.ai c.hd c.jc c.lf (nI j) := ⟨fun _ => A.2.2.1, fun z => absurd h1 z⟩
    refine ⟨⟨fun _ => sf, fun _ => sf⟩, ⟨fun z => absurd z n2, fun _ => A.2.2.2.1⟩, ?_, V, zmv V X j, zNew V X j C, ?_⟩
    · unfold zAn zk_fill zM_fill zO_fill mk_fill
      simp only [f_L_fill, f_X3_fill, f_X4_fill, t0, h1, if_neg n2, ↓reduceIte]
      exact ⟨trivial, fun _ => by rw [z_up0, A.1, A.2.1]⟩
    · unfold zS_fill zM_fill
      simp only [f_L_fill, f_X3_fill, f_X4_fill, t0, h1, if_neg n2, ↓reduceIte]
      exact zR.t A.2.2.2.2 rfl rfl rfl rfl rfl rfl rfl rfl rfl rfl rfl
  · rw [← h.js] at h2
    have n1 : ¬ t_X3_checkJar c.vr p = 0 := by rw [h1]; decide
    have t0 : ¬ t_X3_fill c.vr p = 0 := by unfold t_X3_fill; rw [if_neg n1]; decide
    have sf : s_X3_fill c.vr c.ar c.vi c.ai c.hd c.jc c.lf p := ⟨fun z => absurd z n1, fun _ => trivial⟩
    refine ⟨⟨fun _ => sf, fun _ => sf⟩, ⟨fun _ => trivial, fun z => absurd h2 z⟩, ?_, V, X, C, ?_⟩
    · unfold zAn zk_fill zM_fill zO_fill mk_fill
      simp only [f_L_fill, f_X3_fill, f_X4_fill, if_neg t0, if_neg n1, h2, ↓reduceIte]
      exact ⟨rfl, fun z => absurd z (by decide)⟩
    · unfold zS_fill zM_fill
      simp only [f_L_fill, f_X3_fill, f_X4_fill, if_neg t0, if_neg n1, h2, ↓reduceIte]
      exact zR.t h rfl rfl rfl rfl rfl rfl rfl rfl rfl rfl rfl
