/-! the digest -/
def zDg (g : Nat → Int32) : Nat → Nat → Int64 → Int64
  | 0, _, x => x
  | n + 1, k, x => if 9 < k then x else zDg g n (k + 1) (x * 31 + (g k).toInt64)
def zLd (n k : Nat) (c : zS) (x : Int64) : (Nat → Int32) × (Nat → Int32) × (Nat → Int32) × (Nat → Int32) × (Nat → Int32) × Int32 × Int64 := lf_X3_digest_176 n k c.vr c.ar c.vs c.asF c.ds c.fa c.od c.rd x
def zc19 (c : zS) (k : Nat) : zS := (c.vr, c.ar, (zW c).1, f_X3_digest_t19 c.vr c.ar c.vs c.asF c.ds c.fa c.od c.rd k, (zW c).2.2.1, (zW c).2.2.2.1, (zW c).2.2.2.2.1, (zW c).2.2.2.2.2, c.vi, c.ai, c.hd, c.sn, c.jc, c.lf, c.ad, c.pd, c.sp, c.tk, c.gm, c.gw)
theorem zLd_pos {n k : Nat} {c : zS} {x : Int64} (q : (9 : Int32) < nI k) : zLd (n + 1) k c x = (c.vs, c.asF, c.ds, c.fa, c.od, c.rd, x) := by
  unfold zLd
  rw [lf_X3_digest_176_succ, if_pos q]
theorem zLd_neg {n k : Nat} {c : zS} {x : Int64} (q : ¬ (9 : Int32) < nI k) : zLd (n + 1) k c x = zLd n (k + 1) (zc19 c k) (x * 31 + (f_X3_digest_t20 c.vr c.ar c.vs c.asF c.ds c.fa c.od c.rd k).toInt64) := by
  unfold zLd
  rw [lf_X3_digest_176_succ, if_neg q]
  rfl
theorem zc_dgLoop {V X : Nat → Nat} {C : zCs} {t : zM} : ∀ (n k : Nat) (c : zS) (x : Int64), zR V X C c t → k + n = 11 → (zLd n k c x).2.2.2.2.2.2 = zDg (zgA V (zBFS V (zst X))) n k x ∧ sf_X3_digest_176 n k c.vr c.ar c.vs c.asF c.ds c.fa c.od c.rd ∧ ∀ as vi ai sn : Nat → Int32, zR V X C (c.vr, c.ar, (zLd n k c x).1, as, (zLd n k c x).2.2.1, (zLd n k c x).2.2.2.1, (zLd n k c x).2.2.2.2.1, (zLd n k c x).2.2.2.2.2.1, vi, ai, c.hd, sn, c.jc, c.lf, c.ad, c.pd, c.sp, c.tk, c.gm, c.gw) t := by
  intro n
  induction n with
  | zero => intro k c x h _; exact ⟨rfl, trivial, fun as vi ai sn => zR.g2 h as vi ai sn⟩
  | succ n ih =>
    intro k c x h hk
    by_cases q : 9 < k
    · have q2 : (9 : Int32) < nI k := by rw [zl9]; exact nI_lt q (by omega)
      rw [zLd_pos q2, sf_X3_digest_176_succ]
      unfold zDg
      rw [if_pos q]
      exact ⟨rfl, ⟨fun _ => trivial, fun z => absurd q2 z⟩, fun as vi ai sn => zR.g2 h as vi ai sn⟩
    · have q2 : ¬ (9 : Int32) < nI k := by rw [zl9]; intro z; exact absurd z (Int32.not_lt.mpr (nI_le (by omega) (by omega)))
      have w := h.w
      have h' : zR V X C (zc19 c k) t := w.2.2.2 (f_X3_digest_t19 c.vr c.ar c.vs c.asF c.ds c.fa c.od c.rd k)
      have e : f_X3_digest_t20 c.vr c.ar c.vs c.asF c.ds c.fa c.od c.rd k = zgA V (zBFS V (zst X)) k := by
        unfold f_X3_digest_t20
        exact zc_least w.2.1 w.2.2.1 h.gd.1 _ (by omega)
      have r := ih (k + 1) (zc19 c k) (x * 31 + (f_X3_digest_t20 c.vr c.ar c.vs c.asF c.ds c.fa c.od c.rd k).toInt64) h' (by omega)
      rw [zLd_neg q2, sf_X3_digest_176_succ]
      unfold zDg
      rw [if_neg q, ← e]
      exact ⟨r.1, ⟨fun z => absurd z q2, fun _ => ⟨w.1, r.2.1⟩⟩, r.2.2⟩
theorem zm_dgLoop {V X : Nat → Nat} {mv ma : Nat → Int32} (hv : zE3 mv V) (hx : zE3 ma X) (okX : zOK V X) : ∀ (n k : Nat) (mf mr : Nat → Int32) (re : Int32) (mo mb : Nat → Int32) (x : Int64), k + n = 11 → (lf_X4_digest_303 n k (nI (zn V)) mv ma mf mr re mo mb x).2.2.2.2.2 = zDg (zgA V (zBFS V (zst X))) n k x ∧ sf_X4_digest_303 n k (nI (zn V)) mv ma mf mr re mo mb := by
  have hs := zst_lt okX
  have ok : zOK V (zdg (zst X)) := okX.congr (fun j hj => (zdg_st okX hj).symm)
  intro n
  induction n with
  | zero => intro k mf mr re mo mb x _; exact ⟨rfl, trivial⟩
  | succ n ih =>
    intro k mf mr re mo mb x hk
    rw [lf_X4_digest_303_succ, sf_X4_digest_303_succ, zq_stateM hx]
    have e1 := zm_least hv mf mr re mo mb hs ok (v := k) (by omega)
    have e2 : (f_X4_leastFrom (nI (zn V)) mv mf mr re mo mb (nI (zst X)) (nI k)).1 = zgA V (zBFS V (zst X)) k := e1.1
    rw [e2]
    unfold zDg
    by_cases q : 9 < k
    · have q2 : (10 : Int32) ≤ nI k := by rw [zl10]; exact nI_le (by omega) (by omega)
      rw [if_pos q, if_pos q2]
      exact ⟨rfl, fun _ => trivial, fun z => absurd q2 z⟩
    · have q2 : ¬ (10 : Int32) ≤ nI k := by rw [zl10]; exact nI_ge (by omega) (by omega)
      rw [if_neg q, if_neg q2]
      have r := ih (k + 1) (f_X4_leastFrom (nI (zn V)) mv mf mr re mo mb (nI (zst X)) (nI k)).2.1 (f_X4_leastFrom (nI (zn V)) mv mf mr re mo mb (nI (zst X)) (nI k)).2.2.1 (f_X4_leastFrom (nI (zn V)) mv mf mr re mo mb (nI (zst X)) (nI k)).2.2.2.1 (f_X4_leastFrom (nI (zn V)) mv mf mr re mo mb (nI (zst X)) (nI k)).2.2.2.2.1 (f_X4_leastFrom (nI (zn V)) mv mf mr re mo mb (nI (zst X)) (nI k)).2.2.2.2.2 (x * 31 + (zgA V (zBFS V (zst X)) k).toInt64) (by omega)
      exact ⟨r.1, fun z => absurd z q2, fun _ => ⟨e1.2, r.2⟩⟩
/-- a jar of the digest -/
def zDv (n : Nat) (C : zCs) (j : Nat) : Nat → Nat → Int64 → Int64
  | 0, _, x => x
  | m + 1, k, x => if 9 < k then x else zDv n C j m (k + 1) (x * 31 + (zb01 (zMay n C j k)).toInt64)
def zDj (V X : Nat → Nat) (C : zCs) (x : Int64) (j : Nat) : Int64 := zDv (zn V) C j 10 1 ((((((x * 31 + (nI (V j)).toInt64) * 31 + (nI (X j)).toInt64) * 31 + (zb01 (decide (X j = 0))).toInt64) * 31 + (zb01 (decide (X j = V j))).toInt64) * 31) + (zb01 (decide (zBc (zMay (zn V) C j) 9 = 1))).toInt64)
def zDjs (V X : Nat → Nat) (C : zCs) : Nat → Nat → Int64 → Int64
  | 0, _, x => x
  | m + 1, k, x => if zn V ≤ k then x else zDjs V X C m (k + 1) (zDj V X C x k)
theorem z_oneIf01 (b : Bool) : f_X3_oneIf (zb01 b) = zb01 b := by cases b <;> decide
theorem z_bit01 (b : Bool) : f_X4_bit (zb01 b) = zb01 b := by cases b <;> decide
theorem z_01 (a b : Nat) : (if a = b then (1 : Int32) else 0) = zb01 (decide (a = b)) := by
  by_cases q : a = b
  · rw [if_pos q, decide_eq_true q]; rfl
  · rw [if_neg q, decide_eq_false q]; rfl
theorem zc_jarVol {C : zCs} {n j : Nat} (hn : n = 2 ∨ n = 3) (hj : j < 3) (hC : zCok n C) {hd : Nat → Int32} (h : zCc C hd) (vi ai : Nat → Int32) : ∀ (m k : Nat) (x : Int64), k + m = 11 → lf_X3_digestOfJar_112 m k (f_X0_volumesFor vi ai hd (nI n) (nI j)).1 x = zDv n C j m k x := by
  intro m
  induction m with
  | zero => intro k x _; rfl
  | succ m ih =>
    intro k x hk
    rw [lf_X3_digestOfJar_112_succ, zl9, z_if_lt (by omega) (by omega)]
    unfold zDv
    by_cases q : 9 < k
    · rw [if_pos q, if_pos q]
    · rw [if_neg q, if_neg q, zc_among hn hj (by omega) hC h vi ai, z_oneIf01]
      exact ih _ _ (by omega)
theorem zm_jarVol {C : zCs} {n j : Nat} (hn : n = 2 ∨ n = 3) (hj : j < 3) (hC : zCok n C) {ml mh : Nat → Int32} (h : zCm n C ml mh) : ∀ (m k : Nat) (x : Int64), k + m = 11 → lf_X4_digest_262 m k ml x (nI j) = zDv n C j m k x := by
  intro m
  induction m with
  | zero => intro k x _; rfl
  | succ m ih =>
    intro k x hk
    rw [lf_X4_digest_262_succ, zl9, z_if_lt (by omega) (by omega)]
    unfold zDv
    by_cases q : 9 < k
    · rw [if_pos q, if_pos q]
    · rw [if_neg q, if_neg q, zm_may hn hj (by omega) hC h, z_bit01]
      exact ih _ _ (by omega)
theorem zc_jar {V X : Nat → Nat} {C : zCs} {c : zS} {t : zM} (h : zR V X C c t) (vi ai : Nat → Int32) {j : Nat} (hj : j < zn V) (x : Int64) : (f_X3_digestOfJar c.vr c.ar vi ai c.hd c.jc x (nI j)).1 = zDj V X C x j ∧ s_X3_digestOfJar c.hd c.jc x (nI j) := by
  have hn := zn_23 V
  have b := h.ok j (by omega)
  have e0 : f_X1_emptyAt c.ar (nI j) = zb01 (decide (X j = 0)) := by
    unfold f_X1_emptyAt
    rw [zr_amt (by omega), h.ar j (by omega)]
    show (if nI (X j) = nI 0 then (1 : Int32) else 0) = _
    rw [z_if_eq (by omega) (by omega)]; exact z_01 _ _
  have e1 : f_X1_fullAt c.vr c.ar (nI j) = zb01 (decide (X j = V j)) := by
    unfold f_X1_fullAt
    rw [zr_amt (by omega), zr_vol (by omega), h.ar j (by omega), h.vr j (by omega), z_if_eq (by omega) (by omega)]; exact z_01 _ _
  have e2 : f_X3_isOne (f_X0_volumesFor vi ai c.hd c.jc (nI j)).1 = zb01 (decide (zBc (zMay (zn V) C j) 9 = 1)) := by
    rw [h.jc]; exact zc_one hn hj h.cok h.cc vi ai
  constructor
  · unfold f_X3_digestOfJar f_X3_digestOfJar_t2 f_X3_digestOfJar_t1
    dsimp only
    rw [e0, e1, e2, z_oneIf01, z_oneIf01, z_oneIf01, zr_vol (by omega), zr_amt (by omega), h.vr j (by omega), h.ar j (by omega), h.jc]
    exact zc_jarVol hn (by omega) h.cok h.cc vi ai 10 1 _ (by omega)
  · unfold s_X3_digestOfJar
    rw [h.jc]; exact (zc_volumes hn (by omega) h.cok h.cc vi ai).2
theorem zc_jarLoop {V X : Nat → Nat} {C : zCs} {c : zS} {t : zM} (h : zR V X C c t) : ∀ (m k : Nat) (vi ai : Nat → Int32) (x : Int64), k + m = zn V + 1 → (lf_X3_digest_150 m k c.vr c.ar vi ai c.hd c.jc x).2.2 = zDjs V X C m k x ∧ sf_X3_digest_150 m k c.vr c.ar vi ai c.hd c.jc x := by
  have hn := zn_23 V
  intro m
  induction m with
  | zero => intro k vi ai x _; exact ⟨rfl, trivial⟩
  | succ m ih =>
    intro k vi ai x hk
    rw [lf_X3_digest_150_succ, sf_X3_digest_150_succ, zr_count h.vr h.h9]
    unfold zDjs
    by_cases q : zn V ≤ k
    · have q2 : nI (zn V) ≤ nI k := nI_le q (by omega)
      rw [if_pos q, if_pos q2]
      exact ⟨rfl, fun _ => trivial, fun z => absurd q2 z⟩
    · have q2 : ¬ nI (zn V) ≤ nI k := nI_ge (by omega) (by omega)
      have J := zc_jar h vi ai (j := k) (by omega) x
      rw [if_neg q, if_neg q2, J.1]
      have r := ih (k + 1) (f_X3_digestOfJar c.vr c.ar vi ai c.hd c.jc x (nI k)).2.1 (f_X3_digestOfJar c.vr c.ar vi ai c.hd c.jc x (nI k)).2.2 (zDj V X C x k) (by omega)
      exact ⟨r.1, fun z => absurd z q2, fun _ => ⟨J.2, r.2⟩⟩
theorem zm_jarLoop {V X : Nat → Nat} {C : zCs} {c : zS} {t : zM} (h : zR V X C c t) : ∀ (m k : Nat) (x : Int64), k + m = zn V + 1 → lf_X4_digest_148 m k t.js t.mv t.ma t.ml x = zDjs V X C m k x ∧ sf_X4_digest_148 m k t.js t.mv t.ma := by
  have hn := zn_23 V
  intro m
  induction m with
  | zero => intro k x _; exact ⟨rfl, trivial⟩
  | succ m ih =>
    intro k x hk
    rw [lf_X4_digest_148_succ, sf_X4_digest_148_succ]
    unfold zDjs
    by_cases q : zn V ≤ k
    · have q2 : t.js ≤ nI k := by rw [h.js]; exact nI_le q (by omega)
      rw [if_pos q, if_pos q2]
      exact ⟨rfl, fun _ => trivial, fun z => absurd q2 z⟩
    · have q2 : ¬ t.js ≤ nI k := by rw [h.js]; exact nI_ge (by omega) (by omega)
      have b := h.ok k (by omega)
      have i3 : vp_in (nI k) 3 := vp_in_nI (by omega) (by omega)
      have ev : t.mv (nI k).toNatClampNeg = nI (V k) := by rw [nI_clamp (by omega), h.mv k (by omega)]
      have ea : t.ma (nI k).toNatClampNeg = nI (X k) := by rw [nI_clamp (by omega), h.ma k (by omega)]
      have ek : f_X4_known t.ml (nI k) = zb01 (decide (zBc (zMay (zn V) C k) 9 = 1)) := zm_known hn (by omega) h.cok h.cm
      have ezero : (nI (X k) = (0 : Int32)) ↔ X k = 0 := by rw [zl0]; exact nI_eq (by omega) (by omega)
      have efull : (nI (X k) = nI (V k)) ↔ X k = V k := nI_eq (by omega) (by omega)
      have key : ∀ d : Int64, d = (((x * 31 + (nI (V k)).toInt64) * 31 + (nI (X k)).toInt64) * 31 + (zb01 (decide (X k = 0))).toInt64) * 31 + (zb01 (decide (X k = V k))).toInt64 → lf_X4_digest_262 10 1 t.ml (d * 31 + (f_X4_bit (f_X4_known t.ml (nI k))).toInt64) (nI k) = zDj V X C x k := by
        intro d hd
        rw [hd, ek, z_bit01]
        exact zm_jarVol hn (by omega) h.cok h.cm 10 1 _ (by omega)
      have r := ih (k + 1) (zDj V X C x k) (by omega)
      rw [if_neg q, if_neg q2, ea, ev]
      refine ⟨?_, fun z => absurd z q2, fun _ => ⟨i3, i3, i3, fun _ => ⟨i3, i3, fun _ => r.2, fun _ => r.2⟩, fun _ => ⟨i3, i3, fun _ => r.2, fun _ => r.2⟩⟩⟩
      by_cases z0 : X k = 0
      · rw [if_pos (ezero.mpr z0)]
        by_cases z1 : X k = V k
        · rw [if_pos (efull.mpr z1), key _ (by unfold f_X4_digest_t20; rw [ev, ea, decide_eq_true z0, decide_eq_true z1]; rfl)]
          exact r.1
        · rw [if_neg (fun z => z1 (efull.mp z)), key _ (by unfold f_X4_digest_t19; rw [ev, ea, decide_eq_true z0, decide_eq_false z1]; rfl)]
          exact r.1
      · rw [if_neg (fun z => z0 (ezero.mp z))]
        by_cases z1 : X k = V k
        · rw [if_pos (efull.mpr z1), key _ (by unfold f_X4_digest_t18; rw [ev, ea, decide_eq_false z0, decide_eq_true z1]; rfl)]
          exact r.1
        · rw [if_neg (fun z => z1 (efull.mp z)), key _ (by unfold f_X4_digest_t17; rw [ev, ea, decide_eq_false z0, decide_eq_false z1]; rfl)]
          exact r.1
/-- the head of the digest -/
def zHd (a0 a1 a2 a3 a4 a5 a6 a7 a8 a9 a10 a11 : Int32) (x : Int64) : Int64 := (((((((((((x * 31 + a0.toInt64) * 31 + a1.toInt64) * 31 + a2.toInt64) * 31 + a3.toInt64) * 31 + a4.toInt64) * 31 + a5.toInt64) * 31 + a6.toInt64) * 31 + a7.toInt64) * 31 + a8.toInt64) * 31 + a9.toInt64) * 31 + a10.toInt64) * 31 + a11.toInt64
theorem zm_head (dl : Nat → Int32) (x : Int64) : lf_X4_digest_115 13 0 dl x = zHd (dl 0) (dl 1) (dl 2) (dl 3) (dl 4) (dl 5) (dl 6) (dl 7) (dl 8) (dl 9) (dl 10) (dl 11) x := by
  have e : ∀ k, k < 12 → (nI k).toNatClampNeg = k := fun k hk => nI_clamp (by omega)
  have s : ∀ (m k : Nat) (y : Int64), k < 12 → lf_X4_digest_115 (m + 1) k dl y = lf_X4_digest_115 m (k + 1) dl (y * 31 + (dl k).toInt64) := by
    intro m k y hk
    have h : ¬ (12 : Int32) ≤ nI k := nI_ge (a := k) (b := 12) hk (by decide)
    rw [lf_X4_digest_115_succ, if_neg h, e k hk]
  rw [s 12 0 _ (by omega), s 11 1 _ (by omega), s 10 2 _ (by omega), s 9 3 _ (by omega), s 8 4 _ (by omega), s 7 5 _ (by omega), s 6 6 _ (by omega), s 5 7 _ (by omega), s 4 8 _ (by omega), s 3 9 _ (by omega), s 2 10 _ (by omega), s 1 11 _ (by omega), lf_X4_digest_115_succ, if_pos (show (12 : Int32) ≤ nI (11 + 1) by decide)]
  rfl
theorem zm_dl (a0 a1 a2 a3 a4 a5 a6 a7 a8 a9 a10 a11 : Int32) (x : Int64) : lf_X4_digest_115 13 0 (upd (upd (upd (upd (upd (upd (upd (upd (upd (upd (upd (upd (fun _ => 0) (0 : Int32).toNatClampNeg a0) (1 : Int32).toNatClampNeg a1) (2 : Int32).toNatClampNeg a2) (3 : Int32).toNatClampNeg a3) (4 : Int32).toNatClampNeg a4) (5 : Int32).toNatClampNeg a5) (6 : Int32).toNatClampNeg a6) (7 : Int32).toNatClampNeg a7) (8 : Int32).toNatClampNeg a8) (9 : Int32).toNatClampNeg a9) (10 : Int32).toNatClampNeg a10) (11 : Int32).toNatClampNeg a11) x = zHd a0 a1 a2 a3 a4 a5 a6 a7 a8 a9 a10 a11 x := by
  rw [zm_head]
  rfl
