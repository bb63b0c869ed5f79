/-! answers from the ways, the digest, following: rows as for the whole -/
theorem z_pourAct {V : Nat → Nat} {j k : Nat} (hj : j < zn V) (hk : k < zn V) (hne : ¬ j = k) : 6 + 3 * j + k < 15 ∧ zal (zn V) (6 + 3 * j + k) ∧ 6 + 3 * nI j + nI k = nI (6 + 3 * j + k) := by
  have hz := zn_23 V
  refine ⟨by omega, ?_, by rw [zl3, zl6, pk_mul, nI_add, nI_add]⟩
  unfold zal
  rw [if_neg (by omega), if_neg (by omega)]
  have e1 : (6 + 3 * j + k - 6) / 3 = j := by omega
  have e2 : (6 + 3 * j + k - 6) % 3 = k := by omega
  rw [e1, e2]
  exact ⟨hj, hk, hne⟩
theorem zNm_729 {n : Nat} {C : zCs} : zNm C 729 ≤ 729 := zNm_le C 729
/-! a guess; jars laid out -/
theorem z_learn_eq (vi ai hd : Nat → Int32) (jc lf x1 x2 x3 : Int32) : (f_X0_learn vi ai hd jc lf x1 x2 x3).2.2.1 = (lf_X0_learn_3 730 0 vi ai hd jc lf x1 x2 x3).2.2.1 ∧ (f_X0_learn vi ai hd jc lf x1 x2 x3).2.2.2 = (lf_X0_learn_3 730 0 vi ai hd jc lf x1 x2 x3).2.2.2 := by
  unfold f_X0_learn
  generalize lf_X0_learn_3 730 0 vi ai hd jc lf x1 x2 x3 = d
  exact ⟨rfl, rfl⟩
/-- three volumes -/
def zV3 (a b d j : Nat) : Nat := if j = 0 then a else if j = 1 then b else d
/-- both lay out the jars -/
theorem zE3_lay {mv : Nat → Int32} (a b d : Nat) : zE3 (upd (upd (upd mv (0 : Int32).toNatClampNeg (nI a)) (1 : Int32).toNatClampNeg (nI b)) (2 : Int32).toNatClampNeg (nI d)) (zV3 a b d) := by
  intro j hj
  rcases z_j3 hj with rfl | rfl | rfl <;> rfl
theorem zV3_ok {a b d : Nat} (ha : a ≤ 9) (hb : b ≤ 9) (hd : d ≤ 9) : zOK (zV3 a b d) (fun _ => 0) := by
  intro j hj
  refine ⟨Nat.zero_le _, ?_⟩
  unfold zV3; split
  · exact ha
  · split
    · exact hb
    · exact hd
/-! answers from the ways -/
theorem z_ways_eq (vr ar vs as ds fa od : Nat → Int32) (rd : Int32) : f_X3_waysFromHere vr ar vs as ds fa od rd = f_X2_explore vs as ds fa od rd vr ar := by
  unfold f_X3_waysFromHere
  generalize f_X2_explore vs as ds fa od rd vr ar = d
  rfl
def zW (c : zS) : (Nat → Int32) × (Nat → Int32) × (Nat → Int32) × (Nat → Int32) × (Nat → Int32) × Int32 := f_X3_waysFromHere c.vr c.ar c.vs c.asF c.ds c.fa c.od c.rd
theorem zR.gd {V X : Nat → Nat} {C : zCs} {c : zS} {t : zU} (h : zR V X C c t) : zGd V (zBFS V (zst X)) ∧ zst X < 1000 ∧ zOK V (zdg (zst X)) := by
  have hs := zst_lt h.ok
  have ok2 : zOK V (zdg (zst X)) := h.ok.congr (fun j hj => (zdg_st h.ok hj).symm)
  exact ⟨zGd_BFS hs ok2, hs, ok2⟩
theorem zR.w {V X : Nat → Nat} {C : zCs} {c : zS} {t : zU} (h : zR V X C c t) : s_X3_waysFromHere c.vr c.ar c.vs c.asF c.ds c.fa c.od c.rd ∧ zE3 (zW c).1 V ∧ zWc (zBFS V (zst X)) (zW c).2.2.1 (zW c).2.2.2.1 (zW c).2.2.2.2.1 (zW c).2.2.2.2.2 ∧ ∀ as : Nat → Int32, zR V X C (c.vr, c.ar, (zW c).1, as, (zW c).2.2.1, (zW c).2.2.2.1, (zW c).2.2.2.2.1, (zW c).2.2.2.2.2, c.vi, c.ai, c.hd, c.sn, c.jc, c.lf, c.ad, c.pd, c.sp, c.tk, c.gm, c.gw) t := by
  have E := zc_explore (as := c.asF) h.vr h.ar h.ok h.pv h.ws
  have e : zW c = f_X2_explore c.vs c.asF c.ds c.fa c.od c.rd c.vr c.ar := z_ways_eq ..
  rw [← e] at E
  have G := h.gd.1
  have hl := zGd_len G
  have h0 := zBFS_len V (zst X)
  generalize zW c = W at E ⊢
  refine ⟨E.2, E.1.1, E.1.2, fun as => ⟨h.1, h.cok, h.vr, h.ar, h.jc, h.cc, h.lf, h.ad, h.pd, h.sp, h.tk, h.gm, h.gw, Or.inr ⟨E.1, ?_⟩⟩⟩
  have e2 : W.2.2.2.2.2 = nI (zBFS V (zst X)).length := E.1.2.1
  show (0 : Int32) < W.2.2.2.2.2
  rw [e2, zl0]
  exact nI_lt h0 (by omega)
/-- the first state with an amount -/
def zTv (V : Nat → Nat) (v : Nat) : Nat → Bool := fun t => zhas (zn V) (zdg t) v
def zF (V X : Nat → Nat) (v : Nat) : Option (Nat × Nat × Nat) := zFst (zBFS V (zst X)) (zTv V v)
theorem zF_lt {V X : Nat → Nat} {C : zCs} {c : zS} {t : zU} (h : zR V X C c t) {v : Nat} {e : Nat × Nat × Nat} (he : zF V X v = some e) : e.2.1 < 1000 ∧ e.2.2 < 15 := by
  obtain ⟨i, hi, -⟩ := zFst_some he
  have G := h.gd.1
  have g := G.2 i e hi
  have hl := zGd_len G
  have := (List.getElem?_eq_some_iff.mp hi).1
  exact ⟨by omega, g.2.2.2.2⟩
/-! the next act; how many amounts; the mean -/
theorem zDi_cases (o : Option (Nat × Nat × Nat)) (hb : ∀ e, o = some e → e.2.1 < 1000) : (∃ e, o = some e ∧ 0 < e.2.1 ∧ zDi o = nI e.2.1 ∧ (0 : Int32) < zDi o ∧ (1 : Int32) ≤ zDi o) ∨ (¬ (0 : Int32) < zDi o ∧ ¬ (1 : Int32) ≤ zDi o) := by
  cases o with
  | none => exact Or.inr ⟨by decide, by decide⟩
  | some e =>
    have b := hb e rfl
    have e1 : zDi (some e) = nI e.2.1 := rfl
    by_cases q : e.2.1 = 0
    · right; rw [e1, q]; decide
    · left
      refine ⟨e, rfl, by omega, e1, ?_, ?_⟩
      · rw [e1, zl0]; exact nI_lt (by omega) (by omega)
      · rw [e1, zl1]; exact nI_le (by omega) (by omega)
/-- how many of the amounts can be had -/
def zgA (V : Nat → Nat) (L : zL) (v : Nat) : Int32 := zDi (zFst L (fun t => zhas (zn V) (zdg t) v))
def zAmn (g : Nat → Int32) : Nat → Nat → Int32 → Int32
  | 0, _, x => x
  | n + 1, k, x => if 9 < k then x else zAmn g n (k + 1) (if g k = -1 then x else x + 1)
theorem zc_amLoop {V : Nat → Nat} {vs ds fa od : Nat → Int32} {rd : Int32} {L : zL} (hv : zE3 vs V) (hW : zWc L ds fa od rd) (hG : zGd V L) : ∀ (n k : Nat) (as : Nat → Int32) (x : Int32), k + n = 11 → (lf_X3_amountsToHave_9 n k vs as ds od rd x).2 = zAmn (zgA V L) n k x := by
  intro n
  induction n with
  | zero => intro k as x _; rfl
  | succ n ih =>
    intro k as x hk
    rw [lf_X3_amountsToHave_9_succ, zl9, z_if_lt (by omega) (by omega)]
    unfold zAmn
    by_cases q : 9 < k
    · rw [if_pos q, if_pos q]
    · rw [if_neg q, if_neg q]
      have e1 : (f_X2_leastActsTo vs as ds od rd (nI k)).1 = zgA V L k := zc_least hv hW hG as (by omega)
      rw [e1]
      by_cases q2 : zgA V L k = -1
      · rw [if_pos q2, if_pos q2]; exact ih _ _ _ (by omega)
      · rw [if_neg q2, if_neg q2]; exact ih _ _ _ (by omega)
theorem zR.am {V X : Nat → Nat} {C : zCs} {c : zS} {t : zU} (h : zR V X C c t) : (f_X3_amountsToHave c.vr c.ar c.vs c.asF c.ds c.fa c.od c.rd).1 = zAmn (zgA V (zBFS V (zst X))) 11 0 0 ∧ s_X3_amountsToHave c.vr c.ar c.vs c.asF c.ds c.fa c.od c.rd := by
  have w := h.w
  refine ⟨?_, w.1⟩
  rw [f_X3_amountsToHave_eq]
  dsimp only
  unfold f_X3_amountsToHave_t2
  exact zc_amLoop w.2.1 w.2.2.1 h.gd.1 11 0 _ _ (by omega)
/-- the mean is a number -/
theorem z_mean2 : ∀ k, k < 28 → FP.ddiv (FP.i2d (nI k)) (4611686018427387904 : UInt64) &&& 0x7fffffffffffffff ≤ (0x7ff0000000000000 : UInt64) := by decide +kernel
theorem z_mean3 : ∀ k, k < 28 → FP.ddiv (FP.i2d (nI k)) (4613937818241073152 : UInt64) &&& 0x7fffffffffffffff ≤ (0x7ff0000000000000 : UInt64) := by decide +kernel
theorem z_two : FP.i2d (nI 2) = (4611686018427387904 : UInt64) := by decide +kernel
theorem z_three : FP.i2d (nI 3) = (4613937818241073152 : UInt64) := by decide +kernel
/-! the digest -/
def zDg (g : Nat → Int32) : Nat → Nat → Int64 → Int64
  | 0, _, x => x
  | n + 1, k, x => if 9 < k then x else zDg g n (k + 1) (x * 31 + (g k).toInt64)
def zLd (n k : Nat) (c : zS) (x : Int64) : (Nat → Int32) × (Nat → Int32) × (Nat → Int32) × (Nat → Int32) × (Nat → Int32) × Int32 × Int64 := lf_X3_digest_176 n k c.vr c.ar c.vs c.asF c.ds c.fa c.od c.rd x
def zc19 (c : zS) (k : Nat) : zS := (c.vr, c.ar, (zW c).1, f_X3_digest_t19 c.vr c.ar c.vs c.asF c.ds c.fa c.od c.rd k, (zW c).2.2.1, (zW c).2.2.2.1, (zW c).2.2.2.2.1, (zW c).2.2.2.2.2, c.vi, c.ai, c.hd, c.sn, c.jc, c.lf, c.ad, c.pd, c.sp, c.tk, c.gm, c.gw)
theorem zLd_pos {n k : Nat} {c : zS} {x : Int64} (q : (9 : Int32) < nI k) : zLd (n + 1) k c x = (c.vs, c.asF, c.ds, c.fa, c.od, c.rd, x) := by
  unfold zLd
  rw [lf_X3_digest_176_succ, if_pos q]
theorem zLd_neg {n k : Nat} {c : zS} {x : Int64} (q : ¬ (9 : Int32) < nI k) : zLd (n + 1) k c x = zLd n (k + 1) (zc19 c k) (x * 31 + (f_X3_digest_t20 c.vr c.ar c.vs c.asF c.ds c.fa c.od c.rd k).toInt64) := by
  unfold zLd
  rw [lf_X3_digest_176_succ, if_neg q]
  rfl
theorem zc_dgLoop {V X : Nat → Nat} {C : zCs} {t : zU} : ∀ (n k : Nat) (c : zS) (x : Int64), zR V X C c t → k + n = 11 → (zLd n k c x).2.2.2.2.2.2 = zDg (zgA V (zBFS V (zst X))) n k x ∧ sf_X3_digest_176 n k c.vr c.ar c.vs c.asF c.ds c.fa c.od c.rd ∧ ∀ as vi ai sn : Nat → Int32, zR V X C (c.vr, c.ar, (zLd n k c x).1, as, (zLd n k c x).2.2.1, (zLd n k c x).2.2.2.1, (zLd n k c x).2.2.2.2.1, (zLd n k c x).2.2.2.2.2.1, vi, ai, c.hd, sn, c.jc, c.lf, c.ad, c.pd, c.sp, c.tk, c.gm, c.gw) t := by
  intro n
  induction n with
  | zero => intro k c x h _; exact ⟨rfl, trivial, fun as vi ai sn => zR.g2 h as vi ai sn⟩
  | succ n ih =>
    intro k c x h hk
    by_cases q : 9 < k
    · have q2 : (9 : Int32) < nI k := by rw [zl9]; exact nI_lt q (by omega)
      rw [zLd_pos q2, sf_X3_digest_176_succ]
      unfold zDg
      rw [if_pos q]
      exact ⟨rfl, ⟨fun _ => trivial, fun z => absurd q2 z⟩, fun as vi ai sn => zR.g2 h as vi ai sn⟩
    · have q2 : ¬ (9 : Int32) < nI k := by rw [zl9]; intro z; exact absurd z (Int32.not_lt.mpr (nI_le (by omega) (by omega)))
      have w := h.w
      have h' : zR V X C (zc19 c k) t := w.2.2.2 (f_X3_digest_t19 c.vr c.ar c.vs c.asF c.ds c.fa c.od c.rd k)
      have e : f_X3_digest_t20 c.vr c.ar c.vs c.asF c.ds c.fa c.od c.rd k = zgA V (zBFS V (zst X)) k := by
        unfold f_X3_digest_t20
        exact zc_least w.2.1 w.2.2.1 h.gd.1 _ (by omega)
      have r := ih (k + 1) (zc19 c k) (x * 31 + (f_X3_digest_t20 c.vr c.ar c.vs c.asF c.ds c.fa c.od c.rd k).toInt64) h' (by omega)
      rw [zLd_neg q2, sf_X3_digest_176_succ]
      unfold zDg
      rw [if_neg q, ← e]
      exact ⟨r.1, ⟨fun z => absurd z q2, fun _ => ⟨w.1, r.2.1⟩⟩, r.2.2⟩
/-- a jar of the digest -/
def zDv (n : Nat) (C : zCs) (j : Nat) : Nat → Nat → Int64 → Int64
  | 0, _, x => x
  | m + 1, k, x => if 9 < k then x else zDv n C j m (k + 1) (x * 31 + (zb01 (zMay n C j k)).toInt64)
def zDj (V X : Nat → Nat) (C : zCs) (x : Int64) (j : Nat) : Int64 := zDv (zn V) C j 10 1 ((((((x * 31 + (nI (V j)).toInt64) * 31 + (nI (X j)).toInt64) * 31 + (zb01 (decide (X j = 0))).toInt64) * 31 + (zb01 (decide (X j = V j))).toInt64) * 31) + (zb01 (decide (zBc (zMay (zn V) C j) 9 = 1))).toInt64)
def zDjs (V X : Nat → Nat) (C : zCs) : Nat → Nat → Int64 → Int64
  | 0, _, x => x
  | m + 1, k, x => if zn V ≤ k then x else zDjs V X C m (k + 1) (zDj V X C x k)
theorem z_oneIf01 (b : Bool) : f_X3_oneIf (zb01 b) = zb01 b := by cases b <;> decide
theorem z_01 (a b : Nat) : (if a = b then (1 : Int32) else 0) = zb01 (decide (a = b)) := by
  by_cases q : a = b
  · rw [if_pos q, decide_eq_true q]; rfl
  · rw [if_neg q, decide_eq_false q]; rfl
theorem zc_jarVol {C : zCs} {n j : Nat} (hn : n = 2 ∨ n = 3) (hj : j < 3) (hC : zCok n C) {hd : Nat → Int32} (h : zCc C hd) (vi ai : Nat → Int32) : ∀ (m k : Nat) (x : Int64), k + m = 11 → lf_X3_digestOfJar_112 m k (f_X0_volumesFor vi ai hd (nI n) (nI j)).1 x = zDv n C j m k x := by
  intro m
  induction m with
  | zero => intro k x _; rfl
  | succ m ih =>
    intro k x hk
    rw [lf_X3_digestOfJar_112_succ, zl9, z_if_lt (by omega) (by omega)]
    unfold zDv
    by_cases q : 9 < k
    · rw [if_pos q, if_pos q]
    · rw [if_neg q, if_neg q, zc_among hn hj (by omega) hC h vi ai, z_oneIf01]
      exact ih _ _ (by omega)
theorem zc_jar {V X : Nat → Nat} {C : zCs} {c : zS} {t : zU} (h : zR V X C c t) (vi ai : Nat → Int32) {j : Nat} (hj : j < zn V) (x : Int64) : (f_X3_digestOfJar c.vr c.ar vi ai c.hd c.jc x (nI j)).1 = zDj V X C x j ∧ s_X3_digestOfJar c.hd c.jc x (nI j) := by
  have hn := zn_23 V
  have b := h.ok j (by omega)
  have e0 : f_X1_emptyAt c.ar (nI j) = zb01 (decide (X j = 0)) := by
    unfold f_X1_emptyAt
    rw [zr_amt (by omega), h.ar j (by omega)]
    show (if nI (X j) = nI 0 then (1 : Int32) else 0) = _
    rw [z_if_eq (by omega) (by omega)]; exact z_01 _ _
  have e1 : f_X1_fullAt c.vr c.ar (nI j) = zb01 (decide (X j = V j)) := by
    unfold f_X1_fullAt
    rw [zr_amt (by omega), zr_vol (by omega), h.ar j (by omega), h.vr j (by omega), z_if_eq (by omega) (by omega)]; exact z_01 _ _
  have e2 : f_X3_isOne (f_X0_volumesFor vi ai c.hd c.jc (nI j)).1 = zb01 (decide (zBc (zMay (zn V) C j) 9 = 1)) := by
    rw [h.jc]; exact zc_one hn hj h.cok h.cc vi ai
  constructor
  · unfold f_X3_digestOfJar f_X3_digestOfJar_t2 f_X3_digestOfJar_t1
    dsimp only
    rw [e0, e1, e2, z_oneIf01, z_oneIf01, z_oneIf01, zr_vol (by omega), zr_amt (by omega), h.vr j (by omega), h.ar j (by omega), h.jc]
    exact zc_jarVol hn (by omega) h.cok h.cc vi ai 10 1 _ (by omega)
  · unfold s_X3_digestOfJar
    rw [h.jc]; exact (zc_volumes hn (by omega) h.cok h.cc vi ai).2
theorem zc_jarLoop {V X : Nat → Nat} {C : zCs} {c : zS} {t : zU} (h : zR V X C c t) : ∀ (m k : Nat) (vi ai : Nat → Int32) (x : Int64), k + m = zn V + 1 → (lf_X3_digest_150 m k c.vr c.ar vi ai c.hd c.jc x).2.2 = zDjs V X C m k x ∧ sf_X3_digest_150 m k c.vr c.ar vi ai c.hd c.jc x := by
  have hn := zn_23 V
  intro m
  induction m with
  | zero => intro k vi ai x _; exact ⟨rfl, trivial⟩
  | succ m ih =>
    intro k vi ai x hk
    rw [lf_X3_digest_150_succ, sf_X3_digest_150_succ, zr_count h.vr h.h9]
    unfold zDjs
    by_cases q : zn V ≤ k
    · have q2 : nI (zn V) ≤ nI k := nI_le q (by omega)
      rw [if_pos q, if_pos q2]
      exact ⟨rfl, fun _ => trivial, fun z => absurd q2 z⟩
    · have q2 : ¬ nI (zn V) ≤ nI k := nI_ge (by omega) (by omega)
      have J := zc_jar h vi ai (j := k) (by omega) x
      rw [if_neg q, if_neg q2, J.1]
      have r := ih (k + 1) (f_X3_digestOfJar c.vr c.ar vi ai c.hd c.jc x (nI k)).2.1 (f_X3_digestOfJar c.vr c.ar vi ai c.hd c.jc x (nI k)).2.2 (zDj V X C x k) (by omega)
      exact ⟨r.1, fun z => absurd z q2, fun _ => ⟨J.2, r.2⟩⟩
/-- the head of the digest -/
def zHd (a0 a1 a2 a3 a4 a5 a6 a7 a8 a9 a10 a11 : Int32) (x : Int64) : Int64 := (((((((((((x * 31 + a0.toInt64) * 31 + a1.toInt64) * 31 + a2.toInt64) * 31 + a3.toInt64) * 31 + a4.toInt64) * 31 + a5.toInt64) * 31 + a6.toInt64) * 31 + a7.toInt64) * 31 + a8.toInt64) * 31 + a9.toInt64) * 31 + a10.toInt64) * 31 + a11.toInt64
/-! the digests of both are the same -/
def zFr (L : zL) : Int32 := match L[L.length - 1]? with
  | some e => nI e.2.1
  | none => 0
theorem zFr_ex {L : zL} (h : 0 < L.length) : ∃ e, L[L.length - 1]? = some e ∧ zFr L = nI e.2.1 := by
  have he : L[L.length - 1]? = some (L[L.length - 1]'(by omega)) := List.getElem?_eq_getElem (by omega)
  exact ⟨_, he, by unfold zFr; rw [he]⟩
theorem zR.sr {V X : Nat → Nat} {C : zCs} {c : zS} {t : zU} (h : zR V X C c t) : (f_X3_statesToReach c.vr c.ar c.vs c.asF c.ds c.fa c.od c.rd).1 = nI (zBFS V (zst X)).length ∧ s_X3_statesToReach c.vr c.ar c.vs c.asF c.ds c.fa c.od c.rd := by
  have w := h.w
  exact ⟨w.2.2.1.1, w.1⟩
theorem zR.fr {V X : Nat → Nat} {C : zCs} {c : zS} {t : zU} (h : zR V X C c t) : (f_X3_farthest c.vr c.ar c.vs c.asF c.ds c.fa c.od c.rd).1 = zFr (zBFS V (zst X)) ∧ s_X3_farthest c.vr c.ar c.vs c.asF c.ds c.fa c.od c.rd := by
  have w := h.w
  obtain ⟨e, he, e2⟩ := zFr_ex (zBFS_len V (zst X))
  refine ⟨?_, w.1⟩
  rw [e2, f_X3_farthest_eq]
  dsimp only
  unfold f_X3_farthest_t1
  exact zc_far w.2.2.1 h.gd.1 (zBFS_len V (zst X)) he
/-- the object behind amountsToHave, statesToReach, farthest -/
def zaf (c : zS) : Int32 × (Nat → Int32) × (Nat → Int32) × (Nat → Int32) × (Nat → Int32) × (Nat → Int32) × Int32 := f_X3_amountsToHave c.vr c.ar c.vs c.asF c.ds c.fa c.od c.rd
def zsf (c : zS) : Int32 × (Nat → Int32) × (Nat → Int32) × (Nat → Int32) × (Nat → Int32) × (Nat → Int32) × Int32 := f_X3_statesToReach c.vr c.ar c.vs c.asF c.ds c.fa c.od c.rd
def zff (c : zS) : Int32 × (Nat → Int32) × (Nat → Int32) × (Nat → Int32) × (Nat → Int32) × (Nat → Int32) × Int32 := f_X3_farthest c.vr c.ar c.vs c.asF c.ds c.fa c.od c.rd
def zd1 (c : zS) : zS := (c.vr, c.ar, (zaf c).2.1, (zaf c).2.2.1, (zaf c).2.2.2.1, (zaf c).2.2.2.2.1, (zaf c).2.2.2.2.2.1, (zaf c).2.2.2.2.2.2, c.vi, c.ai, c.hd, c.sn, c.jc, c.lf, c.ad, c.pd, c.sp, c.tk, c.gm, c.gw)
def zd2 (c : zS) : zS := (c.vr, c.ar, (zsf c).2.1, (zsf c).2.2.1, (zsf c).2.2.2.1, (zsf c).2.2.2.2.1, (zsf c).2.2.2.2.2.1, (zsf c).2.2.2.2.2.2, c.vi, c.ai, c.hd, c.sn, c.jc, c.lf, c.ad, c.pd, c.sp, c.tk, c.gm, c.gw)
theorem zd_vr (c : zS) : (zd2 (zd1 c)).vr = c.vr ∧ (zd2 (zd1 c)).ar = c.ar := by unfold zd2 zd1; exact ⟨rfl, rfl⟩
def zd3 (c : zS) : zS := (c.vr, c.ar, (zff c).2.1, (zff c).2.2.1, (zff c).2.2.2.1, (zff c).2.2.2.2.1, (zff c).2.2.2.2.2.1, (zff c).2.2.2.2.2.2, c.vi, c.ai, c.hd, c.sn, c.jc, c.lf, c.ad, c.pd, c.sp, c.tk, c.gm, c.gw)
theorem zR.d1 {V X : Nat → Nat} {C : zCs} {c : zS} {t : zU} (h : zR V X C c t) : zR V X C (zd1 c) t := by
  unfold zd1 zaf f_X3_amountsToHave
  dsimp only
  exact h.w.2.2.2 _
theorem zR.d2 {V X : Nat → Nat} {C : zCs} {c : zS} {t : zU} (h : zR V X C c t) : zR V X C (zd2 c) t := by
  unfold zd2 zsf f_X3_statesToReach
  dsimp only
  exact h.w.2.2.2 _
theorem zR.d3 {V X : Nat → Nat} {C : zCs} {c : zS} {t : zU} (h : zR V X C c t) : zR V X C (zd3 c) t := by
  unfold zd3 zff f_X3_farthest
  dsimp only
  exact h.w.2.2.2 _
def zD1 (c : zS) : Int64 := f_X3_digest_t18 c.vr c.ar c.vs c.asF c.ds c.fa c.od c.rd c.lf c.ad c.pd c.sp c.tk c.gm c.gw
def zD2 (c : zS) : (Nat → Int32) × (Nat → Int32) × Int64 := lf_X3_digest_150 ((f_X1_count c.vr).toNatClampNeg + 1) 0 c.vr c.ar c.vi c.ai c.hd c.jc (zD1 c)
def zD3 (c : zS) : (Nat → Int32) × (Nat → Int32) × (Nat → Int32) × (Nat → Int32) × (Nat → Int32) × Int32 × Int64 := zLd 11 0 (zd3 (zd2 (zd1 c))) (zD2 c).2.2
theorem zd_t4 (c : zS) : f_X3_digest_t4 c.vr c.ar c.vs c.asF c.ds c.fa c.od c.rd = (zd2 (zd1 c)).vs := by
  unfold f_X3_digest_t4 zd2 zsf zd1 zaf
  dsimp only [zS.vr, zS.ar, zS.vs, zS.asF, zS.ds, zS.fa, zS.od, zS.rd, zS.vi, zS.ai, zS.hd, zS.sn, zS.jc, zS.lf, zS.ad, zS.pd, zS.sp, zS.tk, zS.gm, zS.gw]
theorem zd_t5 (c : zS) : f_X3_digest_t5 c.vr c.ar c.vs c.asF c.ds c.fa c.od c.rd = (zd2 (zd1 c)).asF := by
  unfold f_X3_digest_t5 zd2 zsf zd1 zaf
  dsimp only [zS.vr, zS.ar, zS.vs, zS.asF, zS.ds, zS.fa, zS.od, zS.rd, zS.vi, zS.ai, zS.hd, zS.sn, zS.jc, zS.lf, zS.ad, zS.pd, zS.sp, zS.tk, zS.gm, zS.gw]
theorem zd_t6 (c : zS) : f_X3_digest_t6 c.vr c.ar c.vs c.asF c.ds c.fa c.od c.rd = (zd2 (zd1 c)).ds := by
  unfold f_X3_digest_t6 zd2 zsf zd1 zaf
  dsimp only [zS.vr, zS.ar, zS.vs, zS.asF, zS.ds, zS.fa, zS.od, zS.rd, zS.vi, zS.ai, zS.hd, zS.sn, zS.jc, zS.lf, zS.ad, zS.pd, zS.sp, zS.tk, zS.gm, zS.gw]
theorem zd_t7 (c : zS) : f_X3_digest_t7 c.vr c.ar c.vs c.asF c.ds c.fa c.od c.rd = (zd2 (zd1 c)).fa := by
  unfold f_X3_digest_t7 zd2 zsf zd1 zaf
  dsimp only [zS.vr, zS.ar, zS.vs, zS.asF, zS.ds, zS.fa, zS.od, zS.rd, zS.vi, zS.ai, zS.hd, zS.sn, zS.jc, zS.lf, zS.ad, zS.pd, zS.sp, zS.tk, zS.gm, zS.gw]
theorem zd_t8 (c : zS) : f_X3_digest_t8 c.vr c.ar c.vs c.asF c.ds c.fa c.od c.rd = (zd2 (zd1 c)).od := by
  unfold f_X3_digest_t8 zd2 zsf zd1 zaf
  dsimp only [zS.vr, zS.ar, zS.vs, zS.asF, zS.ds, zS.fa, zS.od, zS.rd, zS.vi, zS.ai, zS.hd, zS.sn, zS.jc, zS.lf, zS.ad, zS.pd, zS.sp, zS.tk, zS.gm, zS.gw]
theorem zd_t9 (c : zS) : f_X3_digest_t9 c.vr c.ar c.vs c.asF c.ds c.fa c.od c.rd = (zd2 (zd1 c)).rd := by
  unfold f_X3_digest_t9 zd2 zsf zd1 zaf
  dsimp only [zS.vr, zS.ar, zS.vs, zS.asF, zS.ds, zS.fa, zS.od, zS.rd, zS.vi, zS.ai, zS.hd, zS.sn, zS.jc, zS.lf, zS.ad, zS.pd, zS.sp, zS.tk, zS.gm, zS.gw]
theorem zd_t10 (c : zS) : f_X3_digest_t10 c.vr c.ar c.vs c.asF c.ds c.fa c.od c.rd = (zsf (zd1 c)).1 := by
  unfold f_X3_digest_t10 zsf zd1 zaf
  dsimp only [zS.vr, zS.ar, zS.vs, zS.asF, zS.ds, zS.fa, zS.od, zS.rd, zS.vi, zS.ai, zS.hd, zS.sn, zS.jc, zS.lf, zS.ad, zS.pd, zS.sp, zS.tk, zS.gm, zS.gw]
theorem zd_t11 (c : zS) : f_X3_digest_t11 c.vr c.ar c.vs c.asF c.ds c.fa c.od c.rd = (zd3 (zd2 (zd1 c))).vs := by
  unfold f_X3_digest_t11
  rw [zd_t4, zd_t5, zd_t6, zd_t7, zd_t8, zd_t9]
  rw [← (zd_vr c).1, ← (zd_vr c).2]
  unfold zd3 zff
  generalize zd2 (zd1 c) = d
  dsimp only [zS.vr, zS.ar, zS.vs, zS.asF, zS.ds, zS.fa, zS.od, zS.rd, zS.vi, zS.ai, zS.hd, zS.sn, zS.jc, zS.lf, zS.ad, zS.pd, zS.sp, zS.tk, zS.gm, zS.gw]
theorem zd_t12 (c : zS) : f_X3_digest_t12 c.vr c.ar c.vs c.asF c.ds c.fa c.od c.rd = (zd3 (zd2 (zd1 c))).asF := by
  unfold f_X3_digest_t12
  rw [zd_t4, zd_t5, zd_t6, zd_t7, zd_t8, zd_t9]
  rw [← (zd_vr c).1, ← (zd_vr c).2]
  unfold zd3 zff
  generalize zd2 (zd1 c) = d
  dsimp only [zS.vr, zS.ar, zS.vs, zS.asF, zS.ds, zS.fa, zS.od, zS.rd, zS.vi, zS.ai, zS.hd, zS.sn, zS.jc, zS.lf, zS.ad, zS.pd, zS.sp, zS.tk, zS.gm, zS.gw]
theorem zd_t13 (c : zS) : f_X3_digest_t13 c.vr c.ar c.vs c.asF c.ds c.fa c.od c.rd = (zd3 (zd2 (zd1 c))).ds := by
  unfold f_X3_digest_t13
  rw [zd_t4, zd_t5, zd_t6, zd_t7, zd_t8, zd_t9]
  rw [← (zd_vr c).1, ← (zd_vr c).2]
  unfold zd3 zff
  generalize zd2 (zd1 c) = d
  dsimp only [zS.vr, zS.ar, zS.vs, zS.asF, zS.ds, zS.fa, zS.od, zS.rd, zS.vi, zS.ai, zS.hd, zS.sn, zS.jc, zS.lf, zS.ad, zS.pd, zS.sp, zS.tk, zS.gm, zS.gw]
theorem zd_t14 (c : zS) : f_X3_digest_t14 c.vr c.ar c.vs c.asF c.ds c.fa c.od c.rd = (zd3 (zd2 (zd1 c))).fa := by
  unfold f_X3_digest_t14
  rw [zd_t4, zd_t5, zd_t6, zd_t7, zd_t8, zd_t9]
  rw [← (zd_vr c).1, ← (zd_vr c).2]
  unfold zd3 zff
  generalize zd2 (zd1 c) = d
  dsimp only [zS.vr, zS.ar, zS.vs, zS.asF, zS.ds, zS.fa, zS.od, zS.rd, zS.vi, zS.ai, zS.hd, zS.sn, zS.jc, zS.lf, zS.ad, zS.pd, zS.sp, zS.tk, zS.gm, zS.gw]
theorem zd_t15 (c : zS) : f_X3_digest_t15 c.vr c.ar c.vs c.asF c.ds c.fa c.od c.rd = (zd3 (zd2 (zd1 c))).od := by
  unfold f_X3_digest_t15
  rw [zd_t4, zd_t5, zd_t6, zd_t7, zd_t8, zd_t9]
  rw [← (zd_vr c).1, ← (zd_vr c).2]
  unfold zd3 zff
  generalize zd2 (zd1 c) = d
  dsimp only [zS.vr, zS.ar, zS.vs, zS.asF, zS.ds, zS.fa, zS.od, zS.rd, zS.vi, zS.ai, zS.hd, zS.sn, zS.jc, zS.lf, zS.ad, zS.pd, zS.sp, zS.tk, zS.gm, zS.gw]
theorem zd_t16 (c : zS) : f_X3_digest_t16 c.vr c.ar c.vs c.asF c.ds c.fa c.od c.rd = (zd3 (zd2 (zd1 c))).rd := by
  unfold f_X3_digest_t16
  rw [zd_t4, zd_t5, zd_t6, zd_t7, zd_t8, zd_t9]
  rw [← (zd_vr c).1, ← (zd_vr c).2]
  unfold zd3 zff
  generalize zd2 (zd1 c) = d
  dsimp only [zS.vr, zS.ar, zS.vs, zS.asF, zS.ds, zS.fa, zS.od, zS.rd, zS.vi, zS.ai, zS.hd, zS.sn, zS.jc, zS.lf, zS.ad, zS.pd, zS.sp, zS.tk, zS.gm, zS.gw]
theorem zd_t17 (c : zS) : f_X3_digest_t17 c.vr c.ar c.vs c.asF c.ds c.fa c.od c.rd = (zff (zd2 (zd1 c))).1 := by
  unfold f_X3_digest_t17
  rw [zd_t4, zd_t5, zd_t6, zd_t7, zd_t8, zd_t9]
  rw [← (zd_vr c).1, ← (zd_vr c).2]
  unfold zff
  generalize zd2 (zd1 c) = d
  dsimp only [zS.vr, zS.ar, zS.vs, zS.asF, zS.ds, zS.fa, zS.od, zS.rd, zS.vi, zS.ai, zS.hd, zS.sn, zS.jc, zS.lf, zS.ad, zS.pd, zS.sp, zS.tk, zS.gm, zS.gw]
theorem zd_v3 (c : zS) : (zd3 (zd2 (zd1 c))).vr = c.vr ∧ (zd3 (zd2 (zd1 c))).ar = c.ar := by unfold zd3 zd2 zd1; exact ⟨rfl, rfl⟩
theorem zd_f (c : zS) : f_X3_digest c.vr c.ar c.vs c.asF c.ds c.fa c.od c.rd c.vi c.ai c.hd c.jc c.lf c.ad c.pd c.sp c.tk c.gm c.gw = ((zD3 c).2.2.2.2.2.2, (zD3 c).1, (zD3 c).2.1, (zD3 c).2.2.1, (zD3 c).2.2.2.1, (zD3 c).2.2.2.2.1, (zD3 c).2.2.2.2.2.1, (zD2 c).1, (zD2 c).2.1) := by
  unfold f_X3_digest f_X3_digest_t21 f_X3_digest_t22 f_X3_digest_t23 f_X3_digest_t24 f_X3_digest_t25 f_X3_digest_t26 f_X3_digest_t27 zD3 zLd
  rw [zd_t11, zd_t12, zd_t13, zd_t14, zd_t15, zd_t16, (zd_v3 c).1, (zd_v3 c).2]
  unfold zD2 zD1
  rfl
theorem zd_h {V X : Nat → Nat} {C : zCs} {c : zS} {t : zU} (h : zR V X C c t) : zD1 c = zHd (f_X1_count c.vr) (f_X3_heldInAll c.ar) c.ad c.pd c.sp c.tk c.lf c.gm c.gw (zAmn (zgA V (zBFS V (zst X))) 11 0 0) (nI (zBFS V (zst X)).length) (zFr (zBFS V (zst X))) 1877 := by
  have e1 := h.am.1
  have e2 : (zsf (zd1 c)).1 = nI (zBFS V (zst X)).length := h.d1.sr.1
  have e3 : (zff (zd2 (zd1 c))).1 = zFr (zBFS V (zst X)) := h.d1.d2.fr.1
  unfold zD1 f_X3_digest_t18 f_X3_digest_t3 f_X3_digest_t2 f_X3_digest_t1
  rw [zd_t10, zd_t17, e1, e2, e3]
  unfold zHd f_X3_jars f_X3_acts f_X3_pouredInAll f_X3_spilledInAll f_X3_takenInAll f_X3_candidates f_X0_candidatesLeft f_X3_guesses f_X3_wrongGuesses
  rfl
theorem zd_K {V X : Nat → Nat} {C : zCs} {c : zS} {t : zU} (h : zR V X C c t) : (zD3 c).2.2.2.2.2.2 = zDg (zgA V (zBFS V (zst X))) 11 0 (zD2 c).2.2 ∧ sf_X3_digest_176 11 0 (zd3 (zd2 (zd1 c))).vr (zd3 (zd2 (zd1 c))).ar (zd3 (zd2 (zd1 c))).vs (zd3 (zd2 (zd1 c))).asF (zd3 (zd2 (zd1 c))).ds (zd3 (zd2 (zd1 c))).fa (zd3 (zd2 (zd1 c))).od (zd3 (zd2 (zd1 c))).rd ∧ ∀ as vi ai sn : Nat → Int32, zR V X C (c.vr, c.ar, (zD3 c).1, as, (zD3 c).2.2.1, (zD3 c).2.2.2.1, (zD3 c).2.2.2.2.1, (zD3 c).2.2.2.2.2.1, vi, ai, c.hd, sn, c.jc, c.lf, c.ad, c.pd, c.sp, c.tk, c.gm, c.gw) t := by
  have K := zc_dgLoop 11 0 (zd3 (zd2 (zd1 c))) (zD2 c).2.2 h.d1.d2.d3 (by omega)
  unfold zD3
  refine ⟨K.1, K.2.1, fun as vi ai sn => ?_⟩
  have K2 := K.2.2 as vi ai sn
  generalize zLd 11 0 (zd3 (zd2 (zd1 c))) (zD2 c).2.2 = R at K2 ⊢
  unfold zd3 zd2 zd1 at K2
  exact K2
theorem zd_s (c : zS) (h1 : s_X3_amountsToHave c.vr c.ar c.vs c.asF c.ds c.fa c.od c.rd) (h2 : s_X3_statesToReach (zd1 c).vr (zd1 c).ar (zd1 c).vs (zd1 c).asF (zd1 c).ds (zd1 c).fa (zd1 c).od (zd1 c).rd) (h3 : s_X3_farthest (zd2 (zd1 c)).vr (zd2 (zd1 c)).ar (zd2 (zd1 c)).vs (zd2 (zd1 c)).asF (zd2 (zd1 c)).ds (zd2 (zd1 c)).fa (zd2 (zd1 c)).od (zd2 (zd1 c)).rd) (h4 : sf_X3_digest_150 ((f_X1_count c.vr).toNatClampNeg + 1) 0 c.vr c.ar c.vi c.ai c.hd c.jc (zD1 c)) (h5 : sf_X3_digest_176 11 0 (zd3 (zd2 (zd1 c))).vr (zd3 (zd2 (zd1 c))).ar (zd3 (zd2 (zd1 c))).vs (zd3 (zd2 (zd1 c))).asF (zd3 (zd2 (zd1 c))).ds (zd3 (zd2 (zd1 c))).fa (zd3 (zd2 (zd1 c))).od (zd3 (zd2 (zd1 c))).rd) : zs_digest c := by
  unfold zs_digest s_X3_digest
  rw [zd_t11, zd_t12, zd_t13, zd_t14, zd_t15, zd_t16, zd_t4, zd_t5, zd_t6, zd_t7, zd_t8, zd_t9]
  rw [(zd_vr c).1, (zd_vr c).2] at h3
  rw [(zd_v3 c).1, (zd_v3 c).2] at h5
  refine ⟨h1, ?_, h3, h4, h5⟩
  unfold zd1 zaf at h2
  dsimp only [zS.vr, zS.ar, zS.vs, zS.asF, zS.ds, zS.fa, zS.od, zS.rd, zS.vi, zS.ai, zS.hd, zS.sn, zS.jc, zS.lf, zS.ad, zS.pd, zS.sp, zS.tk, zS.gm, zS.gw] at h2 ⊢
  exact h2
/-! following a shortest way -/
def zLf (n k : Nat) (c : zS) (x y : Int32) : (Nat → Int32) × (Nat → Int32) × (Nat → Int32) × (Nat → Int32) × (Nat → Int32) × (Nat → Int32) × Int32 × (Nat → Int32) × (Nat → Int32) × (Nat → Int32) × Int32 × Int32 × Int32 × Int32 × Int32 := lf_X3_follow_43 n k c.vr c.ar c.vs c.asF c.ds c.fa c.od c.rd c.vi c.ai c.hd c.jc c.lf c.ad c.pd c.sp c.tk x y
def zSf (c : zS) (R : (Nat → Int32) × (Nat → Int32) × (Nat → Int32) × (Nat → Int32) × (Nat → Int32) × (Nat → Int32) × Int32 × (Nat → Int32) × (Nat → Int32) × (Nat → Int32) × Int32 × Int32 × Int32 × Int32 × Int32) : zS := (c.vr, R.1, R.2.1, R.2.2.1, R.2.2.2.1, R.2.2.2.2.1, R.2.2.2.2.2.1, R.2.2.2.2.2.2.1, R.2.2.2.2.2.2.2.1, R.2.2.2.2.2.2.2.2.1, R.2.2.2.2.2.2.2.2.2.1, c.sn, c.jc, R.2.2.2.2.2.2.2.2.2.2.1, R.2.2.2.2.2.2.2.2.2.2.2.1, R.2.2.2.2.2.2.2.2.2.2.2.2.1, R.2.2.2.2.2.2.2.2.2.2.2.2.2.1, R.2.2.2.2.2.2.2.2.2.2.2.2.2.2, c.gm, c.gw)
/-- the class behind looking for its next act, the model likewise -/
def zcf (c : zS) (x : Int32) : zS := (c.vr, c.ar, (zW c).1, f_X3_follow_t3 c.vr c.ar c.vs c.asF c.ds c.fa c.od c.rd x, (zW c).2.2.1, (zW c).2.2.2.1, (zW c).2.2.2.2.1, (zW c).2.2.2.2.2, c.vi, c.ai, c.hd, c.sn, c.jc, c.lf, c.ad, c.pd, c.sp, c.tk, c.gm, c.gw)
def zAcI (c : zS) (a : Int32) : zS :=
  let d := f_X3_doAct c.vr c.ar c.rd c.vi c.ai c.hd c.jc c.lf c.ad c.pd c.sp c.tk a
  (c.vr, d.2.1, c.vs, c.asF, c.ds, c.fa, c.od, d.2.2.1, d.2.2.2.1, d.2.2.2.2.1, d.2.2.2.2.2.1, c.sn, c.jc, d.2.2.2.2.2.2.1, d.2.2.2.2.2.2.2.1, d.2.2.2.2.2.2.2.2.1, d.2.2.2.2.2.2.2.2.2.1, d.2.2.2.2.2.2.2.2.2.2, c.gm, c.gw)
def zft (c : zS) (x : Int32) : Int32 := f_X3_follow_t4 c.vr c.ar c.vs c.asF c.ds c.fa c.od c.rd x
theorem zLf_stop {n k : Nat} {c : zS} {x y : Int32} (q : y ≤ nI k) : zLf (n + 1) k c x y = (c.ar, c.vs, c.asF, c.ds, c.fa, c.od, c.rd, c.vi, c.ai, c.hd, c.lf, c.ad, c.pd, c.sp, c.tk) := by
  unfold zLf
  rw [lf_X3_follow_43_succ, if_pos q]
theorem zLf_go {n k : Nat} {c : zS} {x y : Int32} (q : ¬ y ≤ nI k) : zLf (n + 1) k c x y = zLf n (k + 1) (zAcI (zcf c x) (zft c x)) x y := by
  unfold zLf
  rw [lf_X3_follow_43_succ, if_neg q]
  unfold zAcI zcf zft zW f_X3_follow_t5 f_X3_follow_t6 f_X3_follow_t7 f_X3_follow_t8
  dsimp only [zS.vr, zS.ar, zS.vs, zS.asF, zS.ds, zS.fa, zS.od, zS.rd, zS.vi, zS.ai, zS.hd, zS.sn, zS.jc, zS.lf, zS.ad, zS.pd, zS.sp, zS.tk, zS.gm, zS.gw]
def zLfs (n k : Nat) (c : zS) (x y : Int32) : Prop := sf_X3_follow_43 n k c.vr c.ar c.vs c.asF c.ds c.fa c.od c.rd c.vi c.ai c.hd c.jc c.lf c.ad c.pd c.sp c.tk x y
theorem zLfs_stop {n k : Nat} {c : zS} {x y : Int32} (q : y ≤ nI k) : zLfs (n + 1) k c x y := by
  unfold zLfs
  rw [sf_X3_follow_43_succ]
  exact ⟨fun _ => trivial, fun z => absurd q z⟩
theorem zLfs_go {n k : Nat} {c : zS} {x y : Int32} (q : ¬ y ≤ nI k) (h1 : s_X3_waysFromHere c.vr c.ar c.vs c.asF c.ds c.fa c.od c.rd) (h2 : s_X3_doAct c.vr c.ar c.vi c.ai c.hd c.jc c.lf (zft c x)) (h3 : zLfs n (k + 1) (zAcI (zcf c x) (zft c x)) x y) : zLfs (n + 1) k c x y := by
  unfold zLfs zAcI zcf zft zW at h3
  unfold zft at h2
  unfold zLfs
  rw [sf_X3_follow_43_succ]
  unfold f_X3_follow_t5 f_X3_follow_t6 f_X3_follow_t7 f_X3_follow_t8
  dsimp only [zS.vr, zS.ar, zS.vs, zS.asF, zS.ds, zS.fa, zS.od, zS.rd, zS.vi, zS.ai, zS.hd, zS.sn, zS.jc, zS.lf, zS.ad, zS.pd, zS.sp, zS.tk, zS.gm, zS.gw] at h1 h2 h3 ⊢
  exact ⟨fun z => absurd z q, fun _ => ⟨h1, h2, h3⟩⟩
theorem zF_next {V X : Nat → Nat} {v : Nat} (okX : zOK V X) {e : Nat × Nat × Nat} (he : zF V X v = some e) (h0 : 0 < e.2.1) : e.2.2 < 15 ∧ zal (zn V) e.2.2 ∧ ∃ x, zF V (zmv V X e.2.2) v = some x ∧ x.2.1 + 1 = e.2.1 := by
  have hs := zst_lt okX
  have ok : zOK V (zdg (zst X)) := okX.congr (fun j hj => (zdg_st okX hj).symm)
  obtain ⟨f1, f2, f3, -⟩ := z_first hs ok he h0
  have es : zsuc V (zst X) e.2.2 = zst (zmv V X e.2.2) := zst_congr (zmv_congr (fun j hj => zdg_st okX hj) f2)
  rw [es] at f3
  exact ⟨f2, zalB_iff.mp f1, f3⟩
theorem zF_here {V X : Nat → Nat} {v : Nat} (okX : zOK V X) {e : Nat × Nat × Nat} (he : zF V X v = some e) : zhas (zn V) (zdg (zst X)) v = true ↔ e.2.1 = 0 := by
  have hs := zst_lt okX
  have ok : zOK V (zdg (zst X)) := okX.congr (fun j hj => (zdg_st okX hj).symm)
  constructor
  · intro h
    obtain ⟨e2, h2, h3⟩ := (z_here hs ok (T := zTv V v)).mp h
    have : some e = some e2 := he.symm.trans h2
    cases this
    exact h3
  · intro h
    exact (z_here hs ok (T := zTv V v)).mpr ⟨e, he, h⟩
/-! follow, of both -/
def zcg (c : zS) (x : Int32) : zS := (c.vr, c.ar, (zW c).1, f_X3_follow_t1 c.vr c.ar c.vs c.asF c.ds c.fa c.od c.rd x, (zW c).2.2.1, (zW c).2.2.2.1, (zW c).2.2.2.2.1, (zW c).2.2.2.2.2, c.vi, c.ai, c.hd, c.sn, c.jc, c.lf, c.ad, c.pd, c.sp, c.tk, c.gm, c.gw)
theorem zf_follow {c : zS} {p q : Int32} {d : Int32} (h1 : t_X3_checkAmount p = 0) (h2 : t_X3_checkActs q 1 = 0) (h3 : ¬ f_X3_follow_t2 c.vr c.ar c.vs c.asF c.ds c.fa c.od c.rd p = -1) (hd : (if q < f_X3_follow_t2 c.vr c.ar c.vs c.asF c.ds c.fa c.od c.rd p then q else f_X3_follow_t2 c.vr c.ar c.vs c.asF c.ds c.fa c.od c.rd p) = d) :
    f_X3_follow c.vr c.ar c.vs c.asF c.ds c.fa c.od c.rd c.vi c.ai c.hd c.jc c.lf c.ad c.pd c.sp c.tk p q = (d, zLf (d.toNatClampNeg + 1) 0 (zcg c p) p d) := by
  unfold f_X3_follow
  rw [if_pos h1, if_pos h2, if_neg h3]
  unfold f_X3_follow_t9 f_X3_follow_t10 f_X3_follow_t11 f_X3_follow_t12 f_X3_follow_t13 f_X3_follow_t14 f_X3_follow_t15 f_X3_follow_t16 f_X3_follow_t17 f_X3_follow_t18 f_X3_follow_t19 f_X3_follow_t20 f_X3_follow_t21 f_X3_follow_t22 f_X3_follow_t23
  rw [hd]
  unfold zLf zcg zW
  dsimp only [zS.vr, zS.ar, zS.vs, zS.asF, zS.ds, zS.fa, zS.od, zS.rd, zS.vi, zS.ai, zS.hd, zS.sn, zS.jc, zS.lf, zS.ad, zS.pd, zS.sp, zS.tk, zS.gm, zS.gw]
/-! the mean compares with itself -/
theorem z_mc2 : ∀ k, k < 28 → FP.dcmp (FP.ddiv (FP.i2d (nI k)) (4611686018427387904 : UInt64)) (FP.ddiv (FP.i2d (nI k)) (4611686018427387904 : UInt64)) = some Ordering.eq := by decide +kernel
theorem z_mc3 : ∀ k, k < 28 → FP.dcmp (FP.ddiv (FP.i2d (nI k)) (4613937818241073152 : UInt64)) (FP.ddiv (FP.i2d (nI k)) (4613937818241073152 : UInt64)) = some Ordering.eq := by decide +kernel
