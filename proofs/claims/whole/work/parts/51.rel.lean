/-! what holds between the class and the model -/
abbrev zS : Type := (Nat → Int32) × (Nat → Int32) × (Nat → Int32) × (Nat → Int32) × (Nat → Int32) × (Nat → Int32) × (Nat → Int32) × Int32 × (Nat → Int32) × (Nat → Int32) × (Nat → Int32) × (Nat → Int32) × Int32 × Int32 × Int32 × Int32 × Int32 × Int32 × Int32 × Int32
abbrev zS.vr (c : zS) : Nat → Int32 := c.1
abbrev zS.ar (c : zS) : Nat → Int32 := c.2.1
abbrev zS.vs (c : zS) : Nat → Int32 := c.2.2.1
abbrev zS.asF (c : zS) : Nat → Int32 := c.2.2.2.1
abbrev zS.ds (c : zS) : Nat → Int32 := c.2.2.2.2.1
abbrev zS.fa (c : zS) : Nat → Int32 := c.2.2.2.2.2.1
abbrev zS.od (c : zS) : Nat → Int32 := c.2.2.2.2.2.2.1
abbrev zS.rd (c : zS) : Int32 := c.2.2.2.2.2.2.2.1
abbrev zS.vi (c : zS) : Nat → Int32 := c.2.2.2.2.2.2.2.2.1
abbrev zS.ai (c : zS) : Nat → Int32 := c.2.2.2.2.2.2.2.2.2.1
abbrev zS.hd (c : zS) : Nat → Int32 := c.2.2.2.2.2.2.2.2.2.2.1
abbrev zS.sn (c : zS) : Nat → Int32 := c.2.2.2.2.2.2.2.2.2.2.2.1
abbrev zS.jc (c : zS) : Int32 := c.2.2.2.2.2.2.2.2.2.2.2.2.1
abbrev zS.lf (c : zS) : Int32 := c.2.2.2.2.2.2.2.2.2.2.2.2.2.1
abbrev zS.ad (c : zS) : Int32 := c.2.2.2.2.2.2.2.2.2.2.2.2.2.2.1
abbrev zS.pd (c : zS) : Int32 := c.2.2.2.2.2.2.2.2.2.2.2.2.2.2.2.1
abbrev zS.sp (c : zS) : Int32 := c.2.2.2.2.2.2.2.2.2.2.2.2.2.2.2.2.1
abbrev zS.tk (c : zS) : Int32 := c.2.2.2.2.2.2.2.2.2.2.2.2.2.2.2.2.2.1
abbrev zS.gm (c : zS) : Int32 := c.2.2.2.2.2.2.2.2.2.2.2.2.2.2.2.2.2.2.1
abbrev zS.gw (c : zS) : Int32 := c.2.2.2.2.2.2.2.2.2.2.2.2.2.2.2.2.2.2.2
abbrev zM : Type := Int32 × Int32 × (Nat → Int32) × (Nat → Int32) × Int32 × Int32 × Int32 × Int32 × (Nat → Int32) × (Nat → Int32) × Int32 × Int32 × (Nat → Int32) × (Nat → Int32) × Int32 × (Nat → Int32) × (Nat → Int32) × (Nat → Int32)
abbrev zM.th (c : zM) : Int32 := c.1
abbrev zM.js (c : zM) : Int32 := c.2.1
abbrev zM.mv (c : zM) : Nat → Int32 := c.2.2.1
abbrev zM.ma (c : zM) : Nat → Int32 := c.2.2.2.1
abbrev zM.ac (c : zM) : Int32 := c.2.2.2.2.1
abbrev zM.po (c : zM) : Int32 := c.2.2.2.2.2.1
abbrev zM.si (c : zM) : Int32 := c.2.2.2.2.2.2.1
abbrev zM.ta (c : zM) : Int32 := c.2.2.2.2.2.2.2.1
abbrev zM.ml (c : zM) : Nat → Int32 := c.2.2.2.2.2.2.2.2.1
abbrev zM.mh (c : zM) : Nat → Int32 := c.2.2.2.2.2.2.2.2.2.1
abbrev zM.gu (c : zM) : Int32 := c.2.2.2.2.2.2.2.2.2.2.1
abbrev zM.wr (c : zM) : Int32 := c.2.2.2.2.2.2.2.2.2.2.2.1
abbrev zM.mf (c : zM) : Nat → Int32 := c.2.2.2.2.2.2.2.2.2.2.2.2.1
abbrev zM.mr (c : zM) : Nat → Int32 := c.2.2.2.2.2.2.2.2.2.2.2.2.2.1
abbrev zM.re (c : zM) : Int32 := c.2.2.2.2.2.2.2.2.2.2.2.2.2.2.1
abbrev zM.mo (c : zM) : Nat → Int32 := c.2.2.2.2.2.2.2.2.2.2.2.2.2.2.2.1
abbrev zM.mb (c : zM) : Nat → Int32 := c.2.2.2.2.2.2.2.2.2.2.2.2.2.2.2.2.1
abbrev zM.ms (c : zM) : Nat → Int32 := c.2.2.2.2.2.2.2.2.2.2.2.2.2.2.2.2.2
def zR (V X : Nat → Nat) (C : zCs) (c : zS) (t : zM) : Prop := (zOK V X ∧ zPv V) ∧ zCok (zn V) C ∧ zE3 c.vr V ∧ zE3 c.ar X ∧ zE3 t.mv V ∧ zE3 t.ma X ∧ c.jc = nI (zn V) ∧ t.js = nI (zn V) ∧ zCc C c.hd ∧ zCm (zn V) C t.ml t.mh ∧ c.lf = nI (zNm C 729) ∧ c.ad = t.ac ∧ c.pd = t.po ∧ c.sp = t.si ∧ c.tk = t.ta ∧ c.gm = t.gu ∧ c.gw = t.wr ∧ (c.rd = 0 ∨ (zWays V (zst X) c.vs c.ds c.fa c.od c.rd ∧ 0 < c.rd))
theorem zR.ok {V X : Nat → Nat} {C : zCs} {c : zS} {t : zM} (h : zR V X C c t) : zOK V X := h.1.1
theorem zR.pv {V X : Nat → Nat} {C : zCs} {c : zS} {t : zM} (h : zR V X C c t) : zPv V := h.1.2
theorem zR.cok {V X : Nat → Nat} {C : zCs} {c : zS} {t : zM} (h : zR V X C c t) : zCok (zn V) C := h.2.1
theorem zR.vr {V X : Nat → Nat} {C : zCs} {c : zS} {t : zM} (h : zR V X C c t) : zE3 c.vr V := h.2.2.1
theorem zR.ar {V X : Nat → Nat} {C : zCs} {c : zS} {t : zM} (h : zR V X C c t) : zE3 c.ar X := h.2.2.2.1
theorem zR.mv {V X : Nat → Nat} {C : zCs} {c : zS} {t : zM} (h : zR V X C c t) : zE3 t.mv V := h.2.2.2.2.1
theorem zR.ma {V X : Nat → Nat} {C : zCs} {c : zS} {t : zM} (h : zR V X C c t) : zE3 t.ma X := h.2.2.2.2.2.1
theorem zR.jc {V X : Nat → Nat} {C : zCs} {c : zS} {t : zM} (h : zR V X C c t) : c.jc = nI (zn V) := h.2.2.2.2.2.2.1
theorem zR.js {V X : Nat → Nat} {C : zCs} {c : zS} {t : zM} (h : zR V X C c t) : t.js = nI (zn V) := h.2.2.2.2.2.2.2.1
theorem zR.cc {V X : Nat → Nat} {C : zCs} {c : zS} {t : zM} (h : zR V X C c t) : zCc C c.hd := h.2.2.2.2.2.2.2.2.1
theorem zR.cm {V X : Nat → Nat} {C : zCs} {c : zS} {t : zM} (h : zR V X C c t) : zCm (zn V) C t.ml t.mh := h.2.2.2.2.2.2.2.2.2.1
theorem zR.lf {V X : Nat → Nat} {C : zCs} {c : zS} {t : zM} (h : zR V X C c t) : c.lf = nI (zNm C 729) := h.2.2.2.2.2.2.2.2.2.2.1
theorem zR.ad {V X : Nat → Nat} {C : zCs} {c : zS} {t : zM} (h : zR V X C c t) : c.ad = t.ac := h.2.2.2.2.2.2.2.2.2.2.2.1
theorem zR.pd {V X : Nat → Nat} {C : zCs} {c : zS} {t : zM} (h : zR V X C c t) : c.pd = t.po := h.2.2.2.2.2.2.2.2.2.2.2.2.1
theorem zR.sp {V X : Nat → Nat} {C : zCs} {c : zS} {t : zM} (h : zR V X C c t) : c.sp = t.si := h.2.2.2.2.2.2.2.2.2.2.2.2.2.1
theorem zR.tk {V X : Nat → Nat} {C : zCs} {c : zS} {t : zM} (h : zR V X C c t) : c.tk = t.ta := h.2.2.2.2.2.2.2.2.2.2.2.2.2.2.1
theorem zR.gm {V X : Nat → Nat} {C : zCs} {c : zS} {t : zM} (h : zR V X C c t) : c.gm = t.gu := h.2.2.2.2.2.2.2.2.2.2.2.2.2.2.2.1
theorem zR.gw {V X : Nat → Nat} {C : zCs} {c : zS} {t : zM} (h : zR V X C c t) : c.gw = t.wr := h.2.2.2.2.2.2.2.2.2.2.2.2.2.2.2.2.1
theorem zR.ws {V X : Nat → Nat} {C : zCs} {c : zS} {t : zM} (h : zR V X C c t) : c.rd = 0 ∨ (zWays V (zst X) c.vs c.ds c.fa c.od c.rd ∧ 0 < c.rd) := h.2.2.2.2.2.2.2.2.2.2.2.2.2.2.2.2.2
/-- two answers: the same number, and where it is 0 the same word -/
def zAn (k th : Int32) (o b : Int64) : Prop := th = k ∧ (k = 0 → o = b)
theorem zR.h9 {V X : Nat → Nat} {C : zCs} {c : zS} {t : zM} (h : zR V X C c t) : V 2 ≤ 9 := (h.ok 2 (by omega)).2
theorem zi_lt_of {n : Nat} (h0 : 0 < n) (hn : n < 2 ^ 31) {p : Int32} (h : nI n ≤ p) : nI n - 1 < p := by
  have e : nI n - 1 = nI (n - 1) := by
    obtain ⟨m, rfl⟩ : ∃ m, n = m + 1 := ⟨n - 1, by omega⟩
    rw [nI_pred]; rfl
  rw [e]
  have h1 := Int32.le_iff_toInt_le.mp h
  rw [nI_toInt hn] at h1
  refine Int32.lt_iff_toInt_lt.mpr ?_
  rw [nI_toInt (by omega)]
  omega
/-- is it a jar -/
theorem zj_cases {vr : Nat → Int32} {V : Nat → Nat} (hv : zE3 vr V) (h9 : V 2 ≤ 9) (hp9 : zPv V) (p : Int32) : (∃ j, j < zn V ∧ p = nI j ∧ t_X3_checkJar vr p = 0 ∧ f_X4_isJar (nI (zn V)) p = 1) ∨ (t_X3_checkJar vr p = 1 ∧ f_X4_isJar (nI (zn V)) p = 0) := by
  have hz := zn_23 V
  rcases pk_ix p (n := zn V) (by omega) with q | q | ⟨j, hj, rfl⟩
  · right
    have e : f_X1_has vr p = 0 := by unfold f_X1_has; rw [if_pos q]
    refine ⟨by unfold t_X3_checkJar; rw [if_pos e], ?_⟩
    unfold f_X4_isJar f_X4_isIn; rw [if_pos q]
  · right
    have hn : ¬ p < (0 : Int32) := fun z => by
      have h1 := Int32.le_iff_toInt_le.mp q
      have h2 := Int32.lt_iff_toInt_lt.mp z
      rw [nI_toInt (by omega)] at h1
      have : (0 : Int32).toInt = 0 := rfl
      omega
    have e : f_X1_has vr p = 0 := by
      rcases pk_ix p (n := 3) (by omega) with w | w | ⟨j, hj, rfl⟩
      · exact absurd w hn
      · unfold f_X1_has; rw [if_neg hn, zl3, if_pos w]
      · have hle : zn V ≤ j := (nI_leI (by omega) (by omega)).mp q
        rw [zr_has hv h9 hp9 (by omega), if_neg (by omega)]
    refine ⟨by unfold t_X3_checkJar; rw [if_pos e], ?_⟩
    unfold f_X4_isJar f_X4_isIn; rw [if_neg hn, if_pos (zi_lt_of (by omega) (by omega) q)]
  · left
    have e : f_X1_has vr (nI j) = 1 := by rw [zr_has hv h9 hp9 (by omega), if_pos hj]
    refine ⟨j, hj, rfl, by unfold t_X3_checkJar; rw [if_neg (by rw [e]; decide)], ?_⟩
    have e1 : nI (zn V) - 1 = nI (zn V - 1) := by
      obtain ⟨m, hm⟩ : ∃ m, zn V = m + 1 := ⟨zn V - 1, by omega⟩
      rw [hm, nI_pred]; rfl
    unfold f_X4_isJar f_X4_isIn
    rw [if_neg (z_neg (by omega)), e1, z_if_lt (by omega) (by omega), if_neg (by omega)]
/-- a number from low to high -/
theorem zin_cases (lo hi : Nat) (hl : lo < 2 ^ 31) (hh : hi < 2 ^ 31) (p : Int32) : (∃ v, lo ≤ v ∧ v ≤ hi ∧ p = nI v ∧ ¬ p < nI lo ∧ p ≤ nI hi ∧ ¬ nI hi < p) ∨ (p < nI lo) ∨ (¬ p < nI lo ∧ ¬ p ≤ nI hi ∧ nI hi < p) := by
  by_cases q : p < nI lo
  · exact Or.inr (Or.inl q)
  · have q1 : (lo : Int) ≤ p.toInt := by
      have : ¬ p.toInt < (nI lo).toInt := fun z => q (Int32.lt_iff_toInt_lt.mpr z)
      rw [nI_toInt hl] at this; omega
    by_cases q2 : nI hi < p
    · refine Or.inr (Or.inr ⟨q, fun z => ?_, q2⟩)
      have h1 := Int32.lt_iff_toInt_lt.mp q2
      have h2 := Int32.le_iff_toInt_le.mp z
      omega
    · have q3 : p.toInt ≤ hi := by
        have : ¬ (nI hi).toInt < p.toInt := fun z => q2 (Int32.lt_iff_toInt_lt.mpr z)
        rw [nI_toInt hh] at this; omega
      have h0 : ¬ p < 0 := fun z => by
        have h1 := Int32.lt_iff_toInt_lt.mp z
        have : (0 : Int32).toInt = 0 := rfl
        omega
      obtain ⟨j, hj, e⟩ := nI_of h0
      have ej : p.toInt = j := by rw [e, nI_toInt hj]
      refine Or.inl ⟨j, by omega, by omega, e, q, ?_, q2⟩
      refine Int32.le_iff_toInt_le.mpr ?_
      rw [nI_toInt hh]; exact q3
theorem za_cases (p : Int32) : (∃ v, v ≤ 9 ∧ p = nI v ∧ t_X3_checkAmount p = 0 ∧ f_X4_isAmount p = 1) ∨ (t_X3_checkAmount p = 2 ∧ f_X4_isAmount p = 0) := by
  unfold t_X3_checkAmount f_X4_isAmount f_X4_isIn
  rw [zl0, zl9]
  rcases zin_cases 0 9 (by omega) (by omega) p with ⟨v, h1, h2, rfl, h4, h5, h6⟩ | q | ⟨q1, q2, q3⟩
  · exact Or.inl ⟨v, h2, rfl, by rw [if_neg h4, if_pos h5], by rw [if_neg h4, if_neg h6]⟩
  · exact Or.inr ⟨by rw [if_pos q], by rw [if_pos q]⟩
  · exact Or.inr ⟨by rw [if_neg q1, if_neg q2], by rw [if_neg q1, if_pos q3]⟩
theorem zv_cases (p : Int32) : (∃ v, 1 ≤ v ∧ v ≤ 9 ∧ p = nI v ∧ f_X3_isVolume p = 1 ∧ t_X3_checkVolume p = 0 ∧ f_X4_isVolume p = 1) ∨ (f_X3_isVolume p = 0 ∧ t_X3_checkVolume p = 2 ∧ f_X4_isVolume p = 0) := by
  have key : (∃ v, 1 ≤ v ∧ v ≤ 9 ∧ p = nI v ∧ f_X3_isVolume p = 1 ∧ f_X4_isVolume p = 1) ∨ (f_X3_isVolume p = 0 ∧ f_X4_isVolume p = 0) := by
    unfold f_X3_isVolume f_X4_isVolume f_X4_isIn
    rw [zl1, zl9]
    rcases zin_cases 1 9 (by omega) (by omega) p with ⟨v, h1, h2, rfl, h4, h5, h6⟩ | q | ⟨q1, q2, q3⟩
    · exact Or.inl ⟨v, h1, h2, rfl, by rw [if_neg h4, if_neg h6], by rw [if_neg h4, if_neg h6]⟩
    · exact Or.inr ⟨by rw [if_pos q], by rw [if_pos q]⟩
    · exact Or.inr ⟨by rw [if_neg q1, if_pos q3], by rw [if_neg q1, if_pos q3]⟩
  rcases key with ⟨v, h1, h2, h3, h4, h5⟩ | ⟨h1, h2⟩
  · exact Or.inl ⟨v, h1, h2, h3, h4, by unfold t_X3_checkVolume; rw [if_neg (by rw [h4]; decide)], h5⟩
  · exact Or.inr ⟨h1, by unfold t_X3_checkVolume; rw [if_pos h1], h2⟩
theorem zx_cases (lo : Nat) (hl : lo ≤ 50) (p : Int32) : (∃ v, lo ≤ v ∧ v ≤ 50 ∧ p = nI v ∧ t_X3_checkActs p (nI lo) = 0 ∧ f_X4_isIn p (nI lo) 50 = 1) ∨ (t_X3_checkActs p (nI lo) = 2 ∧ f_X4_isIn p (nI lo) 50 = 0) := by
  unfold t_X3_checkActs f_X4_isIn
  rw [show (50 : Int32) = nI 50 from rfl]
  rcases zin_cases lo 50 (by omega) (by omega) p with ⟨v, h1, h2, rfl, h4, h5, h6⟩ | q | ⟨q1, q2, q3⟩
  · exact Or.inl ⟨v, h1, h2, rfl, by rw [if_neg h4, if_pos h5], by rw [if_neg h4, if_neg h6]⟩
  · exact Or.inr ⟨by rw [if_pos q], by rw [if_pos q]⟩
  · exact Or.inr ⟨by rw [if_neg q1, if_neg q2], by rw [if_neg q1, if_pos q3]⟩
/-- an act of both -/
def zNew (V X : Nat → Nat) (a : Nat) (C : zCs) : zCs := zUp C (zgSee (zn V) a (zlk V (zmv V X a)))
def zSact (c : zS) (a : Nat) : zS :=
  let d := f_X3_doAct c.vr c.ar c.rd c.vi c.ai c.hd c.jc c.lf c.ad c.pd c.sp c.tk (nI a)
  (c.vr, d.2.1, c.vs, c.asF, c.ds, c.fa, c.od, d.2.2.1, d.2.2.2.1, d.2.2.2.2.1, d.2.2.2.2.2.1, c.sn, c.jc, d.2.2.2.2.2.2.1, d.2.2.2.2.2.2.2.1, d.2.2.2.2.2.2.2.2.1, d.2.2.2.2.2.2.2.2.2.1, d.2.2.2.2.2.2.2.2.2.2, c.gm, c.gw)
def zMact (t : zM) (a : Nat) : zM :=
  let d := f_X4_done t.js t.mv t.ma t.ac t.po t.si t.ta t.ml t.mh t.mo t.mb (nI a)
  (t.th, t.js, t.mv, d.2.1, d.2.2.1, d.2.2.2.1, d.2.2.2.2.1, d.2.2.2.2.2.1, d.2.2.2.2.2.2.1, d.2.2.2.2.2.2.2.1, t.gu, t.wr, t.mf, t.mr, t.re, d.2.2.2.2.2.2.2.2.1, d.2.2.2.2.2.2.2.2.2, t.ms)
theorem zo_act {V X : Nat → Nat} {C : zCs} {c : zS} {t : zM} (h : zR V X C c t) {a : Nat} (ha : a < 15) (hal : zal (zn V) a) :
    (f_X3_doAct c.vr c.ar c.rd c.vi c.ai c.hd c.jc c.lf c.ad c.pd c.sp c.tk (nI a)).1 = nI (zm V X a) ∧ (f_X4_done t.js t.mv t.ma t.ac t.po t.si t.ta t.ml t.mh t.mo t.mb (nI a)).1 = nI (zm V X a) ∧
    s_X3_doAct c.vr c.ar c.vi c.ai c.hd c.jc c.lf (nI a) ∧ s_X4_done t.js t.mv t.ma t.ml t.mh t.mo t.mb (nI a) ∧ zR V (zmv V X a) (zNew V X a C) (zSact c a) (zMact t a) := by
  have hn := zn_23 V
  have hal3 := zal_3 (by omega) hal
  have ch := zr_change h.vr h.ar h.ok ha hal3
  have ok2 := zmv_ok h.ok ha
  have lo := zr_look h.vr ch.2 ok2
  have hlk : zlk V (zmv V X a) < 1000 := by
    have := zct_le V (zmv V X a) 0
    have := zct_le V (zmv V X a) 1
    have := zct_le V (zmv V X a) 2
    unfold zlk; omega
  have e0 : ∀ N, N < 729 → zMx C (zUp C (zgSee (zn V) a (zlk V (zmv V X a)))) 0 N = C N := fun N _ => by unfold zMx; rw [if_neg (by omega)]
  have see := zc_see (n := zn V) (a := a) (lk := zlk V (zmv V X a)) hn ha hal3 hlk h.cok 730 0 c.vi c.ai c.hd c.lf (by omega) (by omega) (fun N hN => by rw [h.cc N hN, e0 N hN]) (by rw [h.lf, zNm_congr 729 e0])
  have ma := zm_act (a := a) ha hal h.ok h.cok h.mv h.ma h.cm (mo := t.mo) (mb := t.mb) t.ac
  rw [← h.js] at ma
  have sce : s_X0_see c.vi c.ai c.hd c.jc c.lf (nI a) (f_X1_look c.vr (f_X1_change c.vr c.ar (nI a)).2) := by
    rw [lo, h.jc]; exact see.2.2
  have mcount : (f_X4_act t.js t.mv t.ma t.ac t.ml t.mh t.mo t.mb (nI a)).1 = (f_X1_change c.vr c.ar (nI a)).1 := by rw [ma.1, ch.1]
  have cnt : (zSact c a).pd = (zMact t a).po ∧ (zSact c a).sp = (zMact t a).si ∧ (zSact c a).tk = (zMact t a).ta := by
    unfold zSact zMact f_X3_doAct f_X4_done f_X4_count
    dsimp only
    rw [mcount, h.pd, h.sp, h.tk]
    by_cases q : (3 : Int32) ≤ nI a
    · rw [if_pos q, if_pos q]
      by_cases q2 : (6 : Int32) ≤ nI a
      · rw [if_pos q2, if_pos q2]; exact ⟨rfl, rfl, rfl⟩
      · rw [if_neg q2, if_neg q2]; exact ⟨rfl, rfl, rfl⟩
    · rw [if_neg q, if_neg q]; exact ⟨rfl, rfl, rfl⟩
  have cl : (zSact c a).vr = c.vr ∧ (zSact c a).jc = c.jc ∧ (zSact c a).gm = c.gm ∧ (zSact c a).gw = c.gw ∧ (zSact c a).ar = (f_X1_change c.vr c.ar (nI a)).2 ∧ (zSact c a).rd = 0 ∧ (zSact c a).hd = (f_X0_see c.vi c.ai c.hd c.jc c.lf (nI a) (f_X1_look c.vr (f_X1_change c.vr c.ar (nI a)).2)).2.2.1 ∧ (zSact c a).lf = (f_X0_see c.vi c.ai c.hd c.jc c.lf (nI a) (f_X1_look c.vr (f_X1_change c.vr c.ar (nI a)).2)).2.2.2 ∧ (zSact c a).ad = c.ad + 1 ∧ (f_X3_doAct c.vr c.ar c.rd c.vi c.ai c.hd c.jc c.lf c.ad c.pd c.sp c.tk (nI a)).1 = (f_X1_change c.vr c.ar (nI a)).1 := by
    unfold zSact f_X3_doAct
    dsimp only
    by_cases q : (3 : Int32) ≤ nI a
    · rw [if_pos q]
      by_cases q2 : (6 : Int32) ≤ nI a
      · rw [if_pos q2]; exact ⟨rfl, rfl, rfl, rfl, rfl, rfl, rfl, rfl, rfl, rfl⟩
      · rw [if_neg q2]; exact ⟨rfl, rfl, rfl, rfl, rfl, rfl, rfl, rfl, rfl, rfl⟩
    · rw [if_neg q]; exact ⟨rfl, rfl, rfl, rfl, rfl, rfl, rfl, rfl, rfl, rfl⟩
  obtain ⟨d1, d2, d3, d4, d5, d6, d7, d8, d9, d10⟩ := cl
  refine ⟨by rw [d10]; exact ch.1, ma.1, ⟨fun _ => ⟨fun _ => sce, fun _ => sce⟩, fun _ => sce⟩, ma.2.2.2.2, ?_⟩
  refine ⟨⟨ok2, h.pv⟩, zUp_see_ok ha h.cok, by rw [d1]; exact h.vr, by rw [d5]; exact ch.2, h.mv, ma.2.1, by rw [d2]; exact h.jc, h.js, ?_, ma.2.2.2.1, ?_, ?_, cnt.1, cnt.2.1, cnt.2.2, by rw [d3]; exact h.gm, by rw [d4]; exact h.gw, Or.inl d6⟩
  · rw [d7, lo, h.jc]; exact see.1
  · rw [d8, lo, h.jc]; exact see.2.1
  · rw [d9, h.ad]; exact ma.2.2.1.symm
