/-! what holds of the class's contents -/
abbrev zS : Type := (Nat → Int32) × (Nat → Int32) × (Nat → Int32) × (Nat → Int32) × (Nat → Int32) × (Nat → Int32) × (Nat → Int32) × Int32 × (Nat → Int32) × (Nat → Int32) × (Nat → Int32) × (Nat → Int32) × Int32 × Int32 × Int32 × Int32 × Int32 × Int32 × Int32 × Int32
abbrev zS.vr (c : zS) : Nat → Int32 := c.1
abbrev zS.ar (c : zS) : Nat → Int32 := c.2.1
abbrev zS.vs (c : zS) : Nat → Int32 := c.2.2.1
abbrev zS.asF (c : zS) : Nat → Int32 := c.2.2.2.1
abbrev zS.ds (c : zS) : Nat → Int32 := c.2.2.2.2.1
abbrev zS.fa (c : zS) : Nat → Int32 := c.2.2.2.2.2.1
abbrev zS.od (c : zS) : Nat → Int32 := c.2.2.2.2.2.2.1
abbrev zS.rd (c : zS) : Int32 := c.2.2.2.2.2.2.2.1
abbrev zS.vi (c : zS) : Nat → Int32 := c.2.2.2.2.2.2.2.2.1
abbrev zS.ai (c : zS) : Nat → Int32 := c.2.2.2.2.2.2.2.2.2.1
abbrev zS.hd (c : zS) : Nat → Int32 := c.2.2.2.2.2.2.2.2.2.2.1
abbrev zS.sn (c : zS) : Nat → Int32 := c.2.2.2.2.2.2.2.2.2.2.2.1
abbrev zS.jc (c : zS) : Int32 := c.2.2.2.2.2.2.2.2.2.2.2.2.1
abbrev zS.lf (c : zS) : Int32 := c.2.2.2.2.2.2.2.2.2.2.2.2.2.1
abbrev zS.ad (c : zS) : Int32 := c.2.2.2.2.2.2.2.2.2.2.2.2.2.2.1
abbrev zS.pd (c : zS) : Int32 := c.2.2.2.2.2.2.2.2.2.2.2.2.2.2.2.1
abbrev zS.sp (c : zS) : Int32 := c.2.2.2.2.2.2.2.2.2.2.2.2.2.2.2.2.1
abbrev zS.tk (c : zS) : Int32 := c.2.2.2.2.2.2.2.2.2.2.2.2.2.2.2.2.2.1
abbrev zS.gm (c : zS) : Int32 := c.2.2.2.2.2.2.2.2.2.2.2.2.2.2.2.2.2.2.1
abbrev zS.gw (c : zS) : Int32 := c.2.2.2.2.2.2.2.2.2.2.2.2.2.2.2.2.2.2.2
/-- the class's counts: acts, poured, spilled, taken, guesses, wrong ones -/
abbrev zU : Type := Nat × Nat × Nat × Nat × Nat × Nat
abbrev zU.ac (t : zU) : Nat := t.1
abbrev zU.po (t : zU) : Nat := t.2.1
abbrev zU.si (t : zU) : Nat := t.2.2.1
abbrev zU.ta (t : zU) : Nat := t.2.2.2.1
abbrev zU.gu (t : zU) : Nat := t.2.2.2.2.1
abbrev zU.wr (t : zU) : Nat := t.2.2.2.2.2
def zR (V X : Nat → Nat) (C : zCs) (c : zS) (t : zU) : Prop := (zOK V X ∧ zPv V) ∧ zCok (zn V) C ∧ zE3 c.vr V ∧ zE3 c.ar X ∧ c.jc = nI (zn V) ∧ zCc C c.hd ∧ c.lf = nI (zNm C 729) ∧ c.ad = nI t.ac ∧ c.pd = nI t.po ∧ c.sp = nI t.si ∧ c.tk = nI t.ta ∧ c.gm = nI t.gu ∧ c.gw = nI t.wr ∧ (c.rd = 0 ∨ (zWays V (zst X) c.vs c.ds c.fa c.od c.rd ∧ 0 < c.rd))
theorem zR.ok {V X : Nat → Nat} {C : zCs} {c : zS} {t : zU} (h : zR V X C c t) : zOK V X := h.1.1
theorem zR.pv {V X : Nat → Nat} {C : zCs} {c : zS} {t : zU} (h : zR V X C c t) : zPv V := h.1.2
theorem zR.cok {V X : Nat → Nat} {C : zCs} {c : zS} {t : zU} (h : zR V X C c t) : zCok (zn V) C := h.2.1
theorem zR.vr {V X : Nat → Nat} {C : zCs} {c : zS} {t : zU} (h : zR V X C c t) : zE3 c.vr V := h.2.2.1
theorem zR.ar {V X : Nat → Nat} {C : zCs} {c : zS} {t : zU} (h : zR V X C c t) : zE3 c.ar X := h.2.2.2.1
theorem zR.jc {V X : Nat → Nat} {C : zCs} {c : zS} {t : zU} (h : zR V X C c t) : c.jc = nI (zn V) := h.2.2.2.2.1
theorem zR.cc {V X : Nat → Nat} {C : zCs} {c : zS} {t : zU} (h : zR V X C c t) : zCc C c.hd := h.2.2.2.2.2.1
theorem zR.lf {V X : Nat → Nat} {C : zCs} {c : zS} {t : zU} (h : zR V X C c t) : c.lf = nI (zNm C 729) := h.2.2.2.2.2.2.1
theorem zR.ad {V X : Nat → Nat} {C : zCs} {c : zS} {t : zU} (h : zR V X C c t) : c.ad = nI t.ac := h.2.2.2.2.2.2.2.1
theorem zR.pd {V X : Nat → Nat} {C : zCs} {c : zS} {t : zU} (h : zR V X C c t) : c.pd = nI t.po := h.2.2.2.2.2.2.2.2.1
theorem zR.sp {V X : Nat → Nat} {C : zCs} {c : zS} {t : zU} (h : zR V X C c t) : c.sp = nI t.si := h.2.2.2.2.2.2.2.2.2.1
theorem zR.tk {V X : Nat → Nat} {C : zCs} {c : zS} {t : zU} (h : zR V X C c t) : c.tk = nI t.ta := h.2.2.2.2.2.2.2.2.2.2.1
theorem zR.gm {V X : Nat → Nat} {C : zCs} {c : zS} {t : zU} (h : zR V X C c t) : c.gm = nI t.gu := h.2.2.2.2.2.2.2.2.2.2.2.1
theorem zR.gw {V X : Nat → Nat} {C : zCs} {c : zS} {t : zU} (h : zR V X C c t) : c.gw = nI t.wr := h.2.2.2.2.2.2.2.2.2.2.2.2.1
theorem zR.ws {V X : Nat → Nat} {C : zCs} {c : zS} {t : zU} (h : zR V X C c t) : c.rd = 0 ∨ (zWays V (zst X) c.vs c.ds c.fa c.od c.rd ∧ 0 < c.rd) := h.2.2.2.2.2.2.2.2.2.2.2.2.2
theorem zR.h9 {V X : Nat → Nat} {C : zCs} {c : zS} {t : zU} (h : zR V X C c t) : V 2 ≤ 9 := (h.ok 2 (by omega)).2
/-- the guesser's picture and tallies may change -/
theorem zR.g {V X : Nat → Nat} {C : zCs} {c c' : zS} {t : zU} (h : zR V X C c t) (e1 : c'.vr = c.vr) (e2 : c'.ar = c.ar) (e3 : c'.vs = c.vs) (e4 : c'.ds = c.ds) (e5 : c'.fa = c.fa) (e6 : c'.od = c.od) (e7 : c'.rd = c.rd) (e8 : c'.hd = c.hd) (e9 : c'.jc = c.jc) (e10 : c'.lf = c.lf) (e11 : c'.ad = c.ad) (e12 : c'.pd = c.pd) (e13 : c'.sp = c.sp) (e14 : c'.tk = c.tk) (e15 : c'.gm = c.gm) (e16 : c'.gw = c.gw) : zR V X C c' t :=
  ⟨h.1, h.cok, by rw [e1]; exact h.vr, by rw [e2]; exact h.ar, by rw [e9]; exact h.jc, by rw [e8]; exact h.cc, by rw [e10]; exact h.lf, by rw [e11]; exact h.ad, by rw [e12]; exact h.pd, by rw [e13]; exact h.sp, by rw [e14]; exact h.tk, by rw [e15]; exact h.gm, by rw [e16]; exact h.gw, by rw [e3, e4, e5, e6, e7]; exact h.ws⟩
theorem zR.g2 {V X : Nat → Nat} {C : zCs} {c : zS} {t : zU} (h : zR V X C c t) (as vi ai sn : Nat → Int32) : zR V X C (c.vr, c.ar, c.vs, as, c.ds, c.fa, c.od, c.rd, vi, ai, c.hd, sn, c.jc, c.lf, c.ad, c.pd, c.sp, c.tk, c.gm, c.gw) t := h
theorem zi_lt_of {n : Nat} (h0 : 0 < n) (hn : n < 2 ^ 31) {p : Int32} (h : nI n ≤ p) : nI n - 1 < p := by
  have e : nI n - 1 = nI (n - 1) := by
    obtain ⟨m, rfl⟩ : ∃ m, n = m + 1 := ⟨n - 1, by omega⟩
    rw [nI_pred]; rfl
  rw [e]
  have h1 := Int32.le_iff_toInt_le.mp h
  rw [nI_toInt hn] at h1
  refine Int32.lt_iff_toInt_lt.mpr ?_
  rw [nI_toInt (by omega)]
  omega
/-- a number from low to high -/
theorem zin_cases (lo hi : Nat) (hl : lo < 2 ^ 31) (hh : hi < 2 ^ 31) (p : Int32) : (∃ v, lo ≤ v ∧ v ≤ hi ∧ p = nI v ∧ ¬ p < nI lo ∧ p ≤ nI hi ∧ ¬ nI hi < p) ∨ (p < nI lo) ∨ (¬ p < nI lo ∧ ¬ p ≤ nI hi ∧ nI hi < p) := by
  by_cases q : p < nI lo
  · exact Or.inr (Or.inl q)
  · have q1 : (lo : Int) ≤ p.toInt := by
      have : ¬ p.toInt < (nI lo).toInt := fun z => q (Int32.lt_iff_toInt_lt.mpr z)
      rw [nI_toInt hl] at this; omega
    by_cases q2 : nI hi < p
    · refine Or.inr (Or.inr ⟨q, fun z => ?_, q2⟩)
      have h1 := Int32.lt_iff_toInt_lt.mp q2
      have h2 := Int32.le_iff_toInt_le.mp z
      omega
    · have q3 : p.toInt ≤ hi := by
        have : ¬ (nI hi).toInt < p.toInt := fun z => q2 (Int32.lt_iff_toInt_lt.mpr z)
        rw [nI_toInt hh] at this; omega
      have h0 : ¬ p < 0 := fun z => by
        have h1 := Int32.lt_iff_toInt_lt.mp z
        have : (0 : Int32).toInt = 0 := rfl
        omega
      obtain ⟨j, hj, e⟩ := nI_of h0
      have ej : p.toInt = j := by rw [e, nI_toInt hj]
      refine Or.inl ⟨j, by omega, by omega, e, q, ?_, q2⟩
      refine Int32.le_iff_toInt_le.mpr ?_
      rw [nI_toInt hh]; exact q3
/-- an act of both -/
def zNew (V X : Nat → Nat) (a : Nat) (C : zCs) : zCs := zUp C (zgSee (zn V) a (zlk V (zmv V X a)))
def zSact (c : zS) (a : Nat) : zS :=
  let d := f_X3_doAct c.vr c.ar c.rd c.vi c.ai c.hd c.jc c.lf c.ad c.pd c.sp c.tk (nI a)
  (c.vr, d.2.1, c.vs, c.asF, c.ds, c.fa, c.od, d.2.2.1, d.2.2.2.1, d.2.2.2.2.1, d.2.2.2.2.2.1, c.sn, c.jc, d.2.2.2.2.2.2.1, d.2.2.2.2.2.2.2.1, d.2.2.2.2.2.2.2.2.1, d.2.2.2.2.2.2.2.2.2.1, d.2.2.2.2.2.2.2.2.2.2, c.gm, c.gw)
theorem zj_t {V X : Nat → Nat} {C : zCs} {c : zS} {t : zU} (h : zR V X C c t) {j : Nat} (hj : j < zn V) : t_X3_checkJar c.vr (nI j) = 0 := by
  have hz := zn_23 V
  have e : f_X1_has c.vr (nI j) = 1 := by rw [zr_has h.vr h.h9 h.pv (by omega), if_pos hj]
  unfold t_X3_checkJar; rw [if_neg (by rw [e]; decide)]
theorem za_t {v : Nat} (hv : v ≤ 9) : t_X3_checkAmount (nI v) = 0 := by
  unfold t_X3_checkAmount
  rw [zl0, zl9, z_if_lt (by omega) (by omega), if_neg (by omega), z_if_le (by omega) (by omega), if_pos hv]
theorem zv_f {v : Nat} (h1 : 1 ≤ v) (hv : v ≤ 9) : f_X3_isVolume (nI v) = 1 := by
  unfold f_X3_isVolume
  rw [zl1, zl9, z_if_lt (by omega) (by omega), if_neg (by omega), z_if_lt (by omega) (by omega), if_neg (by omega)]
theorem zv_t {v : Nat} (h1 : 1 ≤ v) (hv : v ≤ 9) : t_X3_checkVolume (nI v) = 0 := by
  unfold t_X3_checkVolume; rw [if_neg (by rw [zv_f h1 hv]; decide)]
theorem zx_t {lo v : Nat} (h1 : lo ≤ v) (hv : v ≤ 50) : t_X3_checkActs (nI v) (nI lo) = 0 := by
  unfold t_X3_checkActs
  rw [show (50 : Int32) = nI 50 from rfl, z_if_lt (by omega) (by omega), if_neg (by omega), z_if_le (by omega) (by omega), if_pos hv]
/-- the counts behind an act -/
def zUact (V X : Nat → Nat) (a : Nat) (t : zU) : zU := (t.ac + 1, t.po + (if 6 ≤ a then zm V X a else 0), t.si + (if 6 ≤ a then 0 else if 3 ≤ a then zm V X a else 0), t.ta + (if 3 ≤ a then 0 else zm V X a), t.gu, t.wr)
theorem zo_act {V X : Nat → Nat} {C : zCs} {c : zS} {t : zU} (h : zR V X C c t) {a : Nat} (ha : a < 15) (hal : zal (zn V) a) :
    (f_X3_doAct c.vr c.ar c.rd c.vi c.ai c.hd c.jc c.lf c.ad c.pd c.sp c.tk (nI a)).1 = nI (zm V X a) ∧
    s_X3_doAct c.vr c.ar c.vi c.ai c.hd c.jc c.lf (nI a) ∧ zR V (zmv V X a) (zNew V X a C) (zSact c a) (zUact V X a t) := by
  have hn := zn_23 V
  have hal3 := zal_3 (by omega) hal
  have ch := zr_change h.vr h.ar h.ok ha hal3
  have ok2 := zmv_ok h.ok ha
  have lo := zr_look h.vr ch.2 ok2
  have hlk : zlk V (zmv V X a) < 1000 := by
    have := zct_le V (zmv V X a) 0
    have := zct_le V (zmv V X a) 1
    have := zct_le V (zmv V X a) 2
    unfold zlk; omega
  have e0 : ∀ N, N < 729 → zMx C (zUp C (zgSee (zn V) a (zlk V (zmv V X a)))) 0 N = C N := fun N _ => by unfold zMx; rw [if_neg (by omega)]
  have see := zc_see (n := zn V) (a := a) (lk := zlk V (zmv V X a)) hn ha hal3 hlk h.cok 730 0 c.vi c.ai c.hd c.lf (by omega) (by omega) (fun N hN => by rw [h.cc N hN, e0 N hN]) (by rw [h.lf, zNm_congr 729 e0])
  have sce : s_X0_see c.vi c.ai c.hd c.jc c.lf (nI a) (f_X1_look c.vr (f_X1_change c.vr c.ar (nI a)).2) := by
    rw [lo, h.jc]; exact see.2.2
  have cnt : (zSact c a).pd = nI (zUact V X a t).po ∧ (zSact c a).sp = nI (zUact V X a t).si ∧ (zSact c a).tk = nI (zUact V X a t).ta := by
    unfold zSact zUact f_X3_doAct
    dsimp only
    rw [ch.1, h.pd, h.sp, h.tk]
    by_cases q : 3 ≤ a
    · have q' : (3 : Int32) ≤ nI a := by rw [zl3]; exact nI_le q (by omega)
      rw [if_pos q', if_pos q, if_pos q]
      by_cases q2 : 6 ≤ a
      · have q2' : (6 : Int32) ≤ nI a := by rw [zl6]; exact nI_le q2 (by omega)
        rw [if_pos q2', if_pos q2, if_pos q2]; exact ⟨(nI_add _ _), rfl, rfl⟩
      · have q2' : ¬ (6 : Int32) ≤ nI a := by rw [zl6]; exact nI_ge (by omega) (by omega)
        rw [if_neg q2', if_neg q2, if_neg q2]; exact ⟨rfl, (nI_add _ _), rfl⟩
    · have q' : ¬ (3 : Int32) ≤ nI a := by rw [zl3]; exact nI_ge (by omega) (by omega)
      rw [if_neg q', if_neg q, if_neg q, if_neg (by omega : ¬ 6 ≤ a), if_neg (by omega : ¬ 6 ≤ a)]; exact ⟨rfl, rfl, (nI_add _ _)⟩
  have cl : (zSact c a).vr = c.vr ∧ (zSact c a).jc = c.jc ∧ (zSact c a).gm = c.gm ∧ (zSact c a).gw = c.gw ∧ (zSact c a).ar = (f_X1_change c.vr c.ar (nI a)).2 ∧ (zSact c a).rd = 0 ∧ (zSact c a).hd = (f_X0_see c.vi c.ai c.hd c.jc c.lf (nI a) (f_X1_look c.vr (f_X1_change c.vr c.ar (nI a)).2)).2.2.1 ∧ (zSact c a).lf = (f_X0_see c.vi c.ai c.hd c.jc c.lf (nI a) (f_X1_look c.vr (f_X1_change c.vr c.ar (nI a)).2)).2.2.2 ∧ (zSact c a).ad = c.ad + 1 ∧ (f_X3_doAct c.vr c.ar c.rd c.vi c.ai c.hd c.jc c.lf c.ad c.pd c.sp c.tk (nI a)).1 = (f_X1_change c.vr c.ar (nI a)).1 := by
    unfold zSact f_X3_doAct
    dsimp only
    by_cases q : (3 : Int32) ≤ nI a
    · rw [if_pos q]
      by_cases q2 : (6 : Int32) ≤ nI a
      · rw [if_pos q2]; exact ⟨rfl, rfl, rfl, rfl, rfl, rfl, rfl, rfl, rfl, rfl⟩
      · rw [if_neg q2]; exact ⟨rfl, rfl, rfl, rfl, rfl, rfl, rfl, rfl, rfl, rfl⟩
    · rw [if_neg q]; exact ⟨rfl, rfl, rfl, rfl, rfl, rfl, rfl, rfl, rfl, rfl⟩
  obtain ⟨d1, d2, d3, d4, d5, d6, d7, d8, d9, d10⟩ := cl
  refine ⟨by rw [d10]; exact ch.1, ⟨fun _ => ⟨fun _ => sce, fun _ => sce⟩, fun _ => sce⟩, ?_⟩
  refine ⟨⟨ok2, h.pv⟩, zUp_see_ok ha h.cok, by rw [d1]; exact h.vr, by rw [d5]; exact ch.2, by rw [d2]; exact h.jc, ?_, ?_, ?_, cnt.1, cnt.2.1, cnt.2.2, by rw [d3]; exact h.gm, by rw [d4]; exact h.gw, Or.inl d6⟩
  · rw [d7, lo, h.jc]; exact see.1
  · rw [d8, lo, h.jc]; exact see.2.1
  · rw [d9, h.ad, zl1, nI_add]; rfl
