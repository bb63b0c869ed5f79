/-! each call of the class, its answer said in mathematics -/
theorem zR.least {V X : Nat → Nat} {C : zCs} {c : zS} {t : zU} (h : zR V X C c t) {v : Nat} (h9 : v ≤ 9) : ∀ as, (f_X2_leastActsTo (zW c).1 as (zW c).2.2.1 (zW c).2.2.2.2.1 (zW c).2.2.2.2.2 (nI v)).1 = zDi (zF V X v) :=
  fun as => zc_least h.w.2.1 h.w.2.2.1 h.gd.1 as (by omega)
theorem zR.held {V X : Nat → Nat} {C : zCs} {c : zS} {t : zU} (h : zR V X C c t) : f_X3_heldInAll c.ar = nI (X 0 + X 1 + X 2) := by
  unfold f_X3_heldInAll
  rw [zl0, zl1, zl2, zr_amt (by omega), zr_amt (by omega), zr_amt (by omega), h.ar 0 (by omega), h.ar 1 (by omega), h.ar 2 (by omega), nI_add, nI_add]
theorem zp_fill {V X : Nat → Nat} {C : zCs} {c : zS} {t : zU} (h : zR V X C c t) {j : Nat} (hj : j < zn V) : zs_fill c (nI j) ∧ zt_fill c (nI j) = 0 ∧ zk_fill c (nI j) = nI (zm V X j) ∧ zR V (zmv V X j) (zNew V X j C) (zS_fill c (nI j)) (zUact V X j t) := by
  have hz := zn_23 V
  have hal : zal (zn V) j := by unfold zal; rw [if_pos (by omega)]; exact hj
  have A := zo_act h (a := j) (by omega) hal
  have h1 := zj_t h hj
  refine ⟨⟨fun _ => A.2.1, fun z => absurd h1 z⟩, by unfold zt_fill t_X3_fill; rw [if_pos h1], ?_, ?_⟩
  · unfold zk_fill
    simp only [f_X3_fill, h1, ↓reduceIte]; exact A.1
  · unfold zS_fill
    simp only [f_X3_fill, h1, ↓reduceIte]; exact A.2.2
theorem zp_empty {V X : Nat → Nat} {C : zCs} {c : zS} {t : zU} (h : zR V X C c t) {j : Nat} (hj : j < zn V) : zs_empty c (nI j) ∧ zt_empty c (nI j) = 0 ∧ zk_empty c (nI j) = nI (zm V X (3 + j)) ∧ zR V (zmv V X (3 + j)) (zNew V X (3 + j) C) (zS_empty c (nI j)) (zUact V X (3 + j) t) := by
  have hz := zn_23 V
  have hal : zal (zn V) (3 + j) := by unfold zal; rw [if_neg (by omega), if_pos (by omega)]; omega
  have A := zo_act h (a := 3 + j) (by omega) hal
  have h1 := zj_t h hj
  have ea : 3 + nI j = nI (3 + j) := by rw [zl3, nI_add]
  refine ⟨⟨fun _ => by rw [ea]; exact A.2.1, fun z => absurd h1 z⟩, by unfold zt_empty t_X3_empty; rw [if_pos h1], ?_, ?_⟩
  · unfold zk_empty
    simp only [f_X3_empty, h1, ↓reduceIte, ea]; exact A.1
  · unfold zS_empty
    simp only [f_X3_empty, h1, ↓reduceIte, ea]; exact A.2.2
theorem zp_chk {V X : Nat → Nat} {C : zCs} {c : zS} {t : zU} (h : zR V X C c t) {j k : Nat} (hj : j < zn V) (hk : k < zn V) (hne : ¬ j = k) : t_X3_checkPour c.vr (nI j) (nI k) = 0 := by
  have hz := zn_23 V
  unfold t_X3_checkPour
  rw [if_pos (zj_t h hj), if_pos (zj_t h hk), if_neg (fun z => hne ((nI_eq (by omega) (by omega)).mp z))]
theorem zp_pour {V X : Nat → Nat} {C : zCs} {c : zS} {t : zU} (h : zR V X C c t) {j k : Nat} (hj : j < zn V) (hk : k < zn V) (hne : ¬ j = k) : zs_pour c (nI j) (nI k) ∧ zt_pour c (nI j) (nI k) = 0 ∧ zk_pour c (nI j) (nI k) = nI (zm V X (6 + 3 * j + k)) ∧ zR V (zmv V X (6 + 3 * j + k)) (zNew V X (6 + 3 * j + k) C) (zS_pour c (nI j) (nI k)) (zUact V X (6 + 3 * j + k) t) := by
  obtain ⟨ha, hal, ea⟩ := z_pourAct hj hk hne
  have A := zo_act h (a := 6 + 3 * j + k) ha hal
  have h1 := zp_chk h hj hk hne
  have ep : f_X3_pourNumber (nI j) (nI k) = nI (6 + 3 * j + k) := ea
  refine ⟨⟨fun _ => by rw [ep]; exact A.2.1, fun z => absurd h1 z⟩, by unfold zt_pour t_X3_pour; rw [if_pos h1], ?_, ?_⟩
  · unfold zk_pour
    simp only [f_X3_pour, h1, ↓reduceIte, ep]; exact A.1
  · unfold zS_pour
    simp only [f_X3_pour, h1, ↓reduceIte, ep]; exact A.2.2
/-! what jars are -/
theorem zp_jars {V X : Nat → Nat} {C : zCs} {c : zS} {t : zU} (h : zR V X C c t) : zk_jars c = nI (zn V) ∧ zR V X C (zS_jars c) t := ⟨zr_count h.vr h.h9, h⟩
theorem zp_volumeOf {V X : Nat → Nat} {C : zCs} {c : zS} {t : zU} (h : zR V X C c t) {j : Nat} (hj : j < zn V) : zt_volumeOf c (nI j) = 0 ∧ zk_volumeOf c (nI j) = nI (V j) ∧ zR V X C (zS_volumeOf c (nI j)) t := by
  have hz := zn_23 V
  have h1 := zj_t h hj
  refine ⟨by unfold zt_volumeOf t_X3_volumeOf; rw [if_pos h1], ?_, h⟩
  unfold zk_volumeOf f_X3_volumeOf
  rw [if_pos h1, zr_vol (by omega)]; exact h.vr j (by omega)
theorem zp_amountOf {V X : Nat → Nat} {C : zCs} {c : zS} {t : zU} (h : zR V X C c t) {j : Nat} (hj : j < zn V) : zt_amountOf c (nI j) = 0 ∧ zk_amountOf c (nI j) = nI (X j) ∧ zR V X C (zS_amountOf c (nI j)) t := by
  have hz := zn_23 V
  have h1 := zj_t h hj
  refine ⟨by unfold zt_amountOf t_X3_amountOf; rw [if_pos h1], ?_, h⟩
  unfold zk_amountOf f_X3_amountOf
  rw [if_pos h1, zr_amt (by omega)]; exact h.ar j (by omega)
theorem zp_isEmpty {V X : Nat → Nat} {C : zCs} {c : zS} {t : zU} (h : zR V X C c t) {j : Nat} (hj : j < zn V) : zt_isEmpty c (nI j) = 0 ∧ zk_isEmpty c (nI j) = zb01 (decide (X j = 0)) ∧ zR V X C (zS_isEmpty c (nI j)) t := by
  have hz := zn_23 V
  have h1 := zj_t h hj
  have b := h.ok j (by omega)
  refine ⟨by unfold zt_isEmpty t_X3_isEmpty; rw [if_pos h1], ?_, h⟩
  unfold zk_isEmpty f_X3_isEmpty
  rw [if_pos h1]
  unfold f_X1_emptyAt
  rw [zr_amt (by omega), h.ar j (by omega), zl0]
  first | rw [z_if_eq (by omega) (by omega)]; exact z_01 (X j) 0 | (rw [ite_not, z_if_eq (by omega) (by omega)]; exact z_01 (X j) 0)
theorem zp_isFull {V X : Nat → Nat} {C : zCs} {c : zS} {t : zU} (h : zR V X C c t) {j : Nat} (hj : j < zn V) : zt_isFull c (nI j) = 0 ∧ zk_isFull c (nI j) = zb01 (decide (X j = V j)) ∧ zR V X C (zS_isFull c (nI j)) t := by
  have hz := zn_23 V
  have h1 := zj_t h hj
  have b := h.ok j (by omega)
  refine ⟨by unfold zt_isFull t_X3_isFull; rw [if_pos h1], ?_, h⟩
  unfold zk_isFull f_X3_isFull
  rw [if_pos h1]
  unfold f_X1_fullAt
  rw [zr_amt (by omega), zr_vol (by omega), h.ar j (by omega), h.vr j (by omega)]
  first | rw [z_if_eq (by omega) (by omega)]; exact z_01 (X j) (V j) | (rw [ite_not, z_if_eq (by omega) (by omega)]; exact z_01 (X j) (V j))
theorem zp_heldInAll {V X : Nat → Nat} {C : zCs} {c : zS} {t : zU} (h : zR V X C c t) : zk_heldInAll c = nI (X 0 + X 1 + X 2) ∧ zR V X C (zS_heldInAll c) t := ⟨h.held, h⟩
theorem zp_acts {V X : Nat → Nat} {C : zCs} {c : zS} {t : zU} (h : zR V X C c t) : zk_acts c = nI t.ac ∧ zR V X C (zS_acts c) t := ⟨h.ad, h⟩
theorem zp_pouredInAll {V X : Nat → Nat} {C : zCs} {c : zS} {t : zU} (h : zR V X C c t) : zk_pouredInAll c = nI t.po ∧ zR V X C (zS_pouredInAll c) t := ⟨h.pd, h⟩
theorem zp_spilledInAll {V X : Nat → Nat} {C : zCs} {c : zS} {t : zU} (h : zR V X C c t) : zk_spilledInAll c = nI t.si ∧ zR V X C (zS_spilledInAll c) t := ⟨h.sp, h⟩
theorem zp_takenInAll {V X : Nat → Nat} {C : zCs} {c : zS} {t : zU} (h : zR V X C c t) : zk_takenInAll c = nI t.ta ∧ zR V X C (zS_takenInAll c) t := ⟨h.tk, h⟩
theorem zp_guesses {V X : Nat → Nat} {C : zCs} {c : zS} {t : zU} (h : zR V X C c t) : zk_guesses c = nI t.gu ∧ zR V X C (zS_guesses c) t := ⟨h.gm, h⟩
theorem zp_wrongGuesses {V X : Nat → Nat} {C : zCs} {c : zS} {t : zU} (h : zR V X C c t) : zk_wrongGuesses c = nI t.wr ∧ zR V X C (zS_wrongGuesses c) t := ⟨h.gw, h⟩
theorem zp_candidates {V X : Nat → Nat} {C : zCs} {c : zS} {t : zU} (h : zR V X C c t) : zk_candidates c = nI (zNm C 729) ∧ zR V X C (zS_candidates c) t := ⟨h.lf, h⟩
theorem zp_isThere {V X : Nat → Nat} {C : zCs} {c : zS} {t : zU} (h : zR V X C c t) {v : Nat} (hv : v ≤ 9) : zt_isThere c (nI v) = 0 ∧ zk_isThere c (nI v) = zb01 (zhas (zn V) X v) ∧ zR V X C (zS_isThere c (nI v)) t := by
  have h1 := za_t hv
  refine ⟨by unfold zt_isThere t_X3_isThere; rw [if_pos h1], ?_, h⟩
  unfold zk_isThere f_X3_isThere
  rw [if_pos h1, zr_some h.vr h.ar h.ok (by omega)]
/-! the guesser's answers -/
theorem zp_mayBe {V X : Nat → Nat} {C : zCs} {c : zS} {t : zU} (h : zR V X C c t) {j v : Nat} (hj : j < zn V) (v1 : 1 ≤ v) (hv : v ≤ 9) : zs_mayBe c (nI j) (nI v) ∧ zt_mayBe c (nI j) (nI v) = 0 ∧ zk_mayBe c (nI j) (nI v) = zb01 (zMay (zn V) C j v) ∧ zR V X C (zS_mayBe c (nI j) (nI v)) t := by
  have hn := zn_23 V
  have h1 := zj_t h hj
  have g2 := zv_t v1 hv
  refine ⟨⟨fun _ => ⟨fun _ => by rw [h.jc]; exact (zc_volumes hn (by omega) h.cok h.cc c.vi c.ai).2, fun _ => trivial⟩, fun _ => trivial⟩, by unfold zt_mayBe t_X3_mayBe; rw [if_pos h1, if_pos g2], ?_, by unfold zS_mayBe; exact zR.g2 h _ _ _ _⟩
  unfold zk_mayBe f_X3_mayBe
  rw [if_pos h1, if_pos g2]
  show f_X3_isAmong (f_X0_volumesFor c.vi c.ai c.hd c.jc (nI j)).1 (nI v) = _
  rw [h.jc]
  exact zc_among hn (by omega) (by omega) h.cok h.cc c.vi c.ai
theorem zp_isKnown {V X : Nat → Nat} {C : zCs} {c : zS} {t : zU} (h : zR V X C c t) {j : Nat} (hj : j < zn V) : zs_isKnown c (nI j) ∧ zt_isKnown c (nI j) = 0 ∧ zk_isKnown c (nI j) = zb01 (decide (zBc (zMay (zn V) C j) 9 = 1)) ∧ zR V X C (zS_isKnown c (nI j)) t := by
  have hn := zn_23 V
  have h1 := zj_t h hj
  refine ⟨⟨fun _ => by rw [h.jc]; exact (zc_volumes hn (by omega) h.cok h.cc c.vi c.ai).2, fun _ => trivial⟩, by unfold zt_isKnown t_X3_isKnown; rw [if_pos h1], ?_, by unfold zS_isKnown; exact zR.g2 h _ _ _ _⟩
  unfold zk_isKnown f_X3_isKnown
  rw [if_pos h1]
  show f_X3_isOne (f_X0_volumesFor c.vi c.ai c.hd c.jc (nI j)).1 = _
  rw [h.jc]
  exact zc_one hn hj h.cok h.cc c.vi c.ai
theorem zp_leftAtMost {V X : Nat → Nat} {C : zCs} {c : zS} {t : zU} (h : zR V X C c t) {j k : Nat} (hj : j < zn V) (hk : k < zn V) (hne : ¬ j = k) : zs_leftAtMost c (nI j) (nI k) ∧ zt_leftAtMost c (nI j) (nI k) = 0 ∧ zk_leftAtMost c (nI j) (nI k) = nI (zMost (zn V) C (6 + 3 * j + k)) ∧ zR V X C (zS_leftAtMost c (nI j) (nI k)) t := by
  have hn := zn_23 V
  obtain ⟨ha, hal, ea⟩ := z_pourAct hj hk hne
  have h1 := zp_chk h hj hk hne
  have ep : f_X3_pourNumber (nI j) (nI k) = nI (6 + 3 * j + k) := ea
  have M := zc_most hn ha (zal_3 (by omega) hal) h.cok h.cc c.vi c.ai c.sn
  rw [← h.jc] at M
  refine ⟨⟨fun _ => by rw [ep]; exact M.2, fun z => absurd h1 z⟩, by unfold zt_leftAtMost t_X3_leftAtMost; rw [if_pos h1], ?_, by unfold zS_leftAtMost; exact zR.g2 h _ _ _ _⟩
  unfold zk_leftAtMost
  simp only [f_X3_leftAtMost, if_pos h1, ep]
  exact M.1
/-- the best pour, and how many it leaves -/
def zBq (n : Nat) (C : zCs) : Nat → Nat → Int32 → Nat → Int32 × Nat
  | 0, _, best, w => (best, w)
  | m + 1, k, best, w => if zalB n k = true then (if zMost n C k < w then zBq n C m (k + 1) (nI k) (zMost n C k) else zBq n C m (k + 1) best w) else zBq n C m (k + 1) best w
theorem zc_bestLoop {V : Nat → Nat} (h9 : V 2 ≤ 9) (hp9 : zPv V) {vr : Nat → Int32} (hv : zE3 vr V) {C : zCs} (hC : zCok (zn V) C) {hd : Nat → Int32} (h : zCc C hd) : ∀ (m k : Nat) (vi ai sn : Nat → Int32) (best : Int32) (w : Nat), k + m = 15 → w ≤ 729 → (lf_X3_bestPour_13 (m + 1) k vr vi ai hd sn (nI (zn V)) best (nI w)).2.2.2 = (zBq (zn V) C m k best w).1 ∧ sf_X3_bestPour_13 (m + 1) k vr vi ai hd sn (nI (zn V)) (nI w) := by
  have hn := zn_23 V
  intro m
  induction m with
  | zero =>
    intro k vi ai sn best w hk hw
    have q : (15 : Int32) ≤ nI k := by rw [zl15, show k = 15 by omega]; exact Int32.le_refl _
    rw [lf_X3_bestPour_13_succ, sf_X3_bestPour_13_succ, if_pos q]
    exact ⟨rfl, fun _ => trivial, fun z => absurd q z⟩
  | succ m ih =>
    intro k vi ai sn best w hk hw
    have hk' : k < 15 := by omega
    have q : ¬ (15 : Int32) ≤ nI k := by rw [zl15]; exact nI_ge hk' (by omega)
    rw [lf_X3_bestPour_13_succ, sf_X3_bestPour_13_succ, if_neg q]
    show _ = (if zalB (zn V) k = true then (if zMost (zn V) C k < w then zBq (zn V) C m (k + 1) (nI k) (zMost (zn V) C k) else zBq (zn V) C m (k + 1) best w) else zBq (zn V) C m (k + 1) best w).1 ∧ _
    have ca := zr_allows hv h9 hp9 hk'
    by_cases p : zal (zn V) k
    · have a1 : ¬ f_X1_allows vr (nI k) = 0 := fun z => ca.mp z p
      have hal3 := zal_3 (by omega) p
      have mo := zc_most hn hk' hal3 hC h vi ai sn
      have ml := zMost_le (zn V) C k
      rw [if_neg a1, if_pos (zalB_iff.mpr p), mo.1, z_if_le (by omega) (by omega)]
      by_cases z : zMost (zn V) C k < w
      · have r := ih (k + 1) (f_X0_mostLeftBehind vi ai hd sn (nI (zn V)) (nI k)).2.1 (f_X0_mostLeftBehind vi ai hd sn (nI (zn V)) (nI k)).2.2.1 (f_X0_mostLeftBehind vi ai hd sn (nI (zn V)) (nI k)).2.2.2 (nI k) (zMost (zn V) C k) (by omega) ml
        have z' : ¬ w ≤ zMost (zn V) C k := by omega
        rw [if_neg z', if_pos z]
        exact ⟨r.1, fun y => absurd y q, fun _ => ⟨fun y => absurd y a1, fun _ => ⟨mo.2, fun y => absurd ((nI_leI (by omega) (by omega)).mp y) z', fun _ => r.2⟩⟩⟩
      · have r := ih (k + 1) (f_X0_mostLeftBehind vi ai hd sn (nI (zn V)) (nI k)).2.1 (f_X0_mostLeftBehind vi ai hd sn (nI (zn V)) (nI k)).2.2.1 (f_X0_mostLeftBehind vi ai hd sn (nI (zn V)) (nI k)).2.2.2 best w (by omega) hw
        have z' : w ≤ zMost (zn V) C k := by omega
        rw [if_pos z', if_neg z]
        exact ⟨r.1, fun y => absurd y q, fun _ => ⟨fun y => absurd y a1, fun _ => ⟨mo.2, fun _ => r.2, fun y => absurd ((nI_leI (by omega) (by omega)).mpr z') y⟩⟩⟩
    · have a1 : f_X1_allows vr (nI k) = 0 := ca.mpr p
      have r := ih (k + 1) vi ai sn best w (by omega) hw
      rw [if_pos a1, if_neg (fun z => p (zalB_iff.mp z))]
      exact ⟨r.1, fun y => absurd y q, fun _ => ⟨fun _ => r.2, fun y => absurd a1 y⟩⟩
theorem zp_bestPour {V X : Nat → Nat} {C : zCs} {c : zS} {t : zU} (h : zR V X C c t) : zs_bestPour c ∧ zk_bestPour c = (zBq (zn V) C 9 6 (-1) (zNm C 729)).1 ∧ zR V X C (zS_bestPour c) t := by
  have L := zc_bestLoop h.h9 h.pv h.vr h.cok h.cc 9 6 c.vi c.ai c.sn (-1) (zNm C 729) (by omega) (zNm_le C 729)
  rw [← h.jc, ← h.lf, show 9 + 1 = 10 from rfl] at L
  refine ⟨?_, ?_, by unfold zS_bestPour; exact zR.g2 h _ _ _ _⟩
  · unfold zs_bestPour s_X3_bestPour f_X0_candidatesLeft; exact L.2
  · unfold zk_bestPour f_X3_bestPour f_X0_candidatesLeft
    dsimp only
    rw [← L.1]
/-! a guess; jars laid out -/
theorem zR.learn {V X : Nat → Nat} {C : zCs} {c : zS} {t : zU} (h : zR V X C c t) {j v : Nat} (hj : j < 3) (hv : v < 2 ^ 31) (b : Bool) (x : Int32) (hx : x = zb01 b) (vi ai vi2 ai2 : Nat → Int32) (gw : Int32) (wr : Nat) (hw : gw = nI wr) :
    zR V X (zUp C (zgLearn (zn V) j v b)) (c.vr, c.ar, c.vs, c.asF, c.ds, c.fa, c.od, c.rd, vi2, ai2, (f_X0_learn vi ai c.hd c.jc c.lf (nI j) (nI v) x).2.2.1, c.sn, c.jc, (f_X0_learn vi ai c.hd c.jc c.lf (nI j) (nI v) x).2.2.2, c.ad, c.pd, c.sp, c.tk, c.gm + 1, gw) (t.ac, t.po, t.si, t.ta, t.gu + 1, wr) ∧ s_X0_learn vi ai c.hd c.jc c.lf (nI j) (nI v) x := by
  subst hx
  have hn := zn_23 V
  have e0 : ∀ N, N < 729 → zMx C (zUp C (zgLearn (zn V) j v b)) 0 N = C N := fun N _ => by unfold zMx; rw [if_neg (by omega)]
  have L := zc_learn (n := zn V) (jar := j) (v := v) (b := b) hn hj hv h.cok 730 0 vi ai c.hd c.lf (by omega) (by omega) (fun N hN => by rw [h.cc N hN, e0 N hN]) (by rw [h.lf, zNm_congr 729 e0])
  rw [← h.jc] at L
  have E := z_learn_eq vi ai c.hd c.jc c.lf (nI j) (nI v) (zb01 b)
  refine ⟨⟨h.1, zUp_learn_ok h.cok, h.vr, h.ar, h.jc, ?_, ?_, h.ad, h.pd, h.sp, h.tk, ?_, hw, h.ws⟩, ?_⟩
  · show zCc _ (f_X0_learn vi ai c.hd c.jc c.lf (nI j) (nI v) (zb01 b)).2.2.1
    rw [E.1]; exact L.1
  · show (f_X0_learn vi ai c.hd c.jc c.lf (nI j) (nI v) (zb01 b)).2.2.2 = _
    rw [E.2]; exact L.2.1
  · show c.gm + 1 = nI (t.gu + 1)
    rw [h.gm, zl1, nI_add]
  · unfold s_X0_learn; exact L.2.2
/-- what a guess leaves of the counts -/
def zUgs (r : Bool) (t : zU) : zU := (t.ac, t.po, t.si, t.ta, t.gu + 1, t.wr + (if r = true then 0 else 1))
theorem zp_guess {V X : Nat → Nat} {C : zCs} {c : zS} {t : zU} (h : zR V X C c t) {j v : Nat} (hj : j < zn V) (v1 : 1 ≤ v) (v9 : v ≤ 9) : zs_guess c (nI j) (nI v) ∧
    (zMay (zn V) C j v = false → zt_guess c (nI j) (nI v) = 3 ∧ zR V X C (zS_guess c (nI j) (nI v)) t) ∧
    (zMay (zn V) C j v = true → zt_guess c (nI j) (nI v) = 0 ∧ zk_guess c (nI j) (nI v) = zb01 (decide (V j = v)) ∧ zR V X (zUp C (zgLearn (zn V) j v (decide (V j = v)))) (zS_guess c (nI j) (nI v)) (zUgs (decide (V j = v)) t)) := by
  have hn := zn_23 V
  have h1 := zj_t h hj
  have hj3 : j < 3 := by omega
  have g2 := zv_t v1 v9
  have ec : f_X3_isAmong (f_X0_volumesFor c.vi c.ai c.hd c.jc (nI j)).1 (nI v) = zb01 (zMay (zn V) C j v) := by
    rw [h.jc]; exact zc_among hn hj3 (by omega) h.cok h.cc c.vi c.ai
  have sv : s_X0_volumesFor c.hd c.jc (nI j) := by rw [h.jc]; exact (zc_volumes hn hj3 h.cok h.cc c.vi c.ai).2
  have evol : f_X1_volumeAt c.vr (nI j) = nI (V j) := by rw [zr_vol hj3]; exact h.vr j hj3
  have hV9 := (h.ok j hj3).2
  have Lt := h.learn hj3 (v := v) (by omega) true 1 rfl (f_X0_volumesFor c.vi c.ai c.hd c.jc (nI j)).2.1 (f_X0_volumesFor c.vi c.ai c.hd c.jc (nI j)).2.2
  have Lf := h.learn hj3 (v := v) (by omega) false 0 rfl (f_X0_volumesFor c.vi c.ai c.hd c.jc (nI j)).2.1 (f_X0_volumesFor c.vi c.ai c.hd c.jc (nI j)).2.2
  have sg : zs_guess c (nI j) (nI v) :=
    ⟨fun _ => ⟨fun _ => ⟨sv, fun _ => trivial, fun _ => ⟨fun _ => (Lt c.vi c.ai c.gw t.wr h.gw).2, fun _ => (Lf c.vi c.ai c.gw t.wr h.gw).2⟩⟩, fun _ => trivial⟩, fun _ => trivial⟩
  refine ⟨sg, fun hM => ?_, fun hM => ?_⟩
  · rw [hM] at ec
    have ec0 : f_X3_isAmong (f_X0_volumesFor c.vi c.ai c.hd c.jc (nI j)).1 (nI v) = 0 := ec
    refine ⟨by unfold zt_guess t_X3_guess; rw [if_pos h1, if_pos g2, if_pos ec0], ?_⟩
    unfold zS_guess
    simp only [f_X3_guess, if_pos h1, if_pos g2, if_pos ec0]
    exact zR.g2 h _ _ _ _
  · rw [hM] at ec
    have ec1 : ¬ f_X3_isAmong (f_X0_volumesFor c.vi c.ai c.hd c.jc (nI j)).1 (nI v) = 0 := by rw [ec]; decide
    by_cases e : V j = v
    · have ev : f_X1_volumeAt c.vr (nI j) = nI v := by rw [evol, e]
      have ne10 : ¬ (1 : Int32) = 0 := by decide
      refine ⟨by unfold zt_guess t_X3_guess; rw [if_pos h1, if_pos g2, if_neg ec1, if_pos ev]; rfl, ?_, ?_⟩
      · unfold zk_guess
        simp only [f_X3_guess, if_pos h1, if_pos g2, if_neg ec1, if_pos ev, if_neg ne10, decide_eq_true e]
        rfl
      · unfold zS_guess
        simp only [f_X3_guess, if_pos h1, if_pos g2, if_neg ec1, if_pos ev, if_neg ne10, decide_eq_true e]
        exact (Lt _ _ c.gw t.wr h.gw).1
    · have ev : ¬ f_X1_volumeAt c.vr (nI j) = nI v := by rw [evol]; exact fun z => e ((nI_eq (by omega) (by omega)).mp z)
      refine ⟨by unfold zt_guess t_X3_guess; rw [if_pos h1, if_pos g2, if_neg ec1, if_neg ev]; rfl, ?_, ?_⟩
      · unfold zk_guess
        simp only [f_X3_guess, if_pos h1, if_pos g2, if_neg ec1, if_neg ev, ↓reduceIte, decide_eq_false e]
        rfl
      · unfold zS_guess
        simp only [f_X3_guess, if_pos h1, if_pos g2, if_neg ec1, if_neg ev, ↓reduceIte, decide_eq_false e]
        exact (Lf _ _ (c.gw + 1) (t.wr + 1) (by rw [h.gw, zl1, nI_add])).1
theorem zR.lay {a b d : Nat} (ha : 1 ≤ a ∧ a ≤ 9) (hb : 1 ≤ b ∧ b ≤ 9) (hd : d ≤ 9) (c : zS) :
    zR (zV3 a b d) (fun _ => 0) (zC0 (zn (zV3 a b d))) (zS_begin c (nI a) (nI b) (nI d)) (0, 0, 0, 0, 0, 0) ∧
    f_X1_count (f_X3_begin c.vr c.ar c.rd c.hd c.jc c.lf c.ad c.pd c.sp c.tk c.gm c.gw (nI a) (nI b) (nI d)).1 = nI (zn (zV3 a b d)) := by
  have hn := zn_23 (zV3 a b d)
  have ok := zV3_ok ha.2 hb.2 hd
  have hvr : zE3 (f_X1_layEmpty c.vr c.ar (nI a) (nI b) (nI d)).1 (zV3 a b d) := zE3_lay a b d
  have hc := zr_count hvr (ok 2 (by omega)).2
  have hB : f_X3_begin c.vr c.ar c.rd c.hd c.jc c.lf c.ad c.pd c.sp c.tk c.gm c.gw (nI a) (nI b) (nI d) = ((f_X1_layEmpty c.vr c.ar (nI a) (nI b) (nI d)).1, (f_X1_layEmpty c.vr c.ar (nI a) (nI b) (nI d)).2, (0 : Int32), (f_X0_beginWith c.hd c.jc c.lf (nI (zn (zV3 a b d)))).1, (f_X0_beginWith c.hd c.jc c.lf (nI (zn (zV3 a b d)))).2.1, (f_X0_beginWith c.hd c.jc c.lf (nI (zn (zV3 a b d)))).2.2, (0 : Int32), (0 : Int32), (0 : Int32), (0 : Int32), (0 : Int32), (0 : Int32)) := by
    unfold f_X3_begin f_X2_forget; rw [hc]
  have bw := zc_begin hn c.hd c.jc c.lf
  have al := (zr_lay c.vr c.ar (nI a) (nI b) (nI d)).2
  unfold zS_begin
  rw [hB]
  generalize f_X0_beginWith c.hd c.jc c.lf (nI (zn (zV3 a b d))) = Q at bw ⊢
  exact ⟨⟨⟨ok, ha, hb⟩, zC0_ok _, hvr, al, bw.2.1, bw.1, bw.2.2, rfl, rfl, rfl, rfl, rfl, rfl, Or.inl rfl⟩, hc⟩
theorem zp_layOut {a b d : Nat} (ha : 1 ≤ a ∧ a ≤ 9) (hb : 1 ≤ b ∧ b ≤ 9) (hd : d ≤ 9) (c : zS) : zt_layOut c (nI a) (nI b) (nI d) = 0 ∧ zk_layOut c (nI a) (nI b) (nI d) = nI (zn (zV3 a b d)) ∧ zR (zV3 a b d) (fun _ => 0) (zC0 (zn (zV3 a b d))) (zS_layOut c (nI a) (nI b) (nI d)) (0, 0, 0, 0, 0, 0) := by
  have L := zR.lay ha hb hd c
  have nx1 : ¬ f_X3_isVolume (nI a) = 0 := by rw [zv_f ha.1 ha.2]; decide
  have nx2 : ¬ f_X3_isVolume (nI b) = 0 := by rw [zv_f hb.1 hb.2]; decide
  have n3 : nI d = 0 ∨ (¬ nI d = 0 ∧ ¬ f_X3_isVolume (nI d) = 0) := by
    rcases Nat.eq_zero_or_pos d with z | z
    · exact Or.inl (by rw [z]; rfl)
    · exact Or.inr ⟨fun y => by rw [zl0] at y; have := (nI_eq (by omega) (by omega)).mp y; omega, by rw [zv_f z hd]; decide⟩
  have hF : f_X3_layOut c.vr c.ar c.rd c.hd c.jc c.lf c.ad c.pd c.sp c.tk c.gm c.gw (nI a) (nI b) (nI d) = (f_X1_count (f_X3_begin c.vr c.ar c.rd c.hd c.jc c.lf c.ad c.pd c.sp c.tk c.gm c.gw (nI a) (nI b) (nI d)).1, f_X3_begin c.vr c.ar c.rd c.hd c.jc c.lf c.ad c.pd c.sp c.tk c.gm c.gw (nI a) (nI b) (nI d)) := by
    unfold f_X3_layOut
    rw [if_neg nx1, if_neg nx2]
    generalize f_X3_begin c.vr c.ar c.rd c.hd c.jc c.lf c.ad c.pd c.sp c.tk c.gm c.gw (nI a) (nI b) (nI d) = B
    rcases n3 with q | ⟨q, q2⟩
    · rw [if_pos q]
    · rw [if_neg q, if_neg q2]
  refine ⟨?_, ?_, ?_⟩
  · unfold zt_layOut t_X3_layOut
    rw [if_neg nx1, if_neg nx2]
    rcases n3 with q | ⟨q, q2⟩
    · rw [if_pos q]
    · rw [if_neg q, if_neg q2]
  · unfold zk_layOut; rw [hF]; exact L.2
  · have L1 := L.1
    unfold zS_begin at L1
    unfold zS_layOut
    rw [hF]
    exact L1
/-! answers from the ways -/
theorem zp_leastActs {V X : Nat → Nat} {C : zCs} {c : zS} {t : zU} (h : zR V X C c t) {v : Nat} (hv : v ≤ 9) : zs_leastActs c (nI v) ∧ zt_leastActs c (nI v) = 0 ∧ zk_leastActs c (nI v) = zDi (zF V X v) ∧ zR V X C (zS_leastActs c (nI v)) t := by
  have w := h.w
  have h1 := za_t hv
  refine ⟨⟨fun _ => w.1, fun _ => trivial⟩, by unfold zt_leastActs t_X3_leastActs; rw [if_pos h1], ?_, ?_⟩
  · unfold zk_leastActs
    simp only [f_X3_leastActs, if_pos h1]
    unfold f_X3_leastActs_t2; exact h.least hv _
  · unfold zS_leastActs
    simp only [f_X3_leastActs, if_pos h1]
    exact w.2.2.2 _
theorem zp_leastActsIn {V X : Nat → Nat} {C : zCs} {c : zS} {t : zU} (h : zR V X C c t) {j v : Nat} (hj : j < zn V) (hv : v ≤ 9) : zs_leastActsIn c (nI j) (nI v) ∧ zt_leastActsIn c (nI j) (nI v) = 0 ∧ zk_leastActsIn c (nI j) (nI v) = zDi (zFst (zBFS V (zst X)) (fun t => decide (zdg t j = v))) ∧ zR V X C (zS_leastActsIn c (nI j) (nI v)) t := by
  have w := h.w
  have hn := zn_23 V
  have h1 := zj_t h hj
  have g1 := za_t hv
  refine ⟨⟨fun _ => ⟨fun _ => w.1, fun _ => trivial⟩, fun _ => trivial⟩, by unfold zt_leastActsIn t_X3_leastActsIn; rw [if_pos h1, if_pos g1], ?_, ?_⟩
  · unfold zk_leastActsIn
    simp only [f_X3_leastActsIn, if_pos h1, if_pos g1]
    unfold f_X3_leastActsIn_t2; exact zc_leastWith w.2.2.1 h.gd.1 _ (by omega) (by omega)
  · unfold zS_leastActsIn
    simp only [f_X3_leastActsIn, if_pos h1, if_pos g1]
    exact w.2.2.2 _
theorem zp_statesAway {V X : Nat → Nat} {C : zCs} {c : zS} {t : zU} (h : zR V X C c t) {v : Nat} (hv : v ≤ 50) : zs_statesAway c (nI v) ∧ zt_statesAway c (nI v) = 0 ∧ zk_statesAway c (nI v) = zCn (zBFS V (zst X)) (nI v) ((zBFS V (zst X)).length + 1) 0 0 ∧ zR V X C (zS_statesAway c (nI v)) t := by
  have w := h.w
  have h1 : t_X3_checkActs (nI v) 0 = 0 := zx_t (Nat.zero_le v) hv
  refine ⟨⟨fun _ => w.1, fun _ => trivial⟩, by unfold zt_statesAway t_X3_statesAway; rw [if_pos h1], ?_, ?_⟩
  · unfold zk_statesAway
    simp only [f_X3_statesAway, if_pos h1]
    unfold f_X3_statesAway_t1; exact zc_statesAt w.2.2.1 h.gd.1 _
  · unfold zS_statesAway
    simp only [f_X3_statesAway, if_pos h1]
    exact w.2.2.2 _
theorem zp_statesToReach {V X : Nat → Nat} {C : zCs} {c : zS} {t : zU} (h : zR V X C c t) : zs_statesToReach c ∧ zk_statesToReach c = nI (zBFS V (zst X)).length ∧ zR V X C (zS_statesToReach c) t := by
  have w := h.w
  refine ⟨w.1, ?_, ?_⟩
  · unfold zk_statesToReach f_X3_statesToReach f_X2_statesReached
    dsimp only
    exact w.2.2.1.1
  · unfold zS_statesToReach f_X3_statesToReach
    dsimp only
    exact w.2.2.2 _
theorem zp_farthest {V X : Nat → Nat} {C : zCs} {c : zS} {t : zU} (h : zR V X C c t) : zs_farthest c ∧ zk_farthest c = zFr (zBFS V (zst X)) ∧ zR V X C (zS_farthest c) t := by
  have w := h.w
  have h0 := zBFS_len V (zst X)
  obtain ⟨e, he, e2⟩ := zFr_ex h0
  have K := zc_far w.2.2.1 h.gd.1 h0 he
  refine ⟨w.1, ?_, ?_⟩
  · unfold zk_farthest f_X3_farthest f_X3_farthest_t1
    dsimp only
    rw [e2]; exact K
  · unfold zS_farthest f_X3_farthest
    dsimp only
    exact w.2.2.2 _
theorem zp_amountsToHave {V X : Nat → Nat} {C : zCs} {c : zS} {t : zU} (h : zR V X C c t) : zs_amountsToHave c ∧ zk_amountsToHave c = zAmn (zgA V (zBFS V (zst X))) 11 0 0 ∧ zR V X C (zS_amountsToHave c) t := by
  refine ⟨h.am.2, h.am.1, ?_⟩
  unfold zS_amountsToHave f_X3_amountsToHave
  dsimp only
  exact h.w.2.2.2 _
theorem zp_nextAct {V X : Nat → Nat} {C : zCs} {c : zS} {t : zU} (h : zR V X C c t) {v : Nat} (hv : v ≤ 9) {e : Nat × Nat × Nat} (he : zF V X v = some e) (h0 : 0 < e.2.1) : zs_nextAct c (nI v) ∧ zt_nextAct c (nI v) = 0 ∧ zk_nextAct c (nI v) = nI e.2.2 ∧ zR V X C (zS_nextAct c (nI v)) t := by
  have w := h.w
  have h1 := za_t hv
  have h2r := w.2.2.2 (f_X3_nextAct_t1 c.vr c.ar c.vs c.asF c.ds c.fa c.od c.rd (nI v))
  have w2 := h2r.w
  have e2 : f_X3_nextAct_t2 c.vr c.ar c.vs c.asF c.ds c.fa c.od c.rd (nI v) = zDi (zF V X v) := by
    unfold f_X3_nextAct_t2; exact h.least hv _
  have hb := zF_lt h he
  have q1 : (0 : Int32) < zDi (zF V X v) := by rw [he]; show (0 : Int32) < nI e.2.1; rw [zl0]; exact nI_lt h0 (by omega)
  have K : f_X3_nextAct_t10 c.vr c.ar c.vs c.asF c.ds c.fa c.od c.rd (nI v) = nI e.2.2 := by
    unfold f_X3_nextAct_t10
    exact zc_first w2.2.1 w2.2.2.1 h.gd.1 _ (by omega) he h0
  refine ⟨⟨fun _ => ⟨w.1, fun _ => w2.1, fun _ => trivial⟩, fun _ => trivial⟩, by unfold zt_nextAct t_X3_nextAct; rw [if_pos h1, e2, if_pos q1], ?_, ?_⟩
  · unfold zk_nextAct
    simp only [f_X3_nextAct, if_pos h1, e2, if_pos q1, K]
  · unfold zS_nextAct
    simp only [f_X3_nextAct, if_pos h1, e2, if_pos q1]
    exact w2.2.2.2 _
