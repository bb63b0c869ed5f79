/-! a guess; jars laid out -/
theorem z_learn_eq (vi ai hd : Nat → Int32) (jc lf x1 x2 x3 : Int32) : (f_X0_learn vi ai hd jc lf x1 x2 x3).2.2.1 = (lf_X0_learn_3 730 0 vi ai hd jc lf x1 x2 x3).2.2.1 ∧ (f_X0_learn vi ai hd jc lf x1 x2 x3).2.2.2 = (lf_X0_learn_3 730 0 vi ai hd jc lf x1 x2 x3).2.2.2 := by
  unfold f_X0_learn
  generalize lf_X0_learn_3 730 0 vi ai hd jc lf x1 x2 x3 = d
  exact ⟨rfl, rfl⟩
theorem zR.learn {V X : Nat → Nat} {C : zCs} {c : zS} {t : zM} (h : zR V X C c t) {j v : Nat} (hj : j < 3) (hv : v < 2 ^ 31) (b : Bool) (x : Int32) (hx : x = zb01 b) (vi ai vi2 ai2 : Nat → Int32) (gw wr : Int32) (hw : gw = wr) (th : Int32) :
    zR V X (zUp C (zgLearn (zn V) j v b)) (c.vr, c.ar, c.vs, c.asF, c.ds, c.fa, c.od, c.rd, vi2, ai2, (f_X0_learn vi ai c.hd c.jc c.lf (nI j) (nI v) x).2.2.1, c.sn, c.jc, (f_X0_learn vi ai c.hd c.jc c.lf (nI j) (nI v) x).2.2.2, c.ad, c.pd, c.sp, c.tk, c.gm + 1, gw) (th, t.js, t.mv, t.ma, t.ac, t.po, t.si, t.ta, (lf_X4_guess_66 1001 0 t.ml (nI j) (nI v) x), t.mh, t.gu + 1, wr, t.mf, t.mr, t.re, t.mo, t.mb, t.ms) ∧ s_X0_learn vi ai c.hd c.jc c.lf (nI j) (nI v) x := by
  subst hx
  have hn := zn_23 V
  have e0 : ∀ N, N < 729 → zMx C (zUp C (zgLearn (zn V) j v b)) 0 N = C N := fun N _ => by unfold zMx; rw [if_neg (by omega)]
  have L := zc_learn (n := zn V) (jar := j) (v := v) (b := b) hn hj hv h.cok 730 0 vi ai c.hd c.lf (by omega) (by omega) (fun N hN => by rw [h.cc N hN, e0 N hN]) (by rw [h.lf, zNm_congr 729 e0])
  rw [← h.jc] at L
  have M := zm_guess (n := zn V) (jar := j) (v := v) (b := b) hn hj hv h.cm
  have E := z_learn_eq vi ai c.hd c.jc c.lf (nI j) (nI v) (zb01 b)
  refine ⟨⟨h.1, zUp_learn_ok h.cok, h.vr, h.ar, h.mv, h.ma, h.jc, h.js, ?_, M, ?_, h.ad, h.pd, h.sp, h.tk, congrArg (· + 1) h.gm, hw, h.ws⟩, ?_⟩
  · show zCc _ (f_X0_learn vi ai c.hd c.jc c.lf (nI j) (nI v) (zb01 b)).2.2.1
    rw [E.1]; exact L.1
  · show (f_X0_learn vi ai c.hd c.jc c.lf (nI j) (nI v) (zb01 b)).2.2.2 = _
    rw [E.2]; exact L.2.1
  · unfold s_X0_learn; exact L.2.2
theorem zo_guess {c : zS} {t : zM} (h : zRel c t) (ou : Nat → Int64) (p q : Int32) : zs_guess c p q ∧ ms_guess t p q ∧ zAn (zk_guess c ou p q) (zM_guess t p q).th (zO_guess c ou p q 0) (mk_guess t p q).toInt64 ∧ zRel (zS_guess c ou p q) (zM_guess t p q) := by
  obtain ⟨V, X, C, h⟩ := h
  have hn := zn_23 V
  have ne10 : ¬ (1 : Int32) = 0 := by decide
  have e00 : (0 : Int32) = 0 := rfl
  have sS : s_X3_guess c.vr c.vi c.ai c.hd c.jc c.lf p q → zs_guess c p q := fun z => ⟨fun _ => z, fun _ => ⟨fun _ => z, fun _ => ⟨fun _ => z, fun _ => z⟩⟩⟩
  rcases zj_cases h.vr h.h9 h.pv p with ⟨j, hj, rfl, h1, h2⟩ | ⟨h1, h2⟩ <;> rw [← h.js] at h2
  · have hj3 : j < 3 := by omega
    have n2 : ¬ f_X4_isJar t.js (nI j) = 0 := by rw [h2]; decide
    rcases zv_cases q with ⟨v, v1, v9, rfl, g1, g2, g3⟩ | ⟨g1, g2, g3⟩
    · have m2 : ¬ f_X4_isVolume (nI v) = 0 := by rw [g3]; decide
      have em : f_X4_may t.ml (nI j) (nI v) = zb01 (zMay (zn V) C j v) := zm_may hn hj3 (by omega) h.cok h.cm
      have ec : f_X3_isAmong (f_X0_volumesFor c.vi c.ai c.hd c.jc (nI j)).1 (nI v) = zb01 (zMay (zn V) C j v) := by
        rw [h.jc]; exact zc_among hn hj3 (by omega) h.cok h.cc c.vi c.ai
      have sv : s_X0_volumesFor c.hd c.jc (nI j) := by rw [h.jc]; exact (zc_volumes hn hj3 h.cok h.cc c.vi c.ai).2
      have evol : f_X1_volumeAt c.vr (nI j) = nI (V j) := by rw [zr_vol hj3]; exact h.vr j hj3
      have emv : t.mv (nI j).toNatClampNeg = nI (V j) := by rw [nI_clamp (by omega)]; exact h.mv j hj3
      have hV9 := (h.ok j hj3).2
      have ms : ms_guess t (nI j) (nI v) := ⟨fun z => absurd z n2, fun _ => ⟨fun z => absurd z m2, fun _ => ⟨fun _ => trivial, fun _ => vp_in_nI hj3 (by omega)⟩⟩⟩
      have Lt := h.learn hj3 (v := v) (by omega) true 1 rfl (f_X0_volumesFor c.vi c.ai c.hd c.jc (nI j)).2.1 (f_X0_volumesFor c.vi c.ai c.hd c.jc (nI j)).2.2
      have Lf := h.learn hj3 (v := v) (by omega) false 0 rfl (f_X0_volumesFor c.vi c.ai c.hd c.jc (nI j)).2.1 (f_X0_volumesFor c.vi c.ai c.hd c.jc (nI j)).2.2
      have sg : s_X3_guess c.vr c.vi c.ai c.hd c.jc c.lf (nI j) (nI v) :=
        ⟨fun _ => ⟨fun _ => ⟨sv, fun _ => trivial, fun _ => ⟨fun _ => (Lt c.vi c.ai 0 0 rfl 0).2, fun _ => (Lf c.vi c.ai 0 0 rfl 0).2⟩⟩, fun _ => trivial⟩, fun _ => trivial⟩
      cases hM : zMay (zn V) C j v with
      | false =>
        rw [hM] at em ec
        have em0 : f_X4_may t.ml (nI j) (nI v) = 0 := em
        have ec0 : f_X3_isAmong (f_X0_volumesFor c.vi c.ai c.hd c.jc (nI j)).1 (nI v) = 0 := ec
        have t0 : t_X3_guess c.vr c.vi c.ai c.hd c.jc (nI j) (nI v) = 3 := by unfold t_X3_guess; rw [if_pos h1, if_pos g2, if_pos ec0]
        have t1 : ¬ t_X3_guess c.vr c.vi c.ai c.hd c.jc (nI j) (nI v) = 0 := by rw [t0]; decide
        have t2 : ¬ t_X3_guess c.vr c.vi c.ai c.hd c.jc (nI j) (nI v) = 1 := by rw [t0]; decide
        have t3 : ¬ t_X3_guess c.vr c.vi c.ai c.hd c.jc (nI j) (nI v) = 2 := by rw [t0]; decide
        refine ⟨sS sg, ms, ?_, V, X, C, ?_⟩
        · unfold zAn zk_guess zM_guess zO_guess mk_guess
          simp only [f_L_guess, f_X4_guess, if_neg t1, if_neg t2, if_neg t3, if_neg n2, if_neg m2, if_pos em0]
          exact ⟨rfl, fun z => absurd z (by decide)⟩
        · unfold zS_guess zM_guess
          simp only [f_L_guess, f_X3_guess, f_X4_guess, if_neg t1, if_neg t2, if_neg t3, if_neg n2, if_neg m2, if_pos em0, if_pos h1, if_pos g2, if_pos ec0]
          exact zR.t2 (zR.g2 h _ _ _ _) _ _ _ _ _ _ _
      | true =>
        rw [hM] at em ec
        have em1 : ¬ f_X4_may t.ml (nI j) (nI v) = 0 := by rw [em]; decide
        have ec1 : ¬ f_X3_isAmong (f_X0_volumesFor c.vi c.ai c.hd c.jc (nI j)).1 (nI v) = 0 := by rw [ec]; decide
        by_cases e : V j = v
        · have ev : f_X1_volumeAt c.vr (nI j) = nI v := by rw [evol, e]
          have ev2 : t.mv (nI j).toNatClampNeg = nI v := by rw [emv, e]
          have t0 : t_X3_guess c.vr c.vi c.ai c.hd c.jc (nI j) (nI v) = 0 := by unfold t_X3_guess; rw [if_pos h1, if_pos g2, if_neg ec1, if_pos ev]; rfl
          refine ⟨sS sg, ms, ?_, V, X, zUp C (zgLearn (zn V) j v true), ?_⟩
          · unfold zAn zk_guess zM_guess zO_guess mk_guess
            simp only [f_L_guess, f_X3_guess, f_X4_guess, if_pos t0, if_neg n2, if_neg m2, if_neg em1, if_pos h1, if_pos g2, if_neg ec1, if_pos ev, if_pos ev2, if_neg ne10]
            exact ⟨trivial, fun _ => z_up0 ou 1⟩
          · unfold zS_guess zM_guess
            simp only [f_L_guess, f_X3_guess, f_X4_guess, if_pos t0, if_neg n2, if_neg m2, if_neg em1, if_pos h1, if_pos g2, if_neg ec1, if_pos ev, if_pos ev2, if_neg ne10]
            exact (Lt _ _ c.gw (t.wr + 0) (by rw [Int32.add_zero]; exact h.gw) 0).1
        · have ev : ¬ f_X1_volumeAt c.vr (nI j) = nI v := by rw [evol]; exact fun z => e ((nI_eq (by omega) (by omega)).mp z)
          have ev2 : ¬ t.mv (nI j).toNatClampNeg = nI v := by rw [emv]; exact fun z => e ((nI_eq (by omega) (by omega)).mp z)
          have t0 : t_X3_guess c.vr c.vi c.ai c.hd c.jc (nI j) (nI v) = 0 := by unfold t_X3_guess; rw [if_pos h1, if_pos g2, if_neg ec1, if_neg ev]; rfl
          refine ⟨sS sg, ms, ?_, V, X, zUp C (zgLearn (zn V) j v false), ?_⟩
          · unfold zAn zk_guess zM_guess zO_guess mk_guess
            simp only [f_L_guess, f_X3_guess, f_X4_guess, if_pos t0, if_neg n2, if_neg m2, if_neg em1, if_pos h1, if_pos g2, if_neg ec1, if_neg ev, if_neg ev2, ↓reduceIte]
            exact ⟨trivial, fun _ => z_up0 ou 0⟩
          · unfold zS_guess zM_guess
            simp only [f_L_guess, f_X3_guess, f_X4_guess, if_pos t0, if_neg n2, if_neg m2, if_neg em1, if_pos h1, if_pos g2, if_neg ec1, if_neg ev, if_neg ev2, ↓reduceIte]
            exact (Lf _ _ (c.gw + 1) (t.wr + 1) (congrArg (· + 1) h.gw) 0).1
    · have k2 : ¬ t_X3_checkVolume q = 0 := by rw [g2]; decide
      have t0 : t_X3_guess c.vr c.vi c.ai c.hd c.jc (nI j) q = 2 := by unfold t_X3_guess; rw [if_pos h1, if_neg k2]
      have t1 : ¬ t_X3_guess c.vr c.vi c.ai c.hd c.jc (nI j) q = 0 := by rw [t0]; decide
      have t2 : ¬ t_X3_guess c.vr c.vi c.ai c.hd c.jc (nI j) q = 1 := by rw [t0]; decide
      refine ⟨sS ⟨fun _ => ⟨fun z => absurd z k2, fun _ => trivial⟩, fun _ => trivial⟩, ⟨fun z => absurd z n2, fun _ => ⟨fun _ => trivial, fun z => absurd g3 z⟩⟩, ?_, V, X, C, ?_⟩
      · unfold zAn zk_guess zM_guess zO_guess mk_guess
        simp only [f_L_guess, f_X4_guess, if_neg t1, if_neg t2, if_pos t0, if_neg n2, if_pos g3]
        exact ⟨rfl, fun z => absurd z (by decide)⟩
      · unfold zS_guess zM_guess
        simp only [f_L_guess, f_X3_guess, f_X4_guess, if_neg t1, if_neg t2, if_pos t0, if_neg n2, if_pos g3, if_pos h1, if_neg k2]
        exact zR.t2 (zR.g2 h _ _ _ _) _ _ _ _ _ _ _
  · have n1 : ¬ t_X3_checkJar c.vr p = 0 := by rw [h1]; decide
    have t0 : t_X3_guess c.vr c.vi c.ai c.hd c.jc p q = 1 := by unfold t_X3_guess; rw [if_neg n1]
    have t1 : ¬ t_X3_guess c.vr c.vi c.ai c.hd c.jc p q = 0 := by rw [t0]; decide
    refine ⟨sS ⟨fun z => absurd z n1, fun _ => trivial⟩, ⟨fun _ => trivial, fun z => absurd h2 z⟩, ?_, V, X, C, ?_⟩
    · unfold zAn zk_guess zM_guess zO_guess mk_guess
      simp only [f_L_guess, f_X4_guess, if_neg t1, if_pos t0, if_pos h2]
      exact ⟨rfl, fun z => absurd z (by decide)⟩
    · unfold zS_guess zM_guess
      simp only [f_L_guess, f_X3_guess, f_X4_guess, if_neg t1, if_pos t0, if_pos h2, if_neg n1]
      exact zR.t2 (zR.g2 h _ _ _ _) _ _ _ _ _ _ _
/-- three volumes -/
def zV3 (a b d j : Nat) : Nat := if j = 0 then a else if j = 1 then b else d
theorem zq_amount {v : Nat} (hv : v ≤ 9) : f_X4_isAmount (nI v) = 1 := by
  unfold f_X4_isAmount f_X4_isIn
  rw [if_neg (z_neg (by omega)), zl9, z_if_lt (by omega) (by omega), if_neg (by omega)]
theorem zlay_cases (p1 p2 p3 : Int32) : (∃ a b d, (1 ≤ a ∧ a ≤ 9) ∧ (1 ≤ b ∧ b ≤ 9) ∧ d ≤ 9 ∧ p1 = nI a ∧ p2 = nI b ∧ p3 = nI d ∧ t_X3_layOut p1 p2 p3 = 0 ∧ ¬ f_X3_isVolume p1 = 0 ∧ ¬ f_X3_isVolume p2 = 0 ∧ (p3 = 0 ∨ (¬ p3 = 0 ∧ ¬ f_X3_isVolume p3 = 0)) ∧ ¬ f_X4_isVolume p1 = 0 ∧ ¬ f_X4_isVolume p2 = 0 ∧ ¬ f_X4_isAmount p3 = 0) ∨ (t_X3_layOut p1 p2 p3 = 2 ∧ (f_X3_isVolume p1 = 0 ∨ (¬ f_X3_isVolume p1 = 0 ∧ f_X3_isVolume p2 = 0) ∨ (¬ f_X3_isVolume p1 = 0 ∧ ¬ f_X3_isVolume p2 = 0 ∧ ¬ p3 = 0 ∧ f_X3_isVolume p3 = 0)) ∧ (f_X4_isVolume p1 = 0 ∨ (¬ f_X4_isVolume p1 = 0 ∧ f_X4_isVolume p2 = 0) ∨ (¬ f_X4_isVolume p1 = 0 ∧ ¬ f_X4_isVolume p2 = 0 ∧ f_X4_isAmount p3 = 0))) := by
  rcases zv_cases p1 with ⟨a, a1, a9, e1, x1, -, y1⟩ | ⟨x1, -, y1⟩
  · have nx1 : ¬ f_X3_isVolume p1 = 0 := by rw [x1]; decide
    have ny1 : ¬ f_X4_isVolume p1 = 0 := by rw [y1]; decide
    rcases zv_cases p2 with ⟨b, b1, b9, e2, x2, -, y2⟩ | ⟨x2, -, y2⟩
    · have nx2 : ¬ f_X3_isVolume p2 = 0 := by rw [x2]; decide
      have ny2 : ¬ f_X4_isVolume p2 = 0 := by rw [y2]; decide
      by_cases q : p3 = 0
      · refine Or.inl ⟨a, b, 0, ⟨a1, a9⟩, ⟨b1, b9⟩, by omega, e1, e2, q, ?_, nx1, nx2, Or.inl q, ny1, ny2, ?_⟩
        · unfold t_X3_layOut; rw [if_neg nx1, if_neg nx2, if_pos q]
        · rw [q]; decide
      · rcases zv_cases p3 with ⟨d, d1, d9, e3, x3, -, y3⟩ | ⟨x3, -, y3⟩
        · have nx3 : ¬ f_X3_isVolume p3 = 0 := by rw [x3]; decide
          refine Or.inl ⟨a, b, d, ⟨a1, a9⟩, ⟨b1, b9⟩, d9, e1, e2, e3, ?_, nx1, nx2, Or.inr ⟨q, nx3⟩, ny1, ny2, ?_⟩
          · unfold t_X3_layOut; rw [if_neg nx1, if_neg nx2, if_neg q, if_neg nx3]
          · rw [e3, zq_amount d9]; decide
        · refine Or.inr ⟨?_, Or.inr (Or.inr ⟨nx1, nx2, q, x3⟩), Or.inr (Or.inr ⟨ny1, ny2, ?_⟩)⟩
          · unfold t_X3_layOut; rw [if_neg nx1, if_neg nx2, if_neg q, if_pos x3]
          · rcases za_cases p3 with ⟨v, hv, e3, -, -⟩ | ⟨-, z⟩
            · exfalso
              rcases Nat.eq_zero_or_pos v with z | z
              · exact q (by rw [e3, z]; rfl)
              · have : f_X3_isVolume (nI v) = 1 := by
                  unfold f_X3_isVolume
                  rw [zl1, zl9, z_if_lt (by omega) (by omega), if_neg (by omega), z_if_lt (by omega) (by omega), if_neg (by omega)]
                rw [e3, this] at x3
                exact absurd x3 (by decide)
            · exact z
    · refine Or.inr ⟨?_, Or.inr (Or.inl ⟨nx1, x2⟩), Or.inr (Or.inl ⟨ny1, y2⟩)⟩
      unfold t_X3_layOut; rw [if_neg nx1, if_pos x2]
  · refine Or.inr ⟨?_, Or.inl x1, Or.inl y1⟩
    unfold t_X3_layOut; rw [if_pos x1]
