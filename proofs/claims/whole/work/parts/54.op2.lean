theorem z_pourAct {V : Nat → Nat} {j k : Nat} (hj : j < zn V) (hk : k < zn V) (hne : ¬ j = k) : 6 + 3 * j + k < 15 ∧ zal (zn V) (6 + 3 * j + k) ∧ 6 + 3 * nI j + nI k = nI (6 + 3 * j + k) := by
  have hz := zn_23 V
  refine ⟨by omega, ?_, by rw [zl3, zl6, pk_mul, nI_add, nI_add]⟩
  unfold zal
  rw [if_neg (by omega), if_neg (by omega)]
  have e1 : (6 + 3 * j + k - 6) / 3 = j := by omega
  have e2 : (6 + 3 * j + k - 6) % 3 = k := by omega
  rw [e1, e2]
  exact ⟨hj, hk, hne⟩
theorem zo_empty {c : zS} {t : zM} (h : zRel c t) (ou : Nat → Int64) (p : Int32) : zs_empty c p ∧ ms_empty t p ∧ zAn (zk_empty c ou p) (zM_empty t p).th (zO_empty c ou p 0) (mk_empty t p).toInt64 ∧ zRel (zS_empty c ou p) (zM_empty t p) := by
  obtain ⟨V, X, C, h⟩ := h
  rcases zj_cases h.vr h.h9 h.pv p with ⟨j, hj, rfl, h1, h2⟩ | ⟨h1, h2⟩
  · have hz := zn_23 V
    have hal : zal (zn V) (3 + j) := by unfold zal; rw [if_neg (by omega), if_pos (by omega)]; omega
    have A := zo_act h (a := 3 + j) (by omega) hal
    have ea : 3 + nI j = nI (3 + j) := by rw [zl3, nI_add]
    rw [← h.js] at h2
    have n2 : ¬ f_X4_isJar t.js (nI j) = 0 := by rw [h2]; decide
    have t0 : t_X3_empty c.vr (nI j) = 0 := by unfold t_X3_empty; rw [if_pos h1]
    have sf : s_X3_empty c.vr c.ar c.vi c.ai c.hd c.jc c.lf (nI j) := ⟨fun _ => by rw [ea]; exact A.2.2.1, fun z => absurd h1 z⟩
    refine ⟨⟨fun _ => sf, fun _ => sf⟩, ⟨fun z => absurd z n2, fun _ => by rw [ea]; exact A.2.2.2.1⟩, ?_, V, zmv V X (3 + j), zNew V X (3 + j) C, ?_⟩
    · unfold zAn zk_empty zM_empty zO_empty mk_empty
      simp only [f_L_empty, f_X3_empty, f_X4_empty, t0, h1, if_neg n2, ↓reduceIte, ea]
      exact ⟨trivial, fun _ => by rw [z_up0, A.1, A.2.1]⟩
    · unfold zS_empty zM_empty
      simp only [f_L_empty, f_X3_empty, f_X4_empty, t0, h1, if_neg n2, ↓reduceIte, ea]
      exact zR.t A.2.2.2.2 rfl rfl rfl rfl rfl rfl rfl rfl rfl rfl rfl
  · rw [← h.js] at h2
    have n1 : ¬ t_X3_checkJar c.vr p = 0 := by rw [h1]; decide
    have t0 : ¬ t_X3_empty c.vr p = 0 := by unfold t_X3_empty; rw [if_neg n1]; decide
    have sf : s_X3_empty c.vr c.ar c.vi c.ai c.hd c.jc c.lf p := ⟨fun z => absurd z n1, fun _ => trivial⟩
    refine ⟨⟨fun _ => sf, fun _ => sf⟩, ⟨fun _ => trivial, fun z => absurd h2 z⟩, ?_, V, X, C, ?_⟩
    · unfold zAn zk_empty zM_empty zO_empty mk_empty
      simp only [f_L_empty, f_X3_empty, f_X4_empty, if_neg t0, if_neg n1, h2, ↓reduceIte]
      exact ⟨rfl, fun z => absurd z (by decide)⟩
    · unfold zS_empty zM_empty
      simp only [f_L_empty, f_X3_empty, f_X4_empty, if_neg t0, if_neg n1, h2, ↓reduceIte]
      exact zR.t h rfl rfl rfl rfl rfl rfl rfl rfl rfl rfl rfl
/-- a pour: refused by a jar, refused as the same, or done -/
theorem zp_cases {V X : Nat → Nat} {C : zCs} {c : zS} {t : zM} (h : zR V X C c t) (p q : Int32) : (∃ j k, j < zn V ∧ k < zn V ∧ ¬ j = k ∧ p = nI j ∧ q = nI k ∧ t_X3_checkPour c.vr p q = 0 ∧ ¬ f_X4_isJar t.js p = 0 ∧ ¬ f_X4_isJar t.js q = 0 ∧ ¬ p = q) ∨ (t_X3_checkPour c.vr p q = 1 ∧ f_X4_isJar t.js p = 0) ∨ (t_X3_checkPour c.vr p q = 1 ∧ ¬ f_X4_isJar t.js p = 0 ∧ f_X4_isJar t.js q = 0) ∨ (t_X3_checkPour c.vr p q = 2 ∧ ¬ f_X4_isJar t.js p = 0 ∧ ¬ f_X4_isJar t.js q = 0 ∧ p = q) := by
  have hz := zn_23 V
  have key1 := zj_cases h.vr h.h9 h.pv p
  have key2 := zj_cases h.vr h.h9 h.pv q
  rw [← h.js] at key1 key2
  unfold t_X3_checkPour
  rcases key1 with ⟨j, hj, e1, h1, h2⟩ | ⟨h1, h2⟩
  · have n2 : ¬ f_X4_isJar t.js p = 0 := by rw [h2]; decide
    rcases key2 with ⟨k, hk, e2, g1, g2⟩ | ⟨g1, g2⟩
    · have m2 : ¬ f_X4_isJar t.js q = 0 := by rw [g2]; decide
      by_cases e : p = q
      · exact Or.inr (Or.inr (Or.inr ⟨by rw [if_pos h1, if_pos g1, if_pos e], n2, m2, e⟩))
      · exact Or.inl ⟨j, k, hj, hk, fun z => e (by rw [e1, e2, z]), e1, e2, by rw [if_pos h1, if_pos g1, if_neg e], n2, m2, e⟩
    · exact Or.inr (Or.inr (Or.inl ⟨by rw [if_pos h1, if_neg (by rw [g1]; decide)], n2, g2⟩))
  · exact Or.inr (Or.inl ⟨by rw [if_neg (by rw [h1]; decide)], h2⟩)
theorem zo_pour {c : zS} {t : zM} (h : zRel c t) (ou : Nat → Int64) (p q : Int32) : zs_pour c p q ∧ ms_pour t p q ∧ zAn (zk_pour c ou p q) (zM_pour t p q).th (zO_pour c ou p q 0) (mk_pour t p q).toInt64 ∧ zRel (zS_pour c ou p q) (zM_pour t p q) := by
  obtain ⟨V, X, C, h⟩ := h
  have sS : s_X3_pour c.vr c.ar c.vi c.ai c.hd c.jc c.lf p q → zs_pour c p q := fun z => ⟨fun _ => z, fun _ => ⟨fun _ => z, fun _ => z⟩⟩
  rcases zp_cases h p q with ⟨j, k, hj, hk, hne, rfl, rfl, h1, n1, n2, n3⟩ | ⟨h1, h2⟩ | ⟨h1, n1, h2⟩ | ⟨h1, n1, n2, h3⟩
  · obtain ⟨ha, hal, ea⟩ := z_pourAct hj hk hne
    have A := zo_act h (a := 6 + 3 * j + k) ha hal
    have t0 : t_X3_pour c.vr (nI j) (nI k) = 0 := by unfold t_X3_pour; rw [if_pos h1]
    have ep : f_X3_pourNumber (nI j) (nI k) = nI (6 + 3 * j + k) := ea
    refine ⟨sS ⟨fun _ => by rw [ep]; exact A.2.2.1, fun z => absurd h1 z⟩, ⟨fun z => absurd z n1, fun _ => ⟨fun z => absurd z n2, fun _ => ⟨fun z => absurd z n3, fun _ => by rw [ea]; exact A.2.2.2.1⟩⟩⟩, ?_, V, zmv V X (6 + 3 * j + k), zNew V X (6 + 3 * j + k) C, ?_⟩
    · unfold zAn zk_pour zM_pour zO_pour mk_pour
      simp only [f_L_pour, f_X3_pour, f_X4_pour, t0, h1, if_neg n1, if_neg n2, if_neg n3, ↓reduceIte, ea, ep]
      exact ⟨trivial, fun _ => by rw [z_up0, A.1, A.2.1]⟩
    · unfold zS_pour zM_pour
      simp only [f_L_pour, f_X3_pour, f_X4_pour, t0, h1, if_neg n1, if_neg n2, if_neg n3, ↓reduceIte, ea, ep]
      exact zR.t A.2.2.2.2 rfl rfl rfl rfl rfl rfl rfl rfl rfl rfl rfl
  · have m0 : ¬ t_X3_checkPour c.vr p q = 0 := by rw [h1]; decide
    have t0 : t_X3_pour c.vr p q = 1 := by unfold t_X3_pour; rw [if_neg m0, if_pos h1]
    have t1 : ¬ t_X3_pour c.vr p q = 0 := by rw [t0]; decide
    refine ⟨sS ⟨fun z => absurd z m0, fun _ => trivial⟩, ⟨fun _ => trivial, fun z => absurd h2 z⟩, ?_, V, X, C, ?_⟩
    · unfold zAn zk_pour zM_pour zO_pour mk_pour
      simp only [f_L_pour, f_X3_pour, f_X4_pour, if_neg t1, if_pos t0, if_neg m0, if_pos h1, h2, ↓reduceIte]
      exact ⟨rfl, fun z => absurd z (by decide)⟩
    · unfold zS_pour zM_pour
      simp only [f_L_pour, f_X3_pour, f_X4_pour, if_neg t1, if_pos t0, if_neg m0, if_pos h1, h2, ↓reduceIte]
      exact zR.t h rfl rfl rfl rfl rfl rfl rfl rfl rfl rfl rfl
  · have m0 : ¬ t_X3_checkPour c.vr p q = 0 := by rw [h1]; decide
    have t0 : t_X3_pour c.vr p q = 1 := by unfold t_X3_pour; rw [if_neg m0, if_pos h1]
    have t1 : ¬ t_X3_pour c.vr p q = 0 := by rw [t0]; decide
    refine ⟨sS ⟨fun z => absurd z m0, fun _ => trivial⟩, ⟨fun z => absurd z n1, fun _ => ⟨fun _ => trivial, fun z => absurd h2 z⟩⟩, ?_, V, X, C, ?_⟩
    · unfold zAn zk_pour zM_pour zO_pour mk_pour
      simp only [f_L_pour, f_X3_pour, f_X4_pour, if_neg t1, if_pos t0, if_neg m0, if_pos h1, if_neg n1, h2, ↓reduceIte]
      exact ⟨rfl, fun z => absurd z (by decide)⟩
    · unfold zS_pour zM_pour
      simp only [f_L_pour, f_X3_pour, f_X4_pour, if_neg t1, if_pos t0, if_neg m0, if_pos h1, if_neg n1, h2, ↓reduceIte]
      exact zR.t h rfl rfl rfl rfl rfl rfl rfl rfl rfl rfl rfl
  · have m0 : ¬ t_X3_checkPour c.vr p q = 0 := by rw [h1]; decide
    have m1 : ¬ t_X3_checkPour c.vr p q = 1 := by rw [h1]; decide
    have t0 : t_X3_pour c.vr p q = 2 := by unfold t_X3_pour; rw [if_neg m0, if_neg m1]
    have t1 : ¬ t_X3_pour c.vr p q = 0 := by rw [t0]; decide
    have t2 : ¬ t_X3_pour c.vr p q = 1 := by rw [t0]; decide
    refine ⟨sS ⟨fun z => absurd z m0, fun _ => trivial⟩, ⟨fun z => absurd z n1, fun _ => ⟨fun z => absurd z n2, fun _ => ⟨fun _ => trivial, fun z => absurd h3 z⟩⟩⟩, ?_, V, X, C, ?_⟩
    · unfold zAn zk_pour zM_pour zO_pour mk_pour
      simp only [f_L_pour, f_X3_pour, f_X4_pour, if_neg t1, if_neg t2, if_neg m0, if_neg m1, if_neg n1, if_neg n2, if_pos h3, ↓reduceIte]
      exact ⟨rfl, fun z => absurd z (by decide)⟩
    · unfold zS_pour zM_pour
      simp only [f_L_pour, f_X3_pour, f_X4_pour, if_neg t1, if_neg t2, if_neg m0, if_neg m1, if_neg n1, if_neg n2, if_pos h3, ↓reduceIte]
      exact zR.t h rfl rfl rfl rfl rfl rfl rfl rfl rfl rfl rfl
