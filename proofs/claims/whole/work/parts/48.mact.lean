/-! the model: rows looked at, an act, a guess, all laid out -/
theorem zm_row {n a r N s : Nat} (hn : n = 2 ∨ n = 3) (ha : a < 15) (hal : zal 3 a) {C : zCs} (hC : zCok n C) {mh : Nat → Int32} (mo mb : Nat → Int32) (hr : r < 1000) (q1 : zinv n r = some N) (q2 : C N = some s) (h : ∀ j, j < 3 → mh (3 * r + j) = nI (zdg s j)) : zE3 (f_X4_lookAtRow mh mo mb (nI r)).2 (zcv n N) ∧ zE3 (f_X4_move (f_X4_lookAtRow mh mo mb (nI r)).1 (f_X4_lookAtRow mh mo mb (nI r)).2 (nI a)).2 (zmv (zcv n N) (zdg s) a) ∧ f_X4_sight (nI n) (f_X4_move (f_X4_lookAtRow mh mo mb (nI r)).1 (f_X4_lookAtRow mh mo mb (nI r)).2 (nI a)).2 (f_X4_lookAtRow mh mo mb (nI r)).2 = nI (zsg n (zcv n N) (zmv (zcv n N) (zdg s) a)) := by
  have l := zq_lookRow (mh := mh) (mo := mo) (mb := mb) hr
  have g := hC.2 N s q2
  have e2 : zE3 (f_X4_lookAtRow mh mo mb (nI r)).2 (zcv n N) := l.2.congr (zinv_row hn hr q1).2.2
  have e1 : zE3 (f_X4_lookAtRow mh mo mb (nI r)).1 (zdg s) := fun j hj => by rw [l.1 j hj, h j hj]
  have mv := (zq_move e2 e1 g.2 ha hal).2
  exact ⟨e2, mv, zq_sight hn e2 mv (zmv_ok g.2 ha)⟩
theorem zm_act100 {n r : Nat} (hn : n = 2 ∨ n = 3) (hr : r < 1000) (mh mo : Nat → Int32) : (∀ q, q ≠ 3 * r → q ≠ 3 * r + 1 → q ≠ 3 * r + 2 → lf_X4_act_100 (n + 1) 0 (nI n) mh mo (nI r) q = mh q) ∧ (∀ j, j < n → lf_X4_act_100 (n + 1) 0 (nI n) mh mo (nI r) (3 * r + j) = mo j) ∧ (n = 2 → lf_X4_act_100 (n + 1) 0 (nI n) mh mo (nI r) (3 * r + 2) = mh (3 * r + 2)) := by
  rcases hn with rfl | rfl
  · have e : lf_X4_act_100 (2 + 1) 0 (nI 2) mh mo (nI r) = upd (upd mh (3 * r + 0) (mo 0)) (3 * r + 1) (mo 1) := by
      rw [lf_X4_act_100_succ, if_neg (by decide), lf_X4_act_100_succ, if_neg (by decide), lf_X4_act_100_succ, if_pos (by decide)]
      rw [zl3, pk_mul, nI_add, nI_add, nI_clamp (by omega), nI_clamp (by omega), nI_clamp (by omega), nI_clamp (by omega)]
    rw [e]
    refine ⟨fun q h0 h1 h2 => ?_, fun j hj => ?_, fun _ => ?_⟩
    · rw [pk_un h1, pk_un (by omega)]
    · rcases (show j = 0 ∨ j = 1 by omega) with rfl | rfl
      · rw [pk_un (by omega), pk_us]
      · rw [pk_us]
    · rw [pk_un (by omega), pk_un (by omega)]
  · have e : lf_X4_act_100 (3 + 1) 0 (nI 3) mh mo (nI r) = upd (upd (upd mh (3 * r + 0) (mo 0)) (3 * r + 1) (mo 1)) (3 * r + 2) (mo 2) := by
      rw [lf_X4_act_100_succ, if_neg (by decide), lf_X4_act_100_succ, if_neg (by decide), lf_X4_act_100_succ, if_neg (by decide), lf_X4_act_100_succ, if_pos (by decide)]
      rw [zl3, pk_mul, nI_add, nI_add, nI_add, nI_clamp (by omega), nI_clamp (by omega), nI_clamp (by omega), nI_clamp (by omega), nI_clamp (by omega), nI_clamp (by omega)]
    rw [e]
    refine ⟨fun q h0 h1 h2 => ?_, fun j hj => ?_, fun h => absurd h (by decide)⟩
    · rw [pk_un h2, pk_un h1, pk_un (by omega)]
    · rcases z_j3 hj with rfl | rfl | rfl
      · rw [pk_un (by omega), pk_un (by omega), pk_us]
      · rw [pk_un (by omega), pk_us]
      · rw [pk_us]
theorem zsm_act100 {n r : Nat} (hn : n = 2 ∨ n = 3) (hr : r < 1000) : sf_X4_act_100 (n + 1) 0 (nI n) (nI r) := by
  have key : ∀ (m k : Nat), k + m ≤ 10 → sf_X4_act_100 m k (nI n) (nI r) := by
    intro m
    induction m with
    | zero => intro k _; exact trivial
    | succ m ih =>
      intro k hk
      rw [sf_X4_act_100_succ]
      refine ⟨fun _ => trivial, fun h => ?_⟩
      have hkn : k < n := zk_lt (N := n) (by omega) (nI_clamp (by omega)) h
      refine ⟨vp_in_nI (by omega) (by omega), ?_, ih (k + 1) (by omega)⟩
      rw [zl3, pk_mul, nI_add]; exact vp_in_nI (by omega) (by omega)
  exact key (n + 1) 0 (by omega)
def zRmx (n : Nat) (C D : zCs) (k : Nat) (ml mh : Nat → Int32) : Prop := ∀ r, r < 1000 → zRo (if r < k then (zinv n r).bind D else (zinv n r).bind C) ml mh r
theorem zRo_ext {o : Option Nat} {ml mh ml' mh' : Nat → Int32} {r : Nat} (e1 : ml' r = ml r) (e2 : ∀ j, j < 3 → mh' (3 * r + j) = mh (3 * r + j)) (h : zRo o ml mh r) : zRo o ml' mh' r := by
  cases o with
  | none => show ml' r = 0; rw [e1]; exact h
  | some s => exact ⟨by rw [e1]; exact h.1, fun j hj => by rw [e2 j hj]; exact h.2 j hj⟩
theorem zRmx_at {n : Nat} {C D : zCs} {k : Nat} {ml mh : Nat → Int32} (h : zRmx n C D k ml mh) (hk : k < 1000) : zRo ((zinv n k).bind C) ml mh k := by
  have := h k hk
  rw [if_neg (by omega)] at this
  exact this
theorem zRmx_step {n : Nat} {C D : zCs} {k : Nat} {ml mh ml' mh' : Nat → Int32} (h : zRmx n C D k ml mh) (e1 : ∀ r, r < 1000 → r ≠ k → ml' r = ml r) (e2 : ∀ r, r < 1000 → r ≠ k → ∀ j, j < 3 → mh' (3 * r + j) = mh (3 * r + j)) (hk : zRo ((zinv n k).bind D) ml' mh' k) : zRmx n C D (k + 1) ml' mh' := by
  intro r hr
  by_cases q : r = k
  · rw [q, if_pos (by omega)]; exact hk
  · have z := zRo_ext (e1 r hr q) (e2 r hr q) (h r hr)
    by_cases q2 : r < k
    · rw [if_pos q2] at z; rw [if_pos (by omega)]; exact z
    · rw [if_neg q2] at z; rw [if_neg (by omega)]; exact z
theorem zUp_none {C : zCs} {g : Nat → Nat → Option Nat} {n r : Nat} (q : (zinv n r).bind C = none) : (zinv n r).bind (zUp C g) = none := by
  cases e : zinv n r with
  | none => rfl
  | some N =>
    rw [e] at q
    have q : C N = none := q
    show (C N).bind (g N) = none
    rw [q]; rfl
theorem zUp_some {C : zCs} {g : Nat → Nat → Option Nat} {n r N s : Nat} (q1 : zinv n r = some N) (q2 : C N = some s) : (zinv n r).bind (zUp C g) = g N s := by
  rw [q1]
  show (C N).bind (g N) = _
  rw [q2]; rfl
theorem zm_actLoop {n a lk sg : Nat} (hn : n = 2 ∨ n = 3) (ha : a < 15) (hal : zal 3 a) (hsg : sg < zK64 n) (hlk : lk = zph n sg) {C : zCs} (hC : zCok n C) : ∀ (m k : Nat) (ml mh mo mb : Nat → Int32), k + m = 1000 → zRmx n C (zUp C (zgSee n a lk)) k ml mh → zCm n (zUp C (zgSee n a lk)) (lf_X4_act_64 (m + 1) k (nI n) ml mh mo mb (nI a) (nI sg)).1 (lf_X4_act_64 (m + 1) k (nI n) ml mh mo mb (nI a) (nI sg)).2.1 ∧ sf_X4_act_64 (m + 1) k (nI n) ml mh mo mb (nI a) (nI sg) := by
  have hnc : (nI n).toNatClampNeg = n := nI_clamp (by omega)
  have hz : zK64 n ≤ 64 := by unfold zK64; split <;> omega
  intro m
  induction m with
  | zero =>
    intro k ml mh mo mb hk h
    have q : (1000 : Int32) ≤ nI k := by rw [zl1000, show k = 1000 by omega]; exact Int32.le_refl _
    rw [lf_X4_act_64_succ, sf_X4_act_64_succ, if_pos q]
    exact ⟨fun r hr => by have := h r hr; rw [if_pos (by omega)] at this; exact this, fun _ => trivial, fun z => absurd q z⟩
  | succ m ih =>
    intro k ml mh mo mb hk h
    have hk' : k < 1000 := by omega
    have q : ¬ (1000 : Int32) ≤ nI k := by rw [zl1000]; exact nI_ge hk' (by omega)
    have hcl : (nI k).toNatClampNeg = k := nI_clamp (by omega)
    rw [lf_X4_act_64_succ, sf_X4_act_64_succ, if_neg q, hcl]
    have h0 := zRmx_at h hk'
    rcases z_bind n C k with p | ⟨N, s, p1, p2, p⟩
    · have e0 := zRo_no p h0
      have st : zRmx n C (zUp C (zgSee n a lk)) (k + 1) ml mh := zRmx_step h (fun _ _ _ => rfl) (fun _ _ _ _ _ => rfl) (by rw [zUp_none p]; exact e0)
      have r := ih (k + 1) ml mh mo mb (by omega) st
      rw [if_pos e0]
      exact ⟨r.1, fun z => absurd z q, fun _ => ⟨fun _ => r.2, fun z => absurd e0 z⟩⟩
    · have e0 := zRo_yes p h0
      have ne : ¬ ml k = 0 := by rw [e0.1]; decide
      obtain ⟨w1, w2, w3⟩ := zm_row hn ha hal hC mo mb hk' p1 p2 e0.2
      have g := hC.2 N s p2
      have o := zmv_ok g.2 ha
      have tw := zTw_ok (zTw_cand hC p2) o
      obtain ⟨a1, a2, a3⟩ := zm_act100 hn hk' mh (f_X4_move (f_X4_lookAtRow mh mo mb (nI k)).1 (f_X4_lookAtRow mh mo mb (nI k)).2 (nI a)).2
      have hs := zsg_lt n (zcv n N) (zmv (zcv n N) (zdg s) a)
      have hnew : ∀ j, j < 3 → lf_X4_act_100 (n + 1) 0 (nI n) mh (f_X4_move (f_X4_lookAtRow mh mo mb (nI k)).1 (f_X4_lookAtRow mh mo mb (nI k)).2 (nI a)).2 (nI k) (3 * k + j) = nI (zdg (zst (zmv (zcv n N) (zdg s) a)) j) := by
        intro j hj
        rw [zdg_st o hj]
        by_cases hjn : j < n
        · rw [a2 j hjn]; exact w2 j hj
        · have hn2 : n = 2 := by omega
          have hj2 : j = 2 := by omega
          rw [hj2, a3 hn2, e0.2 2 (by omega), (zTw_cand hC p2 hn2).2, (tw hn2).2]
      have hother : ∀ r, r < 1000 → r ≠ k → ∀ j, j < 3 → lf_X4_act_100 (n + 1) 0 (nI n) mh (f_X4_move (f_X4_lookAtRow mh mo mb (nI k)).1 (f_X4_lookAtRow mh mo mb (nI k)).2 (nI a)).2 (nI k) (3 * r + j) = mh (3 * r + j) := fun r _ hne j hj => a1 _ (by omega) (by omega) (by omega)
      have sft := zsm_act100 hn hk'
      rw [if_neg ne, w3, hnc]
      have hgee : zgSee n a lk N s = if zsg n (zcv n N) (zmv (zcv n N) (zdg s) a) = sg then some (zst (zmv (zcv n N) (zdg s) a)) else none := by
        unfold zgSee
        rw [zlk_sg hn tw, hlk]
        by_cases z : zsg n (zcv n N) (zmv (zcv n N) (zdg s) a) = sg
        · rw [if_pos z, if_pos (by rw [z])]
        · rw [if_neg z, if_neg (fun y => z (zph_inj hn hs hsg y))]
      by_cases z : nI (zsg n (zcv n N) (zmv (zcv n N) (zdg s) a)) = nI sg
      · have z2 := (nI_eq (by omega) (by omega)).mp z
        have st : zRmx n C (zUp C (zgSee n a lk)) (k + 1) (upd ml k (vp_nar .boolean 1)) (lf_X4_act_100 (n + 1) 0 (nI n) mh (f_X4_move (f_X4_lookAtRow mh mo mb (nI k)).1 (f_X4_lookAtRow mh mo mb (nI k)).2 (nI a)).2 (nI k)) :=
          zRmx_step h (fun r _ hne => pk_un hne) hother (by
            rw [zUp_some p1 p2, hgee, if_pos z2]
            exact ⟨by rw [pk_us, z_nb1], hnew⟩)
        rw [if_pos z]
        have r := ih (k + 1) _ _ (f_X4_move (f_X4_lookAtRow mh mo mb (nI k)).1 (f_X4_lookAtRow mh mo mb (nI k)).2 (nI a)).2 (f_X4_lookAtRow mh mo mb (nI k)).2 (by omega) st
        exact ⟨r.1, fun y => absurd y q, fun _ => ⟨fun y => absurd y ne, fun _ => ⟨zs_lookRow hk', zs_move ha, sft, zs_sight hn _ _, fun _ => r.2, fun y => absurd z y⟩⟩⟩
      · have z2 : ¬ zsg n (zcv n N) (zmv (zcv n N) (zdg s) a) = sg := fun y => z (by rw [y])
        have st : zRmx n C (zUp C (zgSee n a lk)) (k + 1) (upd ml k (vp_nar .boolean 0)) (lf_X4_act_100 (n + 1) 0 (nI n) mh (f_X4_move (f_X4_lookAtRow mh mo mb (nI k)).1 (f_X4_lookAtRow mh mo mb (nI k)).2 (nI a)).2 (nI k)) :=
          zRmx_step h (fun r _ hne => pk_un hne) hother (by
            rw [zUp_some p1 p2, hgee, if_neg z2]
            show upd ml k (vp_nar .boolean 0) k = 0
            rw [pk_us, z_nb0])
        rw [if_neg z]
        have r := ih (k + 1) _ _ (f_X4_move (f_X4_lookAtRow mh mo mb (nI k)).1 (f_X4_lookAtRow mh mo mb (nI k)).2 (nI a)).2 (f_X4_lookAtRow mh mo mb (nI k)).2 (by omega) st
        exact ⟨r.1, fun y => absurd y q, fun _ => ⟨fun y => absurd y ne, fun _ => ⟨zs_lookRow hk', zs_move ha, sft, zs_sight hn _ _, fun y => absurd y z, fun _ => r.2⟩⟩⟩
