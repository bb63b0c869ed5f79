/-! the model's search -/
theorem zm_spread {V : Nat → Nat} {mv : Nat → Int32} (hv : zE3 mv V) {p : Nat} {e : Nat × Nat × Nat} (hp9 : p < 1000) : ∀ (n k : Nat) (L : zL) (mf mr : Nat → Int32) (re : Int32) (mo mb : Nat → Int32), k + n = 16 → zWm L mf mr re → zGd V L → L[p]? = some e →
    zWm (zspF V e n k L) (lf_X4_spread_45 n k (nI (zn V)) mv mf mr re mo mb (nI p)).1 (lf_X4_spread_45 n k (nI (zn V)) mv mf mr re mo mb (nI p)).2.1 (lf_X4_spread_45 n k (nI (zn V)) mv mf mr re mo mb (nI p)).2.2.1 ∧ sf_X4_spread_45 n k (nI (zn V)) mv mf mr re mo mb (nI p) := by
  intro n
  induction n with
  | zero => intro k L mf mr re mo mb _ hW _ _; exact ⟨hW, trivial⟩
  | succ n ih =>
    intro k L mf mr re mo mb hk hW hG he
    have g := hG.2 p e he
    have hp := (List.getElem?_eq_some_iff.mp he).1
    have hlen := zGd_len hG
    have ok := g.2.1
    have hn := zn_23 V
    rw [lf_X4_spread_45_succ, sf_X4_spread_45_succ]
    unfold zspF
    rw [zl15, z_if_le (by omega) (by omega)]
    by_cases h15 : 15 ≤ k
    · rw [if_pos h15, if_pos h15]
      exact ⟨hW, fun _ => trivial, fun h => absurd ((nI_leI (by omega) (by omega)).mpr h15) h⟩
    · rw [if_neg h15, if_neg h15]
      have hal := zq_isAct hn (a := k) (by omega)
      cases hB : zalB (zn V) k with
      | false =>
        have h1 : f_X4_isAct (nI (zn V)) (nI k) = 0 := hal.mpr (fun q => by have := zalB_iff.mpr q; rw [hB] at this; cases this)
        have e1 : zsp1 V e k L = L := by unfold zsp1; rw [hB]; rfl
        rw [if_pos h1, e1]
        have r := ih (k + 1) L mf mr re mo mb (by omega) hW hG he
        exact ⟨r.1, fun h => absurd h (fun q => h15 ((nI_leI (by omega) (by omega)).mp q)), fun _ => ⟨fun _ => r.2, fun h => absurd h1 h⟩⟩
      | true =>
        have hz := zalB_iff.mp hB
        have h1 : ¬ f_X4_isAct (nI (zn V)) (nI k) = 0 := fun q => hal.mp q hz
        have hz3 := zal_3 (by omega) hz
        have hr := (hW.2.1 p e he)
        have emr : mr (nI p).toNatClampNeg = nI e.1 := by rw [nI_clamp (by omega)]; exact hr.1
        have hl := zq_look (mo := mo) (mb := mb) hv g.1
        have hc := (zq_move hl.2 hl.1 ok (a := k) (by omega) hz3).2
        have hst : f_X4_stateLookedAt (f_X4_move (f_X4_lookAtState mv mo mb (nI e.1)).1 (f_X4_lookAtState mv mo mb (nI e.1)).2 (nI k)).2 = nI (zsuc V e.1 k) := zq_state hc
        have o := zsuc_ok ok (a := k) (by omega)
        have e1 : zsp1 V e k L = zadd L (zsuc V e.1 k) (e.2.1 + 1) (if e.2.1 = 0 then k else e.2.2) := by unfold zsp1; rw [if_pos hB]
        have hG1 := zGd_sp1 hG he (a := k) (by omega)
        have he1 : (zsp1 V e k L)[p]? = some e := zsp1_get he
        have emf : mf (nI e.1).toNatClampNeg + (1 : Int32) = nI (e.2.1 + 1) := by rw [nI_clamp (by omega), hr.2, nI_1]
        have r := zm_reach (mf := mf) (mr := mr) (re := re) hW hG o.1 (d := e.2.1 + 1) (f := if e.2.1 = 0 then k else e.2.2) (by rw [← e1]; exact hG1)
        rw [← e1] at r
        rw [if_neg h1]
        have t1 : f_X4_spread_t1 mv mf mr re mo mb k (nI p) = (f_X4_reach mf mr re (nI (zsuc V e.1 k)) (nI (e.2.1 + 1))).1 := by unfold f_X4_spread_t1; rw [emr, hst, emf]
        have t2 : f_X4_spread_t2 mv mf mr re mo mb k (nI p) = (f_X4_reach mf mr re (nI (zsuc V e.1 k)) (nI (e.2.1 + 1))).2.1 := by unfold f_X4_spread_t2; rw [emr, hst, emf]
        have t3 : f_X4_spread_t3 mv mf mr re mo mb k (nI p) = (f_X4_reach mf mr re (nI (zsuc V e.1 k)) (nI (e.2.1 + 1))).2.2 := by unfold f_X4_spread_t3; rw [emr, hst, emf]
        rw [t1, t2, t3, emr, hst, emf]
        have r2 := ih (k + 1) (zsp1 V e k L) _ _ _ (f_X4_move (f_X4_lookAtState mv mo mb (nI e.1)).1 (f_X4_lookAtState mv mo mb (nI e.1)).2 (nI k)).2 (f_X4_lookAtState mv mo mb (nI e.1)).2 (by omega) r.1 hG1 he1
        have hvp : vp_in (nI p) 1000 := vp_in_nI hp9 (by omega)
        exact ⟨r2.1, fun h => absurd h (fun q => h15 ((nI_leI (by omega) (by omega)).mp q)), fun _ => ⟨fun h => absurd h h1, fun _ => ⟨hvp, zs_move (by omega), hvp, vp_in_nI g.1 (by omega), r.2, r2.2⟩⟩⟩
theorem zm_loop {V : Nat → Nat} {mv : Nat → Int32} (hv : zE3 mv V) : ∀ (n k : Nat) (L : zL) (mf mr : Nat → Int32) (re : Int32) (mo mb : Nat → Int32), k + n = 1001 → zWm L mf mr re → zGd V L →
    zWm (zbf V n k L) (lf_X4_spread_35 n k (nI (zn V)) mv mf mr re mo mb).1 (lf_X4_spread_35 n k (nI (zn V)) mv mf mr re mo mb).2.1 (lf_X4_spread_35 n k (nI (zn V)) mv mf mr re mo mb).2.2.1 ∧ sf_X4_spread_35 n k (nI (zn V)) mv mf mr re mo mb := by
  intro n
  induction n with
  | zero => intro k L mf mr re mo mb _ hW _; exact ⟨hW, trivial⟩
  | succ n ih =>
    intro k L mf mr re mo mb hk hW hG
    have hlen := zGd_len hG
    rw [lf_X4_spread_35_succ, sf_X4_spread_35_succ]
    unfold zbf
    cases he : L[k]? with
    | none =>
      have hk2 : L.length ≤ k := List.getElem?_eq_none_iff.mp he
      have h1 : re ≤ nI k := by rw [hW.1]; exact nI_le hk2 (by omega)
      rw [if_pos h1]
      exact ⟨hW, fun _ => trivial, fun h => absurd h1 h⟩
    | some e =>
      have hk2 := (List.getElem?_eq_some_iff.mp he).1
      have h1 : ¬ re ≤ nI k := by rw [hW.1]; exact nI_ge hk2 (by omega)
      rw [if_neg h1]
      have hs := zm_spread hv (p := k) (by omega) 16 0 L mf mr re mo mb (by omega) hW hG he
      have r := ih (k + 1) (zspF V e 16 0 L) _ _ _ (lf_X4_spread_45 16 0 (nI (zn V)) mv mf mr re mo mb (nI k)).2.2.2.1 (lf_X4_spread_45 16 0 (nI (zn V)) mv mf mr re mo mb (nI k)).2.2.2.2 (by omega) hs.1 (zGd_spF 16 0 L hG he)
      exact ⟨r.1, fun h => absurd h h1, fun _ => ⟨hs.2, vp_in_nI (by omega) (by omega), r.2⟩⟩
theorem zm_start {mf mr : Nat → Int32} {s : Nat} (hs : s < 1000) (hd : ∀ j, j < 1000 → mf j = -1) :
    zWm [(s, 0, 0)] (f_X4_reach mf mr 0 (nI s) 0).1 (f_X4_reach mf mr 0 (nI s) 0).2.1 (f_X4_reach mf mr 0 (nI s) 0).2.2 ∧ s_X4_reach mf 0 (nI s) 0 := by
  have hv : vp_in (nI s) 1000 := vp_in_nI hs (by omega)
  have er : f_X4_reach mf mr 0 (nI s) 0 = (upd mf s 0, upd mr 0 (nI s), nI 1) := by
    unfold f_X4_reach
    rw [nI_clamp (by omega), if_pos (hd s hs)]
    rfl
  rw [er]
  refine ⟨⟨rfl, fun i e hi => ?_, fun x hx hx2 => ?_⟩, ?_⟩
  · have h1 := (List.getElem?_eq_some_iff.mp hi).1
    simp at h1
    subst h1
    simp at hi
    subst hi
    refine ⟨rfl, ?_⟩
    show upd mf s 0 s = nI 0
    unfold upd; rw [if_pos rfl]; rfl
  · have hne : x ≠ s := by
      have := zmem_no.mp hx2 (s, 0, 0) List.mem_cons_self
      exact fun q => this q.symm
    show upd mf s 0 x = -1
    rw [pk_un hne]; exact hd x hx
  · unfold s_X4_reach
    exact ⟨hv, fun _ => ⟨hv, vp_in_nI (n := 0) (by omega) (by omega)⟩, fun _ => trivial⟩
/-- the model's spread: the list, whatever lay there before -/
theorem zm_all {V : Nat → Nat} {mv : Nat → Int32} (hv : zE3 mv V) (mf mr : Nat → Int32) (re : Int32) (mo mb : Nat → Int32) {s : Nat} (hs : s < 1000) (ok : zOK V (zdg s)) :
    zWm (zBFS V s) (f_X4_spread (nI (zn V)) mv mf mr re mo mb (nI s)).1 (f_X4_spread (nI (zn V)) mv mf mr re mo mb (nI s)).2.1 (f_X4_spread (nI (zn V)) mv mf mr re mo mb (nI s)).2.2.1 ∧ s_X4_spread (nI (zn V)) mv mf mr mo mb (nI s) := by
  have st := zm_start (mf := lf_X4_spread_2 1001 0 mf) (mr := mr) hs (fun j hj => z_mfill 1001 0 mf (by omega) (fun _ h => absurd h (by omega)) (by omega) j hj)
  have lp := zm_loop hv 1001 0 [(s, 0, 0)] _ _ _ mo mb (by omega) st.1 (zGd_0 hs ok)
  refine ⟨?_, ?_⟩
  · rw [f_X4_spread_eq]
    dsimp only
    unfold f_X4_spread_t4 f_X4_spread_t5 f_X4_spread_t6
    exact lp.1
  · unfold s_X4_spread
    exact ⟨st.2, lp.2⟩
