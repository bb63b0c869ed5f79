/-! what the law asks, as mathematics: candidates -/
/-- the true row is a candidate -/
def zTru (V X : Nat → Nat) (C : zCs) : Prop := ∃ N, C N = some (zst X) ∧ ∀ j, j < 3 → zcv (zn V) N j = V j
theorem zm_congrV {V V' X : Nat → Nat} (e : ∀ j, j < 3 → V j = V' j) {a : Nat} (ha : a < 15) : zm V X a = zm V' X a := by
  unfold zm
  by_cases h3 : a < 3
  · rw [if_pos h3, if_pos h3, e a h3]
  · by_cases h6 : a < 6
    · rw [if_neg h3, if_neg h3, if_pos h6, if_pos h6]
    · rw [if_neg h3, if_neg h3, if_neg h6, if_neg h6, e _ (by omega)]
theorem zmv_congrV {V V' X : Nat → Nat} (e : ∀ j, j < 3 → V j = V' j) {a : Nat} (ha : a < 15) : ∀ j, j < 3 → zmv V X a j = zmv V' X a j := by
  intro j hj
  unfold zmv
  rw [zm_congrV e ha]
  by_cases h3 : a < 3
  · rw [if_pos h3, if_pos h3]
    by_cases q : j = a
    · rw [if_pos q, if_pos q, e a h3]
    · rw [if_neg q, if_neg q]
  · rw [if_neg h3, if_neg h3]
theorem zlk_congr {V V' X X' : Nat → Nat} (e : ∀ j, j < 3 → V j = V' j) (e2 : ∀ j, j < 3 → X j = X' j) : zlk V X = zlk V' X' := by
  unfold zlk zct
  rw [e 0 (by omega), e 1 (by omega), e 2 (by omega), e2 0 (by omega), e2 1 (by omega), e2 2 (by omega)]
theorem zTru.act {V X : Nat → Nat} {C : zCs} (ok : zOK V X) {a : Nat} (ha : a < 15) (h : zTru V X C) : zTru V (zmv V X a) (zNew V X a C) := by
  obtain ⟨N, h1, h2⟩ := h
  refine ⟨N, ?_, h2⟩
  have e1 : ∀ j, j < 3 → zmv (zcv (zn V) N) (zdg (zst X)) a j = zmv V X a j := fun j hj => by
    rw [zmv_congrV h2 ha j hj]
    exact zmv_congr (fun i hi => zdg_st ok hi) ha j hj
  unfold zNew zUp
  rw [h1]
  show zgSee (zn V) a (zlk V (zmv V X a)) N (zst X) = _
  unfold zgSee
  rw [if_pos (zlk_congr h2 e1), zst_congr e1]
theorem zTru.learn {V X : Nat → Nat} {C : zCs} {j v : Nat} (hj : j < 3) (h : zTru V X C) : zTru V X (zUp C (zgLearn (zn V) j v (decide (V j = v)))) := by
  obtain ⟨N, h1, h2⟩ := h
  refine ⟨N, ?_, h2⟩
  unfold zUp
  rw [h1]
  show zgLearn (zn V) j v (decide (V j = v)) N (zst X) = _
  unfold zgLearn
  rw [if_pos (by rw [h2 j hj])]
theorem zTru.start {a b d : Nat} (ha : 1 ≤ a ∧ a ≤ 9) (hb : 1 ≤ b ∧ b ≤ 9) (hd : d ≤ 9) : zTru (zV3 a b d) (fun _ => 0) (zC0 (zn (zV3 a b d))) := by
  have e2 : zV3 a b d 2 = d := rfl
  by_cases q : d = 0
  · have ez : zn (zV3 a b d) = 2 := if_pos (e2.trans q)
    refine ⟨(a - 1) + 9 * (b - 1), ?_, fun j hj => ?_⟩
    · rw [ez]; exact if_pos (show (a - 1) + 9 * (b - 1) < 81 by omega)
    · rw [ez]
      rcases z_j3 hj with rfl | rfl | rfl
      · show (a - 1 + 9 * (b - 1)) % 9 + 1 = a; omega
      · show (a - 1 + 9 * (b - 1)) / 9 % 9 + 1 = b; omega
      · exact q.symm
  · have ez : zn (zV3 a b d) = 3 := if_neg (fun z => q (e2.symm.trans z))
    refine ⟨(a - 1) + 9 * (b - 1) + 81 * (d - 1), ?_, fun j hj => ?_⟩
    · rw [ez]; exact if_pos (show (a - 1) + 9 * (b - 1) + 81 * (d - 1) < 729 by omega)
    · rw [ez]
      rcases z_j3 hj with rfl | rfl | rfl
      · show (a - 1 + 9 * (b - 1) + 81 * (d - 1)) % 9 + 1 = a; omega
      · show (a - 1 + 9 * (b - 1) + 81 * (d - 1)) / 9 % 9 + 1 = b; omega
      · show (a - 1 + 9 * (b - 1) + 81 * (d - 1)) / 81 + 1 = d; omega
theorem zCl_in {n : Nat} {C : zCs} (cok : zCok n C) {N s : Nat} (h : C N = some s) : (N, s) ∈ zCl C := by
  have hN : N < 729 := by
    rcases Nat.lt_or_ge N (zcnt n) with q | q
    · exact Nat.lt_of_lt_of_le q zcnt_le
    · rw [cok.1 N q] at h; cases h
  unfold zCl
  exact List.mem_filterMap.mpr ⟨N, List.mem_range.mpr hN, by rw [h]; rfl⟩
theorem zTru.may {V X : Nat → Nat} {C : zCs} (cok : zCok (zn V) C) (h : zTru V X C) {j : Nat} (hj : j < 3) : zMay (zn V) C j (V j) = true := by
  obtain ⟨N, h1, h2⟩ := h
  rw [← zCl_may]
  exact List.any_eq_true.mpr ⟨(N, zst X), zCl_in cok h1, decide_eq_true (h2 j hj)⟩
theorem zTru.one {V X : Nat → Nat} {C : zCs} (cok : zCok (zn V) C) (h : zTru V X C) : 1 ≤ zNm C 729 := by
  obtain ⟨N, h1, -⟩ := h
  rw [← zCl_len]
  exact List.length_pos_of_mem (zCl_in cok h1)
theorem zNm_cnt {n : Nat} {C : zCs} (cok : zCok n C) : ∀ k, zNm C k ≤ zcnt n := by
  intro k
  induction k with
  | zero => exact Nat.zero_le _
  | succ k ih =>
    show zNm C k + (if (C k).isSome = true then 1 else 0) ≤ _
    rcases Nat.lt_or_ge k (zcnt n) with q | q
    · have := zNm_le C k
      split <;> omega
    · rw [cok.1 k q]; exact ih
theorem zNm_up (C : zCs) (g : Nat → Nat → Option Nat) : ∀ k, zNm (zUp C g) k ≤ zNm C k := by
  intro k
  induction k with
  | zero => exact Nat.le_refl _
  | succ k ih =>
    show zNm (zUp C g) k + (if (zUp C g k).isSome = true then 1 else 0) ≤ zNm C k + (if (C k).isSome = true then 1 else 0)
    unfold zUp
    cases h : C k with
    | none => exact Nat.add_le_add ih (Nat.le_refl _)
    | some s =>
      show _ + (if (g k s).isSome = true then 1 else 0) ≤ _ + 1
      refine Nat.add_le_add ih ?_
      split <;> omega
/-- a pour leaves no more than are told -/
theorem zMost_in {n a : Nat} {C D : zCs} {x0 : Nat} (hD : ∀ N, (D N).isSome = true → ∃ s, C N = some s ∧ zkey n a N s = x0) : ∀ k, (∀ x, (zGo C (zKF n a) k 0 (fun _ => 0, 0)).1 x ≤ (zGo C (zKF n a) k 0 (fun _ => 0, 0)).2) ∧ zNm D k ≤ (zGo C (zKF n a) k 0 (fun _ => 0, 0)).1 x0 ∧ (zGo C (zKF n a) k 0 (fun _ => 0, 0)).2 ≤ zNm C k ∧ (0 < zNm C k → 0 < (zGo C (zKF n a) k 0 (fun _ => 0, 0)).2) := by
  intro k
  induction k with
  | zero => exact ⟨fun _ => Nat.le_refl _, Nat.le_refl _, Nat.le_refl _, fun h => absurd h (Nat.lt_irrefl _)⟩
  | succ k ih =>
    rw [zGo_succ]
    generalize zGo C (zKF n a) k 0 (fun _ => 0, 0) = T at ih ⊢
    obtain ⟨i1, i2, i3, i4⟩ := ih
    show (∀ x, (zSp C (zKF n a) T k).1 x ≤ (zSp C (zKF n a) T k).2) ∧ zNm D k + (if (D k).isSome = true then 1 else 0) ≤ (zSp C (zKF n a) T k).1 x0 ∧ (zSp C (zKF n a) T k).2 ≤ zNm C k + (if (C k).isSome = true then 1 else 0) ∧ (0 < zNm C k + (if (C k).isSome = true then 1 else 0) → 0 < (zSp C (zKF n a) T k).2)
    unfold zSp
    cases h : C k with
    | none =>
      have hd : ¬ (D k).isSome = true := fun z => by obtain ⟨s, hs, -⟩ := hD k z; rw [h] at hs; cases hs
      rw [if_neg hd]
      exact ⟨i1, i2, i3, i4⟩
    | some s =>
      show (∀ x, (if x = zkey n a k s then T.1 x + 1 else T.1 x) ≤ max T.2 (T.1 (zkey n a k s) + 1)) ∧ _ ≤ (if x0 = zkey n a k s then T.1 x0 + 1 else T.1 x0) ∧ max T.2 (T.1 (zkey n a k s) + 1) ≤ zNm C k + 1 ∧ (_ → 0 < max T.2 (T.1 (zkey n a k s) + 1))
      have j1 := i1 (zkey n a k s)
      refine ⟨fun x => ?_, ?_, by omega, fun _ => by omega⟩
      · have j2 := i1 x
        by_cases q : x = zkey n a k s
        · rw [if_pos q, q]; omega
        · rw [if_neg q]; omega
      · by_cases q : (D k).isSome = true
        · obtain ⟨s', hs, hk⟩ := hD k q
          rw [h] at hs
          cases hs
          rw [if_pos q, if_pos hk.symm]
          omega
        · rw [if_neg q]
          split <;> omega
theorem zMost_new {V X : Nat → Nat} {C : zCs} (ok : zOK V X) (cok : zCok (zn V) C) {a : Nat} (ha : a < 15) : zNm (zNew V X a C) 729 ≤ zMost (zn V) C a ∧ zMost (zn V) C a ≤ zNm C 729 ∧ (0 < zNm C 729 → 1 ≤ zMost (zn V) C a) := by
  have hn := zn_23 V
  have M := zMost_in (n := zn V) (a := a) (C := C) (D := zNew V X a C) (x0 := zsg (zn V) V (zmv V X a)) (fun N hN => by
    unfold zNew zUp at hN
    cases hs : C N with
    | none => rw [hs] at hN; cases hN
    | some s =>
      refine ⟨s, rfl, ?_⟩
      rw [hs] at hN
      have hN2 : (zgSee (zn V) a (zlk V (zmv V X a)) N s).isSome = true := hN
      unfold zgSee at hN2
      by_cases q : zlk (zcv (zn V) N) (zmv (zcv (zn V) N) (zdg s) a) = zlk V (zmv V X a)
      · have o := cok.2 N s hs
        have ok1 := zmv_ok o.2 ha
        have ok2 := zmv_ok ok ha
        rw [zlk_sg hn (zTw_cv ok1), zlk_sg hn (zTw_zn ok2)] at q
        exact zph_inj hn (zsg_lt _ _ _) (zsg_lt _ _ _) q
      · rw [if_neg q] at hN2; cases hN2) 729
  exact ⟨Nat.le_trans M.2.1 (M.1 _), M.2.2.1, M.2.2.2⟩
/-! what is held, taken, spilled, poured -/
def zNum (X : Nat → Nat) (t : zU) : Prop := t.ta = X 0 + X 1 + X 2 + t.si ∧ t.po ≤ 9 * t.ac ∧ t.wr ≤ t.gu
theorem zNum.act {V X : Nat → Nat} {t : zU} (ok : zOK V X) {a : Nat} (ha : a < 15) (hal : zal 3 a) (h : zNum X t) : zNum (zmv V X a) (zUact V X a t) := by
  have o0 := ok 0 (by omega)
  have o1 := ok 1 (by omega)
  have o2 := ok 2 (by omega)
  obtain ⟨h1, h2, h3⟩ := h
  have hc : a = 0 ∨ a = 1 ∨ a = 2 ∨ a = 3 ∨ a = 4 ∨ a = 5 ∨ a = 6 ∨ a = 7 ∨ a = 8 ∨ a = 9 ∨ a = 10 ∨ a = 11 ∨ a = 12 ∨ a = 13 ∨ a = 14 := by omega
  unfold zNum zUact
  rcases hc with rfl | rfl | rfl | rfl | rfl | rfl | rfl | rfl | rfl | rfl | rfl | rfl | rfl | rfl | rfl
  · show t.ta + (V 0 - X 0) = V 0 + X 1 + X 2 + (t.si + 0) ∧ t.po + 0 ≤ 9 * (t.ac + 1) ∧ t.wr ≤ t.gu; omega
  · show t.ta + (V 1 - X 1) = X 0 + V 1 + X 2 + (t.si + 0) ∧ t.po + 0 ≤ 9 * (t.ac + 1) ∧ t.wr ≤ t.gu; omega
  · show t.ta + (V 2 - X 2) = X 0 + X 1 + V 2 + (t.si + 0) ∧ t.po + 0 ≤ 9 * (t.ac + 1) ∧ t.wr ≤ t.gu; omega
  · show t.ta + 0 = 0 + X 1 + X 2 + (t.si + X 0) ∧ t.po + 0 ≤ 9 * (t.ac + 1) ∧ t.wr ≤ t.gu; omega
  · show t.ta + 0 = X 0 + 0 + X 2 + (t.si + X 1) ∧ t.po + 0 ≤ 9 * (t.ac + 1) ∧ t.wr ≤ t.gu; omega
  · show t.ta + 0 = X 0 + X 1 + 0 + (t.si + X 2) ∧ t.po + 0 ≤ 9 * (t.ac + 1) ∧ t.wr ≤ t.gu; omega
  · exact absurd rfl hal.2.2
  · show t.ta + 0 = (X 0 - min (X 0) (V 1 - X 1)) + (X 1 + min (X 0) (V 1 - X 1)) + X 2 + (t.si + 0) ∧ t.po + min (X 0) (V 1 - X 1) ≤ 9 * (t.ac + 1) ∧ t.wr ≤ t.gu; omega
  · show t.ta + 0 = (X 0 - min (X 0) (V 2 - X 2)) + X 1 + (X 2 + min (X 0) (V 2 - X 2)) + (t.si + 0) ∧ t.po + min (X 0) (V 2 - X 2) ≤ 9 * (t.ac + 1) ∧ t.wr ≤ t.gu; omega
  · show t.ta + 0 = (X 0 + min (X 1) (V 0 - X 0)) + (X 1 - min (X 1) (V 0 - X 0)) + X 2 + (t.si + 0) ∧ t.po + min (X 1) (V 0 - X 0) ≤ 9 * (t.ac + 1) ∧ t.wr ≤ t.gu; omega
  · exact absurd rfl hal.2.2
  · show t.ta + 0 = X 0 + (X 1 - min (X 1) (V 2 - X 2)) + (X 2 + min (X 1) (V 2 - X 2)) + (t.si + 0) ∧ t.po + min (X 1) (V 2 - X 2) ≤ 9 * (t.ac + 1) ∧ t.wr ≤ t.gu; omega
  · show t.ta + 0 = (X 0 + min (X 2) (V 0 - X 0)) + X 1 + (X 2 - min (X 2) (V 0 - X 0)) + (t.si + 0) ∧ t.po + min (X 2) (V 0 - X 0) ≤ 9 * (t.ac + 1) ∧ t.wr ≤ t.gu; omega
  · show t.ta + 0 = X 0 + (X 1 + min (X 2) (V 1 - X 1)) + (X 2 - min (X 2) (V 1 - X 1)) + (t.si + 0) ∧ t.po + min (X 2) (V 1 - X 1) ≤ 9 * (t.ac + 1) ∧ t.wr ≤ t.gu; omega
  · exact absurd rfl hal.2.2
theorem zNum.guess {X : Nat → Nat} {t : zU} (r : Bool) (h : zNum X t) : zNum X (zUgs r t) := by
  obtain ⟨h1, h2, h3⟩ := h
  refine ⟨h1, h2, ?_⟩
  show t.wr + (if r = true then 0 else 1) ≤ t.gu + 1
  split <;> omega
/-! all amounts are multiples of what divides all volumes -/
def zDd (V X : Nat → Nat) (g : Nat) : Prop := (∀ j, j < 3 → g ∣ V j) ∧ ∀ j, j < 3 → g ∣ X j
theorem zDd.act {V X : Nat → Nat} {g : Nat} (ok : zOK V X) {a : Nat} (ha : a < 15) (h : zDd V X g) : zDd V (zmv V X a) g := by
  refine ⟨h.1, fun j hj => ?_⟩
  have hm : ∀ f t, f < 3 → t < 3 → g ∣ min (X f) (V t - X t) := fun f t hf ht => by
    rcases Nat.le_total (X f) (V t - X t) with q | q
    · rw [Nat.min_eq_left q]; exact h.2 f hf
    · rw [Nat.min_eq_right q]; exact Nat.dvd_sub (h.1 t ht) (h.2 t ht)
  unfold zmv
  by_cases h3 : a < 3
  · rw [if_pos h3]
    split
    · exact h.1 a h3
    · exact h.2 j hj
  · rw [if_neg h3]
    by_cases h6 : a < 6
    · rw [if_pos h6]
      split
      · exact Nat.dvd_zero g
      · exact h.2 j hj
    · rw [if_neg h6]
      have e : zm V X a = min (X ((a - 6) / 3)) (V ((a - 6) % 3) - X ((a - 6) % 3)) := by unfold zm; rw [if_neg h3, if_neg h6]
      have hm2 := hm ((a - 6) / 3) ((a - 6) % 3) (by omega) (by omega)
      rw [← e] at hm2
      split
      · exact Nat.dvd_sub (h.2 j hj) hm2
      · split
        · exact Nat.dvd_add (h.2 j hj) hm2
        · exact h.2 j hj
theorem zDd.start (a b d g : Nat) (h : ∀ j, j < 3 → g ∣ zV3 a b d j) : zDd (zV3 a b d) (fun _ => 0) g := ⟨h, fun _ _ => Nat.dvd_zero g⟩
theorem zDd.congr {V X Y : Nat → Nat} {g : Nat} (h : zDd V X g) (e : ∀ j, j < 3 → X j = Y j) : zDd V Y g := ⟨h.1, fun j hj => by rw [← e j hj]; exact h.2 j hj⟩
theorem zDd.path {V : Nat → Nat} {g : Nat} : ∀ (n s t : Nat), zOK V (zdg s) → zDd V (zdg s) g → zPath V n s t → zOK V (zdg t) ∧ zDd V (zdg t) g := by
  intro n
  induction n with
  | zero => intro s t ok h p; cases p; exact ⟨ok, h⟩
  | succ n ih =>
    intro s t ok h p
    obtain ⟨u, a, p1, ha, -, e⟩ := p
    have r := ih s u ok h p1
    have o := zsuc_ok r.1 ha
    rw [e] at o
    refine ⟨o.2, (r.2.act r.1 ha).congr (fun j hj => ?_)⟩
    rw [← e]
    exact (zdg_st (zmv_ok r.1 ha) hj).symm
theorem zPath_app {V : Nat → Nat} {s u : Nat} : ∀ (m n t : Nat), zPath V n s u → zPath V m u t → zPath V (n + m) s t := by
  intro m
  induction m with
  | zero => intro n t h1 h2; cases h2; exact h1
  | succ m ih =>
    intro n t h1 h2
    obtain ⟨w, a, p, q⟩ := h2
    exact ⟨w, a, ih n w h1 p, q⟩
theorem zPath_congr {V V' : Nat → Nat} (e : ∀ j, j < 3 → V j = V' j) : ∀ (n s t : Nat), zPath V n s t → zPath V' n s t := by
  have en : zn V = zn V' := by unfold zn; rw [e 2 (by omega)]
  intro n
  induction n with
  | zero => intro s t h; exact h
  | succ n ih =>
    intro s t h
    obtain ⟨u, a, p, ha, hal, hs⟩ := h
    refine ⟨u, a, ih s u p, ha, by rw [← en]; exact hal, ?_⟩
    rw [← hs]
    exact zst_congr (fun j hj => (zmv_congrV e ha j hj).symm)
/-- a way of n acts to an amount: it's told with no more -/
theorem zF_le {V X : Nat → Nat} (okX : zOK V X) {v n t : Nat} (p : zPath V n (zst X) t) (ht : zTv V v t = true) : ∃ e, zF V X v = some e ∧ e.2.1 ≤ n := by
  have hs := zst_lt okX
  have ok : zOK V (zdg (zst X)) := okX.congr (fun j hj => (zdg_st okX hj).symm)
  obtain ⟨k, iv, hk⟩ := zBFS_fin hs ok
  obtain ⟨j, y, hj, hy1, hy2⟩ := zBFS_C0 iv hk n t p
  obtain ⟨e, he⟩ := zFst_ex (T := zTv V v) hj (by rw [hy1]; exact ht)
  refine ⟨e, he, ?_⟩
  obtain ⟨i, hi, hT, hmin⟩ := zFst_some he
  have hij := hmin j y hj (by rw [hy1]; exact ht)
  rcases Nat.eq_or_lt_of_le hij with z | z
  · subst z
    rw [hi] at hj
    cases hj
    exact hy2
  · exact Nat.le_trans (iv.2.1 i j e y z hi hj).1 hy2
/-- the way back -/
theorem zF_path {V X : Nat → Nat} (okX : zOK V X) {v : Nat} {e : Nat × Nat × Nat} (he : zF V X v = some e) : zPath V e.2.1 (zst X) e.1 ∧ zTv V v e.1 = true := by
  have hs := zst_lt okX
  have ok : zOK V (zdg (zst X)) := okX.congr (fun j hj => (zdg_st okX hj).symm)
  obtain ⟨k, iv, hk⟩ := zBFS_fin hs ok
  obtain ⟨i, hi, hT, -⟩ := zFst_some he
  exact ⟨zIv_path (zGd_BFS hs ok) iv hi, hT⟩
/-- nothing is at most one act away -/
theorem zF_0 {V X : Nat → Nat} (okX : zOK V X) : ∃ e, zF V X 0 = some e ∧ e.2.1 ≤ 1 := by
  have hal : zalB (zn V) 3 = true := by
    have := zn_23 V
    unfold zalB
    rw [if_neg (by omega), if_pos (by omega)]
    exact decide_eq_true (by omega)
  refine zF_le okX (n := 1) (t := zsuc V (zst X) 3) ⟨zst X, 3, rfl, by omega, hal, rfl⟩ ?_
  have ok : zOK V (zdg (zst X)) := okX.congr (fun j hj => (zdg_st okX hj).symm)
  have ok2 := zmv_ok ok (a := 3) (by omega)
  unfold zTv zhas
  have e0 : zdg (zsuc V (zst X) 3) 0 = 0 := zdg_st ok2 (by omega)
  rw [e0]
  simp
