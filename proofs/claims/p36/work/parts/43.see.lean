/-! the class's guesser: an act is seen, a guess is learnt -/
theorem zNm_same {C D : zCs} {i : Nat} (hi : i < 729) (h : ∀ N, N ≠ i → C N = D N) (h2 : (C i).isSome = (D i).isSome) : zNm D 729 = zNm C 729 := by
  have := zNm_one 729 hi h
  rw [h2] at this
  omega
theorem zNm_less {C D : zCs} {i : Nat} (hi : i < 729) (h : ∀ N, N ≠ i → C N = D N) (h1 : (C i).isSome = true) (h2 : D i = none) : zNm C 729 = zNm D 729 + 1 := by
  have := zNm_one 729 hi h
  rw [h1, h2, if_neg (by decide), if_pos rfl] at this
  omega
/-- one row of the class's table changed -/
theorem zCc_upd {C D : zCs} {hd : Nat → Int32} {k : Nat} {x : Int32} (h : zCc C hd) (e : ∀ N, N ≠ k → C N = D N) (hx : x = zO (D k)) : zCc D (upd hd k x) := by
  intro N hN
  unfold upd
  split
  · next q => rw [q, hx]
  · next q => rw [h N hN, e N q]
theorem zCc_same {C D : zCs} {hd : Nat → Int32} {k : Nat} (h : zCc C hd) (e : ∀ N, N ≠ k → C N = D N) (hx : C k = D k) : zCc D hd := by
  intro N hN
  rw [h N hN]
  by_cases q : N = k
  · rw [q, hx]
  · rw [e N q]
theorem zMx_ne {C D : zCs} {k : Nat} : ∀ N, N ≠ k → zMx C D k N = zMx C D (k + 1) N := fun N h => (zMx_step h).symm
theorem zNm_0 {C : zCs} {k : Nat} (h : ∀ N, N < k → C N = none) : zNm C k = 0 := by
  induction k with
  | zero => rfl
  | succ k ih =>
    unfold zNm
    rw [ih (fun N hN => h N (by omega)), h k (by omega)]
    rfl
theorem zc_see {C : zCs} {n a lk : Nat} (hn : n = 2 ∨ n = 3) (ha : a < 15) (hal : zal 3 a) (hlk : lk < 1000) (hC : zCok n C) : ∀ (m k : Nat) (vi ai hd : Nat → Int32) (lf : Int32), k + m = 730 → k ≤ 729 → zCc (zMx C (zUp C (zgSee n a lk)) k) hd → lf = nI (zNm (zMx C (zUp C (zgSee n a lk)) k) 729) →
    zCc (zUp C (zgSee n a lk)) (lf_X0_see_2 m k vi ai hd (nI n) lf (nI a) (nI lk)).2.2.1 ∧ (lf_X0_see_2 m k vi ai hd (nI n) lf (nI a) (nI lk)).2.2.2 = nI (zNm (zUp C (zgSee n a lk)) 729) ∧ sf_X0_see_2 m k vi ai hd (nI n) lf (nI a) (nI lk) := by
  have hD := zUp_see_ok (n := n) (lk := lk) ha hC
  intro m
  induction m with
  | zero => intro k vi ai hd lf h1 h2; exfalso; omega
  | succ m ih =>
    intro k vi ai hd lf h1 h2 hc hlf
    rw [lf_X0_see_2_succ, sf_X0_see_2_succ]
    by_cases q : (729 : Int32) ≤ nI k
    · have hk : k = 729 := by
        rcases Nat.lt_or_ge k 729 with z | z
        · exact absurd q (by rw [zl729]; exact nI_ge z (by omega))
        · omega
      rw [if_pos q]
      have e : ∀ N, N < 729 → zMx C (zUp C (zgSee n a lk)) k N = zUp C (zgSee n a lk) N := fun N hN => by unfold zMx; rw [if_pos (by omega)]
      refine ⟨fun N hN => by show hd N = _; rw [hc N hN, e N hN], ?_, fun _ => trivial, fun h => absurd q h⟩
      show lf = _
      rw [hlf, zNm_congr 729 e]
    · have hk : k < 729 := zk_lt (N := 729) (by omega) rfl q
      have hMok := zMx_ok hC hD k
      have hat := zMx_at (C := C) (D := zUp C (zgSee n a lk)) k
      have hcand := zc_isCand hMok hc hk
      rw [if_neg q]
      cases hs : C k with
      | none =>
        have hDk : zUp C (zgSee n a lk) k = none := by unfold zUp; rw [hs]; rfl
        have h0 : f_X0_isCandidate hd (nI k) = 0 := by rw [hcand, hat.1, hs]; rfl
        rw [if_pos h0]
        have hx : zMx C (zUp C (zgSee n a lk)) k k = zMx C (zUp C (zgSee n a lk)) (k + 1) k := by rw [hat.1, hat.2, hs, hDk]
        have r := ih (k + 1) vi ai hd lf (by omega) (by omega) (zCc_same hc zMx_ne hx) (by rw [hlf, zNm_same hk zMx_ne (by rw [hx])])
        exact ⟨r.1, r.2.1, fun h => absurd h q, fun _ => ⟨fun _ => r.2.2, fun h => absurd h0 h⟩⟩
      | some s =>
        have hMk : zMx C (zUp C (zgSee n a lk)) k k = some s := by rw [hat.1, hs]
        have h0 : ¬ f_X0_isCandidate hd (nI k) = 0 := by rw [hcand, hMk]; show ¬ (1 : Int32) = 0; decide
        have g := hC.2 k s hs
        have im := zc_imagine hn hMok hc hk hMk vi ai
        have ch := (zr_change im.1 im.2 g.2 ha hal).2
        have o := zmv_ok g.2 ha
        have lo := zr_look im.1 ch o
        have st := zr_state ch
        have hlb : zlk (zcv n k) (zmv (zcv n k) (zdg s) a) < 1000 := by
          unfold zlk
          have := zct_le (zcv n k) (zmv (zcv n k) (zdg s) a) 0
          have := zct_le (zcv n k) (zmv (zcv n k) (zdg s) a) 1
          have := zct_le (zcv n k) (zmv (zcv n k) (zdg s) a) 2
          omega
        rw [if_neg h0, lo]
        have hDk : zUp C (zgSee n a lk) k = zgSee n a lk k s := by unfold zUp; rw [hs]; rfl
        by_cases q2 : nI (zlk (zcv n k) (zmv (zcv n k) (zdg s) a)) = nI lk
        · have q3 := (nI_eq (by omega) (by omega)).mp q2
          have hD2 : zUp C (zgSee n a lk) k = some (zst (zmv (zcv n k) (zdg s) a)) := by rw [hDk]; unfold zgSee; rw [if_pos q3]
          have ke : f_X0_keep hd (nI k) (f_X1_state (f_X1_change (f_X0_imagine vi ai hd (nI n) (nI k)).1 (f_X0_imagine vi ai hd (nI n) (nI k)).2 (nI a)).2) = upd hd k (nI (zst (zmv (zcv n k) (zdg s) a))) := by
            unfold f_X0_keep
            rw [if_neg h0, st, nI_clamp (by omega)]
          rw [if_pos q2, ke]
          have r := ih (k + 1) (f_X0_imagine vi ai hd (nI n) (nI k)).1 (f_X1_change (f_X0_imagine vi ai hd (nI n) (nI k)).1 (f_X0_imagine vi ai hd (nI n) (nI k)).2 (nI a)).2 _ lf (by omega) (by omega) (zCc_upd hc zMx_ne (by rw [hat.2, hD2, zO])) (by rw [hlf, zNm_same hk zMx_ne (by rw [hMk, hat.2, hD2, Option.isSome_some, Option.isSome_some])])
          exact ⟨r.1, r.2.1, fun h => absurd h q, fun _ => ⟨fun h => absurd h h0, fun _ => ⟨zs_imagine _ _ _, fun _ => ⟨zs_keep _ _ _, r.2.2⟩, fun h => absurd q2 h⟩⟩⟩
        · have q3 : ¬ zlk (zcv n k) (zmv (zcv n k) (zdg s) a) = lk := fun z => q2 (by rw [z])
          have hD2 : zUp C (zgSee n a lk) k = none := by rw [hDk]; unfold zgSee; rw [if_neg q3]
          have hl1 := zNm_less (C := zMx C (zUp C (zgSee n a lk)) k) (D := zMx C (zUp C (zgSee n a lk)) (k + 1)) hk zMx_ne (by rw [hMk]; rfl) (by rw [hat.2, hD2])
          have dr : f_X0_drop hd lf (nI k) = (upd hd k (-1), nI (zNm (zMx C (zUp C (zgSee n a lk)) (k + 1)) 729)) := by
            unfold f_X0_drop
            rw [if_neg h0, nI_clamp (by omega), hlf, hl1, nI_pred]
          rw [if_neg q2, dr]
          have r := ih (k + 1) (f_X0_imagine vi ai hd (nI n) (nI k)).1 (f_X1_change (f_X0_imagine vi ai hd (nI n) (nI k)).1 (f_X0_imagine vi ai hd (nI n) (nI k)).2 (nI a)).2 _ _ (by omega) (by omega) (zCc_upd (x := -1) hc zMx_ne (by rw [hat.2, hD2]; rfl)) rfl
          exact ⟨r.1, r.2.1, fun h => absurd h q, fun _ => ⟨fun h => absurd h h0, fun _ => ⟨zs_imagine _ _ _, fun h => absurd h q2, fun _ => ⟨zs_drop _ _, r.2.2⟩⟩⟩⟩
theorem zc_learn {C : zCs} {n jar v : Nat} {b : Bool} (hn : n = 2 ∨ n = 3) (hj : jar < 3) (hv : v < 2 ^ 31) (hC : zCok n C) : ∀ (m k : Nat) (vi ai hd : Nat → Int32) (lf : Int32), k + m = 730 → k ≤ 729 → zCc (zMx C (zUp C (zgLearn n jar v b)) k) hd → lf = nI (zNm (zMx C (zUp C (zgLearn n jar v b)) k) 729) →
    zCc (zUp C (zgLearn n jar v b)) (lf_X0_learn_3 m k vi ai hd (nI n) lf (nI jar) (nI v) (zb01 b)).2.2.1 ∧ (lf_X0_learn_3 m k vi ai hd (nI n) lf (nI jar) (nI v) (zb01 b)).2.2.2 = nI (zNm (zUp C (zgLearn n jar v b)) 729) ∧ sf_X0_learn_3 m k vi ai hd (nI n) lf (nI jar) (nI v) (zb01 b) := by
  have hD := zUp_learn_ok (n := n) (jar := jar) (v := v) (r := b) hC
  intro m
  induction m with
  | zero => intro k vi ai hd lf h1 h2; exfalso; omega
  | succ m ih =>
    intro k vi ai hd lf h1 h2 hc hlf
    rw [lf_X0_learn_3_succ, sf_X0_learn_3_succ]
    by_cases q : (729 : Int32) ≤ nI k
    · have hk : k = 729 := by
        rcases Nat.lt_or_ge k 729 with z | z
        · exact absurd q (by rw [zl729]; exact nI_ge z (by omega))
        · omega
      rw [if_pos q]
      have e : ∀ N, N < 729 → zMx C (zUp C (zgLearn n jar v b)) k N = zUp C (zgLearn n jar v b) N := fun N hN => by unfold zMx; rw [if_pos (by omega)]
      refine ⟨fun N hN => by show hd N = _; rw [hc N hN, e N hN], ?_, fun _ => trivial, fun h => absurd q h⟩
      show lf = _
      rw [hlf, zNm_congr 729 e]
    · have hk : k < 729 := zk_lt (N := 729) (by omega) rfl q
      have hMok := zMx_ok hC hD k
      have hat := zMx_at (C := C) (D := zUp C (zgLearn n jar v b)) k
      have hcand := zc_isCand hMok hc hk
      rw [if_neg q]
      cases hs : C k with
      | none =>
        have hDk : zUp C (zgLearn n jar v b) k = none := by unfold zUp; rw [hs]; rfl
        have h0 : f_X0_isCandidate hd (nI k) = 0 := by rw [hcand, hat.1, hs]; rfl
        rw [if_pos h0]
        have hx : zMx C (zUp C (zgLearn n jar v b)) k k = zMx C (zUp C (zgLearn n jar v b)) (k + 1) k := by rw [hat.1, hat.2, hs, hDk]
        have r := ih (k + 1) vi ai hd lf (by omega) (by omega) (zCc_same hc zMx_ne hx) (by rw [hlf, zNm_same hk zMx_ne (by rw [hx])])
        exact ⟨r.1, r.2.1, fun h => absurd h q, fun _ => ⟨fun _ => r.2.2, fun h => absurd h0 h⟩⟩
      | some s =>
        have hMk : zMx C (zUp C (zgLearn n jar v b)) k k = some s := by rw [hat.1, hs]
        have h0 : ¬ f_X0_isCandidate hd (nI k) = 0 := by rw [hcand, hMk]; show ¬ (1 : Int32) = 0; decide
        have im := zc_imagine hn hMok hc hk hMk vi ai
        have hvol := zcv_le (n := n) hk jar
        have vol : f_X1_volumeAt (f_X0_imagine vi ai hd (nI n) (nI k)).1 (nI jar) = nI (zcv n k jar) := by rw [zr_vol hj]; exact im.1 jar hj
        have hDk : zUp C (zgLearn n jar v b) k = zgLearn n jar v b k s := by unfold zUp; rw [hs]; rfl
        rw [if_neg h0, vol]
        have good : decide (zcv n k jar = v) = b → zUp C (zgLearn n jar v b) k = some s := fun z => by rw [hDk]; unfold zgLearn; rw [if_pos z]
        have bad : ¬ decide (zcv n k jar = v) = b → zUp C (zgLearn n jar v b) k = none := fun z => by rw [hDk]; unfold zgLearn; rw [if_neg z]
        have rg : decide (zcv n k jar = v) = b → _ := fun z =>
          have hx : zMx C (zUp C (zgLearn n jar v b)) k k = zMx C (zUp C (zgLearn n jar v b)) (k + 1) k := by rw [hat.1, hat.2, hs, good z]
          ih (k + 1) (f_X0_imagine vi ai hd (nI n) (nI k)).1 (f_X0_imagine vi ai hd (nI n) (nI k)).2 hd lf (by omega) (by omega) (zCc_same hc zMx_ne hx) (by rw [hlf, zNm_same hk zMx_ne (by rw [hx])])
        have dr : ¬ decide (zcv n k jar = v) = b → f_X0_drop hd lf (nI k) = (upd hd k (-1), nI (zNm (zMx C (zUp C (zgLearn n jar v b)) (k + 1)) 729)) := fun z => by
          have hl1 := zNm_less (C := zMx C (zUp C (zgLearn n jar v b)) k) (D := zMx C (zUp C (zgLearn n jar v b)) (k + 1)) hk zMx_ne (by rw [hMk]; rfl) (by rw [hat.2, bad z])
          unfold f_X0_drop
          rw [if_neg h0, nI_clamp (by omega), hlf, hl1, nI_pred]
        have rb : ¬ decide (zcv n k jar = v) = b → _ := fun z =>
          ih (k + 1) (f_X0_imagine vi ai hd (nI n) (nI k)).1 (f_X0_imagine vi ai hd (nI n) (nI k)).2 (upd hd k (-1)) (nI (zNm (zMx C (zUp C (zgLearn n jar v b)) (k + 1)) 729)) (by omega) (by omega) (zCc_upd (x := -1) hc zMx_ne (by rw [hat.2, bad z]; rfl)) rfl
        by_cases q2 : nI (zcv n k jar) = nI v
        · have q3 := (nI_eq (by omega) (by omega)).mp q2
          rw [if_pos q2]
          by_cases q4 : (1 : Int32) = zb01 b
          · have hb : b = true := zb01_1.mp q4.symm
            have z : decide (zcv n k jar = v) = b := by rw [hb]; exact decide_eq_true q3
            have r := rg z
            rw [if_pos q4]
            exact ⟨r.1, r.2.1, fun h => absurd h q, fun _ => ⟨fun h => absurd h h0, fun _ => ⟨zs_imagine _ _ _, fun _ => ⟨fun _ => r.2.2, fun h => absurd q4 h⟩, fun h => absurd q2 h⟩⟩⟩
          · have z : ¬ decide (zcv n k jar = v) = b := fun z => q4 (by rw [← z, decide_eq_true q3]; rfl)
            have r := rb z
            rw [if_neg q4, dr z]
            exact ⟨r.1, r.2.1, fun h => absurd h q, fun _ => ⟨fun h => absurd h h0, fun _ => ⟨zs_imagine _ _ _, fun _ => ⟨fun h => absurd h q4, fun _ => ⟨zs_drop _ _, r.2.2⟩⟩, fun h => absurd q2 h⟩⟩⟩
        · have q3 : ¬ zcv n k jar = v := fun z => q2 (by rw [z])
          rw [if_neg q2]
          by_cases q4 : (0 : Int32) = zb01 b
          · have hb : b = false := zb01_0.mp q4.symm
            have z : decide (zcv n k jar = v) = b := by rw [hb]; exact decide_eq_false q3
            have r := rg z
            rw [if_pos q4]
            exact ⟨r.1, r.2.1, fun h => absurd h q, fun _ => ⟨fun h => absurd h h0, fun _ => ⟨zs_imagine _ _ _, fun h => absurd h q2, fun _ => ⟨fun _ => r.2.2, fun h => absurd q4 h⟩⟩⟩⟩
          · have z : ¬ decide (zcv n k jar = v) = b := fun z => q4 (by rw [← z, decide_eq_false q3]; rfl)
            have r := rb z
            rw [if_neg q4, dr z]
            exact ⟨r.1, r.2.1, fun h => absurd h q, fun _ => ⟨fun h => absurd h h0, fun _ => ⟨zs_imagine _ _ _, fun h => absurd h q2, fun _ => ⟨fun h => absurd h q4, fun _ => ⟨zs_drop _ _, r.2.2⟩⟩⟩⟩⟩
/-- all rows, with nothing held -/
def zC0 (n : Nat) : zCs := fun N => if N < zcnt n then some 0 else none
theorem zC0_ok (n : Nat) : zCok n (zC0 n) := by
  refine ⟨fun N hN => by unfold zC0; rw [if_neg (by omega)], fun N s hs => ?_⟩
  unfold zC0 at hs
  split at hs
  · cases hs
    refine ⟨by omega, fun j hj => ⟨?_, ?_⟩⟩
    · have : zdg 0 j = 0 := by unfold zdg; split <;> first | rfl | (split <;> rfl)
      rw [this]; exact Nat.zero_le _
    · refine zcv_le ?_ j
      have := zcnt_le (n := n)
      omega
  · cases hs
theorem zNm_C0 (n : Nat) : ∀ k, zNm (zC0 n) k = min k (zcnt n) := by
  intro k
  induction k with
  | zero => show (0 : Nat) = _; omega
  | succ k ih =>
    unfold zNm
    rw [ih]
    unfold zC0
    by_cases q : k < zcnt n
    · rw [if_pos q, if_pos (by rfl)]; omega
    · rw [if_neg q, if_neg (by decide)]; omega
theorem zc_beginLoop {n : Nat} : ∀ (m k : Nat) (hd : Nat → Int32), k + m = 730 → k ≤ 729 → (∀ N, N < k → hd N = zO (zC0 n N)) → zCc (zC0 n) (lf_X0_beginWith_24 m k hd (nI (zcnt n))) := by
  intro m
  induction m with
  | zero => intro k hd h1 h2; exfalso; omega
  | succ m ih =>
    intro k hd h1 h2 h
    have hz := zcnt_le (n := n)
    rw [lf_X0_beginWith_24_succ]
    by_cases q : (729 : Int32) ≤ nI k
    · have hk : k = 729 := by
        rcases Nat.lt_or_ge k 729 with z | z
        · exact absurd q (by rw [zl729]; exact nI_ge z (by omega))
        · omega
      rw [if_pos q]
      exact fun N hN => h N (by omega)
    · have hk : k < 729 := zk_lt (N := 729) (by omega) rfl q
      rw [if_neg q, z_if_le (by omega) (by omega), nI_clamp (by omega)]
      by_cases q2 : zcnt n ≤ k
      · rw [if_pos q2]
        refine ih (k + 1) _ (by omega) (by omega) (fun N hN => ?_)
        unfold upd
        by_cases z : N = k
        · rw [if_pos z]; unfold zC0; rw [if_neg (by omega)]; rfl
        · rw [if_neg z]; exact h N (by omega)
      · rw [if_neg q2]
        refine ih (k + 1) _ (by omega) (by omega) (fun N hN => ?_)
        unfold upd
        by_cases z : N = k
        · rw [if_pos z]; unfold zC0; rw [if_pos (by omega)]; rfl
        · rw [if_neg z]; exact h N (by omega)
theorem zc_begin {n : Nat} (hn : n = 2 ∨ n = 3) (hd : Nat → Int32) (jc lf : Int32) : zCc (zC0 n) (f_X0_beginWith hd jc lf (nI n)).1 ∧ (f_X0_beginWith hd jc lf (nI n)).2.1 = nI n ∧ (f_X0_beginWith hd jc lf (nI n)).2.2 = nI (zNm (zC0 n) 729) := by
  have b := zc_beginLoop (n := n) 730 0 hd (by omega) (by omega) (fun _ h => absurd h (by omega))
  have z := zNm_C0 n 729
  unfold f_X0_beginWith
  rcases hn with rfl | rfl
  · have c2 : nI 2 = (2 : Int32) := rfl
    have e81 : nI (zcnt 2) = (81 : Int32) := rfl
    rw [e81] at b
    rw [if_pos c2]
    dsimp only
    refine ⟨b, rfl, ?_⟩
    rw [z]; rfl
  · have c3 : ¬ nI 3 = (2 : Int32) := by decide
    have e729 : nI (zcnt 3) = (729 : Int32) := rfl
    rw [e729] at b
    rw [if_neg c3]
    dsimp only
    refine ⟨b, rfl, ?_⟩
    rw [z]; rfl
