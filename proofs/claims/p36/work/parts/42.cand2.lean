/-- the class's picture of a candidate -/
theorem zc_imagine {C : zCs} {n : Nat} (hn : n = 2 ∨ n = 3) {hd : Nat → Int32} (hC : zCok n C) (h : zCc C hd) {N s : Nat} (hN : N < 729) (hs : C N = some s) (vi ai : Nat → Int32) : zE3 (f_X0_imagine vi ai hd (nI n) (nI N)).1 (zcv n N) ∧ zE3 (f_X0_imagine vi ai hd (nI n) (nI N)).2 (zdg s) := by
  have hs1 := (hC.2 N s hs).1
  have hhd : hd N = nI s := by rw [h N hN, hs]; rfl
  have hc : ¬ f_X0_isCandidate hd (nI N) = 0 := by rw [zc_isCand hC h hN, hs]; show ¬ (1 : Int32) = 0; decide
  have e1 : nI N - nI N / (9 : Int32) * (9 : Int32) + (1 : Int32) = nI (N % 9 + 1) := by rw [zl9, pk_rem (by omega) (by omega) (by omega), nI_1]
  have e2 : nI N / (9 : Int32) - nI N / (9 : Int32) / (9 : Int32) * (9 : Int32) + (1 : Int32) = nI (N / 9 % 9 + 1) := by rw [zl9, pk_div (by omega) (by omega) (by omega), pk_rem (by omega) (by omega) (by omega), nI_1]
  have e3 : nI N / (81 : Int32) + (1 : Int32) = nI (N / 81 + 1) := by rw [zl81, pk_div (by omega) (by omega) (by omega), nI_1]
  have e4 : (nI N).toNatClampNeg = N := nI_clamp (by omega)
  unfold f_X0_imagine f_X0_imagine_t1 f_X0_imagine_t2 f_X0_imagine_t3 f_X0_imagine_t4
  rw [if_neg hc, e1, e2, e3, e4, hhd]
  rcases hn with rfl | rfl
  · have c2 : nI 2 = (2 : Int32) := rfl
    rw [if_pos c2]
    refine ⟨fun j hj => ?_, zr_hold hs1⟩
    obtain ⟨⟨l0, l1, l2⟩, -⟩ := zr_lay vi ai (nI (N % 9 + 1)) (nI (N / 9 % 9 + 1)) (0 : Int32)
    unfold zcv
    rcases z_j3 hj with rfl | rfl | rfl
    · rw [l0, if_pos rfl]
    · rw [l1, if_neg (by omega), if_pos rfl]
    · rw [l2, if_neg (by omega), if_neg (by omega), if_pos rfl]; exact zl0
  · have c3 : ¬ nI 3 = (2 : Int32) := by decide
    rw [if_neg c3]
    refine ⟨fun j hj => ?_, zr_hold hs1⟩
    obtain ⟨⟨l0, l1, l2⟩, -⟩ := zr_lay vi ai (nI (N % 9 + 1)) (nI (N / 9 % 9 + 1)) (nI (N / 81 + 1))
    unfold zcv
    rcases z_j3 hj with rfl | rfl | rfl
    · rw [l0, if_pos rfl]
    · rw [l1, if_neg (by omega), if_pos rfl]
    · rw [l2, if_neg (by omega), if_neg (by omega), if_neg (by omega)]
theorem zs_imagine (hd : Nat → Int32) (jc p1 : Int32) : s_X0_imagine hd jc p1 := by
  have key : ¬ f_X0_isCandidate hd p1 = 0 → vp_in p1 729 := by
    intro h
    unfold f_X0_isCandidate at h
    by_cases q1 : p1 < (0 : Int32)
    · rw [if_pos q1] at h; exact absurd rfl h
    · rw [if_neg q1] at h
      by_cases q2 : (729 : Int32) ≤ p1
      · rw [if_pos q2] at h; exact absurd rfl h
      · exact zk_in (N := 729) rfl q1 q2
  unfold s_X0_imagine
  exact ⟨fun _ => trivial, fun h => ⟨fun _ => key h, fun _ => key h⟩⟩
theorem zs_keep (hd : Nat → Int32) (p1 p2 : Int32) : s_X0_keep hd p1 p2 := by
  have := zs_imagine hd 2 p1
  unfold s_X0_imagine at this
  unfold s_X0_keep
  exact ⟨fun _ => trivial, fun h => (this.2 h).1 rfl⟩
theorem zs_drop (hd : Nat → Int32) (p1 : Int32) : s_X0_drop hd p1 := zs_keep hd p1 0
theorem zs_tally (p1 : Int32) : s_X0_tally p1 := by
  unfold s_X0_tally
  refine ⟨fun _ => trivial, fun h => ⟨fun h2 => ?_, fun _ => trivial⟩⟩
  have : vp_in p1 64 := by
    rw [vp_in_iff]
    have a : ¬ p1.toInt < (0 : Int32).toInt := fun q => h (Int32.lt_iff_toInt_lt.mpr q)
    have b := Int32.lt_iff_toInt_lt.mp h2
    have c : (0 : Int32).toInt = 0 := rfl
    have d : (64 : Int32).toInt = 64 := rfl
    omega
  exact ⟨this, this, this⟩
/-- an act, by a candidate -/
def zgSee (n a lk : Nat) (N s : Nat) : Option Nat := if zlk (zcv n N) (zmv (zcv n N) (zdg s) a) = lk then some (zst (zmv (zcv n N) (zdg s) a)) else none
/-- a guess -/
def zgLearn (n jar v : Nat) (r : Bool) (N s : Nat) : Option Nat := if decide (zcv n N jar = v) = r then some s else none
def zUp (C : zCs) (g : Nat → Nat → Option Nat) : zCs := fun N => (C N).bind (g N)
/-- changed below k -/
def zMx (C D : zCs) (k : Nat) : zCs := fun N => if N < k then D N else C N
theorem zMx_step {C D : zCs} {k N : Nat} (h : N ≠ k) : zMx C D (k + 1) N = zMx C D k N := by
  unfold zMx
  by_cases q : N < k
  · rw [if_pos q, if_pos (by omega)]
  · rw [if_neg q, if_neg (by omega)]
theorem zMx_at {C D : zCs} (k : Nat) : zMx C D k k = C k ∧ zMx C D (k + 1) k = D k := by
  unfold zMx
  exact ⟨if_neg (by omega), if_pos (by omega)⟩
theorem zMx_ok {n : Nat} {C D : zCs} (hC : zCok n C) (hD : zCok n D) (k : Nat) : zCok n (zMx C D k) := by
  refine ⟨fun N hN => ?_, fun N s hs => ?_⟩
  · unfold zMx; split
    · exact hD.1 N hN
    · exact hC.1 N hN
  · unfold zMx at hs; split at hs
    · exact hD.2 N s hs
    · exact hC.2 N s hs
theorem zcnt_le {n : Nat} : zcnt n ≤ 729 := by unfold zcnt; split <;> omega
theorem zUp_see_ok {n a lk : Nat} (ha : a < 15) {C : zCs} (hC : zCok n C) : zCok n (zUp C (zgSee n a lk)) := by
  refine ⟨fun N hN => by unfold zUp; rw [hC.1 N hN]; rfl, fun N s hs => ?_⟩
  unfold zUp at hs
  cases q : C N with
  | none => rw [q] at hs; cases hs
  | some s0 =>
    rw [q] at hs
    have hs : zgSee n a lk N s0 = some s := hs
    unfold zgSee at hs
    split at hs
    · cases hs
      have o := zmv_ok (hC.2 N s0 q).2 ha
      exact ⟨zst_lt o, o.congr (fun j hj => (zdg_st o hj).symm)⟩
    · cases hs
theorem zUp_learn_ok {n jar v : Nat} {r : Bool} {C : zCs} (hC : zCok n C) : zCok n (zUp C (zgLearn n jar v r)) := by
  refine ⟨fun N hN => by unfold zUp; rw [hC.1 N hN]; rfl, fun N s hs => ?_⟩
  unfold zUp at hs
  cases q : C N with
  | none => rw [q] at hs; cases hs
  | some s0 =>
    rw [q] at hs
    have hs : zgLearn n jar v r N s0 = some s := hs
    unfold zgLearn at hs
    split at hs
    · cases hs; exact hC.2 N _ q
    · cases hs
