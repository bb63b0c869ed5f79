/-! which volumes a jar may have: a mask of the class, a search of the model -/
theorem z_or (a b : Nat) : nI a ||| nI b = nI (a ||| b) := by
  apply Int32.toBitVec_inj.1
  show BitVec.ofNat 32 a ||| BitVec.ofNat 32 b = BitVec.ofNat 32 (a ||| b)
  apply BitVec.eq_of_getLsbD_eq
  intro i hi
  simp [hi]
theorem z_bit : ∀ v, v < 10 → (1 : Int32) <<< (nI v &&& 31) = nI (2 ^ v) := by decide +kernel
def zmF (n jar : Nat) (N _s m : Nat) : Nat := m ||| 2 ^ zcv n N jar
def zyF (n jar v : Nat) (N _s : Nat) (b : Bool) : Bool := b || decide (zcv n N jar = v)
def zMask (n : Nat) (C : zCs) (jar : Nat) : Nat := zGo C (zmF n jar) 729 0 0
theorem zMay_eq (n : Nat) (C : zCs) (jar v : Nat) : zMay n C jar v = zGo C (zyF n jar v) 729 0 false := rfl
theorem zMask_go (n : Nat) (C : zCs) (jar v : Nat) : ∀ k, (zGo C (zmF n jar) k 0 0).testBit v = zGo C (zyF n jar v) k 0 false := by
  intro k
  induction k with
  | zero => show (0 : Nat).testBit v = false; exact Nat.zero_testBit v
  | succ k ih =>
    rw [zGo_succ, zGo_succ]
    unfold zSp
    cases C k with
    | none => exact ih
    | some s =>
      show ((zGo C (zmF n jar) k 0 0) ||| 2 ^ zcv n k jar).testBit v = (zGo C (zyF n jar v) k 0 false || decide (zcv n k jar = v))
      rw [Nat.testBit_or, ih, Nat.testBit_two_pow]
theorem zMask_bit (n : Nat) (C : zCs) (jar v : Nat) : (zMask n C jar).testBit v = zMay n C jar v := zMask_go n C jar v 729
theorem zMask_le {n : Nat} {C : zCs} (jar : Nat) : ∀ k, k ≤ 729 → zGo C (zmF n jar) k 0 0 < 2 ^ 10 := by
  intro k
  induction k with
  | zero => intro _; show (0 : Nat) < _; omega
  | succ k ih =>
    intro hk
    have h := ih (by omega)
    rw [zGo_succ]
    unfold zSp
    cases C k with
    | none => exact h
    | some s =>
      have := zcv_le (n := n) (N := k) (by omega) jar
      exact Nat.or_lt_two_pow h (Nat.pow_lt_pow_right (by omega) (by omega))
theorem zc_volLoop {C : zCs} {n jar : Nat} (hn : n = 2 ∨ n = 3) (hj : jar < 3) (hC : zCok n C) {hd : Nat → Int32} (h : zCc C hd) : ∀ (m k : Nat) (vi ai : Nat → Int32) (x : Nat), k + m = 729 → (lf_X0_volumesFor_4 (m + 1) k vi ai hd (nI n) (nI jar) (nI x)).2.2 = nI (zGo C (zmF n jar) m k x) ∧ sf_X0_volumesFor_4 (m + 1) k hd (nI n) := by
  intro m
  induction m with
  | zero =>
    intro k vi ai x hk
    have q : (729 : Int32) ≤ nI k := by rw [zl729, show k = 729 by omega]; exact Int32.le_refl _
    rw [lf_X0_volumesFor_4_succ, sf_X0_volumesFor_4_succ, if_pos q]
    exact ⟨rfl, fun _ => trivial, fun z => absurd q z⟩
  | succ m ih =>
    intro k vi ai x hk
    have hk' : k < 729 := by omega
    have q : ¬ (729 : Int32) ≤ nI k := by rw [zl729]; exact nI_ge hk' (by omega)
    rw [lf_X0_volumesFor_4_succ, sf_X0_volumesFor_4_succ, if_neg q]
    have hcand := zc_isCand hC h hk'
    show _ = nI (zGo C (zmF n jar) m (k + 1) (zSp C (zmF n jar) x k)) ∧ _
    unfold zSp
    cases hs : C k with
    | none =>
      have h0 : f_X0_isCandidate hd (nI k) = 0 := by rw [hcand, hs]; rfl
      have r := ih (k + 1) vi ai x (by omega)
      rw [if_pos h0]
      exact ⟨r.1, fun z => absurd z q, fun _ => ⟨fun _ => r.2, fun z => absurd h0 z⟩⟩
    | some s =>
      have h0 : ¬ f_X0_isCandidate hd (nI k) = 0 := by rw [hcand, hs]; show ¬ (1 : Int32) = 0; decide
      have im := zc_imagine hn hC h hk' hs vi ai
      have hvol := zcv_le (n := n) hk' jar
      have vol : f_X1_volumeAt (f_X0_imagine vi ai hd (nI n) (nI k)).1 (nI jar) = nI (zcv n k jar) := by rw [zr_vol hj]; exact im.1 jar hj
      have r := ih (k + 1) (f_X0_imagine vi ai hd (nI n) (nI k)).1 (f_X0_imagine vi ai hd (nI n) (nI k)).2 (x ||| 2 ^ zcv n k jar) (by omega)
      rw [if_neg h0, vol, z_bit _ (by omega), z_or]
      exact ⟨r.1, fun z => absurd z q, fun _ => ⟨fun z => absurd z h0, fun _ => ⟨zs_imagine _ _ _, r.2⟩⟩⟩
theorem zc_volumes {C : zCs} {n jar : Nat} (hn : n = 2 ∨ n = 3) (hj : jar < 3) (hC : zCok n C) {hd : Nat → Int32} (h : zCc C hd) (vi ai : Nat → Int32) : (f_X0_volumesFor vi ai hd (nI n) (nI jar)).1 = nI (zMask n C jar) ∧ s_X0_volumesFor hd (nI n) (nI jar) := zc_volLoop hn hj hC h 729 0 vi ai 0 (by omega)
theorem zMask_lt (n : Nat) (C : zCs) (jar : Nat) : zMask n C jar < 1024 := zMask_le jar 729 (by omega)
theorem z_among : ∀ m, m < 1024 → ∀ v, v < 10 → f_X3_isAmong (nI m) (nI v) = zb01 (m.testBit v) := by decide +kernel
/-- how many of the bits 1 to 9 -/
def zBc (f : Nat → Bool) : Nat → Nat
  | 0 => 0
  | k + 1 => zBc f k + if f (k + 1) = true then 1 else 0
theorem zBc_congr {f g : Nat → Bool} (h : ∀ v, f v = g v) : ∀ k, zBc f k = zBc g k := by
  intro k
  induction k with
  | zero => rfl
  | succ k ih => unfold zBc; rw [ih, h]
theorem z_isOne : ∀ m, m < 1024 → m.testBit 0 = false → f_X3_isOne (nI m) = zb01 (decide (zBc m.testBit 9 = 1)) := by decide +kernel
theorem zMay_0 {n : Nat} (hn : n = 2 ∨ n = 3) {C : zCs} {jar : Nat} (hj : jar < n) : ∀ k, zGo C (zyF n jar 0) k 0 false = false := by
  intro k
  induction k with
  | zero => rfl
  | succ k ih =>
    rw [zGo_succ, ih]
    unfold zSp
    cases C k with
    | none => rfl
    | some s =>
      show (false || decide (zcv n k jar = 0)) = false
      have : ¬ zcv n k jar = 0 := by
        unfold zcv
        split
        · omega
        · split
          · omega
          · split <;> omega
      rw [decide_eq_false this]; rfl
theorem zc_among {C : zCs} {n jar v : Nat} (hn : n = 2 ∨ n = 3) (hj : jar < 3) (hv : v < 10) (hC : zCok n C) {hd : Nat → Int32} (h : zCc C hd) (vi ai : Nat → Int32) : f_X3_isAmong (f_X0_volumesFor vi ai hd (nI n) (nI jar)).1 (nI v) = zb01 (zMay n C jar v) := by
  rw [(zc_volumes hn hj hC h vi ai).1, z_among _ (zMask_lt n C jar) v hv, zMask_bit]
theorem zc_one {C : zCs} {n jar : Nat} (hn : n = 2 ∨ n = 3) (hj : jar < n) (hC : zCok n C) {hd : Nat → Int32} (h : zCc C hd) (vi ai : Nat → Int32) : f_X3_isOne (f_X0_volumesFor vi ai hd (nI n) (nI jar)).1 = zb01 (decide (zBc (zMay n C jar) 9 = 1)) := by
  rw [(zc_volumes hn (by omega) hC h vi ai).1, z_isOne _ (zMask_lt n C jar) (by rw [zMask_bit, zMay_eq]; exact zMay_0 hn hj 729), zBc_congr (zMask_bit n C jar)]
