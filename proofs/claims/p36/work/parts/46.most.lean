/-! how many are left at the most, by what is seen -/
/-- the class's picture of what the model sees -/
def zph (n k : Nat) : Nat :=
  let f := fun d => d / 2 + 2 * (d % 2)
  if n = 2 then (f (k / 4 % 4) * 4 + f (k % 4)) * 4 + 3 else (f (k / 16) * 4 + f (k / 4 % 4)) * 4 + f (k % 4)
theorem zph_lt2 : ∀ k, k < 16 → zph 2 k < 64 := by decide +kernel
theorem zph_lt3 : ∀ k, k < 64 → zph 3 k < 64 := by decide +kernel
theorem zph_inj2 : ∀ a, a < 16 → ∀ b, b < 16 → zph 2 a = zph 2 b → a = b := by decide +kernel
theorem zph_inj3 : ∀ a, a < 64 → ∀ b, b < 64 → zph 3 a = zph 3 b → a = b := by decide +kernel
def zK64 (n : Nat) : Nat := if n = 2 then 16 else 64
theorem zsg_lt (n : Nat) (V X : Nat → Nat) : zsg n V X < zK64 n := by
  have := zbt_le V X 0
  have := zbt_le V X 1
  have := zbt_le V X 2
  unfold zsg zK64
  split <;> omega
theorem zph_lt {n : Nat} (hn : n = 2 ∨ n = 3) {k : Nat} (h : k < zK64 n) : zph n k < 64 := by
  rcases hn with rfl | rfl
  · exact zph_lt2 k h
  · exact zph_lt3 k h
theorem zph_inj {n : Nat} (hn : n = 2 ∨ n = 3) {a b : Nat} (ha : a < zK64 n) (hb : b < zK64 n) (h : zph n a = zph n b) : a = b := by
  rcases hn with rfl | rfl
  · exact zph_inj2 a ha b hb h
  · exact zph_inj3 a ha b hb h
theorem zct_bt (V X : Nat → Nat) (j : Nat) : zct V X j = zbt V X j / 2 + 2 * (zbt V X j % 2) := by
  unfold zct zbt; split <;> split <;> rfl
/-- with two jars the third holds nothing -/
def zTw (n : Nat) (V X : Nat → Nat) : Prop := n = 2 → V 2 = 0 ∧ X 2 = 0
theorem zlk_sg {n : Nat} (hn : n = 2 ∨ n = 3) {V X : Nat → Nat} (h : zTw n V X) : zlk V X = zph n (zsg n V X) := by
  have b0 := zbt_le V X 0
  have b1 := zbt_le V X 1
  have b2 := zbt_le V X 2
  have c0 := zct_bt V X 0
  have c1 := zct_bt V X 1
  have c2 := zct_bt V X 2
  unfold zlk zph zsg
  rcases hn with rfl | rfl
  · have h2 := h rfl
    have e : zct V X 2 = 3 := by unfold zct; rw [if_pos h2.2, if_pos (by rw [h2.1, h2.2])]
    rw [if_pos rfl, if_pos rfl, e, c0, c1]
    dsimp only
    rw [show (4 * zbt V X 0 + zbt V X 1) / 4 % 4 = zbt V X 0 by omega, show (4 * zbt V X 0 + zbt V X 1) % 4 = zbt V X 1 by omega]
  · rw [if_neg (by decide), if_neg (by decide), c0, c1, c2]
    dsimp only
    rw [show (4 * (4 * zbt V X 0 + zbt V X 1) + zbt V X 2) / 16 = zbt V X 0 by omega, show (4 * (4 * zbt V X 0 + zbt V X 1) + zbt V X 2) / 4 % 4 = zbt V X 1 by omega, show (4 * (4 * zbt V X 0 + zbt V X 1) + zbt V X 2) % 4 = zbt V X 2 by omega]
theorem zTw_cand {n : Nat} {C : zCs} (hC : zCok n C) {N s : Nat} (hs : C N = some s) : zTw n (zcv n N) (zdg s) := by
  intro h
  have o := (hC.2 N s hs).2 2 (by omega)
  have : zcv n N 2 = 0 := by unfold zcv; rw [if_neg (by omega), if_neg (by omega), if_pos h]
  exact ⟨this, by omega⟩
theorem zTw_ok {n : Nat} {V X : Nat → Nat} (h : zTw n V X) {Y : Nat → Nat} (hY : zOK V Y) : zTw n V Y := by
  intro h2
  have o := hY 2 (by omega)
  have := (h h2).1
  exact ⟨this, by omega⟩
def zkey (n a N s : Nat) : Nat := zsg n (zcv n N) (zmv (zcv n N) (zdg s) a)
def zKF (n a : Nat) (N s : Nat) (t : (Nat → Nat) × Nat) : (Nat → Nat) × Nat := (fun x => if x = zkey n a N s then t.1 x + 1 else t.1 x, max t.2 (t.1 (zkey n a N s) + 1))
def zMost (n : Nat) (C : zCs) (a : Nat) : Nat := (zGo C (zKF n a) 729 0 (fun _ => 0, 0)).2
theorem zKF_le {n a : Nat} {C : zCs} : ∀ k, (∀ x, (zGo C (zKF n a) k 0 (fun _ => 0, 0)).1 x ≤ k) ∧ (zGo C (zKF n a) k 0 (fun _ => 0, 0)).2 ≤ k := by
  intro k
  induction k with
  | zero => exact ⟨fun _ => Nat.le_refl _, Nat.le_refl _⟩
  | succ k ih =>
    rw [zGo_succ]
    unfold zSp
    cases C k with
    | none => exact ⟨fun x => by have := ih.1 x; show (zGo C (zKF n a) k 0 (fun _ => 0, 0)).1 x ≤ _; omega, by show (zGo C (zKF n a) k 0 (fun _ => 0, 0)).2 ≤ _; omega⟩
    | some s =>
      refine ⟨fun x => ?_, ?_⟩
      · show (if x = _ then (zGo C (zKF n a) k 0 (fun _ => 0, 0)).1 x + 1 else (zGo C (zKF n a) k 0 (fun _ => 0, 0)).1 x) ≤ _
        have := ih.1 x
        split <;> omega
      · show max (zGo C (zKF n a) k 0 (fun _ => 0, 0)).2 ((zGo C (zKF n a) k 0 (fun _ => 0, 0)).1 (zkey n a k s) + 1) ≤ _
        have := ih.1 (zkey n a k s)
        omega
theorem zMost_le (n : Nat) (C : zCs) (a : Nat) : zMost n C a ≤ 729 := (zKF_le 729).2
theorem zc_mostLoop {C : zCs} {n a : Nat} (hn : n = 2 ∨ n = 3) (ha : a < 15) (hal : zal 3 a) (hC : zCok n C) {hd : Nat → Int32} (h : zCc C hd) : ∀ (m k : Nat) (vi ai sn : Nat → Int32) (t : (Nat → Nat) × Nat), k + m = 729 → (∀ x, x < zK64 n → sn (zph n x) = nI (t.1 x)) → (∀ x, t.1 x ≤ k) → t.2 ≤ k → (lf_X0_mostLeftBehind_12 (m + 1) k vi ai hd sn (nI n) (nI a) (nI t.2)).2.2.2 = nI (zGo C (zKF n a) m k t).2 ∧ sf_X0_mostLeftBehind_12 (m + 1) k vi ai hd (nI n) (nI a) := by
  intro m
  induction m with
  | zero =>
    intro k vi ai sn t hk h1 h2 h3
    have q : (729 : Int32) ≤ nI k := by rw [zl729, show k = 729 by omega]; exact Int32.le_refl _
    rw [lf_X0_mostLeftBehind_12_succ, sf_X0_mostLeftBehind_12_succ, if_pos q]
    exact ⟨rfl, fun _ => trivial, fun z => absurd q z⟩
  | succ m ih =>
    intro k vi ai sn t hk h1 h2 h3
    have hk' : k < 729 := by omega
    have q : ¬ (729 : Int32) ≤ nI k := by rw [zl729]; exact nI_ge hk' (by omega)
    rw [lf_X0_mostLeftBehind_12_succ, sf_X0_mostLeftBehind_12_succ, if_neg q]
    have hcand := zc_isCand hC h hk'
    show _ = nI (zGo C (zKF n a) m (k + 1) (zSp C (zKF n a) t k)).2 ∧ _
    unfold zSp
    cases hs : C k with
    | none =>
      have h0 : f_X0_isCandidate hd (nI k) = 0 := by rw [hcand, hs]; rfl
      have r := ih (k + 1) vi ai sn t (by omega) h1 (fun x => by have := h2 x; omega) (by omega)
      rw [if_pos h0]
      exact ⟨r.1, fun z => absurd z q, fun _ => ⟨fun _ => r.2, fun z => absurd h0 z⟩⟩
    | some s =>
      have h0 : ¬ f_X0_isCandidate hd (nI k) = 0 := by rw [hcand, hs]; show ¬ (1 : Int32) = 0; decide
      have im := zc_imagine hn hC h hk' hs vi ai
      have g := hC.2 k s hs
      have ch := (zr_change im.1 im.2 g.2 ha hal).2
      have o := zmv_ok g.2 ha
      have lo : f_X1_look (f_X0_imagine vi ai hd (nI n) (nI k)).1 (f_X1_change (f_X0_imagine vi ai hd (nI n) (nI k)).1 (f_X0_imagine vi ai hd (nI n) (nI k)).2 (nI a)).2 = nI (zph n (zkey n a k s)) := by
        rw [zr_look im.1 ch o, zlk_sg hn (zTw_ok (zTw_cand hC hs) o)]; rfl
      have hκ : zkey n a k s < zK64 n := zsg_lt _ _ _
      have hφ := zph_lt hn hκ
      have hT := h2 (zkey n a k s)
      have ty : ∀ (sn : Nat → Int32), f_X0_tally sn (nI (zph n (zkey n a k s))) = (upd sn (zph n (zkey n a k s)) (sn (zph n (zkey n a k s)) + 1) (zph n (zkey n a k s)), upd sn (zph n (zkey n a k s)) (sn (zph n (zkey n a k s)) + 1)) := by
        intro sn
        unfold f_X0_tally
        rw [if_neg (z_neg (by omega)), zl64, z_if_lt (by omega) (by omega), if_pos hφ, nI_clamp (by omega)]
      have t1 : f_X0_mostLeftBehind_t1 vi ai hd sn (nI n) (nI a) k = upd sn (zph n (zkey n a k s)) (nI (t.1 (zkey n a k s) + 1)) := by
        unfold f_X0_mostLeftBehind_t1
        rw [lo, ty, h1 _ hκ, nI_1]
      have t2 : f_X0_mostLeftBehind_t2 vi ai hd sn (nI n) (nI a) k = nI (t.1 (zkey n a k s) + 1) := by
        unfold f_X0_mostLeftBehind_t2
        rw [lo, ty, h1 _ hκ, nI_1, pk_us]
      have hmax : (if nI t.2 < nI (t.1 (zkey n a k s) + 1) then nI (t.1 (zkey n a k s) + 1) else nI t.2) = nI (zKF n a k s t).2 := by
        rw [z_if_lt (by omega) (by omega)]
        show _ = nI (max t.2 (t.1 (zkey n a k s) + 1))
        split
        · rw [Nat.max_eq_right (by omega)]
        · rw [Nat.max_eq_left (by omega)]
      have r := ih (k + 1) (f_X0_imagine vi ai hd (nI n) (nI k)).1 (f_X1_change (f_X0_imagine vi ai hd (nI n) (nI k)).1 (f_X0_imagine vi ai hd (nI n) (nI k)).2 (nI a)).2 (upd sn (zph n (zkey n a k s)) (nI (t.1 (zkey n a k s) + 1))) (zKF n a k s t) (by omega)
        (fun x hx => by
          show upd sn (zph n (zkey n a k s)) (nI (t.1 (zkey n a k s) + 1)) (zph n x) = nI (if x = zkey n a k s then t.1 x + 1 else t.1 x)
          by_cases e : x = zkey n a k s
          · rw [if_pos e, e, pk_us]
          · rw [if_neg e, pk_un (fun z => e (zph_inj hn hx hκ z)), h1 x hx])
        (fun x => by
          show (if x = zkey n a k s then t.1 x + 1 else t.1 x) ≤ k + 1
          have := h2 x
          split <;> omega)
        (by show max t.2 (t.1 (zkey n a k s) + 1) ≤ k + 1; omega)
      rw [if_neg h0, t1, t2, hmax]
      exact ⟨r.1, fun z => absurd z q, fun _ => ⟨fun z => absurd z h0, fun _ => ⟨zs_imagine _ _ _, zs_tally _, r.2⟩⟩⟩
theorem zc_most {C : zCs} {n a : Nat} (hn : n = 2 ∨ n = 3) (ha : a < 15) (hal : zal 3 a) (hC : zCok n C) {hd : Nat → Int32} (h : zCc C hd) (vi ai sn : Nat → Int32) : (f_X0_mostLeftBehind vi ai hd sn (nI n) (nI a)).1 = nI (zMost n C a) ∧ s_X0_mostLeftBehind vi ai hd (nI n) (nI a) :=
  zc_mostLoop hn ha hal hC h 729 0 vi ai (f_J7_fill_53178 64 sn 0) (fun _ => 0, 0) (by omega) (fun x hx => z_fill0 (by omega) sn 0 (zph_lt hn hx)) (fun _ => Nat.le_refl _) (Nat.le_refl _)
