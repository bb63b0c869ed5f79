/-! the model: how many are left at the most; the best pour of both -/
theorem zm_most2 : ∀ (m k : Nat) (ms : Nat → Int32), k + m = 65 → k ≤ 64 → (∀ q, q < k → ms q = 0) → ∀ q, q < 64 → lf_X4_mostLeft_2 m k ms q = 0 := by
  intro m
  induction m with
  | zero => intro k ms h1 h2; exfalso; omega
  | succ m ih =>
    intro k ms h1 h2 h q hq
    rw [lf_X4_mostLeft_2_succ]
    by_cases c : (64 : Int32) ≤ nI k
    · have hk : k = 64 := by
        rcases Nat.lt_or_ge k 64 with z | z
        · exact absurd c (by rw [zl64]; exact nI_ge z (by omega))
        · omega
      rw [if_pos c]; exact h q (by omega)
    · have hk : k < 64 := zk_lt (N := 64) (by omega) rfl c
      rw [if_neg c, nI_clamp (by omega)]
      refine ih (k + 1) _ (by omega) (by omega) (fun x hx => ?_) q hq
      by_cases e : x = k
      · rw [e, pk_us]
      · rw [pk_un e]; exact h x (by omega)
theorem zm_mostLoop {n a : Nat} (hn : n = 2 ∨ n = 3) (ha : a < 15) (hal : zal 3 a) {C : zCs} (hC : zCok n C) {ml mh : Nat → Int32} (h : zCm n C ml mh) : ∀ (m k : Nat) (mo mb ms : Nat → Int32) (t : (Nat → Nat) × Nat), k + m = 1000 → (∀ x, x < zK64 n → ms x = nI (t.1 x)) → (∀ x, t.1 x ≤ k) → t.2 ≤ k → (lf_X4_mostLeft_28 (m + 1) k (nI n) ml mh mo mb ms (nI a) (nI t.2)).2.2.2 = nI (zGm n C (zKF n a) m k t).2 ∧ sf_X4_mostLeft_28 (m + 1) k (nI n) ml mh mo mb (nI a) := by
  have hz : zK64 n ≤ 64 := by unfold zK64; split <;> omega
  intro m
  induction m with
  | zero =>
    intro k mo mb ms t hk h1 h2 h3
    have q : (1000 : Int32) ≤ nI k := by rw [zl1000, show k = 1000 by omega]; exact Int32.le_refl _
    rw [lf_X4_mostLeft_28_succ, sf_X4_mostLeft_28_succ, if_pos q]
    exact ⟨rfl, fun _ => trivial, fun z => absurd q z⟩
  | succ m ih =>
    intro k mo mb ms t hk h1 h2 h3
    have hk' : k < 1000 := by omega
    have q : ¬ (1000 : Int32) ≤ nI k := by rw [zl1000]; exact nI_ge hk' (by omega)
    have hcl : (nI k).toNatClampNeg = k := nI_clamp (by omega)
    rw [lf_X4_mostLeft_28_succ, sf_X4_mostLeft_28_succ, if_neg q, hcl]
    rcases z_bind n C k with p | ⟨N, s, p1, p2, p⟩
    · have e0 := zRo_no p (h k hk')
      have r := ih (k + 1) mo mb ms t (by omega) h1 (fun x => by have := h2 x; omega) (by omega)
      rw [if_pos e0, zGm_no p]
      exact ⟨r.1, fun z => absurd z q, fun _ => ⟨fun _ => r.2, fun z => absurd e0 z⟩⟩
    · have e0 := zRo_yes p (h k hk')
      have ne : ¬ ml k = 0 := by rw [e0.1]; decide
      obtain ⟨w1, w2, w3⟩ := zm_row hn ha hal hC mo mb hk' p1 p2 e0.2
      have w3 : f_X4_sight (nI n) (f_X4_move (f_X4_lookAtRow mh mo mb (nI k)).1 (f_X4_lookAtRow mh mo mb (nI k)).2 (nI a)).2 (f_X4_lookAtRow mh mo mb (nI k)).2 = nI (zkey n a N s) := w3
      have hκ : zkey n a N s < zK64 n := zsg_lt _ _ _
      have hT := h2 (zkey n a N s)
      have hκc : (nI (zkey n a N s)).toNatClampNeg = zkey n a N s := nI_clamp (by omega)
      have t1 : f_X4_mostLeft_t1 (nI n) mh mo mb ms (nI a) k = upd ms (zkey n a N s) (nI (t.1 (zkey n a N s) + 1)) := by
        unfold f_X4_mostLeft_t1
        rw [w3, hκc, h1 _ hκ, nI_1]
      have t2 : f_X4_mostLeft_t2 (nI n) mh mo mb ms (nI a) k (nI t.2) = nI (zKF n a N s t).2 := by
        unfold f_X4_mostLeft_t2
        rw [t1, w3, hκc, pk_us, z_if_lt (by omega) (by omega)]
        show _ = nI (max t.2 (t.1 (zkey n a N s) + 1))
        split
        · rw [Nat.max_eq_right (by omega)]
        · rw [Nat.max_eq_left (by omega)]
      have r := ih (k + 1) (f_X4_move (f_X4_lookAtRow mh mo mb (nI k)).1 (f_X4_lookAtRow mh mo mb (nI k)).2 (nI a)).2 (f_X4_lookAtRow mh mo mb (nI k)).2 (upd ms (zkey n a N s) (nI (t.1 (zkey n a N s) + 1))) (zKF n a N s t) (by omega)
        (fun x hx => by
          show upd ms (zkey n a N s) (nI (t.1 (zkey n a N s) + 1)) x = nI (if x = zkey n a N s then t.1 x + 1 else t.1 x)
          by_cases e : x = zkey n a N s
          · rw [if_pos e, e, pk_us]
          · rw [if_neg e, pk_un e, h1 x hx])
        (fun x => by
          show (if x = zkey n a N s then t.1 x + 1 else t.1 x) ≤ k + 1
          have := h2 x
          split <;> omega)
        (by show max t.2 (t.1 (zkey n a N s) + 1) ≤ k + 1; omega)
      have v : vp_in (f_X4_sight (nI n) (f_X4_move (f_X4_lookAtRow mh mo mb (nI k)).1 (f_X4_lookAtRow mh mo mb (nI k)).2 (nI a)).2 (f_X4_lookAtRow mh mo mb (nI k)).2) 64 := by rw [w3]; exact vp_in_nI (by omega) (by omega)
      rw [if_neg ne, t1, t2, zGm_yes p1 p2]
      exact ⟨r.1, fun z => absurd z q, fun _ => ⟨fun z => absurd z ne, fun _ => ⟨zs_lookRow hk', zs_move ha, zs_sight hn _ _, v, v, v, r.2⟩⟩⟩
theorem zm_most {n a : Nat} (hn : n = 2 ∨ n = 3) (ha : a < 15) (hal : zal 3 a) {C : zCs} (hC : zCok n C) {ml mh : Nat → Int32} (h : zCm n C ml mh) (mo mb ms : Nat → Int32) : (f_X4_mostLeft (nI n) ml mh mo mb ms (nI a)).1 = nI (zMost n C a) ∧ s_X4_mostLeft (nI n) ml mh mo mb (nI a) := by
  have hz : zK64 n ≤ 64 := by unfold zK64; split <;> omega
  have e := zm_mostLoop hn ha hal hC h 1000 0 mo mb (lf_X4_mostLeft_2 65 0 ms) (fun _ => 0, 0) (by omega) (fun x hx => zm_most2 65 0 ms (by omega) (by omega) (fun q hq => absurd hq (by omega)) x (by omega)) (fun _ => Nat.le_refl _) (Nat.le_refl _)
  rw [zGm_eq hn hC] at e
  exact e
/-! the best pour: one fold for both -/
def zBp (n : Nat) (C : zCs) : Nat → Nat → Int32 → Nat → Int32
  | 0, _, best, _ => best
  | m + 1, k, best, w => if f_X4_isAct (nI n) (nI k) = 0 then zBp n C m (k + 1) best w else if zMost n C k < w then zBp n C m (k + 1) (nI k) (zMost n C k) else zBp n C m (k + 1) best w
theorem zc_bestLoop {V : Nat → Nat} (h9 : V 2 ≤ 9) (hp9 : zPv V) {vr : Nat → Int32} (hv : zE3 vr V) {C : zCs} (hC : zCok (zn V) C) {hd : Nat → Int32} (h : zCc C hd) : ∀ (m k : Nat) (vi ai sn : Nat → Int32) (best : Int32) (w : Nat), k + m = 15 → w ≤ 729 → (lf_X3_bestPour_13 (m + 1) k vr vi ai hd sn (nI (zn V)) best (nI w)).2.2.2 = zBp (zn V) C m k best w ∧ sf_X3_bestPour_13 (m + 1) k vr vi ai hd sn (nI (zn V)) (nI w) := by
  have hn := zn_23 V
  intro m
  induction m with
  | zero =>
    intro k vi ai sn best w hk hw
    have q : (15 : Int32) ≤ nI k := by rw [zl15, show k = 15 by omega]; exact Int32.le_refl _
    rw [lf_X3_bestPour_13_succ, sf_X3_bestPour_13_succ, if_pos q]
    exact ⟨rfl, fun _ => trivial, fun z => absurd q z⟩
  | succ m ih =>
    intro k vi ai sn best w hk hw
    have hk' : k < 15 := by omega
    have q : ¬ (15 : Int32) ≤ nI k := by rw [zl15]; exact nI_ge hk' (by omega)
    rw [lf_X3_bestPour_13_succ, sf_X3_bestPour_13_succ, if_neg q]
    show _ = (if f_X4_isAct (nI (zn V)) (nI k) = 0 then _ else if zMost (zn V) C k < w then _ else _) ∧ _
    have ca := zr_allows hv h9 hp9 hk'
    have cm := zq_isAct hn hk'
    by_cases p : zal (zn V) k
    · have a1 : ¬ f_X1_allows vr (nI k) = 0 := fun z => ca.mp z p
      have a2 : ¬ f_X4_isAct (nI (zn V)) (nI k) = 0 := fun z => cm.mp z p
      have hal3 := zal_3 (by omega) p
      have mo := zc_most hn hk' hal3 hC h vi ai sn
      have ml := zMost_le (zn V) C k
      rw [if_neg a1, if_neg a2, mo.1, z_if_le (by omega) (by omega)]
      by_cases z : zMost (zn V) C k < w
      · have r := ih (k + 1) (f_X0_mostLeftBehind vi ai hd sn (nI (zn V)) (nI k)).2.1 (f_X0_mostLeftBehind vi ai hd sn (nI (zn V)) (nI k)).2.2.1 (f_X0_mostLeftBehind vi ai hd sn (nI (zn V)) (nI k)).2.2.2 (nI k) (zMost (zn V) C k) (by omega) ml
        have z' : ¬ w ≤ zMost (zn V) C k := by omega
        rw [if_neg z', if_pos z]
        exact ⟨r.1, fun y => absurd y q, fun _ => ⟨fun y => absurd y a1, fun _ => ⟨mo.2, fun y => absurd ((nI_leI (by omega) (by omega)).mp y) z', fun _ => r.2⟩⟩⟩
      · have r := ih (k + 1) (f_X0_mostLeftBehind vi ai hd sn (nI (zn V)) (nI k)).2.1 (f_X0_mostLeftBehind vi ai hd sn (nI (zn V)) (nI k)).2.2.1 (f_X0_mostLeftBehind vi ai hd sn (nI (zn V)) (nI k)).2.2.2 best w (by omega) hw
        have z' : w ≤ zMost (zn V) C k := by omega
        rw [if_pos z', if_neg z]
        exact ⟨r.1, fun y => absurd y q, fun _ => ⟨fun y => absurd y a1, fun _ => ⟨mo.2, fun _ => r.2, fun y => absurd ((nI_leI (by omega) (by omega)).mpr z') y⟩⟩⟩
    · have a1 : f_X1_allows vr (nI k) = 0 := ca.mpr p
      have a2 : f_X4_isAct (nI (zn V)) (nI k) = 0 := cm.mpr p
      have r := ih (k + 1) vi ai sn best w (by omega) hw
      rw [if_pos a1, if_pos a2]
      exact ⟨r.1, fun y => absurd y q, fun _ => ⟨fun _ => r.2, fun y => absurd a1 y⟩⟩
theorem zm_bestLoop {n : Nat} (hn : n = 2 ∨ n = 3) {C : zCs} (hC : zCok n C) {ml mh : Nat → Int32} (h : zCm n C ml mh) : ∀ (m k : Nat) (mo mb ms : Nat → Int32) (best : Int32) (w : Nat), k + m = 15 → w ≤ 729 → (lf_X4_tellsMost_10 (m + 1) k (nI n) ml mh mo mb ms best (nI w)).2.2.2 = zBp n C m k best w ∧ sf_X4_tellsMost_10 (m + 1) k (nI n) ml mh mo mb ms (nI w) := by
  intro m
  induction m with
  | zero =>
    intro k mo mb ms best w hk hw
    have q : (15 : Int32) ≤ nI k := by rw [zl15, show k = 15 by omega]; exact Int32.le_refl _
    rw [lf_X4_tellsMost_10_succ, sf_X4_tellsMost_10_succ, if_pos q]
    exact ⟨rfl, fun _ => trivial, fun z => absurd q z⟩
  | succ m ih =>
    intro k mo mb ms best w hk hw
    have hk' : k < 15 := by omega
    have q : ¬ (15 : Int32) ≤ nI k := by rw [zl15]; exact nI_ge hk' (by omega)
    rw [lf_X4_tellsMost_10_succ, sf_X4_tellsMost_10_succ, if_neg q]
    show _ = (if f_X4_isAct (nI n) (nI k) = 0 then _ else if zMost n C k < w then _ else _) ∧ _
    have cm := zq_isAct hn hk'
    by_cases p : zal n k
    · have a2 : ¬ f_X4_isAct (nI n) (nI k) = 0 := fun z => cm.mp z p
      have hal3 := zal_3 (by omega) p
      have mo1 := zm_most hn hk' hal3 hC h mo mb ms
      have ml1 := zMost_le n C k
      rw [if_neg a2, if_neg a2, mo1.1, z_if_lt (by omega) (by omega)]
      by_cases z : zMost n C k < w
      · have r := ih (k + 1) (f_X4_mostLeft (nI n) ml mh mo mb ms (nI k)).2.1 (f_X4_mostLeft (nI n) ml mh mo mb ms (nI k)).2.2.1 (f_X4_mostLeft (nI n) ml mh mo mb ms (nI k)).2.2.2 (nI k) (zMost n C k) (by omega) ml1
        rw [if_pos z, if_pos z]
        exact ⟨r.1, fun y => absurd y q, fun _ => ⟨fun y => absurd y a2, fun _ => ⟨mo1.2, fun _ => r.2, fun y => absurd ((nI_ltI (by omega) (by omega)).mpr z) y⟩⟩⟩
      · have r := ih (k + 1) (f_X4_mostLeft (nI n) ml mh mo mb ms (nI k)).2.1 (f_X4_mostLeft (nI n) ml mh mo mb ms (nI k)).2.2.1 (f_X4_mostLeft (nI n) ml mh mo mb ms (nI k)).2.2.2 best w (by omega) hw
        rw [if_neg z, if_neg z]
        exact ⟨r.1, fun y => absurd y q, fun _ => ⟨fun y => absurd y a2, fun _ => ⟨mo1.2, fun y => absurd ((nI_ltI (by omega) (by omega)).mp y) z, fun _ => r.2⟩⟩⟩
    · have a2 : f_X4_isAct (nI n) (nI k) = 0 := cm.mpr p
      have nw : ¬ (1000 : Int32) < nI w := by rw [zl1000]; exact nI_nlt (by omega) (by omega)
      have r := ih (k + 1) mo mb ms best w (by omega) hw
      rw [if_pos a2, if_pos a2, if_neg nw]
      exact ⟨r.1, fun y => absurd y q, fun _ => ⟨fun _ => ⟨fun y => absurd y nw, fun _ => r.2⟩, fun y => absurd a2 y⟩⟩
