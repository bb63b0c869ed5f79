/-! the class's contracts in mathematics: what is asked and what it answers; its contents behind it -/
theorem zC.to {S S' : Type} {l : Launch} {G : zG} {y : MethodName} {ws : List Cond} {rm : Room} {mc ms : Nat} {av : List Value} {wc : va_W} {rv rv' : Option Value} {w : S → va_W} {w1 : S' → va_W} (h : zC l G y ws rm mc ms av wc rv w) (e : rv = rv') (hw : ∀ u, ∃ u', w u = w1 u') : zC l G y ws rm mc ms av wc rv' w1 := by
  subst e
  intro sz p e ha hc hk s m args below hf hap hP hK
  obtain ⟨n, o, h1, h2, h3, ⟨⟨⟨u, hu, hP1, hD1⟩, hF⟩, hL⟩⟩ := h sz p e ha hc hk s m args below hf hap hP hK
  obtain ⟨u', hu'⟩ := hw u
  rw [hu'] at hP1 hD1
  exact ⟨n, o, h1, h2, h3, ⟨⟨⟨u', hu, hP1, hD1⟩, hF⟩, hL⟩⟩
/-- the class's cells, its contents as the mathematics has them -/
abbrev zAf (G : zG) (a : Nat → Nat) (V X : Nat → Nat) (C : zCs) (t : zU) : {c : zS // zR V X C c t} → va_W := fun u => zCW3 G a u.1
theorem q_fill (l : Launch) (G : zG) (a : Nat → Nat) {V X : Nat → Nat} {C : zCs} {c : zS} {t : zU} (h : zR V X C c t) {j : Nat} (hj : j < zn V) : zC l G yX3_fill wsX3_fill rm_X3_fill 0 0 [.ref (a 0), .int (nI j)] (zCW3 G a c) (some (.int (nI (zm V X j)))) (zAf G a V (zmv V X j) (zNew V X j C) (zUact V X j t)) :=
  have Z := zp_fill h hj
  zC.to (zc_C_fill l G a c (nI j) Z.1 Z.2.1) (by rw [Z.2.2.1]) (fun _ => ⟨⟨zS_fill c (nI j), Z.2.2.2⟩, rfl⟩)
theorem q_empty (l : Launch) (G : zG) (a : Nat → Nat) {V X : Nat → Nat} {C : zCs} {c : zS} {t : zU} (h : zR V X C c t) {j : Nat} (hj : j < zn V) : zC l G yX3_empty wsX3_empty rm_X3_empty 0 0 [.ref (a 0), .int (nI j)] (zCW3 G a c) (some (.int (nI (zm V X (3 + j))))) (zAf G a V (zmv V X (3 + j)) (zNew V X (3 + j) C) (zUact V X (3 + j) t)) :=
  have Z := zp_empty h hj
  zC.to (zc_C_empty l G a c (nI j) Z.1 Z.2.1) (by rw [Z.2.2.1]) (fun _ => ⟨⟨zS_empty c (nI j), Z.2.2.2⟩, rfl⟩)
theorem q_pour (l : Launch) (G : zG) (a : Nat → Nat) {V X : Nat → Nat} {C : zCs} {c : zS} {t : zU} (h : zR V X C c t) {j k : Nat} (hj : j < zn V) (hk : k < zn V) (hne : ¬ j = k) : zC l G yX3_pour wsX3_pour rm_X3_pour 0 0 [.ref (a 0), .int (nI j), .int (nI k)] (zCW3 G a c) (some (.int (nI (zm V X (6 + 3 * j + k))))) (zAf G a V (zmv V X (6 + 3 * j + k)) (zNew V X (6 + 3 * j + k) C) (zUact V X (6 + 3 * j + k) t)) :=
  have Z := zp_pour h hj hk hne
  zC.to (zc_C_pour l G a c (nI j) (nI k) Z.1 Z.2.1) (by rw [Z.2.2.1]) (fun _ => ⟨⟨zS_pour c (nI j) (nI k), Z.2.2.2⟩, rfl⟩)
theorem q_jars (l : Launch) (G : zG) (a : Nat → Nat) {V X : Nat → Nat} {C : zCs} {c : zS} {t : zU} (h : zR V X C c t) : zC l G yX3_jars wsX3_jars rm_X3_jars 0 0 [.ref (a 0)] (zCW3 G a c) (some (.int (nI (zn V)))) (zAf G a V X C t) :=
  have Z := zp_jars h 
  zC.to (zc_C_jars l G a c trivial rfl) (by rw [Z.1]) (fun _ => ⟨⟨zS_jars c, Z.2⟩, rfl⟩)
theorem q_volumeOf (l : Launch) (G : zG) (a : Nat → Nat) {V X : Nat → Nat} {C : zCs} {c : zS} {t : zU} (h : zR V X C c t) {j : Nat} (hj : j < zn V) : zC l G yX3_volumeOf wsX3_volumeOf rm_X3_volumeOf 0 0 [.ref (a 0), .int (nI j)] (zCW3 G a c) (some (.int (nI (V j)))) (zAf G a V X C t) :=
  have Z := zp_volumeOf h hj
  zC.to (zc_C_volumeOf l G a c (nI j) trivial Z.1) (by rw [Z.2.1]) (fun _ => ⟨⟨zS_volumeOf c (nI j), Z.2.2⟩, rfl⟩)
theorem q_amountOf (l : Launch) (G : zG) (a : Nat → Nat) {V X : Nat → Nat} {C : zCs} {c : zS} {t : zU} (h : zR V X C c t) {j : Nat} (hj : j < zn V) : zC l G yX3_amountOf wsX3_amountOf rm_X3_amountOf 0 0 [.ref (a 0), .int (nI j)] (zCW3 G a c) (some (.int (nI (X j)))) (zAf G a V X C t) :=
  have Z := zp_amountOf h hj
  zC.to (zc_C_amountOf l G a c (nI j) trivial Z.1) (by rw [Z.2.1]) (fun _ => ⟨⟨zS_amountOf c (nI j), Z.2.2⟩, rfl⟩)
theorem q_isEmpty (l : Launch) (G : zG) (a : Nat → Nat) {V X : Nat → Nat} {C : zCs} {c : zS} {t : zU} (h : zR V X C c t) {j : Nat} (hj : j < zn V) : zC l G yX3_isEmpty wsX3_isEmpty rm_X3_isEmpty 0 0 [.ref (a 0), .int (nI j)] (zCW3 G a c) (some (.int (zb01 (decide (X j = 0))))) (zAf G a V X C t) :=
  have Z := zp_isEmpty h hj
  zC.to (zc_C_isEmpty l G a c (nI j) trivial Z.1) (by rw [Z.2.1]) (fun _ => ⟨⟨zS_isEmpty c (nI j), Z.2.2⟩, rfl⟩)
theorem q_isFull (l : Launch) (G : zG) (a : Nat → Nat) {V X : Nat → Nat} {C : zCs} {c : zS} {t : zU} (h : zR V X C c t) {j : Nat} (hj : j < zn V) : zC l G yX3_isFull wsX3_isFull rm_X3_isFull 0 0 [.ref (a 0), .int (nI j)] (zCW3 G a c) (some (.int (zb01 (decide (X j = V j))))) (zAf G a V X C t) :=
  have Z := zp_isFull h hj
  zC.to (zc_C_isFull l G a c (nI j) trivial Z.1) (by rw [Z.2.1]) (fun _ => ⟨⟨zS_isFull c (nI j), Z.2.2⟩, rfl⟩)
theorem q_heldInAll (l : Launch) (G : zG) (a : Nat → Nat) {V X : Nat → Nat} {C : zCs} {c : zS} {t : zU} (h : zR V X C c t) : zC l G yX3_heldInAll wsX3_heldInAll rm_X3_heldInAll 0 0 [.ref (a 0)] (zCW3 G a c) (some (.int (nI (X 0 + X 1 + X 2)))) (zAf G a V X C t) :=
  have Z := zp_heldInAll h 
  zC.to (zc_C_heldInAll l G a c trivial rfl) (by rw [Z.1]) (fun _ => ⟨⟨zS_heldInAll c, Z.2⟩, rfl⟩)
theorem q_acts (l : Launch) (G : zG) (a : Nat → Nat) {V X : Nat → Nat} {C : zCs} {c : zS} {t : zU} (h : zR V X C c t) : zC l G yX3_acts wsX3_acts rm_X3_acts 0 0 [.ref (a 0)] (zCW3 G a c) (some (.int (nI t.ac))) (zAf G a V X C t) :=
  have Z := zp_acts h 
  zC.to (zc_C_acts l G a c trivial rfl) (by rw [Z.1]) (fun _ => ⟨⟨zS_acts c, Z.2⟩, rfl⟩)
theorem q_pouredInAll (l : Launch) (G : zG) (a : Nat → Nat) {V X : Nat → Nat} {C : zCs} {c : zS} {t : zU} (h : zR V X C c t) : zC l G yX3_pouredInAll wsX3_pouredInAll rm_X3_pouredInAll 0 0 [.ref (a 0)] (zCW3 G a c) (some (.int (nI t.po))) (zAf G a V X C t) :=
  have Z := zp_pouredInAll h 
  zC.to (zc_C_pouredInAll l G a c trivial rfl) (by rw [Z.1]) (fun _ => ⟨⟨zS_pouredInAll c, Z.2⟩, rfl⟩)
theorem q_spilledInAll (l : Launch) (G : zG) (a : Nat → Nat) {V X : Nat → Nat} {C : zCs} {c : zS} {t : zU} (h : zR V X C c t) : zC l G yX3_spilledInAll wsX3_spilledInAll rm_X3_spilledInAll 0 0 [.ref (a 0)] (zCW3 G a c) (some (.int (nI t.si))) (zAf G a V X C t) :=
  have Z := zp_spilledInAll h 
  zC.to (zc_C_spilledInAll l G a c trivial rfl) (by rw [Z.1]) (fun _ => ⟨⟨zS_spilledInAll c, Z.2⟩, rfl⟩)
theorem q_takenInAll (l : Launch) (G : zG) (a : Nat → Nat) {V X : Nat → Nat} {C : zCs} {c : zS} {t : zU} (h : zR V X C c t) : zC l G yX3_takenInAll wsX3_takenInAll rm_X3_takenInAll 0 0 [.ref (a 0)] (zCW3 G a c) (some (.int (nI t.ta))) (zAf G a V X C t) :=
  have Z := zp_takenInAll h 
  zC.to (zc_C_takenInAll l G a c trivial rfl) (by rw [Z.1]) (fun _ => ⟨⟨zS_takenInAll c, Z.2⟩, rfl⟩)
theorem q_guesses (l : Launch) (G : zG) (a : Nat → Nat) {V X : Nat → Nat} {C : zCs} {c : zS} {t : zU} (h : zR V X C c t) : zC l G yX3_guesses wsX3_guesses rm_X3_guesses 0 0 [.ref (a 0)] (zCW3 G a c) (some (.int (nI t.gu))) (zAf G a V X C t) :=
  have Z := zp_guesses h 
  zC.to (zc_C_guesses l G a c trivial rfl) (by rw [Z.1]) (fun _ => ⟨⟨zS_guesses c, Z.2⟩, rfl⟩)
theorem q_wrongGuesses (l : Launch) (G : zG) (a : Nat → Nat) {V X : Nat → Nat} {C : zCs} {c : zS} {t : zU} (h : zR V X C c t) : zC l G yX3_wrongGuesses wsX3_wrongGuesses rm_X3_wrongGuesses 0 0 [.ref (a 0)] (zCW3 G a c) (some (.int (nI t.wr))) (zAf G a V X C t) :=
  have Z := zp_wrongGuesses h 
  zC.to (zc_C_wrongGuesses l G a c trivial rfl) (by rw [Z.1]) (fun _ => ⟨⟨zS_wrongGuesses c, Z.2⟩, rfl⟩)
theorem q_candidates (l : Launch) (G : zG) (a : Nat → Nat) {V X : Nat → Nat} {C : zCs} {c : zS} {t : zU} (h : zR V X C c t) : zC l G yX3_candidates wsX3_candidates rm_X3_candidates 0 0 [.ref (a 0)] (zCW3 G a c) (some (.int (nI (zNm C 729)))) (zAf G a V X C t) :=
  have Z := zp_candidates h 
  zC.to (zc_C_candidates l G a c trivial rfl) (by rw [Z.1]) (fun _ => ⟨⟨zS_candidates c, Z.2⟩, rfl⟩)
theorem q_isThere (l : Launch) (G : zG) (a : Nat → Nat) {V X : Nat → Nat} {C : zCs} {c : zS} {t : zU} (h : zR V X C c t) {v : Nat} (hv : v ≤ 9) : zC l G yX3_isThere wsX3_isThere rm_X3_isThere 0 0 [.ref (a 0), .int (nI v)] (zCW3 G a c) (some (.int (zb01 (zhas (zn V) X v)))) (zAf G a V X C t) :=
  have Z := zp_isThere h hv
  zC.to (zc_C_isThere l G a c (nI v) trivial Z.1) (by rw [Z.2.1]) (fun _ => ⟨⟨zS_isThere c (nI v), Z.2.2⟩, rfl⟩)
theorem q_mayBe (l : Launch) (G : zG) (a : Nat → Nat) {V X : Nat → Nat} {C : zCs} {c : zS} {t : zU} (h : zR V X C c t) {j v : Nat} (hj : j < zn V) (v1 : 1 ≤ v) (hv : v ≤ 9) : zC l G yX3_mayBe wsX3_mayBe rm_X3_mayBe 0 0 [.ref (a 0), .int (nI j), .int (nI v)] (zCW3 G a c) (some (.int (zb01 (zMay (zn V) C j v)))) (zAf G a V X C t) :=
  have Z := zp_mayBe h hj v1 hv
  zC.to (zc_C_mayBe l G a c (nI j) (nI v) Z.1 Z.2.1) (by rw [Z.2.2.1]) (fun _ => ⟨⟨zS_mayBe c (nI j) (nI v), Z.2.2.2⟩, rfl⟩)
theorem q_isKnown (l : Launch) (G : zG) (a : Nat → Nat) {V X : Nat → Nat} {C : zCs} {c : zS} {t : zU} (h : zR V X C c t) {j : Nat} (hj : j < zn V) : zC l G yX3_isKnown wsX3_isKnown rm_X3_isKnown 0 0 [.ref (a 0), .int (nI j)] (zCW3 G a c) (some (.int (zb01 (decide (zBc (zMay (zn V) C j) 9 = 1))))) (zAf G a V X C t) :=
  have Z := zp_isKnown h hj
  zC.to (zc_C_isKnown l G a c (nI j) Z.1 Z.2.1) (by rw [Z.2.2.1]) (fun _ => ⟨⟨zS_isKnown c (nI j), Z.2.2.2⟩, rfl⟩)
theorem q_leftAtMost (l : Launch) (G : zG) (a : Nat → Nat) {V X : Nat → Nat} {C : zCs} {c : zS} {t : zU} (h : zR V X C c t) {j k : Nat} (hj : j < zn V) (hk : k < zn V) (hne : ¬ j = k) : zC l G yX3_leftAtMost wsX3_leftAtMost rm_X3_leftAtMost 0 0 [.ref (a 0), .int (nI j), .int (nI k)] (zCW3 G a c) (some (.int (nI (zMost (zn V) C (6 + 3 * j + k))))) (zAf G a V X C t) :=
  have Z := zp_leftAtMost h hj hk hne
  zC.to (zc_C_leftAtMost l G a c (nI j) (nI k) Z.1 Z.2.1) (by rw [Z.2.2.1]) (fun _ => ⟨⟨zS_leftAtMost c (nI j) (nI k), Z.2.2.2⟩, rfl⟩)
theorem q_bestPour (l : Launch) (G : zG) (a : Nat → Nat) {V X : Nat → Nat} {C : zCs} {c : zS} {t : zU} (h : zR V X C c t) : zC l G yX3_bestPour wsX3_bestPour rm_X3_bestPour 0 0 [.ref (a 0)] (zCW3 G a c) (some (.int ((zBq (zn V) C 9 6 (-1) (zNm C 729)).1))) (zAf G a V X C t) :=
  have Z := zp_bestPour h 
  zC.to (zc_C_bestPour l G a c Z.1 rfl) (by rw [Z.2.1]) (fun _ => ⟨⟨zS_bestPour c, Z.2.2⟩, rfl⟩)
theorem q_leastActs (l : Launch) (G : zG) (a : Nat → Nat) {V X : Nat → Nat} {C : zCs} {c : zS} {t : zU} (h : zR V X C c t) {v : Nat} (hv : v ≤ 9) : zC l G yX3_leastActs wsX3_leastActs rm_X3_leastActs 0 0 [.ref (a 0), .int (nI v)] (zCW3 G a c) (some (.int (zDi (zF V X v)))) (zAf G a V X C t) :=
  have Z := zp_leastActs h hv
  zC.to (zc_C_leastActs l G a c (nI v) Z.1 Z.2.1) (by rw [Z.2.2.1]) (fun _ => ⟨⟨zS_leastActs c (nI v), Z.2.2.2⟩, rfl⟩)
theorem q_leastActsIn (l : Launch) (G : zG) (a : Nat → Nat) {V X : Nat → Nat} {C : zCs} {c : zS} {t : zU} (h : zR V X C c t) {j v : Nat} (hj : j < zn V) (hv : v ≤ 9) : zC l G yX3_leastActsIn wsX3_leastActsIn rm_X3_leastActsIn 0 0 [.ref (a 0), .int (nI j), .int (nI v)] (zCW3 G a c) (some (.int (zDi (zFst (zBFS V (zst X)) (fun t => decide (zdg t j = v)))))) (zAf G a V X C t) :=
  have Z := zp_leastActsIn h hj hv
  zC.to (zc_C_leastActsIn l G a c (nI j) (nI v) Z.1 Z.2.1) (by rw [Z.2.2.1]) (fun _ => ⟨⟨zS_leastActsIn c (nI j) (nI v), Z.2.2.2⟩, rfl⟩)
theorem q_statesAway (l : Launch) (G : zG) (a : Nat → Nat) {V X : Nat → Nat} {C : zCs} {c : zS} {t : zU} (h : zR V X C c t) {v : Nat} (hv : v ≤ 50) : zC l G yX3_statesAway wsX3_statesAway rm_X3_statesAway 0 0 [.ref (a 0), .int (nI v)] (zCW3 G a c) (some (.int (zCn (zBFS V (zst X)) (nI v) ((zBFS V (zst X)).length + 1) 0 0))) (zAf G a V X C t) :=
  have Z := zp_statesAway h hv
  zC.to (zc_C_statesAway l G a c (nI v) Z.1 Z.2.1) (by rw [Z.2.2.1]) (fun _ => ⟨⟨zS_statesAway c (nI v), Z.2.2.2⟩, rfl⟩)
theorem q_statesToReach (l : Launch) (G : zG) (a : Nat → Nat) {V X : Nat → Nat} {C : zCs} {c : zS} {t : zU} (h : zR V X C c t) : zC l G yX3_statesToReach wsX3_statesToReach rm_X3_statesToReach 0 0 [.ref (a 0)] (zCW3 G a c) (some (.int (nI (zBFS V (zst X)).length))) (zAf G a V X C t) :=
  have Z := zp_statesToReach h 
  zC.to (zc_C_statesToReach l G a c Z.1 rfl) (by rw [Z.2.1]) (fun _ => ⟨⟨zS_statesToReach c, Z.2.2⟩, rfl⟩)
theorem q_farthest (l : Launch) (G : zG) (a : Nat → Nat) {V X : Nat → Nat} {C : zCs} {c : zS} {t : zU} (h : zR V X C c t) : zC l G yX3_farthest wsX3_farthest rm_X3_farthest 0 0 [.ref (a 0)] (zCW3 G a c) (some (.int (zFr (zBFS V (zst X))))) (zAf G a V X C t) :=
  have Z := zp_farthest h 
  zC.to (zc_C_farthest l G a c Z.1 rfl) (by rw [Z.2.1]) (fun _ => ⟨⟨zS_farthest c, Z.2.2⟩, rfl⟩)
theorem q_amountsToHave (l : Launch) (G : zG) (a : Nat → Nat) {V X : Nat → Nat} {C : zCs} {c : zS} {t : zU} (h : zR V X C c t) : zC l G yX3_amountsToHave wsX3_amountsToHave rm_X3_amountsToHave 0 0 [.ref (a 0)] (zCW3 G a c) (some (.int (zAmn (zgA V (zBFS V (zst X))) 11 0 0))) (zAf G a V X C t) :=
  have Z := zp_amountsToHave h 
  zC.to (zc_C_amountsToHave l G a c Z.1 rfl) (by rw [Z.2.1]) (fun _ => ⟨⟨zS_amountsToHave c, Z.2.2⟩, rfl⟩)
theorem q_nextAct (l : Launch) (G : zG) (a : Nat → Nat) {V X : Nat → Nat} {C : zCs} {c : zS} {t : zU} (h : zR V X C c t) {v : Nat} (hv : v ≤ 9) {e : Nat × Nat × Nat} (he : zF V X v = some e) (h0 : 0 < e.2.1) : zC l G yX3_nextAct wsX3_nextAct rm_X3_nextAct 0 0 [.ref (a 0), .int (nI v)] (zCW3 G a c) (some (.int (nI e.2.2))) (zAf G a V X C t) :=
  have Z := zp_nextAct h hv he h0
  zC.to (zc_C_nextAct l G a c (nI v) Z.1 Z.2.1) (by rw [Z.2.2.1]) (fun _ => ⟨⟨zS_nextAct c (nI v), Z.2.2.2⟩, rfl⟩)
theorem q_meanAmount (l : Launch) (G : zG) (a : Nat → Nat) {V X : Nat → Nat} {C : zCs} {c : zS} {t : zU} (h : zR V X C c t) : zC l G yX3_meanAmount wsX3_meanAmount rm_X3_meanAmount 0 0 [.ref (a 0)] (zCW3 G a c) (some (.double (zMean (zn V) (X 0 + X 1 + X 2)))) (zAf G a V X C t) :=
  have Z := zp_meanAmount h 
  zC.to (zc_C_meanAmount l G a c Z.1 rfl) (by rw [Z.2.1]) (fun _ => ⟨⟨zS_meanAmount c, Z.2.2.2⟩, rfl⟩)
theorem q_digest (l : Launch) (G : zG) (a : Nat → Nat) {V X : Nat → Nat} {C : zCs} {c : zS} {t : zU} (h : zR V X C c t) : zC l G yX3_digest wsX3_digest rm_X3_digest 0 0 [.ref (a 0)] (zCW3 G a c) (some (.long (zDig V X C t))) (zAf G a V X C t) :=
  have Z := zp_digest h 
  zC.to (zc_C_digest l G a c Z.1 rfl) (by rw [Z.2.1]) (fun _ => ⟨⟨zS_digest c, Z.2.2⟩, rfl⟩)
theorem q_layOut (l : Launch) (G : zG) (a : Nat → Nat) (c : zS) {v0 v1 v2 : Nat} (h0 : 1 ≤ v0 ∧ v0 ≤ 9) (h1 : 1 ≤ v1 ∧ v1 ≤ 9) (h2 : v2 ≤ 9) : zC l G yX3_layOut wsX3_layOut rm_X3_layOut 0 0 [.ref (a 0), .int (nI v0), .int (nI v1), .int (nI v2)] (zCW3 G a c) (some (.int (nI (zn (zV3 v0 v1 v2))))) (zAf G a (zV3 v0 v1 v2) (fun _ => 0) (zC0 (zn (zV3 v0 v1 v2))) (0, 0, 0, 0, 0, 0)) :=
  have Z := zp_layOut h0 h1 h2 c
  zC.to (zc_C_layOut l G a c (nI v0) (nI v1) (nI v2) trivial Z.1) (by rw [Z.2.1]) (fun _ => ⟨⟨zS_layOut c (nI v0) (nI v1) (nI v2), Z.2.2⟩, rfl⟩)
theorem q_follow1 (l : Launch) (G : zG) (a : Nat → Nat) {V X : Nat → Nat} {C : zCs} {c : zS} {t : zU} (h : zR V X C c t) {v : Nat} (hv : v ≤ 9) {e : Nat × Nat × Nat} (he : zF V X v = some e) (h0 : 0 < e.2.1) : zC l G yX3_follow wsX3_follow rm_X3_follow 0 0 [.ref (a 0), .int (nI v), .int (nI 1)] (zCW3 G a c) (some (.int (nI 1))) (zAf G a V (zmv V X e.2.2) (zNew V X e.2.2 C) (zUact V X e.2.2 t)) :=
  have Z := zp_follow1 h hv he h0
  zC.to (zc_C_follow l G a c (nI v) (nI 1) Z.1 Z.2.1) (by rw [Z.2.2.1]) (fun _ => ⟨⟨zS_follow c (nI v) (nI 1), Z.2.2.2⟩, rfl⟩)
theorem q_follow0 (l : Launch) (G : zG) (a : Nat → Nat) {V X : Nat → Nat} {C : zCs} {c : zS} {t : zU} (h : zR V X C c t) {v : Nat} (hv : v ≤ 9) {e : Nat × Nat × Nat} (he : zF V X v = some e) (h0 : e.2.1 = 0) : zC l G yX3_follow wsX3_follow rm_X3_follow 0 0 [.ref (a 0), .int (nI v), .int (nI 50)] (zCW3 G a c) (some (.int (nI 0))) (zAf G a V X C t) :=
  have Z := zp_follow0 h hv he h0
  zC.to (zc_C_follow l G a c (nI v) (nI 50) Z.1 Z.2.1) (by rw [Z.2.2.1]) (fun _ => ⟨⟨zS_follow c (nI v) (nI 50), Z.2.2.2⟩, rfl⟩)
theorem q_guess (l : Launch) (G : zG) (a : Nat → Nat) {V X : Nat → Nat} {C : zCs} {c : zS} {t : zU} (h : zR V X C c t) {j v : Nat} (hj : j < zn V) (v1 : 1 ≤ v) (hv : v ≤ 9) (hM : zMay (zn V) C j v = true) : zC l G yX3_guess wsX3_guess rm_X3_guess 0 0 [.ref (a 0), .int (nI j), .int (nI v)] (zCW3 G a c) (some (.int (zb01 (decide (V j = v))))) (zAf G a V X (zUp C (zgLearn (zn V) j v (decide (V j = v)))) (zUgs (decide (V j = v)) t)) :=
  have Z := zp_guess h hj v1 hv
  zC.to (zc_C_guess l G a c (nI j) (nI v) Z.1 (Z.2.2 hM).1) (by rw [(Z.2.2 hM).2.1]) (fun _ => ⟨⟨zS_guess c (nI j) (nI v), (Z.2.2 hM).2.2⟩, rfl⟩)
theorem qx_guess (l : Launch) (G : zG) (a : Nat → Nat) (hst : l.stackTraces = false) {V X : Nat → Nat} {C : zCs} {c : zS} {t : zU} (h : zR V X C c t) {j v : Nat} (hj : j < zn V) (v1 : 1 ≤ v) (hv : v ≤ 9) (hM : zMay (zn V) C j v = false) : zX l G yX3_guess wsX3_guess rx_X3_guess 1 6 [.ref (a 0), .int (nI j), .int (nI v)] (zCW3 G a c) "java/lang/IllegalStateException" (zCW3 G a (zS_guess c (nI j) (nI v))) :=
  zx_C_guess l G a c (nI j) (nI v) (zp_guess h hj v1 hv).1 hst ((zp_guess h hj v1 hv).2.1 hM).1
