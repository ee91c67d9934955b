def opD (n d y : Nat) : List Op4 := [(0, 4, 3, 0)] ++ (opP (n + 1) n ++ ([(1, d, 1, n), (0, 4, 3, 0)] ++ (opP (n + 3) (n + 2) ++ [(1, d, 2, n + 2), (0, 50, 10, 0), (1, d, 10, n + 4), (0, 50, 10, 0), (1, d, 11, n + 5), (0, 50, 10, 0), (1, d, 12, n + 6), (0, 50, 10, 0), (1, d, 13, n + 7), (1, d, 0, y)])))
theorem cD {G : Gt} {d y : Nat} {I : It} (hG : 1 ≤ G.1) (hd : kd G d = 0) (hy : kd G y = 2) : ∃ I', E 0 0 [some (.ref d), some (.ref y)] [] G I = some (none, (opD G.1 d y).foldl apG G, I') ∧ (∀ a, a < G.1 → a ≠ d → I' a = I a) ∧
    (I' d = uI (uI (uI (uI (uI (uI I d 3 1) d 4 (-6)) d 5 (-6)) d 6 (-6)) d 7 (-6)) d 8 48 d) ∧ (∀ j, j < 48 → I' (G.1 + 1) j = -6 ∧ I' (G.1 + 3) j = -6) ∧ (∀ j, I' G.1 j = 0 ∧ I' (G.1 + 2) j = 0) ∧ (∀ a j, G.1 + 4 ≤ a → a < G.1 + 8 → I' a j = 0) := by
  have hdl := kd_lt (by decide) hd
  have hp1 : kd (nG G 4 3) G.1 = 4 := kd_new hG
  obtain ⟨I1, e1, i1, i2⟩ := cP (I := nI0 G I) (show 1 ≤ (nG G 4 3).1 from le_nG hG) hp1
  have hn1 : (nG G 4 3).1 = G.1 + 1 := rfl
  rw [hn1] at e1 i1 i2
  obtain ⟨G2, hG2⟩ : ∃ G2, (opP (G.1 + 1) G.1).foldl apG (nG G 4 3) = G2 := ⟨_, rfl⟩
  have hn2 : G2.1 = G.1 + 2 := by
    rw [← hG2, n_fold _ _ (k := 1) rfl]
    show G.1 + 1 + 1 = _
    omega
  have kf : ∀ {o c : Nat}, c < 60 → kd G o = c → kd G2 o = c := fun hc h => by rw [← hG2]; exact kd_fold _ hc (kd_nG hc h)
  have hp2 : kd G2 G.1 = 4 := by rw [← hG2]; exact kd_fold _ (by decide) hp1
  rw [hG2] at e1
  have hp3 : kd (nG (uG G2 d 1 G.1) 4 3) G2.1 = 4 := kd_new (G := uG G2 d 1 G.1) (show 1 ≤ G2.1 by omega)
  obtain ⟨I3, e3, j1, j2⟩ := cP (G := nG (uG G2 d 1 G.1) 4 3) (I := nI0 (uG G2 d 1 G.1) I1) (show 1 ≤ G2.1 + 1 by omega) hp3
  have hn3 : (nG (uG G2 d 1 G.1) 4 3).1 = G.1 + 3 := by show G2.1 + 1 = _; omega
  rw [hn3] at e3 j1 j2
  obtain ⟨G4, hG4⟩ : ∃ G4, (opP (G.1 + 3) G2.1).foldl apG (nG (uG G2 d 1 G.1) 4 3) = G4 := ⟨_, rfl⟩
  have hn4 : G4.1 = G.1 + 4 := by
    rw [← hG4, n_fold _ _ (k := 1) rfl]
    show G2.1 + 1 + 1 = _
    omega
  have kf4 : ∀ {o c : Nat}, c < 60 → kd G2 o = c → kd G4 o = c := fun hc h => by rw [← hG4]; exact kd_fold _ hc (kd_nG hc (kd_uG h))
  have hp4 : kd G4 G2.1 = 4 := by rw [← hG4]; exact kd_fold _ (by decide) hp3
  rw [hG4] at e3
  have e4 := C0_23 (I := I3) (show 1 ≤ G4.1 by omega) (kf4 (by decide) (kf (by decide) hd)) (kf4 (by decide) (kf (by decide) hy)) hp4
  rw [C0_0 hG hd hy, e1, K2_v, C0_12 (show 1 ≤ G2.1 by omega) (kf (by decide) hd) (kf (by decide) hy) hp2, e3, K2_v, e4]
  obtain ⟨J, hJ⟩ : ∃ J : It, (nI0 (uG (nG (uG (nG (uG (nG (uG G4 d 2 G2.1) 50 10) d 10 G4.1) 50 10) d 11 (G4.1 + 1)) 50 10) d 12 (G4.1 + 2)) (nI0 (uG (nG (uG (nG (uG G4 d 2 G2.1) 50 10) d 10 G4.1) 50 10) d 11 (G4.1 + 1)) (nI0 (uG (nG (uG G4 d 2 G2.1) 50 10) d 10 G4.1) (nI0 (uG G4 d 2 G2.1) (uI (uI (uI (uI (uI (uI I3 d 3 1) d 4 (-6)) d 5 (-6)) d 6 (-6)) d 7 (-6)) d 8 48))))) = J := ⟨_, rfl⟩
  rw [hJ]
  have low : ∀ a, a ≠ d → a < G.1 + 4 → J a = I3 a := by
    intro a ha h4
    rw [← hJ]
    funext j
    show (if a = G4.1 + 3 then (0 : Int32) else if a = G4.1 + 2 then 0 else if a = G4.1 + 1 then 0 else if a = G4.1 then 0 else (uI (uI (uI (uI (uI (uI I3 d 3 1) d 4 (-6)) d 5 (-6)) d 6 (-6)) d 7 (-6)) d 8 48) a j) = _
    rw [if_neg (by omega), if_neg (by omega), if_neg (by omega), if_neg (by omega), uI_o _ _ _ _ _ ha, uI_o _ _ _ _ _ ha, uI_o _ _ _ _ _ ha, uI_o _ _ _ _ _ ha, uI_o _ _ _ _ _ ha, uI_o _ _ _ _ _ ha]
  have hI3d : I3 d = I d := by
    rw [j1 d (by omega), nI0_o _ _ _ (by show d ≠ G2.1; omega), i1 d (by omega), nI0_o _ _ _ (by omega)]
  refine ⟨J, ?_, fun a h ha => ?_, ?_, fun j hj => ⟨?_, ?_⟩, fun j => ⟨?_, ?_⟩, fun a j h1 h2 => ?_⟩
  · unfold opD
    simp only [List.foldl_append]
    have a1 : ([(0, 4, 3, 0)] : List Op4).foldl apG G = nG G 4 3 := rfl
    rw [a1, hG2]
    have a2 : ([(1, d, 1, G.1), (0, 4, 3, 0)] : List Op4).foldl apG G2 = nG (uG G2 d 1 G.1) 4 3 := rfl
    rw [a2, ← hn2, show G.1 + 3 = G.1 + 3 from rfl, hG4]
    have g4 : G.1 + 4 = G4.1 := by omega
    have g5 : G.1 + 5 = G4.1 + 1 := by omega
    have g6 : G.1 + 6 = G4.1 + 2 := by omega
    have g7 : G.1 + 7 = G4.1 + 3 := by omega
    rw [g4, g5, g6, g7]
    rfl
  · rw [low a ha (by omega), j1 a (by omega), nI0_o _ _ _ (by show a ≠ G2.1; omega), i1 a (by omega), nI0_o _ _ _ (by omega)]
  · funext j
    rw [← hJ]
    show (if d = G4.1 + 3 then (0 : Int32) else if d = G4.1 + 2 then 0 else if d = G4.1 + 1 then 0 else if d = G4.1 then 0 else (uI (uI (uI (uI (uI (uI I3 d 3 1) d 4 (-6)) d 5 (-6)) d 6 (-6)) d 7 (-6)) d 8 48) d j) = _
    rw [if_neg (by omega), if_neg (by omega), if_neg (by omega), if_neg (by omega)]
    simp only [uI, hI3d, if_true]
  · rw [low _ (by omega) (by omega), j1 _ (by omega), nI0_o _ _ _ (by show _ ≠ G2.1; omega)]
    exact i2 j hj
  · rw [low _ (by omega) (by omega)]
    exact j2 j hj
  · rw [low _ (by omega) (by omega), j1 _ (by omega), nI0_o _ _ _ (by show _ ≠ G2.1; omega), i1 _ (by omega), nI0_new]
  · rw [low _ (by omega) (by omega), j1 _ (by omega), show G.1 + 2 = (uG G2 d 1 G.1).1 from hn2.symm, nI0_new]
  · rw [← hJ]
    show (if a = G4.1 + 3 then (0 : Int32) else if a = G4.1 + 2 then 0 else if a = G4.1 + 1 then 0 else if a = G4.1 then 0 else (uI (uI (uI (uI (uI (uI I3 d 3 1) d 4 (-6)) d 5 (-6)) d 6 (-6)) d 7 (-6)) d 8 48) a j) = 0
    by_cases q3 : a = G4.1 + 3
    · rw [if_pos q3]
    rw [if_neg q3]
    by_cases q2 : a = G4.1 + 2
    · rw [if_pos q2]
    rw [if_neg q2]
    by_cases q1 : a = G4.1 + 1
    · rw [if_pos q1]
    rw [if_neg q1, if_pos (by omega)]
def opPad (n p : Nat) : List Op4 := [(0, 52, 80, 0), (1, p, 0, n), (0, 5, 5, 0)] ++ (opS (n + 2) (n + 1) ++ [(1, p, 1, n + 1)])
theorem cPad {G : Gt} {p : Nat} {I : It} (hG : 1 ≤ G.1) (hp : kd G p = 3) : ∃ I', E 49 0 [some (.ref p)] [] G I = some (none, (opPad G.1 p).foldl apG G, I') ∧ (∀ a, a < G.1 → I' a = I a) ∧ (∀ a j, G.1 ≤ a → a < G.1 + 6 → I' a j = 0) := by
  have hpl := kd_lt (by decide) hp
  obtain ⟨G1, hG1⟩ : ∃ G1, uG (nG G 52 80) p 0 G.1 = G1 := ⟨_, rfl⟩
  have hn1 : G1.1 = G.1 + 1 := by rw [← hG1]; rfl
  have hk1 : kd G1 p = 3 := by rw [← hG1]; exact kd_uG (kd_nG (by decide) hp)
  have hk2 : kd (nG G1 5 5) (G.1 + 1) = 5 := by rw [← hn1]; exact kd_new (by omega)
  have hn2 : (nG G1 5 5).1 = G.1 + 2 := by show G1.1 + 1 = _; omega
  obtain ⟨I1, hI1⟩ : ∃ I1, nI0 G1 (nI0 G I) = I1 := ⟨_, rfl⟩
  obtain ⟨I2, e2, j1, j2⟩ := cS (I := I1) (show 1 ≤ (nG G1 5 5).1 by omega) hk2
  rw [hn2] at e2 j1 j2
  have e := C49_0 (I := I) hG hp
  rw [hG1, hI1, e2, K2_v, C49_20 (by rw [n_fold _ _ (k := 4) rfl]; omega) (kd_fold _ (by decide) (kd_nG (by decide) hk1)) (kd_fold _ (by decide) hk2)] at e
  refine ⟨I2, ?_, fun a h => ?_, fun a j h1 h2 => ?_⟩
  · rw [e]
    unfold opPad
    rw [List.foldl_append, List.foldl_append, ← hG1]
    rfl
  · rw [j1 a (by omega), ← hI1, nI0_o _ _ _ (by omega), nI0_o _ _ _ (by omega)]
  · by_cases h3 : a < G.1 + 2
    · rw [j1 a (by omega), ← hI1]
      by_cases h4 : a = G.1 + 1
      · rw [h4, ← hn1, nI0_new]
      · rw [nI0_o _ _ _ (by omega), show a = G.1 by omega, nI0_new]
    · exact j2 a j (by omega) (by omega)
def opV (m r i : Nat) : List Op4 := [(0, 1, 5, 0)] ++ (opL (m + 1) m ++ [(1, r, i, m)])
theorem stepV {G : Gt} {y r i : Nat} {I : It} (hG : 1 ≤ G.1) (hy : kd G y = 2) (hr : rf G y 1 = some r) (hk : kd G r = 53) (hl : ln G r = 6) (hi : i < 6) : ∃ I', E 43 26 [some (.ref y), some (.int (nI i))] [] G I = E 43 26 [some (.ref y), some (.int (nI (i + 1)))] [] ((opV G.1 r i).foldl apG G) I' ∧ (∀ a, a < G.1 → I' a = I a) ∧ (∀ a j, G.1 ≤ a → a < G.1 + 10 → I' a j = 0) := by
  have hyl := kd_lt (by decide) hy
  have hrl := kd_lt (by decide) hk
  obtain ⟨I2, e2, j1, j2⟩ := cLb (G := nG G 1 5) (I := nI0 G I) (le_nG hG) (kd_new hG)
  have hn1 : (nG G 1 5).1 = G.1 + 1 := rfl
  rw [hn1] at e2 j1 j2
  have hnot : ¬ (6 : Int32) ≤ nI i := by rw [show (6 : Int32) = nI 6 from rfl, nI_leI (by omega) (by omega)]; omega
  have e := C43_26 (x1 := nI i) (I := I) hG hy hr hk hl
  rw [if_neg hnot, e2, K2_v, C43_44 (by rw [n_fold _ _ (k := 9) rfl]; omega) (kd_fold _ (by decide) (kd_nG (by decide) hy)) (kd_fold _ (by decide) (kd_nG (by decide) hk)) (ln_fold _ (by decide) (kd_nG (by decide) hk) (ln_nG (by decide) hk hl)) (kd_fold _ (by decide) (kd_new hG)), ck_of (inb_nI hi (by decide)), ix_nI (by omega), nI_1] at e
  refine ⟨I2, ?_, fun a h => ?_, fun a j h1 h2 => ?_⟩
  · rw [e]
    unfold opV
    rw [List.foldl_append, List.foldl_append]
    rfl
  · rw [j1 a (by omega), nI0_o _ _ _ (by omega)]
  · by_cases h3 : a = G.1
    · rw [h3, j1 _ (by omega), nI0_new]
    · exact j2 a j (by omega) (by omega)
def opI (m r i y : Nat) : List Op4 := [(0, 0, 14, 0)] ++ (opD (m + 1) m y ++ [(1, r, i, m)])
/-- a new device, as its fields stand -/
def dv0 (I : It) (d : Nat) : Prop := I d 3 = 1 ∧ I d 4 = -6 ∧ I d 5 = -6 ∧ I d 6 = -6 ∧ I d 7 = -6 ∧ I d 8 = 48 ∧ I d 9 = 0 ∧ (∀ j, j < 48 → I (d + 2) j = -6 ∧ I (d + 4) j = -6) ∧ (∀ j, I (d + 1) j = 0 ∧ I (d + 3) j = 0) ∧ ∀ a j, d + 5 ≤ a → a < d + 9 → I a j = 0
theorem dv0_kept {I I' : It} {d : Nat} (h : dv0 I d) (hk : ∀ a, d ≤ a → a < d + 9 → I' a = I a) : dv0 I' d := by
  obtain ⟨h3, h4, h5, h6, h7, h8, h9, hc, hp, hv⟩ := h
  refine ⟨?_, ?_, ?_, ?_, ?_, ?_, ?_, fun j hj => ?_, fun j => ?_, fun a j h1 h2 => ?_⟩
  · rw [hk d (by omega) (by omega)]; exact h3
  · rw [hk d (by omega) (by omega)]; exact h4
  · rw [hk d (by omega) (by omega)]; exact h5
  · rw [hk d (by omega) (by omega)]; exact h6
  · rw [hk d (by omega) (by omega)]; exact h7
  · rw [hk d (by omega) (by omega)]; exact h8
  · rw [hk d (by omega) (by omega)]; exact h9
  · rw [hk (d + 2) (by omega) (by omega), hk (d + 4) (by omega) (by omega)]; exact hc j hj
  · rw [hk (d + 1) (by omega) (by omega), hk (d + 3) (by omega) (by omega)]; exact hp j
  · rw [hk a (by omega) (by omega)]; exact hv a j h1 h2
/-- a device made anew: new, and its constructor -/
theorem newD {G : Gt} {y : Nat} {I : It} (hG : 1 ≤ G.1) (hy : kd G y = 2) : ∃ I', E 0 0 [some (.ref G.1), some (.ref y)] [] (nG G 0 14) (nI0 G I) = some (none, (opD (G.1 + 1) G.1 y).foldl apG (nG G 0 14), I') ∧ (∀ a, a < G.1 → I' a = I a) ∧ dv0 I' G.1 := by
  obtain ⟨I2, e2, j1, j2, j3, j4, j5⟩ := cD (G := nG G 0 14) (I := nI0 G I) (le_nG hG) (kd_new hG) (kd_nG (by decide) hy)
  have hn1 : (nG G 0 14).1 = G.1 + 1 := rfl
  rw [hn1] at e2 j1 j3 j4 j5
  refine ⟨I2, e2, fun a h => ?_, ?_, ?_, ?_, ?_, ?_, ?_, ?_, j3, j4, j5⟩
  · rw [j1 a (by omega) (by omega), nI0_o _ _ _ (by omega)]
  all_goals
    rw [j2]
    simp [uI, nI0]
theorem stepI {G : Gt} {x r y i : Nat} {I : It} (hG : 1 ≤ G.1) (hx : kd G x = 6) (hr : rf G x 4 = some r) (hk : kd G r = 54) (hl : ln G r = 2) (hry : rf G x 1 = some y) (hky : kd G y = 2) (hly : ln G y = 3) (hi : i < 2) : ∃ I', E 93 66 [some (.ref x), some (.int (nI i))] [] G I = E 93 66 [some (.ref x), some (.int (nI (i + 1)))] [] ((opI G.1 r i y).foldl apG G) I' ∧ (∀ a, a < G.1 → I' a = I a) ∧ dv0 I' G.1 := by
  obtain ⟨I2, e2, j1, j2⟩ := newD (I := I) hG hky
  have hnot : ¬ (2 : Int32) ≤ nI i := by rw [show (2 : Int32) = nI 2 from rfl, nI_leI (by omega) (by omega)]; omega
  have e := C93_66 (x1 := nI i) (I := I) hG hx hr hk hl hry hky hly
  rw [if_neg hnot, e2, K2_v, C93_87 (by rw [n_fold _ _ (k := 8) rfl]; show 1 ≤ G.1 + 1 + 8; omega) (kd_fold _ (by decide) (kd_nG (by decide) hx)) (kd_fold _ (by decide) (kd_nG (by decide) hk)) (ln_fold _ (by decide) (kd_nG (by decide) hk) (ln_nG (by decide) hk hl)) (kd_fold _ (by decide) (kd_new hG)), ck_of (inb_nI hi (by decide)), ix_nI (by omega), nI_1] at e
  refine ⟨I2, ?_, j1, j2⟩
  rw [e]
  unfold opI
  rw [List.foldl_append, List.foldl_append]
  rfl
