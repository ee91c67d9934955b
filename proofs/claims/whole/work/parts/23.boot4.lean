theorem cM1 : ∀ (d i : Nat) {G : Gt} {o f : Nat} {I : It}, d + i = 96 → 1 ≤ G.1 → kd G o = 7 → rf G o 0 = some f → kd G f = 50 → ln G f = 127 → ∃ I', E 120 177 [some (.ref o), some (.int (nI i))] [] G I = some (none, G, I') ∧ (∀ a, a ≠ f → I' a = I a) ∧ (∀ j, I' f j = if 21 + i ≤ j ∧ j < 117 then -6 else I f j) := by
  intro d
  induction d with
  | zero =>
    intro i G o f I hd hG ho hr hk hl
    have hi : i = 96 := by omega
    subst hi
    refine ⟨I, ?_, fun _ _ => rfl, fun j => ?_⟩
    · rw [C120_177 hG ho hr hk hl, if_pos (by decide)]
    · rw [if_neg (by omega)]
  | succ d ih =>
    intro i G o f I hd hG ho hr hk hl
    obtain ⟨I', e, h1, h2⟩ := ih (i + 1) (I := uI I f (21 + i) (-6)) (by omega) hG ho hr hk hl
    refine ⟨I', ?_, fun a ha => (h1 a ha).trans (uI_o _ _ _ _ _ ha), fun j => ?_⟩
    · have hnot : ¬ (96 : Int32) ≤ nI i := by rw [show (96 : Int32) = nI 96 from rfl, nI_leI (by omega) (by omega)]; omega
      rw [C120_177 hG ho hr hk hl, if_neg hnot, show (21 : Int32) = nI 21 from rfl, nI_add, ck_of (inb_nI (by omega) (by decide)), ix_nI (by omega), nI_1, e]
    · rw [h2 j, uI_self]
      unfold upd
      by_cases h3 : j = 21 + i
      · rw [if_neg (by omega), if_pos h3, if_pos (by omega)]
      · by_cases h4 : 21 + (i + 1) ≤ j ∧ j < 117
        · rw [if_pos h4, if_pos (by omega)]
        · rw [if_neg h4, if_neg h3, if_neg (by omega)]
def zi (n k : Nat) (I : It) : It := fun a j => if n ≤ a ∧ a < n + k then 0 else I a j
theorem zi_0 (n : Nat) (I : It) : I = zi n 0 I := by funext a j; unfold zi; rw [if_neg (by omega)]
theorem zi_s {n k : Nat} {G : Gt} {I : It} (h : G.1 = n + k) : nI0 G (zi n k I) = zi n (k + 1) I := by
  funext a j
  unfold nI0 zi
  rw [h]
  by_cases h1 : a = n + k
  · rw [if_pos h1, if_pos (by omega)]
  · rw [if_neg h1]
    by_cases h2 : n ≤ a ∧ a < n + k
    · rw [if_pos h2, if_pos (by omega)]
    · rw [if_neg h2, if_neg (by omega)]
theorem un_n {G : Gt} {k n o s r m : Nat} (h : G.1 = m) : (uG (nG G k n) o s r).1 = m + 1 := congrArg (· + 1) h
def opM (o n : Nat) : List Op4 := [(0, 50, 127, 0), (1, o, 0, n), (0, 50, 127, 0), (1, o, 1, n + 1), (0, 50, 254, 0), (1, o, 2, n + 2), (0, 51, 2, 0), (1, o, 3, n + 3), (0, 50, 80, 0), (1, o, 4, n + 4), (0, 51, 60, 0), (1, o, 7, n + 5), (0, 50, 60, 0), (1, o, 8, n + 6), (0, 50, 60, 0), (1, o, 9, n + 7), (0, 50, 60, 0), (1, o, 10, n + 8), (0, 50, 6, 0), (1, o, 11, n + 9), (0, 50, 168, 0), (1, o, 12, n + 10), (0, 50, 168, 0), (1, o, 13, n + 11), (0, 50, 168, 0), (1, o, 14, n + 12), (0, 50, 168, 0), (1, o, 15, n + 13), (0, 50, 10, 0), (1, o, 20, n + 14), (0, 50, 10, 0), (1, o, 21, n + 15)]
/-- the model's constructor, up to its loop -/
theorem cM0 {G : Gt} {o : Nat} {I : It} (hG : 1 ≤ G.1) (ho : kd G o = 7) : E 120 0 [some (.ref o), none] [] G I = E 120 177 [some (.ref o), some (.int 0)] [] ((opM o G.1).foldl apG G) (uI (uI (uI (uI (uI (zi G.1 16 I) G.1 0 1) G.1 1 (-6)) G.1 2 (-6)) G.1 3 (-6)) G.1 4 (-6)) := by
  rw [C120_0 hG ho]
  obtain ⟨n, hn⟩ : ∃ n, G.1 = n := ⟨_, rfl⟩
  rw [hn]
  clear hG ho
  have hz : nI0 G I = zi n 1 I := by
    have := zi_s (n := n) (k := 0) (G := G) (I := I) hn
    rw [← zi_0] at this
    exact this
  rw [hz]
  obtain ⟨G1, hG1⟩ : ∃ G', uG (nG G 50 127) o 0 n = G' := ⟨_, rfl⟩
  have hn1 : G1.1 = n + 1 := by rw [← hG1]; exact un_n hn
  rw [hG1, zi_s hn1]
  obtain ⟨G2, hG2⟩ : ∃ G', uG (nG G1 50 127) o 1 (n + 1) = G' := ⟨_, rfl⟩
  have hn2 : G2.1 = n + 2 := by rw [← hG2]; exact un_n hn1
  rw [hG2, zi_s hn2]
  obtain ⟨G3, hG3⟩ : ∃ G', uG (nG G2 50 254) o 2 (n + 2) = G' := ⟨_, rfl⟩
  have hn3 : G3.1 = n + 3 := by rw [← hG3]; exact un_n hn2
  rw [hG3, zi_s hn3]
  obtain ⟨G4, hG4⟩ : ∃ G', uG (nG G3 51 2) o 3 (n + 3) = G' := ⟨_, rfl⟩
  have hn4 : G4.1 = n + 4 := by rw [← hG4]; exact un_n hn3
  rw [hG4, zi_s hn4]
  obtain ⟨G5, hG5⟩ : ∃ G', uG (nG G4 50 80) o 4 (n + 4) = G' := ⟨_, rfl⟩
  have hn5 : G5.1 = n + 5 := by rw [← hG5]; exact un_n hn4
  rw [hG5, zi_s hn5]
  obtain ⟨G6, hG6⟩ : ∃ G', uG (nG G5 51 60) o 7 (n + 5) = G' := ⟨_, rfl⟩
  have hn6 : G6.1 = n + 6 := by rw [← hG6]; exact un_n hn5
  rw [hG6, zi_s hn6]
  obtain ⟨G7, hG7⟩ : ∃ G', uG (nG G6 50 60) o 8 (n + 6) = G' := ⟨_, rfl⟩
  have hn7 : G7.1 = n + 7 := by rw [← hG7]; exact un_n hn6
  rw [hG7, zi_s hn7]
  obtain ⟨G8, hG8⟩ : ∃ G', uG (nG G7 50 60) o 9 (n + 7) = G' := ⟨_, rfl⟩
  have hn8 : G8.1 = n + 8 := by rw [← hG8]; exact un_n hn7
  rw [hG8, zi_s hn8]
  obtain ⟨G9, hG9⟩ : ∃ G', uG (nG G8 50 60) o 10 (n + 8) = G' := ⟨_, rfl⟩
  have hn9 : G9.1 = n + 9 := by rw [← hG9]; exact un_n hn8
  rw [hG9, zi_s hn9]
  obtain ⟨G10, hG10⟩ : ∃ G', uG (nG G9 50 6) o 11 (n + 9) = G' := ⟨_, rfl⟩
  have hn10 : G10.1 = n + 10 := by rw [← hG10]; exact un_n hn9
  rw [hG10, zi_s hn10]
  obtain ⟨G11, hG11⟩ : ∃ G', uG (nG G10 50 168) o 12 (n + 10) = G' := ⟨_, rfl⟩
  have hn11 : G11.1 = n + 11 := by rw [← hG11]; exact un_n hn10
  rw [hG11, zi_s hn11]
  obtain ⟨G12, hG12⟩ : ∃ G', uG (nG G11 50 168) o 13 (n + 11) = G' := ⟨_, rfl⟩
  have hn12 : G12.1 = n + 12 := by rw [← hG12]; exact un_n hn11
  rw [hG12, zi_s hn12]
  obtain ⟨G13, hG13⟩ : ∃ G', uG (nG G12 50 168) o 14 (n + 12) = G' := ⟨_, rfl⟩
  have hn13 : G13.1 = n + 13 := by rw [← hG13]; exact un_n hn12
  rw [hG13, zi_s hn13]
  obtain ⟨G14, hG14⟩ : ∃ G', uG (nG G13 50 168) o 15 (n + 13) = G' := ⟨_, rfl⟩
  have hn14 : G14.1 = n + 14 := by rw [← hG14]; exact un_n hn13
  rw [hG14, zi_s hn14]
  obtain ⟨G15, hG15⟩ : ∃ G', uG (nG G14 50 10) o 20 (n + 14) = G' := ⟨_, rfl⟩
  have hn15 : G15.1 = n + 15 := by rw [← hG15]; exact un_n hn14
  rw [hG15, zi_s hn15]
  obtain ⟨G16, hG16⟩ : ∃ G', uG (nG G15 50 10) o 21 (n + 15) = G' := ⟨_, rfl⟩
  have hn16 : G16.1 = n + 16 := by rw [← hG16]; exact un_n hn15
  rw [hG16]
  rw [← hG16, ← hG15, ← hG14, ← hG13, ← hG12, ← hG11, ← hG10, ← hG9, ← hG8, ← hG7, ← hG6, ← hG5, ← hG4, ← hG3, ← hG2, ← hG1]
  rfl
