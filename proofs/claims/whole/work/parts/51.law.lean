theorem LC_0 {L n j : Nat} {I : It} (hL : L < 2 ^ 30) (hj : j + 5 ≤ L) (hr : RR n I I) : ∃ I2 n', RR n' I2 I2 ∧ I2 0 = I 0 ∧ E 183 132 [some (.ref 0), some (.ref 1), some (.ref 119), some (.int (nI j))] [] (GG L) I = E 183 18 [some (.ref 0), some (.ref 1), some (.ref 119), some (.int (nI (j + 5)))] [] (GG L) I2 := by
  obtain ⟨I1, I2, n', r, e1, e2, h3, h4, h5⟩ := Sm_use (L := L) (M_define) hr
  refine ⟨I2, n', h3, h5, ?_⟩
  rw [B183_132, e1, K2_i, B183_136, e2, K2_i, B183_140, if_pos rfl, B183_705, show nI j + 5 = nI (j + 5) from nI_add j 5]
theorem LC_1 {L n j : Nat} {I : It} (hL : L < 2 ^ 30) (hj : j + 5 ≤ L) (hr : RR n I I) : ∃ I2 n', RR n' I2 I2 ∧ I2 0 = I 0 ∧ E 183 145 [some (.ref 0), some (.ref 1), some (.ref 119), some (.int (nI j))] [] (GG L) I = E 183 18 [some (.ref 0), some (.ref 1), some (.ref 119), some (.int (nI (j + 5)))] [] (GG L) I2 := by
  obtain ⟨I1, I2, n', r, e1, e2, h3, h4, h5⟩ := Sm_use (L := L) (M_layout (I 0 (j + 1)) (I 0 (j + 2)) (I 0 (j + 3))) hr
  refine ⟨I2, n', h3, h5, ?_⟩
  rw [B183_145, show nI j + 1 = nI (j + 1) from nI_add j 1, show nI j + 2 = nI (j + 2) from nI_add j 2, show nI j + 3 = nI (j + 3) from nI_add j 3, ck_of (inb_nI (by omega) (by omega)), ck_of (inb_nI (by omega) (by omega)), ck_of (inb_nI (by omega) (by omega)), ix_nI (by omega), ix_nI (by omega), ix_nI (by omega), e1, K2_i, B183_164, show nI j + 1 = nI (j + 1) from nI_add j 1, show nI j + 2 = nI (j + 2) from nI_add j 2, show nI j + 3 = nI (j + 3) from nI_add j 3, ck_of (inb_nI (by omega) (by omega)), ck_of (inb_nI (by omega) (by omega)), ck_of (inb_nI (by omega) (by omega)), ix_nI (by omega), ix_nI (by omega), ix_nI (by omega), h4, e2, K2_i, B183_183, if_pos rfl, B183_705, show nI j + 5 = nI (j + 5) from nI_add j 5]
theorem LC_2 {L n j : Nat} {I : It} (hL : L < 2 ^ 30) (hj : j + 5 ≤ L) (hr : RR n I I) : ∃ I2 n', RR n' I2 I2 ∧ I2 0 = I 0 ∧ E 183 188 [some (.ref 0), some (.ref 1), some (.ref 119), some (.int (nI j))] [] (GG L) I = E 183 18 [some (.ref 0), some (.ref 1), some (.ref 119), some (.int (nI (j + 5)))] [] (GG L) I2 := by
  obtain ⟨I1, I2, n', r, e1, e2, h3, h4, h5⟩ := Sm_use (L := L) (M_fail (I 0 (j + 1))) hr
  refine ⟨I2, n', h3, h5, ?_⟩
  rw [B183_188, show nI j + 1 = nI (j + 1) from nI_add j 1, ck_of (inb_nI (by omega) (by omega)), ix_nI (by omega), e1, K2_i, B183_197, show nI j + 1 = nI (j + 1) from nI_add j 1, ck_of (inb_nI (by omega) (by omega)), ix_nI (by omega), h4, e2, K2_i, B183_206, if_pos rfl, B183_705, show nI j + 5 = nI (j + 5) from nI_add j 5]
theorem LC_3 {L n j : Nat} {I : It} (hL : L < 2 ^ 30) (hj : j + 5 ≤ L) (hr : RR n I I) : ∃ I2 n', RR n' I2 I2 ∧ I2 0 = I 0 ∧ E 183 211 [some (.ref 0), some (.ref 1), some (.ref 119), some (.int (nI j))] [] (GG L) I = E 183 18 [some (.ref 0), some (.ref 1), some (.ref 119), some (.int (nI (j + 5)))] [] (GG L) I2 := by
  obtain ⟨I1, I2, n', r, e1, e2, h3, h4, h5⟩ := Sm_use (L := L) (M_start) hr
  refine ⟨I2, n', h3, h5, ?_⟩
  rw [B183_211, e1, K2_i, B183_215, e2, K2_i, B183_219, if_pos rfl, B183_705, show nI j + 5 = nI (j + 5) from nI_add j 5]
theorem LC_4 {L n j : Nat} {I : It} (hL : L < 2 ^ 30) (hj : j + 5 ≤ L) (hr : RR n I I) : ∃ I2 n', RR n' I2 I2 ∧ I2 0 = I 0 ∧ E 183 224 [some (.ref 0), some (.ref 1), some (.ref 119), some (.int (nI j))] [] (GG L) I = E 183 18 [some (.ref 0), some (.ref 1), some (.ref 119), some (.int (nI (j + 5)))] [] (GG L) I2 := by
  obtain ⟨I1, I2, n', r, e1, e2, h3, h4, h5⟩ := Sm_use (L := L) (M_get (I 0 (j + 1))) hr
  refine ⟨I2, n', h3, h5, ?_⟩
  rw [B183_224, show nI j + 1 = nI (j + 1) from nI_add j 1, ck_of (inb_nI (by omega) (by omega)), ix_nI (by omega), e1, K2_i, B183_233, show nI j + 1 = nI (j + 1) from nI_add j 1, ck_of (inb_nI (by omega) (by omega)), ix_nI (by omega), h4, e2, K2_i, B183_242, if_pos rfl, B183_705, show nI j + 5 = nI (j + 5) from nI_add j 5]
theorem LC_5 {L n j : Nat} {I : It} (hL : L < 2 ^ 30) (hj : j + 5 ≤ L) (hr : RR n I I) : ∃ I2 n', RR n' I2 I2 ∧ I2 0 = I 0 ∧ E 183 247 [some (.ref 0), some (.ref 1), some (.ref 119), some (.int (nI j))] [] (GG L) I = E 183 18 [some (.ref 0), some (.ref 1), some (.ref 119), some (.int (nI (j + 5)))] [] (GG L) I2 := by
  obtain ⟨I1, I2, n', r, e1, e2, h3, h4, h5⟩ := Sm_use (L := L) (M_set (I 0 (j + 1)) (I 0 (j + 2))) hr
  refine ⟨I2, n', h3, h5, ?_⟩
  rw [B183_247, show nI j + 1 = nI (j + 1) from nI_add j 1, show nI j + 2 = nI (j + 2) from nI_add j 2, ck_of (inb_nI (by omega) (by omega)), ck_of (inb_nI (by omega) (by omega)), ix_nI (by omega), ix_nI (by omega), e1, K2_i, B183_261, show nI j + 1 = nI (j + 1) from nI_add j 1, show nI j + 2 = nI (j + 2) from nI_add j 2, ck_of (inb_nI (by omega) (by omega)), ck_of (inb_nI (by omega) (by omega)), ix_nI (by omega), ix_nI (by omega), h4, e2, K2_i, B183_275, if_pos rfl, B183_705, show nI j + 5 = nI (j + 5) from nI_add j 5]
theorem LC_6 {L n j : Nat} {I : It} (hL : L < 2 ^ 30) (hj : j + 5 ≤ L) (hr : RR n I I) : ∃ I2 n', RR n' I2 I2 ∧ I2 0 = I 0 ∧ E 183 280 [some (.ref 0), some (.ref 1), some (.ref 119), some (.int (nI j))] [] (GG L) I = E 183 18 [some (.ref 0), some (.ref 1), some (.ref 119), some (.int (nI (j + 5)))] [] (GG L) I2 := by
  obtain ⟨I1, I2, n', r, e1, e2, h3, h4, h5⟩ := Sm_use (L := L) (M_compact) hr
  refine ⟨I2, n', h3, h5, ?_⟩
  rw [B183_280, e1, K2_i, B183_284, e2, K2_i, B183_288, if_pos rfl, B183_705, show nI j + 5 = nI (j + 5) from nI_add j 5]
theorem LC_7 {L n j : Nat} {I : It} (hL : L < 2 ^ 30) (hj : j + 5 ≤ L) (hr : RR n I I) : ∃ I2 n', RR n' I2 I2 ∧ I2 0 = I 0 ∧ E 183 293 [some (.ref 0), some (.ref 1), some (.ref 119), some (.int (nI j))] [] (GG L) I = E 183 18 [some (.ref 0), some (.ref 1), some (.ref 119), some (.int (nI (j + 5)))] [] (GG L) I2 := by
  obtain ⟨I1, I2, n', r, e1, e2, h3, h4, h5⟩ := Sm_use (L := L) (M_migrate (I 0 (j + 1))) hr
  refine ⟨I2, n', h3, h5, ?_⟩
  rw [B183_293, show nI j + 1 = nI (j + 1) from nI_add j 1, ck_of (inb_nI (by omega) (by omega)), ix_nI (by omega), e1, K2_i, B183_302, show nI j + 1 = nI (j + 1) from nI_add j 1, ck_of (inb_nI (by omega) (by omega)), ix_nI (by omega), h4, e2, K2_i, B183_311, if_pos rfl, B183_705, show nI j + 5 = nI (j + 5) from nI_add j 5]
theorem LC_8 {L n j : Nat} {I : It} (hL : L < 2 ^ 30) (hj : j + 5 ≤ L) (hr : RR n I I) : ∃ I2 n', RR n' I2 I2 ∧ I2 0 = I 0 ∧ E 183 316 [some (.ref 0), some (.ref 1), some (.ref 119), some (.int (nI j))] [] (GG L) I = E 183 18 [some (.ref 0), some (.ref 1), some (.ref 119), some (.int (nI (j + 5)))] [] (GG L) I2 := by
  obtain ⟨I1, I2, n', r, e1, e2, h3, h4, h5⟩ := Sm_use (L := L) (M_factory (I 0 (j + 1))) hr
  refine ⟨I2, n', h3, h5, ?_⟩
  rw [B183_316, show nI j + 1 = nI (j + 1) from nI_add j 1, ck_of (inb_nI (by omega) (by omega)), ix_nI (by omega), e1, K2_i, B183_325, show nI j + 1 = nI (j + 1) from nI_add j 1, ck_of (inb_nI (by omega) (by omega)), ix_nI (by omega), h4, e2, K2_i, B183_334, if_pos rfl, B183_705, show nI j + 5 = nI (j + 5) from nI_add j 5]
theorem LC_9 {L n j : Nat} {I : It} (hL : L < 2 ^ 30) (hj : j + 5 ≤ L) (hr : RR n I I) : ∃ I2 n', RR n' I2 I2 ∧ I2 0 = I 0 ∧ E 183 339 [some (.ref 0), some (.ref 1), some (.ref 119), some (.int (nI j))] [] (GG L) I = E 183 18 [some (.ref 0), some (.ref 1), some (.ref 119), some (.int (nI (j + 5)))] [] (GG L) I2 := by
  obtain ⟨I1, I2, n', r, e1, e2, h3, h4, h5⟩ := Sm_use (L := L) (M_cell (I 0 (j + 1)) (I 0 (j + 2))) hr
  refine ⟨I2, n', h3, h5, ?_⟩
  rw [B183_339, show nI j + 1 = nI (j + 1) from nI_add j 1, show nI j + 2 = nI (j + 2) from nI_add j 2, ck_of (inb_nI (by omega) (by omega)), ck_of (inb_nI (by omega) (by omega)), ix_nI (by omega), ix_nI (by omega), e1, K2_i, B183_353, show nI j + 1 = nI (j + 1) from nI_add j 1, show nI j + 2 = nI (j + 2) from nI_add j 2, ck_of (inb_nI (by omega) (by omega)), ck_of (inb_nI (by omega) (by omega)), ix_nI (by omega), ix_nI (by omega), h4, e2, K2_i, B183_367, if_pos rfl, B183_705, show nI j + 5 = nI (j + 5) from nI_add j 5]
theorem LC_10 {L n j : Nat} {I : It} (hL : L < 2 ^ 30) (hj : j + 5 ≤ L) (hr : RR n I I) : ∃ I2 n', RR n' I2 I2 ∧ I2 0 = I 0 ∧ E 183 372 [some (.ref 0), some (.ref 1), some (.ref 119), some (.int (nI j))] [] (GG L) I = E 183 18 [some (.ref 0), some (.ref 1), some (.ref 119), some (.int (nI (j + 5)))] [] (GG L) I2 := by
  obtain ⟨I1, I2, n', r, e1, e2, h3, h4, h5⟩ := Sm_use (L := L) (M_spoil (I 0 (j + 1)) (I 0 (j + 2)) (I 0 (j + 3))) hr
  refine ⟨I2, n', h3, h5, ?_⟩
  rw [B183_372, show nI j + 1 = nI (j + 1) from nI_add j 1, show nI j + 2 = nI (j + 2) from nI_add j 2, show nI j + 3 = nI (j + 3) from nI_add j 3, ck_of (inb_nI (by omega) (by omega)), ck_of (inb_nI (by omega) (by omega)), ck_of (inb_nI (by omega) (by omega)), ix_nI (by omega), ix_nI (by omega), ix_nI (by omega), e1, K2_i, B183_391, show nI j + 1 = nI (j + 1) from nI_add j 1, show nI j + 2 = nI (j + 2) from nI_add j 2, show nI j + 3 = nI (j + 3) from nI_add j 3, ck_of (inb_nI (by omega) (by omega)), ck_of (inb_nI (by omega) (by omega)), ck_of (inb_nI (by omega) (by omega)), ix_nI (by omega), ix_nI (by omega), ix_nI (by omega), h4, e2, K2_i, B183_410, if_pos rfl, B183_705, show nI j + 5 = nI (j + 5) from nI_add j 5]
theorem LC_11 {L n j : Nat} {I : It} (hL : L < 2 ^ 30) (hj : j + 5 ≤ L) (hr : RR n I I) : ∃ I2 n', RR n' I2 I2 ∧ I2 0 = I 0 ∧ E 183 415 [some (.ref 0), some (.ref 1), some (.ref 119), some (.int (nI j))] [] (GG L) I = E 183 18 [some (.ref 0), some (.ref 1), some (.ref 119), some (.int (nI (j + 5)))] [] (GG L) I2 := by
  obtain ⟨I1, I2, n', r, e1, e2, h3, h4, h5⟩ := Sm_use (L := L) (M_page (I 0 (j + 1)) (I 0 (j + 2))) hr
  refine ⟨I2, n', h3, h5, ?_⟩
  rw [B183_415, show nI j + 1 = nI (j + 1) from nI_add j 1, show nI j + 2 = nI (j + 2) from nI_add j 2, ck_of (inb_nI (by omega) (by omega)), ck_of (inb_nI (by omega) (by omega)), ix_nI (by omega), ix_nI (by omega), e1, K2_i, B183_429, show nI j + 1 = nI (j + 1) from nI_add j 1, show nI j + 2 = nI (j + 2) from nI_add j 2, ck_of (inb_nI (by omega) (by omega)), ck_of (inb_nI (by omega) (by omega)), ix_nI (by omega), ix_nI (by omega), h4, e2, K2_i, B183_443, if_pos rfl, B183_705, show nI j + 5 = nI (j + 5) from nI_add j 5]
theorem LC_12 {L n j : Nat} {I : It} (hL : L < 2 ^ 30) (hj : j + 5 ≤ L) (hr : RR n I I) : ∃ I2 n', RR n' I2 I2 ∧ I2 0 = I 0 ∧ E 183 448 [some (.ref 0), some (.ref 1), some (.ref 119), some (.int (nI j))] [] (GG L) I = E 183 18 [some (.ref 0), some (.ref 1), some (.ref 119), some (.int (nI (j + 5)))] [] (GG L) I2 := by
  obtain ⟨I1, I2, n', r, e1, e2, h3, h4, h5⟩ := Sm_use (L := L) (M_state (I 0 (j + 1))) hr
  refine ⟨I2, n', h3, h5, ?_⟩
  rw [B183_448, show nI j + 1 = nI (j + 1) from nI_add j 1, ck_of (inb_nI (by omega) (by omega)), ix_nI (by omega), e1, K2_i, B183_457, show nI j + 1 = nI (j + 1) from nI_add j 1, ck_of (inb_nI (by omega) (by omega)), ix_nI (by omega), h4, e2, K2_i, B183_466, if_pos rfl, B183_705, show nI j + 5 = nI (j + 5) from nI_add j 5]
theorem LC_13 {L n j : Nat} {I : It} (hL : L < 2 ^ 30) (hj : j + 5 ≤ L) (hr : RR n I I) : ∃ I2 n', RR n' I2 I2 ∧ I2 0 = I 0 ∧ E 183 471 [some (.ref 0), some (.ref 1), some (.ref 119), some (.int (nI j))] [] (GG L) I = E 183 18 [some (.ref 0), some (.ref 1), some (.ref 119), some (.int (nI (j + 5)))] [] (GG L) I2 := by
  obtain ⟨I1, I2, n', r, e1, e2, h3, h4, h5⟩ := Sm_use (L := L) (M_record (I 0 (j + 1))) hr
  refine ⟨I2, n', h3, h5, ?_⟩
  rw [B183_471, show nI j + 1 = nI (j + 1) from nI_add j 1, ck_of (inb_nI (by omega) (by omega)), ix_nI (by omega), e1, K2_i, B183_480, show nI j + 1 = nI (j + 1) from nI_add j 1, ck_of (inb_nI (by omega) (by omega)), ix_nI (by omega), h4, e2, K2_i, B183_489, if_pos rfl, B183_705, show nI j + 5 = nI (j + 5) from nI_add j 5]
theorem LC_14 {L n j : Nat} {I : It} (hL : L < 2 ^ 30) (hj : j + 5 ≤ L) (hr : RR n I I) : ∃ I2 n', RR n' I2 I2 ∧ I2 0 = I 0 ∧ E 183 494 [some (.ref 0), some (.ref 1), some (.ref 119), some (.int (nI j))] [] (GG L) I = E 183 18 [some (.ref 0), some (.ref 1), some (.ref 119), some (.int (nI (j + 5)))] [] (GG L) I2 := by
  obtain ⟨I1, I2, n', r, e1, e2, h3, h4, h5⟩ := Sm_use (L := L) (M_ifMigrated (I 0 (j + 1)) (I 0 (j + 2))) hr
  refine ⟨I2, n', h3, h5, ?_⟩
  rw [B183_494, show nI j + 1 = nI (j + 1) from nI_add j 1, show nI j + 2 = nI (j + 2) from nI_add j 2, ck_of (inb_nI (by omega) (by omega)), ck_of (inb_nI (by omega) (by omega)), ix_nI (by omega), ix_nI (by omega), e1, K2_i, B183_508, show nI j + 1 = nI (j + 1) from nI_add j 1, show nI j + 2 = nI (j + 2) from nI_add j 2, ck_of (inb_nI (by omega) (by omega)), ck_of (inb_nI (by omega) (by omega)), ix_nI (by omega), ix_nI (by omega), h4, e2, K2_i, B183_522, if_pos rfl, B183_705, show nI j + 5 = nI (j + 5) from nI_add j 5]
theorem LC_15 {L n j : Nat} {I : It} (hL : L < 2 ^ 30) (hj : j + 5 ≤ L) (hr : RR n I I) : ∃ I2 n', RR n' I2 I2 ∧ I2 0 = I 0 ∧ E 183 527 [some (.ref 0), some (.ref 1), some (.ref 119), some (.int (nI j))] [] (GG L) I = E 183 18 [some (.ref 0), some (.ref 1), some (.ref 119), some (.int (nI (j + 5)))] [] (GG L) I2 := by
  obtain ⟨I1, I2, n', r, e1, e2, h3, h4, h5⟩ := Sm_use (L := L) (M_ifFailed (I 0 (j + 1)) (I 0 (j + 2)) (I 0 (j + 3)) (I 0 (j + 4))) hr
  refine ⟨I2, n', h3, h5, ?_⟩
  rw [B183_527, show nI j + 1 = nI (j + 1) from nI_add j 1, show nI j + 2 = nI (j + 2) from nI_add j 2, show nI j + 3 = nI (j + 3) from nI_add j 3, show nI j + 4 = nI (j + 4) from nI_add j 4, ck_of (inb_nI (by omega) (by omega)), ck_of (inb_nI (by omega) (by omega)), ck_of (inb_nI (by omega) (by omega)), ck_of (inb_nI (by omega) (by omega)), ix_nI (by omega), ix_nI (by omega), ix_nI (by omega), ix_nI (by omega), e1, K2_i, B183_551, show nI j + 1 = nI (j + 1) from nI_add j 1, show nI j + 2 = nI (j + 2) from nI_add j 2, show nI j + 3 = nI (j + 3) from nI_add j 3, show nI j + 4 = nI (j + 4) from nI_add j 4, ck_of (inb_nI (by omega) (by omega)), ck_of (inb_nI (by omega) (by omega)), ck_of (inb_nI (by omega) (by omega)), ck_of (inb_nI (by omega) (by omega)), ix_nI (by omega), ix_nI (by omega), ix_nI (by omega), ix_nI (by omega), h4, e2, K2_i, B183_575, if_pos rfl, B183_705, show nI j + 5 = nI (j + 5) from nI_add j 5]
theorem LC_16 {L n j : Nat} {I : It} (hL : L < 2 ^ 30) (hj : j + 5 ≤ L) (hr : RR n I I) : ∃ I2 n', RR n' I2 I2 ∧ I2 0 = I 0 ∧ E 183 580 [some (.ref 0), some (.ref 1), some (.ref 119), some (.int (nI j))] [] (GG L) I = E 183 18 [some (.ref 0), some (.ref 1), some (.ref 119), some (.int (nI (j + 5)))] [] (GG L) I2 := by
  obtain ⟨I1, I2, n', r, e1, e2, h3, h4, h5⟩ := Sm_use (L := L) (M_put ((((I 0 (j + 1)) : Int32).toInt64 <<< ((32 : Int32).toInt64 &&& 63)) ||| (((I 0 (j + 2)) : Int32).toInt64 &&& 4294967295))) hr
  refine ⟨I2, n', h3, h5, ?_⟩
  rw [B183_580, show nI j + 1 = nI (j + 1) from nI_add j 1, show nI j + 2 = nI (j + 2) from nI_add j 2, ck_of (inb_nI (by omega) (by omega)), ck_of (inb_nI (by omega) (by omega)), ix_nI (by omega), ix_nI (by omega), e1, K2_i, B183_604, show nI j + 1 = nI (j + 1) from nI_add j 1, show nI j + 2 = nI (j + 2) from nI_add j 2, ck_of (inb_nI (by omega) (by omega)), ck_of (inb_nI (by omega) (by omega)), ix_nI (by omega), ix_nI (by omega), h4, e2, K2_i, B183_628, if_pos rfl, B183_705, show nI j + 5 = nI (j + 5) from nI_add j 5]
theorem LC_17 {L n j : Nat} {I : It} (hL : L < 2 ^ 30) (hj : j + 5 ≤ L) (hr : RR n I I) : ∃ I2 n', RR n' I2 I2 ∧ I2 0 = I 0 ∧ E 183 633 [some (.ref 0), some (.ref 1), some (.ref 119), some (.int (nI j))] [] (GG L) I = E 183 18 [some (.ref 0), some (.ref 1), some (.ref 119), some (.int (nI (j + 5)))] [] (GG L) I2 := by
  obtain ⟨I1, I2, n', r, e1, e2, h3, h4, h5⟩ := Sm_use (L := L) (M_wipe) hr
  refine ⟨I2, n', h3, h5, ?_⟩
  rw [B183_633, e1, K2_i, B183_637, e2, K2_i, B183_641, if_pos rfl, B183_705, show nI j + 5 = nI (j + 5) from nI_add j 5]
theorem LC_18 {L n j : Nat} {I : It} (hL : L < 2 ^ 30) (hj : j + 5 ≤ L) (hr : RR n I I) : ∃ I2 n', RR n' I2 I2 ∧ I2 0 = I 0 ∧ E 183 646 [some (.ref 0), some (.ref 1), some (.ref 119), some (.int (nI j))] [] (GG L) I = E 183 18 [some (.ref 0), some (.ref 1), some (.ref 119), some (.int (nI (j + 5)))] [] (GG L) I2 := by
  obtain ⟨I1, I2, n', r, e1, e2, h3, h4, h5⟩ := Sm_use (L := L) (M_fault) hr
  refine ⟨I2, n', h3, h5, ?_⟩
  rw [B183_646, e1, K2_i, B183_650, e2, K2_i, B183_654, if_pos rfl, B183_705, show nI j + 5 = nI (j + 5) from nI_add j 5]
theorem LC_19 {L n j : Nat} {I : It} (hL : L < 2 ^ 30) (hj : j + 5 ≤ L) (hr : RR n I I) : ∃ I2 n', RR n' I2 I2 ∧ I2 0 = I 0 ∧ E 183 659 [some (.ref 0), some (.ref 1), some (.ref 119), some (.int (nI j))] [] (GG L) I = E 183 18 [some (.ref 0), some (.ref 1), some (.ref 119), some (.int (nI (j + 5)))] [] (GG L) I2 := by
  obtain ⟨I1, I2, n', r, e1, e2, h3, h4, h5⟩ := Sm_use (L := L) (M_keep (I 0 (j + 1))) hr
  refine ⟨I2, n', h3, h5, ?_⟩
  rw [B183_659, show nI j + 1 = nI (j + 1) from nI_add j 1, ck_of (inb_nI (by omega) (by omega)), ix_nI (by omega), e1, K2_i, B183_668, show nI j + 1 = nI (j + 1) from nI_add j 1, ck_of (inb_nI (by omega) (by omega)), ix_nI (by omega), h4, e2, K2_i, B183_677, if_pos rfl, B183_705, show nI j + 5 = nI (j + 5) from nI_add j 5]
theorem LC_20 {L n j : Nat} {I : It} (hL : L < 2 ^ 30) (hj : j + 5 ≤ L) (hr : RR n I I) : ∃ I2 n', RR n' I2 I2 ∧ I2 0 = I 0 ∧ E 183 682 [some (.ref 0), some (.ref 1), some (.ref 119), some (.int (nI j))] [] (GG L) I = E 183 18 [some (.ref 0), some (.ref 1), some (.ref 119), some (.int (nI (j + 5)))] [] (GG L) I2 := by
  obtain ⟨I1, I2, n', r, e1, e2, h3, h4, h5⟩ := Sm_use (L := L) (M_back (I 0 (j + 1))) hr
  refine ⟨I2, n', h3, h5, ?_⟩
  rw [B183_682, show nI j + 1 = nI (j + 1) from nI_add j 1, ck_of (inb_nI (by omega) (by omega)), ix_nI (by omega), e1, K2_i, B183_691, show nI j + 1 = nI (j + 1) from nI_add j 1, ck_of (inb_nI (by omega) (by omega)), ix_nI (by omega), h4, e2, K2_i, B183_700, if_pos rfl, B183_705, show nI j + 5 = nI (j + 5) from nI_add j 5]
theorem law_loop {L : Nat} (hL : L ≤ 2560) : ∀ (d j n : Nat) {I : It}, L < j + 5 * d + 5 → j ≤ L + 5 → RR n I I → ∃ I', E 183 18 [some (.ref 0), some (.ref 1), some (.ref 119), some (.int (nI j))] [] (GG L) I = some (some (.int 1), GG L, I') := by
  have stop : ∀ (j : Nat) (I : It), L < j + 5 → j ≤ L + 5 → E 183 18 [some (.ref 0), some (.ref 1), some (.ref 119), some (.int (nI j))] [] (GG L) I = some (some (.int 1), GG L, I) := fun j I h h' => by
    have h5 : Int32.ofNat L - 5 < nI j := (sub_lt (x := L) (y := 5) (z := j) (by omega) (by decide) (by omega)).mpr (by omega)
    rw [B183_18, if_pos h5]
  intro d
  induction d with
  | zero => exact fun j n I h h' hr => ⟨I, stop j I (by omega) h'⟩
  | succ d ih =>
    intro j n I h h' hr
    by_cases hj : L < j + 5
    · exact ⟨I, stop j I hj h'⟩
    · have h5 : ¬ Int32.ofNat L - 5 < nI j := fun q => by
        have := (sub_lt (x := L) (y := 5) (z := j) (by omega) (by decide) (by omega)).mp q
        omega
      have go : ∀ pc, (∃ I2 n', RR n' I2 I2 ∧ I2 0 = I 0 ∧ E 183 pc [some (.ref 0), some (.ref 1), some (.ref 119), some (.int (nI j))] [] (GG L) I = E 183 18 [some (.ref 0), some (.ref 1), some (.ref 119), some (.int (nI (j + 5)))] [] (GG L) I2) → ∃ I', E 183 pc [some (.ref 0), some (.ref 1), some (.ref 119), some (.int (nI j))] [] (GG L) I = some (some (.int 1), GG L, I') := fun pc ⟨I2, n', r2, _, e⟩ => by
        obtain ⟨I', e'⟩ := ih (j + 5) n' (I := I2) (by omega) (by omega) r2
        exact ⟨I', e.trans e'⟩
      rw [B183_18, if_neg h5, ck_of (inb_nI (by omega) (by omega)), ix_nI (by omega)]
      rcases below (I 0 j &&& 31) (n := 21) (by decide) with ⟨k, hk, e⟩ | ⟨-, h4⟩
      · rw [e, swt_k (show k < ([132, 145, 188, 211, 224, 247, 280, 293, 316, 339, 372, 415, 448, 471, 494, 527, 580, 633, 646, 659, 682] : List Nat).length from hk) (by omega)]
        have : k = 0 ∨ k = 1 ∨ k = 2 ∨ k = 3 ∨ k = 4 ∨ k = 5 ∨ k = 6 ∨ k = 7 ∨ k = 8 ∨ k = 9 ∨ k = 10 ∨ k = 11 ∨ k = 12 ∨ k = 13 ∨ k = 14 ∨ k = 15 ∨ k = 16 ∨ k = 17 ∨ k = 18 ∨ k = 19 ∨ k = 20 := by omega
        rcases this with rfl | rfl | rfl | rfl | rfl | rfl | rfl | rfl | rfl | rfl | rfl | rfl | rfl | rfl | rfl | rfl | rfl | rfl | rfl | rfl | rfl

        · exact go _ (LC_0 (by omega) (by omega) hr)
        · exact go _ (LC_1 (by omega) (by omega) hr)
        · exact go _ (LC_2 (by omega) (by omega) hr)
        · exact go _ (LC_3 (by omega) (by omega) hr)
        · exact go _ (LC_4 (by omega) (by omega) hr)
        · exact go _ (LC_5 (by omega) (by omega) hr)
        · exact go _ (LC_6 (by omega) (by omega) hr)
        · exact go _ (LC_7 (by omega) (by omega) hr)
        · exact go _ (LC_8 (by omega) (by omega) hr)
        · exact go _ (LC_9 (by omega) (by omega) hr)
        · exact go _ (LC_10 (by omega) (by omega) hr)
        · exact go _ (LC_11 (by omega) (by omega) hr)
        · exact go _ (LC_12 (by omega) (by omega) hr)
        · exact go _ (LC_13 (by omega) (by omega) hr)
        · exact go _ (LC_14 (by omega) (by omega) hr)
        · exact go _ (LC_15 (by omega) (by omega) hr)
        · exact go _ (LC_16 (by omega) (by omega) hr)
        · exact go _ (LC_17 (by omega) (by omega) hr)
        · exact go _ (LC_18 (by omega) (by omega) hr)
        · exact go _ (LC_19 (by omega) (by omega) hr)
        · exact go _ (LC_20 (by omega) (by omega) hr)
      · rw [swt_n (l := [132, 145, 188, 211, 224, 247, 280, 293, 316, 339, 372, 415, 448, 471, 494, 527, 580, 633, 646, 659, 682]) (fun k hk => h4 k hk)]
        exact go _ ⟨I, n, hr, rfl, by rw [B183_705, show nI j + 5 = nI (j + 5) from nI_add j 5]⟩
/-- what both constructors make is one and the same -/
theorem RR_0 {I : It} (h : Bt I) : RR 0 I I := by
  obtain ⟨b1, b2, ⟨c3, c4, c5, c6, c7, c8, c9, cc, cw, -⟩, -, -, -, b7, b8, b9, b10⟩ := h
  have d0 : I 120 0 = 1 := b9 0
  have d1 : I 120 1 = -6 := b9 1
  have d2 : I 120 2 = -6 := b9 2
  have d3 : I 120 3 = -6 := b9 3
  have d4 : I 120 4 = -6 := b9 4
  have d6 : I 120 6 = 0 := b9 6
  have dz : ∀ j, 5 ≤ j → j < 21 → I 120 j = 0 := fun j q1 q2 => by rw [b9 j, if_neg (by omega), if_neg (by omega), if_neg (by omega)]
  have dc : ∀ j, 21 ≤ j → j < 117 → I 120 j = -6 := fun j q1 q2 => by rw [b9 j, if_neg (by omega), if_neg (by omega), if_pos ⟨q1, q2⟩]
  refine ⟨⟨by decide, b2 9 2 (by decide) (by decide), b8 6, fun k hk => ⟨b2 11 k (by decide) (by decide), b2 12 k (by decide) (by decide), b2 13 k (by decide) (by decide)⟩, fun v hv => absurd hv (by omega)⟩, ⟨⟨c3.trans d0.symm, Or.inr d0, c4.trans d1.symm, fun _ => d1, Or.inl d1, fun p hp => ?_⟩, c5.trans d2.symm, c6.trans d3.symm, c7.trans d4.symm, c9.trans d6.symm, Or.inl ⟨d2, d3, d4, c8⟩⟩, fun i hi => ⟨?_, Or.inl (b10 123 i (by decide) (by decide)), fun q => ?_⟩, 0, by decide, b2 2 2 (by decide) (by decide), b8 5, fun k hk => absurd hk (by omega)⟩
  · have hz : ∀ j, I (81 + 1 + 2 * p) j = 0 := fun j => by
      have : p = 0 ∨ p = 1 := by omega
      rcases this with rfl | rfl
      · exact (cw j).1
      · exact (cw j).2
    have hcl : ∀ k, k < 48 → I (81 + 2 + 2 * p) k = -6 := fun k hk => by
      have : p = 0 ∨ p = 1 := by omega
      rcases this with rfl | rfl
      · exact (cc k hk).1
      · exact (cc k hk).2
    refine ⟨(hz 1).trans (dz _ (by omega) (by omega)).symm, (hz 2).trans (dz _ (by omega) (by omega)).symm, fun k hk => ?_⟩
    have := dc (21 + 48 * p + k) (by omega) (by omega)
    exact ⟨(hcl k hk).trans this.symm, Or.inl this⟩
  · rw [b7 i, b10 123 i (by decide) (by decide)]
  · rw [b10 123 i (by decide) (by decide)] at q
    exact absurd q (by decide)
/-- the slots that the objects take -/
def slN (l : List (Nat × Nat × Nat × Nat)) : Nat := (l.map fun q => match q.1 with | 0 => q.2.2.1 | _ => 0).sum
theorem apG_sl : ∀ (l : List (Nat × Nat × Nat × Nat)) (G : Gt), (l.foldl apG G).2.1 = G.2.1 + slN l := by
  intro l
  induction l with
  | nil => intro G; rfl
  | cons q t ih =>
    intro G
    obtain ⟨z, x, y, c⟩ := q
    rw [List.foldl_cons, ih]
    cases z with
    | zero =>
      show (G.2.1 + y) + slN t = G.2.1 + (y + slN t)
      omega
    | succ z =>
      show G.2.1 + slN t = G.2.1 + (0 + slN t)
      omega
theorem GG_sl (L : Nat) : (GG L).2.1 ≤ 7302250 := by
  have h : (GG L).2.1 = 0 + slN opsL := apG_sl opsL (Gi L)
  rw [h]
  decide +kernel
theorem whole_start {p : Program} {e : Env} {s : State} {m : MethodId} {below : List Frame} {meth : Method} {c : Code} (l : Launch) (hflags : l.flags = flags0) {b L : Nat} {xs : Nat → Int32} (hL : L ≤ 2560) (C0 : lw_At p s m meth c b L xs) : W p l e room_1 s m #[Value.ref b] below meth c s.heap [] 0 0 (lw_Z below #[Value.ref b] s) (entryFrame m ([Value.ref b] : List Value).toArray 4) := by
  obtain ⟨I1, e1, -, hB⟩ := boot L xs
  obtain ⟨I', e2⟩ := law_loop hL 512 0 0 (I := I1) (by omega) (by omega) (RR_0 hB)
  exact start_of_ev l C0 (e1.trans e2) (by rw [GG_n]; decide) (GG_sl L)
