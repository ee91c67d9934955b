/-! ===== p24: what was kept is brought back; calls refused on a new vault ===== -/
section KP
variable {L : Nat × Nat} {n a v s r : Nat} {g e Z : Nat → Nat → Nat} {x : Nat → Nat} {I : It} {P : Pc} {o0 o1 : Option Pc}
theorem Pd_F {t : List Nat} {I I' : It} (h : Pd t I) (f2 : I' 2 = I 2) (f3 : I' 3 = I 3) : Pd t I' := ⟨by rw [f2]; exact h.1, fun k hk => by rw [f3]; exact h.2 k hk⟩
theorem Pd_N {t : List Nat} {I I' : It} (h : Pd t I) (f : FN I I') : Pd t I' := Pd_F h (f 2 (by decide)) (f 3 (by decide))
theorem Pd_L {t : List Nat} {I I' : It} (h : Pd t I) (f : FL L I I') : Pd t I' := Pd_F h (f 2 (Or.inl (by decide))) (f 3 (Or.inl (by decide)))
theorem Law_kept {y1 : Int32} (hn : n = 3) (hG : Gk g e) (hT : TT n g e Z P o0 o1 I) (hI : Iv g e P a v s r x) (hPd : Pd [] I) : ∃ I', E 133 0 [some (.ref 1), some (.int y1), none, none, none, none, none, none, none] [] (GG L) I = some (some (.int 1), GG L, I') ∧ TT 4 g e Z P o0 (some P) I' ∧ ∀ b, b = 0 ∨ 119 ≤ b → I' b = I b := by
  subst hn
  obtain ⟨hw, h⟩ := id hI
  have hv3 := h.1.2.2.2.2.2.1
  have hx := Iv_x hG h
  have hg1 := (hG v 1 hv3 (by decide)).1
  obtain ⟨I1, b1, hT1, f1, -⟩ := C_keep1 (L := L) hT
  have b1' : E 113 0 [some (.ref 1), some (.int 1)] [] (GG L) I = some (some (.int (nI a)), GG L, I1) := b1.trans (by rw [h.1.1])
  obtain ⟨c, hc, e1⟩ := U_up (L := L) (M := g v 1 + 1) (x := y1) (I := I1) (by omega) (by omega)
  have e1' : E 123 0 [some (.int y1), some (.int (nI (g v 1) + 1))] [] (GG L) I1 = some (some (.int (nI c)), GG L, I1) := by rw [nI_1]; exact e1
  -- a value set
  obtain ⟨I2, b2, hT2, f2⟩ := C_set (L := L) (k := 1) (c := c) hT1 hw h.1 hv3 hx h.2.1 (by decide) (by omega)
  have b2' : E 99 0 [some (.ref 1), some (.int 1), some (.int (nI c))] [] (GG L) I1 = some (some (.int (nI (chN e P v r x 1 c))), GG L, I2) := b2
  have hall := ch_all (k := 1) (c := c) hG (by rw [hw]; exact fun q => by cases q) h (by decide) (by omega)
  rw [hw] at hall
  obtain ⟨P2, hP2⟩ : ∃ P2, chS e P a v s r x 1 c = P2 := ⟨_, rfl⟩
  rw [hP2] at hT2 hall
  obtain ⟨hw2, a2, s2, r2, h2⟩ : P2.1 = some none ∧ ∃ a' s' r', Iw g e P2 a' v s' r' (up x 1 c) := by
    rcases hall with ⟨-, q2, q3⟩ | ⟨q1, -⟩
    · exact ⟨q2, q3⟩
    · cases q1
  have hx2 := Iv_x hG h2
  have hx2g := h2.2.2.2.2.2.2.2.2.2
  -- a page filled
  obtain ⟨I3, b3, hT3, f3⟩ := C_compact (L := L) hT2 hw2 h2.1 hv3 hx2 h2.2.1
  obtain ⟨hI3, -, -, -⟩ := fill_all hG ⟨hw2, h2⟩ hv3 hx2g
  obtain ⟨P3, hP3⟩ : ∃ P3, fillS e P2 (1 - a2) v ((s2 + 1) % 200) (up x 1 c) = P3 := ⟨_, rfl⟩
  rw [hP3] at hT3 hI3
  -- a cell spoiled
  obtain ⟨I4, b4, hT4, f4⟩ := C_spoil (L := L) (p := 0) (k := 0) (y := 7) hT3 (by decide) (by decide) (Or.inr ⟨7, by decide, rfl⟩)
  have b4' : E 104 0 [some (.ref 1), some (.int 0), some (.int 0), some (.int 7), none] [] (GG L) I3 = _ := b4
  obtain ⟨P4, hP4⟩ : ∃ P4, spS P3 0 0 7 = P4 := ⟨_, rfl⟩
  rw [hP4] at hT4
  have hok4 : okv 3 P4 := by
    intro p hp hH
    have hC4 : P4.2.2.2.2.1 = up P3.2.2.2.2.1 0 (up (P3.2.2.2.2.1 0) 0 7) := by rw [← hP4]; rfl
    rw [hC4] at hH ⊢
    by_cases q : p = 0
    · subst q
      rw [up_s] at hH
      obtain ⟨-, -, -, ⟨u, hu, hu2⟩, -⟩ := hH
      rw [up_s] at hu2
      have := (nI_eq (a := 7) (b := 200 + u) (by decide) (by omega)).mp hu2
      omega
    · rw [up_k _ _ _ q] at hH ⊢
      exact okv_P (n := 3) hI3.2.2.2 p hp hH
  obtain ⟨I5, b5, hT5, f5⟩ := C_start (L := L) hT4 hok4
  obtain ⟨hw5, -, -⟩ := rst_W (n := 3) (g := g) (e := e) P4
  obtain ⟨I6, b6, hT6, f6⟩ := C_factory (L := L) (t := 0) hT5 hw5 (by decide) (by decide)
  have b6' : E 102 0 [some (.ref 1), some (.int 0)] [] (GG L) I5 = _ := b6
  -- a version more
  have d6 : Pd [] I6 := Pd_N (Pd_N (Pd_N (Pd_N (Pd_N (Pd_N hPd f1) f2) f3) f4) f5) f6
  obtain ⟨I7, b7, d7, f7⟩ := T_put (L := L) (t := []) (s := [45]) (by unfold Ch; decide) (by decide) (by decide) (by decide) d6
  have b7' : E 110 0 [some (.ref 1), some (.long 45), none] [] (GG L) I6 = _ := b7
  obtain ⟨I8, b8, d8, f8⟩ := T_put (L := L) (t := [45]) (s := [97]) (by unfold Ch; decide) (by decide) (by decide) (by decide) d7
  have b8' : E 110 0 [some (.ref 1), some (.long 97), none] [] (GG L) I7 = _ := b8
  have hT8 := TT_low hT6 (I' := I8) (fun b hb => by rw [f8 b (by omega) (by omega), f7 b (by omega) (by omega)])
  obtain ⟨I9, b9, hT9, d9, f9⟩ := C_def3 (L := L) hT8 d8
  -- the pad emptied
  obtain ⟨I10, hI10⟩ : ∃ I10, uI I9 2 2 0 = I10 := ⟨_, rfl⟩
  have b10 : E 111 0 [some (.ref 1), none] [] (GG L) I9 = some (some (.int 0), GG L, I10) := by
    rw [B111_0, B50_0, K2_i, B111_7, B52_0, K2_v, B111_15, hI10, d9.1]; rfl
  have hT10 := TT_low hT9 (I' := I10) (fun b hb => by rw [← hI10, uI_o _ _ _ _ _ (by omega)])
  obtain ⟨I11, b11, hT11, f11, -⟩ := C_back1 (L := L) hT10
  have b11' : E 114 0 [some (.ref 1), some (.int 1)] [] (GG L) I10 = some (some (.int (nI a)), GG L, I11) := b11.trans (by rw [h.1.1])
  have get1 : E 98 0 [some (.ref 1), some (.int 1)] [] (GG L) I1 = some (some (.int (nI (x 1))), GG L, I1) := G_get (k := 1) (by decide) hT1 hw h (by decide)
  have get11 : E 98 0 [some (.ref 1), some (.int 1)] [] (GG L) I11 = some (some (.int (nI (x 1))), GG L, I11) := G_get (k := 1) (by decide) hT11 hw h (by decide)
  have lay1 : E 95 0 [some (.ref 1), some (.int (nI v)), some (.int 1), some (.int 0), none] [] (GG L) I1 = some (some (.int (nI (g v 1))), GG L, I1) := G_l0 (k := 1) (by decide) hT1 hv3 (by decide)
  refine ⟨I11, ?_, hT11, fun b hb => ?_⟩
  · rw [B133_0, Q_cells hT.2.1, K2_i, B133_4, Q_s10 hT.2.1, K2_i, B133_11, Q_s11 hT.2.1, K2_i, B133_18, b1', K2_i, B133_25, get1, K2_i, B133_32, Q_s8 hT1.1, K2_i, B133_40, G_s2 hT1 h, K2_i, B133_51, lay1, K2_i, B133_56, e1', K2_i, B133_61, b2', K2_i, B133_64, b3, K2_i, B133_69, b4', K2_i, B133_78, b5, K2_i, B133_83, b6', K2_i, B133_89, b7', K2_i, B133_97, b8', K2_i, B133_105, b9, K2_i, B133_110, b10, K2_i, B133_116, b11', K2_i, B133_122, if_pos rfl, Q_cells hT11.2.1, K2_i, B133_131, if_pos rfl, Q_s10 hT11.2.1, K2_i, B133_141, if_pos rfl, Q_s11 hT11.2.1, K2_i, B133_151, if_pos rfl, get11, K2_i, B133_161, if_pos rfl, Q_s8 hT11.1, K2_i, B133_172, if_neg (by decide), if_pos (nI_1 3).symm]
  · have hb2 : b ≠ 2 := by omega
    have hb3 : b ≠ 3 := by omega
    rw [f11 b (by omega), ← hI10, uI_o _ _ _ _ _ hb2, f9 b (by omega), f8 b hb2 hb3, f7 b hb2 hb3, f6 b (by omega), f5 b (by omega), f4 b (by omega), f3 b (by omega), f2 b (by omega), f1 b (by omega)]
end KP
/-! a new vault -/
def P00 : Pc := (some none, rg (-6) (-6) (-6) 48 0, fun _ => 0, fun _ => 0, fun _ _ => -6, fun _ => 0, fun _ => 0)
theorem Rd_00 {I : It} {d : Nat} (h : dv0 I d) : Rd I d P00 := by
  obtain ⟨h3, h4, h5, h6, h7, h8, h9, hc, hp, hz⟩ := h
  refine ⟨h3, h4, trivial, fun j q5 q10 => ?_, fun p hp2 => ?_, fun k hk => ⟨hz _ _ (by omega) (by omega), hz _ _ (by omega) (by omega)⟩⟩
  · have : j = 5 ∨ j = 6 ∨ j = 7 ∨ j = 8 ∨ j = 9 := by omega
    rcases this with rfl | rfl | rfl | rfl | rfl
    · exact h5
    · exact h6
    · exact h7
    · exact h8
    · exact h9
  · have : p = 0 ∨ p = 1 := by omega
    rcases this with rfl | rfl
    · exact ⟨(hp 1).1, (hp 2).1, fun k hk => (hc k hk).1⟩
    · exact ⟨(hp 1).2, (hp 2).2, fun k hk => (hc k hk).2⟩
theorem TT_00 {I : It} (h : Bt I) (g e Z : Nat → Nat → Nat) : TT 0 g e Z P00 none none I ∧ Pd [] I := by
  obtain ⟨-, hz, h81, -, -, -, h118⟩ := h
  refine ⟨⟨⟨by decide, hz 9 2 (by decide) (by decide), fun k _ => hz 11 k (by decide) (by decide), fun v hv => absurd hv (Nat.not_lt_zero _)⟩, Rd_00 h81, h118 0, h118 1⟩, Pd_nil (hz 2 2 (by decide) (by decide))⟩
section RF
variable {L : Nat × Nat} {g e Z : Nat → Nat → Nat} {I : It}
theorem R_bad {l : Nat} {c : Nat → Nat} {i a b : Nat} {I : It} (hT : Tc l c) (hI : TI l c I) (ha : a ≤ l) (h4 : I 4 4 = nI i) (hi : i < 27) (hs : stp c a = (none, b)) : E 55 14 [some (.ref 2), some (.int (nI i))] [] (GG L) (AI I a) = some (some (.int (nI b)), GG L, AI I b) := by
  have e0 := B55_14 (L := L) (x1 := nI i) (I := AI I a)
  rw [if_neg (show ¬ (27 : Int32) ≤ nI i from nI_ge (a := i) (b := 27) (by omega) (by decide)), P56 hT hI ha h4 hi, hs] at e0
  refine e0.trans ?_
  show K2 55 24 _ _ (some (some (.int 0), GG L, AI I b)) = _
  rw [K2_i, B55_24, if_pos rfl, AI_3]
/-- a number that is far from all others -/
def Far (y : Int32) : Prop := y.toInt < -6 ∨ 255 < y.toInt
theorem Far_nI {y : Int32} (h : Far y) {m : Nat} (hm : m < 256) : y ≠ nI m := fun q => by
  rw [q] at h
  unfold Far at h
  rw [nI_toInt (by omega)] at h
  omega
theorem Far_6 {y : Int32} (h : Far y) : y ≠ -6 := fun q => by
  rw [q] at h
  unfold Far at h
  have : (-6 : Int32).toInt = -6 := by decide
  rw [this] at h
  omega
theorem Far_b {y : Int32} (h : Far y) : ¬ (0 ≤ y ∧ y ≤ 255) := fun ⟨q1, q2⟩ => by
  obtain ⟨j, hj, ej⟩ := nI_of2 (M := 255) (n := 255) rfl (Int32.not_lt.mpr q1) q2
  exact Far_nI h (show j < 256 by omega) ej
theorem Far_sw {y : Int32} (h : Far y) {l : List Nat} {d : Nat} (hl : l.length ≤ 200) : swt y.toInt 0 l d = d := by
  unfold swt
  unfold Far at h
  rw [if_pos (by omega)]
theorem Law_refused {y1 : Int32} (hT : TT 0 g e Z P00 none none I) (hP : Pd [] I) : ∃ I' P', E 134 0 [some (.ref 1), some (.int y1), none] [] (GG L) I = some (some (.int 1), GG L, I') ∧ TT 0 g e Z P' none none I' ∧ P'.1 = some none ∧ Pd [] I' ∧ ∀ b, b = 0 ∨ 119 ≤ b → I' b = I b := by
  -- the far number
  have hfar : ∃ y, Far y ∧ E 134 0 [some (.ref 1), some (.int y1), none] [] (GG L) I = K2 134 29 [some (.ref 1), some (.int y1), some (.int y)] [] (E 94 0 [some (.ref 1)] [] (GG L) I) := by
    by_cases q : 0 ≤ y1
    · obtain ⟨j, hj, ej⟩ := nI_of (Int32.not_lt.mpr q)
      refine ⟨nI (j % 1000000 + 256), Or.inr ?_, ?_⟩
      · rw [nI_toInt (by omega)]; omega
      · rw [B134_0, if_pos q, ej, show (1000000 : Int32) = nI 1000000 from rfl, nI_rem hj (by decide), show nI (j % 1000000) + 256 = nI (j % 1000000 + 256) from nI_add _ 256]
    · obtain ⟨u, hu, e1⟩ := U_up (L := L) (M := 1000000) (x := y1) (I := I) (by decide) (by decide)
      have e1' : E 123 0 [some (.int y1), some (.int 1000000)] [] (GG L) I = some (some (.int (nI u)), GG L, I) := e1
      refine ⟨-7 - nI u, Or.inl ?_, ?_⟩
      · rw [Int32.toInt_sub, nI_toInt (by omega), show (-7 : Int32).toInt = -7 by decide, Int.bmod_eq_of_le (by omega) (by omega)]
        omega
      · rw [B134_0, if_neg q, e1', K2_i, B134_12 rfl]
  obtain ⟨y, hy, b0⟩ := hfar
  -- no text
  have hC : Ch [] := fun c hc => by cases hc
  have hTc := Tc_T hC (by decide)
  obtain ⟨I0, hI0⟩ : ∃ I0, uI I 4 4 0 = I0 := ⟨_, rfl⟩
  have t0 : TI [].length (cT []) I0 := ⟨by rw [← hI0, uI_o _ _ _ _ _ (by decide)]; exact hP.1, fun j hj => absurd hj (Nat.not_lt_zero _)⟩
  have h40 : I0 4 4 = nI 0 := by rw [← hI0, uI_s]; rfl
  have r0 := R_bad (L := L) (i := 0) (a := 0) (b := 0) hTc t0 (Nat.le_refl _) h40 (by decide) rfl
  obtain ⟨I1, hI1⟩ : ∃ I1, AI I0 0 = I1 := ⟨_, rfl⟩
  rw [hI1] at r0
  have d1 : E 94 0 [some (.ref 1)] [] (GG L) I = some (some (.int (-3)), GG L, I1) := by
    rw [B94_0, R_0, hI0, hI1, r0, K2_i, B94_7, if_neg (show ¬ nI 0 = (-6 : Int32) by decide)]
  have f1 : ∀ a, a ≠ 2 → a ≠ 4 → I1 a = I a := fun a p1 p2 => by rw [← hI1, AI_o _ _ _ p1, ← hI0, uI_o _ _ _ _ _ p2]
  have hT1 : TT 0 g e Z P00 none none I1 := TT_low hT (fun a ha => f1 a (by omega) (by omega))
  have hP1 : Pd [] I1 := by rw [← hI1]; exact ⟨(AI_2 _ _).trans t0.1, fun k hk => absurd hk (Nat.not_lt_zero _)⟩
  -- the start
  have nH : ∀ p, ¬ Hdx 0 (P00.2.2.2.2.1 p) := fun p hH => hH.1 rfl
  have hok : okv 0 P00 := fun p hp hH => absurd hH (nH p)
  obtain ⟨I2, b2, hT2, f2⟩ := C_start (L := L) hT1 hok
  have hact : actI 0 (P00.2.2.2.2.1 0) (P00.2.2.2.2.1 1) = -6 := by
    unfold actI
    rw [if_neg (nH 0), if_neg (nH 1)]
  have hr : rst 0 g e P00 = (some none, rg (-6) (-6) (-6) 48 0, fun _ => 0, fun _ => 0, fun _ _ => -6, m6F, m6F) := rst_n hact
  rw [hr] at b2 hT2
  have b2' : E 97 0 [some (.ref 1)] [] (GG L) I1 = some (some (.int (-6)), GG L, I2) := b2
  have h0R : ∀ v, v < 0 → y ≠ nI v := fun v hv => absurd hv (Nat.not_lt_zero _)
  have hp2 : ¬ ∃ p, p < 2 ∧ y = nI p := fun ⟨p, hp, q⟩ => Far_nI hy (show p < 256 by omega) q
  have hk48 : ¬ ∃ k, k < 48 ∧ y = nI k := fun ⟨k, hk, q⟩ => Far_nI hy (show k < 256 by omega) q
  have pg : E 105 0 [some (.ref 1), some (.int 0), some (.int y), none] [] (GG L) I1 = some (some (.int (-2)), GG L, I1) := by
    have := Q_p (L := L) (I := I1) (p := 0) (y := y) (by decide)
    refine this.trans ?_
    rw [Far_sw hy (by decide), B105_108]
  have st : E 106 0 [some (.ref 1), some (.int y)] [] (GG L) I1 = some (some (.int (-2)), GG L, I1) := by
    rw [B106_0, Far_sw hy (by decide), B106_212]
  have s10 : E 106 0 [some (.ref 1), some (.int 10)] [] (GG L) I2 = some (some (.int 0), GG L, I2) := (Q_s10 hT2.2.1).trans rfl
  refine ⟨I2, _, ?_, hT2, rfl, Pd_N hP1 f2, fun b hb => by rw [f2 b (by omega), f1 b (by omega) (by omega)]⟩
  rw [b0, d1, K2_i, B134_29, if_pos rfl, Q_lf hT1.1 h0R, K2_i, B134_41, if_pos rfl, C_failf (Far_6 hy) (fun m hm => Far_nI hy (by omega)), K2_i, B134_50, if_pos rfl, Q_getn hT1.1 hT1.2.1 rfl rfl, K2_i, B134_60, if_pos rfl, C_setn hT1.1 hT1.2.1 rfl rfl, K2_i, B134_70, if_pos rfl, C_compactn hT1.2.1 rfl, K2_i, B134_78, if_pos rfl, C_migraten hT1.2.1 rfl, K2_i, B134_88, if_pos rfl, C_factoryf hT1.1 hT1.2.1 rfl h0R, K2_i, B134_98, if_pos rfl, Q_cellf (fun z => hp2 z.1), K2_i, B134_108, if_pos rfl, Q_cellf (fun z => hk48 z.2), K2_i, B134_118, if_pos rfl, C_spoilf (fun z => hp2 z.1), K2_i, B134_129, if_pos rfl, C_spoil2 (Far_6 hy) (Far_b hy), K2_i, B134_140, if_pos rfl, C_pagef hp2, K2_i, B134_151, if_pos rfl, pg, K2_i, B134_161, if_pos rfl, st, K2_i, B134_171, if_pos rfl, Q_recordn hT1.1 hT1.2.1 rfl rfl, K2_i, B134_181, if_pos rfl, C_ifmn hT1.2.1 rfl, K2_i, B134_191, if_pos rfl, C_ifff hT1.1 hT1.2.1 rfl rfl, K2_i, B134_204, if_pos rfl, C_keepf hp2, K2_i, B134_213, if_pos rfl, C_backf hp2, K2_i, B134_223, if_pos rfl, b2', K2_i, B134_232, if_pos rfl, s10, K2_i, B134_243, if_pos rfl]
end RF
