/-! ===== p24: records and heads spoiled ===== -/
section SP
variable {L : Nat × Nat} {n a v s r : Nat} {g e Z : Nat → Nat → Nat} {x : Nat → Nat} {I : It} {P : Pc} {o0 o1 : Option Pc}
/-- a place is that of the last good record of the name -/
theorem rdf_last {k i : Nat} {f : Nat → Int32} (hk : k < 3) (hi : i < 1000) : ∀ j, j < 1000 → (rdf g e v f j).2.1 k = nI (3 + 3 * i) → i < j ∧ Gdx g v f (3 + 3 * i) ∧ f (3 + 3 * i) = nI (k + 1) ∧ ∀ i', i < i' → i' < j → Gdx g v f (3 + 3 * i') → f (3 + 3 * i') ≠ nI (k + 1) := by
  intro j
  induction j with
  | zero =>
    intro _ h
    exact absurd h (m6_nI (by omega))
  | succ j ih =>
    intro hj h
    by_cases hG : Gdx g v f (3 + 3 * j)
    · obtain ⟨y, b, hy, hb, w0, w1, w2⟩ := id hG
      rw [rdf_g hy hG w0 w1] at h
      by_cases z : k = y
      · subst z
        have h' : nI (3 + 3 * j) = nI (3 + 3 * i) := (up_s _ _ _).symm.trans h
        have hij : j = i := by have := (nI_eq (by omega) (by omega)).mp h'; omega
        subst hij
        exact ⟨Nat.lt_succ_self _, hG, w0, fun i' h1 h2 => by omega⟩
      · have h' : (rdf g e v f j).2.1 k = nI (3 + 3 * i) := (up_k _ _ _ z).symm.trans h
        obtain ⟨q1, q2, q3, q4⟩ := ih (by omega) h'
        refine ⟨by omega, q2, q3, fun i' h1 h2 hg => ?_⟩
        by_cases zz : i' = j
        · subst zz
          rw [w0]
          intro hh
          have := (nI_eq (by omega) (by omega)).mp hh
          omega
        · exact q4 i' h1 (by omega) hg
    · rw [rdf_b hG] at h
      obtain ⟨q1, q2, q3, q4⟩ := ih (by omega) h
      refine ⟨by omega, q2, q3, fun i' h1 h2 hg => ?_⟩
      by_cases zz : i' = j
      · subst zz; exact absurd hg hG
      · exact q4 i' h1 (by omega) hg
/-- the check of it spoiled -/
theorem rdf_spoil {k i : Nat} {y : Int32} {f : Nat → Int32} (hgood : Gdx g v f (3 + 3 * i)) (hl : ∀ i', i < i' → i' < r → Gdx g v f (3 + 3 * i') → f (3 + 3 * i') ≠ nI (k + 1)) (hb : ¬ Gdx g v (up f (3 + 3 * i + 2) y) (3 + 3 * i)) : ∀ m j, j = i + 1 + m → j ≤ r → (rdf g e v (up f (3 + 3 * i + 2) y) j).2.1 k = (rdf g e v f i).2.1 k ∧ (rdf g e v (up f (3 + 3 * i + 2) y) j).2.2 = (rdf g e v f j).2.2 + 1 := by
  intro m
  induction m with
  | zero =>
    intro j hj hr
    have hj' : j = i + 1 := by omega
    subst hj'
    have e1 : rdf g e v (up f (3 + 3 * i + 2) y) i = rdf g e v f i := rdf_congr i (fun q _ h2 => up_k _ _ _ (by omega))
    rw [rdf_b hb, e1, rdf_bg hgood]
    exact ⟨rfl, rfl⟩
  | succ m ih =>
    intro j hj hr
    obtain ⟨j', rfl⟩ : ∃ j', j = j' + 1 := ⟨i + 1 + m, by omega⟩
    obtain ⟨h1, h2⟩ := ih j' (by omega) (by omega)
    have hgg : Gdx g v (up f (3 + 3 * i + 2) y) (3 + 3 * j') ↔ Gdx g v f (3 + 3 * j') := Gdx_congr (fun q q1 q2 => up_k _ _ _ (by omega))
    by_cases hG : Gdx g v f (3 + 3 * j')
    · obtain ⟨z, b, hz, hb', w0, w1, w2⟩ := id hG
      have hzk : k ≠ z := fun q => hl j' (by omega) (by omega) hG (by rw [w0, q])
      have w0' : up f (3 + 3 * i + 2) y (3 + 3 * j') = nI (z + 1) := (up_k _ _ _ (by omega)).trans w0
      have w1' : up f (3 + 3 * i + 2) y (3 + 3 * j' + 1) = nI b := (up_k _ _ _ (by omega)).trans w1
      rw [rdf_g hz (hgg.mpr hG) w0' w1', rdf_g hz hG w0 w1]
      exact ⟨(up_k _ _ _ hzk).trans h1, h2⟩
    · rw [rdf_b (fun q => hG (hgg.mp q)), rdf_b hG]
      refine ⟨h1, ?_⟩
      show (rdf g e v (up f (3 + 3 * i + 2) y) j').2.2 + 1 = (rdf g e v f j').2.2 + 1 + 1
      rw [h2]
theorem rdf_V (hG : Gk g e) (hv : v < 3) (f : Nat → Int32) : ∀ j, ∃ x : Nat → Nat, (rdf g e v f j).1 = nV x ∧ ∀ k, k < 3 → x k ≤ g v k := by
  intro j
  induction j with
  | zero => exact ⟨e v, rfl, fun k hk => (hG v k hv hk).2⟩
  | succ j ih =>
    obtain ⟨x, h1, h2⟩ := ih
    by_cases hg : Gdx g v f (3 + 3 * j)
    · obtain ⟨y, b, hy, hb, w0, w1, w2⟩ := id hg
      rw [rdf_g hy hg w0 w1]
      exact ⟨up x y b, by show up (rdf g e v f j).1 y (nI b) = _; rw [h1, nV_up hy], up_le h2 hb⟩
    · rw [rdf_b hg]; exact ⟨x, h1, h2⟩
theorem rst_W (P : Pc) : (rst n g e P).1 = some none ∧ (rst n g e P).2.2.1 = P.2.2.1 ∧ (rst n g e P).2.2.2.2.1 = P.2.2.2.2.1 := by
  unfold rst
  split
  · exact ⟨rfl, rfl, rfl⟩
  · exact ⟨rfl, rfl, rfl⟩
/-- the head of the active page spoiled, and what it was put back -/
theorem Sp_head {k : Nat} {u1 u7 u8 u9 : Option Value} {y5 y6 : Int32} {P0 : Pc} {r0 : Nat} {x0 : Nat → Nat} (hn : 3 ≤ n) (hk : k < 3) (hT : TT n g e Z P (some P0) o1 I) (hI : Iv g e P a v s r x) (hI0 : Iv g e P0 a v s r0 x0) (hW : P.2.2.1 = P0.2.2.1) (h5 : y5 = P0.2.2.2.2.2.2 k) (h6 : y6 = nI (x0 k)) :
    ∃ I', K2 131 195 [some (.ref 1), u1, some (.int (nI k)), some (.int (nI a)), some (.int (P0.2.2.1 0 + P0.2.2.1 1)), some (.int y5), some (.int y6), u7, u8, u9] [] (E 103 0 [some (.ref 1), some (.int (nI a)), some (.int 1)] [] (GG L) I) = some (some (.int 1), GG L, I') ∧ TT n g e Z P0 (some P0) o1 I' ∧ FN I I' := by
  obtain ⟨hw, h⟩ := id hI
  have hn6 := hT.1.1
  have ha := h.1.2.2.2.2.1
  have hs := h.1.2.2.2.2.2.2.1
  have hC := h.2.2
  obtain ⟨-, ⟨k0, k1, k2⟩, -, -, ho, -⟩ := id hC
  have c1 : E 103 0 [some (.ref 1), some (.int (nI a)), some (.int 1)] [] (GG L) I = some (some (.int (nI s)), GG L, I) := (Q_cell (k := 1) hT.2.1 ha (by decide)).trans (by rw [k1])
  -- spoiled
  obtain ⟨I1, b1, hT1, f1⟩ := C_spoil (L := L) (k := 1) (y := -6) hT ha (by decide) (Or.inl rfl)
  have b1' : E 104 0 [some (.ref 1), some (.int (nI a)), some (.int 1), some (.int (-6)), none] [] (GG L) I = some (some (.int (nI s)), GG L, I1) := b1.trans (by rw [k1])
  obtain ⟨P3, hP3⟩ : ∃ P3, spS P a 1 (-6) = P3 := ⟨_, rfl⟩
  rw [hP3] at hT1
  have hC3 : P3.2.2.2.2.1 = up P.2.2.2.2.1 a (up (P.2.2.2.2.1 a) 1 (-6)) := by rw [← hP3]; rfl
  have hbad : ¬ Hdx n (P3.2.2.2.2.1 a) := by
    rw [hC3, up_s]
    rintro ⟨-, q, -⟩
    exact q (up_s _ _ _)
  have hoth : P3.2.2.2.2.1 (1 - a) = P.2.2.2.2.1 (1 - a) := by rw [hC3, up_k _ _ _ (by omega)]
  have hok3 : okv n P3 := by
    intro p hp hH
    by_cases q : p = a
    · subst q; exact absurd hH hbad
    · have : p = 1 - a := by omega
      subst this
      rw [hoth] at hH ⊢
      exact Oc_ver ho hH
  have hact : actI n (P3.2.2.2.2.1 0) (P3.2.2.2.2.1 1) = @ite _ (Hdx n (P.2.2.2.2.1 (1 - a))) (Classical.propDecidable _) (nI (1 - a)) (-6) := by
    unfold actI
    have : a = 0 ∨ a = 1 := by omega
    rcases this with rfl | rfl
    · have h' : P3.2.2.2.2.1 1 = P.2.2.2.2.1 (1 - 0) := hoth
      rw [if_neg hbad, h']; rfl
    · have h' : P3.2.2.2.2.1 0 = P.2.2.2.2.1 (1 - 1) := hoth
      rw [h']
      by_cases q : Hdx n (P.2.2.2.2.1 (1 - 1))
      · rw [if_pos q, if_neg hbad, if_pos q]; rfl
      · rw [if_neg q, if_neg hbad, if_neg q]
  obtain ⟨I2, b2, hT2, f2⟩ := C_start (L := L) hT1 hok3
  obtain ⟨w4, W4, C4⟩ := rst_W (n := n) (g := g) (e := e) P3
  obtain ⟨P4, hP4⟩ : ∃ P4, rst n g e P3 = P4 := ⟨_, rfl⟩
  rw [hP4] at b2 hT2 w4 W4 C4
  have hC4 : P4.2.2.2.2.1 a 1 = -6 := by rw [C4, hC3, up_s, up_s]
  -- and back
  obtain ⟨I3, b3, hT3, f3⟩ := C_spoil (L := L) (k := 1) (y := nI s) hT2 ha (by decide) (Or.inr ⟨s, by omega, rfl⟩)
  have b3' : E 104 0 [some (.ref 1), some (.int (nI a)), some (.int 1), some (.int (nI s)), none] [] (GG L) I2 = some (some (.int (-6)), GG L, I3) := b3.trans (by rw [hC4])
  obtain ⟨P5, hP5⟩ : ∃ P5, spS P4 a 1 (nI s) = P5 := ⟨_, rfl⟩
  rw [hP5] at hT3
  have hC5 : P5.2.2.2.2.1 = P.2.2.2.2.1 := by
    rw [← hP5]
    show up P4.2.2.2.2.1 a (up (P4.2.2.2.2.1 a) 1 (nI s)) = _
    rw [C4, hC3, up_s, up_up, up_up, ← k1, up_self, up_self]
  obtain ⟨I4, P6, b4, hT4, f4, hI6, e6⟩ := G_start (L := L) (P := P5) (x := x) (Q := P.2.2.2.2.2.2) hn hT3 (by rw [hC5]; exact hC)
  have hW6 : P6.2.2.1 = P0.2.2.1 := by
    rw [e6]
    show P5.2.2.1 = _
    rw [← hP5]
    show P4.2.2.1 = _
    rw [W4, ← hP3]
    exact hW
  obtain ⟨I5, b5, hT5, f5, -⟩ := C_back0 (L := L) hT4
  refine ⟨I5, ?_, hT5, FN_tr f1 (FN_tr f2 (FN_tr f3 (FN_tr f4 f5)))⟩
  have tail : ∀ {u9' : Option Value} {y8 : Int32}, K2 131 297 [some (.ref 1), u1, some (.int (nI k)), some (.int (nI a)), some (.int (P0.2.2.1 0 + P0.2.2.1 1)), some (.int y5), some (.int y6), some (.int (nI s)), some (.int y8), u9'] [] (E 104 0 [some (.ref 1), some (.int (nI a)), some (.int 1), some (.int (nI s)), none] [] (GG L) I2) = some (some (.int 1), GG L, I5) := by
    intro u9' y8
    have b5' : E 114 0 [some (.ref 1), some (.int 0)] [] (GG L) I4 = some (some (.int (nI a)), GG L, I5) := b5.trans (by rw [hI0.2.1.1])
    rw [b3', K2_i, B131_297, if_pos rfl, b4, K2_i, B131_306, if_pos rfl, Q_s10 hT4.2.1, K2_i, B131_323, if_pos (by rw [hW6]), b5', K2_i, B131_333, if_pos rfl, G_get hn hT5 hI0.1 hI0.2 hk, K2_i, B131_342, if_pos h6.symm, G_rec hn hT5 hI0.1 hI0.2 hk, K2_i, B131_352, if_pos h5.symm]
  have ha1 : (1 - a) < 2 := by omega
  rw [c1, K2_i, B131_195, sub1 ha, Q_p2 hT.1 hT.2.1 ha1, K2_i, B131_205, b1', K2_i, B131_215, if_pos rfl, Q_p2 hT1.1 hT1.2.1 ha, K2_i, B131_226, tI_f hbad, if_pos rfl, Q_p3n hT1.1 hT1.2.1 ha hbad, K2_i, B131_235, if_pos rfl, b2, K2_i, B131_244]
  have h45 : P4.2.1 5 = actI n (P3.2.2.2.2.1 0) (P3.2.2.2.2.1 1) := by
    rw [← hP4]
    by_cases q : actI n (P3.2.2.2.2.1 0) (P3.2.2.2.2.1 1) = -6
    · rw [show rst n g e P3 = _ from if_pos q, q]; rfl
    · rw [show rst n g e P3 = _ from if_neg q]; rfl
  by_cases hH : Hdx n (P.2.2.2.2.1 (1 - a))
  · rw [if_pos hH] at hact
    rw [tI_t hH, if_neg (by decide), h45, hact, sub1 ha, if_pos rfl]
    exact tail
  · rw [if_neg hH] at hact
    have h46 : P4.2.1 6 = -6 := by rw [← hP4, show rst n g e P3 = _ from if_pos hact]; rfl
    rw [tI_f hH, if_pos rfl, h45, hact, if_pos rfl, Q_getn hT2.1 hT2.2.1 w4 h46, K2_i, B131_263, if_pos rfl, Q_s6n hT2.1 hT2.2.1 h46, K2_i, B131_273, if_pos rfl]
    exact tail
end SP
