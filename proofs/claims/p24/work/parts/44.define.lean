/-! ===== p24: versions defined ===== -/
section DF
variable {L : Nat × Nat} {n : Nat} {g e Z : Nat → Nat → Nat} {I : It} {P : Pc} {o0 o1 : Option Pc}
theorem T_def {p : Nat} {I1 I2 : It} (h55 : E 55 0 [some (.ref 2), none] [] (GG L) I = some (some (.int (-6)), GG L, I1)) (hn : n < 6) (h9 : I1 9 2 = nI n) (h46 : E 46 0 [some (.ref 9), some (.int (nI n - 1))] [] (GG L) I1 = some (some (.ref p), GG L, I1)) (hp : kd (GG L) p = 1) (h37 : E 37 0 [some (.ref (21 + 10 * n)), some (.ref p), some (.ref 4), none] [] (GG L) I1 = some (some (.int 1), GG L, I2)) (h92 : I2 9 2 = nI n) : E 94 0 [some (.ref 1)] [] (GG L) I = some (some (.int (nI n)), GG L, uI (uI I2 9 2 (nI (n + 1))) 2 2 0) := by
  rw [B94_0, h55, K2_i, B94_7, if_pos rfl, B44_0, K2_i, B94_22, h9, if_pos (show nI n < (6 : Int32) from nI_lt (b := 6) hn (by decide)), B51_0, K2_i, B94_41 k_4, B47_0 k_4, h9, if_neg (show ¬ (6 : Int32) ≤ nI n from nI_ge (a := n) (b := 6) hn (by decide)), ck_of (inb_nI hn (by decide)), ix_nI (by omega), h46, K2_i, B47_28 k_4 (k_lay hn) hp, h37, K2_i, B47_32, if_neg (by decide), K2_i, B94_44, if_neg (by decide), B52_0, K2_v, B94_57, B44_0, K2_i, B94_64, h92, nI_1, uI_a _ 2 2 _ 9 2 (by decide), uI_s, nI_pred]
/-- a layout made from the one before it, up to its steps -/
theorem T_make {o p : Nat} (ho : kd (GG L) o = 1) (hp : kd (GG L) p = 1) (hpo : p + 4 < o) (h9 : 9 ≤ p) (hT : ∀ j, j < 10 → I (p + 1) j = 0 ∨ I (p + 1) j = 1) : ∃ I3, E 37 0 [some (.ref o), some (.ref p), some (.ref 4), none] [] (GG L) I = K2 37 73 [some (.ref o), some (.ref p), some (.ref 4), some (.int (nI 10))] [] (E 89 2 [some (.ref (o + 5)), some (.ref o), some (.int (nI 0))] [] (GG L) I3) ∧ LaS o (I (p + 1)) (I (p + 2)) (I (p + 3)) nI I3 ∧ (∀ i, i < 27 → I3 (o + 6) i = I 5 i ∧ I3 (o + 7) i = I 6 i ∧ I3 (o + 8) i = I 7 i ∧ I3 (o + 9) i = I 8 i) ∧ I3 (o + 5) 4 = I 4 4 ∧ ∀ a, a ≤ o ∨ o + 9 < a → I3 a = I a := by
  have k5 : kd (GG L) (o + 5) = 5 := wk_1_4 ho
  obtain ⟨I1, a1, f1, s1⟩ := S37 (L := L) (I := I) ho hp hpo hT 10 0 (I1 := I) rfl (fun _ _ => rfl) (fun _ _ => rfl) (fun j hj => absurd hj (Nat.not_lt_zero _))
  have a1' : E 37 2 [some (.ref o), some (.ref p), some (.ref 4), some (.int 0)] [] (GG L) I = _ := a1
  have b0 := B37_0 (L := L) (o0 := o) (o1 := p) (o2 := 4) (I := I) ho hp k_4
  rw [a1', B37_2 ho hp k_4, if_pos (by decide), B88_0 k5 k_4, K2_v, B37_65 ho, B89_0 k5 ho] at b0
  obtain ⟨I3, hI3⟩ : ∃ I3, uI (cpI (cpI (cpI (cpI I1 (4 + 1) (o + 5 + 1) 0 0 27) (4 + 2) (o + 5 + 2) 0 0 27) (4 + 3) (o + 5 + 3) 0 0 27) (4 + 4) (o + 5 + 4) 0 0 27) (o + 5) 4 ((cpI (cpI (cpI (cpI I1 (4 + 1) (o + 5 + 1) 0 0 27) (4 + 2) (o + 5 + 2) 0 0 27) (4 + 3) (o + 5 + 3) 0 0 27) (4 + 4) (o + 5 + 4) 0 0 27) 4 4) = I3 := ⟨_, rfl⟩
  rw [hI3] at b0
  have oo : ∀ a, a ≠ o + 5 → a ≠ o + 6 → a ≠ o + 7 → a ≠ o + 8 → a ≠ o + 9 → I3 a = I1 a := fun a q5 q6 q7 q8 q9 => by
    rw [← hI3, uI_o _ _ _ _ _ q5, cp_o _ _ _ _ _ (by omega), cp_o _ _ _ _ _ (by omega), cp_o _ _ _ _ _ (by omega), cp_o _ _ _ _ _ (by omega)]
  refine ⟨I3, b0, fun j hj => ?_, fun i hi => ⟨?_, ?_, ?_, ?_⟩, ?_, fun a ha => ?_⟩
  · rw [oo _ (by omega) (by omega) (by omega) (by omega) (by omega), oo _ (by omega) (by omega) (by omega) (by omega) (by omega), oo _ (by omega) (by omega) (by omega) (by omega) (by omega), oo _ (by omega) (by omega) (by omega) (by omega) (by omega)]
    exact s1 j hj
  · rw [← hI3, uI_o _ _ _ _ _ (by omega), cp_o _ _ _ _ _ (by omega), cp_o _ _ _ _ _ (by omega), cp_o _ _ _ _ _ (by omega), show o + 6 = o + 5 + 1 by omega, cp_s _ _ _ _ _ hi, f1 _ (by omega)]
  · rw [← hI3, uI_o _ _ _ _ _ (by omega), cp_o _ _ _ _ _ (by omega), cp_o _ _ _ _ _ (by omega), show o + 7 = o + 5 + 2 by omega, cp_s _ _ _ _ _ hi, cp_o _ _ _ _ _ (by omega), f1 _ (by omega)]
  · rw [← hI3, uI_o _ _ _ _ _ (by omega), cp_o _ _ _ _ _ (by omega), show o + 8 = o + 5 + 3 by omega, cp_s _ _ _ _ _ hi, cp_o _ _ _ _ _ (by omega), cp_o _ _ _ _ _ (by omega), f1 _ (by omega)]
  · rw [← hI3, uI_o _ _ _ _ _ (by omega), show o + 9 = o + 5 + 4 by omega, cp_s _ _ _ _ _ hi, cp_o _ _ _ _ _ (by omega), cp_o _ _ _ _ _ (by omega), cp_o _ _ _ _ _ (by omega), f1 _ (by omega)]
  · rw [← hI3, uI_s, cp_o _ _ _ _ _ (by omega), cp_o _ _ _ _ _ (by omega), cp_o _ _ _ _ _ (by omega), cp_o _ _ _ _ _ (by omega), f1 _ (by omega)]
  · rw [oo a (by omega) (by omega) (by omega) (by omega) (by omega), f1 a (by omega)]
/-- the memory behind a definition: layouts up to n, the pad empty, the rest as it was -/
theorem TT_def {I' : It} (h : TT n g e Z P o0 o1 I) {n' : Nat} {g' e' Z' : Nat → Nat → Nat} (hR : Ly n' g' e' Z' I') (hI : ∀ a, 81 ≤ a → I' a = I a) : TT n' g' e' Z' P o0 o1 I' := by
  refine ⟨hR, Rd_oth h.2.1 (fun a q1 q2 => hI a (by omega)), ?_, ?_⟩
  · have hi := h.2.2.1
    cases o0 with
    | none => show I' 118 0 = 0; rw [hI 118 (by decide)]; exact hi
    | some P1 => exact ⟨by rw [hI 118 (by decide)]; exact hi.1, Rd_oth hi.2 (fun b q1 q2 => hI b (by omega))⟩
  · have hi := h.2.2.2
    cases o1 with
    | none => show I' 118 1 = 0; rw [hI 118 (by decide)]; exact hi
    | some P1 => exact ⟨by rw [hI 118 (by decide)]; exact hi.1, Rd_oth hi.2 (fun b q1 q2 => hI b (by omega))⟩
theorem Pd_nil {I : It} (h : I 2 2 = 0) : Pd [] I := ⟨h, fun k hk => absurd hk (Nat.not_lt_zero _)⟩
/-- the first version -/
def tx0 (gg dd : Nat → Nat) : List Nat := 43 :: (97 + 0) :: (dg (gg 0) ++ 61 :: (dg (dd 0) ++ (44 :: 43 :: (97 + 1) :: (dg (gg 1) ++ 61 :: (dg (dd 1) ++ (44 :: 43 :: (97 + 2) :: (dg (gg 2) ++ 61 :: (dg (dd 2) ++ []))))))))
theorem tx0_len (gg dd : Nat → Nat) : (tx0 gg dd).length = 11 + (dg (gg 0)).length + (dg (dd 0)).length + (dg (gg 1)).length + (dg (dd 1)).length + (dg (gg 2)).length + (dg (dd 2)).length := by
  unfold tx0
  simp only [List.length_cons, List.length_append, List.length_nil]
  omega
theorem C_def0 {gg dd : Nat → Nat} (hgg : ∀ k, k < 3 → gg k < 256) (hdd : ∀ k, k < 3 → dd k ≤ gg k) (hC : Ch (tx0 gg dd)) (hT : TT 0 g e Z P o0 o1 I) (h : Pd (tx0 gg dd) I) : ∃ I', E 94 0 [some (.ref 1)] [] (GG L) I = some (some (.int 0), GG L, I') ∧ TT 1 (fun _ => gg) (fun _ => dd) Z P o0 o1 I' ∧ Pd [] I' ∧ ∀ a, 81 ≤ a ∨ a = 0 → I' a = I a := by
  have hlen := tx0_len gg dd
  have hl3 : ∀ v, (dg v).length ≤ 3 := fun v => dg_le
  have q1 := hl3 (gg 0)
  have q2 := hl3 (dd 0)
  have q3 := hl3 (gg 1)
  have q4 := hl3 (dd 1)
  have q5 := hl3 (gg 2)
  have q6 := hl3 (dd 2)
  have hTc := Tc_T hC (by omega)
  have hd256 : ∀ k, k < 3 → dd k < 256 := fun k hk => by have h1 := hgg k hk; have h2 := hdd k hk; omega
  have nd0 : ∀ x t, x < 48 → nd (x :: t) := fun x t hx z => absurd z.1 (by show ¬ 48 ≤ x; omega)
  have ndn : nd [] := fun z => absurd z.1 (show ¬ 48 ≤ 0 by decide)
  -- the steps
  obtain ⟨s0, c0⟩ := stp_add (c := cT (tx0 gg dd)) (a := 0) (k := 0) (g := gg 0) (d := dd 0) (rest := 44 :: 43 :: (97 + 1) :: (dg (gg 1) ++ 61 :: (dg (dd 1) ++ (44 :: 43 :: (97 + 2) :: (dg (gg 2) ++ 61 :: (dg (dd 2) ++ [])))))) (by decide) (hgg 0 (by decide)) (hd256 0 (by decide)) (fun i => by rw [Nat.zero_add]; rfl) (nd0 _ _ (by decide))
  obtain ⟨b0, hb0⟩ : ∃ b0, 0 + (3 + (dg (gg 0)).length + (dg (dd 0)).length) = b0 := ⟨_, rfl⟩
  rw [hb0] at s0 c0
  obtain ⟨s1, c1⟩ := stp_add (c := cT (tx0 gg dd)) (a := b0 + 1) (k := 1) (g := gg 1) (d := dd 1) (rest := 44 :: 43 :: (97 + 2) :: (dg (gg 2) ++ 61 :: (dg (dd 2) ++ []))) (by decide) (hgg 1 (by decide)) (hd256 1 (by decide)) (fun i => by rw [Nat.add_assoc, Nat.add_comm 1 i, c0]; rfl) (nd0 _ _ (by decide))
  obtain ⟨b1, hb1⟩ : ∃ b1, b0 + 1 + (3 + (dg (gg 1)).length + (dg (dd 1)).length) = b1 := ⟨_, rfl⟩
  rw [hb1] at s1 c1
  obtain ⟨s2, -⟩ := stp_add (c := cT (tx0 gg dd)) (a := b1 + 1) (k := 2) (g := gg 2) (d := dd 2) (rest := []) (by decide) (hgg 2 (by decide)) (hd256 2 (by decide)) (fun i => by rw [Nat.add_assoc, Nat.add_comm 1 i, c1]; rfl) ndn
  rw [show b1 + 1 + (3 + (dg (gg 2)).length + (dg (dd 2)).length) = (tx0 gg dd).length by omega] at s2
  have hc0 : cT (tx0 gg dd) b0 = 44 := c0 0
  have hc1 : cT (tx0 gg dd) b1 = 44 := c1 0
  -- read
  obtain ⟨I0, hI0⟩ : ∃ I0, uI I 4 4 0 = I0 := ⟨_, rfl⟩
  have t0 : TI (tx0 gg dd).length (cT (tx0 gg dd)) I0 := ⟨by rw [← hI0, uI_o _ _ _ _ _ (by decide)]; exact h.1, fun k hk => by rw [← hI0, uI_o _ _ _ _ _ (by decide)]; exact h.2 k hk⟩
  have h40 : I0 4 4 = nI 0 := by rw [← hI0, uI_s]; rfl
  have r0 := R_next (L := L) (i := 0) hTc t0 (Nat.zero_le _) h40 (by decide) s0 hc0
  have t1 := TI_A 0 0 0 (gg 0) (dd 0) t0
  have r1 := R_next (L := L) (i := 0 + 1) hTc t1 (by omega) (App_4 _ _ _ _ _ _) (by decide) s1 hc1
  have t2 := TI_A (0 + 1) 0 1 (gg 1) (dd 1) t1
  have r2 := R_last (L := L) (i := 0 + 1 + 1) hTc t2 (by omega) (App_4 _ _ _ _ _ _) (by decide) s2
  obtain ⟨I1, hI1⟩ : ∃ I1, AI (App (App (App I0 0 0 0 (gg 0) (dd 0)) (0 + 1) 0 1 (gg 1) (dd 1)) (0 + 1 + 1) 0 2 (gg 2) (dd 2)) (tx0 gg dd).length = I1 := ⟨_, rfl⟩
  have h55 : E 55 0 [some (.ref 2), none] [] (GG L) I = some (some (.int (-6)), GG L, I1) := by
    rw [R_0, hI0, r0, r1, r2, hI1]
  have w0 : Rw I1 0 0 0 (gg 0) (dd 0) := by rw [← hI1]; exact Rw_A _ (Rw_old _ _ _ _ _ (by decide) (Rw_old _ _ _ _ _ (by decide) (Rw_new _ _ _ _ _ _)))
  have w1 : Rw I1 1 0 1 (gg 1) (dd 1) := by rw [← hI1]; exact Rw_A _ (Rw_old _ _ _ _ _ (by decide) (Rw_new _ _ _ _ _ _))
  have w2 : Rw I1 2 0 2 (gg 2) (dd 2) := by rw [← hI1]; exact Rw_A _ (Rw_new _ _ _ _ _ _)
  have h41 : I1 4 4 = nI 3 := by rw [← hI1, AI_o _ _ _ (by decide)]; exact App_4 _ _ _ _ _ _
  have f1 : ∀ a, a ≠ 2 → (a < 4 ∨ 8 < a) → I1 a = I a := fun a p1 p2 => by
    rw [← hI1, AI_o _ _ _ p1, FR_A _ _ _ _ _ _ a p1 p2, FR_A _ _ _ _ _ _ a p1 p2, FR_A _ _ _ _ _ _ a p1 p2, ← hI0, uI_o _ _ _ _ _ (by omega)]
  have hR := hT.1
  have hR1 : Ly 0 g e Z I1 := Ly_congr hR (fun a p1 _ => f1 a (by omega) (by omega))
  have h46 : E 46 0 [some (.ref 9), some (.int (nI 0 - 1))] [] (GG L) I1 = some (some (.ref 10), GG L, I1) := S46n hR1 (fun v hv => absurd hv (Nat.not_lt_zero _))
  -- the layout
  have ho : kd (GG L) 21 = 1 := k_lay (v := 0) (by decide)
  obtain ⟨I3, a3, l3, w3, n3, f3⟩ := T_make (L := L) (I := I1) (o := 21) (p := 10) ho k_emp (by decide) (by decide) (fun j hj => Or.inl (hR1.2.2.1 j hj))
  have e4 : I3 (21 + 5) 4 = nI 3 := n3.trans h41
  have hrow : ∀ {i : Nat} {I4 : It}, FO 21 I3 I4 → i < 27 → I4 (21 + 6) i = I1 5 i ∧ I4 (21 + 7) i = I1 6 i ∧ I4 (21 + 8) i = I1 7 i ∧ I4 (21 + 9) i = I1 8 i := fun {i I4} ff hi => by
    rw [ff _ (by omega), ff _ (by omega), ff _ (by omega), ff _ (by omega)]; exact w3 i hi
  have add1 : ∀ {T G D B : Nat → Int32} {i k : Nat} {I4 : It}, FO 21 I3 I4 → LaS 21 T G D B I4 → i < 3 → k < 3 → T k = 0 → Rw I1 i 0 k (gg k) (dd k) → ∃ I5, E 89 2 [some (.ref (21 + 5)), some (.ref 21), some (.int (nI i))] [] (GG L) I4 = E 89 2 [some (.ref (21 + 5)), some (.ref 21), some (.int (nI (i + 1)))] [] (GG L) I5 ∧ FO 21 I3 I5 ∧ LaS 21 (up T k 1) (up G k (nI (gg k))) (up D k (nI (dd k))) (up B k (-6)) I5 := by
    intro T G D B i k I4 ff hl hi hk hTk hw
    obtain ⟨u1, u2, u3, u4⟩ := hrow ff (show i < 27 by omega)
    obtain ⟨z1, z2, z3, z4⟩ := hw
    obtain ⟨I5, b1, b2, b3⟩ := S38 (L := L) (g := gg k) (d := dd k) ho (show k < 10 by omega) hTk (hdd k hk) (hgg k hk) hl
    refine ⟨I5, S89 (m := 3) (kk := 0) (n := k) (A := gg k) (B' := dd k) ho hi (by decide) ((congrFun (ff (21 + 5) (Or.inr (by decide))) 4).trans e4) (u1.trans z1) (u2.trans z2) (u3.trans z3) (u4.trans z4) ?_, FO_tr ff b3, b2⟩
    rw [S90_0 ho b1, B90_36, ck_of (by decide)]
  have T0 : ∀ j, j < 10 → I1 11 j = 0 := hR1.2.2.1
  obtain ⟨I4, b4, f4, l4⟩ := add1 (i := 0) (k := 0) (fun _ _ => rfl) l3 (by decide) (by decide) (T0 0 (by decide)) w0
  obtain ⟨I5, b5, f5, l5⟩ := add1 (i := 1) (k := 1) f4 l4 (by decide) (by decide) ((up_k _ _ _ (by decide)).trans (T0 1 (by decide))) w1
  obtain ⟨I6, b6, f6, l6⟩ := add1 (i := 2) (k := 2) f5 l5 (by decide) (by decide) ((up_k _ _ _ (by decide)).trans ((up_k _ _ _ (by decide)).trans (T0 2 (by decide)))) w2
  have b7 := S89e (L := L) (m := 3) (I := I6) ho ((congrFun (f6 (21 + 5) (Or.inr (by decide))) 4).trans e4)
  have h37 : E 37 0 [some (.ref (21 + 10 * 0)), some (.ref 10), some (.ref 4), none] [] (GG L) I1 = some (some (.int 1), GG L, I6) := by
    refine a3.trans ?_
    rw [b4, b5, b6, b7, K2_i, B37_73, ck_of (by decide)]
  have g6 : ∀ a, a ≤ 21 ∨ 30 < a → I6 a = I1 a := fun a ha => (f6 a (by omega)).trans (f3 a (by omega))
  have h96 : I6 9 2 = nI 0 := by rw [g6 9 (by decide)]; exact hR1.2.1
  have hd := T_def (L := L) (n := 0) h55 (by decide) hR1.2.1 h46 k_emp h37 h96
  have of : ∀ a, a ≠ 2 → a ≠ 9 → uI (uI I6 9 2 (nI (0 + 1))) 2 2 0 a = I6 a := fun a p1 p2 => by rw [uI_o _ _ _ _ _ p1, uI_o _ _ _ _ _ p2]
  have fin : ∀ a, 81 ≤ a ∨ a = 0 → uI (uI I6 9 2 (nI (0 + 1))) 2 2 0 a = I a := fun a ha => by rw [of a (by omega) (by omega), g6 a (by omega), f1 a (by omega) (by omega)]
  refine ⟨_, hd, TT_def hT ?_ (fun a ha => fin a (Or.inl ha)), Pd_nil (uI_s _ _ _ _), fin⟩
  refine ⟨by decide, by rw [uI_a _ _ _ _ _ _ (by decide), uI_s], fun k hk => by rw [of 11 (by decide) (by decide), g6 11 (by decide)]; exact T0 k hk, fun v hv _ => ?_⟩
  have hv0 : v = 0 := by omega
  subst hv0
  refine ⟨fun k hk => ?_, fun k hk => ?_, fun z => absurd z (by decide)⟩
  · rw [show 22 + 10 * 0 = 21 + 1 from rfl, of _ (by decide) (by decide), (l6 k hk).1]
    by_cases z2 : k = 2
    · subst z2; rw [up_s]; rfl
    · rw [up_k _ _ _ z2]
      by_cases z1 : k = 1
      · subst z1; rw [up_s]; rfl
      · rw [up_k _ _ _ z1]
        by_cases z0 : k = 0
        · subst z0; rw [up_s]; rfl
        · rw [up_k _ _ _ z0, if_neg (by omega)]; exact T0 k hk
  · rw [show 23 + 10 * 0 = 21 + 2 from rfl, show 24 + 10 * 0 = 21 + 3 from rfl, of _ (by decide) (by decide), of _ (by decide) (by decide), (l6 k (by omega)).2.1, (l6 k (by omega)).2.2.1]
    refine ⟨?_, ?_, hgg k hk, hdd k hk⟩
    · have : k = 0 ∨ k = 1 ∨ k = 2 := by omega
      rcases this with rfl | rfl | rfl
      · rw [up_k _ _ _ (by decide), up_k _ _ _ (by decide), up_s]
      · rw [up_k _ _ _ (by decide), up_s]
      · rw [up_s]
    · have : k = 0 ∨ k = 1 ∨ k = 2 := by omega
      rcases this with rfl | rfl | rfl
      · rw [up_k _ _ _ (by decide), up_k _ _ _ (by decide), up_s]
      · rw [up_k _ _ _ (by decide), up_s]
      · rw [up_s]
end DF
