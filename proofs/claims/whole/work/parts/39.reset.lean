theorem W_reset {L n d v : Nat} {I J : It} (hd : kd (GG L) d = 0) (hd81 : 81 ≤ d) (hdJ : d + 8 < 119) (hR : Ry n I J) (hD : Rd n (J 125) I d (J 120)) (hv : v < n) :
    ∃ I' J' r, E 25 0 [some (.ref d), some (.int (nI v)), none] [] (GG L) I = some (some (.int r), GG L, I') ∧ K2 157 32 [some (.ref 119), some (.int (nI v))] [] (E 133 0 [some (.ref 119), some (.int 0), none] [] (GG L) (uI J 119 16 0)) = some (some (.int r), GG L, J') ∧ Rd n (J 125) I' d (J' 120) ∧ FDI d I I' ∧ FDJ J J' := by
  have hn := hR.1
  obtain ⟨hc, d5, d6, d7, d9, hrest⟩ := id hD
  have k1 := k_pg (L := L) (p := 0) hd (by decide)
  have k3 := k_pg (L := L) (p := 1) hd (by decide)
  have hl := k_lay (L := L) (v := v) (by omega)
  obtain ⟨J0, hJ0⟩ : ∃ J0, uI J 119 16 0 = J0 := ⟨_, rfl⟩
  have oJ0 : ∀ a, a ≠ 119 → J0 a = J a := fun a h => by rw [← hJ0, uI_o _ _ _ _ _ h]
  have fJ0 : FDJ J J0 := ⟨fun a q _ _ _ => oJ0 a q, fun j hj => by rw [← hJ0, uI_k _ _ _ _ _ (by omega)]⟩
  have w0 : J0 119 16 = 0 := by rw [← hJ0, uI_s]
  obtain ⟨I1, J1, a1, a2, hc1, f1, g1, w1⟩ := W_erase (L := L) k1 (by decide) (show Rc I d (J0 120) by rw [oJ0 120 (by decide)]; exact hc)
  obtain ⟨I2, J2, b1, b2, hc2, f2, g2, w2⟩ := W_erase (L := L) k3 (by decide) hc1
  obtain ⟨I3, J3, r, c1, c2, hc3, f3, g3, w3⟩ := W_head (L := L) (v := v) (s := 0) hd k1 (by decide) (by omega) (by decide) hc2
  have a1' : E 70 0 [some (.ref (d + 1)), none] [] (GG L) I = some (none, GG L, I1) := a1
  have b1' : E 70 0 [some (.ref (d + 3)), none] [] (GG L) I1 = some (none, GG L, I2) := b1
  have c1' : E 28 0 [some (.ref d), some (.ref (d + 1)), some (.int (nI v)), some (.int 0), none] [] (GG L) I2 = some (some (.int r), GG L, I3) := c1
  have a2' : E 133 0 [some (.ref 119), some (.int 0), none] [] (GG L) J0 = some (none, GG L, J1) := a2
  have b2' : E 133 0 [some (.ref 119), some (.int 1), none] [] (GG L) J1 = some (none, GG L, J2) := b2
  have c2' : E 137 0 [some (.ref 119), some (.int 0), some (.int (nI v)), some (.int 0)] [] (GG L) J2 = some (none, GG L, J3) := c2
  have e0 := B25_0 (L := L) (x1 := nI v) (I := I) hd
  rw [a1', K2_v, B25_7 hd, b1', K2_v, B25_14 hd, c1', K2_i, B25_24 hd] at e0
  obtain ⟨X, hX⟩ : ∃ X, K2 157 32 [some (.ref 119), some (.int (nI v))] [] (E 133 0 [some (.ref 119), some (.int 0), none] [] (GG L) J0) = X := ⟨_, rfl⟩
  have e1 := hX
  rw [a2', K2_v, B157_32, b2', K2_v, B157_37, c2', K2_v, B157_44] at e1
  rw [hJ0, hX]
  have fI : FI d I I3 := FI_tr (FI_tr f1 f2) f3
  have fJ : FJ J0 J3 := FJ_tr (FJ_tr g1 g2) g3
  have wr : J3 119 16 = r := by rw [w3, w2, w1, w0, Int32.zero_add]
  have fJ' : FDJ J J3 := FDJ_tr fJ0 ⟨fun a q1 q2 _ _ => fJ.1 a q1 q2, fun j hj => fJ.2.1 j (by omega)⟩
  have fI' : FDI d I I3 := fun a q => fI.1 a (by omega)
  have D3r : ∀ j, (2 ≤ j ∧ j < 7) ∨ (11 ≤ j ∧ j < 21) ∨ 117 ≤ j → J3 120 j = J 120 j := fun j hj => by rw [fJ.2.2 j hj, oJ0 120 (by decide)]
  have cc := hc3.1
  by_cases hz : J3 120 0 = 0
  · rw [if_pos (cc.trans hz), B25_56] at e0
    rw [if_neg (by rw [hz]; decide), B157_87, wr] at e1
    refine ⟨I3, J3, r, e0, e1.symm, ⟨hc3, ?_, ?_, ?_, ?_, ?_⟩, fI', fJ'⟩
    · rw [fI.2 5 (by decide) (by decide), D3r 2 (by omega)]; exact d5
    · rw [fI.2 6 (by decide) (by decide), D3r 3 (by omega)]; exact d6
    · rw [fI.2 7 (by decide) (by decide), D3r 4 (by omega)]; exact d7
    · rw [fI.2 9 (by decide) (by decide), D3r 6 (by omega)]; exact d9
    · rw [fI.2 8 (by decide) (by decide), D3r 2 (by omega), D3r 3 (by omega), D3r 4 (by omega), D3r 5 (by omega)]
      rcases hrest with h | ⟨p, v0, s, e, hp, hv0, hs, he, q2, q3, q4, q5, q8, hVr⟩
      · exact Or.inl h
      · exact Or.inr ⟨p, v0, s, e, hp, hv0, hs, he, q2, q3, q4, q5, q8, Vr_c hVr (fI.1 _ (by omega)) (fI.1 _ (by omega)) (fun j hj => D3r j (by omega))⟩
  · have hone : J3 120 0 = 1 := hc3.2.1.resolve_left hz
    rw [if_neg (by rw [cc]; exact hz)] at e0
    rw [if_pos hone] at e1
    obtain ⟨I4, hI4⟩ : ∃ I4, uI (uI (uI (uI I3 d 5 0) d 6 (nI v)) d 7 0) d 8 3 = I4 := ⟨_, rfl⟩
    obtain ⟨J4, hJ4⟩ : ∃ J4, uI (uI (uI (uI J3 120 2 0) 120 3 (nI v)) 120 4 0) 120 5 3 = J4 := ⟨_, rfl⟩
    rw [hI4] at e0
    rw [hJ4] at e1
    have oI4 : ∀ a, a ≠ d → I4 a = I3 a := fun a h => by rw [← hI4, uI_o _ _ _ _ _ h, uI_o _ _ _ _ _ h, uI_o _ _ _ _ _ h, uI_o _ _ _ _ _ h]
    have oJ4 : ∀ a, a ≠ 120 → J4 a = J3 a := fun a h => by rw [← hJ4, uI_o _ _ _ _ _ h, uI_o _ _ _ _ _ h, uI_o _ _ _ _ _ h, uI_o _ _ _ _ _ h]
    have pI4 : ∀ j, j ≠ 5 → j ≠ 6 → j ≠ 7 → j ≠ 8 → I4 d j = I3 d j := fun j q5 q6 q7 q8 => by rw [← hI4, uI_k _ _ _ _ _ q8, uI_k _ _ _ _ _ q7, uI_k _ _ _ _ _ q6, uI_k _ _ _ _ _ q5]
    have pJ4 : ∀ j, j < 2 ∨ 6 ≤ j → J4 120 j = J3 120 j := fun j h => by rw [← hJ4, uI_k _ _ _ _ _ (by omega), uI_k _ _ _ _ _ (by omega), uI_k _ _ _ _ _ (by omega), uI_k _ _ _ _ _ (by omega)]
    have i46 : I4 d 6 = nI v := by rw [← hI4]; simp [uI]
    have hR4 : Ry n I4 J3 := Ry_congr hR (fun a ha => by rw [oI4 a (by omega)]; exact fI' a (by omega)) (fJ'.2 6 (by decide)) (fun a q1 q2 => fJ'.1 a (by omega) (by omega) (by omega) (by omega))
    obtain ⟨I5, e5, h1, h2, h3⟩ := S19 (L := L) (o := 21 + 10 * v) hd (wk_0_10 hd) (wl_0_10 hd) hd81 hl (by omega) 10 0 I4 rfl (fun I' h h' => S10 (Ry_congr hR4 h rfl (fun _ _ _ => rfl)) hd hv (h'.trans i46))
    obtain ⟨J5, f5, m1, m2, m3, m4⟩ := S142 (L := L) (v := v) (by omega) 10 0 J4 rfl
    have e5' : E 19 0 [some (.ref d), none] [] (GG L) I4 = some (none, GG L, I5) := (B19_0 hd).trans e5
    have f5' : E 142 0 [some (.ref 119), some (.int (nI v)), none] [] (GG L) J4 = some (none, GG L, J5) := B142_0.trans f5
    have i5d : I5 d = I4 d := h1 d (by omega) (by omega)
    have wr5 : J5 119 16 = r := by rw [m1 119 (by decide), oJ4 119 (by decide)]; exact wr
    rw [e5', K2_v, B25_56] at e0
    rw [f5', K2_v, B157_87, wr5] at e1
    have pp : ∀ j, j < 2 ∨ (6 ≤ j ∧ j < 11) ∨ (21 ≤ j ∧ j < 117) → J5 120 j = J3 120 j := fun j hj => by rw [m4 j (by omega), pJ4 j (by omega)]
    refine ⟨I5, J5, r, e0, e1.symm, ⟨?_, ?_, ?_, ?_, ?_, Or.inr ⟨0, v, 0, 3, by decide, hv, by decide, by decide, ?_, ?_, ?_, ?_, ?_, ?_⟩⟩, ?_, ?_⟩
    · exact Rc_keep hc3 (fun a q1 q2 => by rw [h1 a (by omega) (by omega), oI4 a (by omega)]) (by rw [i5d, pI4 3 (by decide) (by decide) (by decide) (by decide)]) (by rw [i5d, pI4 4 (by decide) (by decide) (by decide) (by decide)]) (fun j hj => pp j (by omega))
    · rw [i5d, m4 2 (by omega), ← hI4, ← hJ4]; simp [uI]
    · rw [i5d, m4 3 (by omega), ← hI4, ← hJ4]; simp [uI]
    · rw [i5d, m4 4 (by omega), ← hI4, ← hJ4]; simp [uI]
    · rw [i5d, pI4 9 (by decide) (by decide) (by decide) (by decide), pp 6 (by omega), fI.2 9 (by decide) (by decide), D3r 6 (by omega)]; exact d9
    · rw [m4 2 (by omega), ← hJ4]; simp [uI]; rfl
    · rw [m4 3 (by omega), ← hJ4]; simp [uI]
    · rw [m4 4 (by omega), ← hJ4]; simp [uI]; rfl
    · rw [m4 5 (by omega), ← hJ4]; simp [uI]; rfl
    · rw [i5d, ← hI4]; simp [uI]; rfl
    · intro k hk hT
      obtain ⟨t1, t2, t3, t4, t5, t6, t7⟩ := (hR4.2.2.2.2 v hv).1 k hk
      have e125 : J3 125 = J 125 := fJ'.1 125 (by decide) (by decide) (by decide) (by decide)
      rw [e125] at t2
      rw [h2 k hk, h3 k hk, m2 k hk, m3 k hk, if_pos (Nat.zero_le _), if_pos (Nat.zero_le _), if_pos (Nat.zero_le _), if_pos (Nat.zero_le _), show 21 + 10 * v + 1 = 22 + 10 * v by omega, show 21 + 10 * v + 3 = 24 + 10 * v by omega, t2, if_neg hT, t5, oJ4 127 (by decide)]
      exact ⟨rfl, t6, rfl⟩
    · intro a ha
      rw [h1 a (by omega) (by omega), oI4 a (by omega)]; exact fI' a ha
    · exact FDJ_tr fJ' ⟨fun a _ q _ _ => by rw [m1 a q, oJ4 a q], fun j _ => by rw [m1 119 (by decide), oJ4 119 (by decide)]⟩
/-- the pad -/
def Rp (I J : It) : Prop := ∃ l, l ≤ 80 ∧ I 2 2 = nI l ∧ J 119 5 = nI l ∧ ∀ k, k < l → I 3 k = J 124 k ∧ ∃ c, 33 ≤ c ∧ c ≤ 126 ∧ J 124 k = nI c
/-- the class's objects as the reference has it all -/
def RR (n : Nat) (I J : It) : Prop := Ry n I J ∧ Rd n (J 125) I 81 (J 120) ∧ (∀ i, i < 2 → I 118 i = J 123 i ∧ (J 123 i = 0 ∨ J 123 i = 1) ∧ (J 123 i = 1 → Rd n (J 125) I (100 + 9 * i) (fun j => J 122 (127 * i + j)))) ∧ Rp I J
/-- a call of the class and one of the reference answer alike -/
def Sm (m : Nat) (as : List (Option Value)) (m' : Nat) (as' : List (Option Value)) : Prop := ∀ (L n : Nat) (I J : It), RR n I J → ∃ I' J' n' r, E m 0 as [] (GG L) I = some (some (.int r), GG L, I') ∧ E m' 0 as' [] (GG L) J = some (some (.int r), GG L, J') ∧ RR n' I' J' ∧ (∀ a, a = 0 ∨ 119 ≤ a → I' a = I a) ∧ ∀ a, a < 119 → J' a = J a
theorem Ry_2 {n : Nat} {I J I' J' : It} (h : Ry n I J) (hI : ∀ a, 9 ≤ a → a < 81 → I' a = I a) (h6 : J' 119 6 = J 119 6) (hJ : ∀ a, 125 ≤ a → a ≤ 133 → J' a = J a) : Ry n I' J' := by
  obtain ⟨hn, h1, h2, h3, h4⟩ := h
  refine ⟨hn, by rw [hI 9 (by decide) (by decide)]; exact h1, by rw [h6]; exact h2, fun k hk => by rw [hI 11 (by decide) (by decide), hI 12 (by decide) (by decide), hI 13 (by decide) (by decide)]; exact h3 k hk, fun v hv => ?_⟩
  have hr := h4 v hv
  unfold Rv St at hr ⊢
  rw [hI (22 + 10 * v) (by omega) (by omega), hI (23 + 10 * v) (by omega) (by omega), hI (24 + 10 * v) (by omega) (by omega), hI (25 + 10 * v) (by omega) (by omega), hI (26 + 10 * v) (by omega) (by omega), hI (27 + 10 * v) (by omega) (by omega), hI (28 + 10 * v) (by omega) (by omega), hI (29 + 10 * v) (by omega) (by omega), hI (30 + 10 * v) (by omega) (by omega), hJ 125 (by decide) (by decide), hJ 126 (by decide) (by decide), hJ 127 (by decide) (by decide), hJ 128 (by decide) (by decide), hJ 129 (by decide) (by decide), hJ 130 (by decide) (by decide), hJ 131 (by decide) (by decide), hJ 132 (by decide) (by decide), hJ 133 (by decide) (by decide)]
  exact hr
/-- nothing that counts has changed but the device -/
theorem RR_d {n : Nat} {I J I' J' : It} (h : RR n I J) (hD : Rd n (J 125) I' 81 (J' 120)) (hI : ∀ a, (9 ≤ a ∧ a < 81) ∨ (100 ≤ a ∧ a < 119) → I' a = I a) (h22 : I' 2 2 = I 2 2) (h3 : I' 3 = I 3) (h5 : J' 119 5 = J 119 5) (h6 : J' 119 6 = J 119 6) (hJ : ∀ a, 122 ≤ a → a ≠ 134 → a ≠ 135 → J' a = J a) : RR n I' J' := by
  obtain ⟨r1, r2, r3, r4⟩ := h
  refine ⟨Ry_2 r1 (fun a q1 q2 => hI a (by omega)) h6 (fun a q1 q2 => hJ a (by omega) (by omega) (by omega)), ?_, fun i hi => ?_, ?_⟩
  · rw [hJ 125 (by decide) (by decide) (by decide)]; exact hD
  · obtain ⟨x1, x2, x3⟩ := r3 i hi
    rw [hI 118 (by omega), hJ 123 (by decide) (by decide) (by decide), hJ 122 (by decide) (by decide) (by decide), hJ 125 (by decide) (by decide) (by decide)]
    exact ⟨x1, x2, fun q => Rd_c (x3 q) (fun a q1 q2 => hI a (by omega)) (fun _ _ => rfl) (fun _ _ _ _ => rfl)⟩
  · obtain ⟨l, y1, y2, y3, y4⟩ := r4
    refine ⟨l, y1, h22.trans y2, h5.trans y3, fun k hk => ?_⟩
    rw [h3, hJ 124 (by decide) (by decide) (by decide)]
    exact y4 k hk
/-- nothing that counts has changed -/
theorem RR_k {n : Nat} {I J I' J' : It} (h : RR n I J) (hI : ∀ a, (9 ≤ a ∧ a < 88) ∨ (100 ≤ a ∧ a < 119) → I' a = I a) (h22 : I' 2 2 = I 2 2) (h3 : I' 3 = I 3) (h5 : J' 119 5 = J 119 5) (h6 : J' 119 6 = J 119 6) (h120 : ∀ j, j < 127 → J' 120 j = J 120 j) (hJ : ∀ a, 122 ≤ a → a ≠ 134 → a ≠ 135 → J' a = J a) : RR n I' J' :=
  RR_d h (Rd_c h.2.1 (fun a q1 q2 => hI a (by omega)) h120 (fun _ _ _ _ => rfl)) (fun a q => hI a (by omega)) h22 h3 h5 h6 hJ
/-- a call that changes nothing that counts -/
theorem RR_D {n : Nat} {I J I' J' : It} (h : RR n I J) (hD : Rd n (J 125) I' 81 (J' 120)) (fI : FDI 81 I I') (fJ : FDJ J J') : RR n I' J' :=
  RR_d h hD (fun a q => fI a (by omega)) (by rw [fI 2 (by omega)]) (fI 3 (by omega)) (fJ.2 5 (by decide)) (fJ.2 6 (by decide)) (fun a q1 q2 q3 => fJ.1 a (by omega) (by omega) q2 q3)
/-- class then reference, over one memory -/
theorem Sm_use {m m' : Nat} {as as' : List (Option Value)} (h : Sm m as m' as') {L n : Nat} {I : It} (hr : RR n I I) : ∃ I1 I2 n' r, E m 0 as [] (GG L) I = some (some (.int r), GG L, I1) ∧ E m' 0 as' [] (GG L) I1 = some (some (.int r), GG L, I2) ∧ RR n' I2 I2 ∧ I1 0 = I 0 ∧ I2 0 = I 0 := by
  obtain ⟨I1, J1, n1, r1, a1, -, -, f1, -⟩ := h L n I I hr
  have key : ∀ {n : Nat} {I J I' J' : It}, RR n I J → (∀ a, 1 ≤ a → a < 119 → I' a = I a) → (∀ a, 119 ≤ a → J' a = J a) → RR n I' J' := fun h hI hJ => RR_k h (fun a q => hI a (by omega) (by omega)) (by rw [hI 2 (by decide) (by decide)]) (hI 3 (by decide) (by decide)) (by rw [hJ 119 (by decide)]) (by rw [hJ 119 (by decide)]) (fun j _ => by rw [hJ 120 (by decide)]) (fun a q _ _ => hJ a (by omega))
  obtain ⟨I2, J2, n2, r2, b1, b2, b3, f2, g2⟩ := h L n I I1 (key hr (fun _ _ _ => rfl) (fun a q => f1 a (Or.inr q)))
  rw [a1] at b1
  simp only [Option.some.injEq, Prod.mk.injEq, Value.int.injEq, true_and] at b1
  obtain ⟨rfl, rfl⟩ := b1
  exact ⟨I1, J2, n2, r1, a1, b2, key b3 (fun a _ q => g2 a q) (fun _ _ => rfl), f1 0 (Or.inl rfl), by rw [g2 0 (by decide), f1 0 (Or.inl rfl)]⟩
