/-- the reference lays the values that are to be -/
theorem S147 {L : Nat} : ∀ (m k : Nat) (J : It), m + k = 10 → ∃ J', E 147 2 [some (.ref 119), some (.int (nI k))] [] (GG L) J = some (none, GG L, J') ∧ (∀ a, a ≠ 134 → J' a = J a) ∧ (∀ j, j < 10 → J' 134 j = if k ≤ j then J 120 (11 + j) else J 134 j) := by
  intro m
  induction m with
  | zero =>
    intro k J hm
    have hk : k = 10 := by omega
    subst hk
    refine ⟨J, ?_, fun _ _ => rfl, fun j hj => by rw [if_neg (by omega)]⟩
    rw [B147_2, if_pos (by decide)]
  | succ m ih =>
    intro k J hm
    obtain ⟨J', e, h1, h2⟩ := ih (k + 1) (uI J 134 k (J 120 (11 + k))) (by omega)
    refine ⟨J', ?_, fun a q => (h1 a q).trans (uI_o _ _ _ _ _ q), fun j hj => ?_⟩
    · rw [B147_2, if_neg (show ¬ (10 : Int32) ≤ nI k from nI_ge (a := k) (b := 10) (show k < 10 by omega) (by decide)), show 11 + nI k = nI (11 + k) from nI_add 11 k, ck_of (inb_nI (by omega) (by decide)), ck_of (inb_nI (by omega) (by decide)), ix_nI (by omega), ix_nI (by omega), nI_1, e]
    · rw [h2 j hj, uI_a _ _ _ _ _ _ (by decide)]
      by_cases q : k + 1 ≤ j
      · rw [if_pos q, if_pos (show k ≤ j by omega)]
      · rw [if_neg q]
        by_cases q2 : j = k
        · rw [q2, uI_s, if_pos (Nat.le_refl _)]
        · rw [uI_k _ _ _ _ _ q2, if_neg (by omega)]
theorem S147_0 {L : Nat} {J : It} : ∃ J', E 147 0 [some (.ref 119), none] [] (GG L) J = some (none, GG L, J') ∧ (∀ a, a ≠ 134 → J' a = J a) ∧ (∀ j, j < 10 → J' 134 j = J 120 (11 + j)) := by
  obtain ⟨J', e, h1, h2⟩ := S147 (L := L) 10 0 J rfl
  exact ⟨J', B147_0.trans e, h1, fun j hj => by rw [h2 j hj, if_pos (Nat.zero_le _)]⟩
theorem Vr_c {T : Nat → Int32} {v d : Nat} {I I' : It} {D D' : Nat → Int32} (h : Vr T v I d D) (h5 : I' (d + 5) = I (d + 5)) (h6 : I' (d + 6) = I (d + 6)) (hD : ∀ j, (11 ≤ j ∧ j < 21) ∨ 117 ≤ j → D' j = D j) : Vr T v I' d D' := fun k hk hT => by
  rw [h5, h6, hD _ (by omega), hD _ (by omega)]; exact h k hk hT
/-- nothing of a device has changed -/
theorem Rd_c {n d : Nat} {T T' : Nat → Int32} {I I' : It} {D D' : Nat → Int32} (h : Rd n T I d D) (hI : ∀ a, d ≤ a → a ≤ d + 6 → I' a = I a) (hD : ∀ j, j < 127 → D' j = D j) (hT : ∀ v k, v < n → k < 10 → T' (10 * v + k) = T (10 * v + k)) : Rd n T' I' d D' := by
  obtain ⟨hc, d5, d6, d7, d9, hr⟩ := h
  refine ⟨Rc_keep hc (fun a q1 q2 => hI a (by omega) (by omega)) (by rw [hI d (by omega) (by omega)]) (by rw [hI d (by omega) (by omega)]) (fun j hj => hD j (by omega)), by rw [hI d (by omega) (by omega), hD 2 (by omega)]; exact d5, by rw [hI d (by omega) (by omega), hD 3 (by omega)]; exact d6, by rw [hI d (by omega) (by omega), hD 4 (by omega)]; exact d7, by rw [hI d (by omega) (by omega), hD 6 (by omega)]; exact d9, ?_⟩
  rw [hI d (by omega) (by omega), hD 2 (by omega), hD 3 (by omega), hD 4 (by omega), hD 5 (by omega)]
  rcases hr with hr | ⟨p, v, s, e, hp, hv, hs, he, q2, q3, q4, q5, q8, hV⟩
  · exact Or.inl hr
  · refine Or.inr ⟨p, v, s, e, hp, hv, hs, he, q2, q3, q4, q5, q8, fun k hk hTk => ?_⟩
    rw [hI (d + 5) (by omega) (by omega), hI (d + 6) (by omega) (by omega), hD _ (by omega), hD _ (by omega)]
    exact hV k hk (by rw [← hT v k hv hk]; exact hTk)
set_option maxHeartbeats 1000000 in
/-- a setting is given a value, on both sides -/
theorem W_change {L n d v k c : Nat} {I J : It} (hd : kd (GG L) d = 0) (hd81 : 81 ≤ d) (hdJ : d + 8 < 119) (hR : Ry n I J) (hD : Rd n (J 125) I d (J 120)) (hact : J 120 2 ≠ -6) (hv : v < n) (h3 : J 120 3 = nI v) (hk : k < 10) (hT : J 125 (10 * v + k) ≠ 0) (hcb : c < 256) :
    ∃ I' J' r, E 21 0 [some (.ref d), some (.int (nI k)), some (.int (nI c)), none] [] (GG L) I = some (some (.int r), GG L, I') ∧ E 149 0 [some (.ref 119), some (.int (nI k)), some (.int (nI c))] [] (GG L) J = some (none, GG L, J') ∧ Rd n (J 125) I' d (J' 120) ∧ FDI d I I' ∧ FDJ J J' ∧ J' 119 16 = r := by
  have hn := hR.1
  obtain ⟨hc, d5, d6, d7, d9, hrest⟩ := id hD
  obtain ⟨p, v0, s, e, hp, hv0, hs, he, D2, D3, D4, D5, i8, hVr⟩ := hrest.resolve_left (fun h => hact h.1)
  have hvv : v0 = v := (nI_eq (by omega) (by omega)).mp (D3.symm.trans h3)
  subst hvv
  have hdp := k_pg (L := L) hd hp
  have i5 : I d 5 = nI p := d5.trans D2
  have i6 : I d 6 = nI v0 := d6.trans D3
  obtain ⟨y1, y2, y3⟩ := hVr k hk hT
  obtain ⟨J1, hJ1⟩ : ∃ J1, uI J 119 16 0 = J1 := ⟨_, rfl⟩
  have oJ1 : ∀ a, a ≠ 119 → J1 a = J a := fun a h => by rw [← hJ1, uI_o _ _ _ _ _ h]
  have fJ1 : FDJ J J1 := ⟨fun a q _ _ _ => oJ1 a q, fun j hj => by rw [← hJ1, uI_k _ _ _ _ _ (by omega)]⟩
  have w1 : J1 119 16 = 0 := by rw [← hJ1, uI_s]
  have hR1 : Ry n I J1 := Ry_D hR hd81 FDI_r fJ1
  have hD1 : Rd n (J1 125) I d (J1 120) := by rw [oJ1 125 (by decide), oJ1 120 (by decide)]; exact hD
  have b0 := B21_0 (L := L) (x1 := nI k) (x2 := nI c) (I := I) hd
  have b1 := B149_0 (L := L) (x1 := nI k) (x2 := nI c) (I := J)
  rw [S119, K2_i, B21_4 hd, tI_t ⟨k, hk, rfl⟩, if_neg (by decide), ck_of (inb_nI hk (by decide)), ix_nI (by omega), y1, i8] at b0
  rw [hJ1, show 11 + nI k = nI (11 + k) from nI_add 11 k, ck_of (inb_nI (by omega) (by decide)), ix_nI (by omega), oJ1 120 (by decide), D5, D2, D3] at b1
  by_cases hsame : J 120 (11 + k) = nI c
  · rw [if_pos hsame] at b0 b1
    exact ⟨I, J1, 0, b0, b1, by rw [oJ1 120 (by decide)]; exact hD, FDI_r, fJ1, w1⟩
  rw [if_neg hsame, show nI e + 3 = nI (e + 3) from nI_add e 3] at b0 b1
  by_cases hroom : e + 3 ≤ 48
  · have hle : nI (e + 3) ≤ (48 : Int32) := nI_le (b := 48) hroom (by decide)
    rw [if_pos hle, i5, S9 hd hp, K2_i, B21_70 hd hd hdp, i8, i6] at b0
    rw [if_pos hle] at b1
    have hc1 : Rc I d (J1 120) := by rw [oJ1 120 (by decide)]; exact hc
    obtain ⟨I2, J2, r, a1, a2, hc2, f2, g2, w2⟩ := W_rec (L := L) (i := e) (n := k) (c := c) (v := v0) hd hdp hp (by omega) hk hcb (by omega) hc1
    rw [a1, K2_i, B21_83 hd] at b0
    rw [a2, K2_v, B149_78] at b1
    have wr : J2 119 16 = r := by rw [w2, w1, Int32.zero_add]
    have fI2 : FDI d I I2 := fun a q => f2.1 a (by omega)
    have fJ2 : FDJ J J2 := FDJ_tr fJ1 ⟨fun a q1 q2 _ _ => g2.1 a q1 q2, fun j hj => g2.2.1 j (by omega)⟩
    have c1 := hc2.1
    have D2r : ∀ j, (2 ≤ j ∧ j < 7) ∨ (11 ≤ j ∧ j < 21) ∨ 117 ≤ j → J2 120 j = J 120 j := fun j hj => by rw [g2.2.2 j hj, oJ1 120 (by decide)]
    by_cases hz : J2 120 0 = 0
    · rw [if_pos (c1.trans hz)] at b0
      rw [if_neg (by rw [hz]; decide)] at b1
      refine ⟨I2, J2, r, b0, b1, ⟨hc2, ?_, ?_, ?_, ?_, Or.inr ⟨p, v0, s, e, hp, hv0, hs, he, ?_, ?_, ?_, ?_, ?_, ?_⟩⟩, fI2, fJ2, wr⟩
      · rw [f2.2 5 (by decide) (by decide), D2r 2 (by omega)]; exact d5
      · rw [f2.2 6 (by decide) (by decide), D2r 3 (by omega)]; exact d6
      · rw [f2.2 7 (by decide) (by decide), D2r 4 (by omega)]; exact d7
      · rw [f2.2 9 (by decide) (by decide), D2r 6 (by omega)]; exact d9
      · rw [D2r 2 (by omega)]; exact D2
      · rw [D2r 3 (by omega)]; exact D3
      · rw [D2r 4 (by omega)]; exact D4
      · rw [D2r 5 (by omega)]; exact D5
      · rw [f2.2 8 (by decide) (by decide)]; exact i8
      · exact Vr_c hVr (f2.1 _ (by omega)) (f2.1 _ (by omega)) (fun j hj => D2r j (by omega))
    · have hone : J2 120 0 = 1 := hc2.2.1.resolve_left hz
      have i28 : I2 d 8 = nI e := (f2.2 8 (by decide) (by decide)).trans i8
      have j25 : J2 120 5 = nI e := (D2r 5 (by omega)).trans D5
      rw [if_neg (by rw [c1]; exact hz), ck_of (inb_nI hk (by decide)), ck_of (inb_nI hk (by decide)), ix_nI (by omega)] at b0
      rw [if_pos hone, show 117 + nI k = nI (117 + k) from nI_add 117 k, show 11 + nI k = nI (11 + k) from nI_add 11 k, ck_of (inb_nI (by omega) (by decide)), ck_of (inb_nI (by omega) (by decide)), ix_nI (by omega), ix_nI (by omega), j25] at b1
      have z1 : uI I2 (d + 5) k (nI c) d 8 = nI e := by rw [uI_a _ _ _ _ _ _ (by omega)]; exact i28
      have z2 : uI (uI I2 (d + 5) k (nI c)) (d + 6) k (nI e) d 8 = nI e := by rw [uI_a _ _ _ _ _ _ (by omega)]; exact z1
      have z3 : uI J2 120 (117 + k) (nI e) 120 5 = nI e := by rw [uI_k _ _ _ _ _ (by omega)]; exact j25
      rw [z1, z2, show nI e + 3 = nI (e + 3) from nI_add e 3] at b0
      rw [z3, show nI e + 3 = nI (e + 3) from nI_add e 3] at b1
      obtain ⟨I3, hI3⟩ : ∃ I3, uI (uI (uI I2 (d + 5) k (nI c)) (d + 6) k (nI e)) d 8 (nI (e + 3)) = I3 := ⟨_, rfl⟩
      obtain ⟨J3, hJ3⟩ : ∃ J3, uI (uI (uI J2 120 (117 + k) (nI e)) 120 5 (nI (e + 3))) 120 (11 + k) (nI c) = J3 := ⟨_, rfl⟩
      rw [hI3] at b0
      rw [hJ3] at b1
      have oI3 : ∀ a, a ≠ d → a ≠ d + 5 → a ≠ d + 6 → I3 a = I2 a := fun a q1 q2 q3 => by rw [← hI3, uI_o _ _ _ _ _ q1, uI_o _ _ _ _ _ q3, uI_o _ _ _ _ _ q2]
      have oJ3 : ∀ a, a ≠ 120 → J3 a = J2 a := fun a h => by rw [← hJ3, uI_o _ _ _ _ _ h, uI_o _ _ _ _ _ h, uI_o _ _ _ _ _ h]
      have pI3 : ∀ j, j ≠ 8 → I3 d j = I2 d j := fun j q => by rw [← hI3, uI_k _ _ _ _ _ q, uI_a _ _ _ _ _ _ (by omega), uI_a _ _ _ _ _ _ (by omega)]
      have pJ3 : ∀ j, j ≠ 5 → j ≠ 11 + k → j ≠ 117 + k → J3 120 j = J2 120 j := fun j q1 q2 q3 => by rw [← hJ3, uI_k _ _ _ _ _ q2, uI_k _ _ _ _ _ q1, uI_k _ _ _ _ _ q3]
      refine ⟨I3, J3, r, b0, b1, ⟨?_, ?_, ?_, ?_, ?_, Or.inr ⟨p, v0, s, e + 3, hp, hv0, hs, hroom, ?_, ?_, ?_, ?_, ?_, ?_⟩⟩, ?_, ?_, ?_⟩
      · exact Rc_keep hc2 (fun a q1 q2 => oI3 a (by omega) (by omega) (by omega)) (pI3 3 (by decide)) (pI3 4 (by decide)) (fun j hj => pJ3 j (by omega) (by omega) (by omega))
      · rw [pI3 5 (by decide), pJ3 2 (by omega) (by omega) (by omega), f2.2 5 (by decide) (by decide), D2r 2 (by omega)]; exact d5
      · rw [pI3 6 (by decide), pJ3 3 (by omega) (by omega) (by omega), f2.2 6 (by decide) (by decide), D2r 3 (by omega)]; exact d6
      · rw [pI3 7 (by decide), pJ3 4 (by omega) (by omega) (by omega), f2.2 7 (by decide) (by decide), D2r 4 (by omega)]; exact d7
      · rw [pI3 9 (by decide), pJ3 6 (by omega) (by omega) (by omega), f2.2 9 (by decide) (by decide), D2r 6 (by omega)]; exact d9
      · rw [pJ3 2 (by omega) (by omega) (by omega), D2r 2 (by omega)]; exact D2
      · rw [pJ3 3 (by omega) (by omega) (by omega), D2r 3 (by omega)]; exact D3
      · rw [pJ3 4 (by omega) (by omega) (by omega), D2r 4 (by omega)]; exact D4
      · rw [← hJ3, uI_k _ _ _ _ _ (by omega), uI_s]
      · rw [← hI3, uI_s]
      · intro j hj hTj
        by_cases q : j = k
        · subst q
          rw [← hI3, ← hJ3, uI_s, uI_a _ _ _ _ _ _ (show d + 5 ≠ d by omega), uI_a _ _ _ _ _ _ (show d + 5 ≠ d + 6 by omega), uI_s, uI_a _ _ _ _ _ _ (show d + 6 ≠ d by omega), uI_s, uI_k _ _ _ _ _ (by omega), uI_k _ _ _ _ _ (by omega), uI_s]
          exact ⟨rfl, ⟨c, hcb, rfl⟩, rfl⟩
        · rw [← hI3, uI_a _ _ _ _ _ _ (show d + 5 ≠ d by omega), uI_a _ _ _ _ _ _ (show d + 5 ≠ d + 6 by omega), uI_k _ _ _ _ _ q, uI_a _ _ _ _ _ _ (show d + 6 ≠ d by omega), uI_k _ _ _ _ _ q, uI_a _ _ _ _ _ _ (show d + 6 ≠ d + 5 by omega), pJ3 _ (by omega) (by omega) (by omega), pJ3 _ (by omega) (by omega) (by omega), f2.1 (d + 5) (by omega), f2.1 (d + 6) (by omega), D2r _ (by omega), D2r _ (by omega)]
          exact hVr j hj hTj
      · intro a ha
        rw [oI3 a (by omega) (by omega) (by omega)]; exact fI2 a ha
      · exact FDJ_tr fJ2 ⟨fun a _ q _ _ => oJ3 a q, fun j _ => by rw [oJ3 119 (by decide)]⟩
      · rw [oJ3 119 (by decide)]; exact wr
  · have hgt : ¬ nI (e + 3) ≤ (48 : Int32) := nI_ge (a := 48) (b := e + 3) (by omega) (by omega)
    rw [if_neg hgt, ck_of (inb_nI hk (by decide))] at b0
    obtain ⟨J2, a1, h1, h2⟩ := S147_0 (L := L) (J := J1)
    rw [if_neg hgt, a1, K2_v, B149_36, ck_of (inb_nI hk (by decide)), ix_nI (by omega)] at b1
    obtain ⟨I2, hI2⟩ : ∃ I2, uI (cpI I (d + 5) (d + 7) 0 0 10) (d + 7) k (nI c) = I2 := ⟨_, rfl⟩
    obtain ⟨J3, hJ3⟩ : ∃ J3, uI J2 134 k (nI c) = J3 := ⟨_, rfl⟩
    rw [hI2] at b0
    rw [hJ3] at b1
    have oI2 : ∀ a, a ≠ d + 7 → I2 a = I a := fun a q => by rw [← hI2, uI_o _ _ _ _ _ q, cp_o _ _ _ _ _ q]
    have oJ3 : ∀ a, a ≠ 134 → J3 a = J1 a := fun a q => by rw [← hJ3, uI_o _ _ _ _ _ q, h1 a q]
    have fI2 : FDI d I I2 := fun a q => oI2 a (by omega)
    have fJ3 : FDJ J1 J3 := ⟨fun a _ _ q _ => oJ3 a q, fun j _ => by rw [oJ3 119 (by decide)]⟩
    rw [oI2 d (by omega), i6] at b0
    rw [oJ3 120 (by decide), oJ1 120 (by decide), D3] at b1
    have hD3 : Rd n (J3 125) I2 d (J3 120) := by
      rw [oJ3 125 (by decide), oJ3 120 (by decide)]
      exact Rd_c hD1 (fun a q1 q2 => oI2 a (by omega)) (fun _ _ => rfl) (fun _ _ _ _ => rfl)
    obtain ⟨I4, J4, r, a2, a3, hD4, f4, g4, w4⟩ := W_fill (L := L) (v := v0) hd hd81 hdJ (Ry_D hR1 hd81 fI2 fJ3) hv hD3 (by rw [oJ3 120 (by decide), oJ1 120 (by decide)]; exact hact) (fun j hj hTj => by
      by_cases q : j = k
      · subst q
        rw [← hI2, ← hJ3, uI_s, uI_s]
        exact ⟨rfl, ⟨c, hcb, rfl⟩⟩
      · rw [← hI2, ← hJ3, uI_k _ _ _ _ _ q, uI_k _ _ _ _ _ q, cp_s _ _ _ _ _ hj, h2 j hj, oJ1 120 (by decide)]
        obtain ⟨u1, u2, -⟩ := hVr j hj (by rw [← oJ1 125 (by decide), ← oJ3 125 (by decide)]; exact hTj)
        exact ⟨u1, u2⟩)
    rw [a2, K2_i, B21_60] at b0
    rw [a3, K2_v, B149_53] at b1
    refine ⟨I4, J4, r, b0, b1, ?_, FDI_tr fI2 f4, FDJ_tr fJ1 (FDJ_tr fJ3 g4), ?_⟩
    · rw [← oJ1 125 (by decide), ← oJ3 125 (by decide)]; exact hD4
    · rw [w4, oJ3 119 (by decide), w1, Int32.zero_add]
