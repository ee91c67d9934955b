theorem S9 {L d p : Nat} {I : It} (hd : kd (GG L) d = 0) (hp : p < 2) : E 9 0 [some (.ref d), some (.int (nI p))] [] (GG L) I = some (some (.ref (d + 1 + 2 * p)), GG L, I) := by
  rw [B9_0 hd]
  have : p = 0 ∨ p = 1 := by omega
  rcases this with rfl | rfl
  · rw [if_neg (by decide)]
  · rw [if_pos (by decide)]
theorem k_emp {L : Nat} : kd (GG L) 10 = 1 := by rw [GG_kd L (by decide) (by decide)]; decide +kernel
/-- the start, on both sides -/
theorem W_start {L n d : Nat} {I J : It} (hR : Ry n I J) (hd : kd (GG L) d = 0) (hd81 : 81 ≤ d) (hdJ : d + 6 < 119) (k1 : kd (GG L) (d + 1) = 4) (k3 : kd (GG L) (d + 3) = 4) (hd5 : kd (GG L) (d + 5) = 50) (ld5 : ln (GG L) (d + 5) = 10) (hc : Rc I d (J 120)) :
    ∃ I' J' r, E 17 0 [some (.ref d)] [] (GG L) I = some (none, GG L, I') ∧ E 144 0 [some (.ref 119)] [] (GG L) J = some (some (.int r), GG L, J') ∧ Rd n (J 125) I' d (J' 120) ∧ J' 120 2 = r ∧ J' 120 0 = 1 ∧ (∀ a, a ≠ d → a ≠ d + 5 → a ≠ d + 6 → I' a = I a) ∧ (∀ a, a ≠ 119 → a ≠ 120 → J' a = J a) ∧ ∀ j, j ≠ 17 → j ≠ 18 → j ≠ 19 → J' 119 j = J 119 j := by
  have hn := hR.1
  obtain ⟨I1, hI1⟩ : ∃ I1, uI (uI I d 3 1) d 4 (-6) = I1 := ⟨_, rfl⟩
  obtain ⟨J1, hJ1⟩ : ∃ J1, uI (uI (uI J 120 0 1) 120 1 (-6)) 120 6 0 = J1 := ⟨_, rfl⟩
  have oI1 : ∀ a, a ≠ d → I1 a = I a := fun a h => by rw [← hI1, uI_o _ _ _ _ _ h, uI_o _ _ _ _ _ h]
  have oJ1 : ∀ a, a ≠ 120 → J1 a = J a := fun a h => by rw [← hJ1, uI_o _ _ _ _ _ h, uI_o _ _ _ _ _ h, uI_o _ _ _ _ _ h]
  have j10 : J1 120 0 = 1 := by rw [← hJ1, uI_k _ _ _ _ _ (by decide), uI_k _ _ _ _ _ (by decide), uI_s]
  have j11 : J1 120 1 = -6 := by rw [← hJ1, uI_k _ _ _ _ _ (by decide), uI_s]
  have j16 : J1 120 6 = 0 := by rw [← hJ1, uI_s]
  have j1r : ∀ j, j ≠ 0 → j ≠ 1 → j ≠ 6 → J1 120 j = J 120 j := fun j h0 h1 h6 => by rw [← hJ1, uI_k _ _ _ _ _ h6, uI_k _ _ _ _ _ h1, uI_k _ _ _ _ _ h0]
  have i13 : I1 d 3 = 1 := by rw [← hI1, uI_k _ _ _ _ _ (by decide), uI_s]
  have i14 : I1 d 4 = -6 := by rw [← hI1, uI_s]
  have hR1 : Ry n I1 J1 := Ry_congr hR (fun a ha => oI1 a (by omega)) (by rw [oJ1 _ (by decide)]) (fun a h1 h2 => oJ1 a (by omega))
  have hc1 : Rc I1 d (J1 120) := by
    obtain ⟨c1, c2, c3, c4, c5, c6⟩ := hc
    refine ⟨i13.trans j10.symm, Or.inr j10, i14.trans j11.symm, fun _ => j11, Or.inl j11, fun p hp => ?_⟩
    obtain ⟨e1, e2, e3⟩ := c6 p hp
    rw [oI1 _ (by omega), oI1 _ (by omega), j1r _ (by omega) (by omega) (by omega), j1r _ (by omega) (by omega) (by omega)]
    refine ⟨e1, e2, fun k hk => ?_⟩
    rw [j1r _ (by omega) (by omega) (by omega)]
    exact e3 k hk
  obtain ⟨r, a1, a2, hr⟩ := W_act hR1 hd k1 k3 hc1
  have b0 := B17_0 (L := L) (o0 := d) (I := I) hd
  have b1 := B144_0 (L := L) (I := J)
  rw [hI1, a1, K2_i, B17_16 hd hd, uI_s] at b0
  rw [hJ1, a2, K2_i, B144_32 (wk_7_0 k_119) (wl_7_0 k_119), ck_of (by decide), show ix 2 = 2 from x_2] at b1
  obtain ⟨J2, hJ2⟩ : ∃ J2, uI (uI (uI J1 120 2 r) 120 3 (-6)) 120 4 (-6) = J2 := ⟨_, rfl⟩
  have oJ2 : ∀ a, a ≠ 120 → J2 a = J a := fun a h => by rw [← hJ2, uI_o _ _ _ _ _ h, uI_o _ _ _ _ _ h, uI_o _ _ _ _ _ h, oJ1 _ h]
  have j22 : J2 120 2 = r := by rw [← hJ2, uI_k _ _ _ _ _ (by decide), uI_k _ _ _ _ _ (by decide), uI_s]
  have j23 : J2 120 3 = -6 := by rw [← hJ2, uI_k _ _ _ _ _ (by decide), uI_s]
  have j24 : J2 120 4 = -6 := by rw [← hJ2, uI_s]
  have j2r : ∀ j, j < 2 ∨ 5 ≤ j → J2 120 j = J1 120 j := fun j h => by rw [← hJ2, uI_k _ _ _ _ _ (by omega), uI_k _ _ _ _ _ (by omega), uI_k _ _ _ _ _ (by omega)]
  rw [hJ2, j22] at b1
  rcases hr with hr | ⟨p, hp, hr, hH⟩
  · -- no active page
    subst hr
    rw [if_pos rfl, B17_45 hd hd, uI_k _ _ _ _ _ (show 5 ≠ 6 by decide), uI_s, if_pos rfl, B17_74 hd hd] at b0
    rw [if_pos (by decide)] at b1
    obtain ⟨I4, hI4⟩ : ∃ I4, uI (uI (uI I1 d 5 (-6)) d 6 (-6)) d 7 (-6) = I4 := ⟨_, rfl⟩
    have oI4 : ∀ a, a ≠ d → I4 a = I1 a := fun a h => by rw [← hI4, uI_o _ _ _ _ _ h, uI_o _ _ _ _ _ h, uI_o _ _ _ _ _ h]
    have i46 : I4 d 6 = -6 := by rw [← hI4, uI_k _ _ _ _ _ (by decide), uI_s]
    have hR4 : Ry n I4 J1 := Ry_congr hR1 (fun a ha => oI4 a (by omega)) rfl (fun _ _ _ => rfl)
    obtain ⟨I5, e5, h1, -, -⟩ := S19 (L := L) (o := 10) hd hd5 ld5 hd81 k_emp (by decide) 10 0 I4 rfl (fun I' h h' => S10n (Ry_congr hR4 h rfl (fun _ _ _ => rfl)) hd (h'.trans i46))
    have i5d : I5 d = I4 d := h1 d (by omega) (by omega)
    have i4d : ∀ j, j ≠ 5 → j ≠ 6 → j ≠ 7 → I4 d j = I1 d j := fun j h5 h6 h7 => by rw [← hI4, uI_k _ _ _ _ _ h7, uI_k _ _ _ _ _ h6, uI_k _ _ _ _ _ h5]
    have i45 : I4 d 5 = -6 := by rw [← hI4, uI_k _ _ _ _ _ (by decide), uI_k _ _ _ _ _ (by decide), uI_s]
    have i47 : I4 d 7 = -6 := by rw [← hI4, uI_s]
    have e5' : E 19 2 [some (.ref d), some (.int 0)] [] (GG L) I4 = some (none, GG L, I5) := e5
    rw [hI4, B19_0 hd, e5', K2_v, B17_81 hd, uI_k _ _ _ _ _ (show 5 ≠ 9 by decide), i5d, i45, if_pos rfl, B17_116] at b0
    obtain ⟨I6, hI6⟩ : ∃ I6, uI (uI I5 d 9 0) d 8 48 = I6 := ⟨_, rfl⟩
    rw [hI6] at b0
    have oI6 : ∀ a, a ≠ d → a ≠ d + 5 → a ≠ d + 6 → I6 a = I1 a := fun a q1 q2 q3 => by rw [← hI6, uI_o _ _ _ _ _ q1, uI_o _ _ _ _ _ q1, h1 a q2 q3, oI4 a q1]
    have i6d : ∀ j, j ≠ 8 → j ≠ 9 → I6 d j = I4 d j := fun j h8 h9 => by rw [← hI6, uI_k _ _ _ _ _ h8, uI_k _ _ _ _ _ h9, i5d]
    refine ⟨I6, J2, -6, b0, b1, ⟨?_, ?_, ?_, ?_, ?_, Or.inl ⟨j22, j23, j24, ?_⟩⟩, j22, ?_, fun a q1 q2 q3 => (oI6 a q1 q2 q3).trans (oI1 a q1), fun a _ q2 => oJ2 a q2, fun j _ _ _ => by rw [oJ2 119 (by decide)]⟩
    · exact Rc_keep hc1 (fun a q1 q2 => oI6 a (by omega) (by omega) (by omega)) (by rw [i6d 3 (by decide) (by decide), i4d 3 (by decide) (by decide) (by decide)]) (by rw [i6d 4 (by decide) (by decide), i4d 4 (by decide) (by decide) (by decide)]) (fun j hj => j2r j (by omega))
    · rw [i6d 5 (by decide) (by decide), i45, j22]
    · rw [i6d 6 (by decide) (by decide), i46, j23]
    · rw [i6d 7 (by decide) (by decide), i47, j24]
    · rw [← hI6, uI_k _ _ _ _ _ (by decide), uI_s, j2r 6 (by omega), j16]
    · rw [← hI6, uI_s]
    · rw [j2r 0 (by omega), j10]
  · -- an active page
    subst hr
    obtain ⟨v, s, hv, hs, w0, w1, -⟩ := hH
    have w0' : J1 120 (21 + 48 * p + 0) = nI (200 + v) := w0
    have w1' : J1 120 (21 + 48 * p + 1) = nI s := w1
    have hdp : kd (GG L) (d + 1 + 2 * p) = 4 := by
      have : p = 0 ∨ p = 1 := by omega
      rcases this with rfl | rfl
      · exact k1
      · exact k3
    have hcp := (hc1.2.2.2.2.2 p hp).2.2
    have cl : ∀ I0 : It, (∀ a, a ≠ d → I0 a = I1 a) → ∀ k, k < 48 → I0 (d + 1 + 2 * p + 1) k = J1 120 (21 + 48 * p + k) := fun I0 h k hk => by
      rw [h _ (by omega), show d + 1 + 2 * p + 1 = d + 2 + 2 * p by omega]; exact (hcp k hk).1
    have ne6 : ¬ nI p = -6 := fun h => nI_pos (show p < 2 ^ 31 by omega) (h ▸ by decide)
    obtain ⟨I2, hI2⟩ : ∃ I2, uI I1 d 5 (nI p) = I2 := ⟨_, rfl⟩
    have oI2 : ∀ a, a ≠ d → I2 a = I1 a := fun a h => by rw [← hI2, uI_o _ _ _ _ _ h]
    have i25 : I2 d 5 = nI p := by rw [← hI2, uI_s]
    rw [if_neg ne6, hI2, S9 hd hp, K2_i, B17_42 hd hd hdp, S75 hdp, cl I2 oI2 0 (by decide), w0', sub_200.mpr rfl, K2_i, B17_45 hd hd] at b0
    obtain ⟨I3, hI3⟩ : ∃ I3, uI I2 d 6 (nI v) = I3 := ⟨_, rfl⟩
    have oI3 : ∀ a, a ≠ d → I3 a = I1 a := fun a h => by rw [← hI3, uI_o _ _ _ _ _ h, oI2 a h]
    have i35 : I3 d 5 = nI p := by rw [← hI3, uI_k _ _ _ _ _ (by decide)]; exact i25
    rw [hI3, i35, if_neg ne6, S9 hd hp, K2_i, B17_71 hd hd hdp, S76 hdp, cl I3 oI3 1 (by decide), w1', K2_i, B17_74 hd hd] at b0
    obtain ⟨I4, hI4⟩ : ∃ I4, uI I3 d 7 (nI s) = I4 := ⟨_, rfl⟩
    have oI4 : ∀ a, a ≠ d → I4 a = I1 a := fun a h => by rw [← hI4, uI_o _ _ _ _ _ h, oI3 a h]
    have i46 : I4 d 6 = nI v := by rw [← hI4, uI_k _ _ _ _ _ (by decide), ← hI3, uI_s]
    have i45 : I4 d 5 = nI p := by rw [← hI4, uI_k _ _ _ _ _ (by decide)]; exact i35
    have i47 : I4 d 7 = nI s := by rw [← hI4, uI_s]
    have i4d : ∀ j, j ≠ 5 → j ≠ 6 → j ≠ 7 → I4 d j = I1 d j := fun j h5 h6 h7 => by rw [← hI4, uI_k _ _ _ _ _ h7, ← hI3, uI_k _ _ _ _ _ h6, ← hI2, uI_k _ _ _ _ _ h5]
    have hR4 : Ry n I4 J1 := Ry_congr hR1 (fun a ha => oI4 a (by omega)) rfl (fun _ _ _ => rfl)
    obtain ⟨I5, e5, h1, h2, h3⟩ := S19 (L := L) (o := 21 + 10 * v) hd hd5 ld5 hd81 (k_lay (by omega)) (by omega) 10 0 I4 rfl (fun I' h h' => S10 (Ry_congr hR4 h rfl (fun _ _ _ => rfl)) hd hv (h'.trans i46))
    have e5' : E 19 2 [some (.ref d), some (.int 0)] [] (GG L) I4 = some (none, GG L, I5) := e5
    have i5d : I5 d = I4 d := h1 d (by omega) (by omega)
    rw [hI4, B19_0 hd, e5', K2_v, B17_81 hd, uI_k _ _ _ _ _ (show 5 ≠ 9 by decide), i5d, i45, if_neg ne6, S9 hd hp, K2_i, B17_113 hd hdp, B20_0 hd hdp] at b0
    obtain ⟨I6, hI6⟩ : ∃ I6, uI I5 d 9 0 = I6 := ⟨_, rfl⟩
    rw [hI6] at b0
    have oI6 : ∀ a, a ≠ d → a ≠ d + 5 → a ≠ d + 6 → I6 a = I1 a := fun a q1 q2 q3 => by rw [← hI6, uI_o _ _ _ _ _ q1, h1 a q2 q3, oI4 a q1]
    have i6d : ∀ j, j ≠ 9 → I6 d j = I4 d j := fun j h9 => by rw [← hI6, uI_k _ _ _ _ _ h9, i5d]
    have i69 : I6 d 9 = 0 := by rw [← hI6, uI_s]
    -- the reference
    have c2 : ∀ k, k < 48 → J2 120 (21 + 48 * p + k) = J1 120 (21 + 48 * p + k) := fun k hk => j2r _ (by omega)
    have g0 : E 131 0 [some (.ref 119), some (.int (nI p)), some (.int 0)] [] (GG L) J2 = some (some (.int (J2 120 (21 + 48 * p + 0))), GG L, J2) := S131 (i := 0) hp (by decide)
    rw [c2 0 (by decide), w0'] at g0
    rw [if_neg (nI_pos (by omega)), g0, K2_i, B144_74 (wk_7_0 k_119) (wl_7_0 k_119), ck_of (by decide), show ix 3 = 3 from x_3, sub_200.mpr rfl] at b1
    obtain ⟨J3, hJ3⟩ : ∃ J3, uI J2 120 3 (nI v) = J3 := ⟨_, rfl⟩
    have j3r : ∀ j, j ≠ 3 → J3 120 j = J2 120 j := fun j h => by rw [← hJ3, uI_k _ _ _ _ _ h]
    have g1 : E 131 0 [some (.ref 119), some (.int (nI p)), some (.int 1)] [] (GG L) J3 = some (some (.int (J3 120 (21 + 48 * p + 1))), GG L, J3) := S131 (i := 1) hp (by decide)
    rw [j3r _ (by omega), c2 1 (by decide), w1'] at g1
    rw [hJ3, j3r 2 (by decide), j22, g1, K2_i, B144_95 (wk_7_0 k_119) (wl_7_0 k_119), ck_of (by decide), show ix 4 = 4 from x_4] at b1
    obtain ⟨J4, hJ4⟩ : ∃ J4, uI J3 120 4 (nI s) = J4 := ⟨_, rfl⟩
    have j43 : J4 120 3 = nI v := by rw [← hJ4, uI_k _ _ _ _ _ (by decide), ← hJ3, uI_s]
    have j44 : J4 120 4 = nI s := by rw [← hJ4, uI_s]
    have j4r : ∀ j, j ≠ 3 → j ≠ 4 → J4 120 j = J2 120 j := fun j q3 q4 => by rw [← hJ4, uI_k _ _ _ _ _ q4, j3r j q3]
    have oJ4 : ∀ a, a ≠ 120 → J4 a = J a := fun a h => by rw [← hJ4, uI_o _ _ _ _ _ h, ← hJ3, uI_o _ _ _ _ _ h, oJ2 a h]
    obtain ⟨J5, f5, g1', g2, g3, g4⟩ := S142 (L := L) (v := v) (by omega) 10 0 J4 rfl
    have f5' : E 142 2 [some (.ref 119), some (.int (nI v)), some (.int 0)] [] (GG L) J4 = some (none, GG L, J5) := f5
    rw [hJ4, j43, B142_0, f5', K2_v, B144_106, g4 2 (by omega), g4 3 (by omega), j43, j4r 2 (by decide) (by decide), j22, B141_0] at b1
    obtain ⟨J6, hJ6⟩ : ∃ J6, uI (uI (uI J5 119 17 0) 119 18 0) 119 19 3 = J6 := ⟨_, rfl⟩
    rw [hJ6] at b1
    have oJ6 : ∀ a, a ≠ 119 → J6 a = J5 a := fun a h => by rw [← hJ6, uI_o _ _ _ _ _ h, uI_o _ _ _ _ _ h, uI_o _ _ _ _ _ h]
    have pJ6 : ∀ j, j ≠ 17 → j ≠ 18 → j ≠ 19 → J6 119 j = J 119 j := fun j q1 q2 q3 => by rw [← hJ6, uI_k _ _ _ _ _ q3, uI_k _ _ _ _ _ q2, uI_k _ _ _ _ _ q1, g1' 119 (by decide), oJ4 119 (by decide)]
    have hQ : Qr n v d p 3 I6 J6 := by
      refine ⟨Ry_congr hR (fun a ha => (oI6 a (by omega) (by omega) (by omega)).trans (oI1 a (by omega))) (pJ6 6 (by decide) (by decide) (by decide)) (fun a q1 q2 => by rw [oJ6 a (by omega), g1' a (by omega), oJ4 a (by omega)]), ?_, ?_, ?_, ?_, ?_⟩
      · refine Rc_keep hc1 (fun a q1 q2 => oI6 a (by omega) (by omega) (by omega)) (by rw [i6d 3 (by decide), i4d 3 (by decide) (by decide) (by decide)]) (by rw [i6d 4 (by decide), i4d 4 (by decide) (by decide) (by decide)]) (fun j hj => ?_)
        rw [oJ6 120 (by decide), g4 j (by omega), j4r j (by omega) (by omega), j2r j (by omega)]
      · rw [i6d 6 (by decide)]; exact i46
      · rw [i69, ← hJ6, uI_k _ _ _ _ _ (by decide), uI_s]
      · rw [← hJ6, uI_s]; rfl
      · intro k hk hT
        rw [oJ6 125 (by decide), g1' 125 (by decide), oJ4 125 (by decide)] at hT
        obtain ⟨t1, t2, t3, t4, t5, t6, t7⟩ := (hR.2.2.2.2 v hv).1 k hk
        have q5 : I6 (d + 5) k = J 127 (10 * v + k) := by
          rw [← hI6, uI_a _ _ _ _ _ _ (by omega), h2 k hk, if_pos (Nat.zero_le _), oI4 _ (by omega), oI4 _ (by omega), oI1 _ (by omega), oI1 _ (by omega), show 21 + 10 * v + 1 = 22 + 10 * v by omega, show 21 + 10 * v + 3 = 24 + 10 * v by omega, t2, if_neg hT, t5]
        have q6 : I6 (d + 6) k = -6 := by
          rw [← hI6, uI_a _ _ _ _ _ _ (by omega), h3 k hk, if_pos (Nat.zero_le _)]
        have q7 : J6 120 (11 + k) = J 127 (10 * v + k) := by
          rw [oJ6 120 (by decide), g2 k hk, if_pos (Nat.zero_le _), oJ4 127 (by decide)]
        have q8 : J6 120 (117 + k) = -6 := by
          rw [oJ6 120 (by decide), g3 k hk, if_pos (Nat.zero_le _)]
        rw [q5, q6, q7, q8]
        exact ⟨rfl, t6, rfl⟩
    obtain ⟨I7, J7, e, he, y1, y2, y3, hQ7, fI, fJ⟩ := R_all (u3 := none) hd hd81 hdJ hdp hd5 ld5 hp hv 15 3 rfl (Nat.le_refl _) hQ
    have y1' : E 20 2 [some (.ref d), some (.ref (d + 1 + 2 * p)), some (.int 3), none] [] (GG L) I6 = some (none, GG L, I7) := y1
    rw [y1', K2_v, B17_116] at b0
    rw [y2, K2_v, B144_123] at b1
    obtain ⟨hR7, hc7, q6, q9, q19, hV7⟩ := hQ7
    rw [uI_a _ _ _ _ _ _ (show (119 : Nat) ≠ 120 by decide), q19] at b1
    obtain ⟨J8, hJ8⟩ : ∃ J8, uI (uI J7 120 6 (J7 119 18)) 120 5 (nI e) = J8 := ⟨_, rfl⟩
    rw [hJ8] at b1
    have oJ8 : ∀ a, a ≠ 120 → J8 a = J7 a := fun a h => by rw [← hJ8, uI_o _ _ _ _ _ h, uI_o _ _ _ _ _ h]
    have j8r : ∀ j, j ≠ 5 → j ≠ 6 → J8 120 j = J7 120 j := fun j q5 q6 => by rw [← hJ8, uI_k _ _ _ _ _ q5, uI_k _ _ _ _ _ q6]
    have j7r : ∀ j, j < 11 → J7 120 j = J4 120 j := fun j hj => by rw [fJ.2.2 j (Or.inl hj), oJ6 120 (by decide), g4 j (Or.inl hj)]
    have j82 : J8 120 2 = nI p := by rw [j8r 2 (by decide) (by decide), j7r 2 (by decide), j4r 2 (by decide) (by decide), j22]
    have oJ7 : ∀ a, a ≠ 119 → a ≠ 120 → J7 a = J a := fun a q1 q2 => by rw [fJ.1 a q1 q2, oJ6 a q1, g1' a q2, oJ4 a q2]
    rw [j82] at b1
    refine ⟨I7, J8, nI p, b0, b1, ⟨?_, ?_, ?_, ?_, ?_, Or.inr ⟨p, v, s, e, hp, hv, hs, he, j82, ?_, ?_, ?_, y3, ?_⟩⟩, j82, ?_, fun a q1 q2 q3 => by rw [fI.1 a q1 q2 q3, oI6 a q1 q2 q3, oI1 a q1], fun a q1 q2 => (oJ8 a q2).trans (oJ7 a q1 q2), fun j q1 q2 q3 => by rw [oJ8 119 (by decide), fJ.2.1 j q1 q2 q3, pJ6 j q1 q2 q3]⟩
    · exact Rc_keep hc7 (fun _ _ _ => rfl) rfl rfl (fun j hj => j8r j (by omega) (by omega))
    · rw [fI.2 5 (by decide) (by decide), i6d 5 (by decide), i45, j82]
    · rw [q6, j8r 3 (by decide) (by decide), j7r 3 (by decide), j43]
    · rw [fI.2 7 (by decide) (by decide), i6d 7 (by decide), i47, j8r 4 (by decide) (by decide), j7r 4 (by decide), j44]
    · rw [q9, ← hJ8, uI_k _ _ _ _ _ (by decide), uI_s]
    · rw [j8r 3 (by decide) (by decide), j7r 3 (by decide), j43]
    · rw [j8r 4 (by decide) (by decide), j7r 4 (by decide), j44]
    · rw [← hJ8, uI_s]
    · intro k hk hT
      rw [j8r _ (by omega) (by omega), j8r _ (by omega) (by omega)]
      exact hV7 k hk (by rw [oJ7 125 (by decide) (by decide)]; exact hT)
    · rw [j8r 0 (by decide) (by decide), j7r 0 (by decide), j4r 0 (by decide) (by decide), j2r 0 (by omega), j10]
