/-- the values and places of the settings that are there -/
def Vr (T : Nat → Int32) (v : Nat) (I : It) (d : Nat) (D : Nat → Int32) : Prop := ∀ k, k < 10 → T (10 * v + k) ≠ 0 → I (d + 5) k = D (11 + k) ∧ byt (D (11 + k)) ∧ I (d + 6) k = D (117 + k)
theorem Rc_keep {I I' : It} {d : Nat} {D D' : Nat → Int32} (h : Rc I d D) (h1 : ∀ a, d + 1 ≤ a → a ≤ d + 4 → I' a = I a) (h3 : I' d 3 = I d 3) (h4 : I' d 4 = I d 4) (hD : ∀ j, j < 2 ∨ (7 ≤ j ∧ j < 11) ∨ (21 ≤ j ∧ j < 117) → D' j = D j) : Rc I' d D' := by
  obtain ⟨c1, c2, c3, c4, c5, c6⟩ := h
  have z0 := hD 0 (by omega)
  have z1 := hD 1 (by omega)
  refine ⟨by rw [h3, z0]; exact c1, by rw [z0]; exact c2, by rw [h4, z1]; exact c3, by rw [z0, z1]; exact c4, by rw [z1]; exact c5, fun p hp => ?_⟩
  obtain ⟨e1, e2, e3⟩ := c6 p hp
  refine ⟨by rw [h1 _ (by omega) (by omega), hD _ (by omega)]; exact e1, by rw [h1 _ (by omega) (by omega), hD _ (by omega)]; exact e2, fun k hk => ?_⟩
  rw [h1 _ (by omega) (by omega), hD _ (by omega)]
  exact e3 k hk
def FRI (d : Nat) (I I' : It) : Prop := (∀ a, a ≠ d → a ≠ d + 5 → a ≠ d + 6 → I' a = I a) ∧ ∀ j, j ≠ 8 → j ≠ 9 → I' d j = I d j
def FRJ (J J' : It) : Prop := (∀ a, a ≠ 119 → a ≠ 120 → J' a = J a) ∧ (∀ j, j ≠ 17 → j ≠ 18 → j ≠ 19 → J' 119 j = J 119 j) ∧ ∀ j, j < 11 ∨ (21 ≤ j ∧ j < 117) → J' 120 j = J 120 j
theorem FRI_tr {d : Nat} {I1 I2 I3 : It} (h : FRI d I1 I2) (h' : FRI d I2 I3) : FRI d I1 I3 := ⟨fun a q1 q2 q3 => (h'.1 a q1 q2 q3).trans (h.1 a q1 q2 q3), fun j q1 q2 => (h'.2 j q1 q2).trans (h.2 j q1 q2)⟩
theorem FRJ_tr {J1 J2 J3 : It} (h : FRJ J1 J2) (h' : FRJ J2 J3) : FRJ J1 J3 := ⟨fun a q1 q2 => (h'.1 a q1 q2).trans (h.1 a q1 q2), fun j q1 q2 q3 => (h'.2.1 j q1 q2 q3).trans (h.2.1 j q1 q2 q3), fun j q => (h'.2.2 j q).trans (h.2.2 j q)⟩
theorem S78 {L o i : Nat} {I : It} (ho : kd (GG L) o = 4) (h3 : 3 ≤ i) (hi : i + 3 ≤ 48) : E 78 0 [some (.ref o), some (.int (nI i))] [] (GG L) I = some (some (.int (tI (I (o + 1) i ≠ -6))), GG L, I) := by
  rw [B78_0 ho, if_neg (show ¬ nI i < (3 : Int32) from nI_nlt (a := i) (b := 3) h3 (by omega)), show nI i + 3 = nI (i + 3) from nI_add i 3, if_neg (show ¬ (48 : Int32) < nI (i + 3) from nI_nlt (a := 48) (b := i + 3) hi (by decide)), ck_of (inb_nI (by omega) (by decide)), ix_nI (by omega)]
  by_cases h : I (o + 1) i = -6
  · rw [if_pos h, tI_f (fun q => q h)]
  · rw [if_neg h, tI_t h]
theorem S119 {L : Nat} {x : Int32} {I : It} : E 119 0 [some (.int x)] [] (GG L) I = some (some (.int (tI (∃ k, k < 10 ∧ x = nI k))), GG L, I) := by
  rcases below x (n := 10) (by decide) with ⟨k, hk, e⟩ | ⟨h3, h4⟩
  · rw [tI_t ⟨k, hk, e⟩, e, B119_0, if_neg (nI_pos (by omega)), if_neg (show ¬ (10 : Int32) ≤ nI k from nI_ge (a := k) (b := 10) hk (by decide))]
  · rw [tI_f (fun ⟨k, hk, e⟩ => h4 k hk e), B119_0]
    by_cases h5 : x < 0
    · rw [if_pos h5]
    · rw [if_neg h5, if_pos (show (10 : Int32) ≤ x from h3.resolve_left h5)]
/-- what the reading of records keeps between two of them -/
def Qr (n v d p i : Nat) (I J : It) : Prop := Ry n I J ∧ Rc I d (J 120) ∧ I d 6 = nI v ∧ I d 9 = J 119 18 ∧ J 119 19 = nI i ∧ Vr (J 125) v I d (J 120)
theorem R_step {L n d p v i : Nat} {I J : It} {u3 : Option Value} (hd : kd (GG L) d = 0) (hd81 : 81 ≤ d) (hdJ : d + 6 < 119) (hdp : kd (GG L) (d + 1 + 2 * p) = 4) (hd5 : kd (GG L) (d + 5) = 50) (ld5 : ln (GG L) (d + 5) = 10) (hp : p < 2) (hv : v < n) (h3 : 3 ≤ i) (hi : i + 3 ≤ 48) (hQ : Qr n v d p i I J) :
    (E 20 2 [some (.ref d), some (.ref (d + 1 + 2 * p)), some (.int (nI i)), u3] [] (GG L) I = some (none, GG L, uI I d 8 (nI i)) ∧ E 141 15 [some (.ref 119), some (.int (nI p)), some (.int (nI v)), some (.int 1)] [] (GG L) J = some (none, GG L, J)) ∨
    ∃ I' J' u, E 20 2 [some (.ref d), some (.ref (d + 1 + 2 * p)), some (.int (nI i)), u3] [] (GG L) I = E 20 2 [some (.ref d), some (.ref (d + 1 + 2 * p)), some (.int (nI (i + 3))), u] [] (GG L) I' ∧ E 141 15 [some (.ref 119), some (.int (nI p)), some (.int (nI v)), some (.int 1)] [] (GG L) J = E 141 15 [some (.ref 119), some (.int (nI p)), some (.int (nI v)), some (.int 1)] [] (GG L) J' ∧ Qr n v d p (i + 3) I' J' ∧ FRI d I I' ∧ FRJ J J' := by
  obtain ⟨hR, hc, h6, h9, h19, hV⟩ := hQ
  have hn := hR.1
  obtain ⟨f, hf⟩ : ∃ f : Nat → Int32, (fun k => J 120 (21 + 48 * p + k)) = f := ⟨_, rfl⟩
  have hfk : ∀ k, J 120 (21 + 48 * p + k) = f k := fun k => congrFun hf k
  have hcell : ∀ k, k < 48 → I (d + 1 + 2 * p + 1) k = f k ∧ cel (f k) := fun k hk => by
    have := (hc.2.2.2.2.2 p hp).2.2 k hk
    rw [show d + 2 + 2 * p = d + 1 + 2 * p + 1 by omega, hfk] at this
    exact this
  have g0 : ∀ J', J' 120 = J 120 → ∀ k, k < 48 → E 131 0 [some (.ref 119), some (.int (nI p)), some (.int (nI k))] [] (GG L) J' = some (some (.int (f k)), GG L, J') := fun J' hJ' k hk => by
    rw [S131 hp hk, hJ', hfk]
  have b0 := B20_2 (L := L) (o0 := d) (o1 := d + 1 + 2 * p) (x2 := nI i) (u3 := u3) (I := I) hd hdp
  rw [if_neg (show ¬ (48 : Int32) ≤ nI i from nI_ge (a := i) (b := 48) (show i < 48 by omega) (by decide)), S78 hdp h3 hi, (hcell i (by omega)).1, K2_i, B20_13 hd hdp] at b0
  have b1 := B141_15 (L := L) (x1 := nI p) (x2 := nI v) (x3 := 1) (I := J)
  rw [h19, if_neg (show ¬ (48 : Int32) ≤ nI i from nI_ge (a := i) (b := 48) (show i < 48 by omega) (by decide)), g0 J rfl i (by omega), K2_i, B141_33] at b1
  by_cases z : f i = -6
  · rw [tI_f (fun q => q z), if_pos rfl] at b0
    rw [if_pos z] at b1
    exact Or.inl ⟨b0, b1⟩
  refine Or.inr ?_
  rw [tI_t z, if_neg (by decide), S80 hdp (by omega), (hcell i (by omega)).1, K2_i, B20_21 hd hdp, S119, K2_i, B20_26 hd hdp, show nI i + 3 = nI (i + 3) from nI_add i 3] at b0
  have hgr : ∀ k, k < 10 → byt (J 126 (10 * v + k)) := fun k hk => ((hR.2.2.2.2 v hv).1 k hk).2.2.2.1
  have s140 := S140 (L := L) (p := p) (i := i) (v := v) (J := J) hp (by omega) (by omega) hgr
  rw [hf] at s140
  rw [if_neg z, h19, s140, K2_i, B141_48] at b1
  -- the bad record's step, once for its two ways
  have bad : ¬ Gdf J v f i → (∃ u, E 20 2 [some (.ref d), some (.ref (d + 1 + 2 * p)), some (.int (nI i)), u3] [] (GG L) I = E 20 2 [some (.ref d), some (.ref (d + 1 + 2 * p)), some (.int (nI (i + 3))), u] [] (GG L) (uI I d 9 (I d 9 + 1))) → ∃ I' J' u, E 20 2 [some (.ref d), some (.ref (d + 1 + 2 * p)), some (.int (nI i)), u3] [] (GG L) I = E 20 2 [some (.ref d), some (.ref (d + 1 + 2 * p)), some (.int (nI (i + 3))), u] [] (GG L) I' ∧ E 141 15 [some (.ref 119), some (.int (nI p)), some (.int (nI v)), some (.int 1)] [] (GG L) J = E 141 15 [some (.ref 119), some (.int (nI p)), some (.int (nI v)), some (.int 1)] [] (GG L) J' ∧ Qr n v d p (i + 3) I' J' ∧ FRI d I I' ∧ FRJ J J' := by
    intro hb ⟨u, hu⟩
    rw [tI_f hb, if_pos rfl, uI_k _ _ _ _ _ (by decide), h19, show nI i + 3 = nI (i + 3) from nI_add i 3] at b1
    refine ⟨_, _, u, hu, b1, ⟨Ry_congr hR (fun a ha => uI_o _ _ _ _ _ (by omega)) (by rw [uI_k _ _ _ _ _ (by decide), uI_k _ _ _ _ _ (by decide)]) (fun a h1 h2 => by rw [uI_o _ _ _ _ _ (by omega), uI_o _ _ _ _ _ (by omega)]), ?_, ?_, ?_, uI_s _ _ _ _, ?_⟩, ⟨fun a q1 _ _ => uI_o _ _ _ _ _ q1, fun j _ q2 => uI_k _ _ _ _ _ q2⟩, ⟨fun a q1 _ => by rw [uI_o _ _ _ _ _ q1, uI_o _ _ _ _ _ q1], fun j _ q2 q3 => by rw [uI_k _ _ _ _ _ q3, uI_k _ _ _ _ _ q2], fun j _ => by rw [uI_a _ _ _ _ _ _ (by decide), uI_a _ _ _ _ _ _ (by decide)]⟩⟩
    · exact Rc_keep hc (fun a q1 q2 => uI_o _ _ _ _ _ (by omega)) (uI_k _ _ _ _ _ (by decide)) (uI_k _ _ _ _ _ (by decide)) (fun j _ => by rw [uI_a _ _ _ _ _ _ (by decide), uI_a _ _ _ _ _ _ (by decide)])
    · rw [uI_k _ _ _ _ _ (by decide)]; exact h6
    · rw [uI_s, uI_k _ _ _ _ _ (by decide), uI_s, h9]
    · intro k hk hT
      rw [uI_a _ _ _ _ _ _ (by decide), uI_a _ _ _ _ _ _ (by decide)] at hT
      have v1 : ∀ q, q ≠ d → uI I d 9 (I d 9 + 1) q = I q := fun q h => uI_o _ _ _ _ _ h
      have w1 : uI (uI J 119 18 (J 119 18 + 1)) 119 19 (nI (i + 3)) 120 = J 120 := by rw [uI_o _ _ _ _ _ (by decide), uI_o _ _ _ _ _ (by decide)]
      rw [v1 _ (by omega), v1 _ (by omega), w1]
      exact hV k hk hT
  by_cases hnm : ∃ k, k < 10 ∧ f i - 1 = nI k
  · rw [tI_t hnm, if_neg (by decide), S10 hR hd hv h6, K2_i, B20_35 hd hdp hdp (k_lay (by omega)), h6] at b0
    have s79 := S79 (L := L) (o := d + 1 + 2 * p) (i := i) (hR.2.2.2.2 v hv) (by omega) hdp (k_lay (by omega)) (by omega) (fun k hk => by rw [(hcell k hk).1]; exact (hcell k hk).2)
    rw [tI_iff (Gdf_congr (by omega) (fun k hk => (hcell k hk).1))] at s79
    rw [s79, K2_i, B20_42 hd hdp, show nI i + 3 = nI (i + 3) from nI_add i 3] at b0
    by_cases hg : Gdf J v f i
    · obtain ⟨a, b, ha, hb, w0, w1, w2, w3, w4⟩ := id hg
      have hsub : f i - 1 = nI a := sub_1.mpr w0
      rw [tI_t hg, if_neg (by decide), nI_1, S71 hdp (by omega), (hcell (i + 1) (by omega)).1, K2_i, hsub, B20_57 hd hdp hd5 ld5, ck_of (inb_nI ha (by decide)), ck_of (inb_nI ha (by decide)), ix_nI (by omega), show nI i + 3 = nI (i + 3) from nI_add i 3, w1] at b0
      obtain ⟨J1, hJ1⟩ : ∃ J1, uI J 119 17 (J 119 17 + 1) = J1 := ⟨_, rfl⟩
      have j19 : J1 119 19 = nI i := by rw [← hJ1, uI_k _ _ _ _ _ (by decide)]; exact h19
      have j120 : J1 120 = J 120 := by rw [← hJ1]; exact uI_o _ _ _ _ _ (by decide)
      rw [tI_t hg, if_neg (by decide), if_neg (by decide), hJ1, j19, g0 J1 j120 i (by omega), K2_i, B141_80 (wk_7_0 k_119) (wl_7_0 k_119), j19, nI_1, g0 J1 j120 (i + 1) (by omega), K2_i, w0, show (11 + nI (a + 1)) - 1 = nI (11 + a) from by rw [show (11 : Int32) = nI 11 from rfl, nI_add, show 11 + (a + 1) = (11 + a) + 1 by omega, nI_pred], B141_94 (wk_7_0 k_119) (wl_7_0 k_119), ck_of (inb_nI (by omega) (by decide)), ix_nI (by omega), w1] at b1
      obtain ⟨J2, hJ2⟩ : ∃ J2, uI J1 120 (11 + a) (nI b) = J2 := ⟨_, rfl⟩
      have j19' : J2 119 19 = nI i := by rw [← hJ2, uI_a _ _ _ _ _ _ (by decide)]; exact j19
      have hf2 : J2 120 (21 + 48 * p + i) = f i := by rw [← hJ2, uI_k _ _ _ _ _ (by omega), j120, hfk]
      rw [hJ2, j19', S131 hp (by omega), hf2, w0, K2_i, B141_110 (wk_7_0 k_119) (wl_7_0 k_119), show (117 + nI (a + 1)) - 1 = nI (117 + a) from by rw [show (117 : Int32) = nI 117 from rfl, nI_add, show 117 + (a + 1) = (117 + a) + 1 by omega, nI_pred], ck_of (inb_nI (by omega) (by decide)), ix_nI (by omega), j19', uI_a _ _ _ _ _ _ (by decide), j19', show nI i + 3 = nI (i + 3) from nI_add i 3] at b1
      obtain ⟨J3, hJ3⟩ : ∃ J3, uI (uI J2 120 (117 + a) (nI i)) 119 19 (nI (i + 3)) = J3 := ⟨_, rfl⟩
      rw [hJ3] at b1
      have o3 : ∀ q, q ≠ 119 → q ≠ 120 → J3 q = J q := fun q h1 h2 => by rw [← hJ3, uI_o _ _ _ _ _ h1, uI_o _ _ _ _ _ h2, ← hJ2, uI_o _ _ _ _ _ h2, ← hJ1, uI_o _ _ _ _ _ h1]
      have p3 : ∀ q, q ≠ 17 → q ≠ 19 → J3 119 q = J 119 q := fun q h1 h2 => by rw [← hJ3, uI_k _ _ _ _ _ h2, uI_a _ _ _ _ _ _ (by decide), ← hJ2, uI_a _ _ _ _ _ _ (by decide), ← hJ1, uI_k _ _ _ _ _ h1]
      have r3 : ∀ q, J3 120 q = if q = 117 + a then nI i else if q = 11 + a then nI b else J 120 q := fun q => by
        rw [← hJ3, uI_a _ _ _ _ _ _ (by decide)]
        by_cases q1 : q = 117 + a
        · rw [q1, uI_s, if_pos rfl]
        · rw [uI_k _ _ _ _ _ q1, if_neg q1, ← hJ2]
          by_cases q2 : q = 11 + a
          · rw [q2, uI_s, if_pos rfl]
          · rw [uI_k _ _ _ _ _ q2, if_neg q2, j120]
      have s3 : J3 119 19 = nI (i + 3) := by rw [← hJ3, uI_s]
      have r3' : ∀ q, q < 11 ∨ (21 ≤ q ∧ q < 117) → J3 120 q = J 120 q := fun q hq => by rw [r3, if_neg (by omega), if_neg (by omega)]
      obtain ⟨I3, hI3⟩ : ∃ I3, uI (uI I (d + 5) a (nI b)) (d + 6) a (nI i) = I3 := ⟨_, rfl⟩
      rw [hI3] at b0
      have oI : ∀ q, q ≠ d + 5 → q ≠ d + 6 → I3 q = I q := fun q h1 h2 => by rw [← hI3, uI_o _ _ _ _ _ h2, uI_o _ _ _ _ _ h1]
      refine ⟨I3, J3, _, b0, b1, ⟨Ry_congr hR (fun q hq => oI q (by omega) (by omega)) (p3 6 (by decide) (by decide)) (fun q h1 h2 => o3 q (by omega) (by omega)), ?_, ?_, ?_, s3, ?_⟩, ⟨fun q _ q2 q3 => oI q q2 q3, fun j _ _ => by rw [oI d (by omega) (by omega)]⟩, ⟨o3, fun j h1 _ h3 => p3 j h1 h3, r3'⟩⟩
      · exact Rc_keep hc (fun q q1 q2 => oI q (by omega) (by omega)) (by rw [oI d (by omega) (by omega)]) (by rw [oI d (by omega) (by omega)]) (fun j hj => r3' j (by omega))
      · rw [oI d (by omega) (by omega)]; exact h6
      · rw [oI d (by omega) (by omega), p3 18 (by decide) (by decide)]; exact h9
      · intro k hk hT
        rw [o3 125 (by decide) (by decide)] at hT
        by_cases q : k = a
        · subst q
          rw [← hI3, uI_s, uI_a _ _ _ _ _ _ (by omega), uI_s, r3, r3, if_neg (by omega), if_pos rfl, if_pos rfl]
          exact ⟨rfl, ⟨b, hb, rfl⟩, rfl⟩
        · rw [← hI3, uI_k _ _ _ _ _ q, uI_a _ _ _ _ _ _ (by omega), uI_k _ _ _ _ _ q, uI_a _ _ _ _ _ _ (by omega), r3, r3, if_neg (by omega), if_neg (by omega), if_neg (by omega), if_neg (by omega)]
          exact hV k hk hT
    · rw [tI_f hg, if_pos rfl] at b0
      exact bad hg ⟨_, b0⟩
  · rw [tI_f hnm, if_pos rfl] at b0
    exact bad (fun ⟨a, b, ha, hb, w0, _⟩ => hnm ⟨a, ha, sub_1.mpr w0⟩) ⟨_, b0⟩
