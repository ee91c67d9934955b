def hck (a b : Int32) : Int32 := (((3 * a) + (5 * b)) + 1) - (((3 * a) + (5 * b)) + 1) / 251 * 251
def rck (a b v : Int32) : Int32 := ((((7 * a) + (11 * b)) + (13 * v)) + 5) - ((((7 * a) + (11 * b)) + (13 * v)) + 5) / 251 * 251
/-- a good head in a page's cells, a good record in them -/
def Hdf (n : Nat) (f : Nat → Int32) : Prop := ∃ v s, v < n ∧ s < 200 ∧ f 0 = nI (200 + v) ∧ f 1 = nI s ∧ f 2 = hck (f 0) (f 1)
def Gdf (J : It) (v : Nat) (f : Nat → Int32) (i : Nat) : Prop := ∃ a b, a < 10 ∧ b < 256 ∧ f i = nI (a + 1) ∧ f (i + 1) = nI b ∧ J 125 (10 * v + a) ≠ 0 ∧ nI b ≤ J 126 (10 * v + a) ∧ f (i + 2) = rck (f i) (f (i + 1)) (nI v)
theorem byt_ne {x : Int32} (h : byt x) : x ≠ -6 := by
  obtain ⟨c, hc, e⟩ := h
  intro h
  rw [e] at h
  exact nI_pos (show c < 2 ^ 31 by omega) (h ▸ by decide)
theorem Hdf_three {n : Nat} {f : Nat → Int32} (hn : n ≤ 6) (h : Hdf n f) : f 0 ≠ -6 ∧ f 1 ≠ -6 ∧ f 2 ≠ -6 := by
  obtain ⟨v, s, hv, hs, e0, e1, e2⟩ := h
  refine ⟨byt_ne ⟨200 + v, by omega, e0⟩, byt_ne ⟨s, by omega, e1⟩, byt_ne ?_⟩
  rw [e2, e0, e1]
  exact head_ck (by omega) (by omega)
theorem Gdf_three {J : It} {v : Nat} {f : Nat → Int32} {i : Nat} (hv : v < 6) (h : Gdf J v f i) : f i ≠ -6 ∧ f (i + 1) ≠ -6 ∧ f (i + 2) ≠ -6 := by
  obtain ⟨a, b, ha, hb, e0, e1, -, -, e2⟩ := h
  refine ⟨byt_ne ⟨a + 1, by omega, e0⟩, byt_ne ⟨b, by omega, e1⟩, byt_ne ?_⟩
  rw [e2, e0, e1]
  exact rec_ck (by omega) (by omega) (by omega)
theorem S82 {L o i : Nat} {I : It} (ho : kd (GG L) o = 4) (hi : i + 2 < 48) : E 82 0 [some (.ref o), some (.int (nI i))] [] (GG L) I = some (some (.int (tI (I (o + 1) i ≠ -6 ∧ I (o + 1) (i + 1) ≠ -6 ∧ I (o + 1) (i + 2) ≠ -6))), GG L, I) := by
  rw [B82_0 ho, S71 ho (by omega), K2_i, B82_5 ho, nI_1]
  by_cases h1 : I (o + 1) i = -6
  · rw [if_pos h1, tI_f (fun q => q.1 h1)]
  rw [if_neg h1, S71 ho (by omega), K2_i, B82_17 ho, show nI i + 2 = nI (i + 2) from nI_add i 2]
  by_cases h2 : I (o + 1) (i + 1) = -6
  · rw [if_pos h2, tI_f (fun q => q.2.1 h2)]
  rw [if_neg h2, S71 ho (by omega), K2_i, B82_29]
  by_cases h3 : I (o + 1) (i + 2) = -6
  · rw [if_pos h3, tI_f (fun q => q.2.2 h3)]
  rw [if_neg h3, tI_t ⟨h1, h2, h3⟩]
theorem S71_0 {L o : Nat} {I : It} (ho : kd (GG L) o = 4) : E 71 0 [some (.ref o), some (.int 0)] [] (GG L) I = some (some (.int (I (o + 1) 0)), GG L, I) := S71 (k := 0) ho (by decide)
theorem S71_1 {L o : Nat} {I : It} (ho : kd (GG L) o = 4) : E 71 0 [some (.ref o), some (.int 1)] [] (GG L) I = some (some (.int (I (o + 1) 1)), GG L, I) := S71 (k := 1) ho (by decide)
theorem S71_2 {L o : Nat} {I : It} (ho : kd (GG L) o = 4) : E 71 0 [some (.ref o), some (.int 2)] [] (GG L) I = some (some (.int (I (o + 1) 2)), GG L, I) := S71 (k := 2) ho (by decide)
theorem S75 {L o : Nat} {I : It} (ho : kd (GG L) o = 4) : E 75 0 [some (.ref o)] [] (GG L) I = some (some (.int (I (o + 1) 0 - 200)), GG L, I) := by rw [B75_0 ho, S71_0 ho, K2_i, B75_5]
theorem S76 {L o : Nat} {I : It} (ho : kd (GG L) o = 4) : E 76 0 [some (.ref o)] [] (GG L) I = some (some (.int (I (o + 1) 1)), GG L, I) := by rw [B76_0 ho, S71_1 ho, K2_i, B76_5]
theorem sub_200 {x : Int32} {v : Nat} : x - 200 = nI v ↔ x = nI (200 + v) := by
  constructor
  · intro h
    have : x = x - 200 + 200 := (Int32.sub_add_cancel x 200).symm
    rw [this, h, Nat.add_comm]
    exact nI_add v 200
  · intro h
    rw [h, show (200 : Int32) = nI 200 from rfl, nI_sub (by omega), Nat.add_sub_cancel_left]
theorem sub_1 {x : Int32} {v : Nat} : x - 1 = nI v ↔ x = nI (v + 1) := by
  constructor
  · intro h
    have : x = x - 1 + 1 := (Int32.sub_add_cancel x 1).symm
    rw [this, h, nI_1]
  · intro h
    rw [h, nI_pred]
/-- the class looks for a good head -/
theorem S77 {L n o : Nat} {I J : It} (hR : Ry n I J) (ho : kd (GG L) o = 4) (hc : ∀ k, k < 48 → cel (I (o + 1) k)) : E 77 0 [some (.ref o), some (.ref 9)] [] (GG L) I = some (some (.int (tI (Hdf n (I (o + 1))))), GG L, I) := by
  have hn := hR.1
  have e0 := S82 (L := L) (i := 0) (I := I) ho (by decide)
  rw [B77_0 ho, show (0 : Int32) = nI 0 from rfl, e0, K2_i, B77_5 ho]
  by_cases h : I (o + 1) 0 ≠ -6 ∧ I (o + 1) (0 + 1) ≠ -6 ∧ I (o + 1) (0 + 2) ≠ -6
  · rw [tI_t h, if_neg (by decide), S75 ho, K2_i, B77_13 ho, S45 hR, K2_i, B77_16 ho]
    by_cases h1 : ∃ v, v < n ∧ I (o + 1) 0 - 200 = nI v
    · obtain ⟨v, hv, e⟩ := id h1
      rw [tI_t h1, if_neg (by decide), S76 ho, K2_i, B77_23 ho]
      have e' := sub_200.mp e
      by_cases h2 : 200 ≤ I (o + 1) 1
      · rw [if_pos h2, tI_f]
        rintro ⟨v', s, -, hs, -, e1, -⟩
        rw [e1] at h2
        exact nI_ge (a := s) (b := 200) hs (by decide) h2
      · rw [if_neg h2, S71_2 ho, K2_i, B77_34 ho, S71_0 ho, K2_i, B77_39 ho, S71_1 ho, K2_i, B77_44, B83_0, K2_i, B77_47]
        have hs : ∃ s, s < 200 ∧ I (o + 1) 1 = nI s := by
          rcases hc 1 (by decide) with z | ⟨s, hs, z⟩
          · exact absurd z h.2.1
          · rw [z] at h2
            have : ¬ 200 ≤ s := fun q => h2 (nI_le (a := 200) q (by omega))
            exact ⟨s, by omega, z⟩
        obtain ⟨s, hs, es⟩ := hs
        by_cases h3 : I (o + 1) 2 = hck (I (o + 1) 0) (I (o + 1) 1)
        · rw [tI_t (P := Hdf n (I (o + 1))) ⟨v, s, hv, hs, e', es, h3⟩]; exact if_pos h3
        · rw [tI_f (fun ⟨_, _, _, _, _, _, q⟩ => h3 q)]; exact if_neg h3
    · rw [tI_f h1, if_pos rfl, tI_f]
      rintro ⟨v, s, hv, -, e, -⟩
      exact h1 ⟨v, hv, sub_200.mpr e⟩
  · rw [tI_f h, if_pos rfl, tI_f (fun q => h (Hdf_three hn q))]
/-- the reference looks for a good head -/
theorem S139 {L n p : Nat} {I J : It} (hR : Ry n I J) (hp : p < 2) : E 139 0 [some (.ref 119), some (.int (nI p)), none, none] [] (GG L) J = some (some (.int (tI (Hdf n (fun k => J 120 (21 + 48 * p + k))))), GG L, J) := by
  have hn := hR.1
  have g0 : E 131 0 [some (.ref 119), some (.int (nI p)), some (.int 0)] [] (GG L) J = some (some (.int (J 120 (21 + 48 * p + 0))), GG L, J) := S131 (i := 0) hp (by decide)
  have g1 : E 131 0 [some (.ref 119), some (.int (nI p)), some (.int 1)] [] (GG L) J = some (some (.int (J 120 (21 + 48 * p + 1))), GG L, J) := S131 (i := 1) hp (by decide)
  have g2 : E 131 0 [some (.ref 119), some (.int (nI p)), some (.int 2)] [] (GG L) J = some (some (.int (J 120 (21 + 48 * p + 2))), GG L, J) := S131 (i := 2) hp (by decide)
  obtain ⟨f, hf⟩ : ∃ f : Nat → Int32, (fun k => J 120 (21 + 48 * p + k)) = f := ⟨_, rfl⟩
  have hfk : ∀ k, J 120 (21 + 48 * p + k) = f k := fun k => congrFun hf k
  rw [hfk] at g0 g1 g2
  rw [hf, B139_0, g0, K2_i, B139_6, g1, K2_i, B139_13, S121, K2_i, B139_24]
  by_cases h1 : 200 ≤ f 0 ∧ f 0 ≤ 205
  · rw [tI_t h1, if_neg (by decide), S123 hR, K2_i, B139_36]
    by_cases h2 : ∃ v, v < n ∧ f 0 - 200 = nI v
    · obtain ⟨v, hv, e⟩ := id h2
      have e' := sub_200.mp e
      rw [tI_t h2, if_neg (by decide), S121, K2_i, B139_47]
      by_cases h3 : 0 ≤ f 1 ∧ f 1 ≤ 199
      · obtain ⟨s, hs, es⟩ := nI_of2 (M := 199) (n := 199) rfl (Int32.not_lt.mpr h3.1) h3.2
        rw [tI_t h3, if_neg (by decide), g2, K2_i, B139_56, B134_0, K2_i, B139_61]
        by_cases h4 : f 2 = hck (f 0) (f 1)
        · rw [tI_t (P := Hdf n f) ⟨v, s, hv, by omega, e', es, h4⟩]; exact if_pos h4
        · rw [tI_f (fun ⟨_, _, _, _, _, _, q⟩ => h4 q)]; exact if_neg h4
      · rw [tI_f h3, if_pos rfl, tI_f]
        rintro ⟨v', s, -, hs, -, e1, -⟩
        refine h3 ⟨e1 ▸ nI_pos' (by omega), e1 ▸ ?_⟩
        exact nI_le (b := 199) (by omega) (by decide)
    · rw [tI_f h2, if_pos rfl, tI_f]
      rintro ⟨v, s, hv, -, e, -⟩
      exact h2 ⟨v, hv, sub_200.mpr e⟩
  · rw [tI_f h1, if_pos rfl, tI_f]
    rintro ⟨v, s, hv, -, e, -⟩
    refine h1 ⟨e ▸ ?_, e ▸ ?_⟩
    · exact nI_le (a := 200) (by omega) (by omega)
    · exact nI_le (b := 205) (by omega) (by decide)
theorem S80 {L o i : Nat} {I : It} (ho : kd (GG L) o = 4) (hi : i < 48) : E 80 0 [some (.ref o), some (.int (nI i))] [] (GG L) I = some (some (.int (I (o + 1) i - 1)), GG L, I) := by rw [B80_0 ho, S71 ho hi, K2_i, B80_5]
/-- the class looks for a good record -/
theorem S79 {L o i v : Nat} {I J : It} (hR : Rv I J v) (hv : v < 6) (ho : kd (GG L) o = 4) (hl : kd (GG L) (21 + 10 * v) = 1) (hi : i + 2 < 48) (hc : ∀ k, k < 48 → cel (I (o + 1) k)) : E 79 0 [some (.ref o), some (.int (nI i)), some (.ref (21 + 10 * v)), some (.int (nI v))] [] (GG L) I = some (some (.int (tI (Gdf J v (I (o + 1)) i))), GG L, I) := by
  rw [B79_0 ho hl, S82 ho hi, K2_i, B79_5 ho hl]
  by_cases h : I (o + 1) i ≠ -6 ∧ I (o + 1) (i + 1) ≠ -6 ∧ I (o + 1) (i + 2) ≠ -6
  · rw [tI_t h, if_neg (by decide), S80 ho (by omega), K2_i, B79_14 ho hl, nI_1, S71 ho (by omega), K2_i, B79_21 ho hl]
    rcases below (I (o + 1) i - 1) (n := 10) (by decide) with ⟨a, ha, e⟩ | ⟨-, h4⟩
    · have e' := sub_1.mp e
      obtain ⟨r1, r2, r3, r4, -⟩ := hR.1 a ha
      rw [e, S36 hl ha, K2_i, B79_24 ho, show nI i + 2 = nI (i + 2) from nI_add i 2, show 21 + 10 * v + 1 = 22 + 10 * v by omega, show 21 + 10 * v + 2 = 23 + 10 * v by omega, r2, r3]
      by_cases h1 : J 125 (10 * v + a) ≠ 0 ∧ 0 ≤ I (o + 1) (i + 1) ∧ I (o + 1) (i + 1) ≤ J 126 (10 * v + a)
      · rw [tI_t h1, if_neg (by decide), S71 ho (by omega), K2_i, B79_34 ho, S71 ho (by omega), K2_i, B79_39 ho, nI_1, S71 ho (by omega), K2_i, B79_46, B84_0, K2_i, B79_50]
        have hb : ∃ b, b < 256 ∧ I (o + 1) (i + 1) = nI b := (hc (i + 1) (by omega)).resolve_left h.2.1
        obtain ⟨b, hb, eb⟩ := hb
        by_cases h3 : I (o + 1) (i + 2) = rck (I (o + 1) i) (I (o + 1) (i + 1)) (nI v)
        · rw [tI_t (P := Gdf J v (I (o + 1)) i) ⟨a, b, ha, hb, e', eb, h1.1, eb ▸ h1.2.2, h3⟩]; exact if_pos h3
        · rw [tI_f (fun ⟨_, _, _, _, _, _, _, _, q⟩ => h3 q)]; exact if_neg h3
      · rw [tI_f h1, if_pos rfl, tI_f]
        rintro ⟨a', b, ha', hb, q0, q1, q2, q3, -⟩
        have : a' = a := by
          have := (nI_eq (by omega) (by omega)).mp (q0.symm.trans e')
          omega
        subst this
        exact h1 ⟨q2, q1 ▸ nI_pos' (by omega), q1 ▸ q3⟩
    · rw [S36n hl h4, K2_i, B79_24 ho, if_pos rfl, tI_f]
      rintro ⟨a, b, ha, -, q0, -⟩
      exact h4 a ha (sub_1.mpr q0)
  · rw [tI_f h, if_pos rfl, tI_f (fun q => h (Gdf_three hv q))]
/-- the reference looks for a good record -/
theorem S140 {L p i v : Nat} {J : It} (hp : p < 2) (hv : v < 6) (hi : i + 2 < 48) (hg : ∀ k, k < 10 → byt (J 126 (10 * v + k))) : E 140 0 [some (.ref 119), some (.int (nI p)), some (.int (nI i)), some (.int (nI v)), none, none, none] [] (GG L) J = some (some (.int (tI (Gdf J v (fun k => J 120 (21 + 48 * p + k)) i))), GG L, J) := by
  have g0 : E 131 0 [some (.ref 119), some (.int (nI p)), some (.int (nI i))] [] (GG L) J = some (some (.int (J 120 (21 + 48 * p + i))), GG L, J) := S131 hp (by omega)
  have g1 : E 131 0 [some (.ref 119), some (.int (nI p)), some (.int (nI (i + 1)))] [] (GG L) J = some (some (.int (J 120 (21 + 48 * p + (i + 1)))), GG L, J) := S131 hp (by omega)
  have g2 : E 131 0 [some (.ref 119), some (.int (nI p)), some (.int (nI (i + 2)))] [] (GG L) J = some (some (.int (J 120 (21 + 48 * p + (i + 2)))), GG L, J) := S131 hp (by omega)
  obtain ⟨f, hf⟩ : ∃ f : Nat → Int32, (fun k => J 120 (21 + 48 * p + k)) = f := ⟨_, rfl⟩
  have hfk : ∀ k, J 120 (21 + 48 * p + k) = f k := fun k => congrFun hf k
  rw [hfk] at g0 g1 g2
  rw [hf, B140_0, g0, K2_i, B140_6, nI_1, g1, K2_i, B140_16, S121, K2_i, B140_26]
  by_cases h1 : 1 ≤ f i ∧ f i ≤ 10
  · have ha : ∃ a, a < 10 ∧ f i = nI (a + 1) := by
      obtain ⟨j, hj, e⟩ := nI_of2 (M := 10) (n := 10) rfl (Int32.not_lt.mpr (Int32.le_trans (by decide) h1.1)) h1.2
      match j, hj, e with
      | 0, _, e => exact absurd (e ▸ h1.1) (by decide)
      | j + 1, hj, e => exact ⟨j, by omega, e⟩
    obtain ⟨a, ha, e⟩ := ha
    have hsub : f i - 1 = nI a := sub_1.mpr e
    have hix : ((10 * nI v) + f i) - 1 = nI (10 * v + a) := by
      rw [e, show (10 : Int32) = nI 10 from rfl, nI_mul, nI_add, show 10 * v + (a + 1) = (10 * v + a) + 1 by omega, nI_pred]
    rw [tI_t h1, if_neg (by decide), hsub, S124k hv ha, K2_i, B140_38]
    by_cases h2 : J 125 (10 * v + a) ≠ 0
    · rw [tI_t h2, if_neg (by decide), B140_46, if_neg (by decide), hix, ck_of (inb_nI (by omega) (by decide)), ix_nI (by omega), S121, K2_i, B140_73]
      by_cases h3 : 0 ≤ f (i + 1) ∧ f (i + 1) ≤ J 126 (10 * v + a)
      · have hb : ∃ b, b < 256 ∧ f (i + 1) = nI b := by
          obtain ⟨c, hc, ec⟩ := hg a ha
          obtain ⟨j, hj, e⟩ := nI_of2 (M := nI c) (n := c) (nI_toInt (by omega)) (Int32.not_lt.mpr h3.1) (ec ▸ h3.2)
          exact ⟨j, by omega, e⟩
        obtain ⟨b, hb, eb⟩ := hb
        rw [tI_t h3, if_neg (by decide), show nI i + 2 = nI (i + 2) from nI_add i 2, g2, K2_i, B140_84, B135_0, K2_i, B140_92]
        by_cases h4 : f (i + 2) = rck (f i) (f (i + 1)) (nI v)
        · rw [tI_t (P := Gdf J v f i) ⟨a, b, ha, hb, e, eb, h2, eb ▸ h3.2, h4⟩]; exact if_pos h4
        · rw [tI_f (fun ⟨_, _, _, _, _, _, _, _, q⟩ => h4 q)]; exact if_neg h4
      · rw [tI_f h3, if_pos rfl, tI_f]
        rintro ⟨a', b, ha', hb, q0, q1, q2, q3, -⟩
        have : a' = a := by
          have := (nI_eq (by omega) (by omega)).mp (q0.symm.trans e)
          omega
        subst this
        exact h3 ⟨q1 ▸ nI_pos' (by omega), q1 ▸ q3⟩
    · rw [tI_f h2, if_pos rfl, B140_46, if_pos rfl, tI_f]
      rintro ⟨a', b, ha', hb, q0, q1, q2, q3, -⟩
      have : a' = a := by
        have := (nI_eq (by omega) (by omega)).mp (q0.symm.trans e)
        omega
      subst this
      exact h2 q2
  · rw [tI_f h1, if_pos rfl, B140_46, if_pos rfl, tI_f]
    rintro ⟨a, b, ha, hb, q0, -⟩
    refine h1 ⟨q0 ▸ ?_, q0 ▸ ?_⟩
    · exact nI_le (a := 1) (by omega) (by omega)
    · exact nI_le (b := 10) (by omega) (by decide)
