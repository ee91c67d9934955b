/-- there is such a version -/
def Vs (n : Nat) (x : Int32) : Prop := ∃ v, v < n ∧ x = nI v
theorem M_migrate (x : Int32) : Sm 101 [some (.ref 1), some (.int x)] 156 [some (.ref 119), some (.int x)] := fun L n I J hr => by
  obtain ⟨hR, hD, -, -⟩ := id hr
  have hn := hR.1
  rw [B101_0, S3 k_81 hD, K2_i, B101_7, B156_0, S152 hD, K2_i, B156_4]
  by_cases h : J 120 0 ≠ 0 ∧ J 120 2 ≠ -6
  · rw [tI_t h, tI_f (fun q => q h), if_neg (by decide), if_pos rfl, S45 hR, K2_i, B101_21, S123 hR, K2_i, B156_15]
    rcases act_cases hD with ⟨q2, -⟩ | ⟨p, v, hp, hv, q2, q3, hVr⟩
    · exact absurd q2 h.2
    have d6 := hD.2.2.1
    by_cases hx : ∃ v, v < n ∧ x = nI v
    · obtain ⟨t, ht, rfl⟩ := id hx
      rw [tI_t hx, if_neg (by decide), if_neg (by decide), B6_0 k_81, K2_i, B101_34, d6, q3]
      by_cases hlt : nI v < nI t
      · have hvt : v < t := (nI_ltI (by omega) (by omega)).mp hlt
        obtain ⟨J0, hJ0⟩ : ∃ J0, uI J 119 16 0 = J0 := ⟨_, rfl⟩
        have oJ0 : ∀ a, a ≠ 119 → J0 a = J a := fun a h => by rw [← hJ0, uI_o _ _ _ _ _ h]
        have fJ0 : FDJ J J0 := ⟨fun a q _ _ _ => oJ0 a q, fun j hj => by rw [← hJ0, uI_k _ _ _ _ _ (by omega)]⟩
        have w0 : J0 119 16 = 0 := by rw [← hJ0, uI_s]
        obtain ⟨I1, J1, a1, a2, f1, g1, hV1⟩ := W_mig (L := L) (n := n) (d := 81) (v := v) (t := t) (I := I) (J := J0) k_81 (by decide) (by decide) (Ry_D (d := 81) hR (by decide) FDI_r fJ0) (d6.trans q3) (by rw [oJ0 120 (by decide)]; exact q3) (by rw [oJ0 120 (by decide), oJ0 125 (by decide)]; exact hVr) (by omega) ht
        have fI1 : FDI 81 I I1 := fun a q => f1 a (by omega)
        have fJ1 : FDJ J0 J1 := ⟨fun a _ _ q _ => g1 a q, fun j _ => by rw [g1 119 (by decide)]⟩
        have hR1 : Ry n I1 J1 := Ry_D hR (by decide) fI1 (FDJ_tr fJ0 fJ1)
        have j120 : J1 120 = J 120 := by rw [g1 120 (by decide), oJ0 120 (by decide)]
        have j125 : J1 125 = J 125 := by rw [g1 125 (by decide), oJ0 125 (by decide)]
        have hD1 : Rd n (J1 125) I1 81 (J1 120) := by
          rw [j125, j120]
          exact Rd_c hD (fun a q1 q2 => f1 a (by omega)) (fun _ _ => rfl) (fun _ _ _ _ => rfl)
        obtain ⟨I2, J2, r, a3, a4, hD2, f2, g2, w2⟩ := W_fill (L := L) (v := t) k_81 (by decide) (by decide) hR1 ht hD1 (by rw [j120]; exact h.2) (fun j hj hTj => hV1 j hj (by rw [oJ0 125 (by decide), ← j125]; exact hTj))
        have wr : J2 119 16 = r := by rw [w2, g1 119 (by decide), w0, Int32.zero_add]
        rw [if_pos hlt, if_pos hlt, B22_0 k_81, a1, K2_v, B22_5 k_81, a3, K2_i, B22_10, K2_i, B101_48, hJ0, a2, K2_v, B156_43, a4, K2_v, B156_48, wr]
        have fI := FDI_tr fI1 f2
        have fJ := FDJ_tr (FDJ_tr fJ0 fJ1) g2
        exact ⟨_, _, n, _, rfl, rfl, RR_D hr (by rw [← j125]; exact hD2) fI fJ, fr_I (by decide) (by decide) fI, fr_J fJ⟩
      · rw [if_neg hlt, if_neg hlt]
        exact ⟨_, _, _, _, rfl, rfl, hr, fun _ _ => rfl, fun _ _ => rfl⟩
    · rw [tI_f hx, if_pos rfl, if_pos rfl]
      exact ⟨_, _, _, _, rfl, rfl, hr, fun _ _ => rfl, fun _ _ => rfl⟩
  · rw [tI_f h, tI_t h, if_pos rfl, if_neg (by decide)]
    exact ⟨_, _, _, _, rfl, rfl, hr, fun _ _ => rfl, fun _ _ => rfl⟩
theorem M_factory (x : Int32) : Sm 102 [some (.ref 1), some (.int x)] 157 [some (.ref 119), some (.int x)] := fun L n I J hr => by
  obtain ⟨hR, hD, -, -⟩ := id hr
  have hn := hR.1
  rw [B102_0, S2 k_81 hD.1, K2_i, B102_7, B157_0]
  by_cases h0 : J 120 0 = 0
  · rw [if_pos h0, if_pos h0]; exact ⟨_, _, _, _, rfl, rfl, hr, fun _ _ => rfl, fun _ _ => rfl⟩
  rw [if_neg h0, if_neg h0, S45 hR, K2_i, B102_21, S123 hR, K2_i, B157_17]
  by_cases hx : ∃ v, v < n ∧ x = nI v
  · obtain ⟨t, ht, rfl⟩ := id hx
    obtain ⟨I', J', r, a1, a2, hD', fI, fJ⟩ := W_reset (L := L) k_81 (by decide) (by decide) hR hD ht
    rw [tI_t hx, if_neg (by decide), if_neg (by decide), a1, K2_i, B102_32, a2]
    exact ⟨_, _, n, _, rfl, rfl, RR_D hr hD' fI fJ, fr_I (by decide) (by decide) fI, fr_J fJ⟩
  · rw [tI_f hx, if_pos rfl, if_pos rfl]
    exact ⟨_, _, _, _, rfl, rfl, hr, fun _ _ => rfl, fun _ _ => rfl⟩
theorem M_ifMigrated (x y : Int32) : Sm 108 [some (.ref 1), some (.int x), some (.int y)] 167 [some (.ref 119), some (.int x), some (.int y)] := fun L n I J hr => by
  obtain ⟨hR, hD, -, -⟩ := id hr
  have hn := hR.1
  rw [B108_0, S3 k_81 hD, K2_i, B108_7, B167_0, S152 hD, K2_i, B167_4]
  by_cases h : J 120 0 ≠ 0 ∧ J 120 2 ≠ -6
  · rw [tI_t h, tI_f (fun q => q h), if_neg (by decide), if_pos rfl, S123 hR, K2_i, B167_15]
    rcases act_cases hD with ⟨q2, -⟩ | ⟨p, v, hp, hv, q2, q3, hVr⟩
    · exact absurd q2 h.2
    have d6 := hD.2.2.1
    by_cases hx : ∃ v, v < n ∧ x = nI v
    · obtain ⟨t, ht, rfl⟩ := id hx
      have hl := k_lay (L := L) (v := t) (by omega)
      have hrow := (hR.2.2.2.2 t ht).1
      have e32 : E 32 0 [some (.ref (21 + 10 * t)), some (.int y)] [] (GG L) I = some (some (.int (tI (∃ k, k < 10 ∧ y = nI k ∧ J 125 (10 * t + k) ≠ 0))), GG L, I) := by
        rw [S32 hl, tI_iff]
        constructor
        · rintro ⟨k, hk, e, hh⟩
          rw [show 21 + 10 * t + 1 = 22 + 10 * t by omega, (hrow k hk).2.1] at hh
          exact ⟨k, hk, e, hh⟩
        · rintro ⟨k, hk, e, hh⟩
          refine ⟨k, hk, e, ?_⟩
          rw [show 21 + 10 * t + 1 = 22 + 10 * t by omega, (hrow k hk).2.1]
          exact hh
      rw [tI_t hx, if_neg (by decide), S46 hR ht, K2_i, B108_21 hl, e32, K2_i, B108_25, S124 (by omega), K2_i, B167_24]
      by_cases hy : ∃ k, k < 10 ∧ y = nI k ∧ J 125 (10 * t + k) ≠ 0
      · obtain ⟨k, hk, rfl, hT⟩ := id hy
        rw [tI_t hy, if_neg (by decide), if_neg (by decide), B6_0 k_81, K2_i, B108_38, d6, q3]
        by_cases hlt : nI v < nI t
        · have hvt : v < t := (nI_ltI (by omega) (by omega)).mp hlt
          obtain ⟨I1, J1, a1, a2, f1, g1, hV1⟩ := W_mig (L := L) (n := n) (d := 81) (v := v) (t := t) (I := I) (J := J) k_81 (by decide) (by decide) hR (d6.trans q3) q3 hVr (by omega) ht
          have fI1 : FDI 81 I I1 := fun a q => f1 a (by omega)
          have fJ1 : FDJ J J1 := ⟨fun a _ _ q _ => g1 a q, fun j _ => by rw [g1 119 (by decide)]⟩
          rw [if_pos hlt, if_pos hlt, B23_0 k_81, a1, K2_v, B23_5 k_81, S119, K2_i, tI_t ⟨k, hk, rfl⟩, B23_9 k_81, if_neg (by decide), ck_of (inb_nI hk (by decide)), ix_nI (by omega), K2_i, B108_53, a2, K2_v, B167_47, ck_of (inb_nI hk (by decide)), ix_nI (by omega), (hV1 k hk hT).1]
          refine ⟨_, _, n, _, rfl, rfl, RR_D hr ?_ fI1 fJ1, fr_I (by decide) (by decide) fI1, fr_J fJ1⟩
          rw [g1 120 (by decide)]
          exact Rd_c hD (fun a q1 q2 => f1 a (by omega)) (fun _ _ => rfl) (fun _ _ _ _ => rfl)
        · rw [if_neg hlt, if_neg hlt]
          exact ⟨_, _, _, _, rfl, rfl, hr, fun _ _ => rfl, fun _ _ => rfl⟩
      · rw [tI_f hy, if_pos rfl, if_pos rfl]
        exact ⟨_, _, _, _, rfl, rfl, hr, fun _ _ => rfl, fun _ _ => rfl⟩
    · have e32 : E 32 0 [some (.ref 10), some (.int y)] [] (GG L) I = some (some (.int 0), GG L, I) := by
        rw [S32 k_emp, tI_f]
        rintro ⟨k, hk, -, hh⟩
        exact hh (hR.2.2.2.1 k hk).1
      rw [tI_f hx, if_pos rfl, S46n hR (fun v hv e => hx ⟨v, hv, e⟩), K2_i, B108_21 k_emp, e32, K2_i, B108_25, if_pos rfl]
      exact ⟨_, _, _, _, rfl, rfl, hr, fun _ _ => rfl, fun _ _ => rfl⟩
  · rw [tI_f h, tI_t h, if_pos rfl, if_neg (by decide)]
    exact ⟨_, _, _, _, rfl, rfl, hr, fun _ _ => rfl, fun _ _ => rfl⟩
theorem M_start : Sm 97 [some (.ref 1)] 144 [some (.ref 119)] := fun L n I J hr => by
  obtain ⟨hR, hD, -, -⟩ := id hr
  obtain ⟨I', J', r, a1, a2, hD', h2, -, fI, fJ, gJ⟩ := W_start (L := L) hR k_81 (by decide) (by decide) k_82 k_84 (wk_0_10 k_81) (wl_0_10 k_81) hD.1
  rw [B97_0, a1, K2_v, B97_7, B5_0 k_81, K2_i, B97_14, hD'.2.1, h2, a2]
  have fI' : FDI 81 I I' := fun a q => fI a (by omega) (by omega) (by omega)
  have fJ' : FDJ J J' := ⟨fun a q1 q2 _ _ => fJ a q1 q2, fun j hj => gJ j (by omega) (by omega) (by omega)⟩
  exact ⟨_, _, n, _, rfl, rfl, RR_D hr hD' fI' fJ', fr_I (by decide) (by decide) fI', fr_J fJ'⟩
theorem S118 {L : Nat} {x : Int32} {I : It} : E 118 0 [some (.int x)] [] (GG L) I = some (some (.int (tI (0 ≤ x ∧ x ≤ 200))), GG L, I) := by
  rw [B118_0]
  by_cases h1 : x < 0
  · rw [if_pos h1, tI_f (fun q => absurd q.1 (Int32.not_le.mpr h1))]
  · rw [if_neg h1]
    by_cases h2 : 200 < x
    · rw [if_pos h2, tI_f (fun q => absurd q.2 (Int32.not_le.mpr h2))]
    · rw [if_neg h2, tI_t ⟨Int32.not_lt.mp h1, Int32.not_lt.mp h2⟩]
/-- the power set to fail -/
theorem Rd_f {n d : Nat} {T : Nat → Int32} {I J : It} {x : Int32} (hD : Rd n T I d (J 120)) (h0 : J 120 0 ≠ 0) (hx : x = -6 ∨ (0 ≤ x ∧ x ≤ 200)) : Rd n T (uI I d 4 x) d (uI J 120 1 x 120) := by
  obtain ⟨⟨c1, c2, c3, c4, c5, c6⟩, d5, d6, d7, d9, hrest⟩ := hD
  have hx' : x = -6 ∨ ∃ w, w ≤ 200 ∧ x = nI w := by
    rcases hx with h | h
    · exact Or.inl h
    · obtain ⟨j, hj, e⟩ := nI_of2 (M := 200) (n := 200) rfl (Int32.not_lt.mpr h.1) h.2
      exact Or.inr ⟨j, hj, e⟩
  have o : ∀ a, a ≠ d → uI I d 4 x a = I a := fun a h => uI_o _ _ _ _ _ h
  have k : ∀ j, j ≠ 4 → uI I d 4 x d j = I d j := fun j h => uI_k _ _ _ _ _ h
  have m : ∀ j, j ≠ 1 → uI J 120 1 x 120 j = J 120 j := fun j h => uI_k _ _ _ _ _ h
  refine ⟨⟨by rw [k 3 (by decide), m 0 (by decide)]; exact c1, by rw [m 0 (by decide)]; exact c2, by rw [uI_s, uI_s], fun q => absurd (by rw [m 0 (by decide)] at q; exact q) h0, by rw [uI_s]; exact hx', fun p hp => ?_⟩, by rw [k 5 (by decide), m 2 (by decide)]; exact d5, by rw [k 6 (by decide), m 3 (by decide)]; exact d6, by rw [k 7 (by decide), m 4 (by decide)]; exact d7, by rw [k 9 (by decide), m 6 (by decide)]; exact d9, ?_⟩
  · obtain ⟨e1, e2, e3⟩ := c6 p hp
    rw [o _ (by omega), m _ (by omega), m _ (by omega)]
    refine ⟨e1, e2, fun j hj => ?_⟩
    rw [o _ (by omega), m _ (by omega)]
    exact e3 j hj
  · rw [k 8 (by decide), m 2 (by decide), m 3 (by decide), m 4 (by decide), m 5 (by decide)]
    rcases hrest with h | ⟨p, v0, s, e, hp, hv0, hs, he, q2, q3, q4, q5, q8, hVr⟩
    · exact Or.inl h
    · exact Or.inr ⟨p, v0, s, e, hp, hv0, hs, he, q2, q3, q4, q5, q8, Vr_c hVr (o _ (by omega)) (o _ (by omega)) (fun j hj => m j (by omega))⟩
theorem M_fail (x : Int32) : Sm 96 [some (.ref 1), some (.int x), none] 138 [some (.ref 119), some (.int x), none] := fun L n I J hr => by
  obtain ⟨hR, hD, -, -⟩ := id hr
  have key : (x = -6 ∨ (0 ≤ x ∧ x ≤ 200)) → ∃ I' J' n' r, K2 96 23 [some (.ref 1), some (.int x), none] [] (E 2 0 [some (.ref 81)] [] (GG L) I) = some (some (.int r), GG L, I') ∧ E 138 20 [some (.ref 119), some (.int x), none] [] (GG L) J = some (some (.int r), GG L, J') ∧ RR n' I' J' ∧ (∀ a, a = 0 ∨ 119 ≤ a → I' a = I a) ∧ ∀ a, a < 119 → J' a = J a := by
    intro hx
    rw [S2 k_81 hD.1, K2_i, B96_23, B138_20]
    by_cases h0 : J 120 0 = 0
    · rw [if_pos h0, if_pos h0]
      exact ⟨_, _, _, _, rfl, rfl, hr, fun _ _ => rfl, fun _ _ => rfl⟩
    · have fI : FDI 81 I (uI I 81 4 x) := fun a q => uI_o _ _ _ _ _ (by omega)
      have fJ : FDJ J (uI J 120 1 x) := ⟨fun a _ q _ _ => uI_o _ _ _ _ _ q, fun j _ => by rw [uI_o _ _ _ _ _ (by decide)]⟩
      have hR' := RR_D hr (Rd_f hD h0 hx) fI fJ
      rw [if_neg h0, if_neg h0, B4_0 k_81, K2_i, B96_36, hD.1.2.2.1, B16_0 k_81, K2_v, B96_55, K2_v, B96_55]
      by_cases h1 : J 120 1 = -6
      · rw [if_pos h1, if_pos h1]
        exact ⟨_, _, n, _, rfl, rfl, hR', fr_I (by decide) (by decide) fI, fr_J fJ⟩
      · rw [if_neg h1, if_neg h1]
        exact ⟨_, _, n, _, rfl, rfl, hR', fr_I (by decide) (by decide) fI, fr_J fJ⟩
  rw [B96_0, B138_0]
  by_cases hx : x = -6
  · rw [if_pos hx, if_pos hx]; exact key (Or.inl hx)
  · rw [if_neg hx, if_neg hx, S118, K2_i, B96_10, S121, K2_i, B138_14]
    by_cases h : 0 ≤ x ∧ x ≤ 200
    · rw [tI_t h, if_neg (by decide), if_neg (by decide)]; exact key (Or.inr h)
    · rw [tI_f h, if_pos rfl, if_pos rfl]
      exact ⟨_, _, _, _, rfl, rfl, hr, fun _ _ => rfl, fun _ _ => rfl⟩
/-- such a cell -/
def Cl (x y : Int32) : Prop := ∃ p i, p < 2 ∧ i < 48 ∧ x = nI p ∧ y = nI i
theorem S115 {L : Nat} {x : Int32} {I : It} : E 115 0 [some (.int x)] [] (GG L) I = some (some (.int (tI (∃ p, p < 2 ∧ x = nI p))), GG L, I) := by
  rcases below x (n := 2) (by decide) with ⟨k, hk, e⟩ | ⟨h3, h4⟩
  · rw [tI_t ⟨k, hk, e⟩, e, B115_0, if_neg (nI_pos (by omega)), if_neg (show ¬ (2 : Int32) ≤ nI k from nI_ge (a := k) (b := 2) hk (by decide))]
  · rw [tI_f (fun ⟨k, hk, e⟩ => h4 k hk e), B115_0]
    by_cases h5 : x < 0
    · rw [if_pos h5]
    · rw [if_neg h5, if_pos (show (2 : Int32) ≤ x from h3.resolve_left h5)]
theorem S117 {L : Nat} {x : Int32} {I : It} : E 117 0 [some (.int x)] [] (GG L) I = some (some (.int (tI (∃ p, p < 2 ∧ x = nI p))), GG L, I) := by
  rw [B117_0, ← B115_0]; exact S115
theorem in_iff {x : Int32} {n : Nat} {M : Int32} (hM : nI n = M) (hn : n < 2 ^ 31) : (0 ≤ x ∧ x ≤ M) ↔ ∃ p, p < n + 1 ∧ x = nI p := by
  constructor
  · rintro ⟨h0, h1⟩
    obtain ⟨j, hj, e⟩ := nI_of (Int32.not_lt.mpr h0)
    rw [e, ← hM] at h1
    have := (nI_leI hj hn).mp h1
    exact ⟨j, by omega, e⟩
  · rintro ⟨p, hp, rfl⟩
    exact ⟨nI_pos' (by omega), hM ▸ nI_le (by omega) hn⟩
theorem S116 {L : Nat} {x y : Int32} {I : It} : E 116 0 [some (.int x), some (.int y)] [] (GG L) I = some (some (.int (tI (Cl x y))), GG L, I) := by
  rw [B116_0, S115, K2_i, B116_4]
  by_cases h : ∃ p, p < 2 ∧ x = nI p
  · obtain ⟨p, hp, rfl⟩ := id h
    rw [tI_t h, if_neg (by decide)]
    rcases below y (n := 48) (by decide) with ⟨k, hk, e⟩ | ⟨h3, h4⟩
    · rw [tI_t ⟨p, k, hp, hk, rfl, e⟩, e, if_neg (nI_pos (by omega)), if_neg (show ¬ (48 : Int32) ≤ nI k from nI_ge (a := k) (b := 48) hk (by decide))]
    · rw [tI_f (fun ⟨_, k, _, hk, _, e⟩ => h4 k hk e)]
      by_cases h5 : y < 0
      · rw [if_pos h5]
      · rw [if_neg h5, if_pos (show (48 : Int32) ≤ y from h3.resolve_left h5)]
  · rw [tI_f h, if_pos rfl, tI_f (fun ⟨p, _, hp, _, e, _⟩ => h ⟨p, hp, e⟩)]
theorem S158 {L : Nat} {x y : Int32} {I : It} : E 158 0 [some (.int x), some (.int y)] [] (GG L) I = some (some (.int (tI (Cl x y))), GG L, I) := by
  rw [B158_0, S121, K2_i, B158_6, tI_iff (in_iff (x := x) (n := 1) (M := 1) rfl (by decide))]
  by_cases h : ∃ p, p < 2 ∧ x = nI p
  · obtain ⟨p, hp, rfl⟩ := id h
    rw [tI_t h, if_neg (by decide), S121, K2_i, B158_16, tI_iff (in_iff (x := y) (n := 47) (M := 47) rfl (by decide))]
    by_cases h' : ∃ k, k < 48 ∧ y = nI k
    · obtain ⟨k, hk, e⟩ := id h'
      rw [tI_t h', if_neg (by decide), tI_t ⟨p, k, hp, hk, rfl, e⟩]
    · rw [tI_f h', if_pos rfl, tI_f (fun ⟨_, k, _, hk, _, e⟩ => h' ⟨k, hk, e⟩)]
  · rw [tI_f h, if_pos rfl, tI_f (fun ⟨p, _, hp, _, e, _⟩ => h ⟨p, hp, e⟩)]
theorem M_cell (x y : Int32) : Sm 103 [some (.ref 1), some (.int x), some (.int y)] 159 [some (.ref 119), some (.int x), some (.int y)] := Sm_q fun L n I J hr => by
  obtain ⟨hR, hD, -, -⟩ := hr
  rw [B103_0, S116, K2_i, B103_5, B159_0, S158, K2_i, B159_5]
  by_cases h : Cl x y
  · obtain ⟨p, i, hp, hi, rfl, rfl⟩ := id h
    have hpg := k_pg (L := L) k_81 hp
    rw [tI_t h, if_neg (by decide), if_neg (by decide), S9 k_81 hp, K2_i, B103_16 hpg, S71 hpg hi, K2_i, B103_20, S131 hp hi, K2_i, B159_14]
    have := ((hD.1.2.2.2.2.2 p hp).2.2 i hi).1
    rw [show 81 + 1 + 2 * p + 1 = 81 + 2 + 2 * p by omega, this]
    exact ⟨_, rfl, rfl⟩
  · rw [tI_f h, if_pos rfl, if_pos rfl]; exact ⟨_, rfl, rfl⟩
theorem Rd_s {n d p i : Nat} {T : Nat → Int32} {I J : It} {x : Int32} (hp : p < 2) (hi : i < 48) (hD : Rd n T I d (J 120)) (hx : cel x) : Rd n T (uI I (d + 2 + 2 * p) i x) d (uI J 120 (21 + 48 * p + i) x 120) := by
  obtain ⟨⟨c1, c2, c3, c4, c5, c6⟩, d5, d6, d7, d9, hrest⟩ := hD
  have o : ∀ a, a ≠ d + 2 + 2 * p → uI I (d + 2 + 2 * p) i x a = I a := fun a h => uI_o _ _ _ _ _ h
  have m : ∀ j, j ≠ 21 + 48 * p + i → uI J 120 (21 + 48 * p + i) x 120 j = J 120 j := fun j h => uI_k _ _ _ _ _ h
  refine ⟨⟨by rw [o d (by omega), m 0 (by omega)]; exact c1, by rw [m 0 (by omega)]; exact c2, by rw [o d (by omega), m 1 (by omega)]; exact c3, by rw [m 0 (by omega), m 1 (by omega)]; exact c4, by rw [m 1 (by omega)]; exact c5, fun q hq => ?_⟩, by rw [o d (by omega), m 2 (by omega)]; exact d5, by rw [o d (by omega), m 3 (by omega)]; exact d6, by rw [o d (by omega), m 4 (by omega)]; exact d7, by rw [o d (by omega), m 6 (by omega)]; exact d9, ?_⟩
  · obtain ⟨e1, e2, e3⟩ := c6 q hq
    rw [o _ (by omega), m _ (by omega), m _ (by omega)]
    refine ⟨e1, e2, fun j hj => ?_⟩
    by_cases h : q = p ∧ j = i
    · obtain ⟨rfl, rfl⟩ := h
      rw [uI_s, uI_s]; exact ⟨rfl, hx⟩
    · rw [m _ (by omega)]
      by_cases h' : q = p
      · subst h'
        rw [uI_k _ _ _ _ _ (show j ≠ i from fun e => h ⟨rfl, e⟩)]; exact e3 j hj
      · rw [o _ (by omega)]; exact e3 j hj
  · rw [o d (by omega), m 2 (by omega), m 3 (by omega), m 4 (by omega), m 5 (by omega)]
    rcases hrest with h | ⟨p', v0, s, e, hp', hv0, hs, he, q2, q3, q4, q5, q8, hVr⟩
    · exact Or.inl h
    · exact Or.inr ⟨p', v0, s, e, hp', hv0, hs, he, q2, q3, q4, q5, q8, Vr_c hVr (o _ (by omega)) (o _ (by omega)) (fun j hj => m j (by omega))⟩
theorem M_spoil (x y z : Int32) : Sm 104 [some (.ref 1), some (.int x), some (.int y), some (.int z), none] 160 [some (.ref 119), some (.int x), some (.int y), some (.int z), none] := fun L n I J hr => by
  obtain ⟨hR, hD, -, -⟩ := id hr
  rw [B104_0, S116, K2_i, B104_5, B160_0, S158, K2_i, B160_5]
  by_cases h : Cl x y
  · obtain ⟨p, i, hp, hi, rfl, rfl⟩ := id h
    have hpg := k_pg (L := L) k_81 hp
    have n10 : ¬ (1 : Int32) = 0 := by decide
    rw [tI_t h, if_neg n10, if_neg n10]
    have key : cel z → ∃ I' J' n' r, K2 104 38 [some (.ref 1), some (.int (nI p)), some (.int (nI i)), some (.int z), none] [] (E 9 0 [some (.ref 81), some (.int (nI p))] [] (GG L) I) = some (some (.int r), GG L, I') ∧ K2 160 36 [some (.ref 119), some (.int (nI p)), some (.int (nI i)), some (.int z), none] [] (E 131 0 [some (.ref 119), some (.int (nI p)), some (.int (nI i))] [] (GG L) J) = some (some (.int r), GG L, J') ∧ RR n' I' J' ∧ (∀ a, a = 0 ∨ 119 ≤ a → I' a = I a) ∧ ∀ a, a < 119 → J' a = J a := by
      intro hz
      have fI : FDI 81 I (uI I (81 + 2 + 2 * p) i z) := fun a q => uI_o _ _ _ _ _ (by omega)
      have fJ : FDJ J (uI J 120 (21 + 48 * p + i) z) := ⟨fun a _ q _ _ => uI_o _ _ _ _ _ q, fun j _ => by rw [uI_o _ _ _ _ _ (by decide)]⟩
      have e := ((hD.1.2.2.2.2.2 p hp).2.2 i hi).1
      rw [S9 k_81 hp, K2_i, B104_38 hpg, S71 hpg hi, K2_i, B104_42, S9 k_81 hp, K2_i, B104_52 hpg, S72 hpg hi, K2_v, B104_57, show 81 + 1 + 2 * p + 1 = 81 + 2 + 2 * p by omega, e, S131 hp hi, K2_i, B160_36, i_cell, ck_of (inb_nI (by omega) (by decide)), ix_nI (by omega)]
      exact ⟨_, _, n, _, rfl, rfl, RR_D hr (Rd_s hp hi hD hz) fI fJ, fr_I (by decide) (by decide) fI, fr_J fJ⟩
    by_cases hz : z = -6
    · rw [if_pos hz, if_pos hz]; exact key (Or.inl hz)
    · rw [if_neg hz, if_neg hz, S121, K2_i, B160_24]
      by_cases h0 : z < 0
      · rw [if_pos h0, tI_f (fun q => absurd q.1 (Int32.not_le.mpr h0)), if_pos rfl]
        exact ⟨_, _, _, _, rfl, rfl, hr, fun _ _ => rfl, fun _ _ => rfl⟩
      · rw [if_neg h0]
        by_cases h1 : z ≤ 255
        · rw [if_pos h1, tI_t ⟨Int32.not_lt.mp h0, h1⟩, if_neg (by decide)]
          obtain ⟨j, hj, e⟩ := nI_of2 (M := 255) (n := 255) rfl h0 h1
          exact key (Or.inr ⟨j, by omega, e⟩)
        · rw [if_neg h1, tI_f (fun q => h1 q.2), if_pos rfl]
          exact ⟨_, _, _, _, rfl, rfl, hr, fun _ _ => rfl, fun _ _ => rfl⟩
  · rw [tI_f h, if_pos rfl, if_pos rfl]
    exact ⟨_, _, _, _, rfl, rfl, hr, fun _ _ => rfl, fun _ _ => rfl⟩
