theorem Sm_q {m m' : Nat} {as as' : List (Option Value)} (h : ∀ (L n : Nat) (I J : It), RR n I J → ∃ r, E m 0 as [] (GG L) I = some (some (.int r), GG L, I) ∧ E m' 0 as' [] (GG L) J = some (some (.int r), GG L, J)) : Sm m as m' as' := fun L n I J hr => by
  obtain ⟨r, a, b⟩ := h L n I J hr
  exact ⟨I, J, n, r, a, b, hr, fun _ _ => rfl, fun _ _ => rfl⟩
theorem S2 {L d : Nat} {I : It} {D : Nat → Int32} (hd : kd (GG L) d = 0) (hc : Rc I d D) : E 2 0 [some (.ref d)] [] (GG L) I = some (some (.int (D 0)), GG L, I) := by
  rw [B2_0 hd, hc.1, ck_of]
  unfold b01
  rcases hc.2.1 with h | h <;> (rw [h]; decide)
/-- a setting of the present version -/
def Hs (J : It) (x : Int32) : Prop := ∃ v k, v < 6 ∧ k < 10 ∧ J 120 3 = nI v ∧ x = nI k ∧ J 125 (10 * v + k) ≠ 0
theorem m6_nI {v : Nat} (hv : v < 2 ^ 31) : ¬ (-6 : Int32) = nI v := fun e => nI_pos hv (e ▸ by decide)
/-- the present layout, as the class asks it -/
theorem S_has {L n d : Nat} {I J : It} (hd : kd (GG L) d = 0) (hR : Ry n I J) (hD : Rd n (J 125) I d (J 120)) : ∃ o, kd (GG L) o = 1 ∧ E 10 0 [some (.ref d)] [] (GG L) I = some (some (.ref o), GG L, I) ∧ (∀ x, E 32 0 [some (.ref o), some (.int x)] [] (GG L) I = some (some (.int (tI (Hs J x))), GG L, I)) ∧ (∀ k v y, k < 10 → v < 6 → J 120 3 = nI v → E 36 0 [some (.ref o), some (.int (nI k)), some (.int y)] [] (GG L) I = some (some (.int (tI (J 125 (10 * v + k) ≠ 0 ∧ 0 ≤ y ∧ y ≤ J 126 (10 * v + k)))), GG L, I)) ∧ ∀ k v, k < 10 → v < 6 → J 120 3 = nI v → J 125 (10 * v + k) ≠ 0 → E 34 0 [some (.ref o), some (.int (nI k))] [] (GG L) I = some (some (.int (J 127 (10 * v + k))), GG L, I) := by
  have hn := hR.1
  obtain ⟨hc, d5, d6, d7, d9, hrest⟩ := id hD
  rcases hrest with ⟨q2, q3, q4, q8⟩ | ⟨p, v, s, e, hp, hv, hs, he, q2, q3, q4, q5, q8, hVr⟩
  · refine ⟨10, k_emp, S10n hR hd (d6.trans q3), fun x => ?_, fun k v y hk hv h => ?_, fun k v hk hv h => ?_⟩
    · rw [S32 k_emp, tI_iff]
      constructor
      · rintro ⟨k, hk, -, h⟩
        exact absurd (hR.2.2.2.1 k hk).1 h
      · rintro ⟨v, k, hv, -, h, -⟩
        exact absurd (q3.symm.trans h) (m6_nI (by omega))
    · exact absurd (q3.symm.trans h) (m6_nI (by omega))
    · exact absurd (q3.symm.trans h) (m6_nI (by omega))
  · have hl := k_lay (L := L) (v := v) (by omega)
    have hrow := (hR.2.2.2.2 v hv).1
    have same : ∀ {v'}, v' < 6 → J 120 3 = nI v' → v' = v := fun hv' h => (nI_eq (by omega) (by omega)).mp (h.symm.trans q3)
    refine ⟨21 + 10 * v, hl, S10 hR hd hv (d6.trans q3), fun x => ?_, fun k v' y hk hv' h => ?_, fun k v' hk hv' h hT => ?_⟩
    · rw [S32 hl, tI_iff]
      constructor
      · rintro ⟨k, hk, hx, h⟩
        rw [show 21 + 10 * v + 1 = 22 + 10 * v by omega, (hrow k hk).2.1] at h
        exact ⟨v, k, by omega, hk, q3, hx, h⟩
      · rintro ⟨v', k, hv', hk, h, hx, hT⟩
        have := same hv' h
        subst this
        refine ⟨k, hk, hx, ?_⟩
        rw [show 21 + 10 * v' + 1 = 22 + 10 * v' by omega, (hrow k hk).2.1]
        exact hT
    · have := same hv' h
      subst this
      rw [S36 hl hk, show 21 + 10 * v' + 1 = 22 + 10 * v' by omega, show 21 + 10 * v' + 2 = 23 + 10 * v' by omega, (hrow k hk).2.1, (hrow k hk).2.2.1]
    · have := same hv' h
      subst this
      rw [S34 hl hk, show 21 + 10 * v' + 1 = 22 + 10 * v' by omega, show 21 + 10 * v' + 3 = 24 + 10 * v' by omega, (hrow k hk).2.1, (hrow k hk).2.2.2.2.1, if_neg hT]
theorem act_cases {n d : Nat} {T : Nat → Int32} {I : It} {D : Nat → Int32} (hD : Rd n T I d D) : (D 2 = -6 ∧ D 3 = -6) ∨ (∃ p v, p < 2 ∧ v < n ∧ D 2 = nI p ∧ D 3 = nI v ∧ Vr T v I d D) := by
  obtain ⟨hc, d5, d6, d7, d9, hrest⟩ := hD
  rcases hrest with ⟨q2, q3, q4, q8⟩ | ⟨p, v, s, e, hp, hv, hs, he, q2, q3, q4, q5, q8, hVr⟩
  · exact Or.inl ⟨q2, q3⟩
  · exact Or.inr ⟨p, v, hp, hv, q2, q3, hVr⟩
theorem S145 {L n d : Nat} {I J : It} {x : Int32} (hR : Ry n I J) (hD : Rd n (J 125) I d (J 120)) : E 145 0 [some (.ref 119), some (.int x)] [] (GG L) J = some (some (.int (tI (Hs J x))), GG L, J) := by
  have hn := hR.1
  rw [B145_0]
  rcases act_cases hD with ⟨q2, q3⟩ | ⟨p, v, hp, hv, q2, q3, -⟩
  · rw [q2, if_pos (by decide), tI_f]
    rintro ⟨v, k, hv, -, h, -⟩
    exact absurd (q3.symm.trans h) (m6_nI (by omega))
  · rw [q2, if_neg (nI_pos (by omega)), q3, S124 (by omega), K2_i, B145_20]
    have e : (∃ k, k < 10 ∧ x = nI k ∧ J 125 (10 * v + k) ≠ 0) ↔ Hs J x := by
      constructor
      · rintro ⟨k, hk, hx, h⟩
        exact ⟨v, k, by omega, hk, q3, hx, h⟩
      · rintro ⟨v', k, hv', hk, h, hx, hT⟩
        have : v' = v := (nI_eq (by omega) (by omega)).mp (h.symm.trans q3)
        subst this
        exact ⟨k, hk, hx, hT⟩
    rw [tI_iff e]
    by_cases h : Hs J x
    · rw [tI_t h, if_neg (by decide)]
    · rw [tI_f h, if_pos rfl]
theorem S11 {L d k : Nat} {I : It} (hd : kd (GG L) d = 0) (hk : k < 10) : E 11 0 [some (.ref d), some (.int (nI k))] [] (GG L) I = some (some (.int (I (d + 5) k)), GG L, I) := by
  rw [B11_0 hd, S119, K2_i, tI_t ⟨k, hk, rfl⟩, B11_4 hd, if_neg (by decide), ck_of (inb_nI hk (by decide)), ix_nI (by omega)]
theorem S12 {L d k : Nat} {I : It} (hd : kd (GG L) d = 0) (hk : k < 10) : E 12 0 [some (.ref d), some (.int (nI k))] [] (GG L) I = some (some (.int (I (d + 6) k)), GG L, I) := by
  rw [B12_0 hd, S119, K2_i, tI_t ⟨k, hk, rfl⟩, B12_4 hd, if_neg (by decide), ck_of (inb_nI hk (by decide)), ix_nI (by omega)]
theorem Hs_val {n d : Nat} {I J : It} {x : Int32} (hn : n ≤ 6) (hD : Rd n (J 125) I d (J 120)) (h : Hs J x) : ∃ v k, v < n ∧ k < 10 ∧ x = nI k ∧ J 120 3 = nI v ∧ J 120 2 ≠ -6 ∧ J 125 (10 * v + k) ≠ 0 ∧ I (d + 5) k = J 120 (11 + k) ∧ byt (J 120 (11 + k)) ∧ I (d + 6) k = J 120 (117 + k) := by
  obtain ⟨v', k, hv', hk, h3, hx, hT⟩ := h
  rcases act_cases hD with ⟨q2, q3⟩ | ⟨p, v, hp, hv, q2, q3, hVr⟩
  · exact absurd (q3.symm.trans h3) (m6_nI (by omega))
  · have : v' = v := (nI_eq (by omega) (by omega)).mp (h3.symm.trans q3)
    subst this
    exact ⟨v', k, hv, hk, hx, h3, fun e => m6_nI (show p < 2 ^ 31 by omega) (e.symm.trans q2), hT, hVr k hk hT⟩
theorem M_get (x : Int32) : Sm 98 [some (.ref 1), some (.int x)] 146 [some (.ref 119), some (.int x)] := Sm_q fun L n I J hr => by
  obtain ⟨hR, hD, -, -⟩ := hr
  have hn := hR.1
  obtain ⟨o, ho, e10, e32, -, -⟩ := S_has (L := L) k_81 hR hD
  rw [B98_0, S2 k_81 hD.1, K2_i, B98_7, B146_0]
  by_cases h0 : J 120 0 = 0
  · rw [if_pos h0, if_pos h0]; exact ⟨_, rfl, rfl⟩
  · rw [if_neg h0, if_neg h0, e10, K2_i, B98_20 ho, e32, K2_i, B98_24, S145 hR hD, K2_i, B146_17]
    by_cases h : Hs J x
    · obtain ⟨v, k, hv, hk, rfl, -, -, -, h1, -, -⟩ := Hs_val hn hD h
      rw [tI_t h, if_neg (by decide), if_neg (by decide), S11 k_81 hk, K2_i, B98_35, show 11 + nI k = nI (11 + k) from nI_add 11 k, ck_of (inb_nI (by omega) (by decide)), ix_nI (by omega)]
      exact ⟨_, rfl, by rw [h1]⟩
    · rw [tI_f h, if_pos rfl, if_pos rfl]; exact ⟨_, rfl, rfl⟩
theorem M_record (x : Int32) : Sm 107 [some (.ref 1), some (.int x)] 166 [some (.ref 119), some (.int x)] := Sm_q fun L n I J hr => by
  obtain ⟨hR, hD, -, -⟩ := hr
  have hn := hR.1
  obtain ⟨o, ho, e10, e32, -, -⟩ := S_has (L := L) k_81 hR hD
  rw [B107_0, S2 k_81 hD.1, K2_i, B107_7, B166_0]
  by_cases h0 : J 120 0 = 0
  · rw [if_pos h0, if_pos h0]; exact ⟨_, rfl, rfl⟩
  · rw [if_neg h0, if_neg h0, e10, K2_i, B107_20 ho, e32, K2_i, B107_24, S145 hR hD, K2_i, B166_17]
    by_cases h : Hs J x
    · obtain ⟨v, k, hv, hk, rfl, -, -, -, -, -, h1⟩ := Hs_val hn hD h
      rw [tI_t h, if_neg (by decide), if_neg (by decide), S12 k_81 hk, K2_i, B107_35, show 117 + nI k = nI (117 + k) from nI_add 117 k, ck_of (inb_nI (by omega) (by decide)), ix_nI (by omega)]
      exact ⟨_, rfl, by rw [h1]⟩
    · rw [tI_f h, if_pos rfl, if_pos rfl]; exact ⟨_, rfl, rfl⟩
/-- what a device's own work keeps of the frames of a call -/
theorem fr_I {d : Nat} {I I' : It} (hd : 81 ≤ d) (hdJ : d + 8 < 119) (f : FDI d I I') : ∀ a, a = 0 ∨ 119 ≤ a → I' a = I a := fun a q => f a (by omega)
theorem fr_J {J J' : It} (f : FDJ J J') : ∀ a, a < 119 → J' a = J a := fun a q => f.1 a (by omega) (by omega) (by omega) (by omega)
theorem S150 {L v k : Nat} {y : Int32} {J : It} (hv : v < 6) (hk : k < 10) (h3 : J 120 3 = nI v) : E 150 0 [some (.ref 119), some (.int (nI k)), some (.int y)] [] (GG L) J = some (some (.int (tI (0 ≤ y ∧ y ≤ J 126 (10 * v + k)))), GG L, J) := by
  rw [B150_0, h3, i_10, ck_of (inb_nI (by omega) (by decide)), ix_nI (by omega), S121, K2_i, B150_21, ck_of]
  by_cases h : 0 ≤ y ∧ y ≤ J 126 (10 * v + k)
  · rw [tI_t h]; rfl
  · rw [tI_f h]; rfl
theorem byt_le {x y : Int32} (h0 : 0 ≤ x) (h : x ≤ y) (hy : byt y) : byt x := by
  obtain ⟨c, hc, rfl⟩ := hy
  obtain ⟨j, hj, rfl⟩ := nI_of (Int32.not_lt.mpr h0)
  exact ⟨j, by have := (nI_leI hj (by omega)).mp h; omega, rfl⟩
theorem M_set (x y : Int32) : Sm 99 [some (.ref 1), some (.int x), some (.int y)] 151 [some (.ref 119), some (.int x), some (.int y)] := fun L n I J hr => by
  obtain ⟨hR, hD, -, -⟩ := id hr
  have hn := hR.1
  obtain ⟨o, ho, e10, e32, e36, -⟩ := S_has (L := L) k_81 hR hD
  rw [B99_0, S2 k_81 hD.1, K2_i, B99_7, B151_0]
  by_cases h0 : J 120 0 = 0
  · rw [if_pos h0, if_pos h0]; exact ⟨_, _, _, _, rfl, rfl, hr, fun _ _ => rfl, fun _ _ => rfl⟩
  rw [if_neg h0, if_neg h0, e10, K2_i, B99_20 ho, e32, K2_i, B99_24, S145 hR hD, K2_i, B151_17]
  by_cases h : Hs J x
  · obtain ⟨v, k, hv, hk, rfl, h3, h2, hT, -, -, -⟩ := Hs_val hn hD h
    have hrow := (hR.2.2.2.2 v hv).1 k hk
    rw [tI_t h, if_neg (by decide), if_neg (by decide), e10, K2_i, B99_36 ho, e36 k v y hk (by omega) h3, K2_i, B99_41, S150 (by omega) hk h3, K2_i, B151_28]
    by_cases hy : 0 ≤ y ∧ y ≤ J 126 (10 * v + k)
    · obtain ⟨c, hc, rfl⟩ := byt_le hy.1 hy.2 hrow.2.2.2.1
      obtain ⟨I', J', r, a1, a2, hD', fI, fJ, w⟩ := W_change (L := L) k_81 (by decide) (by decide) hR hD h2 hv h3 hk hT hc
      rw [tI_t hy, tI_t ⟨hT, hy⟩, if_neg (by decide), if_neg (by decide), a1, K2_i, B99_56, a2, K2_v, B151_40, w]
      exact ⟨_, _, n, _, rfl, rfl, RR_D hr hD' fI fJ, fr_I (by decide) (by decide) fI, fr_J fJ⟩
    · rw [tI_f hy, tI_f (fun q => hy q.2), if_pos rfl, if_pos rfl]
      exact ⟨_, _, _, _, rfl, rfl, hr, fun _ _ => rfl, fun _ _ => rfl⟩
  · rw [tI_f h, if_pos rfl, if_pos rfl]
    exact ⟨_, _, _, _, rfl, rfl, hr, fun _ _ => rfl, fun _ _ => rfl⟩
theorem S3 {L n d : Nat} {T : Nat → Int32} {I : It} {D : Nat → Int32} (hd : kd (GG L) d = 0) (hD : Rd n T I d D) : E 3 0 [some (.ref d)] [] (GG L) I = some (some (.int (tI (D 0 ≠ 0 ∧ D 2 ≠ -6))), GG L, I) := by
  rw [B3_0 hd, hD.1.1, hD.2.1]
  by_cases h0 : D 0 = 0
  · rw [if_pos h0, tI_f (fun q => q.1 h0)]
  · rw [if_neg h0]
    by_cases h2 : D 2 = -6
    · rw [if_pos h2, tI_f (fun q => q.2 h2)]
    · rw [if_neg h2, tI_t ⟨h0, h2⟩]
theorem S152 {L n d : Nat} {T : Nat → Int32} {I J : It} (hD : Rd n T I d (J 120)) : E 152 0 [some (.ref 119)] [] (GG L) J = some (some (.int (tI (¬ (J 120 0 ≠ 0 ∧ J 120 2 ≠ -6)))), GG L, J) := by
  rw [B152_0]
  by_cases h0 : J 120 0 = 0
  · rw [if_pos h0, tI_t (fun q => q.1 h0)]
  · rw [if_neg h0]
    rcases act_cases hD with ⟨q2, q3⟩ | ⟨p, v, hp, hv, q2, q3, hVr⟩
    · rw [q2, if_neg (by decide), tI_t (fun q => q.2 rfl)]
    · rw [q2, if_pos (nI_pos' (by omega)), tI_f (fun q => q ⟨h0, fun e => m6_nI (show p < 2 ^ 31 by omega) e.symm⟩)]
theorem M_compact : Sm 100 [some (.ref 1)] 153 [some (.ref 119)] := fun L n I J hr => by
  obtain ⟨hR, hD, -, -⟩ := id hr
  have hn := hR.1
  rw [B100_0, S3 k_81 hD, K2_i, B100_7, B153_0, S152 hD, K2_i, B153_4]
  by_cases h : J 120 0 ≠ 0 ∧ J 120 2 ≠ -6
  · rw [tI_t h, tI_f (fun q => q h), if_neg (by decide), if_pos rfl]
    rcases act_cases hD with ⟨q2, -⟩ | ⟨p, v, hp, hv, q2, q3, hVr⟩
    · exact absurd q2 h.2
    have k50 := wk_0_12 (k_81 (L := L))
    have l50 := wl_0_12 (k_81 (L := L))
    have d6 := hD.2.2.1
    obtain ⟨J0, hJ0⟩ : ∃ J0, uI J 119 16 0 = J0 := ⟨_, rfl⟩
    have oJ0 : ∀ a, a ≠ 119 → J0 a = J a := fun a h => by rw [← hJ0, uI_o _ _ _ _ _ h]
    have fJ0 : FDJ J J0 := ⟨fun a q _ _ _ => oJ0 a q, fun j hj => by rw [← hJ0, uI_k _ _ _ _ _ (by omega)]⟩
    have w0 : J0 119 16 = 0 := by rw [← hJ0, uI_s]
    obtain ⟨J1, a1, g1, h1⟩ := S147_0 (L := L) (J := J0)
    obtain ⟨I1, hI1⟩ : ∃ I1, cpI I (81 + 5) (81 + 7) 0 0 10 = I1 := ⟨_, rfl⟩
    have f1 : ∀ a, a ≠ 88 → I1 a = I a := fun a q => by rw [← hI1, cp_o _ _ _ _ _ q]
    have fI1 : FDI 81 I I1 := fun a q => f1 a (by omega)
    have fJ1 : FDJ J0 J1 := ⟨fun a _ _ q _ => g1 a q, fun j _ => by rw [g1 119 (by decide)]⟩
    have hR1 : Ry n I1 J1 := Ry_D hR (by decide) fI1 (FDJ_tr fJ0 fJ1)
    have j120 : J1 120 = J 120 := by rw [g1 120 (by decide), oJ0 120 (by decide)]
    have j125 : J1 125 = J 125 := by rw [g1 125 (by decide), oJ0 125 (by decide)]
    have hD1 : Rd n (J1 125) I1 81 (J1 120) := by
      rw [j125, j120]
      exact Rd_c hD (fun a q1 q2 => f1 a (by omega)) (fun _ _ => rfl) (fun _ _ _ _ => rfl)
    have e24 : E 24 0 [some (.ref 81), some (.int (nI v))] [] (GG L) I = some (none, GG L, I1) := by
      rw [B24_0 k_81, hI1, f1 81 (by decide), d6, q3, B48_0 k50 l50, B48_5 k50 l50, if_pos (by rw [nI_1]; exact nI_lt (by omega) (by omega)), K2_v, B24_31]
    obtain ⟨I2, J2, r, a2, a3, hD2, f2, g2, w2⟩ := W_fill (L := L) (v := v) k_81 (by decide) (by decide) hR1 hv hD1 (by rw [j120]; exact h.2) (fun j hj hTj => by
      rw [j125] at hTj
      obtain ⟨u1, u2, -⟩ := hVr j hj hTj
      have : I1 (81 + 7) j = I (81 + 5) j := by rw [← hI1, cp_s _ _ _ _ _ hj]
      rw [this, h1 j hj, oJ0 120 (by decide)]
      exact ⟨u1, u2⟩)
    have wr : J2 119 16 = r := by rw [w2, g1 119 (by decide), w0, Int32.zero_add]
    rw [B6_0 k_81, K2_i, B100_24 k_81, B22_0 k_81, d6, q3, e24, K2_v, B22_5 k_81, a2, K2_i, B22_10, K2_i, B100_27, hJ0, a1, K2_v, B153_19, j120, q3, a3, K2_v, B153_29, wr]
    have fI := FDI_tr fI1 f2
    have fJ := FDJ_tr (FDJ_tr fJ0 fJ1) g2
    exact ⟨_, _, n, _, rfl, rfl, RR_D hr (by rw [← j125]; exact hD2) fI fJ, fr_I (by decide) (by decide) fI, fr_J fJ⟩
  · rw [tI_f h, tI_t h, if_pos rfl, if_neg (by decide)]
    exact ⟨_, _, _, _, rfl, rfl, hr, fun _ _ => rfl, fun _ _ => rfl⟩
