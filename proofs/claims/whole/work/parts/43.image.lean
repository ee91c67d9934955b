theorem S69 {L o0 o1 : Nat} {I : It} (h0 : kd (GG L) o0 = 4) (h1 : kd (GG L) o1 = 4) (hne : o1 ≠ o0) (hne1 : o1 ≠ o0 + 1) : E 69 0 [some (.ref o0), some (.ref o1)] [] (GG L) I = some (none, GG L, uI (uI (cpI I (o1 + 1) (o0 + 1) 0 0 48) o0 1 (I o1 1)) o0 2 (I o1 2)) := by
  rw [B69_0 h0 h1, uI_a _ _ _ _ _ _ hne, cp_o _ _ _ _ _ hne1]
/-- one device as another one -/
def Cp (d d' : Nat) (I I' : It) : Prop := (∀ a, a < d ∨ d + 6 < a → I' a = I a) ∧ (∀ j, 3 ≤ j → j < 10 → I' d j = I d' j) ∧ (∀ p, p < 2 → I' (d + 1 + 2 * p) 1 = I (d' + 1 + 2 * p) 1 ∧ I' (d + 1 + 2 * p) 2 = I (d' + 1 + 2 * p) 2 ∧ ∀ k, k < 48 → I' (d + 2 + 2 * p) k = I (d' + 2 + 2 * p) k) ∧ ∀ k, k < 10 → I' (d + 5) k = I (d' + 5) k ∧ I' (d + 6) k = I (d' + 6) k
theorem S1 {L d d' : Nat} {I : It} (hd : kd (GG L) d = 0) (hd' : kd (GG L) d' = 0) (hdis : d + 8 < d' ∨ d' + 8 < d) (hb : b01 (I d' 3) = true) : ∃ I', E 1 0 [some (.ref d), some (.ref d')] [] (GG L) I = some (none, GG L, I') ∧ Cp d d' I I' := by
  have p0 := k_pg (L := L) (p := 0) hd (by decide)
  have p1 := k_pg (L := L) (p := 1) hd (by decide)
  have q0 := k_pg (L := L) (p := 0) hd' (by decide)
  have q1 := k_pg (L := L) (p := 1) hd' (by decide)
  obtain ⟨I1, hI1⟩ : ∃ I1, uI (uI (cpI I (d' + 1 + 1) (d + 1 + 1) 0 0 48) (d + 1) 1 (I (d' + 1) 1)) (d + 1) 2 (I (d' + 1) 2) = I1 := ⟨_, rfl⟩
  have e1 : E 69 0 [some (.ref (d + 1)), some (.ref (d' + 1))] [] (GG L) I = some (none, GG L, I1) := by
    rw [S69 p0 q0 (by omega) (by omega), hI1]
  obtain ⟨I2, hI2⟩ : ∃ I2, uI (uI (cpI I1 (d' + 3 + 1) (d + 3 + 1) 0 0 48) (d + 3) 1 (I1 (d' + 3) 1)) (d + 3) 2 (I1 (d' + 3) 2) = I2 := ⟨_, rfl⟩
  have e2 : E 69 0 [some (.ref (d + 3)), some (.ref (d' + 3))] [] (GG L) I1 = some (none, GG L, I2) := by
    rw [S69 p1 q1 (by omega) (by omega), hI2]
  have o1 : ∀ a, a ≠ d + 1 → a ≠ d + 2 → I1 a = I a := fun a h1 h2 => by rw [← hI1, uI_o _ _ _ _ _ h1, uI_o _ _ _ _ _ h1, cp_o _ _ _ _ _ (by omega)]
  have o2 : ∀ a, a ≠ d + 3 → a ≠ d + 4 → I2 a = I1 a := fun a h1 h2 => by rw [← hI2, uI_o _ _ _ _ _ h1, uI_o _ _ _ _ _ h1, cp_o _ _ _ _ _ (by omega)]
  have i2 : ∀ a, d' ≤ a → a ≤ d' + 8 → I2 a = I a := fun a h1 h2 => by rw [o2 a (by omega) (by omega), o1 a (by omega) (by omega)]
  have w : ∀ (X : It) (k : Nat) (x : Int32) (j : Nat), uI X d k x d' j = X d' j := fun X k x j => uI_a X d k x d' j (by omega)
  have e3 := B1_22 (L := L) (o0 := d) (o1 := d') (I := I2) hd hd'
  simp only [w] at e3
  rw [i2 d' (by omega) (by omega), ck_of hb] at e3
  obtain ⟨I3, hI3⟩ : ∃ I3, uI (uI (uI (uI (uI (uI (uI I2 d 3 (I d' 3)) d 4 (I d' 4)) d 5 (I d' 5)) d 6 (I d' 6)) d 7 (I d' 7)) d 8 (I d' 8)) d 9 (I d' 9) = I3 := ⟨_, rfl⟩
  rw [hI3] at e3
  have o3 : ∀ a, a ≠ d → I3 a = I2 a := fun a h => by rw [← hI3, uI_o _ _ _ _ _ h, uI_o _ _ _ _ _ h, uI_o _ _ _ _ _ h, uI_o _ _ _ _ _ h, uI_o _ _ _ _ _ h, uI_o _ _ _ _ _ h, uI_o _ _ _ _ _ h]
  have s3 : ∀ j, 3 ≤ j → j < 10 → I3 d j = I d' j := fun j h1 h2 => by
    rw [← hI3]
    have : j = 3 ∨ j = 4 ∨ j = 5 ∨ j = 6 ∨ j = 7 ∨ j = 8 ∨ j = 9 := by omega
    rcases this with rfl | rfl | rfl | rfl | rfl | rfl | rfl <;> simp [uI]
  refine ⟨cpI (cpI I3 (d' + 5) (d + 5) 0 0 10) (d' + 6) (d + 6) 0 0 10, ?_, ?_, fun j h1 h2 => ?_, fun p hp => ⟨?_, ?_, fun k hk => ?_⟩, fun k hk => ⟨?_, ?_⟩⟩
  · rw [B1_0 hd hd', e1, K2_v, B1_11 hd hd', e2, K2_v]
    exact e3
  · intro a ha
    rw [cp_o _ _ _ _ _ (by omega), cp_o _ _ _ _ _ (by omega), o3 a (by omega), o2 a (by omega) (by omega), o1 a (by omega) (by omega)]
  · rw [cp_o _ _ _ _ _ (by omega), cp_o _ _ _ _ _ (by omega)]; exact s3 j h1 h2
  · rw [cp_o _ _ _ _ _ (by omega), cp_o _ _ _ _ _ (by omega), o3 _ (by omega)]
    have : p = 0 ∨ p = 1 := by omega
    rcases this with rfl | rfl
    · rw [o2 _ (by omega) (by omega), ← hI1]; simp [uI]
    · rw [← hI2, show d + 1 + 2 * 1 = d + 3 by omega, show d' + 1 + 2 * 1 = d' + 3 by omega, uI_k _ _ _ _ _ (by decide), uI_s, o1 _ (by omega) (by omega)]
  · rw [cp_o _ _ _ _ _ (by omega), cp_o _ _ _ _ _ (by omega), o3 _ (by omega)]
    have : p = 0 ∨ p = 1 := by omega
    rcases this with rfl | rfl
    · rw [o2 _ (by omega) (by omega), ← hI1]; simp [uI]
    · rw [← hI2, show d + 1 + 2 * 1 = d + 3 by omega, show d' + 1 + 2 * 1 = d' + 3 by omega, uI_s, o1 _ (by omega) (by omega)]
  · rw [cp_o _ _ _ _ _ (by omega), cp_o _ _ _ _ _ (by omega), o3 _ (by omega)]
    have : p = 0 ∨ p = 1 := by omega
    rcases this with rfl | rfl
    · rw [o2 _ (by omega) (by omega), ← hI1, uI_a _ _ _ _ _ _ (by omega), uI_a _ _ _ _ _ _ (by omega)]
      exact cp_s _ _ _ _ _ hk
    · rw [← hI2, uI_a _ _ _ _ _ _ (by omega), uI_a _ _ _ _ _ _ (by omega), show d + 2 + 2 * 1 = d + 3 + 1 by omega, show d' + 2 + 2 * 1 = d' + 3 + 1 by omega, cp_s _ _ _ _ _ hk, o1 _ (by omega) (by omega)]
  · rw [cp_o _ _ _ _ _ (by omega), cp_s _ _ _ _ _ hk, o3 _ (by omega), i2 _ (by omega) (by omega)]
  · rw [cp_s _ _ _ _ _ hk, cp_o _ _ _ _ _ (by omega), o3 _ (by omega), i2 _ (by omega) (by omega)]
theorem Rd_cp {n d d' : Nat} {T : Nat → Int32} {I I' : It} {D D' : Nat → Int32} (hD : Rd n T I d' D) (h : Cp d d' I I') (hDD : ∀ j, j < 127 → D' j = D j) : Rd n T I' d D' := by
  obtain ⟨-, k1, k2, k3⟩ := h
  obtain ⟨⟨c1, c2, c3, c4, c5, c6⟩, d5, d6, d7, d9, hrest⟩ := hD
  refine ⟨⟨by rw [k1 3 (by decide) (by decide), hDD 0 (by decide)]; exact c1, by rw [hDD 0 (by decide)]; exact c2, by rw [k1 4 (by decide) (by decide), hDD 1 (by decide)]; exact c3, by rw [hDD 0 (by decide), hDD 1 (by decide)]; exact c4, by rw [hDD 1 (by decide)]; exact c5, fun p hp => ?_⟩, by rw [k1 5 (by decide) (by decide), hDD 2 (by decide)]; exact d5, by rw [k1 6 (by decide) (by decide), hDD 3 (by decide)]; exact d6, by rw [k1 7 (by decide) (by decide), hDD 4 (by decide)]; exact d7, by rw [k1 9 (by decide) (by decide), hDD 6 (by decide)]; exact d9, ?_⟩
  · obtain ⟨e1, e2, e3⟩ := c6 p hp
    obtain ⟨f1, f2, f3⟩ := k2 p hp
    rw [f1, f2, hDD _ (by omega), hDD _ (by omega)]
    refine ⟨e1, e2, fun k hk => ?_⟩
    rw [f3 k hk, hDD _ (by omega)]
    exact e3 k hk
  · rw [k1 8 (by decide) (by decide), hDD 2 (by decide), hDD 3 (by decide), hDD 4 (by decide), hDD 5 (by decide)]
    rcases hrest with h | ⟨p, v, s, e, hp, hv, hs, he, q2, q3, q4, q5, q8, hVr⟩
    · exact Or.inl h
    · refine Or.inr ⟨p, v, s, e, hp, hv, hs, he, q2, q3, q4, q5, q8, fun k hk hT => ?_⟩
      rw [(k3 k hk).1, (k3 k hk).2, hDD _ (by omega), hDD _ (by omega)]
      exact hVr k hk hT
theorem b01_D {n d : Nat} {T : Nat → Int32} {I : It} {D : Nat → Int32} (hD : Rd n T I d D) : b01 (I d 3) = true := by
  rw [hD.1.1]
  unfold b01
  rcases hD.1.2.1 with h | h <;> (rw [h]; decide)
theorem i_127 (p j : Nat) : 127 * nI p + nI j = nI (127 * p + j) := by rw [show (127 : Int32) = nI 127 from rfl, nI_mul, nI_add]
/-- the reference keeps -/
theorem S179 {L p : Nat} (hp : p < 2) : ∀ (m k : Nat) (J : It), m + k = 127 → ∃ J', E 179 14 [some (.ref 119), some (.int (nI p)), some (.int (nI k))] [] (GG L) J = some (some (.int (J 120 2)), GG L, J') ∧ (∀ a, a ≠ 122 → a ≠ 123 → J' a = J a) ∧ J' 123 = uI J 123 p 1 123 ∧ (∀ j, j < 127 → J' 122 (127 * p + j) = if k ≤ j then J 120 j else J 122 (127 * p + j)) ∧ ∀ i, i < 127 * p ∨ 127 * p + 127 ≤ i → J' 122 i = J 122 i := by
  intro m
  induction m with
  | zero =>
    intro k J hm
    have hk : k = 127 := by omega
    subst hk
    refine ⟨uI J 123 p 1, ?_, fun a _ h => uI_o _ _ _ _ _ h, rfl, fun j hj => by rw [if_neg (by omega), uI_a _ _ _ _ _ _ (by decide)], fun i _ => uI_a _ _ _ _ _ _ (by decide)⟩
    rw [B179_14, if_pos (by decide), ck_of (inb_nI hp (by decide)), ix_nI (by omega), uI_a _ _ _ _ _ _ (by decide)]
  | succ m ih =>
    intro k J hm
    obtain ⟨J', e, h1, h2, h3, h4⟩ := ih (k + 1) (uI J 122 (127 * p + k) (J 120 k)) (by omega)
    refine ⟨J', ?_, fun a q1 q2 => (h1 a q1 q2).trans (uI_o _ _ _ _ _ q1), ?_, fun j hj => ?_, fun i hi => ?_⟩
    · rw [B179_14, if_neg (show ¬ (127 : Int32) ≤ nI k from nI_ge (a := k) (b := 127) (by omega) (by decide)), i_127, ck_of (inb_nI (by omega) (by decide)), ck_of (inb_nI (by omega) (by decide)), ix_nI (by omega), ix_nI (by omega), nI_1, e, uI_a _ _ _ _ _ _ (by decide)]
    · rw [h2]
      funext j
      unfold uI
      simp
    · rw [h3 j hj, uI_a _ _ _ _ _ _ (by decide)]
      by_cases q : k + 1 ≤ j
      · rw [if_pos q, if_pos (show k ≤ j by omega)]
      · rw [if_neg q]
        by_cases q2 : j = k
        · rw [q2, uI_s, if_pos (Nat.le_refl _)]
        · rw [uI_k _ _ _ _ _ (by omega), if_neg (by omega)]
    · rw [h4 i hi, uI_k _ _ _ _ _ (by omega)]
/-- the reference brings back -/
theorem S180 {L p : Nat} (hp : p < 2) : ∀ (m k : Nat) (J : It), m + k = 127 → ∃ J', E 180 26 [some (.ref 119), some (.int (nI p)), some (.int (nI k))] [] (GG L) J = some (some (.int (J' 120 2)), GG L, J') ∧ (∀ a, a ≠ 120 → J' a = J a) ∧ ∀ j, j < 127 → J' 120 j = if k ≤ j then J 122 (127 * p + j) else J 120 j := by
  intro m
  induction m with
  | zero =>
    intro k J hm
    have hk : k = 127 := by omega
    subst hk
    refine ⟨J, ?_, fun _ _ => rfl, fun j hj => by rw [if_neg (by omega)]⟩
    rw [B180_26, if_pos (by decide)]
  | succ m ih =>
    intro k J hm
    obtain ⟨J', e, h1, h2⟩ := ih (k + 1) (uI J 120 k (J 122 (127 * p + k))) (by omega)
    refine ⟨J', ?_, fun a q => (h1 a q).trans (uI_o _ _ _ _ _ q), fun j hj => ?_⟩
    · rw [B180_26, if_neg (show ¬ (127 : Int32) ≤ nI k from nI_ge (a := k) (b := 127) (by omega) (by decide)), i_127, ck_of (inb_nI (by omega) (by decide)), ck_of (inb_nI (by omega) (by decide)), ix_nI (by omega), ix_nI (by omega), nI_1, e]
    · rw [h2 j hj, uI_a _ _ _ _ _ _ (by decide)]
      by_cases q : k + 1 ≤ j
      · rw [if_pos q, if_pos (show k ≤ j by omega)]
      · rw [if_neg q]
        by_cases q2 : j = k
        · rw [q2, uI_s, if_pos (Nat.le_refl _)]
        · rw [uI_k _ _ _ _ _ (by omega), if_neg (by omega)]
theorem k_img {L p : Nat} (hp : p < 2) : kd (GG L) (100 + 9 * p) = 0 := by
  have : p = 0 ∨ p = 1 := by omega
  rcases this with rfl | rfl
  · exact k_100
  · exact k_109
theorem M_keep (x : Int32) : Sm 113 [some (.ref 1), some (.int x)] 179 [some (.ref 119), some (.int x), none] := fun L n I J hr => by
  obtain ⟨hR, hD, hK, hP⟩ := id hr
  rw [B113_0, S117, K2_i, B113_4, B179_0, S121, K2_i, B179_6, tI_iff (in_iff (x := x) (n := 1) (M := 1) rfl (by decide))]
  by_cases h : ∃ p, p < 2 ∧ x = nI p
  · obtain ⟨p, hp, rfl⟩ := id h
    obtain ⟨I1, a1, hcp⟩ := S1 (L := L) (k_img hp) k_81 (by omega) (b01_D hD)
    obtain ⟨J1, a2, g1, g2, g3, g4⟩ := S179 (L := L) hp 127 0 J rfl
    have a2' : E 179 14 [some (.ref 119), some (.int (nI p)), some (.int 0)] [] (GG L) J = some (some (.int (J 120 2)), GG L, J1) := a2
    have oI : ∀ a, a < 100 + 9 * p ∨ 100 + 9 * p + 6 < a → I1 a = I a := hcp.1
    rw [tI_t h, if_neg (by decide), if_neg (by decide), ck_of (inb_nI hp (by decide)), ix_nI (by omega), a1, K2_v, B113_23, ck_of (inb_nI hp (by decide)), ix_nI (by omega), B5_0 k_81, K2_i, B113_37, uI_a _ _ _ _ _ _ (by decide), oI 81 (by omega), hD.2.1, a2']
    have oI2 : ∀ a, a ≠ 118 → uI I1 118 p 1 a = I1 a := fun a h => uI_o _ _ _ _ _ h
    have j125 : J1 125 = J 125 := g1 125 (by decide) (by decide)
    have j120 : J1 120 = J 120 := g1 120 (by decide) (by decide)
    refine ⟨uI I1 118 p 1, J1, n, _, rfl, rfl, ⟨?_, ?_, fun i hi => ?_, ?_⟩, fun a q => by rw [oI2 a (by omega), oI a (by omega)], fun a q => g1 a (by omega) (by omega)⟩
    · exact Ry_2 hR (fun a q1 q2 => by rw [oI2 a (by omega), oI a (by omega)]) (by rw [g1 119 (by decide) (by decide)]) (fun a q1 q2 => g1 a (by omega) (by omega))
    · rw [j125, j120]
      exact Rd_c hD (fun a q1 q2 => by rw [oI2 a (by omega), oI a (by omega)]) (fun _ _ => rfl) (fun _ _ _ _ => rfl)
    · obtain ⟨x1, x2, x3⟩ := hK i hi
      rw [g2, j125]
      by_cases q : i = p
      · subst q
        rw [uI_s, uI_s]
        refine ⟨rfl, Or.inr rfl, fun _ => ?_⟩
        exact Rd_c (Rd_cp hD hcp (D' := fun j => J1 122 (127 * i + j)) (fun j hj => by
          show J1 122 (127 * i + j) = J 120 j
          rw [g3 j hj, if_pos (Nat.zero_le _)])) (fun a q1 q2 => oI2 a (by omega)) (fun _ _ => rfl) (fun _ _ _ _ => rfl)
      · rw [uI_k _ _ _ _ _ q, uI_k _ _ _ _ _ q, oI 118 (by omega)]
        refine ⟨x1, x2, fun y => ?_⟩
        exact Rd_c (x3 y) (fun a q1 q2 => by rw [oI2 a (by omega), oI a (by omega)]) (fun j hj => g4 _ (by omega)) (fun _ _ _ _ => rfl)
    · obtain ⟨l, y1, y2, y3, y4⟩ := hP
      refine ⟨l, y1, ?_, by rw [g1 119 (by decide) (by decide)]; exact y3, fun k hk => ?_⟩
      · rw [oI2 2 (by decide), oI 2 (by omega)]; exact y2
      · rw [oI2 3 (by decide), oI 3 (by omega), g1 124 (by decide) (by decide)]; exact y4 k hk
  · rw [tI_f h, if_pos rfl, if_pos rfl]
    exact ⟨_, _, _, _, rfl, rfl, hr, fun _ _ => rfl, fun _ _ => rfl⟩
theorem M_back (x : Int32) : Sm 114 [some (.ref 1), some (.int x)] 180 [some (.ref 119), some (.int x), none] := fun L n I J hr => by
  obtain ⟨hR, hD, hK, hP⟩ := id hr
  rw [B114_0, S117, K2_i, B114_4, B180_0, S121, K2_i, B180_6, tI_iff (in_iff (x := x) (n := 1) (M := 1) rfl (by decide))]
  by_cases h : ∃ p, p < 2 ∧ x = nI p
  · obtain ⟨p, hp, rfl⟩ := id h
    obtain ⟨x1, x2, x3⟩ := hK p hp
    rw [tI_t h, if_neg (show ¬ (1 : Int32) = 0 by decide), if_neg (show ¬ (1 : Int32) = 0 by decide), ck_of (inb_nI hp (by decide)), ck_of (inb_nI hp (by decide)), ck_of (inb_nI hp (by decide)), ix_nI (by omega), x1]
    by_cases hz : J 123 p = 0
    · rw [if_pos hz, if_pos hz]
      exact ⟨_, _, _, _, rfl, rfl, hr, fun _ _ => rfl, fun _ _ => rfl⟩
    · have hDi := x3 (x2.resolve_left hz)
      obtain ⟨I1, a1, hcp⟩ := S1 (L := L) k_81 (k_img hp) (by omega) (b01_D hDi)
      obtain ⟨J1, a2, g1, g2⟩ := S180 (L := L) hp 127 0 J rfl
      have a2' : E 180 26 [some (.ref 119), some (.int (nI p)), some (.int 0)] [] (GG L) J = some (some (.int (J1 120 2)), GG L, J1) := a2
      have oI : ∀ a, a < 81 ∨ 87 < a → I1 a = I a := hcp.1
      have hD' : Rd n (J 125) I1 81 (J1 120) := Rd_cp hDi hcp (fun j hj => by rw [g2 j hj, if_pos (Nat.zero_le _)])
      rw [if_neg hz, if_neg hz, a1, K2_v, B114_35, B5_0 k_81, K2_i, B114_42, hD'.2.1, a2']
      exact ⟨I1, J1, n, _, rfl, rfl, RR_d hr hD' (fun a q => oI a (by omega)) (by rw [oI 2 (by omega)]) (oI 3 (by omega)) (by rw [g1 119 (by decide)]) (by rw [g1 119 (by decide)]) (fun a q _ _ => g1 a (by omega)), fun a q => oI a (by omega), fun a q => g1 a (by omega)⟩
  · rw [tI_f h, if_pos rfl, if_pos rfl]
    exact ⟨_, _, _, _, rfl, rfl, hr, fun _ _ => rfl, fun _ _ => rfl⟩
/-- the reference puts its row aside -/
theorem S168a {L : Nat} {x1 x2 x3 x4 : Int32} {u6 u7 : Option Value} : ∀ (m k : Nat) (J : It), m + k = 127 → ∃ J', E 168 57 [some (.ref 119), some (.int x1), some (.int x2), some (.int x3), some (.int x4), some (.int (nI k)), u6, u7] [] (GG L) J = K2 168 97 [some (.ref 119), some (.int x1), some (.int x2), some (.int x3), some (.int x4), some (.int (nI 127)), u6, u7] [] (E 149 0 [some (.ref 119), some (.int x1), some (.int x2)] [] (GG L) (uI J' 120 1 x3)) ∧ (∀ a, a ≠ 121 → J' a = J a) ∧ ∀ j, j < 127 → J' 121 j = if k ≤ j then J 120 j else J 121 j := by
  intro m
  induction m with
  | zero =>
    intro k J hm
    have hk : k = 127 := by omega
    subst hk
    refine ⟨J, ?_, fun _ _ => rfl, fun j hj => by rw [if_neg (by omega)]⟩
    rw [B168_57, if_pos (by decide)]
  | succ m ih =>
    intro k J hm
    obtain ⟨J', e, h1, h2⟩ := ih (k + 1) (uI J 121 k (J 120 k)) (by omega)
    refine ⟨J', ?_, fun a q => (h1 a q).trans (uI_o _ _ _ _ _ q), fun j hj => ?_⟩
    · rw [B168_57, if_neg (show ¬ (127 : Int32) ≤ nI k from nI_ge (a := k) (b := 127) (by omega) (by decide)), ck_of (inb_nI (by omega) (by decide)), ck_of (inb_nI (by omega) (by decide)), ix_nI (by omega), nI_1, e]
    · rw [h2 j hj, uI_a _ _ _ _ _ _ (by decide)]
      by_cases q : k + 1 ≤ j
      · rw [if_pos q, if_pos (show k ≤ j by omega)]
      · rw [if_neg q]
        by_cases q2 : j = k
        · rw [q2, uI_s, if_pos (Nat.le_refl _)]
        · rw [uI_k _ _ _ _ _ (by omega), if_neg (by omega)]
/-- and takes it again -/
theorem S168b {L : Nat} {x6 : Int32} {u1 u2 u3 u4 u5 : Option Value} : ∀ (m k : Nat) (J : It), m + k = 127 → ∃ J', E 168 137 [some (.ref 119), u1, u2, u3, u4, u5, some (.int x6), some (.int (nI k))] [] (GG L) J = some (some (.int x6), GG L, J') ∧ (∀ a, a ≠ 120 → J' a = J a) ∧ ∀ j, j < 127 → J' 120 j = if k ≤ j then J 121 j else J 120 j := by
  intro m
  induction m with
  | zero =>
    intro k J hm
    have hk : k = 127 := by omega
    subst hk
    refine ⟨J, ?_, fun _ _ => rfl, fun j hj => by rw [if_neg (by omega)]⟩
    rw [B168_137, if_pos (by decide)]
  | succ m ih =>
    intro k J hm
    obtain ⟨J', e, h1, h2⟩ := ih (k + 1) (uI J 120 k (J 121 k)) (by omega)
    refine ⟨J', ?_, fun a q => (h1 a q).trans (uI_o _ _ _ _ _ q), fun j hj => ?_⟩
    · rw [B168_137, if_neg (show ¬ (127 : Int32) ≤ nI k from nI_ge (a := k) (b := 127) (by omega) (by decide)), ck_of (inb_nI (by omega) (by decide)), ck_of (inb_nI (by omega) (by decide)), ix_nI (by omega), nI_1, e]
    · rw [h2 j hj, uI_a _ _ _ _ _ _ (by decide)]
      by_cases q : k + 1 ≤ j
      · rw [if_pos q, if_pos (show k ≤ j by omega)]
      · rw [if_neg q]
        by_cases q2 : j = k
        · rw [q2, uI_s, if_pos (Nat.le_refl _)]
        · rw [uI_k _ _ _ _ _ (by omega), if_neg (by omega)]
set_option maxHeartbeats 1000000 in
theorem M_ifFailed (x y z w : Int32) : Sm 109 [some (.ref 1), some (.int x), some (.int y), some (.int z), some (.int w), none] 168 [some (.ref 119), some (.int x), some (.int y), some (.int z), some (.int w), none, none, none] := fun L n I J hr => by
  obtain ⟨hR, hD, -, -⟩ := id hr
  have hn := hR.1
  obtain ⟨o, ho, e10, e32, e36, -⟩ := S_has (L := L) k_81 hR hD
  rw [B109_0, S2 k_81 hD.1, K2_i, B109_7, B168_0]
  by_cases h0 : J 120 0 = 0
  · rw [if_pos h0, if_pos h0]; exact ⟨_, _, _, _, rfl, rfl, hr, fun _ _ => rfl, fun _ _ => rfl⟩
  rw [if_neg h0, if_neg h0, e10, K2_i, B109_20 ho, e32, K2_i, B109_28 ho, S145 hR hD, K2_i, B168_17]
  by_cases h : Hs J x
  · rw [tI_t h, if_neg (by decide), if_neg (by decide), e32, K2_i, B109_38 ho, S145 hR hD, K2_i, B168_26]
    by_cases h' : Hs J w
    · obtain ⟨v, k, hv, hk, rfl, h3, h2, hT, -, -, -⟩ := Hs_val hn hD h
      have hrow := (hR.2.2.2.2 v hv).1 k hk
      rw [tI_t h', if_neg (by decide), if_neg (by decide), e36 k v y hk (by omega) h3, K2_i, B109_50, S150 (by omega) hk h3, K2_i, B168_37]
      by_cases hy : 0 ≤ y ∧ y ≤ J 126 (10 * v + k)
      · obtain ⟨c, hcb, rfl⟩ := byt_le hy.1 hy.2 hrow.2.2.2.1
        rw [tI_t hy, tI_t ⟨hT, hy⟩, if_neg (by decide), if_neg (by decide), S118, K2_i, B109_57, S121, K2_i, B168_48]
        by_cases hz : 0 ≤ z ∧ z ≤ 200
        · -- the trial
          obtain ⟨I1, a1, hcp⟩ := S1 (L := L) k_90 k_81 (by omega) (b01_D hD)
          obtain ⟨J1, a2, g1, g2⟩ := S168a (L := L) (x1 := nI k) (x2 := nI c) (x3 := z) (x4 := w) (u6 := none) (u7 := none) 127 0 J rfl
          have a2' : E 168 57 [some (.ref 119), some (.int (nI k)), some (.int (nI c)), some (.int z), some (.int w), some (.int 0), none, none] [] (GG L) J = _ := a2
          have f1 : FDI 90 I I1 := fun a q => hcp.1 a (by omega)
          have j120 : J1 120 = J 120 := g1 120 (by decide)
          have j125 : J1 125 = J 125 := g1 125 (by decide)
          have hD1 : Rd n (J1 125) I1 90 (J1 120) := by rw [j125]; exact Rd_cp hD hcp (fun j _ => by rw [j120])
          have hR1 : Ry n I1 J1 := Ry_2 hR (fun a q1 q2 => f1 a (by omega)) (by rw [g1 119 (by decide)]) (fun a q1 q2 => g1 a (by omega))
          have hD2 := Rd_f hD1 (by rw [j120]; exact h0) (Or.inr hz)
          obtain ⟨I2, hI2⟩ : ∃ I2, uI I1 90 4 z = I2 := ⟨_, rfl⟩
          obtain ⟨J2, hJ2⟩ : ∃ J2, uI J1 120 1 z = J2 := ⟨_, rfl⟩
          rw [hI2, hJ2] at hD2
          have f2 : FDI 90 I1 I2 := fun a q => by rw [← hI2]; exact uI_o _ _ _ _ _ (by omega)
          have o2 : ∀ a, a ≠ 120 → J2 a = J1 a := fun a q => by rw [← hJ2]; exact uI_o _ _ _ _ _ q
          have fJ2 : FDJ J1 J2 := ⟨fun a _ q _ _ => o2 a q, fun j _ => by rw [o2 119 (by decide)]⟩
          have hR2 : Ry n I2 J2 := Ry_2 hR1 (fun a q1 q2 => f2 a (by omega)) (by rw [o2 119 (by decide)]) (fun a q1 q2 => o2 a (by omega))
          have q2 : ∀ j, j ≠ 1 → J2 120 j = J 120 j := fun j q => by rw [← hJ2, uI_k _ _ _ _ _ q, j120]
          obtain ⟨I3, J3, r, b1, b2, hD3, f3, g3, -⟩ := W_change (L := L) k_90 (by decide) (by decide) hR2 (by rw [o2 125 (by decide)]; exact hD2) (by rw [q2 2 (by decide)]; exact h2) hv (by rw [q2 3 (by decide)]; exact h3) hk (by rw [o2 125 (by decide), j125]; exact hT) hcb
          have hR3 : Ry n I3 J3 := Ry_D hR2 (by decide) f3 g3
          have j3125 : J3 125 = J2 125 := g3.1 125 (by decide) (by decide) (by decide) (by decide)
          obtain ⟨I4, J4, r4, c1, c2, hD4, h42, -, f4, g4, g4'⟩ := W_start (L := L) hR3 k_90 (by decide) (by decide) k_91 k_93 (wk_0_10 k_90) (wl_0_10 k_90) hD3.1
          have f4' : FDI 90 I3 I4 := fun a q => f4 a (by omega) (by omega) (by omega)
          have g4'' : FDJ J3 J4 := ⟨fun a q1 q2 _ _ => g4 a q1 q2, fun j hj => g4' j (by omega) (by omega) (by omega)⟩
          have hR4 : Ry n I4 J4 := Ry_D hR3 (by decide) f4' g4''
          have hD4' : Rd n (J4 125) I4 90 (J4 120) := by rw [g4 125 (by decide) (by decide)]; exact hD4
          obtain ⟨o4, ho4, e410, e432, -, -⟩ := S_has (L := L) k_90 hR4 hD4'
          have fI : FDI 90 I I4 := FDI_tr (FDI_tr (FDI_tr f1 f2) f3) f4'
          have fJ : FDJ J1 J4 := FDJ_tr (FDJ_tr fJ2 g3) g4''
          have j4121 : J4 121 = J1 121 := fJ.1 121 (by decide) (by decide) (by decide) (by decide)
          -- the end of the reference: its row again
          have fin : ∀ (x6 : Int32) (u5 : Option Value), ∃ J', E 168 137 [some (.ref 119), some (.int (nI k)), some (.int (nI c)), some (.int z), some (.int w), u5, some (.int x6), some (.int 0)] [] (GG L) J4 = some (some (.int x6), GG L, J') ∧ RR n I4 J' ∧ ∀ a, a < 119 → J' a = J a := by
            intro x6 u5
            obtain ⟨J5, d1, d2, d3⟩ := S168b (L := L) (x6 := x6) (u1 := some (.int (nI k))) (u2 := some (.int (nI c))) (u3 := some (.int z)) (u4 := some (.int w)) (u5 := u5) 127 0 J4 rfl
            refine ⟨J5, d1, RR_k hr (fun a q => fI a (by omega)) (by rw [fI 2 (by omega)]) (fI 3 (by omega)) ?_ ?_ (fun j hj => ?_) (fun a q1 q2 q3 => ?_), fun a q => ?_⟩
            · rw [d2 119 (by decide), fJ.2 5 (by decide), g1 119 (by decide)]
            · rw [d2 119 (by decide), fJ.2 6 (by decide), g1 119 (by decide)]
            · rw [d3 j hj, if_pos (Nat.zero_le _), j4121, g2 j hj, if_pos (Nat.zero_le _)]
            · rw [d2 a (by omega), fJ.1 a (by omega) (by omega) q2 q3, g1 a (by omega)]
            · rw [d2 a (by omega), fJ.1 a (by omega) (by omega) (by omega) (by omega), g1 a (by omega)]
          have fI0 : ∀ a, a = 0 ∨ 119 ≤ a → I4 a = I a := fun a q => fI a (by omega)
          rw [tI_t hz, if_neg (by decide), if_neg (by decide), a1, K2_v, B109_74, B16_0 k_90, K2_v, B109_82, hI2, b1, K2_i, B109_91, c1, K2_v, B109_99, e410, K2_i, B109_106 ho4, e432, K2_i, B109_111, a2', hJ2, b2, K2_v, B168_97, c2, K2_i, B168_101]
          rcases act_cases hD4' with ⟨s2, s3⟩ | ⟨p, v', hp, hv', s2, s3, hVr⟩
          · have hno : ¬ Hs J4 w := by
              rintro ⟨v', k', hv', -, hh, -⟩
              exact m6_nI (show v' < 2 ^ 31 by omega) (s3.symm.trans hh)
            obtain ⟨J5, d1, d2, d3⟩ := fin (-6) (some (.int (-6)))
            rw [tI_f hno, if_pos rfl, ← h42, s2, if_pos (by decide), d1]
            exact ⟨I4, J5, n, _, rfl, rfl, d2, fI0, d3⟩
          · rw [← h42, s2, if_neg (nI_pos (by omega)), S145 hR4 hD4', K2_i, B168_114 rfl]
            by_cases hw : Hs J4 w
            · obtain ⟨v5, k5, hv5, hk5, rfl, -, -, -, h5, -, -⟩ := Hs_val hn hD4' hw
              obtain ⟨J5, d1, d2, d3⟩ := fin (J4 120 (11 + k5)) (some (.int (nI p)))
              rw [tI_t hw, if_neg (by decide), if_neg (by decide), S11 k_90 hk5, K2_i, B109_123, show 11 + nI k5 = nI (11 + k5) from nI_add 11 k5, ck_of (inb_nI (by omega) (by decide)), ix_nI (by omega), h5, d1]
              exact ⟨I4, J5, n, _, rfl, rfl, d2, fI0, d3⟩
            · obtain ⟨J5, d1, d2, d3⟩ := fin (-6) (some (.int (nI p)))
              rw [tI_f hw, if_pos rfl, if_pos rfl, d1]
              exact ⟨I4, J5, n, _, rfl, rfl, d2, fI0, d3⟩
        · rw [tI_f hz, if_pos rfl, if_pos rfl]
          exact ⟨_, _, _, _, rfl, rfl, hr, fun _ _ => rfl, fun _ _ => rfl⟩
      · rw [tI_f hy, tI_f (fun q => hy q.2), if_pos rfl, if_pos rfl]
        exact ⟨_, _, _, _, rfl, rfl, hr, fun _ _ => rfl, fun _ _ => rfl⟩
    · rw [tI_f h', if_pos rfl, if_pos rfl]
      exact ⟨_, _, _, _, rfl, rfl, hr, fun _ _ => rfl, fun _ _ => rfl⟩
  · rw [tI_f h, if_pos rfl, if_pos rfl]
    exact ⟨_, _, _, _, rfl, rfl, hr, fun _ _ => rfl, fun _ _ => rfl⟩
