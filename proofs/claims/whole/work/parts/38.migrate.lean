/-- what multiplying, dividing or limiting makes of a number -/
def chg (k v b : Int32) : Int32 := if k = 3 then (if v * b ≤ 255 then v * b else 255) else if k = 4 then v / b else (if b ≤ v then b else v)
theorem S92 {L : Nat} {k b v : Int32} {I : It} (h : k = 4 → 1 ≤ b) : E 92 0 [some (.int k), some (.int b), some (.int v)] [] (GG L) I = some (some (.int (chg k v b)), GG L, I) := by
  rw [B92_0]
  unfold chg
  by_cases h3 : k = 3
  · rw [if_pos h3, if_pos h3, B182_0]
    by_cases q : 255 < v * b
    · rw [if_pos q, if_neg (Int32.not_le.mpr q), K2_i, B92_14]
    · rw [if_neg q, if_pos (Int32.not_lt.mp q), K2_i, B92_14]
  · rw [if_neg h3, if_neg h3]
    by_cases h4 : k = 4
    · rw [if_pos h4, if_pos h4, if_pos (h h4), ck_of]
      have : ¬ b = 0 := fun e => absurd (e ▸ h h4) (by decide)
      simp [this]
    · rw [if_neg h4, if_neg h4, B182_0]
      by_cases q : b < v
      · rw [if_pos q, K2_i, B92_38, if_pos (Int32.le_of_lt q)]
      · rw [if_neg q, K2_i, B92_38]
        by_cases q2 : b ≤ v
        · rw [if_pos q2, Int32.le_antisymm q2 (Int32.not_lt.mp q)]
        · rw [if_neg q2]
theorem S125 {L : Nat} {k b v : Int32} {I : It} (h : k = 4 → 1 ≤ b) : E 125 0 [some (.int k), some (.int v), some (.int b)] [] (GG L) I = some (some (.int (chg k v b)), GG L, I) := by
  rw [B125_0]
  unfold chg
  by_cases h3 : k = 3
  · rw [if_pos h3, if_pos h3, B122_0]
    by_cases q : v * b ≤ 255
    · rw [if_pos q, if_pos q, K2_i, B125_14, B125_33]
    · rw [if_neg q, if_neg q, K2_i, B125_14, B125_33]
  · rw [if_neg h3, if_neg h3]
    by_cases h4 : k = 4
    · have : ¬ b = 0 := fun e => absurd (e ▸ h h4) (by decide)
      rw [if_pos h4, if_pos h4, ck_of (by simp [this]), B125_33]
    · rw [if_neg h4, if_neg h4, B122_0]
      by_cases q : b ≤ v
      · rw [if_pos q, if_pos q, K2_i, B125_33]
      · rw [if_neg q, if_neg q, K2_i, B125_33]
theorem chg_byt {k v b : Int32} (hv : byt v) (h1 : k = 3 ∨ k = 4 → ∃ f, 2 ≤ f ∧ f ≤ 9 ∧ b = nI f) (h2 : k ≠ 3 → k ≠ 4 → byt b) : byt (chg k v b) := by
  obtain ⟨c, hc, rfl⟩ := hv
  unfold chg
  by_cases h3 : k = 3
  · obtain ⟨f, hf2, hf9, rfl⟩ := h1 (Or.inl h3)
    rw [if_pos h3, nI_mul]
    by_cases q : nI (c * f) ≤ 255
    · rw [if_pos q]
      have hb : c * f < 2 ^ 31 := by
        have : c * f ≤ 255 * 9 := Nat.mul_le_mul (by omega) hf9
        omega
      exact ⟨c * f, by have := (nI_leI (b := 255) hb (by decide)).mp q; omega, rfl⟩
    · rw [if_neg q]; exact ⟨255, by decide, rfl⟩
  · rw [if_neg h3]
    by_cases h4 : k = 4
    · obtain ⟨f, hf2, hf9, rfl⟩ := h1 (Or.inr h4)
      rw [if_pos h4, nI_div (by omega) (by omega)]
      exact ⟨c / f, by have := Nat.div_le_self c f; omega, rfl⟩
    · rw [if_neg h4]
      split
      · exact h2 h3 h4
      · exact ⟨c, hc, rfl⟩
theorem k_stp {L v : Nat} (hv : v < 6) : kd (GG L) (26 + 10 * v) = 5 := by
  have := wk_1_4 (k_lay (L := L) hv)
  rwa [show 21 + 10 * v + 5 = 26 + 10 * v by omega] at this
theorem i_28 (v i : Nat) : 28 * nI v + nI i = nI (28 * v + i) := by rw [show (28 : Int32) = nI 28 from rfl, nI_mul, nI_add]
theorem i_10 (v i : Nat) : 10 * nI v + nI i = nI (10 * v + i) := by rw [show (10 : Int32) = nI 10 from rfl, nI_mul, nI_add]
/-- one step done to the values, on both sides -/
theorem V_step {L d v i c : Nat} {S S' : Nat → Bool} {I J : It} {u3 u4 : Option Value} (hd : kd (GG L) d = 0) (hd81 : 81 ≤ d) (hv : v < 6) (hi : i < c) (hc27 : c ≤ 27) (hcI : I (26 + 10 * v) 4 = nI c)
    (h0 : I (27 + 10 * v) i = J 130 (28 * v + i)) (h1 : I (28 + 10 * v) i = J 131 (28 * v + i)) (h2 : I (29 + 10 * v) i = J 132 (28 * v + i)) (h3 : I (30 + 10 * v) i = J 133 (28 * v + i)) (hS : St J (28 * v + i) S S') (hV : ∀ a, a < 10 → S a = true → I (d + 7) a = J 134 a ∧ byt (J 134 a)) :
    ∃ I' J' u3' u4', E 91 2 [some (.ref (26 + 10 * v)), some (.ref (d + 7)), some (.int (nI i)), u3, u4] [] (GG L) I = E 91 2 [some (.ref (26 + 10 * v)), some (.ref (d + 7)), some (.int (nI (i + 1))), u3', u4'] [] (GG L) I' ∧ E 154 0 [some (.ref 119), some (.int (nI (28 * v + i))), none] [] (GG L) J = some (none, GG L, J') ∧ (∀ a, a ≠ d + 7 → I' a = I a) ∧ (∀ a, a ≠ 134 → J' a = J a) ∧ ∀ a, a < 10 → S' a = true → I' (d + 7) a = J' 134 a ∧ byt (J' 134 a) := by
  have k5 := k_stp (L := L) hv
  have k50 := wk_0_12 hd
  have l50 := wl_0_12 hd
  obtain ⟨a, ha, ea, hcase⟩ := hS
  have b0 := B91_2 (L := L) (o0 := 26 + 10 * v) (o1 := d + 7) (x2 := nI i) (u3 := u3) (u4 := u4) (I := I) k5 k50 l50
  rw [hcI, if_neg (nI_ge hi (by omega)), if_neg (show ¬ (27 : Int32) ≤ nI i from nI_ge (a := i) (b := 27) (by omega) (by decide)), ck_of (inb_nI (by omega) (by decide)), ck_of (inb_nI (by omega) (by decide)), ix_nI (by omega), show 26 + 10 * v + 2 = 28 + 10 * v by omega, show 26 + 10 * v + 3 = 29 + 10 * v by omega, h1, ea, S119, K2_i, tI_t ⟨a, ha, rfl⟩, B91_35 k5 k50 l50, if_neg (by decide), if_pos (show nI a < (10 : Int32) from nI_lt (b := 10) ha (by decide)), ck_of (inb_nI (by omega) (by decide)), ix_nI (by omega), show 26 + 10 * v + 1 = 27 + 10 * v by omega, show 26 + 10 * v + 4 = 30 + 10 * v by omega, h0, nI_1, h2, h3, ck_of (inb_nI (by omega) (by decide)), ck_of (inb_nI (by omega) (by decide)), ix_nI (by omega)] at b0
  have b1 := B154_0 (L := L) (x1 := nI (28 * v + i)) (I := J)
  rw [ck_of (inb_nI (by omega) (by decide)), ck_of (inb_nI (by omega) (by decide)), ix_nI (by omega), ea] at b1
  rcases hcase with ⟨k, hb, hs⟩ | ⟨k, hs⟩ | ⟨k, hSa, b, hb, eb, hs⟩ | ⟨k, hSa, ⟨f, hf2, hf9, ef⟩, hs⟩ | ⟨k, hSa, hb, hs⟩
  · rw [k, if_pos rfl] at b0
    rw [k, show swt (0 : Int32).toInt 0 [40, 55, 58] 78 = 40 from rfl, B154_40, ck_of (inb_nI (by omega) (by decide)), ck_of (inb_nI ha (by decide)), ix_nI (by omega), ix_nI (by omega)] at b1
    refine ⟨_, _, _, _, b0, b1, fun x hx => uI_o _ _ _ _ _ hx, fun x hx => uI_o _ _ _ _ _ hx, fun x hx hS' => ?_⟩
    by_cases q : x = a
    · subst q; rw [uI_s, uI_s]; exact ⟨rfl, hb⟩
    · rw [uI_k _ _ _ _ _ q, uI_k _ _ _ _ _ q]; exact hV x hx (hs x q hS')
  · rw [k, if_neg (by decide), ck_of (inb_nI (by omega) (by decide)), if_neg (by decide), ck_of (inb_nI (by omega) (by decide)), if_pos rfl] at b0
    rw [k, show swt (1 : Int32).toInt 0 [40, 55, 58] 78 = 55 from rfl, B154_55] at b1
    exact ⟨_, _, _, _, b0, b1, fun x hx => rfl, fun x hx => rfl, fun x hx hS' => hV x hx (hs x hS')⟩
  · rw [k, if_neg (by decide), ck_of (inb_nI (by omega) (by decide)), if_pos rfl, S119, K2_i, eb, tI_t ⟨b, hb, rfl⟩, B91_83 k5 k50 l50, if_neg (by decide), if_neg (show ¬ (10 : Int32) ≤ nI b from nI_ge (a := b) (b := 10) hb (by decide)), ck_of (inb_nI ha (by decide)), ck_of (inb_nI hb (by decide)), ix_nI (by omega), ix_nI (by omega), nI_1] at b0
    rw [k, show swt (2 : Int32).toInt 0 [40, 55, 58] 78 = 58 from rfl, B154_58, ck_of (inb_nI (by omega) (by decide)), ck_of (inb_nI ha (by decide)), ix_nI (by omega), ix_nI (by omega), eb, ck_of (inb_nI hb (by decide)), ix_nI (by omega)] at b1
    refine ⟨_, _, _, _, b0, b1, fun x hx => uI_o _ _ _ _ _ hx, fun x hx => uI_o _ _ _ _ _ hx, fun x hx hS' => ?_⟩
    by_cases q : x = b
    · subst q; rw [uI_s, uI_s]; exact hV a ha hSa
    · rw [uI_k _ _ _ _ _ q, uI_k _ _ _ _ _ q]; exact hV x hx (hs x q hS')
  all_goals
    have hk4 : J 130 (28 * v + i) = 4 → 1 ≤ J 132 (28 * v + i) := fun h4 => by
      first
        | (rw [ef]; exact nI_le (a := 1) (by omega) (by omega))
        | (rw [k] at h4; exact absurd h4 (by decide))
    have hne : ∀ z : Int32, z = 0 ∨ z = 1 ∨ z = 2 → J 130 (28 * v + i) ≠ z := fun z hz e => by
      first
        | (rcases k with k | k <;> (rw [k] at e; rcases hz with rfl | rfl | rfl <;> exact absurd e (by decide)))
        | (rw [k] at e; rcases hz with rfl | rfl | rfl <;> exact absurd e (by decide))
    obtain ⟨va, vb⟩ := hV a ha hSa
    rw [if_neg (hne 0 (by simp)), ck_of (inb_nI (by omega) (by decide)), if_neg (hne 2 (by simp)), ck_of (inb_nI (by omega) (by decide)), if_neg (hne 1 (by simp)), ck_of (inb_nI (by omega) (by decide)), ck_of (inb_nI ha (by decide)), va, S92 hk4, K2_i, B91_129 k5 k50 l50 k50 l50, ck_of (inb_nI ha (by decide)), ix_nI (by omega), nI_1] at b0
    have hsw : swt (J 130 (28 * v + i)).toInt 0 [40, 55, 58] 78 = 78 := by
      first
        | (rcases k with k | k <;> (rw [k]; rfl))
        | (rw [k]; rfl)
    rw [hsw, B154_78, ck_of (inb_nI (by omega) (by decide)), ck_of (inb_nI ha (by decide)), ck_of (inb_nI (by omega) (by decide)), ix_nI (by omega), ix_nI (by omega), S125 hk4, K2_i, B154_104 (by rw [GG_kd L (by decide) (by decide)]; decide +kernel) (by rw [GG_ln L (by decide) (by decide)]; decide +kernel), ck_of (inb_nI ha (by decide)), ix_nI (by omega)] at b1
    refine ⟨_, _, _, _, b0, b1, fun x hx => uI_o _ _ _ _ _ hx, fun x hx => uI_o _ _ _ _ _ hx, fun x hx hS' => ?_⟩
    by_cases q : x = a
    · subst q
      rw [uI_s, uI_s]
      refine ⟨rfl, chg_byt vb ?_ ?_⟩
      · intro h34
        first
          | exact ⟨f, hf2, hf9, ef⟩
          | (rw [k] at h34; rcases h34 with h34 | h34 <;> exact absurd h34 (by decide))
      · intro n3 n4
        first
          | exact hb
          | (rcases k with k | k; exact absurd k n3; exact absurd k n4)
    · rw [uI_k _ _ _ _ _ q, uI_k _ _ _ _ _ q]; exact hV x hx (hs x hS')
theorem St_J {J J' : It} {s : Nat} {S S' : Nat → Bool} (h : St J s S S') (hJ : ∀ a, a ≠ 134 → J' a = J a) : St J' s S S' := by
  unfold St at h ⊢
  rw [hJ 130 (by decide), hJ 131 (by decide), hJ 132 (by decide), hJ 133 (by decide)]
  exact h
/-- the steps of one version done to the values -/
theorem V_ver {L d v c : Nat} {t : Int32} {S : Nat → Nat → Bool} (hd : kd (GG L) d = 0) (hd81 : 81 ≤ d) (hv : v < 6) (hc27 : c ≤ 27) : ∀ (m i : Nat) {I J : It} {u3 u4 : Option Value}, m + i = c → I (26 + 10 * v) 4 = nI c → J 129 v = nI c →
    (∀ i, i < c → I (27 + 10 * v) i = J 130 (28 * v + i) ∧ I (28 + 10 * v) i = J 131 (28 * v + i) ∧ I (29 + 10 * v) i = J 132 (28 * v + i) ∧ I (30 + 10 * v) i = J 133 (28 * v + i)) → (∀ i, i < c → St J (28 * v + i) (S i) (S (i + 1))) → (∀ a, a < 10 → S i a = true → I (d + 7) a = J 134 a ∧ byt (J 134 a)) →
    ∃ I' J', E 91 2 [some (.ref (26 + 10 * v)), some (.ref (d + 7)), some (.int (nI i)), u3, u4] [] (GG L) I = some (none, GG L, I') ∧ E 155 20 [some (.ref 119), some (.int t), some (.int (nI v)), some (.int (nI i))] [] (GG L) J = E 155 13 [some (.ref 119), some (.int t), some (.int (nI (v + 1))), some (.int (nI c))] [] (GG L) J' ∧ (∀ a, a ≠ d + 7 → I' a = I a) ∧ (∀ a, a ≠ 134 → J' a = J a) ∧ ∀ a, a < 10 → S c a = true → I' (d + 7) a = J' 134 a ∧ byt (J' 134 a) := by
  intro m
  induction m with
  | zero =>
    intro i I J u3 u4 hm hcI hcJ hrow hSt hV
    have hi : i = c := by omega
    subst hi
    refine ⟨I, J, ?_, ?_, fun _ _ => rfl, fun _ _ => rfl, hV⟩
    · rw [B91_2 (k_stp hv) (wk_0_12 hd) (wl_0_12 hd), hcI, if_pos (Int32.le_refl _)]
    · rw [B155_20, ck_of (inb_nI (by omega) (by decide)), ix_nI (by omega), hcJ, if_pos (Int32.le_refl _), nI_1]
  | succ m ih =>
    intro i I J u3 u4 hm hcI hcJ hrow hSt hV
    obtain ⟨r0, r1, r2, r3⟩ := hrow i (by omega)
    obtain ⟨I1, J1, u3', u4', e0, e1, f1, g1, hV1⟩ := V_step (u3 := u3) (u4 := u4) hd hd81 hv (show i < c by omega) hc27 hcI r0 r1 r2 r3 (hSt i (by omega)) hV
    obtain ⟨I2, J2, y0, y1, f2, g2, hV2⟩ := ih (i + 1) (I := I1) (J := J1) (u3 := u3') (u4 := u4') (by omega) (by rw [f1 _ (by omega)]; exact hcI) (by rw [g1 _ (by decide)]; exact hcJ) (fun j hj => by rw [f1 _ (by omega), f1 _ (by omega), f1 _ (by omega), f1 _ (by omega), g1 _ (by decide), g1 _ (by decide), g1 _ (by decide), g1 _ (by decide)]; exact hrow j hj) (fun j hj => St_J (hSt j hj) g1) hV1
    refine ⟨I2, J2, e0.trans y0, ?_, fun a q => (f2 a q).trans (f1 a q), fun a q => (g2 a q).trans (g1 a q), hV2⟩
    rw [B155_20, ck_of (inb_nI (by omega) (by decide)), ix_nI (by omega), hcJ, if_neg (nI_ge (show i < c by omega) (by omega)), i_28, e1, K2_v, B155_40, nI_1, y1]
/-- the steps of the versions behind one up to another -/
theorem V_all {L n d t : Nat} (hd : kd (GG L) d = 0) (hd81 : 81 ≤ d) (ht : t < n) : ∀ (m x : Nat) {I J : It} {u2 u3 : Option Value}, m + x = t + 1 → 1 ≤ x → Ry n I J → (∀ a, a < 10 → J 125 (10 * (x - 1) + a) ≠ 0 → I (d + 7) a = J 134 a ∧ byt (J 134 a)) →
    ∃ I' J', E 48 5 [some (.ref 9), some (.ref (d + 7)), u2, some (.int (nI t)), some (.int (nI x))] [] (GG L) I = some (none, GG L, I') ∧ E 155 13 [some (.ref 119), some (.int (nI t)), some (.int (nI x)), u3] [] (GG L) J = some (none, GG L, J') ∧ (∀ a, a ≠ d + 7 → I' a = I a) ∧ (∀ a, a ≠ 134 → J' a = J a) ∧ ∀ a, a < 10 → J 125 (10 * t + a) ≠ 0 → I' (d + 7) a = J' 134 a ∧ byt (J' 134 a) := by
  intro m
  induction m with
  | zero =>
    intro x I J u2 u3 hm h1 hR hV
    have hn := hR.1
    have hx : x = t + 1 := by omega
    subst hx
    refine ⟨I, J, ?_, ?_, fun _ _ => rfl, fun _ _ => rfl, hV⟩
    · rw [B48_5 (wk_0_12 hd) (wl_0_12 hd), if_pos (nI_lt (by omega) (by omega))]
    · rw [B155_13, if_pos (nI_lt (by omega) (by omega))]
  | succ m ih =>
    intro x I J u2 u3 hm h1 hR hV
    have hn := hR.1
    obtain ⟨-, c, hc27, hcI, hcJ, hrow, S, hS0, hSc, hSt⟩ := hR.2.2.2.2 x (by omega)
    have kx := k_lay (L := L) (v := x) (by omega)
    have k50 := wk_0_12 hd
    have l50 := wl_0_12 hd
    obtain ⟨I1, J1, e0, e1, f1, g1, hV1⟩ := V_ver (L := L) (t := nI t) (S := S) hd hd81 (show x < 6 by omega) hc27 c 0 (I := I) (J := J) (u3 := none) (u4 := none) rfl hcI hcJ hrow hSt (fun a ha hSa => hV a ha ((hS0 a ha).mp hSa).2)
    obtain ⟨I2, J2, y0, y1, f2, g2, hV2⟩ := ih (x + 1) (I := I1) (J := J1) (u2 := u2) (u3 := some (.int (nI c))) (by omega) (by omega) (Ry_congr hR (fun a ha => f1 a (by omega)) (by rw [g1 119 (by decide)]) (fun a q1 q2 => g1 a (by omega))) (fun a ha hT => by
      rw [g1 125 (by decide)] at hT
      exact hV1 a ha ((hSc a ha).mpr hT))
    have e0' : E 91 0 [some (.ref (21 + 10 * x + 5)), some (.ref (d + 7)), none, none, none] [] (GG L) I = some (none, GG L, I1) := by
      rw [show 21 + 10 * x + 5 = 26 + 10 * x by omega, B91_0 (k_stp (by omega)) k50 l50]; exact e0
    refine ⟨I2, J2, ?_, ?_, fun a q => (f2 a q).trans (f1 a q), fun a q => (g2 a q).trans (g1 a q), fun a ha hT => hV2 a ha (by rw [g1 125 (by decide)]; exact hT)⟩
    · rw [B48_5 k50 l50, if_neg (nI_nlt (by omega) (by omega)), if_neg (show ¬ (6 : Int32) ≤ nI x from nI_ge (a := x) (b := 6) (by omega) (by decide)), S46 hR (by omega), K2_i, B48_24 k50 l50 kx, B42_0 kx k50 l50, e0', K2_v, B42_8, K2_v, B48_28 k50 l50, nI_1, y0]
    · rw [B155_13, if_neg (nI_nlt (by omega) (by omega))]
      exact Eq.trans e1 y1
/-- the values that a migration would give, on both sides -/
theorem W_mig {L n d v t : Nat} {I J : It} (hd : kd (GG L) d = 0) (hd81 : 81 ≤ d) (hdJ : d + 8 < 119) (hR : Ry n I J) (h6 : I d 6 = nI v) (h3 : J 120 3 = nI v) (hVr : Vr (J 125) v I d (J 120)) (hvt : v ≤ t) (ht : t < n) :
    ∃ I' J', E 24 0 [some (.ref d), some (.int (nI t))] [] (GG L) I = some (none, GG L, I') ∧ E 155 0 [some (.ref 119), some (.int (nI t)), none, none] [] (GG L) J = some (none, GG L, J') ∧ (∀ a, a ≠ d + 7 → I' a = I a) ∧ (∀ a, a ≠ 134 → J' a = J a) ∧ ∀ a, a < 10 → J 125 (10 * t + a) ≠ 0 → I' (d + 7) a = J' 134 a ∧ byt (J' 134 a) := by
  have hn := hR.1
  have k50 := wk_0_12 hd
  have l50 := wl_0_12 hd
  obtain ⟨J1, a1, g1, h1⟩ := S147_0 (L := L) (J := J)
  obtain ⟨I1, hI1⟩ : ∃ I1, cpI I (d + 5) (d + 7) 0 0 10 = I1 := ⟨_, rfl⟩
  have f1 : ∀ a, a ≠ d + 7 → I1 a = I a := fun a q => by rw [← hI1, cp_o _ _ _ _ _ q]
  obtain ⟨I2, J2, y0, y1, f2, g2, hV2⟩ := V_all (L := L) (n := n) (d := d) (t := t) hd hd81 ht (t - v) (v + 1) (I := I1) (J := J1) (u2 := some (.int (nI v))) (u3 := none) (by omega) (by omega) (Ry_congr hR (fun a ha => f1 a (by omega)) (by rw [g1 119 (by decide)]) (fun a q1 q2 => g1 a (by omega))) (fun a ha hT => by
    rw [g1 125 (by decide)] at hT
    obtain ⟨u1, u2, -⟩ := hVr a ha hT
    rw [← hI1, cp_s _ _ _ _ _ ha, h1 a ha]
    exact ⟨u1, u2⟩)
  refine ⟨I2, J2, ?_, ?_, fun a q => (f2 a q).trans (f1 a q), fun a q => (g2 a q).trans (g1 a q), fun a ha hT => hV2 a ha (by rw [g1 125 (by decide)]; exact hT)⟩
  · rw [B24_0 hd, hI1, f1 d (by omega), h6, B48_0 k50 l50, nI_1, y0, K2_v, B24_31]
  · rw [B155_0, a1, K2_v, B155_4, g1 120 (by decide), h3, nI_1, y1]
