theorem Ry_congr {n : Nat} {I J I' J' : It} (h : Ry n I J) (hI : ∀ a, a < 81 → I' a = I a) (h6 : J' 119 6 = J 119 6) (hJ : ∀ a, 125 ≤ a → a ≤ 133 → J' a = J a) : Ry n I' J' := by
  obtain ⟨hn, h1, h2, h3, h4⟩ := h
  refine ⟨hn, by rw [hI 9 (by decide)]; exact h1, by rw [h6]; exact h2, fun k hk => by rw [hI 11 (by decide), hI 12 (by decide), hI 13 (by decide)]; exact h3 k hk, fun v hv => ?_⟩
  have hr := h4 v hv
  unfold Rv St at hr ⊢
  rw [hI (22 + 10 * v) (by omega), hI (23 + 10 * v) (by omega), hI (24 + 10 * v) (by omega), hI (25 + 10 * v) (by omega), hI (26 + 10 * v) (by omega), hI (27 + 10 * v) (by omega), hI (28 + 10 * v) (by omega), hI (29 + 10 * v) (by omega), hI (30 + 10 * v) (by omega), hJ 125 (by decide) (by decide), hJ 126 (by decide) (by decide), hJ 127 (by decide) (by decide), hJ 128 (by decide) (by decide), hJ 129 (by decide) (by decide), hJ 130 (by decide) (by decide), hJ 131 (by decide) (by decide), hJ 132 (by decide) (by decide), hJ 133 (by decide) (by decide)]
  exact hr
/-- the layout of a version, as an object -/
theorem k_lay {L v : Nat} (hv : v < 6) : kd (GG L) (21 + 10 * v) = 1 := by
  have : v = 0 ∨ v = 1 ∨ v = 2 ∨ v = 3 ∨ v = 4 ∨ v = 5 := by omega
  rcases this with rfl | rfl | rfl | rfl | rfl | rfl <;> (rw [GG_kd L (by decide) (by decide)]; decide +kernel)
theorem S10 {L n d v : Nat} {I J : It} (hR : Ry n I J) (hd : kd (GG L) d = 0) (hv : v < n) (h : I d 6 = nI v) : E 10 0 [some (.ref d)] [] (GG L) I = some (some (.ref (21 + 10 * v)), GG L, I) := by
  have hn := hR.1
  rw [B10_0 hd, h, S46 hR hv, K2_i, B10_11 (k_lay (by omega))]
theorem S10n {L n d : Nat} {I J : It} (hR : Ry n I J) (hd : kd (GG L) d = 0) (h : I d 6 = -6) : E 10 0 [some (.ref d)] [] (GG L) I = some (some (.ref 10), GG L, I) := by
  have hn := hR.1
  rw [B10_0 hd, h, S46n hR (fun v hv e => nI_pos (show v < 2 ^ 31 by omega) (e ▸ by decide)), K2_i, B10_11 (by rw [GG_kd L (by decide) (by decide)]; decide +kernel)]
/-- the class takes the defaults of a layout -/
theorem S19 {L d o : Nat} (hd : kd (GG L) d = 0) (hd5 : kd (GG L) (d + 5) = 50) (ld5 : ln (GG L) (d + 5) = 10) (hd81 : 81 ≤ d) (ho : kd (GG L) o = 1) (ho81 : o + 3 < 81) : ∀ (m k : Nat) (I : It), m + k = 10 →
    (∀ I' : It, (∀ a, a < 81 → I' a = I a) → I' d 6 = I d 6 → E 10 0 [some (.ref d)] [] (GG L) I' = some (some (.ref o), GG L, I')) →
    ∃ I', E 19 2 [some (.ref d), some (.int (nI k))] [] (GG L) I = some (none, GG L, I') ∧ (∀ a, a ≠ d + 5 → a ≠ d + 6 → I' a = I a) ∧ (∀ j, j < 10 → I' (d + 5) j = if k ≤ j then (if I (o + 1) j = 0 then -6 else I (o + 3) j) else I (d + 5) j) ∧ (∀ j, j < 10 → I' (d + 6) j = if k ≤ j then -6 else I (d + 6) j) := by
  intro m
  induction m with
  | zero =>
    intro k I hm hp
    have hk : k = 10 := by omega
    subst hk
    refine ⟨I, ?_, fun _ _ _ => rfl, fun j hj => by rw [if_neg (by omega)], fun j hj => by rw [if_neg (by omega)]⟩
    rw [B19_2 hd, if_pos (by decide)]
  | succ m ih =>
    intro k I hm hp
    obtain ⟨x, hx⟩ : ∃ x, (if I (o + 1) k = 0 then (-6 : Int32) else I (o + 3) k) = x := ⟨_, rfl⟩
    obtain ⟨I1, hI1⟩ : ∃ I1, uI (uI I (d + 5) k x) (d + 6) k (-6) = I1 := ⟨_, rfl⟩
    have hlow : ∀ a, a ≠ d + 5 → a ≠ d + 6 → I1 a = I a := fun a h5 h6 => by rw [← hI1, uI_o _ _ _ _ _ h6, uI_o _ _ _ _ _ h5]
    obtain ⟨I', e, h1, h2, h3⟩ := ih (k + 1) I1 (by omega) (fun I' h6 h7 => hp I' (fun a ha => (h6 a ha).trans (hlow a (by omega) (by omega))) (h7.trans (by rw [hlow d (by omega) (by omega)])))
    refine ⟨I', ?_, fun a q5 q6 => (h1 a q5 q6).trans (hlow a q5 q6), fun j hj => ?_, fun j hj => ?_⟩
    · rw [B19_2 hd, if_neg (show ¬ (10 : Int32) ≤ nI k from nI_ge (a := k) (b := 10) (show k < 10 by omega) (by decide)), hp I (fun _ _ => rfl) rfl, K2_i, B19_17 hd hd5 ld5 ho, S34 ho (by omega), K2_i, B19_21 hd hd5 ld5, ck_of (inb_nI (by omega) (by decide)), ck_of (inb_nI (by omega) (by decide)), ix_nI (by omega), nI_1, hx, hI1, e]
    · rw [h2 j hj, hlow (o + 1) (by omega) (by omega), hlow (o + 3) (by omega) (by omega), ← hI1]
      by_cases q : k + 1 ≤ j
      · rw [if_pos q, if_pos (show k ≤ j by omega)]
      · rw [if_neg q, uI_a _ _ _ _ _ _ (by omega)]
        by_cases q2 : j = k
        · rw [q2, uI_s, if_pos (Nat.le_refl _), hx]
        · rw [uI_k _ _ _ _ _ q2, if_neg (by omega)]
    · rw [h3 j hj, ← hI1]
      by_cases q : k + 1 ≤ j
      · rw [if_pos q, if_pos (show k ≤ j by omega)]
      · rw [if_neg q]
        by_cases q2 : j = k
        · rw [q2, uI_s, if_pos (Nat.le_refl _)]
        · rw [uI_k _ _ _ _ _ q2, uI_a _ _ _ _ _ _ (by omega), if_neg (by omega)]
/-- the reference lays the usual values -/
theorem S142 {L v : Nat} (hv : v < 6) : ∀ (m k : Nat) (J : It), m + k = 10 → ∃ J', E 142 2 [some (.ref 119), some (.int (nI v)), some (.int (nI k))] [] (GG L) J = some (none, GG L, J') ∧ (∀ a, a ≠ 120 → J' a = J a) ∧ (∀ j, j < 10 → J' 120 (11 + j) = if k ≤ j then J 127 (10 * v + j) else J 120 (11 + j)) ∧ (∀ j, j < 10 → J' 120 (117 + j) = if k ≤ j then -6 else J 120 (117 + j)) ∧ (∀ j, j < 11 ∨ (21 ≤ j ∧ j < 117) → J' 120 j = J 120 j) := by
  intro m
  induction m with
  | zero =>
    intro k J hm
    have hk : k = 10 := by omega
    subst hk
    refine ⟨J, ?_, fun _ _ => rfl, fun j hj => by rw [if_neg (by omega)], fun j hj => by rw [if_neg (by omega)], fun _ _ => rfl⟩
    rw [B142_2, if_pos (by decide)]
  | succ m ih =>
    intro k J hm
    obtain ⟨J1, hJ1⟩ : ∃ J1, uI (uI J 120 (11 + k) (J 127 (10 * v + k))) 120 (117 + k) (-6) = J1 := ⟨_, rfl⟩
    have hlow : ∀ a, a ≠ 120 → J1 a = J a := fun a h => by rw [← hJ1, uI_o _ _ _ _ _ h, uI_o _ _ _ _ _ h]
    obtain ⟨J', e, h1, h2, h3, h4⟩ := ih (k + 1) J1 (by omega)
    refine ⟨J', ?_, fun a q => (h1 a q).trans (hlow a q), fun j hj => ?_, fun j hj => ?_, fun j hj => ?_⟩
    · rw [B142_2, if_neg (show ¬ (10 : Int32) ≤ nI k from nI_ge (a := k) (b := 10) (show k < 10 by omega) (by decide)), show 10 * nI v + nI k = nI (10 * v + k) from by rw [show (10 : Int32) = nI 10 from rfl, nI_mul, nI_add], show 11 + nI k = nI (11 + k) from nI_add 11 k, show 117 + nI k = nI (117 + k) from nI_add 117 k, ck_of (inb_nI (by omega) (by decide)), ck_of (inb_nI (by omega) (by decide)), ck_of (inb_nI (by omega) (by decide)), ix_nI (by omega), ix_nI (by omega), ix_nI (by omega), nI_1, hJ1, e]
    · rw [h2 j hj, hlow 127 (by decide), ← hJ1]
      by_cases q : k + 1 ≤ j
      · rw [if_pos q, if_pos (show k ≤ j by omega)]
      · rw [if_neg q, uI_k _ _ _ _ _ (by omega)]
        by_cases q2 : j = k
        · rw [q2, uI_s, if_pos (Nat.le_refl _)]
        · rw [uI_k _ _ _ _ _ (by omega), if_neg (by omega)]
    · rw [h3 j hj, ← hJ1]
      by_cases q : k + 1 ≤ j
      · rw [if_pos q, if_pos (show k ≤ j by omega)]
      · rw [if_neg q]
        by_cases q2 : j = k
        · rw [q2, uI_s, if_pos (Nat.le_refl _)]
        · rw [uI_k _ _ _ _ _ (by omega), uI_k _ _ _ _ _ (by omega), if_neg (by omega)]
    · rw [h4 j hj, ← hJ1, uI_k _ _ _ _ _ (by omega), uI_k _ _ _ _ _ (by omega)]
