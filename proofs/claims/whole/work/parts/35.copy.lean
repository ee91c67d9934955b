theorem cp_o (I : It) (a0 a1 n a : Nat) (h : a ≠ a1) : cpI I a0 a1 0 0 n a = I a := by funext j; unfold cpI; rw [if_neg h]
theorem cp_s (I : It) (a0 a1 n j : Nat) (h : j < n) : cpI I a0 a1 0 0 n a1 j = I a0 j := by
  unfold cpI va_cpy
  rw [if_pos rfl, if_pos (by omega), Nat.zero_add, Nat.sub_zero]
theorem cp_k (I : It) (a0 a1 n j : Nat) (h : n ≤ j) : cpI I a0 a1 0 0 n a1 j = I a1 j := by
  unfold cpI va_cpy
  rw [if_pos rfl, if_neg (by omega)]
/-- the reference takes what it has filled a page with -/
theorem S148 {L : Nat} {u1 u2 u3 u4 : Option Value} (hu4 : isJ (some u4) = false) : ∀ (m k : Nat) (J : It), m + k = 10 → ∃ J', E 148 165 [some (.ref 119), u1, u2, u3, u4, some (.int (nI k))] [] (GG L) J = some (none, GG L, J') ∧ (∀ a, a ≠ 120 → J' a = J a) ∧ (∀ j, j < 10 → J' 120 (11 + j) = if k ≤ j then J 134 j else J 120 (11 + j)) ∧ (∀ j, j < 10 → J' 120 (117 + j) = if k ≤ j then J 135 j else J 120 (117 + j)) ∧ (∀ j, j < 11 ∨ (21 ≤ j ∧ j < 117) → J' 120 j = J 120 j) := by
  intro m
  induction m with
  | zero =>
    intro k J hm
    have hk : k = 10 := by omega
    subst hk
    refine ⟨J, ?_, fun _ _ => rfl, fun j hj => by rw [if_neg (by omega)], fun j hj => by rw [if_neg (by omega)], fun _ _ => rfl⟩
    rw [B148_165 hu4, if_pos (by decide)]
  | succ m ih =>
    intro k J hm
    obtain ⟨J1, hJ1⟩ : ∃ J1, uI (uI J 120 (11 + k) (J 134 k)) 120 (117 + k) (J 135 k) = J1 := ⟨_, rfl⟩
    have hlow : ∀ a, a ≠ 120 → J1 a = J a := fun a h => by rw [← hJ1, uI_o _ _ _ _ _ h, uI_o _ _ _ _ _ h]
    obtain ⟨J', e, h1, h2, h3, h4⟩ := ih (k + 1) J1 (by omega)
    refine ⟨J', ?_, fun a q => (h1 a q).trans (hlow a q), fun j hj => ?_, fun j hj => ?_, fun j hj => ?_⟩
    · rw [B148_165 hu4, if_neg (show ¬ (10 : Int32) ≤ nI k from nI_ge (a := k) (b := 10) (show k < 10 by omega) (by decide)), show 11 + nI k = nI (11 + k) from nI_add 11 k, show 117 + nI k = nI (117 + k) from nI_add 117 k, ck_of (inb_nI (by omega) (by decide)), ck_of (inb_nI (by omega) (by decide)), ck_of (inb_nI (by omega) (by decide)), ck_of (inb_nI (by omega) (by decide)), ix_nI (by omega), ix_nI (by omega), ix_nI (by omega), nI_1, uI_a _ _ _ _ _ _ (by decide), hJ1, e]
    · rw [h2 j hj, hlow 134 (by decide), ← hJ1]
      by_cases q : k + 1 ≤ j
      · rw [if_pos q, if_pos (show k ≤ j by omega)]
      · rw [if_neg q, uI_k _ _ _ _ _ (by omega)]
        by_cases q2 : j = k
        · rw [q2, uI_s, if_pos (Nat.le_refl _)]
        · rw [uI_k _ _ _ _ _ (by omega), if_neg (by omega)]
    · rw [h3 j hj, hlow 135 (by decide), ← hJ1]
      by_cases q : k + 1 ≤ j
      · rw [if_pos q, if_pos (show k ≤ j by omega)]
      · rw [if_neg q]
        by_cases q2 : j = k
        · rw [q2, uI_s, if_pos (Nat.le_refl _)]
        · rw [uI_k _ _ _ _ _ (by omega), uI_k _ _ _ _ _ (by omega), if_neg (by omega)]
    · rw [h4 j hj, ← hJ1, uI_k _ _ _ _ _ (by omega), uI_k _ _ _ _ _ (by omega)]
