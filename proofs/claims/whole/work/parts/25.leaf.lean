/-! ===== what the class and the reference do: the relation, and the small methods ===== -/
theorem nI_mul (a b : Nat) : nI a * nI b = nI (a * b) := (Int32.ofNat_mul a b).symm
/-- where a cell lies in the reference's row -/
theorem i_cell (p i : Nat) : (21 + 48 * nI p) + nI i = nI (21 + 48 * p + i) := by
  rw [show (21 : Int32) = nI 21 from rfl, show (48 : Int32) = nI 48 from rfl, nI_mul, nI_add, nI_add]
theorem i_7 (p : Nat) : 7 + nI p = nI (7 + p) := nI_add 7 p
theorem i_9 (p : Nat) : 9 + nI p = nI (9 + p) := nI_add 9 p
theorem le_of {a b : Nat} (h : a ≤ b) (hb : b < 2 ^ 31) : nI a ≤ nI b := nI_le h hb
def cel (x : Int32) : Prop := x = -6 ∨ ∃ c, c < 256 ∧ x = nI c
def byt (x : Int32) : Prop := ∃ c, c < 256 ∧ x = nI c
theorem byt_cel {x : Int32} (h : byt x) : cel x := Or.inr h
theorem cel_m6 : cel (-6) := Or.inl rfl
/-- the cells and the power of a device d as they stand in a row D of the reference -/
def Rc (I : It) (d : Nat) (D : Nat → Int32) : Prop :=
  I d 3 = D 0 ∧ (D 0 = 0 ∨ D 0 = 1) ∧ I d 4 = D 1 ∧ (D 0 = 0 → D 1 = -6) ∧ (D 1 = -6 ∨ ∃ w, w ≤ 200 ∧ D 1 = nI w) ∧
  ∀ p, p < 2 → I (d + 1 + 2 * p) 1 = D (7 + p) ∧ I (d + 1 + 2 * p) 2 = D (9 + p) ∧ ∀ k, k < 48 → I (d + 2 + 2 * p) k = D (21 + 48 * p + k) ∧ cel (D (21 + 48 * p + k))
def FI (d : Nat) (I I' : It) : Prop := (∀ a, a < d ∨ d + 4 < a → I' a = I a) ∧ ∀ j, j ≠ 3 → j ≠ 4 → I' d j = I d j
def FJ (J J' : It) : Prop := (∀ a, a ≠ 119 → a ≠ 120 → J' a = J a) ∧ (∀ j, j ≠ 16 → J' 119 j = J 119 j) ∧ ∀ j, (2 ≤ j ∧ j < 7) ∨ (11 ≤ j ∧ j < 21) ∨ 117 ≤ j → J' 120 j = J 120 j
theorem FI_rfl (d : Nat) (I : It) : FI d I I := ⟨fun _ _ => rfl, fun _ _ _ => rfl⟩
theorem FJ_rfl (J : It) : FJ J J := ⟨fun _ _ _ => rfl, fun _ _ => rfl, fun _ _ => rfl⟩
theorem FI_tr {d : Nat} {I1 I2 I3 : It} (h : FI d I1 I2) (h' : FI d I2 I3) : FI d I1 I3 := ⟨fun a ha => (h'.1 a ha).trans (h.1 a ha), fun j h3 h4 => (h'.2 j h3 h4).trans (h.2 j h3 h4)⟩
theorem FJ_tr {J1 J2 J3 : It} (h : FJ J1 J2) (h' : FJ J2 J3) : FJ J1 J3 := ⟨fun a h1 h2 => (h'.1 a h1 h2).trans (h.1 a h1 h2), fun j hj => (h'.2.1 j hj).trans (h.2.1 j hj), fun j hj => (h'.2.2 j hj).trans (h.2.2 j hj)⟩
theorem S71 {L o k : Nat} {I : It} (ho : kd (GG L) o = 4) (hk : k < 48) : E 71 0 [some (.ref o), some (.int (nI k))] [] (GG L) I = some (some (.int (I (o + 1) k)), GG L, I) := by
  rw [B71_0 ho, if_neg (nI_pos (by omega)), if_neg (show ¬ (48 : Int32) ≤ nI k from nI_ge hk (by decide)), ck_of (inb_nI hk (by decide)), ix_nI (by omega)]
theorem S72 {L o k : Nat} {x : Int32} {I : It} (ho : kd (GG L) o = 4) (hk : k < 48) : E 72 0 [some (.ref o), some (.int (nI k)), some (.int x)] [] (GG L) I = some (none, GG L, uI I (o + 1) k x) := by
  rw [B72_0 ho, if_neg (nI_pos (by omega)), if_neg (show ¬ (48 : Int32) ≤ nI k from nI_ge hk (by decide)), ck_of (inb_nI hk (by decide)), ix_nI (by omega)]
theorem uI_s (I : It) (o k : Nat) (x : Int32) : uI I o k x o k = x := by unfold uI; rw [if_pos rfl, if_pos rfl]
theorem uI_k (I : It) (o k : Nat) (x : Int32) (j : Nat) (h : j ≠ k) : uI I o k x o j = I o j := by unfold uI; rw [if_pos rfl, if_neg h]
theorem uI_a (I : It) (o k : Nat) (x : Int32) (a j : Nat) (h : a ≠ o) : uI I o k x a j = I a j := by unfold uI; rw [if_neg h]
/-- a cell written, on both sides -/
theorem W_cell {L d p i : Nat} {x : Int32} {I J : It} (hd : kd (GG L) d = 0) (hd0 : kd (GG L) (d + 1 + 2 * p) = 4) (hp : p < 2) (hi : i < 48) (hx : cel x) (h : Rc I d (J 120)) :
    ∃ I' J' r, E 30 0 [some (.ref d), some (.ref (d + 1 + 2 * p)), some (.int (nI i)), some (.int x)] [] (GG L) I = some (some (.int r), GG L, I') ∧ E 132 0 [some (.ref 119), some (.int (nI p)), some (.int (nI i)), some (.int x)] [] (GG L) J = some (none, GG L, J') ∧ Rc I' d (J' 120) ∧ FI d I I' ∧ FJ J J' ∧ J' 119 16 = J 119 16 + r := by
  obtain ⟨c1, c2, c3, c4, c5, c6⟩ := h
  by_cases h1 : J 120 1 = 0
  · -- the power fails here
    have hpw : J 120 0 = 1 := by
      rcases c2 with c2 | c2
      · exact absurd (h1 ▸ c4 c2) (by decide)
      · exact c2
    refine ⟨uI (uI I d 3 0) d 4 (-6), uI (uI J 120 0 0) 120 1 (-6), 0, ?_, ?_, ⟨?_, ?_, ?_, ?_, ?_, ?_⟩, ⟨?_, ?_⟩, ⟨?_, ?_, ?_⟩, ?_⟩
    · rw [B30_0 hd hd0, if_pos (c3.trans h1), B30_18 hd hd0, if_pos]
      rw [uI_k _ _ _ _ _ (by decide), uI_s]
    · rw [B132_0, if_pos hpw, if_pos h1, B132_34, if_neg]
      rw [uI_k _ _ _ _ _ (by decide), uI_s]; decide
    · rw [uI_k _ _ _ _ _ (by decide), uI_s, uI_k _ _ _ _ _ (by decide), uI_s]
    · rw [uI_k _ _ _ _ _ (by decide), uI_s]; exact Or.inl rfl
    · rw [uI_s, uI_s]
    · intro _; exact uI_s _ _ _ _
    · rw [uI_s]; exact Or.inl rfl
    · intro q hq
      obtain ⟨e1, e2, e3⟩ := c6 q hq
      have w : ∀ j, 2 ≤ j → uI (uI J 120 0 0) 120 1 (-6) 120 j = J 120 j := fun j hj => by rw [uI_k _ _ _ _ _ (by omega), uI_k _ _ _ _ _ (by omega)]
      have v : ∀ a j, a ≠ d → uI (uI I d 3 0) d 4 (-6) a j = I a j := fun a j ha => by rw [uI_a _ _ _ _ _ _ ha, uI_a _ _ _ _ _ _ ha]
      rw [v _ _ (by omega), v _ _ (by omega), w _ (by omega), w _ (by omega)]
      refine ⟨e1, e2, fun k hk => ?_⟩
      rw [v _ _ (by omega), w _ (by omega)]
      exact e3 k hk
    · intro a ha; rw [uI_o _ _ _ _ _ (by omega), uI_o _ _ _ _ _ (by omega)]
    · intro j h3 h4; rw [uI_k _ _ _ _ _ h4, uI_k _ _ _ _ _ h3]
    · intro a _ ha; rw [uI_o _ _ _ _ _ ha, uI_o _ _ _ _ _ ha]
    · intro j _; rw [uI_a _ _ _ _ _ _ (by decide), uI_a _ _ _ _ _ _ (by decide)]
    · intro j hj; rw [uI_k _ _ _ _ _ (by omega), uI_k _ _ _ _ _ (by omega)]
    · rw [uI_a _ _ _ _ _ _ (by decide), uI_a _ _ _ _ _ _ (by decide)]; exact (Int32.add_zero _).symm
  · by_cases h0 : J 120 0 = 1
    · -- written
      obtain ⟨s, hs⟩ : ∃ s, (if J 120 1 ≤ 0 then J 120 1 else J 120 1 - 1) = s := ⟨_, rfl⟩
      have hsok : s = -6 ∨ ∃ w, w ≤ 200 ∧ s = nI w := by
        rw [← hs]
        rcases c5 with c5 | ⟨w, hw, c5⟩
        · rw [c5]; exact Or.inl (by decide)
        · rw [c5]
          match w, hw, c5 with
          | 0, _, c5 => exact absurd c5 h1
          | w + 1, hw, c5 =>
            rw [if_neg (nI_nle (by omega) (by omega)), nI_pred]
            exact Or.inr ⟨w, by omega, rfl⟩
      obtain ⟨e1, e2, e3⟩ := c6 p hp
      have hI4 : (if I d 4 ≤ 0 then I else uI I d 4 (I d 4 - 1)) = uI I d 4 s := by
        rw [← hs, c3]
        split
        · funext a j
          unfold uI
          split
          · split
            · rename_i z1 z2; rw [z1, z2, c3]
            · rfl
          · rfl
        · rfl
      refine ⟨uI (uI (uI I d 4 s) (d + 2 + 2 * p) i x) (d + 1 + 2 * p) 1 (I (d + 1 + 2 * p) 1 + 1), uI (uI (uI (uI J 120 1 s) 120 (21 + 48 * p + i) x) 120 (7 + p) (J 120 (7 + p) + 1)) 119 16 (J 119 16 + 1), 1, ?_, ?_, ⟨?_, ?_, ?_, ?_, ?_, ?_⟩, ⟨?_, ?_⟩, ⟨?_, ?_, ?_⟩, ?_⟩
      · rw [B30_0 hd hd0, if_neg (by rw [c3]; exact h1), B30_18 hd hd0, if_neg (by rw [c1, h0]; decide)]
        have key : ∀ I0, K2 30 50 [some (.ref d), some (.ref (d + 1 + 2 * p)), some (.int (nI i)), some (.int x)] [] (E 72 0 [some (.ref (d + 1 + 2 * p)), some (.int (nI i)), some (.int x)] [] (GG L) I0) = some (some (.int 1), GG L, uI (uI I0 (d + 2 + 2 * p) i x) (d + 1 + 2 * p) 1 (uI I0 (d + 2 + 2 * p) i x (d + 1 + 2 * p) 1 + 1)) := by
          intro I0
          rw [S72 hd0 hi, K2_v, B30_50 hd0, B73_0 hd0, K2_v, B30_54, show d + 1 + 2 * p + 1 = d + 2 + 2 * p by omega]
        rw [key, key]
        have e : ∀ I0 : It, I0 (d + 1 + 2 * p) = I (d + 1 + 2 * p) → uI I0 (d + 2 + 2 * p) i x (d + 1 + 2 * p) 1 = I (d + 1 + 2 * p) 1 := fun I0 h => by rw [uI_a _ _ _ _ _ _ (by omega), h]
        rw [e I rfl, e (uI I d 4 (I d 4 - 1)) (uI_o _ _ _ _ _ (by omega)), ← hI4]
        split <;> rfl
      · rw [B132_0, if_pos h0, if_neg h1, B132_34, if_pos h0]
        have key : ∀ t, E 132 65 [some (.ref 119), some (.int (nI p)), some (.int (nI i)), some (.int x)] [.int t, .int (J 120 1), .int 1, .ref 120] (GG L) J = some (none, GG L, uI (uI (uI (uI J 120 1 (J 120 1 - t)) 120 (21 + 48 * p + i) x) 120 (7 + p) (J 120 (7 + p) + 1)) 119 16 (J 119 16 + 1)) := by
          intro t
          rw [B132_65 (wk_7_0 k_119) (wl_7_0 k_119), ck_of (by decide), i_cell, ck_of (inb_nI (by omega) (by decide)), i_7, ck_of (inb_nI (by omega) (by decide)), ck_of (inb_nI (by omega) (by decide)), ix_nI (by omega), ix_nI (by omega), show ix 1 = 1 from x_1, uI_a _ 120 (7 + p) _ 119 16 (by decide), uI_a _ 120 (21 + 48 * p + i) _ 119 16 (by decide), uI_a _ 120 1 _ 119 16 (by decide), uI_k _ 120 (21 + 48 * p + i) _ (7 + p) (by omega), uI_k _ 120 1 _ (7 + p) (by omega)]
        rw [key, key, ← hs]
        split
        · rw [Int32.sub_zero]
        · rfl
      · rw [uI_a _ _ _ _ _ _ (by omega), uI_a _ _ _ _ _ _ (by omega), uI_k _ _ _ _ _ (by decide), c1, uI_a _ _ _ _ _ _ (by decide), uI_k _ _ _ _ _ (by omega), uI_k _ _ _ _ _ (by omega), uI_k _ _ _ _ _ (by omega)]
      · rw [uI_a _ _ _ _ _ _ (by decide), uI_k _ _ _ _ _ (by omega), uI_k _ _ _ _ _ (by omega), uI_k _ _ _ _ _ (by omega)]; exact c2
      · rw [uI_a _ _ _ _ _ _ (by omega), uI_a _ _ _ _ _ _ (by omega), uI_s, uI_a _ _ _ _ _ _ (by decide), uI_k _ _ _ _ _ (by omega), uI_k _ _ _ _ _ (by omega), uI_s]
      · rw [uI_a _ _ _ _ _ _ (by decide), uI_k _ _ _ _ _ (by omega), uI_k _ _ _ _ _ (by omega), uI_k _ _ _ _ _ (by omega), h0]
        intro h; exact absurd h (by decide)
      · rw [uI_a _ _ _ _ _ _ (by decide), uI_k _ _ _ _ _ (by omega), uI_k _ _ _ _ _ (by omega), uI_s]; exact hsok
      · intro q hq
        obtain ⟨g1, g2, g3⟩ := c6 q hq
        have a1 : ∀ j, uI (uI (uI (uI J 120 1 s) 120 (21 + 48 * p + i) x) 120 (7 + p) (J 120 (7 + p) + 1)) 119 16 (J 119 16 + 1) 120 j = uI (uI (uI J 120 1 s) 120 (21 + 48 * p + i) x) 120 (7 + p) (J 120 (7 + p) + 1) 120 j := fun j => uI_a _ _ _ _ _ _ (by decide)
        simp only [a1]
        refine ⟨?_, ?_, fun k hk => ?_⟩
        · by_cases hqp : q = p
          · rw [hqp, uI_s, uI_s, e1]
          · rw [uI_a _ _ _ _ _ _ (by omega), uI_a _ _ _ _ _ _ (by omega), uI_a _ _ _ _ _ _ (by omega), uI_k _ _ _ _ _ (by omega), uI_k _ _ _ _ _ (by omega), uI_k _ _ _ _ _ (by omega)]; exact g1
        · have : uI (uI (uI I d 4 s) (d + 2 + 2 * p) i x) (d + 1 + 2 * p) 1 (I (d + 1 + 2 * p) 1 + 1) (d + 1 + 2 * q) 2 = I (d + 1 + 2 * q) 2 := by
            by_cases hqp : q = p
            · rw [hqp, uI_k _ _ _ _ _ (by decide), uI_a _ _ _ _ _ _ (by omega), uI_a _ _ _ _ _ _ (by omega)]
            · rw [uI_a _ _ _ _ _ _ (by omega), uI_a _ _ _ _ _ _ (by omega), uI_a _ _ _ _ _ _ (by omega)]
          rw [this, uI_k _ _ _ _ _ (by omega), uI_k _ _ _ _ _ (by omega), uI_k _ _ _ _ _ (by omega)]; exact g2
        · rw [uI_a _ _ _ _ _ _ (by omega), uI_k _ _ _ _ (21 + 48 * q + k) (by omega)]
          by_cases hqp : q = p
          · subst hqp
            by_cases hki : k = i
            · subst hki; rw [uI_s, uI_s]; exact ⟨rfl, hx⟩
            · rw [uI_k _ _ _ _ _ hki, uI_a _ _ _ _ _ _ (by omega), uI_k _ _ _ _ _ (by omega), uI_k _ _ _ _ _ (by omega)]; exact g3 k hk
          · rw [uI_a _ _ _ _ _ _ (by omega), uI_a _ _ _ _ _ _ (by omega), uI_k _ _ _ _ _ (by omega), uI_k _ _ _ _ _ (by omega)]; exact g3 k hk
      · intro a ha; rw [uI_o _ _ _ _ _ (by omega), uI_o _ _ _ _ _ (by omega), uI_o _ _ _ _ _ (by omega)]
      · intro j h3 h4; rw [uI_a _ _ _ _ _ _ (by omega), uI_a _ _ _ _ _ _ (by omega), uI_k _ _ _ _ _ h4]
      · intro a h119 h120; rw [uI_o _ _ _ _ _ h119, uI_o _ _ _ _ _ h120, uI_o _ _ _ _ _ h120, uI_o _ _ _ _ _ h120]
      · intro j hj; rw [uI_k _ _ _ _ _ hj, uI_a _ _ _ _ _ _ (by decide), uI_a _ _ _ _ _ _ (by decide), uI_a _ _ _ _ _ _ (by decide)]
      · intro j hj; rw [uI_a _ _ _ _ _ _ (by decide), uI_k _ _ _ _ _ (by omega), uI_k _ _ _ _ _ (by omega), uI_k _ _ _ _ _ (by omega)]
      · exact uI_s _ _ _ _
    · -- no power
      have hz : J 120 0 = 0 := by rcases c2 with c2 | c2; exact c2; exact absurd c2 h0
      refine ⟨I, J, 0, ?_, ?_, ⟨c1, c2, c3, c4, c5, c6⟩, FI_rfl _ _, FJ_rfl _, (Int32.add_zero _).symm⟩
      · rw [B30_0 hd hd0, if_neg (by rw [c3]; exact h1), B30_18 hd hd0, if_pos (c1.trans hz)]
      · rw [B132_0, if_neg h0, B132_34, if_neg h0]
