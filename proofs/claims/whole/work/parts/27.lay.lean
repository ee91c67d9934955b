noncomputable def tI (P : Prop) : Int32 := @ite _ P (Classical.propDecidable P) 1 0
theorem tI_t {P : Prop} (h : P) : tI P = 1 := by unfold tI; exact if_pos h
theorem tI_f {P : Prop} (h : ¬ P) : tI P = 0 := by unfold tI; exact if_neg h
theorem tI_c {P : Prop} (x y : Option Rs) : (@ite _ (tI P = 0) (instDecidableEqInt32 _ _) x y) = @ite _ P (Classical.propDecidable P) y x := by
  by_cases h : P
  · rw [tI_t h, if_neg (by decide), if_pos h]
  · rw [tI_f h, if_pos rfl, if_neg h]
theorem tI_iff {P Q : Prop} (h : P ↔ Q) : tI P = tI Q := by rw [propext h]
/-- one step of the layouts: what it may do, and which settings are there behind it -/
def St (J : It) (s : Nat) (S S' : Nat → Bool) : Prop := ∃ a, a < 10 ∧ J 131 s = nI a ∧
  ((J 130 s = 0 ∧ byt (J 133 s) ∧ ∀ x, x ≠ a → S' x = true → S x = true) ∨
   (J 130 s = 1 ∧ ∀ x, S' x = true → S x = true) ∨
   (J 130 s = 2 ∧ S a = true ∧ ∃ b, b < 10 ∧ J 132 s = nI b ∧ ∀ x, x ≠ b → S' x = true → S x = true) ∨
   ((J 130 s = 3 ∨ J 130 s = 4) ∧ S a = true ∧ (∃ f, 2 ≤ f ∧ f ≤ 9 ∧ J 132 s = nI f) ∧ ∀ x, S' x = true → S x = true) ∨
   (J 130 s = 5 ∧ S a = true ∧ byt (J 132 s) ∧ ∀ x, S' x = true → S x = true))
/-- the layout of one version, and the steps to it -/
def Rv (I J : It) (v : Nat) : Prop :=
  (∀ k, k < 10 → (J 125 (10 * v + k) = 0 ∨ J 125 (10 * v + k) = 1) ∧ I (22 + 10 * v) k = J 125 (10 * v + k) ∧ I (23 + 10 * v) k = J 126 (10 * v + k) ∧ byt (J 126 (10 * v + k)) ∧ I (24 + 10 * v) k = J 127 (10 * v + k) ∧ byt (J 127 (10 * v + k)) ∧ I (25 + 10 * v) k = J 128 (10 * v + k)) ∧
  ∃ c, c ≤ 27 ∧ I (26 + 10 * v) 4 = nI c ∧ J 129 v = nI c ∧ (∀ i, i < c → I (27 + 10 * v) i = J 130 (28 * v + i) ∧ I (28 + 10 * v) i = J 131 (28 * v + i) ∧ I (29 + 10 * v) i = J 132 (28 * v + i) ∧ I (30 + 10 * v) i = J 133 (28 * v + i)) ∧
    ∃ S : Nat → Nat → Bool, (∀ a, a < 10 → (S 0 a = true ↔ 0 < v ∧ J 125 (10 * (v - 1) + a) ≠ 0)) ∧ (∀ a, a < 10 → (S c a = true ↔ J 125 (10 * v + a) ≠ 0)) ∧ ∀ i, i < c → St J (28 * v + i) (S i) (S (i + 1))
def Ry (n : Nat) (I J : It) : Prop := n ≤ 6 ∧ I 9 2 = nI n ∧ J 119 6 = nI n ∧ (∀ k, k < 10 → I 11 k = 0 ∧ I 12 k = 0 ∧ I 13 k = 0) ∧ ∀ v, v < n → Rv I J v
/-- a whole number is a place below n, or outside -/
theorem below (x : Int32) {n : Nat} (hn : n < 2 ^ 31) : (∃ v, v < n ∧ x = nI v) ∨ ((x < 0 ∨ nI n ≤ x) ∧ ∀ v, v < n → x ≠ nI v) := by
  by_cases h : x < 0
  · exact Or.inr ⟨Or.inl h, fun v hv e => nI_pos (by omega) (e ▸ h)⟩
  · obtain ⟨j, hj, e⟩ := nI_of h
    by_cases q : j < n
    · exact Or.inl ⟨j, q, e⟩
    · refine Or.inr ⟨Or.inr (e ▸ nI_le (by omega) hj), fun v hv e2 => ?_⟩
      have := (nI_eq hj (by omega)).mp (e.symm.trans e2)
      omega
theorem S45 {L n : Nat} {x : Int32} {I J : It} (h : Ry n I J) : E 45 0 [some (.ref 9), some (.int x)] [] (GG L) I = some (some (.int (tI (∃ v, v < n ∧ x = nI v))), GG L, I) := by
  obtain ⟨h1, h2, -, -, -⟩ := h
  rcases below x (n := n) (by omega) with ⟨v, hv, e⟩ | ⟨h3, h4⟩
  · rw [tI_t ⟨v, hv, e⟩, e, B45_0, if_neg (nI_pos (by omega)), h2, if_neg (nI_ge hv (by omega)), if_neg (show ¬ (6 : Int32) ≤ nI v from nI_ge (a := v) (b := 6) (show v < 6 by omega) (by decide))]
  · rw [tI_f (fun ⟨v, hv, e⟩ => h4 v hv e), B45_0, h2]
    rcases h3 with h3 | h3
    · rw [if_pos h3]
    · by_cases h5 : x < 0
      · rw [if_pos h5]
      · rw [if_neg h5, if_pos h3]
theorem S123 {L n : Nat} {x : Int32} {I J : It} (h : Ry n I J) : E 123 0 [some (.ref 119), some (.int x)] [] (GG L) J = some (some (.int (tI (∃ v, v < n ∧ x = nI v))), GG L, J) := by
  obtain ⟨h1, -, h2, -, -⟩ := h
  rcases below x (n := n) (by omega) with ⟨v, hv, e⟩ | ⟨h3, h4⟩
  · rw [tI_t ⟨v, hv, e⟩, e, B123_0, if_neg (nI_pos (by omega)), h2, if_neg (nI_ge hv (by omega))]
  · rw [tI_f (fun ⟨v, hv, e⟩ => h4 v hv e), B123_0, h2]
    rcases h3 with h3 | h3
    · rw [if_pos h3]
    · by_cases h5 : x < 0
      · rw [if_pos h5]
      · rw [if_neg h5, if_pos h3]
theorem S46 {L n v : Nat} {I J : It} (h : Ry n I J) (hv : v < n) : E 46 0 [some (.ref 9), some (.int (nI v))] [] (GG L) I = some (some (.ref (21 + 10 * v)), GG L, I) := by
  have h1 := h.1
  rw [B46_0, S45 h, K2_i, B46_5, tI_t ⟨v, hv, rfl⟩, if_neg (by decide), ck_of (inb_nI (by omega) (by decide)), ix_nI (by omega)]
theorem S46n {L n : Nat} {x : Int32} {I J : It} (h : Ry n I J) (hx : ∀ v, v < n → x ≠ nI v) : E 46 0 [some (.ref 9), some (.int x)] [] (GG L) I = some (some (.ref 10), GG L, I) := by
  rw [B46_0, S45 h, K2_i, B46_5, tI_f (fun ⟨v, hv, e⟩ => hx v hv e), if_pos rfl]
theorem S32 {L o : Nat} {x : Int32} {I : It} (ho : kd (GG L) o = 1) : E 32 0 [some (.ref o), some (.int x)] [] (GG L) I = some (some (.int (tI (∃ k, k < 10 ∧ x = nI k ∧ I (o + 1) k ≠ 0))), GG L, I) := by
  rcases below x (n := 10) (by decide) with ⟨k, hk, e⟩ | ⟨h3, h4⟩
  · rw [e, B32_0 ho, if_neg (nI_pos (by omega)), if_neg (show ¬ (10 : Int32) ≤ nI k from nI_ge (a := k) (b := 10) hk (by decide)), ck_of (inb_nI hk (by decide)), ix_nI (by omega)]
    by_cases h : I (o + 1) k = 0
    · rw [if_pos h, tI_f]
      rintro ⟨k', hk', e', h'⟩
      have := (nI_eq (by omega) (by omega)).mp e'
      exact h' (this ▸ h)
    · rw [if_neg h, tI_t ⟨k, hk, rfl, h⟩]
  · rw [tI_f (fun ⟨k, hk, e, _⟩ => h4 k hk e), B32_0 ho]
    by_cases h5 : x < 0
    · rw [if_pos h5]
    · rw [if_neg h5, if_pos (show (10 : Int32) ≤ x from h3.resolve_left h5)]
theorem S32k {L o k : Nat} {I : It} (ho : kd (GG L) o = 1) (hk : k < 10) : E 32 0 [some (.ref o), some (.int (nI k))] [] (GG L) I = some (some (.int (tI (I (o + 1) k ≠ 0))), GG L, I) := by
  rw [S32 ho, tI_iff]
  constructor
  · rintro ⟨k', hk', e', h'⟩
    have := (nI_eq (by omega) (by omega)).mp e'
    exact this ▸ h'
  · exact fun h => ⟨k, hk, rfl, h⟩
theorem S124 {L v : Nat} {x : Int32} {J : It} (hv : v < 6) : E 124 0 [some (.ref 119), some (.int (nI v)), some (.int x)] [] (GG L) J = some (some (.int (tI (∃ k, k < 10 ∧ x = nI k ∧ J 125 (10 * v + k) ≠ 0))), GG L, J) := by
  rw [B124_0, B121_0]
  rcases below x (n := 10) (by decide) with ⟨k, hk, e⟩ | ⟨h3, h4⟩
  · rw [e, if_neg (nI_pos (by omega)), if_neg (show ¬ (9 : Int32) < nI k from nI_nlt (a := 9) (b := k) (by omega) (by decide)), K2_i, B124_7, if_neg (by decide), show 10 * nI v + nI k = nI (10 * v + k) from by rw [show (10 : Int32) = nI 10 from rfl, nI_mul, nI_add], ck_of (inb_nI (by omega) (by decide)), ix_nI (by omega)]
    by_cases h : J 125 (10 * v + k) = 0
    · rw [if_pos h, tI_f]
      rintro ⟨k', hk', e', h'⟩
      have := (nI_eq (by omega) (by omega)).mp e'
      exact h' (this ▸ h)
    · rw [if_neg h, tI_t ⟨k, hk, rfl, h⟩]
  · rw [tI_f (fun ⟨k, hk, e, _⟩ => h4 k hk e)]
    by_cases h5 : x < 0
    · rw [if_pos h5, K2_i, B124_7, if_pos rfl]
    · rw [if_neg h5, if_pos, K2_i, B124_7, if_pos rfl]
      have h6 : nI 10 ≤ x := h3.resolve_left h5
      obtain ⟨j, hj, e⟩ := nI_of h5
      rw [e] at h6 ⊢
      have := (nI_leI (by decide) hj).mp h6
      exact nI_lt (a := 9) (by omega) hj
theorem S124k {L v k : Nat} {J : It} (hv : v < 6) (hk : k < 10) : E 124 0 [some (.ref 119), some (.int (nI v)), some (.int (nI k))] [] (GG L) J = some (some (.int (tI (J 125 (10 * v + k) ≠ 0))), GG L, J) := by
  rw [S124 hv, tI_iff]
  constructor
  · rintro ⟨k', hk', e', h'⟩
    have := (nI_eq (by omega) (by omega)).mp e'
    exact this ▸ h'
  · exact fun h => ⟨k, hk, rfl, h⟩
theorem S33 {L o k : Nat} {I : It} (ho : kd (GG L) o = 1) (hk : k < 10) : E 33 0 [some (.ref o), some (.int (nI k))] [] (GG L) I = some (some (.int (if I (o + 1) k = 0 then -6 else I (o + 2) k)), GG L, I) := by
  rw [B33_0 ho, S32k ho hk, K2_i, B33_5 ho, ck_of (inb_nI hk (by decide)), ix_nI (by omega)]
  by_cases h : I (o + 1) k = 0
  · rw [tI_f (fun q => q h), if_pos rfl, if_pos h]
  · rw [tI_t h, if_neg (by decide), if_neg h]
theorem S34 {L o k : Nat} {I : It} (ho : kd (GG L) o = 1) (hk : k < 10) : E 34 0 [some (.ref o), some (.int (nI k))] [] (GG L) I = some (some (.int (if I (o + 1) k = 0 then -6 else I (o + 3) k)), GG L, I) := by
  rw [B34_0 ho, S32k ho hk, K2_i, B34_5 ho, ck_of (inb_nI hk (by decide)), ix_nI (by omega)]
  by_cases h : I (o + 1) k = 0
  · rw [tI_f (fun q => q h), if_pos rfl, if_pos h]
  · rw [tI_t h, if_neg (by decide), if_neg h]
theorem S35 {L o k : Nat} {I : It} (ho : kd (GG L) o = 1) (hk : k < 10) : E 35 0 [some (.ref o), some (.int (nI k))] [] (GG L) I = some (some (.int (if I (o + 1) k = 0 then -6 else I (o + 4) k)), GG L, I) := by
  rw [B35_0 ho, S32k ho hk, K2_i, B35_5 ho, ck_of (inb_nI hk (by decide)), ix_nI (by omega)]
  by_cases h : I (o + 1) k = 0
  · rw [tI_f (fun q => q h), if_pos rfl, if_pos h]
  · rw [tI_t h, if_neg (by decide), if_neg h]
theorem S36 {L o k : Nat} {y : Int32} {I : It} (ho : kd (GG L) o = 1) (hk : k < 10) : E 36 0 [some (.ref o), some (.int (nI k)), some (.int y)] [] (GG L) I = some (some (.int (tI (I (o + 1) k ≠ 0 ∧ 0 ≤ y ∧ y ≤ I (o + 2) k))), GG L, I) := by
  rw [B36_0 ho, S32k ho hk, K2_i, B36_5 ho, ck_of (inb_nI hk (by decide)), ix_nI (by omega)]
  by_cases h : I (o + 1) k = 0
  · rw [tI_f (fun q => q h), if_pos rfl, tI_f (fun q => q.1 h)]
  · rw [tI_t h, if_neg (by decide)]
    by_cases h1 : y < 0
    · rw [if_pos h1, tI_f (fun q => absurd q.2.1 (Int32.not_le.mpr h1))]
    · rw [if_neg h1]
      by_cases h2 : I (o + 2) k < y
      · rw [if_pos h2, tI_f (fun q => absurd q.2.2 (Int32.not_le.mpr h2))]
      · rw [if_neg h2, tI_t ⟨h, Int32.not_lt.mp h1, Int32.not_lt.mp h2⟩]
theorem S36n {L o : Nat} {x y : Int32} {I : It} (ho : kd (GG L) o = 1) (hx : ∀ k, k < 10 → x ≠ nI k) : E 36 0 [some (.ref o), some (.int x), some (.int y)] [] (GG L) I = some (some (.int 0), GG L, I) := by
  rw [B36_0 ho, S32 ho, K2_i, B36_5 ho, tI_f (fun ⟨k, hk, e, _⟩ => hx k hk e), if_pos rfl]
theorem S121 {L : Nat} {x a b : Int32} {J : It} : E 121 0 [some (.int x), some (.int a), some (.int b)] [] (GG L) J = some (some (.int (tI (a ≤ x ∧ x ≤ b))), GG L, J) := by
  rw [B121_0]
  by_cases h1 : x < a
  · rw [if_pos h1, tI_f (fun q => absurd q.1 (Int32.not_le.mpr h1))]
  · rw [if_neg h1]
    by_cases h2 : b < x
    · rw [if_pos h2, tI_f (fun q => absurd q.2 (Int32.not_le.mpr h2))]
    · rw [if_neg h2, tI_t ⟨Int32.not_lt.mp h1, Int32.not_lt.mp h2⟩]
theorem S131 {L p i : Nat} {J : It} (hp : p < 2) (hi : i < 48) : E 131 0 [some (.ref 119), some (.int (nI p)), some (.int (nI i))] [] (GG L) J = some (some (.int (J 120 (21 + 48 * p + i))), GG L, J) := by
  rw [B131_0, i_cell, ck_of (inb_nI (by omega) (by decide)), ix_nI (by omega)]
