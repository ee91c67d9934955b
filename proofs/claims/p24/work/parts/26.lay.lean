/-! ===== p24: layouts, heads and records ===== -/
noncomputable def tI (P : Prop) : Int32 := @ite _ P (Classical.propDecidable P) 1 0
theorem tI_t {P : Prop} (h : P) : tI P = 1 := by unfold tI; exact if_pos h
theorem tI_f {P : Prop} (h : ¬ P) : tI P = 0 := by unfold tI; exact if_neg h
theorem tI_iff {P Q : Prop} (h : P ↔ Q) : tI P = tI Q := by rw [propext h]
/-- what the two steps to a version make of a number of a setting -/
def mg1 (Z : Nat → Nat → Nat) (w k x : Nat) : Nat := if k = Z w 1 then (if Z w 0 = 3 then min (x * Z w 2) 255 else x / Z w 2) else x
def mg2 (Z : Nat → Nat → Nat) (w k y : Nat) : Nat := if k = Z w 3 then min y (Z w 4) else y
def mg (Z : Nat → Nat → Nat) (w k x : Nat) : Nat := mg2 Z w k (mg1 Z w k x)
theorem mg_mono {Z : Nat → Nat → Nat} {w k x y : Nat} (h : x ≤ y) : mg Z w k x ≤ mg Z w k y := by
  have h1 : mg1 Z w k x ≤ mg1 Z w k y := by
    unfold mg1
    split
    · split
      · have := Nat.mul_le_mul_right (Z w 2) h
        omega
      · exact Nat.div_le_div_right h
    · exact h
  unfold mg mg2
  split
  · omega
  · exact h1
/-- a layout: names 0 to 2, greatest values g, defaults e, the steps Z -/
def Lv (g e Z : Nat → Nat → Nat) (I : It) (v : Nat) : Prop :=
  (∀ k, k < 10 → I (22 + 10 * v) k = (if k < 3 then 1 else 0)) ∧
  (∀ k, k < 3 → I (23 + 10 * v) k = nI (g v k) ∧ I (24 + 10 * v) k = nI (e v k) ∧ g v k < 256 ∧ e v k ≤ g v k) ∧
  (0 < v → (∀ k, k < 3 → I (25 + 10 * v) k = nI k) ∧ I (26 + 10 * v) 4 = nI 2 ∧ I (27 + 10 * v) 0 = nI (Z v 0) ∧ I (28 + 10 * v) 0 = nI (Z v 1) ∧ I (29 + 10 * v) 0 = nI (Z v 2) ∧ I (27 + 10 * v) 1 = nI 5 ∧ I (28 + 10 * v) 1 = nI (Z v 3) ∧ I (29 + 10 * v) 1 = nI (Z v 4) ∧ (Z v 0 = 3 ∨ Z v 0 = 4) ∧ Z v 1 < 3 ∧ 2 ≤ Z v 2 ∧ Z v 2 ≤ 9 ∧ Z v 3 < 3 ∧ Z v 4 < 256 ∧ ∀ k, k < 3 → g v k = mg Z v k (g (v - 1) k) ∧ e v k = mg Z v k (e (v - 1) k))
def Ly (n : Nat) (g e Z : Nat → Nat → Nat) (I : It) : Prop := n ≤ 6 ∧ I 9 2 = nI n ∧ (∀ k, k < 10 → I 11 k = 0) ∧ ∀ v, v < n → v < 3 → Lv g e Z I v
theorem Ly_congr {n : Nat} {g e Z : Nat → Nat → Nat} {I I' : It} (h : Ly n g e Z I) (hI : ∀ a, 9 ≤ a → a < 81 → I' a = I a) : Ly n g e Z I' := by
  obtain ⟨hn, h1, h2, h3⟩ := h
  refine ⟨hn, by rw [hI 9 (by decide) (by decide)]; exact h1, fun k hk => by rw [hI 11 (by decide) (by decide)]; exact h2 k hk, fun v hv hv3 => ?_⟩
  have hr := h3 v hv hv3
  unfold Lv at hr ⊢
  rw [hI (22 + 10 * v) (by omega) (by omega), hI (23 + 10 * v) (by omega) (by omega), hI (24 + 10 * v) (by omega) (by omega), hI (25 + 10 * v) (by omega) (by omega), hI (26 + 10 * v) (by omega) (by omega), hI (27 + 10 * v) (by omega) (by omega), hI (28 + 10 * v) (by omega) (by omega), hI (29 + 10 * v) (by omega) (by omega)]
  exact hr
theorem below (x : Int32) {n : Nat} (hn : n < 2 ^ 31) : (∃ v, v < n ∧ x = nI v) ∨ ((x < 0 ∨ nI n ≤ x) ∧ ∀ v, v < n → x ≠ nI v) := by
  by_cases h : x < 0
  · exact Or.inr ⟨Or.inl h, fun v hv e => nI_pos (by omega) (e ▸ h)⟩
  · obtain ⟨j, hj, e⟩ := nI_of h
    by_cases q : j < n
    · exact Or.inl ⟨j, q, e⟩
    · refine Or.inr ⟨Or.inr (e ▸ nI_le (by omega) hj), fun v hv e2 => ?_⟩
      have := (nI_eq hj (by omega)).mp (e.symm.trans e2)
      omega
theorem S45 {L : Nat × Nat} {n : Nat} {g e Z : Nat → Nat → Nat} {x : Int32} {I : It} (h : Ly n g e Z I) : E 45 0 [some (.ref 9), some (.int x)] [] (GG L) I = some (some (.int (tI (∃ v, v < n ∧ x = nI v))), GG L, I) := by
  obtain ⟨h1, h2, -, -⟩ := h
  rcases below x (n := n) (by omega) with ⟨v, hv, e⟩ | ⟨h3, h4⟩
  · rw [tI_t ⟨v, hv, e⟩, e, B45_0, if_neg (nI_pos (by omega)), h2, if_neg (nI_ge hv (by omega)), if_neg (show ¬ (6 : Int32) ≤ nI v from nI_ge (a := v) (b := 6) (show v < 6 by omega) (by decide))]
  · rw [tI_f (fun ⟨v, hv, e⟩ => h4 v hv e), B45_0, h2]
    rcases h3 with h3 | h3
    · rw [if_pos h3]
    · by_cases h5 : x < 0
      · rw [if_pos h5]
      · rw [if_neg h5, if_pos h3]
theorem S46 {L : Nat × Nat} {n v : Nat} {g e Z : Nat → Nat → Nat} {I : It} (h : Ly n g e Z I) (hv : v < n) : E 46 0 [some (.ref 9), some (.int (nI v))] [] (GG L) I = some (some (.ref (21 + 10 * v)), GG L, I) := by
  have h1 := h.1
  rw [B46_0, S45 h, K2_i, B46_5, tI_t ⟨v, hv, rfl⟩, if_neg (by decide), ck_of (inb_nI (by omega) (by decide)), ix_nI (by omega)]
theorem S46n {L : Nat × Nat} {n : Nat} {g e Z : Nat → Nat → Nat} {x : Int32} {I : It} (h : Ly n g e Z I) (hx : ∀ v, v < n → x ≠ nI v) : E 46 0 [some (.ref 9), some (.int x)] [] (GG L) I = some (some (.ref 10), GG L, I) := by
  rw [B46_0, S45 h, K2_i, B46_5, tI_f (fun ⟨v, hv, e⟩ => hx v hv e), if_pos rfl]
theorem S32 {L : Nat × Nat} {o : Nat} {x : Int32} {I : It} (ho : kd (GG L) o = 1) : E 32 0 [some (.ref o), some (.int x)] [] (GG L) I = some (some (.int (tI (∃ k, k < 10 ∧ x = nI k ∧ I (o + 1) k ≠ 0))), GG L, I) := by
  rcases below x (n := 10) (by decide) with ⟨k, hk, e⟩ | ⟨h3, h4⟩
  · rw [e, B32_0 ho, if_neg (nI_pos (by omega)), if_neg (show ¬ (10 : Int32) ≤ nI k from nI_ge (a := k) (b := 10) hk (by decide)), ck_of (inb_nI hk (by decide)), ix_nI (by omega)]
    by_cases h : I (o + 1) k = 0
    · rw [if_pos h, tI_f]
      rintro ⟨k', hk', e', h'⟩
      have := (nI_eq (by omega) (by omega)).mp e'
      exact h' (this ▸ h)
    · rw [if_neg h, tI_t ⟨k, hk, rfl, h⟩]
  · rw [tI_f (fun ⟨k, hk, e, _⟩ => h4 k hk e), B32_0 ho]
    by_cases h5 : x < 0
    · rw [if_pos h5]
    · rw [if_neg h5, if_pos (show (10 : Int32) ≤ x from h3.resolve_left h5)]
theorem S32k {L : Nat × Nat} {o k : Nat} {I : It} (ho : kd (GG L) o = 1) (hk : k < 10) : E 32 0 [some (.ref o), some (.int (nI k))] [] (GG L) I = some (some (.int (tI (I (o + 1) k ≠ 0))), GG L, I) := by
  rw [S32 ho, tI_iff]
  constructor
  · rintro ⟨k', hk', e', h'⟩
    have := (nI_eq (by omega) (by omega)).mp e'
    exact this ▸ h'
  · exact fun h => ⟨k, hk, rfl, h⟩
theorem S33 {L : Nat × Nat} {o k : Nat} {I : It} (ho : kd (GG L) o = 1) (hk : k < 10) : E 33 0 [some (.ref o), some (.int (nI k))] [] (GG L) I = some (some (.int (if I (o + 1) k = 0 then -6 else I (o + 2) k)), GG L, I) := by
  rw [B33_0 ho, S32k ho hk, K2_i, B33_5 ho, ck_of (inb_nI hk (by decide)), ix_nI (by omega)]
  by_cases h : I (o + 1) k = 0
  · rw [tI_f (fun q => q h), if_pos rfl, if_pos h]
  · rw [tI_t h, if_neg (by decide), if_neg h]
theorem S34 {L : Nat × Nat} {o k : Nat} {I : It} (ho : kd (GG L) o = 1) (hk : k < 10) : E 34 0 [some (.ref o), some (.int (nI k))] [] (GG L) I = some (some (.int (if I (o + 1) k = 0 then -6 else I (o + 3) k)), GG L, I) := by
  rw [B34_0 ho, S32k ho hk, K2_i, B34_5 ho, ck_of (inb_nI hk (by decide)), ix_nI (by omega)]
  by_cases h : I (o + 1) k = 0
  · rw [tI_f (fun q => q h), if_pos rfl, if_pos h]
  · rw [tI_t h, if_neg (by decide), if_neg h]
theorem S35 {L : Nat × Nat} {o k : Nat} {I : It} (ho : kd (GG L) o = 1) (hk : k < 10) : E 35 0 [some (.ref o), some (.int (nI k))] [] (GG L) I = some (some (.int (if I (o + 1) k = 0 then -6 else I (o + 4) k)), GG L, I) := by
  rw [B35_0 ho, S32k ho hk, K2_i, B35_5 ho, ck_of (inb_nI hk (by decide)), ix_nI (by omega)]
  by_cases h : I (o + 1) k = 0
  · rw [tI_f (fun q => q h), if_pos rfl, if_pos h]
  · rw [tI_t h, if_neg (by decide), if_neg h]
theorem S36 {L : Nat × Nat} {o k : Nat} {y : Int32} {I : It} (ho : kd (GG L) o = 1) (hk : k < 10) : E 36 0 [some (.ref o), some (.int (nI k)), some (.int y)] [] (GG L) I = some (some (.int (tI (I (o + 1) k ≠ 0 ∧ 0 ≤ y ∧ y ≤ I (o + 2) k))), GG L, I) := by
  rw [B36_0 ho, S32k ho hk, K2_i, B36_5 ho, ck_of (inb_nI hk (by decide)), ix_nI (by omega)]
  by_cases h : I (o + 1) k = 0
  · rw [tI_f (fun q => q h), if_pos rfl, tI_f (fun q => q.1 h)]
  · rw [tI_t h, if_neg (by decide)]
    by_cases h1 : y < 0
    · rw [if_pos h1, tI_f (fun q => absurd q.2.1 (Int32.not_le.mpr h1))]
    · rw [if_neg h1]
      by_cases h2 : I (o + 2) k < y
      · rw [if_pos h2, tI_f (fun q => absurd q.2.2 (Int32.not_le.mpr h2))]
      · rw [if_neg h2, tI_t ⟨h, Int32.not_lt.mp h1, Int32.not_lt.mp h2⟩]
theorem S36n {L : Nat × Nat} {o : Nat} {x y : Int32} {I : It} (ho : kd (GG L) o = 1) (hx : ∀ k, k < 10 → x ≠ nI k) : E 36 0 [some (.ref o), some (.int x), some (.int y)] [] (GG L) I = some (some (.int 0), GG L, I) := by
  rw [B36_0 ho, S32 ho, K2_i, B36_5 ho, tI_f (fun ⟨k, hk, e, _⟩ => hx k hk e), if_pos rfl]
/-- the layout of a version, as an object -/
theorem k_lay {L : Nat × Nat} {v : Nat} (hv : v < 6) : kd (GG L) (21 + 10 * v) = 1 := by
  have : v = 0 ∨ v = 1 ∨ v = 2 ∨ v = 3 ∨ v = 4 ∨ v = 5 := by omega
  rcases this with rfl | rfl | rfl | rfl | rfl | rfl <;> (rw [GG_kd L (by decide) (by decide)]; decide +kernel)
theorem k_emp {L : Nat × Nat} : kd (GG L) 10 = 1 := by rw [GG_kd L (by decide) (by decide)]; decide +kernel
theorem k_pg {L : Nat × Nat} {d p : Nat} (hd : kd (GG L) d = 0) (hp : p < 2) : kd (GG L) (d + 1 + 2 * p) = 4 := by
  have : p = 0 ∨ p = 1 := by omega
  rcases this with rfl | rfl
  · exact wk_0_1 hd
  · exact wk_0_2 hd
theorem ite01 {k : Nat} : ((if k < 3 then (1 : Int32) else 0) ≠ 0) ↔ k < 3 := by
  by_cases h : k < 3
  · rw [if_pos h]; exact ⟨fun _ => h, fun _ => by decide⟩
  · rw [if_neg h]; exact ⟨fun q => absurd rfl q, fun q => absurd q h⟩
section LV
variable {L : Nat × Nat} {n v k : Nat} {g e Z : Nat → Nat → Nat} {I : It}
theorem L32 (h : Lv g e Z I v) (hv : v < 6) {x : Int32} : E 32 0 [some (.ref (21 + 10 * v)), some (.int x)] [] (GG L) I = some (some (.int (tI (∃ k, k < 3 ∧ x = nI k))), GG L, I) := by
  rw [S32 (k_lay hv), tI_iff]
  constructor
  · rintro ⟨k, hk, hx, q⟩
    rw [show 21 + 10 * v + 1 = 22 + 10 * v by omega, h.1 k hk] at q
    exact ⟨k, ite01.mp q, hx⟩
  · rintro ⟨k, hk, hx⟩
    refine ⟨k, by omega, hx, ?_⟩
    rw [show 21 + 10 * v + 1 = 22 + 10 * v by omega, h.1 k (by omega)]
    exact ite01.mpr hk
theorem L32k (h : Lv g e Z I v) (hv : v < 6) (hk : k < 2 ^ 31) : E 32 0 [some (.ref (21 + 10 * v)), some (.int (nI k))] [] (GG L) I = some (some (.int (tI (k < 3))), GG L, I) := by
  rw [L32 h hv, tI_iff]
  exact ⟨fun ⟨k', hk', e'⟩ => by have := (nI_eq hk (by omega)).mp e'; omega, fun q => ⟨k, q, rfl⟩⟩
theorem L33 (h : Lv g e Z I v) (hv : v < 6) (hk : k < 3) : E 33 0 [some (.ref (21 + 10 * v)), some (.int (nI k))] [] (GG L) I = some (some (.int (nI (g v k))), GG L, I) := by
  rw [S33 (k_lay hv) (by omega), show 21 + 10 * v + 1 = 22 + 10 * v by omega, show 21 + 10 * v + 2 = 23 + 10 * v by omega, h.1 k (by omega), if_neg (ite01.mpr hk), (h.2.1 k hk).1]
theorem L34 (h : Lv g e Z I v) (hv : v < 6) (hk : k < 3) : E 34 0 [some (.ref (21 + 10 * v)), some (.int (nI k))] [] (GG L) I = some (some (.int (nI (e v k))), GG L, I) := by
  rw [S34 (k_lay hv) (by omega), show 21 + 10 * v + 1 = 22 + 10 * v by omega, show 21 + 10 * v + 3 = 24 + 10 * v by omega, h.1 k (by omega), if_neg (ite01.mpr hk), (h.2.1 k hk).2.1]
theorem L35 (h : Lv g e Z I v) (hv : v < 6) (h0 : 0 < v) (hk : k < 3) : E 35 0 [some (.ref (21 + 10 * v)), some (.int (nI k))] [] (GG L) I = some (some (.int (nI k)), GG L, I) := by
  rw [S35 (k_lay hv) (by omega), show 21 + 10 * v + 1 = 22 + 10 * v by omega, show 21 + 10 * v + 4 = 25 + 10 * v by omega, h.1 k (by omega), if_neg (ite01.mpr hk), (h.2.2 h0).1 k hk]
theorem L36 (h : Lv g e Z I v) (hv : v < 6) {x y : Int32} : E 36 0 [some (.ref (21 + 10 * v)), some (.int x), some (.int y)] [] (GG L) I = some (some (.int (tI (∃ a b, a < 3 ∧ b ≤ g v a ∧ x = nI a ∧ y = nI b))), GG L, I) := by
  rcases below x (n := 10) (by decide) with ⟨k, hk, ex⟩ | ⟨h3, h4⟩
  · rw [ex, S36 (k_lay hv) hk, show 21 + 10 * v + 1 = 22 + 10 * v by omega, show 21 + 10 * v + 2 = 23 + 10 * v by omega, h.1 k hk, tI_iff]
    constructor
    · rintro ⟨q1, q2, q3⟩
      have hk3 := ite01.mp q1
      obtain ⟨r1, -, r3, -⟩ := h.2.1 k hk3
      rw [r1] at q3
      obtain ⟨j, hj, ej⟩ := nI_of2 (M := nI (g v k)) (n := g v k) (nI_toInt (by omega)) (Int32.not_lt.mpr q2) q3
      exact ⟨k, j, hk3, hj, rfl, ej⟩
    · rintro ⟨a, b, ha, hb, ea, eb⟩
      have := (nI_eq (by omega) (by omega)).mp ea
      subst this
      obtain ⟨r1, -, r3, -⟩ := h.2.1 k ha
      refine ⟨ite01.mpr ha, eb ▸ nI_pos' (by omega), ?_⟩
      rw [r1, eb]
      exact nI_le hb (by omega)
  · rw [S36n (k_lay hv) h4, tI_f]
    rintro ⟨a, b, ha, -, ea, -⟩
    exact h4 a (by omega) ea
end LV
/-- a good head, a good record -/
def Hdx (n : Nat) (f : Nat → Int32) : Prop := f 0 ≠ -6 ∧ f 1 ≠ -6 ∧ f 2 ≠ -6 ∧ (∃ v, v < n ∧ f 0 = nI (200 + v)) ∧ f 1 < 200 ∧ f 2 = hck (f 0) (f 1)
def Gdx (g : Nat → Nat → Nat) (v : Nat) (f : Nat → Int32) (i : Nat) : Prop := ∃ a b, a < 3 ∧ b ≤ g v a ∧ f i = nI (a + 1) ∧ f (i + 1) = nI b ∧ f (i + 2) = rck (f i) (f (i + 1)) (nI v)
theorem rck_nI {n c v : Nat} (hn : n < 300) (hc : c < 300) (hv : v < 300) : rck (nI n) (nI c) (nI v) = nI ((7 * n + 11 * c + 13 * v + 5) % 251) := by
  unfold rck
  have : (((7 * nI n) + (11 * nI c)) + (13 * nI v)) + 5 = nI (7 * n + 11 * c + 13 * v + 5) := by
    rw [show (7 : Int32) = nI 7 from rfl, show (11 : Int32) = nI 11 from rfl, show (13 : Int32) = nI 13 from rfl, show (5 : Int32) = nI 5 from rfl, nI_mul, nI_mul, nI_mul, nI_add, nI_add, nI_add]
  rw [this, show (251 : Int32) = nI 251 from rfl, nI_rem (by omega) (by decide)]
theorem hck_nI {n c : Nat} (hn : n < 300) (hc : c < 300) : hck (nI n) (nI c) = nI ((3 * n + 5 * c + 1) % 251) := by
  unfold hck
  have : ((3 * nI n) + (5 * nI c)) + 1 = nI (3 * n + 5 * c + 1) := by
    rw [show (3 : Int32) = nI 3 from rfl, show (5 : Int32) = nI 5 from rfl, show (1 : Int32) = nI 1 from rfl, nI_mul, nI_mul, nI_add, nI_add]
  rw [this, show (251 : Int32) = nI 251 from rfl, nI_rem (by omega) (by decide)]
theorem Gdx_three {g : Nat → Nat → Nat} {v : Nat} {f : Nat → Int32} {i : Nat} (hv : v < 6) (hg : ∀ a, a < 3 → g v a < 256) (h : Gdx g v f i) : f i ≠ -6 ∧ f (i + 1) ≠ -6 ∧ f (i + 2) ≠ -6 := by
  obtain ⟨a, b, ha, hb, e0, e1, e2⟩ := h
  have := hg a ha
  refine ⟨by rw [e0]; exact nI_m6 (by omega), by rw [e1]; exact nI_m6 (by omega), ?_⟩
  rw [e2, e0, e1, rck_nI (by omega) (by omega) (by omega)]
  exact nI_m6 (by omega)
theorem S82 {L : Nat × Nat} {o i : Nat} {I : It} (ho : kd (GG L) o = 4) (hi : i + 2 < 48) : E 82 0 [some (.ref o), some (.int (nI i))] [] (GG L) I = some (some (.int (tI (I (o + 1) i ≠ -6 ∧ I (o + 1) (i + 1) ≠ -6 ∧ I (o + 1) (i + 2) ≠ -6))), GG L, I) := by
  rw [B82_0 ho, S71 ho (by omega), K2_i, B82_5 ho, nI_1]
  by_cases h1 : I (o + 1) i = -6
  · rw [if_pos h1, tI_f (fun q => q.1 h1)]
  rw [if_neg h1, S71 ho (by omega), K2_i, B82_17 ho, show nI i + 2 = nI (i + 2) from nI_add i 2]
  by_cases h2 : I (o + 1) (i + 1) = -6
  · rw [if_pos h2, tI_f (fun q => q.2.1 h2)]
  rw [if_neg h2, S71 ho (by omega), K2_i, B82_29]
  by_cases h3 : I (o + 1) (i + 2) = -6
  · rw [if_pos h3, tI_f (fun q => q.2.2 h3)]
  rw [if_neg h3, tI_t ⟨h1, h2, h3⟩]
theorem S71_0 {L : Nat × Nat} {o : Nat} {I : It} (ho : kd (GG L) o = 4) : E 71 0 [some (.ref o), some (.int 0)] [] (GG L) I = some (some (.int (I (o + 1) 0)), GG L, I) := S71 (k := 0) ho (by decide)
theorem S71_1 {L : Nat × Nat} {o : Nat} {I : It} (ho : kd (GG L) o = 4) : E 71 0 [some (.ref o), some (.int 1)] [] (GG L) I = some (some (.int (I (o + 1) 1)), GG L, I) := S71 (k := 1) ho (by decide)
theorem S71_2 {L : Nat × Nat} {o : Nat} {I : It} (ho : kd (GG L) o = 4) : E 71 0 [some (.ref o), some (.int 2)] [] (GG L) I = some (some (.int (I (o + 1) 2)), GG L, I) := S71 (k := 2) ho (by decide)
theorem S75 {L : Nat × Nat} {o : Nat} {I : It} (ho : kd (GG L) o = 4) : E 75 0 [some (.ref o)] [] (GG L) I = some (some (.int (I (o + 1) 0 - 200)), GG L, I) := by rw [B75_0 ho, S71_0 ho, K2_i, B75_5]
theorem S76 {L : Nat × Nat} {o : Nat} {I : It} (ho : kd (GG L) o = 4) : E 76 0 [some (.ref o)] [] (GG L) I = some (some (.int (I (o + 1) 1)), GG L, I) := by rw [B76_0 ho, S71_1 ho, K2_i, B76_5]
theorem sub_200 {x : Int32} {v : Nat} : x - 200 = nI v ↔ x = nI (200 + v) := by
  constructor
  · intro h
    have : x = x - 200 + 200 := (Int32.sub_add_cancel x 200).symm
    rw [this, h, Nat.add_comm]
    exact nI_add v 200
  · intro h
    rw [h, show (200 : Int32) = nI 200 from rfl, nI_sub (by omega), Nat.add_sub_cancel_left]
theorem sub_1 {x : Int32} {v : Nat} : x - 1 = nI v ↔ x = nI (v + 1) := by
  constructor
  · intro h
    have : x = x - 1 + 1 := (Int32.sub_add_cancel x 1).symm
    rw [this, h, nI_1]
  · intro h
    rw [h, nI_pred]
/-- a good head -/
theorem S77 {L : Nat × Nat} {n o : Nat} {g e Z : Nat → Nat → Nat} {I : It} (hR : Ly n g e Z I) (ho : kd (GG L) o = 4) : E 77 0 [some (.ref o), some (.ref 9)] [] (GG L) I = some (some (.int (tI (Hdx n (I (o + 1))))), GG L, I) := by
  have hn := hR.1
  have e0 := S82 (L := L) (i := 0) (I := I) ho (by decide)
  rw [B77_0 ho, show (0 : Int32) = nI 0 from rfl, e0, K2_i, B77_5 ho]
  by_cases h : I (o + 1) 0 ≠ -6 ∧ I (o + 1) (0 + 1) ≠ -6 ∧ I (o + 1) (0 + 2) ≠ -6
  · rw [tI_t h, if_neg (by decide), S75 ho, K2_i, B77_13 ho, S45 hR, K2_i, B77_16 ho]
    by_cases h1 : ∃ v, v < n ∧ I (o + 1) 0 - 200 = nI v
    · obtain ⟨v, hv, e⟩ := id h1
      rw [tI_t h1, if_neg (by decide), S76 ho, K2_i, B77_23 ho]
      have e' := sub_200.mp e
      by_cases h2 : 200 ≤ I (o + 1) 1
      · rw [if_pos h2, tI_f]
        rintro ⟨-, -, -, -, q, -⟩
        exact absurd h2 (Int32.not_le.mpr q)
      · rw [if_neg h2, S71_2 ho, K2_i, B77_34 ho, S71_0 ho, K2_i, B77_39 ho, S71_1 ho, K2_i, B77_44, B83_0, K2_i, B77_47]
        by_cases h3 : I (o + 1) 2 = hck (I (o + 1) 0) (I (o + 1) 1)
        · rw [tI_t (P := Hdx n (I (o + 1))) ⟨h.1, h.2.1, h.2.2, ⟨v, hv, e'⟩, Int32.not_le.mp h2, h3⟩]; exact if_pos h3
        · rw [tI_f (fun q => h3 q.2.2.2.2.2)]; exact if_neg h3
    · rw [tI_f h1, if_pos rfl, tI_f]
      rintro ⟨-, -, -, ⟨v, hv, e⟩, -⟩
      exact h1 ⟨v, hv, sub_200.mpr e⟩
  · rw [tI_f h, if_pos rfl, tI_f (fun q => h ⟨q.1, q.2.1, q.2.2.1⟩)]
theorem S80 {L : Nat × Nat} {o i : Nat} {I : It} (ho : kd (GG L) o = 4) (hi : i < 48) : E 80 0 [some (.ref o), some (.int (nI i))] [] (GG L) I = some (some (.int (I (o + 1) i - 1)), GG L, I) := by rw [B80_0 ho, S71 ho hi, K2_i, B80_5]
/-- a good record -/
theorem S79 {L : Nat × Nat} {o i v : Nat} {g e Z : Nat → Nat → Nat} {I : It} (hR : Lv g e Z I v) (hv : v < 6) (ho : kd (GG L) o = 4) (hi : i + 2 < 48) : E 79 0 [some (.ref o), some (.int (nI i)), some (.ref (21 + 10 * v)), some (.int (nI v))] [] (GG L) I = some (some (.int (tI (Gdx g v (I (o + 1)) i))), GG L, I) := by
  have hl := k_lay (L := L) hv
  rw [B79_0 ho hl, S82 ho hi, K2_i, B79_5 ho hl]
  by_cases h : I (o + 1) i ≠ -6 ∧ I (o + 1) (i + 1) ≠ -6 ∧ I (o + 1) (i + 2) ≠ -6
  · rw [tI_t h, if_neg (by decide), S80 ho (by omega), K2_i, B79_14 ho hl, nI_1, S71 ho (by omega), K2_i, B79_21 ho hl, L36 hR hv, K2_i, B79_24 ho, show nI i + 2 = nI (i + 2) from nI_add i 2]
    by_cases h1 : ∃ a b, a < 3 ∧ b ≤ g v a ∧ I (o + 1) i - 1 = nI a ∧ I (o + 1) (i + 1) = nI b
    · obtain ⟨a, b, ha, hb, ea, eb⟩ := id h1
      rw [tI_t h1, if_neg (by decide), S71 ho (by omega), K2_i, B79_34 ho, S71 ho (by omega), K2_i, B79_39 ho, nI_1, S71 ho (by omega), K2_i, B79_46, B84_0, K2_i, B79_50]
      by_cases h3 : I (o + 1) (i + 2) = rck (I (o + 1) i) (I (o + 1) (i + 1)) (nI v)
      · rw [tI_t (P := Gdx g v (I (o + 1)) i) ⟨a, b, ha, hb, sub_1.mp ea, eb, h3⟩]; exact if_pos h3
      · rw [tI_f (fun ⟨_, _, _, _, _, _, q⟩ => h3 q)]; exact if_neg h3
    · rw [tI_f h1, if_pos rfl, tI_f]
      rintro ⟨a, b, ha, hb, ea, eb, -⟩
      exact h1 ⟨a, b, ha, hb, sub_1.mpr ea, eb⟩
  · rw [tI_f h, if_pos rfl, tI_f (fun q => h (Gdx_three hv (fun a ha => (hR.2.1 a ha).2.2.1) q))]
theorem S78 {L : Nat × Nat} {o i : Nat} {I : It} (ho : kd (GG L) o = 4) (h3 : 3 ≤ i) (hi : i + 3 ≤ 48) : E 78 0 [some (.ref o), some (.int (nI i))] [] (GG L) I = some (some (.int (tI (I (o + 1) i ≠ -6))), GG L, I) := by
  rw [B78_0 ho, if_neg (show ¬ nI i < (3 : Int32) from nI_nlt (a := i) (b := 3) h3 (by omega)), show nI i + 3 = nI (i + 3) from nI_add i 3, if_neg (show ¬ (48 : Int32) < nI (i + 3) from nI_nlt (a := 48) (b := i + 3) hi (by decide)), ck_of (inb_nI (by omega) (by decide)), ix_nI (by omega)]
  by_cases h : I (o + 1) i = -6
  · rw [if_pos h, tI_f (fun q => q h)]
  · rw [if_neg h, tI_t h]
theorem S119 {L : Nat × Nat} {x : Int32} {I : It} : E 119 0 [some (.int x)] [] (GG L) I = some (some (.int (tI (∃ k, k < 10 ∧ x = nI k))), GG L, I) := by
  rcases below x (n := 10) (by decide) with ⟨k, hk, e⟩ | ⟨h3, h4⟩
  · rw [tI_t ⟨k, hk, e⟩, e, B119_0, if_neg (nI_pos (by omega)), if_neg (show ¬ (10 : Int32) ≤ nI k from nI_ge (a := k) (b := 10) hk (by decide))]
  · rw [tI_f (fun ⟨k, hk, e⟩ => h4 k hk e), B119_0]
    by_cases h5 : x < 0
    · rw [if_pos h5]
    · rw [if_neg h5, if_pos (show (10 : Int32) ≤ x from h3.resolve_left h5)]
def fmd (x : Int32) : Int32 := if 0 ≤ (x ^^^ 200) then x - x / 200 * 200 else if x - x / 200 * 200 = 0 then x - x / 200 * 200 else x - x / 200 * 200 + 200
theorem fmd_p : ∀ k, k < 200 → fmd (nI k) = (nI k + 200) - (nI k + 200) / 200 * 200 := by decide +kernel
theorem fmd_m : ∀ k, k < 200 → fmd (0 - nI k) = (0 - nI k + 200) - (0 - nI k + 200) / 200 * 200 := by decide +kernel
theorem fmd_d {s t : Nat} (hs : s < 200) (ht : t < 200) : fmd (nI s - nI t) = nI ((s + 200 - t) % 200) := by
  by_cases h : t ≤ s
  · rw [nI_sub h, fmd_p _ (by omega), show (200 : Int32) = nI 200 from rfl, nI_add, nI_rem (by omega) (by decide)]
    congr 2; omega
  · have e : nI s - nI t = 0 - nI (t - s) := by
      have e : nI (t - s) = nI t - nI s := (nI_sub (by omega)).symm
      rw [e, Int32.zero_sub, Int32.neg_sub]
    rw [e, fmd_m _ (by omega)]
    have e2 : 0 - nI (t - s) + 200 = nI (200 - (t - s)) := by
      rw [Int32.zero_sub, Int32.add_comm, ← Int32.sub_eq_add_neg]
      exact nI_sub (a := 200) (by omega)
    rw [e2, show (200 : Int32) = nI 200 from rfl, nI_rem (by omega) (by decide)]
    congr 2; omega
theorem S120 {L : Nat × Nat} {x : Int32} {I : It} : E 120 0 [some (.int x), some (.int 200), none] [] (GG L) I = some (some (.int (fmd x)), GG L, I) := by
  rw [B120_0, ck_of (by decide)]
  unfold fmd
  by_cases h : 0 ≤ (x ^^^ 200)
  · rw [if_pos h, if_pos h]
  · rw [if_neg h, if_neg h]
    by_cases h1 : x - x / 200 * 200 = 0
    · rw [if_pos h1, if_pos h1]
    · rw [if_neg h1, if_neg h1]
