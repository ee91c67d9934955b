theorem nI_div {m k : Nat} (hm : m < 2 ^ 31) (hk : k < 2 ^ 31) : nI m / nI k = nI (m / k) := by
  have h1 : m / k ≤ m := Nat.div_le_self _ _
  apply Int32.toInt_inj.mp
  rw [Int32.toInt_div, nI_toInt hm, nI_toInt hk, nI_toInt (by omega), ← Int.ofNat_tdiv]
  obtain ⟨q, hq⟩ : ∃ q, m / k = q := ⟨_, rfl⟩
  rw [hq] at h1 ⊢
  exact Int.bmod_eq_of_le (by omega) (by omega)
theorem nI_sub {a b : Nat} (h : b ≤ a) : nI a - nI b = nI (a - b) := by
  have : nI (a - b) + nI b = nI a := by rw [nI_add, Nat.sub_add_cancel h]
  rw [← this, Int32.add_sub_cancel]
theorem nI_rem {m k : Nat} (hm : m < 2 ^ 31) (hk : k < 2 ^ 31) : nI m - nI m / nI k * nI k = nI (m % k) := by
  have h1 : m / k * k ≤ m := Nat.div_mul_le_self _ _
  rw [nI_div hm hk, nI_mul, nI_sub h1]
  congr 1
  have := Nat.div_add_mod m k
  rw [Nat.mul_comm k] at this
  omega
theorem ck_byt {m : Nat} (hm : m < 2 ^ 31) : byt (nI m - nI m / 251 * 251) := by
  rw [show (251 : Int32) = nI 251 from rfl, nI_rem hm (by decide)]
  exact ⟨m % 251, by omega, rfl⟩
theorem rec_ck {n c v : Nat} (hn : n < 300) (hc : c < 300) (hv : v < 300) : byt (((((7 * nI n) + (11 * nI c)) + (13 * nI v)) + 5) - ((((7 * nI n) + (11 * nI c)) + (13 * nI v)) + 5) / 251 * 251) := by
  have : (((7 * nI n) + (11 * nI c)) + (13 * nI v)) + 5 = nI (7 * n + 11 * c + 13 * v + 5) := by
    rw [show (7 : Int32) = nI 7 from rfl, show (11 : Int32) = nI 11 from rfl, show (13 : Int32) = nI 13 from rfl, show (5 : Int32) = nI 5 from rfl, nI_mul, nI_mul, nI_mul, nI_add, nI_add, nI_add]
  rw [this]
  exact ck_byt (by omega)
theorem head_ck {n c : Nat} (hn : n < 300) (hc : c < 300) : byt ((((3 * nI n) + (5 * nI c)) + 1) - (((3 * nI n) + (5 * nI c)) + 1) / 251 * 251) := by
  have : ((3 * nI n) + (5 * nI c)) + 1 = nI (3 * n + 5 * c + 1) := by
    rw [show (3 : Int32) = nI 3 from rfl, show (5 : Int32) = nI 5 from rfl, show (1 : Int32) = nI 1 from rfl, nI_mul, nI_mul, nI_add, nI_add]
  rw [this]
  exact ck_byt (by omega)
/-- three cells written, on both sides -/
theorem W_three {L d p i : Nat} {x y z : Int32} {I J : It} (hd : kd (GG L) d = 0) (hd0 : kd (GG L) (d + 1 + 2 * p) = 4) (hp : p < 2) (hi : i + 2 < 48) (hx : cel x) (hy : cel y) (hz : cel z) (h : Rc I d (J 120)) :
    ∃ I' J1 J2 J' r, E 29 0 [some (.ref d), some (.ref (d + 1 + 2 * p)), some (.int (nI i)), some (.int x), some (.int y), some (.int z), none] [] (GG L) I = some (some (.int r), GG L, I') ∧ E 132 0 [some (.ref 119), some (.int (nI p)), some (.int (nI i)), some (.int x)] [] (GG L) J = some (none, GG L, J1) ∧ E 132 0 [some (.ref 119), some (.int (nI p)), some (.int (nI (i + 1))), some (.int y)] [] (GG L) J1 = some (none, GG L, J2) ∧ E 132 0 [some (.ref 119), some (.int (nI p)), some (.int (nI (i + 2))), some (.int z)] [] (GG L) J2 = some (none, GG L, J') ∧ Rc I' d (J' 120) ∧ FI d I I' ∧ FJ J J' ∧ J' 119 16 = J 119 16 + r := by
  obtain ⟨I1, J1, r1, a1, b1, h1, f1, g1, w1⟩ := W_cell (i := i) hd hd0 hp (by omega) hx h
  obtain ⟨I2, J2, r2, a2, b2, h2, f2, g2, w2⟩ := W_cell (i := i + 1) hd hd0 hp (by omega) hy h1
  obtain ⟨I3, J3, r3, a3, b3, h3, f3, g3, w3⟩ := W_cell (i := i + 2) hd hd0 hp (by omega) hz h2
  refine ⟨I3, J1, J2, J3, r1 + r2 + r3, ?_, b1, b2, b3, h3, FI_tr (FI_tr f1 f2) f3, FJ_tr (FJ_tr g1 g2) g3, ?_⟩
  · rw [B29_0 hd hd0, a1, K2_i, B29_7 hd hd0, nI_1, a2, K2_i, B29_21 hd hd0, show nI i + 2 = nI (i + 2) from nI_add i 2, a3, K2_i, B29_36 rfl]
  · rw [w3, w2, w1, Int32.add_assoc, Int32.add_assoc, Int32.add_assoc]
/-- a record written -/
theorem W_rec {L d p i n c v : Nat} {I J : It} (hd : kd (GG L) d = 0) (hd0 : kd (GG L) (d + 1 + 2 * p) = 4) (hp : p < 2) (hi : i + 2 < 48) (hn : n < 10) (hc : c < 256) (hv : v < 6) (h : Rc I d (J 120)) :
    ∃ I' J' r, E 27 0 [some (.ref d), some (.ref (d + 1 + 2 * p)), some (.int (nI i)), some (.int (nI n)), some (.int (nI c)), some (.int (nI v)), none] [] (GG L) I = some (some (.int r), GG L, I') ∧ E 136 0 [some (.ref 119), some (.int (nI p)), some (.int (nI i)), some (.int (nI n)), some (.int (nI c)), some (.int (nI v))] [] (GG L) J = some (none, GG L, J') ∧ Rc I' d (J' 120) ∧ FI d I I' ∧ FJ J J' ∧ J' 119 16 = J 119 16 + r := by
  have hk := rec_ck (n := n + 1) (c := c) (v := v) (by omega) (by omega) (by omega)
  obtain ⟨I', J1, J2, J', r, a, b1, b2, b3, h', f, g, w⟩ := W_three (i := i) (x := nI (n + 1)) (y := nI c) hd hd0 hp hi (byt_cel ⟨n + 1, by omega, rfl⟩) (byt_cel ⟨c, hc, rfl⟩) (byt_cel hk) h
  refine ⟨I', J', r, ?_, ?_, h', f, g, w⟩
  · rw [B27_0 hd hd0, nI_1, B84_0, K2_i, B27_21 hd hd0, a, K2_i, B27_24]
  · rw [B136_0, show 1 + nI n = nI (n + 1) from by rw [Int32.add_comm, nI_1], b1, K2_v, B136_9, nI_1, b2, K2_v, B136_19, show 1 + nI n = nI (n + 1) from by rw [Int32.add_comm, nI_1], B135_0, K2_i, B136_34, show nI i + 2 = nI (i + 2) from nI_add i 2, b3, K2_v, B136_37]
/-- a head written -/
theorem W_head {L d p v s : Nat} {I J : It} (hd : kd (GG L) d = 0) (hd0 : kd (GG L) (d + 1 + 2 * p) = 4) (hp : p < 2) (hv : v < 6) (hs : s < 200) (h : Rc I d (J 120)) :
    ∃ I' J' r, E 28 0 [some (.ref d), some (.ref (d + 1 + 2 * p)), some (.int (nI v)), some (.int (nI s)), none] [] (GG L) I = some (some (.int r), GG L, I') ∧ E 137 0 [some (.ref 119), some (.int (nI p)), some (.int (nI v)), some (.int (nI s))] [] (GG L) J = some (none, GG L, J') ∧ Rc I' d (J' 120) ∧ FI d I I' ∧ FJ J J' ∧ J' 119 16 = J 119 16 + r := by
  have hk := head_ck (n := 200 + v) (c := s) (by omega) (by omega)
  obtain ⟨I', J1, J2, J', r, a, b1, b2, b3, h', f, g, w⟩ := W_three (i := 0) (x := nI (200 + v)) (y := nI s) hd hd0 hp (by decide) (byt_cel ⟨200 + v, by omega, rfl⟩) (byt_cel ⟨s, by omega, rfl⟩) (byt_cel hk) h
  have e0 : (0 : Int32) = nI 0 := rfl
  have e1 : (1 : Int32) = nI (0 + 1) := rfl
  have e2 : (2 : Int32) = nI (0 + 2) := rfl
  refine ⟨I', J', r, ?_, ?_, h', f, g, w⟩
  · rw [B28_0 hd hd0, show 200 + nI v = nI (200 + v) from nI_add 200 v, B83_0, K2_i, B28_19 hd hd0]
    refine Eq.trans (congrArg _ (Eq.trans ?_ a)) ?_
    · rfl
    · rw [K2_i, B28_22]
  · rw [B137_0, show 200 + nI v = nI (200 + v) from nI_add 200 v]
    refine Eq.trans (congrArg _ (Eq.trans ?_ b1)) ?_
    · rfl
    rw [K2_v, B137_11]
    refine Eq.trans (congrArg _ (Eq.trans ?_ b2)) ?_
    · rfl
    rw [K2_v, B137_18, show 200 + nI v = nI (200 + v) from nI_add 200 v, B134_0, K2_i, B137_30]
    refine Eq.trans (congrArg _ (Eq.trans ?_ b3)) ?_
    · rfl
    rw [K2_v, B137_33]
/-- the class's erasing of a page -/
theorem S70 {L o : Nat} (ho : kd (GG L) o = 4) : ∀ (d k : Nat) (I : It), d + k = 48 → ∃ I', E 70 2 [some (.ref o), some (.int (nI k))] [] (GG L) I = some (none, GG L, I') ∧ (∀ a, a ≠ o → a ≠ o + 1 → I' a = I a) ∧ (∀ j, j ≠ 2 → I' o j = I o j) ∧ I' o 2 = I o 2 + 1 ∧ (∀ j, j < 48 → I' (o + 1) j = if k ≤ j then -6 else I (o + 1) j) := by
  intro d
  induction d with
  | zero =>
    intro k I hd
    have hk : k = 48 := by omega
    subst hk
    refine ⟨uI I o 2 (I o 2 + 1), ?_, fun a h1 h2 => uI_o _ _ _ _ _ h1, fun j hj => uI_k _ _ _ _ _ hj, uI_s _ _ _ _, fun j hj => ?_⟩
    · rw [B70_2 ho, if_pos (by decide)]
    · rw [uI_a _ _ _ _ _ _ (by omega), if_neg (by omega)]
  | succ d ih =>
    intro k I hd
    obtain ⟨I', e, h1, h2, h3, h4⟩ := ih (k + 1) (uI I (o + 1) k (-6)) (by omega)
    refine ⟨I', ?_, fun a q1 q2 => (h1 a q1 q2).trans (uI_o _ _ _ _ _ q2), fun j hj => (h2 j hj).trans (uI_a _ _ _ _ _ _ (by omega)), ?_, fun j hj => ?_⟩
    · rw [B70_2 ho, if_neg (show ¬ (48 : Int32) ≤ nI k from nI_ge (a := k) (b := 48) (show k < 48 by omega) (by decide)), ck_of (inb_nI (by omega) (by decide)), ix_nI (by omega), nI_1, e]
    · rw [h3, uI_a _ _ _ _ _ _ (by omega)]
    · rw [h4 j hj]
      by_cases q : k + 1 ≤ j
      · rw [if_pos q, if_pos (by omega)]
      · rw [if_neg q]
        by_cases q2 : j = k
        · rw [q2, uI_s, if_pos (Nat.le_refl _)]
        · rw [uI_k _ _ _ _ _ q2, if_neg (by omega)]
/-- the reference's erasing -/
theorem S133 {L p : Nat} (hp : p < 2) : ∀ (d k : Nat) (J : It), d + k = 48 → ∃ J', E 133 2 [some (.ref 119), some (.int (nI p)), some (.int (nI k))] [] (GG L) J = some (none, GG L, J') ∧ (∀ a, a ≠ 120 → J' a = J a) ∧ (∀ j, j ≠ 9 + p → (j < 21 + 48 * p + k ∨ 69 + 48 * p ≤ j) → J' 120 j = J 120 j) ∧ J' 120 (9 + p) = J 120 (9 + p) + 1 ∧ (∀ j, 21 + 48 * p + k ≤ j → j < 69 + 48 * p → J' 120 j = -6) := by
  intro d
  induction d with
  | zero =>
    intro k J hd
    have hk : k = 48 := by omega
    subst hk
    refine ⟨uI J 120 (9 + p) (J 120 (9 + p) + 1), ?_, fun a h => uI_o _ _ _ _ _ h, fun j hj _ => uI_k _ _ _ _ _ hj, uI_s _ _ _ _, fun j h1 h2 => absurd h1 (by omega)⟩
    rw [B133_2, if_pos (by decide), i_9, ck_of (inb_nI (by omega) (by decide)), ck_of (inb_nI (by omega) (by decide)), ix_nI (by omega)]
  | succ d ih =>
    intro k J hd
    obtain ⟨J', e, h1, h2, h3, h4⟩ := ih (k + 1) (uI J 120 (21 + 48 * p + k) (-6)) (by omega)
    refine ⟨J', ?_, fun a q => (h1 a q).trans (uI_o _ _ _ _ _ q), fun j hj q => (h2 j hj (by omega)).trans (uI_k _ _ _ _ _ (by omega)), ?_, fun j q1 q2 => ?_⟩
    · rw [B133_2, if_neg (show ¬ (48 : Int32) ≤ nI k from nI_ge (a := k) (b := 48) (show k < 48 by omega) (by decide)), i_cell, ck_of (inb_nI (by omega) (by decide)), ix_nI (by omega), nI_1, e]
    · rw [h3, uI_k _ _ _ _ _ (by omega)]
    · by_cases q : 21 + 48 * p + (k + 1) ≤ j
      · exact h4 j q q2
      · rw [h2 j (by omega) (by omega), show j = 21 + 48 * p + k by omega, uI_s]
/-- a page erased, on both sides -/
theorem W_erase {L d p : Nat} {I J : It} (hd0 : kd (GG L) (d + 1 + 2 * p) = 4) (hp : p < 2) (h : Rc I d (J 120)) :
    ∃ I' J', E 70 0 [some (.ref (d + 1 + 2 * p)), none] [] (GG L) I = some (none, GG L, I') ∧ E 133 0 [some (.ref 119), some (.int (nI p)), none] [] (GG L) J = some (none, GG L, J') ∧ Rc I' d (J' 120) ∧ FI d I I' ∧ FJ J J' ∧ J' 119 16 = J 119 16 := by
  obtain ⟨I', e, h1, h2, h3, h4⟩ := S70 hd0 48 0 I rfl
  obtain ⟨J', e', g1, g2, g3, g4⟩ := S133 (L := L) hp 48 0 J rfl
  obtain ⟨c1, c2, c3, c4, c5, c6⟩ := h
  have z0 : J' 120 0 = J 120 0 := g2 0 (by omega) (by omega)
  have z1 : J' 120 1 = J 120 1 := g2 1 (by omega) (by omega)
  refine ⟨I', J', ?_, ?_, ⟨?_, ?_, ?_, ?_, ?_, ?_⟩, ⟨fun a ha => h1 a (by omega) (by omega), fun j _ _ => by rw [h1 d (by omega) (by omega)]⟩, ⟨fun a _ ha => g1 a ha, fun j _ => by rw [g1 119 (by decide)], fun j hj => g2 j (by omega) (by omega)⟩, by rw [g1 119 (by decide)]⟩
  · rw [B70_0 hd0]; exact e
  · rw [B133_0]; exact e'
  · rw [h1 d (by omega) (by omega), z0]; exact c1
  · rw [z0]; exact c2
  · rw [h1 d (by omega) (by omega), z1]; exact c3
  · rw [z0, z1]; exact c4
  · rw [z1]; exact c5
  · intro q hq
    obtain ⟨e1, e2, e3⟩ := c6 q hq
    by_cases hqp : q = p
    · subst hqp
      refine ⟨?_, ?_, fun k hk => ?_⟩
      · rw [h2 1 (by decide), e1, g2 (7 + q) (by omega) (by omega)]
      · rw [h3, e2, g3]
      · have := h4 k hk
        rw [if_pos (Nat.zero_le _)] at this
        rw [show d + 2 + 2 * q = d + 1 + 2 * q + 1 by omega, this, g4 _ (by omega) (by omega)]
        exact ⟨rfl, cel_m6⟩
    · refine ⟨?_, ?_, fun k hk => ?_⟩
      · rw [h1 _ (by omega) (by omega), e1, g2 (7 + q) (by omega) (by omega)]
      · rw [h1 _ (by omega) (by omega), e2, g2 (9 + q) (by omega) (by omega)]
      · rw [h1 _ (by omega) (by omega), g2 (21 + 48 * q + k) (by omega) (by omega)]
        exact e3 k hk
