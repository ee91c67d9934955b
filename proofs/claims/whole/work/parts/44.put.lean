theorem wb_tb (n : Nat) : (lN n).toBitVec = BitVec.ofNat 64 n := rfl
theorem wb_inj {a b : Int64} (h : a.toBitVec = b.toBitVec) : a = b := Int64.toBitVec_inj.mp h
theorem wb_tn {n : Nat} (h : n < 2 ^ 64) : (lN n).toBitVec.toNat = n := by rw [wb_tb, BitVec.toNat_ofNat, Nat.mod_eq_of_lt h]
theorem wb_of (x : Int64) : ∃ n, n < 2 ^ 64 ∧ x = lN n := ⟨x.toBitVec.toNat, x.toBitVec.isLt, wb_inj (by rw [wb_tb]; simp)⟩
theorem wb_of32 (x : Int32) : ∃ n, n < 2 ^ 32 ∧ x = nI n := ⟨x.toBitVec.toNat, x.toBitVec.isLt, Int32.toBitVec_inj.mp (by show _ = BitVec.ofNat 32 _; simp)⟩
theorem wb_c : ∀ k, k < 64 → ((nI k).toInt64 &&& 63) = lN k := by decide +kernel
theorem wb_cu : ∀ k, k < 64 → ((nI k).toInt64.toUInt64 &&& Int64.toUInt64 63) = UInt64.ofNat k := by decide +kernel
theorem wb_sm : ∀ k, k < 64 → (BitVec.ofNat 64 k).smod 64 = BitVec.ofNat 64 k := by decide +kernel
theorem wb_pw {a b : Nat} (h : a ≤ b) : 2 ^ b = 2 ^ a * 2 ^ (b - a) := by rw [← Nat.pow_add]; congr 1; omega
theorem wb_lt2 {a b : Nat} (h : a < b) : 2 ^ a < 2 ^ b := Nat.pow_lt_pow_right (by decide) h
theorem wb_mod (n : Nat) : lN n = lN (n % 2 ^ 64) := wb_inj (by rw [wb_tb, wb_tb]; apply BitVec.eq_of_toNat_eq; rw [BitVec.toNat_ofNat, BitVec.toNat_ofNat, Nat.mod_mod])
theorem wb_shr {n k : Nat} (hn : n < 2 ^ 64) (hk : k < 64) : ((lN n).toUInt64 >>> ((nI k).toInt64.toUInt64 &&& Int64.toUInt64 63)).toInt64 = lN (n / 2 ^ k) := by
  rw [wb_cu k hk]
  apply wb_inj
  apply BitVec.eq_of_toNat_eq
  show ((lN n).toUInt64 >>> UInt64.ofNat k).toNat = (BitVec.ofNat 64 _).toNat
  have h1 : (UInt64.ofNat k).toNat = k := by
    show (BitVec.ofNat 64 k).toNat = k
    rw [BitVec.toNat_ofNat, Nat.mod_eq_of_lt (by omega)]
  have h2 : (lN n).toUInt64.toNat = n := wb_tn hn
  rw [UInt64.toNat_shiftRight, h1, h2, Nat.mod_eq_of_lt hk, Nat.shiftRight_eq_div_pow, BitVec.toNat_ofNat, Nat.mod_eq_of_lt (Nat.lt_of_le_of_lt (Nat.div_le_self _ _) hn)]
theorem wb_shl (n : Nat) {k : Nat} (hk : k < 64) : lN n <<< ((nI k).toInt64 &&& 63) = lN (n * 2 ^ k) := by
  rw [wb_c k hk]
  apply wb_inj
  rw [Int64.toBitVec_shiftLeft, wb_tb, wb_tb, wb_tb, wb_sm k hk]
  apply BitVec.eq_of_toNat_eq
  rw [BitVec.shiftLeft_eq', BitVec.toNat_shiftLeft, BitVec.toNat_ofNat, BitVec.toNat_ofNat, BitVec.toNat_ofNat, Nat.mod_eq_of_lt (show k < 2 ^ 64 by omega), Nat.shiftLeft_eq, Nat.mul_mod, Nat.mod_mod, ← Nat.mul_mod]
theorem wb_and {a b : Nat} (ha : a < 2 ^ 64) (hb : b < 2 ^ 64) : lN a &&& lN b = lN (a &&& b) := by
  apply wb_inj
  rw [Int64.toBitVec_and, wb_tb, wb_tb, wb_tb]
  apply BitVec.eq_of_toNat_eq
  rw [BitVec.toNat_and, BitVec.toNat_ofNat, BitVec.toNat_ofNat, BitVec.toNat_ofNat, Nat.mod_eq_of_lt ha, Nat.mod_eq_of_lt hb, Nat.mod_eq_of_lt (Nat.and_lt_two_pow _ hb)]
theorem wb_or {a b : Nat} (ha : a < 2 ^ 64) (hb : b < 2 ^ 64) : lN a ||| lN b = lN (a ||| b) := by
  apply wb_inj
  rw [Int64.toBitVec_or, wb_tb, wb_tb, wb_tb]
  apply BitVec.eq_of_toNat_eq
  rw [BitVec.toNat_or, BitVec.toNat_ofNat, BitVec.toNat_ofNat, BitVec.toNat_ofNat, Nat.mod_eq_of_lt ha, Nat.mod_eq_of_lt hb, Nat.mod_eq_of_lt (Nat.or_lt_two_pow ha hb)]
theorem wb_mask {n k : Nat} (hn : n < 2 ^ 64) (hk : k < 64) : lN n &&& lN (2 ^ k - 1) = lN (n % 2 ^ k) := by
  rw [wb_and hn (by have := wb_lt2 hk; omega), Nat.and_two_pow_sub_one_eq_mod]
theorem wb_a1 {n : Nat} (hn : n < 2 ^ 64) : lN n &&& 1 = lN (n % 2) := wb_mask (k := 1) hn (by decide)
theorem wb_bit {n k : Nat} (hn : n < 2 ^ 64) (hk : k < 64) : ((lN n).toUInt64 >>> ((nI k).toInt64.toUInt64 &&& Int64.toUInt64 63)).toInt64 &&& 1 = lN (n / 2 ^ k % 2) := by
  rw [wb_shr hn hk, wb_a1 (Nat.lt_of_le_of_lt (Nat.div_le_self _ _) hn)]
/-- a byte out of a long, as the signed shift gives it -/
theorem wb_sar {n k : Nat} (hk : k ≤ 56) : (lN n >>> ((nI k).toInt64 &&& 63)) &&& 255 = lN (n / 2 ^ k % 256) := by
  rw [wb_c k (by omega)]
  apply wb_inj
  rw [Int64.toBitVec_and, Int64.toBitVec_shiftRight, wb_tb, wb_tb, wb_tb, wb_sm k (by omega), show (255 : Int64).toBitVec = BitVec.ofNat 64 (2 ^ 8 - 1) from rfl, show (256 : Nat) = 2 ^ 8 from rfl]
  apply BitVec.eq_of_getLsbD_eq
  intro i hi
  rw [BitVec.getLsbD_and, BitVec.sshiftRight_eq', BitVec.getLsbD_sshiftRight, BitVec.getLsbD_ofNat, BitVec.getLsbD_ofNat, BitVec.getLsbD_ofNat, BitVec.toNat_ofNat, Nat.mod_eq_of_lt (show k < 2 ^ 64 by omega), Nat.testBit_two_pow_sub_one, Nat.testBit_mod_two_pow, Nat.testBit_div_two_pow]
  by_cases h8 : i < 8
  · have h1 : k + i < 64 := by omega
    have h2 : ¬ 64 ≤ i := by omega
    simp [h8, h1, hi, h2, Nat.add_comm]
  · simp [h8]
theorem wb_lt {n k : Nat} (hn : n < 2 ^ 64) : n / 2 ^ k < 2 ^ 64 := Nat.lt_of_le_of_lt (Nat.div_le_self _ _) hn
theorem wb_255 {n : Nat} (hn : n < 2 ^ 64) : lN n &&& 255 = lN (n % 256) := wb_mask (k := 8) hn (by decide)
theorem wb_0 {n : Nat} (hn : n < 2 ^ 64) : lN n = 0 ↔ n = 0 := by
  constructor
  · intro h
    have := congrArg (fun z => z.toBitVec.toNat) h
    simpa [wb_tn hn] using this
  · rintro rfl; rfl
theorem chr_b : ∀ b, b < 256 → ((nI b).toUInt32 % 65536).toInt32 = nI b := by decide +kernel
theorem lc0 : lg_cmp (lN 0) 0 = 0 := (lg_cmp_eq _ _).mpr rfl
theorem lcz {b : Nat} (h : b < 2 ^ 64) : lg_cmp (lN b) 0 = 0 ↔ b = 0 := (lg_cmp_eq _ _).trans (wb_0 h)
theorem lc33 {b : Nat} (h : b < 256) : lg_cmp (lN b) 33 < 0 ↔ b < 33 := (lg_cmp_lt _ _).trans (lN_lt (b := 33) (by omega) (by decide))
theorem lc126 {b : Nat} (h : b < 256) : lg_cmp (lN b) 126 ≤ 0 ↔ b ≤ 126 := (lg_cmp_le _ _).trans (lN_le (b := 126) (by omega) (by decide))
/-- the byte k of a number -/
def by8 (u k : Nat) : Nat := u / 2 ^ (8 * k) % 256
theorem by8_lt (u k : Nat) : by8 u k < 256 := Nat.mod_lt _ (by decide)
theorem dv8 (u i : Nat) : u / 2 ^ (8 * i) / 2 ^ 8 = u / 2 ^ (8 * (i + 1)) := by
  rw [Nat.div_div_eq_div_mul, ← Nat.pow_add, Nat.mul_add, Nat.mul_one]
/-- the characters are counted, on both sides -/
theorem P_cnt {L u : Nat} {I J : It} (hu : u < 2 ^ 64) : ∀ (d i : Nat) {u0 u1 u5 u6 v6 : Option Value}, d + i = 8 → isJ (some u1) = false → isJ (some u6) = false → (∀ j, j < i → 33 ≤ by8 u j ∧ by8 u j ≤ 126) →
    (∃ m, m ≤ 8 ∧ (∀ j, j < m → 33 ≤ by8 u j ∧ by8 u j ≤ 126) ∧ E 54 5 [u0, u1, some (.long (lN (u / 2 ^ (8 * i)))), none, some (.int (nI i)), u5, u6] [] (GG L) I = some (some (.int (nI m)), GG L, I) ∧ E 169 5 [some (.ref 119), some (.long (lN u)), none, some (.int (nI i)), some (.long (lN (u / 2 ^ (8 * i)))), none, v6] [] (GG L) J = E 169 55 [some (.ref 119), some (.long (lN u)), none, some (.int (nI m)), some (.long (lN 0)), none, v6] [] (GG L) J) ∨
    (E 54 5 [u0, u1, some (.long (lN (u / 2 ^ (8 * i)))), none, some (.int (nI i)), u5, u6] [] (GG L) I = some (some (.int 0), GG L, I) ∧ E 169 5 [some (.ref 119), some (.long (lN u)), none, some (.int (nI i)), some (.long (lN (u / 2 ^ (8 * i)))), none, v6] [] (GG L) J = some (some (.int (-2)), GG L, J)) := by
  intro d
  induction d with
  | zero =>
    intro i u0 u1 u5 u6 v6 hd h1 h6 hj
    have hi : i = 8 := by omega
    subst hi
    have hz : u / 2 ^ (8 * 8) = 0 := Nat.div_eq_of_lt hu
    refine Or.inl ⟨8, Nat.le_refl _, hj, ?_, ?_⟩
    · rw [hz, B54_5 h1 h6, if_pos lc0]
    · rw [hz, B169_5, if_pos (by decide)]
  | succ d ih =>
    intro i u0 u1 u5 u6 v6 hd h1 h6 hj
    have hw := wb_lt (n := u) (k := 8 * i) hu
    have hb := by8_lt u i
    have h8 : ¬ (8 : Int32) ≤ nI i := nI_ge (a := i) (b := 8) (by omega) (by decide)
    rw [B54_5 h1 h6, B169_5, if_neg h8, if_neg h8]
    by_cases hz : u / 2 ^ (8 * i) = 0
    · rw [hz, if_pos lc0, show lN 0 &&& 255 = lN 0 from wb_255 (n := 0) (by decide), if_pos lc0]
      exact Or.inl ⟨i, by omega, hj, rfl, rfl⟩
    · rw [if_neg (fun q => hz ((lcz hw).mp q)), wb_255 hw]
      have e8 : u / 2 ^ (8 * i) % 256 = by8 u i := rfl
      rw [e8]
      by_cases q1 : by8 u i < 33
      · rw [if_pos ((lc33 hb).mpr q1)]
        refine Or.inr ⟨rfl, ?_⟩
        by_cases q0 : by8 u i = 0
        · rw [if_pos ((lcz (show by8 u i < 2 ^ 64 by omega)).mpr q0), B169_55]
          by_cases qi : nI i = 0
          · rw [if_pos qi]
          · rw [if_neg qi, if_neg (fun q => hz ((lcz hw).mp q))]
        · rw [if_neg (fun q => q0 ((lcz (show by8 u i < 2 ^ 64 by omega)).mp q)), lN_i, S121, K2_i, B169_36, tI_f (fun q => by
            have := (nI_leI (a := 33) (b := by8 u i) (by decide) (by omega)).mp q.1
            omega), if_pos rfl]
      · rw [if_neg (fun q => q1 ((lc33 hb).mp q))]
        have q0 : ¬ by8 u i = 0 := by omega
        rw [if_neg (fun q => q0 ((lcz (show by8 u i < 2 ^ 64 by omega)).mp q)), lN_i, S121, K2_i, B169_36]
        by_cases q2 : by8 u i ≤ 126
        · rw [if_pos ((lc126 hb).mpr q2), tI_t ⟨nI_le (a := 33) (by omega) (by omega), nI_le (b := 126) q2 (by decide)⟩, if_neg (by decide), show (8 : Int32) = nI 8 from rfl, wb_shr hw (by decide), dv8, nI_1]
          exact ih (i + 1) (by omega) h1 rfl (fun j hj' => by
            by_cases q : j = i
            · subst q; omega
            · exact hj j (by omega))
        · rw [if_neg (fun q => q2 ((lc126 hb).mp q)), tI_f (fun q => q2 ((nI_leI (b := 126) (by omega) (by decide)).mp q.2)), if_pos rfl]
          exact Or.inr ⟨rfl, rfl⟩
/-- the class's writing of the characters -/
theorem S53 {L u l m : Nat} (hu : u < 2 ^ 64) (hm : m ≤ 8) (hl : l + m ≤ 80) : ∀ (q : Nat) {I : It} {x4 : Int32} {u3 : Option Value}, isJ (some u3) = false → q ≤ m → x4 = nI q - 1 → I 2 2 = nI (l + (m - q)) →
    ∃ I', E 53 31 [some (.ref 2), some (.long (lN u)), none, u3, some (.int x4)] [] (GG L) I = some (some (.int (nI (l + m))), GG L, I') ∧ I' 2 2 = nI (l + m) ∧ (∀ a, a ≠ 2 → a ≠ 3 → I' a = I a) ∧ ∀ j, I' 3 j = if l + (m - q) ≤ j ∧ j < l + m then nI (by8 u (l + m - 1 - j)) else I 3 j := by
  intro q
  induction q with
  | zero =>
    intro I x4 u3 h3 hq hx h2
    refine ⟨I, ?_, h2, fun _ _ _ => rfl, fun j => by rw [if_neg (by omega)]⟩
    rw [B53_31 h3, hx, if_pos (by decide), h2]; rfl
  | succ q ih =>
    intro I x4 u3 h3 hq hx h2
    have hx' : x4 = nI q := by rw [hx, nI_pred]
    have hb := by8_lt u q
    have hb' : u / 2 ^ (8 * q) % 256 = by8 u q := rfl
    obtain ⟨I1, hI1⟩ : ∃ I1, uI (uI I 3 (l + (m - (q + 1))) (nI (by8 u q))) 2 2 (nI (l + (m - q))) = I1 := ⟨_, rfl⟩
    obtain ⟨I', e, g1, g2, g3⟩ := ih (I := I1) (x4 := nI q + (-1)) (u3 := u3) h3 (by omega) (by rw [← Int32.sub_eq_add_neg]) (by rw [← hI1, uI_s])
    refine ⟨I', ?_, g1, fun a q2 q3 => (g2 a q2 q3).trans (by rw [← hI1, uI_o _ _ _ _ _ q2, uI_o _ _ _ _ _ q3]), fun j => ?_⟩
    · have hch : ((((((lN u).toUInt64 >>> (((8 * nI q) : Int32).toInt64.toUInt64 &&& Int64.toUInt64 63)).toInt64 &&& 255) : Int64).toInt32).toUInt32 % 65536).toInt32 = nI (by8 u q) := by
        rw [show (8 : Int32) = nI 8 from rfl, nI_mul, wb_shr hu (by omega), wb_255 (wb_lt hu), lN_i, hb', chr_b _ hb]
      rw [B53_31 h3, hx', if_neg (nI_pos (by omega)), hch, h2, if_neg (show ¬ (80 : Int32) ≤ nI (l + (m - (q + 1))) from nI_ge (a := l + (m - (q + 1))) (b := 80) (by omega) (by decide)), uI_a _ _ _ _ _ _ (show (2 : Nat) ≠ 3 by decide), h2, ck_of (by rw [inb_nI (by omega) (by decide), nI_toInt (by omega)]; simp; omega), ix_nI (by omega), nI_1, show l + (m - (q + 1)) + 1 = l + (m - q) by omega, hI1]
      exact e
    · rw [g3 j, ← hI1, uI_o _ _ _ _ _ (show (3 : Nat) ≠ 2 by decide)]
      by_cases c1 : l + (m - q) ≤ j ∧ j < l + m
      · rw [if_pos c1, if_pos (by omega)]
      · rw [if_neg c1]
        by_cases c2 : j = l + (m - (q + 1))
        · subst c2
          rw [uI_s, if_pos (by omega)]
          congr 2
          omega
        · rw [uI_k _ _ _ _ _ c2, if_neg (by omega)]
/-- the reference's writing of the characters -/
theorem S169 {L u l m : Nat} (hu : u < 2 ^ 64) (hm : m ≤ 8) (hl : l + m ≤ 80) : ∀ (d k : Nat) {J : It} {u4 u5 : Option Value}, isJ (some u5) = false → d + k = m → J 119 5 = nI l →
    ∃ J', E 169 86 [some (.ref 119), some (.long (lN u)), none, some (.int (nI m)), u4, u5, some (.int (nI k))] [] (GG L) J = some (some (.int (nI (l + m))), GG L, J') ∧ J' 119 5 = nI (l + m) ∧ (∀ j, j ≠ 5 → J' 119 j = J 119 j) ∧ (∀ a, a ≠ 119 → a ≠ 124 → J' a = J a) ∧ ∀ j, J' 124 j = if l + k ≤ j ∧ j < l + m then nI (by8 u (l + m - 1 - j)) else J 124 j := by
  intro d
  induction d with
  | zero =>
    intro k J u4 u5 h5 hd hp
    have hk : k = m := by omega
    subst hk
    refine ⟨uI J 119 5 (nI (l + k)), ?_, uI_s _ _ _ _, fun j hj => uI_k _ _ _ _ _ hj, fun a h _ => uI_o _ _ _ _ _ h, fun j => by rw [if_neg (by omega), uI_o _ _ _ _ _ (by decide)]⟩
    rw [B169_86 h5, if_pos (Int32.le_refl _), hp, nI_add, uI_s]
  | succ d ih =>
    intro k J u4 u5 h5 hd hp
    have hb' : u / 2 ^ (8 * (m - 1 - k)) % 256 = by8 u (m - 1 - k) := rfl
    obtain ⟨J1, hJ1⟩ : ∃ J1, uI J 124 (l + k) (nI (by8 u (m - 1 - k))) = J1 := ⟨_, rfl⟩
    obtain ⟨J', e, g1, g2, g3, g4⟩ := ih (k + 1) (J := J1) (u4 := u4) (u5 := u5) h5 (by omega) (by rw [← hJ1, uI_o _ _ _ _ _ (by decide)]; exact hp)
    refine ⟨J', ?_, g1, fun j hj => (g2 j hj).trans (by rw [← hJ1, uI_o _ _ _ _ _ (by decide)]), fun a q1 q2 => (g3 a q1 q2).trans (by rw [← hJ1, uI_o _ _ _ _ _ q2]), fun j => ?_⟩
    · have hs : (8 : Int32) * ((nI m - 1) - nI k) = nI (8 * (m - 1 - k)) := by
        rw [show (1 : Int32) = nI 1 from rfl, nI_sub (by omega), nI_sub (by omega), show (8 : Int32) = nI 8 from rfl, nI_mul]
      rw [B169_86 h5, if_neg (nI_ge (show k < m by omega) (by omega)), hp, nI_add, ck_of (inb_nI (by omega) (by decide)), ix_nI (by omega), hs, wb_sar (by omega), lN_i, hb', nI_1, hJ1]
      exact e
    · rw [g4 j, ← hJ1]
      by_cases c1 : l + (k + 1) ≤ j ∧ j < l + m
      · rw [if_pos c1, if_pos (by omega)]
      · rw [if_neg c1]
        by_cases c2 : j = l + k
        · subst c2
          rw [uI_s, if_pos (by omega)]
          congr 2
          omega
        · rw [uI_k _ _ _ _ _ c2, if_neg (by omega)]
theorem M_put (x : Int64) : Sm 110 [some (.ref 1), some (.long x), none] 169 [some (.ref 119), some (.long x), none, none, none, none, none] := fun L n I J hr => by
  obtain ⟨hR, hD, hK, l, hl, p2, p5, hc⟩ := id hr
  obtain ⟨u, hu, rfl⟩ := wb_of x
  have h0 : u / 2 ^ (8 * 0) = u := by simp
  have hcnt := P_cnt (L := L) (I := I) (J := J) hu 8 0 (u0 := some (.long (lN u))) (u1 := none) (u5 := none) (u6 := none) (v6 := none) rfl rfl rfl (fun j hj => absurd hj (by omega))
  rw [h0] at hcnt
  rw [B110_0, B53_0, B54_0, B169_0]
  rcases hcnt with ⟨m, hm, hbs, c1, c2⟩ | ⟨c1, c2⟩
  · have c1' : E 54 5 [some (.long (lN u)), none, some (.long (lN u)), none, some (.int 0), none, none] [] (GG L) I = some (some (.int (nI m)), GG L, I) := c1
    have c2' : E 169 5 [some (.ref 119), some (.long (lN u)), none, some (.int 0), some (.long (lN u)), none, none] [] (GG L) J = E 169 55 [some (.ref 119), some (.long (lN u)), none, some (.int (nI m)), some (.long (lN 0)), none, none] [] (GG L) J := c2
    rw [c1', K2_i, B53_4, c2', B169_55]
    by_cases hm0 : nI m = 0
    · rw [if_pos hm0, if_pos hm0, K2_i, B110_8]
      exact ⟨_, _, _, _, rfl, rfl, hr, fun _ _ => rfl, fun _ _ => rfl⟩
    · rw [if_neg hm0, if_neg hm0, if_pos lc0, p2, p5, nI_add]
      by_cases hle : l + m ≤ 80
      · have hle' : nI (l + m) ≤ (80 : Int32) := nI_le (b := 80) hle (by decide)
        obtain ⟨I', e1, g1, g2, g3⟩ := S53 (L := L) hu hm hle m (I := I) (x4 := nI m - 1) (u3 := some (.int (nI m))) rfl (Nat.le_refl _) rfl (by rw [Nat.sub_self]; exact p2)
        obtain ⟨J', e2, k1, k2, k3, k4⟩ := S169 (L := L) hu hm hle m 0 (J := J) (u4 := some (.long (lN 0))) (u5 := none) rfl (by omega) p5
        have e2' : E 169 86 [some (.ref 119), some (.long (lN u)), none, some (.int (nI m)), some (.long (lN 0)), none, some (.int 0)] [] (GG L) J = some (some (.int (nI (l + m))), GG L, J') := e2
        rw [if_pos hle', if_pos hle', e1, K2_i, B110_8, e2']
        refine ⟨I', J', n, _, rfl, rfl, ⟨?_, ?_, fun i hi => ?_, l + m, hle, g1, k1, fun j hj => ?_⟩, fun a q => g2 a (by omega) (by omega), fun a q => k3 a (by omega) (by omega)⟩
        · exact Ry_2 hR (fun a q1 q2 => g2 a (by omega) (by omega)) (k2 6 (by decide)) (fun a q1 q2 => k3 a (by omega) (by omega))
        · rw [k3 125 (by decide) (by decide), k3 120 (by decide) (by decide)]
          exact Rd_c hD (fun a q1 q2 => g2 a (by omega) (by omega)) (fun _ _ => rfl) (fun _ _ _ _ => rfl)
        · obtain ⟨x1, x2, x3⟩ := hK i hi
          rw [g2 118 (by decide) (by decide), k3 123 (by decide) (by decide), k3 125 (by decide) (by decide), k3 122 (by decide) (by decide)]
          exact ⟨x1, x2, fun q => Rd_c (x3 q) (fun a q1 q2 => g2 a (by omega) (by omega)) (fun _ _ => rfl) (fun _ _ _ _ => rfl)⟩
        · rw [g3 j, k4 j, Nat.sub_self]
          by_cases q : l + 0 ≤ j ∧ j < l + m
          · rw [if_pos q, if_pos q]
            obtain ⟨b1, b2⟩ := hbs (l + m - 1 - j) (by omega)
            exact ⟨rfl, _, b1, b2, rfl⟩
          · rw [if_neg q, if_neg q]
            exact hc j (by omega)
      · have hgt : ¬ nI (l + m) ≤ (80 : Int32) := nI_ge (a := 80) (b := l + m) (by omega) (by omega)
        rw [if_neg hgt, if_neg hgt, K2_i, B110_8]
        exact ⟨_, _, _, _, rfl, rfl, hr, fun _ _ => rfl, fun _ _ => rfl⟩
  · have c1' : E 54 5 [some (.long (lN u)), none, some (.long (lN u)), none, some (.int 0), none, none] [] (GG L) I = some (some (.int 0), GG L, I) := c1
    have c2' : E 169 5 [some (.ref 119), some (.long (lN u)), none, some (.int 0), some (.long (lN u)), none, none] [] (GG L) J = some (some (.int (-2)), GG L, J) := c2
    rw [c1', K2_i, B53_4, if_pos rfl, K2_i, B110_8, c2']
    exact ⟨_, _, _, _, rfl, rfl, hr, fun _ _ => rfl, fun _ _ => rfl⟩
theorem M_wipe : Sm 111 [some (.ref 1), none] 170 [some (.ref 119), none] := fun L n I J hr => by
  obtain ⟨hR, hD, hK, l, hl, p2, p5, hc⟩ := id hr
  rw [B111_0, B50_0, K2_i, B111_7, B52_0, K2_v, B111_15, B170_0, p2, p5]
  refine ⟨_, _, n, _, rfl, rfl, ⟨?_, ?_, fun i hi => ?_, 0, by decide, uI_s _ _ _ _, uI_s _ _ _ _, fun k hk => absurd hk (by omega)⟩, fun a q => uI_o _ _ _ _ _ (by omega), fun a q => uI_o _ _ _ _ _ (by omega)⟩
  · exact Ry_2 hR (fun a q1 q2 => uI_o _ _ _ _ _ (by omega)) (uI_k _ _ _ _ _ (by decide)) (fun a q1 q2 => uI_o _ _ _ _ _ (by omega))
  · rw [uI_o _ _ _ _ 125 (by decide), uI_o _ _ _ _ 120 (by decide)]
    exact Rd_c hD (fun a q1 q2 => uI_o _ _ _ _ _ (by omega)) (fun _ _ => rfl) (fun _ _ _ _ => rfl)
  · obtain ⟨x1, x2, x3⟩ := hK i hi
    rw [uI_o _ _ _ _ 118 (by decide), uI_o _ _ _ _ 123 (by decide), uI_o _ _ _ _ 125 (by decide), uI_o _ _ _ _ 122 (by decide)]
    exact ⟨x1, x2, fun q => Rd_c (x3 q) (fun a q1 q2 => uI_o _ _ _ _ _ (by omega)) (fun _ _ => rfl) (fun _ _ _ _ => rfl)⟩
