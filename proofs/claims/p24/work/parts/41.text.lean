/-! ===== p24: texts: characters put, numbers and steps read (the class's sides of whole's parts) ===== -/
theorem i_10 (v i : Nat) : 10 * nI v + nI i = nI (10 * v + i) := by rw [show (10 : Int32) = nI 10 from rfl, nI_mul, nI_add]
theorem wb_tb (n : Nat) : (lN n).toBitVec = BitVec.ofNat 64 n := rfl
theorem wb_inj {a b : Int64} (h : a.toBitVec = b.toBitVec) : a = b := Int64.toBitVec_inj.mp h
theorem wb_tn {n : Nat} (h : n < 2 ^ 64) : (lN n).toBitVec.toNat = n := by rw [wb_tb, BitVec.toNat_ofNat, Nat.mod_eq_of_lt h]
theorem wb_of (x : Int64) : ∃ n, n < 2 ^ 64 ∧ x = lN n := ⟨x.toBitVec.toNat, x.toBitVec.isLt, wb_inj (by rw [wb_tb]; simp)⟩
theorem wb_of32 (x : Int32) : ∃ n, n < 2 ^ 32 ∧ x = nI n := ⟨x.toBitVec.toNat, x.toBitVec.isLt, Int32.toBitVec_inj.mp (by show _ = BitVec.ofNat 32 _; simp)⟩
theorem wb_c : ∀ k, k < 64 → ((nI k).toInt64 &&& 63) = lN k := by decide +kernel
theorem wb_cu : ∀ k, k < 64 → ((nI k).toInt64.toUInt64 &&& Int64.toUInt64 63) = UInt64.ofNat k := by decide +kernel
theorem wb_sm : ∀ k, k < 64 → (BitVec.ofNat 64 k).smod 64 = BitVec.ofNat 64 k := by decide +kernel
theorem wb_pw {a b : Nat} (h : a ≤ b) : 2 ^ b = 2 ^ a * 2 ^ (b - a) := by rw [← Nat.pow_add]; congr 1; omega
theorem wb_lt2 {a b : Nat} (h : a < b) : 2 ^ a < 2 ^ b := Nat.pow_lt_pow_right (by decide) h
theorem wb_mod (n : Nat) : lN n = lN (n % 2 ^ 64) := wb_inj (by rw [wb_tb, wb_tb]; apply BitVec.eq_of_toNat_eq; rw [BitVec.toNat_ofNat, BitVec.toNat_ofNat, Nat.mod_mod])
theorem wb_shr {n k : Nat} (hn : n < 2 ^ 64) (hk : k < 64) : ((lN n).toUInt64 >>> ((nI k).toInt64.toUInt64 &&& Int64.toUInt64 63)).toInt64 = lN (n / 2 ^ k) := by
  rw [wb_cu k hk]
  apply wb_inj
  apply BitVec.eq_of_toNat_eq
  show ((lN n).toUInt64 >>> UInt64.ofNat k).toNat = (BitVec.ofNat 64 _).toNat
  have h1 : (UInt64.ofNat k).toNat = k := by
    show (BitVec.ofNat 64 k).toNat = k
    rw [BitVec.toNat_ofNat, Nat.mod_eq_of_lt (by omega)]
  have h2 : (lN n).toUInt64.toNat = n := wb_tn hn
  rw [UInt64.toNat_shiftRight, h1, h2, Nat.mod_eq_of_lt hk, Nat.shiftRight_eq_div_pow, BitVec.toNat_ofNat, Nat.mod_eq_of_lt (Nat.lt_of_le_of_lt (Nat.div_le_self _ _) hn)]
theorem wb_shl (n : Nat) {k : Nat} (hk : k < 64) : lN n <<< ((nI k).toInt64 &&& 63) = lN (n * 2 ^ k) := by
  rw [wb_c k hk]
  apply wb_inj
  rw [Int64.toBitVec_shiftLeft, wb_tb, wb_tb, wb_tb, wb_sm k hk]
  apply BitVec.eq_of_toNat_eq
  rw [BitVec.shiftLeft_eq', BitVec.toNat_shiftLeft, BitVec.toNat_ofNat, BitVec.toNat_ofNat, BitVec.toNat_ofNat, Nat.mod_eq_of_lt (show k < 2 ^ 64 by omega), Nat.shiftLeft_eq, Nat.mul_mod, Nat.mod_mod, ← Nat.mul_mod]
theorem wb_and {a b : Nat} (ha : a < 2 ^ 64) (hb : b < 2 ^ 64) : lN a &&& lN b = lN (a &&& b) := by
  apply wb_inj
  rw [Int64.toBitVec_and, wb_tb, wb_tb, wb_tb]
  apply BitVec.eq_of_toNat_eq
  rw [BitVec.toNat_and, BitVec.toNat_ofNat, BitVec.toNat_ofNat, BitVec.toNat_ofNat, Nat.mod_eq_of_lt ha, Nat.mod_eq_of_lt hb, Nat.mod_eq_of_lt (Nat.and_lt_two_pow _ hb)]
theorem wb_or {a b : Nat} (ha : a < 2 ^ 64) (hb : b < 2 ^ 64) : lN a ||| lN b = lN (a ||| b) := by
  apply wb_inj
  rw [Int64.toBitVec_or, wb_tb, wb_tb, wb_tb]
  apply BitVec.eq_of_toNat_eq
  rw [BitVec.toNat_or, BitVec.toNat_ofNat, BitVec.toNat_ofNat, BitVec.toNat_ofNat, Nat.mod_eq_of_lt ha, Nat.mod_eq_of_lt hb, Nat.mod_eq_of_lt (Nat.or_lt_two_pow ha hb)]
theorem wb_mask {n k : Nat} (hn : n < 2 ^ 64) (hk : k < 64) : lN n &&& lN (2 ^ k - 1) = lN (n % 2 ^ k) := by
  rw [wb_and hn (by have := wb_lt2 hk; omega), Nat.and_two_pow_sub_one_eq_mod]
theorem wb_a1 {n : Nat} (hn : n < 2 ^ 64) : lN n &&& 1 = lN (n % 2) := wb_mask (k := 1) hn (by decide)
theorem wb_bit {n k : Nat} (hn : n < 2 ^ 64) (hk : k < 64) : ((lN n).toUInt64 >>> ((nI k).toInt64.toUInt64 &&& Int64.toUInt64 63)).toInt64 &&& 1 = lN (n / 2 ^ k % 2) := by
  rw [wb_shr hn hk, wb_a1 (Nat.lt_of_le_of_lt (Nat.div_le_self _ _) hn)]
/-- a byte out of a long, as the signed shift gives it -/
theorem wb_sar {n k : Nat} (hk : k ≤ 56) : (lN n >>> ((nI k).toInt64 &&& 63)) &&& 255 = lN (n / 2 ^ k % 256) := by
  rw [wb_c k (by omega)]
  apply wb_inj
  rw [Int64.toBitVec_and, Int64.toBitVec_shiftRight, wb_tb, wb_tb, wb_tb, wb_sm k (by omega), show (255 : Int64).toBitVec = BitVec.ofNat 64 (2 ^ 8 - 1) from rfl, show (256 : Nat) = 2 ^ 8 from rfl]
  apply BitVec.eq_of_getLsbD_eq
  intro i hi
  rw [BitVec.getLsbD_and, BitVec.sshiftRight_eq', BitVec.getLsbD_sshiftRight, BitVec.getLsbD_ofNat, BitVec.getLsbD_ofNat, BitVec.getLsbD_ofNat, BitVec.toNat_ofNat, Nat.mod_eq_of_lt (show k < 2 ^ 64 by omega), Nat.testBit_two_pow_sub_one, Nat.testBit_mod_two_pow, Nat.testBit_div_two_pow]
  by_cases h8 : i < 8
  · have h1 : k + i < 64 := by omega
    have h2 : ¬ 64 ≤ i := by omega
    simp [h8, h1, hi, h2, Nat.add_comm]
  · simp [h8]
theorem wb_lt {n k : Nat} (hn : n < 2 ^ 64) : n / 2 ^ k < 2 ^ 64 := Nat.lt_of_le_of_lt (Nat.div_le_self _ _) hn
theorem wb_255 {n : Nat} (hn : n < 2 ^ 64) : lN n &&& 255 = lN (n % 256) := wb_mask (k := 8) hn (by decide)
theorem wb_0 {n : Nat} (hn : n < 2 ^ 64) : lN n = 0 ↔ n = 0 := by
  constructor
  · intro h
    have := congrArg (fun z => z.toBitVec.toNat) h
    simpa [wb_tn hn] using this
  · rintro rfl; rfl
theorem chr_b : ∀ b, b < 256 → ((nI b).toUInt32 % 65536).toInt32 = nI b := by decide +kernel
theorem lc0 : lg_cmp (lN 0) 0 = 0 := (lg_cmp_eq _ _).mpr rfl
theorem lcz {b : Nat} (h : b < 2 ^ 64) : lg_cmp (lN b) 0 = 0 ↔ b = 0 := (lg_cmp_eq _ _).trans (wb_0 h)
theorem lc33 {b : Nat} (h : b < 256) : lg_cmp (lN b) 33 < 0 ↔ b < 33 := (lg_cmp_lt _ _).trans (lN_lt (b := 33) (by omega) (by decide))
theorem lc126 {b : Nat} (h : b < 256) : lg_cmp (lN b) 126 ≤ 0 ↔ b ≤ 126 := (lg_cmp_le _ _).trans (lN_le (b := 126) (by omega) (by decide))
/-- the byte k of a number -/
def by8 (u k : Nat) : Nat := u / 2 ^ (8 * k) % 256
theorem by8_lt (u k : Nat) : by8 u k < 256 := Nat.mod_lt _ (by decide)
theorem dv8 (u i : Nat) : u / 2 ^ (8 * i) / 2 ^ 8 = u / 2 ^ (8 * (i + 1)) := by
  rw [Nat.div_div_eq_div_mul, ← Nat.pow_add, Nat.mul_add, Nat.mul_one]
/-- the characters are counted -/
theorem S54 {L : Nat × Nat} {u m : Nat} {I : It} (hu : u < 2 ^ 64) (hm : m ≤ 8) (hz : u / 2 ^ (8 * m) = 0) (hc : ∀ j, j < m → 33 ≤ by8 u j ∧ by8 u j ≤ 126) : ∀ (d i : Nat) {u0 u1 u5 u6 : Option Value}, d + i = m → isJ (some u1) = false → isJ (some u6) = false → E 54 5 [u0, u1, some (.long (lN (u / 2 ^ (8 * i)))), none, some (.int (nI i)), u5, u6] [] (GG L) I = some (some (.int (nI m)), GG L, I) := by
  intro d
  induction d with
  | zero =>
    intro i u0 u1 u5 u6 hd h1 h6
    have hi : i = m := by omega
    subst hi
    rw [hz, B54_5 h1 h6, if_pos lc0]
  | succ d ih =>
    intro i u0 u1 u5 u6 hd h1 h6
    have hw := wb_lt (n := u) (k := 8 * i) hu
    have hb := by8_lt u i
    obtain ⟨c1, c2⟩ := hc i (by omega)
    have h8 : ¬ (8 : Int32) ≤ nI i := nI_ge (a := i) (b := 8) (by omega) (by decide)
    have hz' : ¬ u / 2 ^ (8 * i) = 0 := fun q => by unfold by8 at c1; rw [q] at c1; omega
    have e8 : u / 2 ^ (8 * i) % 256 = by8 u i := rfl
    rw [B54_5 h1 h6, if_neg (fun q => hz' ((lcz hw).mp q)), if_neg h8, wb_255 hw, e8, if_neg (fun q => by have := (lc33 hb).mp q; omega), if_pos ((lc126 hb).mpr c2), show (8 : Int32) = nI 8 from rfl, wb_shr hw (by decide), dv8, nI_1]
    exact ih (i + 1) (by omega) h1 rfl
/-- the class's writing of the characters -/
theorem S53 {L : Nat × Nat} {u l m : Nat} (hu : u < 2 ^ 64) (hm : m ≤ 8) (hl : l + m ≤ 80) : ∀ (q : Nat) {I : It} {x4 : Int32} {u3 : Option Value}, isJ (some u3) = false → q ≤ m → x4 = nI q - 1 → I 2 2 = nI (l + (m - q)) →
    ∃ I', E 53 31 [some (.ref 2), some (.long (lN u)), none, u3, some (.int x4)] [] (GG L) I = some (some (.int (nI (l + m))), GG L, I') ∧ I' 2 2 = nI (l + m) ∧ (∀ a, a ≠ 2 → a ≠ 3 → I' a = I a) ∧ ∀ j, I' 3 j = if l + (m - q) ≤ j ∧ j < l + m then nI (by8 u (l + m - 1 - j)) else I 3 j := by
  intro q
  induction q with
  | zero =>
    intro I x4 u3 h3 hq hx h2
    refine ⟨I, ?_, h2, fun _ _ _ => rfl, fun j => by rw [if_neg (by omega)]⟩
    rw [B53_31 h3, hx, if_pos (by decide), h2]; rfl
  | succ q ih =>
    intro I x4 u3 h3 hq hx h2
    have hx' : x4 = nI q := by rw [hx, nI_pred]
    have hb := by8_lt u q
    have hb' : u / 2 ^ (8 * q) % 256 = by8 u q := rfl
    obtain ⟨I1, hI1⟩ : ∃ I1, uI (uI I 3 (l + (m - (q + 1))) (nI (by8 u q))) 2 2 (nI (l + (m - q))) = I1 := ⟨_, rfl⟩
    obtain ⟨I', e, g1, g2, g3⟩ := ih (I := I1) (x4 := nI q + (-1)) (u3 := u3) h3 (by omega) (by rw [← Int32.sub_eq_add_neg]) (by rw [← hI1, uI_s])
    refine ⟨I', ?_, g1, fun a q2 q3 => (g2 a q2 q3).trans (by rw [← hI1, uI_o _ _ _ _ _ q2, uI_o _ _ _ _ _ q3]), fun j => ?_⟩
    · have hch : ((((((lN u).toUInt64 >>> (((8 * nI q) : Int32).toInt64.toUInt64 &&& Int64.toUInt64 63)).toInt64 &&& 255) : Int64).toInt32).toUInt32 % 65536).toInt32 = nI (by8 u q) := by
        rw [show (8 : Int32) = nI 8 from rfl, nI_mul, wb_shr hu (by omega), wb_255 (wb_lt hu), lN_i, hb', chr_b _ hb]
      rw [B53_31 h3, hx', if_neg (nI_pos (by omega)), hch, h2, if_neg (show ¬ (80 : Int32) ≤ nI (l + (m - (q + 1))) from nI_ge (a := l + (m - (q + 1))) (b := 80) (by omega) (by decide)), uI_a _ _ _ _ _ _ (show (2 : Nat) ≠ 3 by decide), h2, ck_of (by rw [inb_nI (by omega) (by decide), nI_toInt (by omega)]; simp; omega), ix_nI (by omega), nI_1, show l + (m - (q + 1)) + 1 = l + (m - q) by omega, hI1]
      exact e
    · rw [g3 j, ← hI1, uI_o _ _ _ _ _ (show (3 : Nat) ≠ 2 by decide)]
      by_cases c1 : l + (m - q) ≤ j ∧ j < l + m
      · rw [if_pos c1, if_pos (by omega)]
      · rw [if_neg c1]
        by_cases c2 : j = l + (m - (q + 1))
        · subst c2
          rw [uI_s, if_pos (by omega)]
          congr 2
          omega
        · rw [uI_k _ _ _ _ _ c2, if_neg (by omega)]
theorem uI_uI (I : It) (o k : Nat) (x y : Int32) : uI (uI I o k x) o k y = uI I o k y := by
  funext a j
  unfold uI
  by_cases h : a = o
  · simp only [if_pos h]
    by_cases h2 : j = k
    · simp only [if_pos h2]
    · simp only [if_neg h2]
  · simp only [if_neg h]
theorem uI_cm (I : It) (o o' k k' : Nat) (x y : Int32) (h : o ≠ o' ∨ k ≠ k') : uI (uI I o k x) o' k' y = uI (uI I o' k' y) o k x := by
  funext a j
  unfold uI
  by_cases h1 : a = o
  · by_cases h2 : a = o'
    · by_cases h3 : j = k
      · by_cases h4 : j = k'
        · rcases h with h | h
          · exact absurd (h1.symm.trans h2) h
          · exact absurd (h3.symm.trans h4) h
        · simp only [if_pos h1, if_pos h2, if_pos h3, if_neg h4]
      · simp only [if_pos h1, if_pos h2, if_neg h3]
    · simp only [if_pos h1, if_neg h2]
  · simp only [if_neg h1]
/-- a text: its length, its codes, 0 behind it -/
def Tc (l : Nat) (c : Nat → Nat) : Prop := l ≤ 80 ∧ (∀ k, k < l → 33 ≤ c k ∧ c k ≤ 126) ∧ ∀ k, l ≤ k → c k = 0
def TI (l : Nat) (c : Nat → Nat) (I : It) : Prop := I 2 2 = nI l ∧ ∀ k, k < l → I 3 k = nI (c k)
/-- the class has read up to a place; the reference has, and whether something was wrong -/
def AI (I : It) (a : Nat) : It := uI I 2 3 (nI a)
theorem AI_3 (I : It) (a : Nat) : AI I a 2 3 = nI a := uI_s _ _ _ _
theorem AI_2 (I : It) (a : Nat) : AI I a 2 2 = I 2 2 := uI_k _ _ _ _ _ (by decide)
theorem AI_o (I : It) (a o : Nat) (h : o ≠ 2) : AI I a o = I o := uI_o _ _ _ _ _ h
theorem AI_u (I : It) (a b : Nat) : uI (AI I a) 2 3 (nI b) = AI I b := uI_uI _ _ _ _ _
theorem sub_toInt {x y : Nat} (hx : x < 2 ^ 30) (hy : y < 2 ^ 30) : (nI x - nI y).toInt = (x : Int) - (y : Int) := by
  rw [Int32.toInt_sub, nI_toInt (by omega), nI_toInt (by omega)]
  exact Int.bmod_eq_of_le (by omega) (by omega)
theorem sub_lt {x y z : Nat} (hx : x < 2 ^ 30) (hy : y < 2 ^ 30) (hz : z < 2 ^ 30) : nI x - nI y < nI z ↔ x < y + z := by
  rw [Int32.lt_iff_toInt_lt, sub_toInt hx hy, nI_toInt (by omega)]; omega
theorem sub_le {x y z : Nat} (hx : x < 2 ^ 30) (hy : y < 2 ^ 30) (hz : z < 2 ^ 30) : nI x - nI y ≤ nI z ↔ x ≤ y + z := by
  rw [Int32.le_iff_toInt_le, sub_toInt hx hy, nI_toInt (by omega)]; omega
theorem Tc_lt {l : Nat} {c : Nat → Nat} (h : Tc l c) {a : Nat} (ha : 0 < c a) : a < l := by
  by_cases q : a < l
  · exact q
  · have := h.2.2 a (by omega); omega
theorem Tc_le {l : Nat} {c : Nat → Nat} (h : Tc l c) (a : Nat) : c a ≤ 126 := by
  by_cases q : a < l
  · exact (h.2.1 a q).2
  · have := h.2.2 a (by omega); omega
/-- one sign of a span, in the class -/
theorem S65 {L : Nat × Nat} {l a b lo hi : Nat} {c : Nat → Nat} {I : It} {xb xl xh : Int32} (eb : xb = nI b) (el : xl = nI lo) (eh : xh = nI hi) (hT : Tc l c) (hI : TI l c I) (ha : a ≤ l) (h0 : 0 < b + lo) (hb : b < 300) (hlo : lo < 300) (hhi : hi < 300) :
    E 65 0 [some (.ref 2), some (.int xb), some (.int xl), some (.int xh), none] [] (GG L) (AI I a) = if b + lo ≤ c a ∧ c a ≤ b + hi then some (some (.int (nI (c a - b))), GG L, AI I (a + 1)) else some (some (.int (-6)), GG L, AI I a) := by
  subst eb; subst el; subst eh
  have hl := hT.1
  have hc := Tc_le hT a
  rw [B65_0, AI_2, AI_3, hI.1]
  by_cases q : a < l
  · rw [if_neg (nI_ge q (by omega)), if_pos (show nI a < (80 : Int32) from nI_lt (b := 80) (by omega) (by decide)), ck_of (inb_nI (by omega) (by decide)), ix_nI (by omega), AI_o _ _ _ (by decide), hI.2 a q]
    by_cases h1 : b + lo ≤ c a
    · rw [if_neg (fun z => by have := (sub_lt (by omega) (by omega) (by omega)).mp z; omega)]
      by_cases h2 : c a ≤ b + hi
      · rw [if_pos ((sub_le (by omega) (by omega) (by omega)).mpr h2), if_pos ⟨h1, h2⟩, nI_sub (by omega), nI_1, AI_u]
      · rw [if_neg (fun z => h2 ((sub_le (by omega) (by omega) (by omega)).mp z)), if_neg (fun z => h2 z.2)]
    · rw [if_pos ((sub_lt (by omega) (by omega) (by omega)).mpr (by omega)), if_neg (fun z => h1 z.1)]
  · have e := hT.2.2 a (by omega)
    rw [if_pos (nI_le (by omega) (by omega)), if_neg (fun z => by omega)]
theorem S65n {L : Nat × Nat} {l a : Nat} {c : Nat → Nat} {I : It} {xh : Int32} (hh : xh < 0) (hT : Tc l c) (hI : TI l c I) (ha : a ≤ l) :
    E 65 0 [some (.ref 2), some (.int 48), some (.int 0), some (.int xh), none] [] (GG L) (AI I a) = some (some (.int (-6)), GG L, AI I a) := by
  have hl := hT.1
  rw [B65_0, AI_2, AI_3, hI.1]
  by_cases q : a < l
  · rw [if_neg (nI_ge q (by omega)), if_pos (show nI a < (80 : Int32) from nI_lt (b := 80) (by omega) (by decide)), ck_of (inb_nI (by omega) (by decide)), ix_nI (by omega), AI_o _ _ _ (by decide), hI.2 a q]
    by_cases h1 : nI (c a) - 48 < 0
    · rw [if_pos h1]
    · rw [if_neg h1, if_neg (fun z => h1 (Int32.lt_of_le_of_lt z hh))]
  · rw [if_pos (nI_le (by omega) (by omega))]
theorem S64 {L : Nat × Nat} {l a s : Nat} {c : Nat → Nat} {I : It} {x : Int32} (e : x = nI s) (hT : Tc l c) (hI : TI l c I) (ha : a ≤ l) (h0 : 0 < s) (hs : s < 300) :
    E 64 0 [some (.ref 2), some (.int x)] [] (GG L) (AI I a) = if c a = s then some (some (.int 1), GG L, AI I (a + 1)) else some (some (.int 0), GG L, AI I a) := by
  rw [B64_0, S65 (b := s) (lo := 0) (hi := 0) (xb := x) (xl := 0) (xh := 0) e rfl rfl hT hI ha (by omega) hs (by decide) (by decide)]
  by_cases h : c a = s
  · rw [if_pos (by omega), if_pos h, K2_i, B64_7, if_neg]
    rw [h, Nat.sub_self]; decide
  · rw [if_neg (by omega), if_neg h, K2_i, B64_7, if_pos rfl]
theorem S62 {L : Nat × Nat} {l a : Nat} {c : Nat → Nat} {I : It} (hT : Tc l c) (hI : TI l c I) (ha : a ≤ l) :
    E 62 0 [some (.ref 2)] [] (GG L) (AI I a) = if 97 ≤ c a ∧ c a ≤ 106 then some (some (.int (nI (c a - 97))), GG L, AI I (a + 1)) else some (some (.int (-6)), GG L, AI I a) := by
  rw [B62_0, S65 (b := 97) (lo := 0) (hi := 9) (xb := 97) (xl := 0) (xh := 9) rfl rfl rfl hT hI ha (by decide) (by decide) (by decide) (by decide)]
  by_cases h : 97 ≤ c a ∧ c a ≤ 106
  · rw [if_pos h, K2_i, B62_9]
  · rw [if_neg h, K2_i, B62_9]
theorem S63 {L : Nat × Nat} {l a lo hi : Nat} {c : Nat → Nat} {I : It} {xl xh : Int32} (el : xl = nI lo) (eh : xh = nI hi) (hT : Tc l c) (hI : TI l c I) (ha : a ≤ l) (hlo : lo < 300) (hhi : hi < 300) :
    E 63 0 [some (.ref 2), some (.int xl), some (.int xh)] [] (GG L) (AI I a) = if 48 + lo ≤ c a ∧ c a ≤ 48 + hi then some (some (.int (nI (c a - 48))), GG L, AI I (a + 1)) else some (some (.int (-6)), GG L, AI I a) := by
  rw [B63_0, S65 (b := 48) (lo := lo) (hi := hi) (xb := 48) (xl := xl) (xh := xh) rfl el eh hT hI ha (by omega) (by decide) hlo hhi]
  by_cases h : 48 + lo ≤ c a ∧ c a ≤ 48 + hi
  · rw [if_pos h, K2_i, B63_8]
  · rw [if_neg h, K2_i, B63_8]
/-- a number, as it is read: its value, and the place behind it -/
def nu (c : Nat → Nat) (a : Nat) : Option (Nat × Nat) :=
  if 48 ≤ c a ∧ c a ≤ 57 then
    if 0 < c a - 48 ∧ 48 ≤ c (a + 1) ∧ c (a + 1) ≤ 57 then
      if 48 ≤ c (a + 2) ∧ c (a + 2) ≤ 57 ∧ 10 * (10 * (c a - 48) + (c (a + 1) - 48)) + (c (a + 2) - 48) ≤ 255 then some (10 * (10 * (c a - 48) + (c (a + 1) - 48)) + (c (a + 2) - 48), a + 3)
      else some (10 * (c a - 48) + (c (a + 1) - 48), a + 2)
    else some (c a - 48, a + 1)
  else none
theorem nu_ok {l a : Nat} {c : Nat → Nat} {q : Nat × Nat} (hT : Tc l c) (h : nu c a = some q) : q.1 ≤ 255 ∧ a < q.2 ∧ q.2 ≤ l := by
  unfold nu at h
  by_cases h1 : 48 ≤ c a ∧ c a ≤ 57
  · have l1 := Tc_lt hT (a := a) (by omega)
    rw [if_pos h1] at h
    by_cases h2 : 0 < c a - 48 ∧ 48 ≤ c (a + 1) ∧ c (a + 1) ≤ 57
    · have l2 := Tc_lt hT (a := a + 1) (by omega)
      rw [if_pos h2] at h
      by_cases h3 : 48 ≤ c (a + 2) ∧ c (a + 2) ≤ 57 ∧ 10 * (10 * (c a - 48) + (c (a + 1) - 48)) + (c (a + 2) - 48) ≤ 255
      · have l3 := Tc_lt hT (a := a + 2) (by omega)
        rw [if_pos h3] at h
        cases h
        exact ⟨h3.2.2, by show a < a + 3; omega, by show a + 3 ≤ l; omega⟩
      · rw [if_neg h3] at h
        cases h
        exact ⟨by show 10 * (c a - 48) + (c (a + 1) - 48) ≤ 255; omega, by show a < a + 2; omega, by show a + 2 ≤ l; omega⟩
    · rw [if_neg h2] at h
      cases h
      exact ⟨by show c a - 48 ≤ 255; omega, by show a < a + 1; omega, by show a + 1 ≤ l; omega⟩
  · rw [if_neg h1] at h; cases h
def nuI (L : Nat × Nat) (I : It) (a : Nat) (q : Option (Nat × Nat)) : Option Rs := match q with
  | none => some (some (.int (-6)), GG L, AI I a)
  | some q => some (some (.int (nI q.1)), GG L, AI I q.2)
theorem nI_n6 {d : Nat} (h : d < 2 ^ 31) : ¬ nI d = -6 := fun e => nI_pos h (e ▸ by decide)
theorem S61 {L : Nat × Nat} {l a : Nat} {c : Nat → Nat} {I : It} (hT : Tc l c) (hI : TI l c I) (ha : a ≤ l) :
    E 61 0 [some (.ref 2), none, none, none] [] (GG L) (AI I a) = nuI L I a (nu c a) := by
  have hl := hT.1
  rw [B61_0, S63 (lo := 0) (hi := 9) (xl := 0) (xh := 9) rfl rfl hT hI ha (by decide) (by decide)]
  unfold nu
  by_cases h1 : 48 ≤ c a ∧ c a ≤ 57
  · have l1 := Tc_lt hT (a := a) (by omega)
    rw [if_pos h1, if_pos h1, K2_i, B61_7, B61_10, if_neg (by decide)]
    by_cases h0 : 0 < c a - 48
    · have hs : (255 : Int32) - 10 * nI (c a - 48) = nI (255 - 10 * (c a - 48)) := by
        rw [show (10 : Int32) = nI 10 from rfl, nI_mul, show (255 : Int32) = nI 255 from rfl, nI_sub (by omega)]
      rw [if_neg (nI_nle h0 (by omega)), hs, B121_0, if_neg (show ¬ nI (255 - 10 * (c a - 48)) < (9 : Int32) from nI_nlt (b := 9) (by omega) (by omega)), K2_i, B61_34, S63 (lo := 0) (hi := 9) (xl := 0) (xh := 9) rfl rfl hT hI (by omega) (by decide) (by decide)]
      by_cases h2 : 48 ≤ c (a + 1) ∧ c (a + 1) ≤ 57
      · have l2 := Tc_lt hT (a := a + 1) (by omega)
        obtain ⟨v, hv⟩ : ∃ v, 10 * (c a - 48) + (c (a + 1) - 48) = v := ⟨_, rfl⟩
        have hv2 : v ≤ 99 := by omega
        have hv0 : 0 < v := by omega
        rw [if_pos h2, if_pos ⟨h0, h2⟩, K2_i, B61_37, if_neg (nI_n6 (by omega)), i_10, hv, B61_10, if_neg (by decide), if_neg (nI_nle hv0 (by omega)), B121_0]
        by_cases hq : 10 * v ≤ 255
        · have hs2 : (255 : Int32) - 10 * nI v = nI (255 - 10 * v) := by
            rw [show (10 : Int32) = nI 10 from rfl, nI_mul, show (255 : Int32) = nI 255 from rfl, nI_sub hq]
          obtain ⟨h, hh, hm⟩ : ∃ h, h = min (255 - 10 * v) 9 ∧ (if nI (255 - 10 * v) < (9 : Int32) then some (some (Value.int (nI (255 - 10 * v))), GG L, AI I (a + 2)) else some (some (Value.int 9), GG L, AI I (a + 2))) = some (some (.int (nI h)), GG L, AI I (a + 2)) := by
            by_cases z : 255 - 10 * v < 9
            · exact ⟨255 - 10 * v, by omega, by rw [if_pos (show nI (255 - 10 * v) < (9 : Int32) from nI_lt (b := 9) z (by decide))]⟩
            · exact ⟨9, by omega, by rw [if_neg (show ¬ nI (255 - 10 * v) < (9 : Int32) from nI_nlt (b := 9) (by omega) (by omega))]; rfl⟩
          rw [hs2, hm, K2_i, B61_34, S63 (lo := 0) (hi := h) (xl := 0) (xh := nI h) rfl rfl hT hI (by omega) (by decide) (by omega)]
          by_cases h3 : 48 ≤ c (a + 2) ∧ c (a + 2) ≤ 57 ∧ 10 * v + (c (a + 2) - 48) ≤ 255
          · rw [if_pos (by omega), if_pos h3, K2_i, B61_37, if_neg (nI_n6 (by omega)), i_10, B61_10, if_pos (by decide)]
            rfl
          · rw [if_neg (by omega), if_neg h3, K2_i, B61_37, if_pos rfl]
            rfl
        · have hneg : (255 : Int32) - 10 * nI v < 0 := by
            rw [show (10 : Int32) = nI 10 from rfl, nI_mul, show (255 : Int32) = nI 255 from rfl]
            have := (sub_lt (x := 255) (y := 10 * v) (z := 0) (by decide) (by omega) (by decide)).mpr (by omega)
            exact this
          rw [if_pos (Int32.lt_trans hneg (by decide)), K2_i, B61_34, B63_0, S65n hneg hT hI (by omega), K2_i, B63_8, K2_i, B61_37, if_pos rfl, if_neg (by omega)]
          rfl
      · rw [if_neg h2, if_neg (fun z => h2 z.2), K2_i, B61_37, if_pos rfl]
        rfl
    · have hz : c a - 48 = 0 := by omega
      rw [hz, if_pos (show nI 0 ≤ (0 : Int32) by decide), if_neg (fun z => absurd z.1 (by decide))]
      rfl
  · rw [if_neg h1, if_neg h1, K2_i, B61_7, B61_10, if_neg (by decide), if_pos (by decide)]
    rfl
/-- a step, as it is read: what it is (if it is right), and the place where reading stops -/
def stp (c : Nat → Nat) (a : Nat) : Option (Nat × Nat × Nat × Nat) × Nat :=
  if c a = 43 then
    if 97 ≤ c (a + 1) ∧ c (a + 1) ≤ 106 then
      match nu c (a + 2) with
      | none => (none, a + 2)
      | some q =>
        if c q.2 = 61 then
          match nu c (q.2 + 1) with
          | none => (none, q.2 + 1)
          | some r => (some (0, c (a + 1) - 97, q.1, r.1), r.2)
        else (none, q.2)
    else (none, a + 1)
  else if c a = 45 then
    if 97 ≤ c (a + 1) ∧ c (a + 1) ≤ 106 then (some (1, c (a + 1) - 97, 0, 0), a + 2) else (none, a + 1)
  else if 97 ≤ c a ∧ c a ≤ 106 then
    if c (a + 1) = 62 then
      if 97 ≤ c (a + 2) ∧ c (a + 2) ≤ 106 then (some (2, c a - 97, c (a + 2) - 97, 0), a + 3) else (none, a + 2)
    else if c (a + 1) = 42 then
      if 50 ≤ c (a + 2) ∧ c (a + 2) ≤ 57 then (some (3, c a - 97, c (a + 2) - 48, 0), a + 3) else (none, a + 2)
    else if c (a + 1) = 47 then
      if 50 ≤ c (a + 2) ∧ c (a + 2) ≤ 57 then (some (4, c a - 97, c (a + 2) - 48, 0), a + 3) else (none, a + 2)
    else if c (a + 1) = 60 then
      match nu c (a + 2) with
      | none => (none, a + 2)
      | some q => (some (5, c a - 97, q.1, 0), q.2)
    else (none, a + 1)
  else (none, a)
/-- what a right step is -/
def Sk (k n A B : Nat) : Prop := n < 10 ∧ ((k = 0 ∧ A < 256 ∧ B < 256) ∨ (k = 1 ∧ A = 0 ∧ B = 0) ∨ (k = 2 ∧ A < 10 ∧ B = 0) ∨ ((k = 3 ∨ k = 4) ∧ 2 ≤ A ∧ A ≤ 9 ∧ B = 0) ∨ (k = 5 ∧ A < 256 ∧ B = 0))
/-- a step laid behind the others, in the class -/
def App (I : It) (m k n A B : Nat) : It := uI (uI (uI (uI (uI I 5 m (nI k)) 6 m (nI n)) 7 m (nI A)) 8 m (nI B)) 4 4 (nI (m + 1))
theorem k_4 {L : Nat × Nat} : kd (GG L) 4 = 5 := by rw [GG_kd L (by decide) (by decide)]; decide +kernel
theorem S87 {L : Nat × Nat} {a m k n A B : Nat} {I : It} {xk xn xA xB : Int32} (ek : xk = nI k) (en : xn = nI n) (eA : xA = nI A) (eB : xB = nI B) (h4 : I 4 4 = nI m) (hm : m < 27) : E 87 0 [some (.ref 4), some (.int xk), some (.int xn), some (.int xA), some (.int xB)] [] (GG L) (AI I a) = some (none, GG L, AI (App I m k n A B) a) := by
  subst ek; subst en; subst eA; subst eB
  have w : ∀ (X : It) (o j : Nat) (x : Int32), o ≠ 4 → uI X o j x 4 4 = X 4 4 := fun X o j x h => uI_a _ _ _ _ _ _ (Ne.symm h)
  have b := B87_0 (L := L) (o0 := 4) (x1 := nI k) (x2 := nI n) (x3 := nI A) (x4 := nI B) (I := AI I a) k_4
  rw [w _ (4 + 1) _ _ (by decide), w _ (4 + 2) _ _ (by decide), w _ (4 + 3) _ _ (by decide), w _ (4 + 4) _ _ (by decide)] at b
  simp only [w _ (4 + 1) _ _ (show 4 + 1 ≠ 4 by decide), w _ (4 + 2) _ _ (show 4 + 2 ≠ 4 by decide), w _ (4 + 3) _ _ (show 4 + 3 ≠ 4 by decide)] at b
  rw [AI_o _ _ _ (by decide), h4, if_pos (show nI m < (27 : Int32) from nI_lt (b := 27) hm (by decide)), ck_of (inb_nI hm (by decide)), ck_of (inb_nI hm (by decide)), ck_of (inb_nI hm (by decide)), ck_of (inb_nI hm (by decide)), ix_nI (by omega), nI_1] at b
  rw [b]
  unfold App AI
  rw [uI_cm I 2 5 _ _ _ _ (Or.inl (by decide)), uI_cm _ 2 6 _ _ _ _ (Or.inl (by decide)), uI_cm _ 2 7 _ _ _ _ (Or.inl (by decide)), uI_cm _ 2 8 _ _ _ _ (Or.inl (by decide)), uI_cm _ 2 4 _ _ _ _ (Or.inl (by decide))]
/-- the class's reading of a step -/
def p56 (L : Nat × Nat) (I : It) (m : Nat) (s : Option (Nat × Nat × Nat × Nat) × Nat) : Option Rs := match s with
  | (none, a) => some (some (.int 0), GG L, AI I a)
  | (some (k, n, A, B), a) => some (some (.int 1), GG L, AI (App I m k n A B) a)
theorem S58 {L : Nat × Nat} {l a m k z : Nat} {c : Nat → Nat} {I : It} {xk xz : Int32} (hk : (xk = 1 ∧ k = 1) ∨ (xk = 2 ∧ k = 2 ∧ xz = nI z)) (hT : Tc l c) (hI : TI l c I) (ha : a ≤ l) (h4 : I 4 4 = nI m) (hm : m < 27) :
    E 58 0 [some (.ref 2), some (.int xk), some (.int xz), none] [] (GG L) (AI I a) = if 97 ≤ c a ∧ c a ≤ 106 then some (some (.int 1), GG L, AI (if k = 1 then App I m 1 (c a - 97) 0 0 else App I m 2 z (c a - 97) 0) (a + 1)) else some (some (.int 0), GG L, AI I a) := by
  have hc := Tc_le hT a
  rw [B58_0, S62 hT hI ha]
  by_cases h : 97 ≤ c a ∧ c a ≤ 106
  · rw [if_pos h, if_pos h, K2_i, B58_4, if_neg (nI_n6 (by omega))]
    rcases hk with ⟨h1, h2⟩ | ⟨h1, h2, h3⟩
    · rw [if_pos h1, S87 (m := m) (k := 1) (n := c a - 97) (A := 0) (B := 0) (xk := 1) (xA := 0) (xB := 0) rfl rfl rfl rfl h4 hm, K2_v, B58_29, B58_43, if_pos h2]
    · rw [if_neg (by rw [h1]; decide), S87 (m := m) (k := 2) (n := z) (A := c a - 97) (B := 0) (xk := 2) (xB := 0) rfl h3 rfl rfl h4 hm, K2_v, B58_43, if_neg (by omega)]
  · rw [if_neg h, if_neg h, K2_i, B58_4, if_pos rfl]
theorem S59 {L : Nat × Nat} {l a m k z : Nat} {c : Nat → Nat} {I : It} {xk xz : Int32} (ek : xk = nI k) (ez : xz = nI z) (hT : Tc l c) (hI : TI l c I) (ha : a ≤ l) (h4 : I 4 4 = nI m) (hm : m < 27) :
    E 59 0 [some (.ref 2), some (.int xk), some (.int xz), none] [] (GG L) (AI I a) = if 50 ≤ c a ∧ c a ≤ 57 then some (some (.int 1), GG L, AI (App I m k z (c a - 48) 0) (a + 1)) else some (some (.int 0), GG L, AI I a) := by
  have hc := Tc_le hT a
  rw [B59_0, S63 (lo := 2) (hi := 9) (xl := 2) (xh := 9) rfl rfl hT hI ha (by decide) (by decide)]
  by_cases h : 50 ≤ c a ∧ c a ≤ 57
  · rw [if_pos h, if_pos h, K2_i, B59_7, if_neg (nI_n6 (by omega)), S87 (m := m) (k := k) (n := z) (A := c a - 48) (B := 0) (xB := 0) ek ez rfl rfl h4 hm, K2_v, B59_27]
  · rw [if_neg h, if_neg h, K2_i, B59_7, if_pos rfl]
theorem S60 {L : Nat × Nat} {l a m z : Nat} {c : Nat → Nat} {I : It} {xz : Int32} (ez : xz = nI z) (hT : Tc l c) (hI : TI l c I) (ha : a ≤ l) (h4 : I 4 4 = nI m) (hm : m < 27) :
    E 60 0 [some (.ref 2), some (.int xz), none] [] (GG L) (AI I a) = match nu c a with
      | none => some (some (.int 0), GG L, AI I a)
      | some q => some (some (.int 1), GG L, AI (App I m 5 z q.1 0) q.2) := by
  rw [B60_0, S61 hT hI ha]
  rcases hq : nu c a with _ | q
  · show K2 60 4 _ _ (some (some (.int (-6)), GG L, AI I a)) = _
    rw [K2_i, B60_4, if_pos rfl]
  · have hok := nu_ok hT hq
    show K2 60 4 _ _ (some (some (.int (nI q.1)), GG L, AI I q.2)) = _
    rw [K2_i, B60_4, if_neg (nI_n6 (by omega)), S87 (m := m) (k := 5) (n := z) (A := q.1) (B := 0) (xk := 5) (xB := 0) rfl ez rfl rfl h4 hm, K2_v, B60_24]
theorem P56 {L : Nat × Nat} {l a m : Nat} {c : Nat → Nat} {I : It} (hT : Tc l c) (hI : TI l c I) (ha : a ≤ l) (h4 : I 4 4 = nI m) (hm : m < 27) :
    E 56 0 [some (.ref 2), none] [] (GG L) (AI I a) = p56 L I m (stp c a) := by
  have hl := hT.1
  have hca := Tc_le hT a
  rw [B56_0, S64 (x := 43) (s := 43) rfl hT hI ha (by decide) (by decide)]
  unfold stp
  by_cases h43 : c a = 43
  · have l1 := Tc_lt hT (a := a) (by omega)
    have hc1 := Tc_le hT (a + 1)
    rw [if_pos h43, if_pos h43, K2_i, B56_6, if_neg (by decide), B57_0, S62 hT hI (by omega)]
    by_cases h1 : 97 ≤ c (a + 1) ∧ c (a + 1) ≤ 106
    · have l2 := Tc_lt hT (a := a + 1) (by omega)
      rw [if_pos h1, if_pos h1, K2_i, B57_4, if_neg (nI_n6 (by omega)), S61 hT hI (show a + 1 + 1 ≤ l by omega)]
      show K2 56 13 _ _ (K2 57 17 _ _ (nuI L I (a + 2) (nu c (a + 2)))) = _
      rcases hq : nu c (a + 2) with _ | q
      · show K2 56 13 _ _ (K2 57 17 _ _ (some (some (.int (-6)), GG L, AI I (a + 2)))) = _
        rw [K2_i, B57_17, if_pos rfl, K2_i, B56_13, ck_of (by decide)]
        rfl
      · have hok := nu_ok hT hq
        show K2 56 13 _ _ (K2 57 17 _ _ (some (some (.int (nI q.1)), GG L, AI I q.2))) = p56 L I m (if c q.2 = 61 then _ else _)
        rw [K2_i, B57_17, if_neg (nI_n6 (by omega)), S64 (x := 61) (s := 61) rfl hT hI hok.2.2 (by decide) (by decide)]
        by_cases h61 : c q.2 = 61
        · have l3 := Tc_lt hT (a := q.2) (by omega)
          rw [if_pos h61, if_pos h61, K2_i, B57_30, if_neg (by decide), S61 hT hI (by omega)]
          rcases hr : nu c (q.2 + 1) with _ | r
          · show K2 56 13 _ _ (K2 57 39 _ _ (some (some (.int (-6)), GG L, AI I (q.2 + 1)))) = _
            rw [K2_i, B57_39, if_pos rfl, K2_i, B56_13, ck_of (by decide)]
            rfl
          · have hok2 := nu_ok hT hr
            show K2 56 13 _ _ (K2 57 39 _ _ (some (some (.int (nI r.1)), GG L, AI I r.2))) = _
            rw [K2_i, B57_39, if_neg (nI_n6 (by omega)), S87 (m := m) (k := 0) (n := c (a + 1) - 97) (A := q.1) (B := r.1) (xk := 0) rfl rfl rfl rfl h4 hm, K2_v, B57_59, K2_i, B56_13, ck_of (by decide)]
            rfl
        · rw [if_neg h61, if_neg h61, K2_i, B57_30, if_pos rfl, K2_i, B56_13, ck_of (by decide)]
          rfl
    · rw [if_neg h1, if_neg h1, K2_i, B57_4, if_pos rfl, K2_i, B56_13, ck_of (by decide)]
      rfl
  · rw [if_neg h43, if_neg h43, K2_i, B56_6, if_pos rfl, S64 (x := 45) (s := 45) rfl hT hI ha (by decide) (by decide)]
    by_cases h45 : c a = 45
    · have l1 := Tc_lt hT (a := a) (by omega)
      rw [if_pos h45, if_pos h45, K2_i, B56_20, if_neg (by decide), S58 (k := 1) (z := 0) (Or.inl ⟨rfl, rfl⟩) hT hI (by omega) h4 hm]
      by_cases h1 : 97 ≤ c (a + 1) ∧ c (a + 1) ≤ 106
      · rw [if_pos h1, if_pos h1, K2_i, B56_30, ck_of (by decide), if_pos rfl]
        rfl
      · rw [if_neg h1, if_neg h1, K2_i, B56_30, ck_of (by decide)]
        rfl
    · rw [if_neg h45, if_neg h45, K2_i, B56_20, if_pos rfl, S62 hT hI ha]
      by_cases h1 : 97 ≤ c a ∧ c a ≤ 106
      · have l1 := Tc_lt hT (a := a) (by omega)
        rw [if_pos h1, if_pos h1, K2_i, B56_35, if_neg (nI_n6 (by omega)), S64 (x := 62) (s := 62) rfl hT hI (by omega) (by decide) (by decide)]
        by_cases h62 : c (a + 1) = 62
        · have l2 := Tc_lt hT (a := a + 1) (by omega)
          rw [if_pos h62, if_pos h62, K2_i, B56_50, if_neg (by decide), S58 (k := 2) (z := c a - 97) (Or.inr ⟨rfl, rfl, rfl⟩) hT hI (show a + 1 + 1 ≤ l by omega) h4 hm]
          by_cases h2 : 97 ≤ c (a + 2) ∧ c (a + 2) ≤ 106
          · rw [if_pos h2, if_pos h2, K2_i, B56_59, ck_of (by decide), if_neg (by decide)]
            rfl
          · rw [if_neg h2, if_neg h2, K2_i, B56_59, ck_of (by decide)]
            rfl
        · rw [if_neg h62, if_neg h62, K2_i, B56_50, if_pos rfl, S64 (x := 42) (s := 42) rfl hT hI (by omega) (by decide) (by decide)]
          by_cases h42 : c (a + 1) = 42
          · have l2 := Tc_lt hT (a := a + 1) (by omega)
            rw [if_pos h42, if_pos h42, K2_i, B56_66, if_neg (by decide), S59 (k := 3) (xk := 3) (z := c a - 97) rfl rfl hT hI (show a + 1 + 1 ≤ l by omega) h4 hm]
            by_cases h2 : 50 ≤ c (a + 2) ∧ c (a + 2) ≤ 57
            · rw [if_pos h2, if_pos h2, K2_i, B56_75, ck_of (by decide)]
              rfl
            · rw [if_neg h2, if_neg h2, K2_i, B56_75, ck_of (by decide)]
              rfl
          · rw [if_neg h42, if_neg h42, K2_i, B56_66, if_pos rfl, S64 (x := 47) (s := 47) rfl hT hI (by omega) (by decide) (by decide)]
            by_cases h47 : c (a + 1) = 47
            · have l2 := Tc_lt hT (a := a + 1) (by omega)
              rw [if_pos h47, if_pos h47, K2_i, B56_82, if_neg (by decide), S59 (k := 4) (xk := 4) (z := c a - 97) rfl rfl hT hI (show a + 1 + 1 ≤ l by omega) h4 hm]
              by_cases h2 : 50 ≤ c (a + 2) ∧ c (a + 2) ≤ 57
              · rw [if_pos h2, if_pos h2, K2_i, B56_91, ck_of (by decide)]
                rfl
              · rw [if_neg h2, if_neg h2, K2_i, B56_91, ck_of (by decide)]
                rfl
            · rw [if_neg h47, if_neg h47, K2_i, B56_82, if_pos rfl, S64 (x := 60) (s := 60) rfl hT hI (by omega) (by decide) (by decide)]
              by_cases h60 : c (a + 1) = 60
              · have l2 := Tc_lt hT (a := a + 1) (by omega)
                rw [if_pos h60, if_pos h60, K2_i, B56_98, if_neg (by decide), S60 (z := c a - 97) rfl hT hI (show a + 1 + 1 ≤ l by omega) h4 hm]
                show K2 56 106 _ _ (match nu c (a + 2) with | none => _ | some q => _) = _
                rcases hq : nu c (a + 2) with _ | q
                · show K2 56 106 _ _ (some (some (.int 0), GG L, AI I (a + 2))) = _
                  rw [K2_i, B56_106, if_pos rfl]
                  rfl
                · show K2 56 106 _ _ (some (some (.int 1), GG L, AI (App I m 5 (c a - 97) q.1 0) q.2)) = _
                  rw [K2_i, B56_106, if_neg (by decide)]
                  rfl
              · rw [if_neg h60, if_neg h60, K2_i, B56_98, if_pos rfl]
                rfl
      · rw [if_neg h1, if_neg h1, K2_i, B56_35, if_pos rfl]
        rfl
