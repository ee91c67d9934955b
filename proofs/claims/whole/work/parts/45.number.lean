theorem uI_uI (I : It) (o k : Nat) (x y : Int32) : uI (uI I o k x) o k y = uI I o k y := by
  funext a j
  unfold uI
  by_cases h : a = o
  · simp only [if_pos h]
    by_cases h2 : j = k
    · simp only [if_pos h2]
    · simp only [if_neg h2]
  · simp only [if_neg h]
theorem uI_cm (I : It) (o o' k k' : Nat) (x y : Int32) (h : o ≠ o' ∨ k ≠ k') : uI (uI I o k x) o' k' y = uI (uI I o' k' y) o k x := by
  funext a j
  unfold uI
  by_cases h1 : a = o
  · by_cases h2 : a = o'
    · by_cases h3 : j = k
      · by_cases h4 : j = k'
        · rcases h with h | h
          · exact absurd (h1.symm.trans h2) h
          · exact absurd (h3.symm.trans h4) h
        · simp only [if_pos h1, if_pos h2, if_pos h3, if_neg h4]
      · simp only [if_pos h1, if_pos h2, if_neg h3]
    · simp only [if_pos h1, if_neg h2]
  · simp only [if_neg h1]
/-- a text: its length, its codes, 0 behind it -/
def Tc (l : Nat) (c : Nat → Nat) : Prop := l ≤ 80 ∧ (∀ k, k < l → 33 ≤ c k ∧ c k ≤ 126) ∧ ∀ k, l ≤ k → c k = 0
def TI (l : Nat) (c : Nat → Nat) (I : It) : Prop := I 2 2 = nI l ∧ ∀ k, k < l → I 3 k = nI (c k)
def TJ (l : Nat) (c : Nat → Nat) (J : It) : Prop := J 119 5 = nI l ∧ ∀ k, k < l → J 124 k = nI (c k)
/-- the class has read up to a place; the reference has, and whether something was wrong -/
def AI (I : It) (a : Nat) : It := uI I 2 3 (nI a)
def AJ (J : It) (a : Nat) (w : Int32) : It := uI (uI J 119 22 (nI a)) 119 23 w
theorem AI_3 (I : It) (a : Nat) : AI I a 2 3 = nI a := uI_s _ _ _ _
theorem AI_2 (I : It) (a : Nat) : AI I a 2 2 = I 2 2 := uI_k _ _ _ _ _ (by decide)
theorem AI_o (I : It) (a o : Nat) (h : o ≠ 2) : AI I a o = I o := uI_o _ _ _ _ _ h
theorem AI_u (I : It) (a b : Nat) : uI (AI I a) 2 3 (nI b) = AI I b := uI_uI _ _ _ _ _
theorem AJ_22 (J : It) (a : Nat) (w : Int32) : AJ J a w 119 22 = nI a := by unfold AJ; rw [uI_k _ _ _ _ _ (by decide), uI_s]
theorem AJ_23 (J : It) (a : Nat) (w : Int32) : AJ J a w 119 23 = w := uI_s _ _ _ _
theorem AJ_k (J : It) (a : Nat) (w : Int32) (j : Nat) (h1 : j ≠ 22) (h2 : j ≠ 23) : AJ J a w 119 j = J 119 j := by unfold AJ; rw [uI_k _ _ _ _ _ h2, uI_k _ _ _ _ _ h1]
theorem AJ_o (J : It) (a : Nat) (w : Int32) (o : Nat) (h : o ≠ 119) : AJ J a w o = J o := by unfold AJ; rw [uI_o _ _ _ _ _ h, uI_o _ _ _ _ _ h]
theorem AJ_u22 (J : It) (a b : Nat) (w : Int32) : uI (AJ J a w) 119 22 (nI b) = AJ J b w := by
  unfold AJ
  rw [uI_cm _ _ _ _ _ _ _ (Or.inr (by decide)), uI_uI]
theorem AJ_u23 (J : It) (a : Nat) (w w' : Int32) : uI (AJ J a w) 119 23 w' = AJ J a w' := by
  unfold AJ
  rw [uI_uI]
theorem AJ_uk (J : It) (a : Nat) (w x : Int32) (k : Nat) (h1 : k ≠ 22) (h2 : k ≠ 23) : uI (AJ J a w) 119 k x = AJ (uI J 119 k x) a w := by
  unfold AJ
  rw [uI_cm _ _ _ _ _ _ _ (Or.inr (Ne.symm h2)), uI_cm J _ _ _ _ _ _ (Or.inr (Ne.symm h1))]
theorem sub_toInt {x y : Nat} (hx : x < 2 ^ 30) (hy : y < 2 ^ 30) : (nI x - nI y).toInt = (x : Int) - (y : Int) := by
  rw [Int32.toInt_sub, nI_toInt (by omega), nI_toInt (by omega)]
  exact Int.bmod_eq_of_le (by omega) (by omega)
theorem sub_lt {x y z : Nat} (hx : x < 2 ^ 30) (hy : y < 2 ^ 30) (hz : z < 2 ^ 30) : nI x - nI y < nI z ↔ x < y + z := by
  rw [Int32.lt_iff_toInt_lt, sub_toInt hx hy, nI_toInt (by omega)]; omega
theorem sub_le {x y z : Nat} (hx : x < 2 ^ 30) (hy : y < 2 ^ 30) (hz : z < 2 ^ 30) : nI x - nI y ≤ nI z ↔ x ≤ y + z := by
  rw [Int32.le_iff_toInt_le, sub_toInt hx hy, nI_toInt (by omega)]; omega
theorem Tc_lt {l : Nat} {c : Nat → Nat} (h : Tc l c) {a : Nat} (ha : 0 < c a) : a < l := by
  by_cases q : a < l
  · exact q
  · have := h.2.2 a (by omega); omega
theorem Tc_le {l : Nat} {c : Nat → Nat} (h : Tc l c) (a : Nat) : c a ≤ 126 := by
  by_cases q : a < l
  · exact (h.2.1 a q).2
  · have := h.2.2 a (by omega); omega
/-- one sign of a span, in the class -/
theorem S65 {L l a b lo hi : Nat} {c : Nat → Nat} {I : It} {xb xl xh : Int32} (eb : xb = nI b) (el : xl = nI lo) (eh : xh = nI hi) (hT : Tc l c) (hI : TI l c I) (ha : a ≤ l) (h0 : 0 < b + lo) (hb : b < 300) (hlo : lo < 300) (hhi : hi < 300) :
    E 65 0 [some (.ref 2), some (.int xb), some (.int xl), some (.int xh), none] [] (GG L) (AI I a) = if b + lo ≤ c a ∧ c a ≤ b + hi then some (some (.int (nI (c a - b))), GG L, AI I (a + 1)) else some (some (.int (-6)), GG L, AI I a) := by
  subst eb; subst el; subst eh
  have hl := hT.1
  have hc := Tc_le hT a
  rw [B65_0, AI_2, AI_3, hI.1]
  by_cases q : a < l
  · rw [if_neg (nI_ge q (by omega)), if_pos (show nI a < (80 : Int32) from nI_lt (b := 80) (by omega) (by decide)), ck_of (inb_nI (by omega) (by decide)), ix_nI (by omega), AI_o _ _ _ (by decide), hI.2 a q]
    by_cases h1 : b + lo ≤ c a
    · rw [if_neg (fun z => by have := (sub_lt (by omega) (by omega) (by omega)).mp z; omega)]
      by_cases h2 : c a ≤ b + hi
      · rw [if_pos ((sub_le (by omega) (by omega) (by omega)).mpr h2), if_pos ⟨h1, h2⟩, nI_sub (by omega), nI_1, AI_u]
      · rw [if_neg (fun z => h2 ((sub_le (by omega) (by omega) (by omega)).mp z)), if_neg (fun z => h2 z.2)]
    · rw [if_pos ((sub_lt (by omega) (by omega) (by omega)).mpr (by omega)), if_neg (fun z => h1 z.1)]
  · have e := hT.2.2 a (by omega)
    rw [if_pos (nI_le (by omega) (by omega)), if_neg (fun z => by omega)]
theorem S65n {L l a : Nat} {c : Nat → Nat} {I : It} {xh : Int32} (hh : xh < 0) (hT : Tc l c) (hI : TI l c I) (ha : a ≤ l) :
    E 65 0 [some (.ref 2), some (.int 48), some (.int 0), some (.int xh), none] [] (GG L) (AI I a) = some (some (.int (-6)), GG L, AI I a) := by
  have hl := hT.1
  rw [B65_0, AI_2, AI_3, hI.1]
  by_cases q : a < l
  · rw [if_neg (nI_ge q (by omega)), if_pos (show nI a < (80 : Int32) from nI_lt (b := 80) (by omega) (by decide)), ck_of (inb_nI (by omega) (by decide)), ix_nI (by omega), AI_o _ _ _ (by decide), hI.2 a q]
    by_cases h1 : nI (c a) - 48 < 0
    · rw [if_pos h1]
    · rw [if_neg h1, if_neg (fun z => h1 (Int32.lt_of_le_of_lt z hh))]
  · rw [if_pos (nI_le (by omega) (by omega))]
theorem S64 {L l a s : Nat} {c : Nat → Nat} {I : It} {x : Int32} (e : x = nI s) (hT : Tc l c) (hI : TI l c I) (ha : a ≤ l) (h0 : 0 < s) (hs : s < 300) :
    E 64 0 [some (.ref 2), some (.int x)] [] (GG L) (AI I a) = if c a = s then some (some (.int 1), GG L, AI I (a + 1)) else some (some (.int 0), GG L, AI I a) := by
  rw [B64_0, S65 (b := s) (lo := 0) (hi := 0) (xb := x) (xl := 0) (xh := 0) e rfl rfl hT hI ha (by omega) hs (by decide) (by decide)]
  by_cases h : c a = s
  · rw [if_pos (by omega), if_pos h, K2_i, B64_7, if_neg]
    rw [h, Nat.sub_self]; decide
  · rw [if_neg (by omega), if_neg h, K2_i, B64_7, if_pos rfl]
theorem S62 {L l a : Nat} {c : Nat → Nat} {I : It} (hT : Tc l c) (hI : TI l c I) (ha : a ≤ l) :
    E 62 0 [some (.ref 2)] [] (GG L) (AI I a) = if 97 ≤ c a ∧ c a ≤ 106 then some (some (.int (nI (c a - 97))), GG L, AI I (a + 1)) else some (some (.int (-6)), GG L, AI I a) := by
  rw [B62_0, S65 (b := 97) (lo := 0) (hi := 9) (xb := 97) (xl := 0) (xh := 9) rfl rfl rfl hT hI ha (by decide) (by decide) (by decide) (by decide)]
  by_cases h : 97 ≤ c a ∧ c a ≤ 106
  · rw [if_pos h, K2_i, B62_9]
  · rw [if_neg h, K2_i, B62_9]
theorem S63 {L l a lo hi : Nat} {c : Nat → Nat} {I : It} {xl xh : Int32} (el : xl = nI lo) (eh : xh = nI hi) (hT : Tc l c) (hI : TI l c I) (ha : a ≤ l) (hlo : lo < 300) (hhi : hi < 300) :
    E 63 0 [some (.ref 2), some (.int xl), some (.int xh)] [] (GG L) (AI I a) = if 48 + lo ≤ c a ∧ c a ≤ 48 + hi then some (some (.int (nI (c a - 48))), GG L, AI I (a + 1)) else some (some (.int (-6)), GG L, AI I a) := by
  rw [B63_0, S65 (b := 48) (lo := lo) (hi := hi) (xb := 48) (xl := xl) (xh := xh) rfl el eh hT hI ha (by omega) (by decide) hlo hhi]
  by_cases h : 48 + lo ≤ c a ∧ c a ≤ 48 + hi
  · rw [if_pos h, K2_i, B63_8]
  · rw [if_neg h, K2_i, B63_8]
/-- a number, as it is read: its value, and the place behind it -/
def nu (c : Nat → Nat) (a : Nat) : Option (Nat × Nat) :=
  if 48 ≤ c a ∧ c a ≤ 57 then
    if 0 < c a - 48 ∧ 48 ≤ c (a + 1) ∧ c (a + 1) ≤ 57 then
      if 48 ≤ c (a + 2) ∧ c (a + 2) ≤ 57 ∧ 10 * (10 * (c a - 48) + (c (a + 1) - 48)) + (c (a + 2) - 48) ≤ 255 then some (10 * (10 * (c a - 48) + (c (a + 1) - 48)) + (c (a + 2) - 48), a + 3)
      else some (10 * (c a - 48) + (c (a + 1) - 48), a + 2)
    else some (c a - 48, a + 1)
  else none
theorem nu_ok {l a : Nat} {c : Nat → Nat} {q : Nat × Nat} (hT : Tc l c) (h : nu c a = some q) : q.1 ≤ 255 ∧ a < q.2 ∧ q.2 ≤ l := by
  unfold nu at h
  by_cases h1 : 48 ≤ c a ∧ c a ≤ 57
  · have l1 := Tc_lt hT (a := a) (by omega)
    rw [if_pos h1] at h
    by_cases h2 : 0 < c a - 48 ∧ 48 ≤ c (a + 1) ∧ c (a + 1) ≤ 57
    · have l2 := Tc_lt hT (a := a + 1) (by omega)
      rw [if_pos h2] at h
      by_cases h3 : 48 ≤ c (a + 2) ∧ c (a + 2) ≤ 57 ∧ 10 * (10 * (c a - 48) + (c (a + 1) - 48)) + (c (a + 2) - 48) ≤ 255
      · have l3 := Tc_lt hT (a := a + 2) (by omega)
        rw [if_pos h3] at h
        cases h
        exact ⟨h3.2.2, by show a < a + 3; omega, by show a + 3 ≤ l; omega⟩
      · rw [if_neg h3] at h
        cases h
        exact ⟨by show 10 * (c a - 48) + (c (a + 1) - 48) ≤ 255; omega, by show a < a + 2; omega, by show a + 2 ≤ l; omega⟩
    · rw [if_neg h2] at h
      cases h
      exact ⟨by show c a - 48 ≤ 255; omega, by show a < a + 1; omega, by show a + 1 ≤ l; omega⟩
  · rw [if_neg h1] at h; cases h
def nuI (L : Nat) (I : It) (a : Nat) (q : Option (Nat × Nat)) : Option Rs := match q with
  | none => some (some (.int (-6)), GG L, AI I a)
  | some q => some (some (.int (nI q.1)), GG L, AI I q.2)
def nuJ (L : Nat) (J : It) (a : Nat) (q : Option (Nat × Nat)) : Option Rs := match q with
  | none => some (some (.int 0), GG L, AJ J a 1)
  | some q => some (some (.int (nI q.1)), GG L, AJ J q.2 0)
theorem nI_n6 {d : Nat} (h : d < 2 ^ 31) : ¬ nI d = -6 := fun e => nI_pos h (e ▸ by decide)
theorem S61 {L l a : Nat} {c : Nat → Nat} {I : It} (hT : Tc l c) (hI : TI l c I) (ha : a ≤ l) :
    E 61 0 [some (.ref 2), none, none, none] [] (GG L) (AI I a) = nuI L I a (nu c a) := by
  have hl := hT.1
  rw [B61_0, S63 (lo := 0) (hi := 9) (xl := 0) (xh := 9) rfl rfl hT hI ha (by decide) (by decide)]
  unfold nu
  by_cases h1 : 48 ≤ c a ∧ c a ≤ 57
  · have l1 := Tc_lt hT (a := a) (by omega)
    rw [if_pos h1, if_pos h1, K2_i, B61_7, B61_10, if_neg (by decide)]
    by_cases h0 : 0 < c a - 48
    · have hs : (255 : Int32) - 10 * nI (c a - 48) = nI (255 - 10 * (c a - 48)) := by
        rw [show (10 : Int32) = nI 10 from rfl, nI_mul, show (255 : Int32) = nI 255 from rfl, nI_sub (by omega)]
      rw [if_neg (nI_nle h0 (by omega)), hs, B182_0, if_neg (show ¬ nI (255 - 10 * (c a - 48)) < (9 : Int32) from nI_nlt (b := 9) (by omega) (by omega)), K2_i, B61_34, S63 (lo := 0) (hi := 9) (xl := 0) (xh := 9) rfl rfl hT hI (by omega) (by decide) (by decide)]
      by_cases h2 : 48 ≤ c (a + 1) ∧ c (a + 1) ≤ 57
      · have l2 := Tc_lt hT (a := a + 1) (by omega)
        obtain ⟨v, hv⟩ : ∃ v, 10 * (c a - 48) + (c (a + 1) - 48) = v := ⟨_, rfl⟩
        have hv2 : v ≤ 99 := by omega
        have hv0 : 0 < v := by omega
        rw [if_pos h2, if_pos ⟨h0, h2⟩, K2_i, B61_37, if_neg (nI_n6 (by omega)), i_10, hv, B61_10, if_neg (by decide), if_neg (nI_nle hv0 (by omega)), B182_0]
        by_cases hq : 10 * v ≤ 255
        · have hs2 : (255 : Int32) - 10 * nI v = nI (255 - 10 * v) := by
            rw [show (10 : Int32) = nI 10 from rfl, nI_mul, show (255 : Int32) = nI 255 from rfl, nI_sub hq]
          obtain ⟨h, hh, hm⟩ : ∃ h, h = min (255 - 10 * v) 9 ∧ (if nI (255 - 10 * v) < (9 : Int32) then some (some (Value.int (nI (255 - 10 * v))), GG L, AI I (a + 2)) else some (some (Value.int 9), GG L, AI I (a + 2))) = some (some (.int (nI h)), GG L, AI I (a + 2)) := by
            by_cases z : 255 - 10 * v < 9
            · exact ⟨255 - 10 * v, by omega, by rw [if_pos (show nI (255 - 10 * v) < (9 : Int32) from nI_lt (b := 9) z (by decide))]⟩
            · exact ⟨9, by omega, by rw [if_neg (show ¬ nI (255 - 10 * v) < (9 : Int32) from nI_nlt (b := 9) (by omega) (by omega))]; rfl⟩
          rw [hs2, hm, K2_i, B61_34, S63 (lo := 0) (hi := h) (xl := 0) (xh := nI h) rfl rfl hT hI (by omega) (by decide) (by omega)]
          by_cases h3 : 48 ≤ c (a + 2) ∧ c (a + 2) ≤ 57 ∧ 10 * v + (c (a + 2) - 48) ≤ 255
          · rw [if_pos (by omega), if_pos h3, K2_i, B61_37, if_neg (nI_n6 (by omega)), i_10, B61_10, if_pos (by decide)]
            rfl
          · rw [if_neg (by omega), if_neg h3, K2_i, B61_37, if_pos rfl]
            rfl
        · have hneg : (255 : Int32) - 10 * nI v < 0 := by
            rw [show (10 : Int32) = nI 10 from rfl, nI_mul, show (255 : Int32) = nI 255 from rfl]
            have := (sub_lt (x := 255) (y := 10 * v) (z := 0) (by decide) (by omega) (by decide)).mpr (by omega)
            exact this
          rw [if_pos (Int32.lt_trans hneg (by decide)), K2_i, B61_34, B63_0, S65n hneg hT hI (by omega), K2_i, B63_8, K2_i, B61_37, if_pos rfl, if_neg (by omega)]
          rfl
      · rw [if_neg h2, if_neg (fun z => h2 z.2), K2_i, B61_37, if_pos rfl]
        rfl
    · have hz : c a - 48 = 0 := by omega
      rw [hz, if_pos (show nI 0 ≤ (0 : Int32) by decide), if_neg (fun z => absurd z.1 (by decide))]
      rfl
  · rw [if_neg h1, if_neg h1, K2_i, B61_7, B61_10, if_neg (by decide), if_pos (by decide)]
    rfl
/-- the reference's next sign -/
theorem S171 {L l a : Nat} {c : Nat → Nat} {J : It} {w : Int32} (hT : Tc l c) (hJ : TJ l c J) (ha : a ≤ l) : E 171 0 [some (.ref 119)] [] (GG L) (AJ J a w) = some (some (.int (nI (c a))), GG L, AJ J a w) := by
  have hl := hT.1
  rw [B171_0, AJ_k _ _ _ _ (by decide) (by decide), AJ_22, hJ.1]
  by_cases q : a < l
  · rw [if_neg (nI_ge q (by omega)), ck_of (inb_nI (by omega) (by decide)), ix_nI (by omega), AJ_o _ _ _ _ (by decide), hJ.2 a q]
  · rw [if_pos (nI_le (by omega) (by omega)), hT.2.2 a (by omega)]; rfl
theorem dig {x : Nat} {lo hi : Nat} {xl xh : Int32} (el : xl = nI lo) (eh : xh = nI hi) (hx : x < 2 ^ 31) (hl : lo < 2 ^ 31) (hh : hi < 2 ^ 31) : (xl ≤ nI x ∧ nI x ≤ xh) ↔ (lo ≤ x ∧ x ≤ hi) := by
  subst el; subst eh
  rw [nI_leI hl hx, nI_leI hx hh]
theorem S173 {L l a lo hi : Nat} {c : Nat → Nat} {J : It} {xl xh : Int32} (el : xl = nI lo) (eh : xh = nI hi) (hT : Tc l c) (hJ : TJ l c J) (ha : a ≤ l) (h0 : 0 < lo) (hlo : lo < 300) (hhi : hi < 300) :
    E 173 0 [some (.ref 119), some (.int xl), some (.int xh)] [] (GG L) (AJ J a 0) = if lo ≤ c a ∧ c a ≤ hi then some (some (.int (nI (c a - lo))), GG L, AJ J (a + 1) 0) else some (some (.int 0), GG L, AJ J a 1) := by
  have hl := hT.1
  have hc := Tc_le hT a
  rw [B173_0, AJ_23, if_pos rfl, S171 hT hJ ha, K2_i, B173_12, S121, K2_i, B173_17, tI_iff (dig el eh (by omega) (by omega) (by omega))]
  by_cases h : lo ≤ c a ∧ c a ≤ hi
  · have l1 := Tc_lt hT (a := a) (by omega)
    rw [tI_t h, if_neg (by decide), if_pos h, B173_25, ck_of (by decide), uI_s, if_pos rfl, AJ_u23, AJ_22, nI_1, AJ_u22, AJ_22, nI_pred, ck_of (inb_nI (by omega) (by decide)), ix_nI (by omega), AJ_o _ _ _ _ (by decide), hJ.2 a l1, el, nI_sub h.1]
  · rw [tI_f h, if_pos rfl, if_neg h, B173_25, ck_of (by decide), uI_s, if_neg (by decide), AJ_u23]
theorem S173w {L a : Nat} {J : It} {xl xh : Int32} : E 173 0 [some (.ref 119), some (.int xl), some (.int xh)] [] (GG L) (AJ J a 1) = some (some (.int 0), GG L, AJ J a 1) := by
  rw [B173_0, AJ_23, if_neg (by decide), B173_25, ck_of (by decide), uI_s, if_neg (by decide), AJ_u23]
theorem S172w {L a : Nat} {J : It} : E 172 0 [some (.ref 119), none] [] (GG L) (AJ J a 1) = some (some (.int 0), GG L, AJ J a 1) := by
  rw [B172_0, AJ_23, if_neg (by decide), B172_22, uI_s, if_neg (by decide), AJ_u23]
/-- one more digit -/
theorem R57 {L l a v : Nat} {c : Nat → Nat} {J : It} (hT : Tc l c) (hJ : TJ l c J) (ha : a ≤ l) (hv : v ≤ 255) :
    E 172 57 [some (.ref 119), some (.int (nI v))] [] (GG L) (AJ J a 0) = if 0 < v ∧ 48 ≤ c a ∧ c a ≤ 57 ∧ 10 * v + (c a - 48) ≤ 255 then E 172 57 [some (.ref 119), some (.int (nI (10 * v + (c a - 48))))] [] (GG L) (AJ J (a + 1) 0) else some (some (.int (nI v)), GG L, AJ J a 0) := by
  have hl := hT.1
  have hc := Tc_le hT a
  rw [B172_57]
  by_cases h0 : 0 < v
  · rw [if_neg (nI_nle h0 (by omega)), S171 hT hJ ha, K2_i, B172_65, S121, K2_i, B172_72, tI_iff (dig (x := c a) (lo := 48) (hi := 57) (xl := 48) (xh := 57) rfl rfl (by omega) (by decide) (by decide))]
    by_cases h1 : 48 ≤ c a ∧ c a ≤ 57
    · have hs : (10 * nI v + nI (c a)) - 48 = nI (10 * v + (c a - 48)) := by
        rw [i_10, show (48 : Int32) = nI 48 from rfl, nI_sub (by omega), show 10 * v + c a - 48 = 10 * v + (c a - 48) by omega]
      rw [tI_t h1, if_neg (by decide), S171 hT hJ ha, K2_i, B172_83, hs]
      by_cases h2 : 10 * v + (c a - 48) ≤ 255
      · rw [if_neg (show ¬ (255 : Int32) < nI (10 * v + (c a - 48)) from nI_nlt (a := 255) h2 (by decide)), S171 hT hJ ha, K2_i, B172_101, hs, AJ_22, nI_1, AJ_u22, if_pos ⟨h0, h1.1, h1.2, h2⟩]
      · rw [if_pos (show (255 : Int32) < nI (10 * v + (c a - 48)) from nI_lt (a := 255) (by omega) (by omega)), if_neg (fun z => h2 z.2.2.2)]
    · rw [tI_f h1, if_pos rfl, if_neg (fun z => h1 ⟨z.2.1, z.2.2.1⟩)]
  · have hz : v = 0 := by omega
    subst hz
    rw [if_pos (by decide), if_neg (fun z => h0 z.1)]
theorem S172 {L l a : Nat} {c : Nat → Nat} {J : It} (hT : Tc l c) (hJ : TJ l c J) (ha : a ≤ l) : E 172 0 [some (.ref 119), none] [] (GG L) (AJ J a 0) = nuJ L J a (nu c a) := by
  have hl := hT.1
  have hc := Tc_le hT a
  rw [B172_0, AJ_23, if_pos rfl, S171 hT hJ ha, K2_i, B172_12, S121, K2_i, B172_19, tI_iff (dig (x := c a) (lo := 48) (hi := 57) (xl := 48) (xh := 57) rfl rfl (by omega) (by decide) (by decide))]
  unfold nu
  by_cases h1 : 48 ≤ c a ∧ c a ≤ 57
  · have l1 := Tc_lt hT (a := a) (by omega)
    have hs : nI (c a) - 48 = nI (c a - 48) := by rw [show (48 : Int32) = nI 48 from rfl, nI_sub (by omega)]
    rw [tI_t h1, if_neg (by decide), if_pos h1, uI_s, if_pos rfl, AJ_u23, S171 hT hJ ha, K2_i, B172_43, AJ_22, nI_1, AJ_u22, hs, R57 hT hJ (by omega) (by omega)]
    by_cases h2 : 0 < c a - 48 ∧ 48 ≤ c (a + 1) ∧ c (a + 1) ≤ 57
    · have l2 := Tc_lt hT (a := a + 1) (by omega)
      rw [if_pos ⟨h2.1, h2.2.1, h2.2.2, by omega⟩, if_pos h2, R57 hT hJ (by omega) (by omega)]
      by_cases h3 : 48 ≤ c (a + 2) ∧ c (a + 2) ≤ 57 ∧ 10 * (10 * (c a - 48) + (c (a + 1) - 48)) + (c (a + 2) - 48) ≤ 255
      · have l3 := Tc_lt hT (a := a + 2) (by omega)
        rw [if_pos ⟨by omega, h3.1, h3.2.1, h3.2.2⟩, if_pos h3, R57 hT hJ (show a + 1 + 1 + 1 ≤ l by omega) h3.2.2, if_neg (by omega)]
        rfl
      · rw [if_neg (fun z => h3 ⟨z.2.1, z.2.2.1, z.2.2.2⟩), if_neg h3]
        rfl
    · rw [if_neg (fun z => h2 ⟨z.1, z.2.1, z.2.2.1⟩), if_neg h2]
      rfl
  · rw [tI_f h1, if_pos rfl, if_neg h1, B172_22, uI_s, if_neg (by decide), AJ_u23]
    rfl
