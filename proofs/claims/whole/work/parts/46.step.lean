/-- a step, as it is read: what it is (if it is right), and the place where reading stops -/
def stp (c : Nat → Nat) (a : Nat) : Option (Nat × Nat × Nat × Nat) × Nat :=
  if c a = 43 then
    if 97 ≤ c (a + 1) ∧ c (a + 1) ≤ 106 then
      match nu c (a + 2) with
      | none => (none, a + 2)
      | some q =>
        if c q.2 = 61 then
          match nu c (q.2 + 1) with
          | none => (none, q.2 + 1)
          | some r => (some (0, c (a + 1) - 97, q.1, r.1), r.2)
        else (none, q.2)
    else (none, a + 1)
  else if c a = 45 then
    if 97 ≤ c (a + 1) ∧ c (a + 1) ≤ 106 then (some (1, c (a + 1) - 97, 0, 0), a + 2) else (none, a + 1)
  else if 97 ≤ c a ∧ c a ≤ 106 then
    if c (a + 1) = 62 then
      if 97 ≤ c (a + 2) ∧ c (a + 2) ≤ 106 then (some (2, c a - 97, c (a + 2) - 97, 0), a + 3) else (none, a + 2)
    else if c (a + 1) = 42 then
      if 50 ≤ c (a + 2) ∧ c (a + 2) ≤ 57 then (some (3, c a - 97, c (a + 2) - 48, 0), a + 3) else (none, a + 2)
    else if c (a + 1) = 47 then
      if 50 ≤ c (a + 2) ∧ c (a + 2) ≤ 57 then (some (4, c a - 97, c (a + 2) - 48, 0), a + 3) else (none, a + 2)
    else if c (a + 1) = 60 then
      match nu c (a + 2) with
      | none => (none, a + 2)
      | some q => (some (5, c a - 97, q.1, 0), q.2)
    else (none, a + 1)
  else (none, a)
/-- what a right step is -/
def Sk (k n A B : Nat) : Prop := n < 10 ∧ ((k = 0 ∧ A < 256 ∧ B < 256) ∨ (k = 1 ∧ A = 0 ∧ B = 0) ∨ (k = 2 ∧ A < 10 ∧ B = 0) ∨ ((k = 3 ∨ k = 4) ∧ 2 ≤ A ∧ A ≤ 9 ∧ B = 0) ∨ (k = 5 ∧ A < 256 ∧ B = 0))
/-- a step laid behind the others, in the class -/
def App (I : It) (m k n A B : Nat) : It := uI (uI (uI (uI (uI I 5 m (nI k)) 6 m (nI n)) 7 m (nI A)) 8 m (nI B)) 4 4 (nI (m + 1))
theorem k_4 {L : Nat} : kd (GG L) 4 = 5 := by rw [GG_kd L (by decide) (by decide)]; decide +kernel
theorem S87 {L a m k n A B : Nat} {I : It} {xk xn xA xB : Int32} (ek : xk = nI k) (en : xn = nI n) (eA : xA = nI A) (eB : xB = nI B) (h4 : I 4 4 = nI m) (hm : m < 27) : E 87 0 [some (.ref 4), some (.int xk), some (.int xn), some (.int xA), some (.int xB)] [] (GG L) (AI I a) = some (none, GG L, AI (App I m k n A B) a) := by
  subst ek; subst en; subst eA; subst eB
  have w : ∀ (X : It) (o j : Nat) (x : Int32), o ≠ 4 → uI X o j x 4 4 = X 4 4 := fun X o j x h => uI_a _ _ _ _ _ _ (Ne.symm h)
  have b := B87_0 (L := L) (o0 := 4) (x1 := nI k) (x2 := nI n) (x3 := nI A) (x4 := nI B) (I := AI I a) k_4
  rw [w _ (4 + 1) _ _ (by decide), w _ (4 + 2) _ _ (by decide), w _ (4 + 3) _ _ (by decide), w _ (4 + 4) _ _ (by decide)] at b
  simp only [w _ (4 + 1) _ _ (show 4 + 1 ≠ 4 by decide), w _ (4 + 2) _ _ (show 4 + 2 ≠ 4 by decide), w _ (4 + 3) _ _ (show 4 + 3 ≠ 4 by decide)] at b
  rw [AI_o _ _ _ (by decide), h4, if_pos (show nI m < (27 : Int32) from nI_lt (b := 27) hm (by decide)), ck_of (inb_nI hm (by decide)), ck_of (inb_nI hm (by decide)), ck_of (inb_nI hm (by decide)), ck_of (inb_nI hm (by decide)), ix_nI (by omega), nI_1] at b
  rw [b]
  unfold App AI
  rw [uI_cm I 2 5 _ _ _ _ (Or.inl (by decide)), uI_cm _ 2 6 _ _ _ _ (Or.inl (by decide)), uI_cm _ 2 7 _ _ _ _ (Or.inl (by decide)), uI_cm _ 2 8 _ _ _ _ (Or.inl (by decide)), uI_cm _ 2 4 _ _ _ _ (Or.inl (by decide))]
/-- the class's reading of a step -/
def p56 (L : Nat) (I : It) (m : Nat) (s : Option (Nat × Nat × Nat × Nat) × Nat) : Option Rs := match s with
  | (none, a) => some (some (.int 0), GG L, AI I a)
  | (some (k, n, A, B), a) => some (some (.int 1), GG L, AI (App I m k n A B) a)
theorem S58 {L l a m k z : Nat} {c : Nat → Nat} {I : It} {xk xz : Int32} (hk : (xk = 1 ∧ k = 1) ∨ (xk = 2 ∧ k = 2 ∧ xz = nI z)) (hT : Tc l c) (hI : TI l c I) (ha : a ≤ l) (h4 : I 4 4 = nI m) (hm : m < 27) :
    E 58 0 [some (.ref 2), some (.int xk), some (.int xz), none] [] (GG L) (AI I a) = if 97 ≤ c a ∧ c a ≤ 106 then some (some (.int 1), GG L, AI (if k = 1 then App I m 1 (c a - 97) 0 0 else App I m 2 z (c a - 97) 0) (a + 1)) else some (some (.int 0), GG L, AI I a) := by
  have hc := Tc_le hT a
  rw [B58_0, S62 hT hI ha]
  by_cases h : 97 ≤ c a ∧ c a ≤ 106
  · rw [if_pos h, if_pos h, K2_i, B58_4, if_neg (nI_n6 (by omega))]
    rcases hk with ⟨h1, h2⟩ | ⟨h1, h2, h3⟩
    · rw [if_pos h1, S87 (m := m) (k := 1) (n := c a - 97) (A := 0) (B := 0) (xk := 1) (xA := 0) (xB := 0) rfl rfl rfl rfl h4 hm, K2_v, B58_29, B58_43, if_pos h2]
    · rw [if_neg (by rw [h1]; decide), S87 (m := m) (k := 2) (n := z) (A := c a - 97) (B := 0) (xk := 2) (xB := 0) rfl h3 rfl rfl h4 hm, K2_v, B58_43, if_neg (by omega)]
  · rw [if_neg h, if_neg h, K2_i, B58_4, if_pos rfl]
theorem S59 {L l a m k z : Nat} {c : Nat → Nat} {I : It} {xk xz : Int32} (ek : xk = nI k) (ez : xz = nI z) (hT : Tc l c) (hI : TI l c I) (ha : a ≤ l) (h4 : I 4 4 = nI m) (hm : m < 27) :
    E 59 0 [some (.ref 2), some (.int xk), some (.int xz), none] [] (GG L) (AI I a) = if 50 ≤ c a ∧ c a ≤ 57 then some (some (.int 1), GG L, AI (App I m k z (c a - 48) 0) (a + 1)) else some (some (.int 0), GG L, AI I a) := by
  have hc := Tc_le hT a
  rw [B59_0, S63 (lo := 2) (hi := 9) (xl := 2) (xh := 9) rfl rfl hT hI ha (by decide) (by decide)]
  by_cases h : 50 ≤ c a ∧ c a ≤ 57
  · rw [if_pos h, if_pos h, K2_i, B59_7, if_neg (nI_n6 (by omega)), S87 (m := m) (k := k) (n := z) (A := c a - 48) (B := 0) (xB := 0) ek ez rfl rfl h4 hm, K2_v, B59_27]
  · rw [if_neg h, if_neg h, K2_i, B59_7, if_pos rfl]
theorem S60 {L l a m z : Nat} {c : Nat → Nat} {I : It} {xz : Int32} (ez : xz = nI z) (hT : Tc l c) (hI : TI l c I) (ha : a ≤ l) (h4 : I 4 4 = nI m) (hm : m < 27) :
    E 60 0 [some (.ref 2), some (.int xz), none] [] (GG L) (AI I a) = match nu c a with
      | none => some (some (.int 0), GG L, AI I a)
      | some q => some (some (.int 1), GG L, AI (App I m 5 z q.1 0) q.2) := by
  rw [B60_0, S61 hT hI ha]
  rcases hq : nu c a with _ | q
  · show K2 60 4 _ _ (some (some (.int (-6)), GG L, AI I a)) = _
    rw [K2_i, B60_4, if_pos rfl]
  · have hok := nu_ok hT hq
    show K2 60 4 _ _ (some (some (.int (nI q.1)), GG L, AI I q.2)) = _
    rw [K2_i, B60_4, if_neg (nI_n6 (by omega)), S87 (m := m) (k := 5) (n := z) (A := q.1) (B := 0) (xk := 5) (xB := 0) rfl ez rfl rfl h4 hm, K2_v, B60_24]
theorem P56 {L l a m : Nat} {c : Nat → Nat} {I : It} (hT : Tc l c) (hI : TI l c I) (ha : a ≤ l) (h4 : I 4 4 = nI m) (hm : m < 27) :
    E 56 0 [some (.ref 2), none] [] (GG L) (AI I a) = p56 L I m (stp c a) := by
  have hl := hT.1
  have hca := Tc_le hT a
  rw [B56_0, S64 (x := 43) (s := 43) rfl hT hI ha (by decide) (by decide)]
  unfold stp
  by_cases h43 : c a = 43
  · have l1 := Tc_lt hT (a := a) (by omega)
    have hc1 := Tc_le hT (a + 1)
    rw [if_pos h43, if_pos h43, K2_i, B56_6, if_neg (by decide), B57_0, S62 hT hI (by omega)]
    by_cases h1 : 97 ≤ c (a + 1) ∧ c (a + 1) ≤ 106
    · have l2 := Tc_lt hT (a := a + 1) (by omega)
      rw [if_pos h1, if_pos h1, K2_i, B57_4, if_neg (nI_n6 (by omega)), S61 hT hI (show a + 1 + 1 ≤ l by omega)]
      show K2 56 13 _ _ (K2 57 17 _ _ (nuI L I (a + 2) (nu c (a + 2)))) = _
      rcases hq : nu c (a + 2) with _ | q
      · show K2 56 13 _ _ (K2 57 17 _ _ (some (some (.int (-6)), GG L, AI I (a + 2)))) = _
        rw [K2_i, B57_17, if_pos rfl, K2_i, B56_13, ck_of (by decide)]
        rfl
      · have hok := nu_ok hT hq
        show K2 56 13 _ _ (K2 57 17 _ _ (some (some (.int (nI q.1)), GG L, AI I q.2))) = p56 L I m (if c q.2 = 61 then _ else _)
        rw [K2_i, B57_17, if_neg (nI_n6 (by omega)), S64 (x := 61) (s := 61) rfl hT hI hok.2.2 (by decide) (by decide)]
        by_cases h61 : c q.2 = 61
        · have l3 := Tc_lt hT (a := q.2) (by omega)
          rw [if_pos h61, if_pos h61, K2_i, B57_30, if_neg (by decide), S61 hT hI (by omega)]
          rcases hr : nu c (q.2 + 1) with _ | r
          · show K2 56 13 _ _ (K2 57 39 _ _ (some (some (.int (-6)), GG L, AI I (q.2 + 1)))) = _
            rw [K2_i, B57_39, if_pos rfl, K2_i, B56_13, ck_of (by decide)]
            rfl
          · have hok2 := nu_ok hT hr
            show K2 56 13 _ _ (K2 57 39 _ _ (some (some (.int (nI r.1)), GG L, AI I r.2))) = _
            rw [K2_i, B57_39, if_neg (nI_n6 (by omega)), S87 (m := m) (k := 0) (n := c (a + 1) - 97) (A := q.1) (B := r.1) (xk := 0) rfl rfl rfl rfl h4 hm, K2_v, B57_59, K2_i, B56_13, ck_of (by decide)]
            rfl
        · rw [if_neg h61, if_neg h61, K2_i, B57_30, if_pos rfl, K2_i, B56_13, ck_of (by decide)]
          rfl
    · rw [if_neg h1, if_neg h1, K2_i, B57_4, if_pos rfl, K2_i, B56_13, ck_of (by decide)]
      rfl
  · rw [if_neg h43, if_neg h43, K2_i, B56_6, if_pos rfl, S64 (x := 45) (s := 45) rfl hT hI ha (by decide) (by decide)]
    by_cases h45 : c a = 45
    · have l1 := Tc_lt hT (a := a) (by omega)
      rw [if_pos h45, if_pos h45, K2_i, B56_20, if_neg (by decide), S58 (k := 1) (z := 0) (Or.inl ⟨rfl, rfl⟩) hT hI (by omega) h4 hm]
      by_cases h1 : 97 ≤ c (a + 1) ∧ c (a + 1) ≤ 106
      · rw [if_pos h1, if_pos h1, K2_i, B56_30, ck_of (by decide), if_pos rfl]
        rfl
      · rw [if_neg h1, if_neg h1, K2_i, B56_30, ck_of (by decide)]
        rfl
    · rw [if_neg h45, if_neg h45, K2_i, B56_20, if_pos rfl, S62 hT hI ha]
      by_cases h1 : 97 ≤ c a ∧ c a ≤ 106
      · have l1 := Tc_lt hT (a := a) (by omega)
        rw [if_pos h1, if_pos h1, K2_i, B56_35, if_neg (nI_n6 (by omega)), S64 (x := 62) (s := 62) rfl hT hI (by omega) (by decide) (by decide)]
        by_cases h62 : c (a + 1) = 62
        · have l2 := Tc_lt hT (a := a + 1) (by omega)
          rw [if_pos h62, if_pos h62, K2_i, B56_50, if_neg (by decide), S58 (k := 2) (z := c a - 97) (Or.inr ⟨rfl, rfl, rfl⟩) hT hI (show a + 1 + 1 ≤ l by omega) h4 hm]
          by_cases h2 : 97 ≤ c (a + 2) ∧ c (a + 2) ≤ 106
          · rw [if_pos h2, if_pos h2, K2_i, B56_59, ck_of (by decide), if_neg (by decide)]
            rfl
          · rw [if_neg h2, if_neg h2, K2_i, B56_59, ck_of (by decide)]
            rfl
        · rw [if_neg h62, if_neg h62, K2_i, B56_50, if_pos rfl, S64 (x := 42) (s := 42) rfl hT hI (by omega) (by decide) (by decide)]
          by_cases h42 : c (a + 1) = 42
          · have l2 := Tc_lt hT (a := a + 1) (by omega)
            rw [if_pos h42, if_pos h42, K2_i, B56_66, if_neg (by decide), S59 (k := 3) (xk := 3) (z := c a - 97) rfl rfl hT hI (show a + 1 + 1 ≤ l by omega) h4 hm]
            by_cases h2 : 50 ≤ c (a + 2) ∧ c (a + 2) ≤ 57
            · rw [if_pos h2, if_pos h2, K2_i, B56_75, ck_of (by decide)]
              rfl
            · rw [if_neg h2, if_neg h2, K2_i, B56_75, ck_of (by decide)]
              rfl
          · rw [if_neg h42, if_neg h42, K2_i, B56_66, if_pos rfl, S64 (x := 47) (s := 47) rfl hT hI (by omega) (by decide) (by decide)]
            by_cases h47 : c (a + 1) = 47
            · have l2 := Tc_lt hT (a := a + 1) (by omega)
              rw [if_pos h47, if_pos h47, K2_i, B56_82, if_neg (by decide), S59 (k := 4) (xk := 4) (z := c a - 97) rfl rfl hT hI (show a + 1 + 1 ≤ l by omega) h4 hm]
              by_cases h2 : 50 ≤ c (a + 2) ∧ c (a + 2) ≤ 57
              · rw [if_pos h2, if_pos h2, K2_i, B56_91, ck_of (by decide)]
                rfl
              · rw [if_neg h2, if_neg h2, K2_i, B56_91, ck_of (by decide)]
                rfl
            · rw [if_neg h47, if_neg h47, K2_i, B56_82, if_pos rfl, S64 (x := 60) (s := 60) rfl hT hI (by omega) (by decide) (by decide)]
              by_cases h60 : c (a + 1) = 60
              · have l2 := Tc_lt hT (a := a + 1) (by omega)
                rw [if_pos h60, if_pos h60, K2_i, B56_98, if_neg (by decide), S60 (z := c a - 97) rfl hT hI (show a + 1 + 1 ≤ l by omega) h4 hm]
                show K2 56 106 _ _ (match nu c (a + 2) with | none => _ | some q => _) = _
                rcases hq : nu c (a + 2) with _ | q
                · show K2 56 106 _ _ (some (some (.int 0), GG L, AI I (a + 2))) = _
                  rw [K2_i, B56_106, if_pos rfl]
                  rfl
                · show K2 56 106 _ _ (some (some (.int 1), GG L, AI (App I m 5 (c a - 97) q.1 0) q.2)) = _
                  rw [K2_i, B56_106, if_neg (by decide)]
                  rfl
              · rw [if_neg h60, if_neg h60, K2_i, B56_98, if_pos rfl]
                rfl
      · rw [if_neg h1, if_neg h1, K2_i, B56_35, if_pos rfl]
        rfl
