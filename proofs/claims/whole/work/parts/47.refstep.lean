/-- only what is read at the moment has changed, in the reference -/
def Fj (J J' : It) : Prop := (∀ o, o ≠ 119 → J' o = J o) ∧ ∀ j, j < 22 → J' 119 j = J 119 j
theorem Fj_r (J : It) : Fj J J := ⟨fun _ _ => rfl, fun _ _ => rfl⟩
theorem Fj_u {J X : It} {k : Nat} {x : Int32} (h : Fj J X) (hk : 22 ≤ k) : Fj J (uI X 119 k x) := ⟨fun o q => (uI_o _ _ _ _ _ q).trans (h.1 o q), fun j q => (uI_k _ _ _ _ _ (by omega)).trans (h.2 j q)⟩
theorem Fj_T {l : Nat} {c : Nat → Nat} {J X : It} (h : Fj J X) (hJ : TJ l c J) : TJ l c X := ⟨(h.2 5 (by decide)).trans hJ.1, fun k hk => by rw [h.1 124 (by decide)]; exact hJ.2 k hk⟩
/-- how the reference's reading of a step ends -/
def r175 (L : Nat) (J : It) (x : Option Rs) (s : Option (Nat × Nat × Nat × Nat) × Nat) : Prop := match s with
  | (none, a) => ∃ J', x = some (none, GG L, AJ J' a 1) ∧ Fj J J'
  | (some (k, n, A, B), a) => ∃ J', x = some (none, GG L, AJ J' a 0) ∧ Fj J J' ∧ J' 119 24 = nI k ∧ J' 119 25 = nI n ∧ J' 119 26 = nI A ∧ J' 119 27 = nI B
theorem W105 {L p : Nat} {X : It} {w : Int32} {u1 : Option Value} : E 175 105 [some (.ref 119), u1] [.int 1, .ref 119] (GG L) (AJ X p w) = some (none, GG L, AJ (uI X 119 27 0) p 1) := by
  rw [B175_105, ck_of (by decide), uI_s, if_neg (by decide), AJ_u23, AJ_22, Int32.add_zero, AJ_u22, S172w, K2_i, B175_134, AJ_uk _ _ _ _ _ (by decide) (by decide)]
theorem W80 {L p : Nat} {X : It} {u1 : Option Value} {s : Int32} : E 175 80 [some (.ref 119), u1] [.int s, .ref 119] (GG L) (AJ X p 1) = some (none, GG L, AJ (uI (uI X 119 26 s) 119 27 0) p 1) := by
  rw [B175_80, AJ_uk _ _ _ _ _ (by decide) (by decide), AJ_23, if_neg (by decide), W105]
theorem nI_is {x k : Nat} {y : Int32} (e : y = nI k) (hx : x < 2 ^ 31) (hk : k < 2 ^ 31) : nI x = y ↔ x = k := by
  subst e; exact nI_eq hx hk
/-- a step with a plus sign -/
theorem P175p {L l a : Nat} {c : Nat → Nat} {J X : It} (hT : Tc l c) (hJ : TJ l c J) (hX : Fj J X) (h26 : X 119 27 = 0) (ha : a < l) (h43 : c a = 43) : r175 L J (E 175 32 [some (.ref 119), some (.int (nI (c a)))] [] (GG L) (AJ X a 0)) (stp c a) := by
  have hl := hT.1
  unfold stp
  rw [B175_32, h43, if_pos (show nI 43 = (43 : Int32) from rfl), if_pos rfl, AJ_22, nI_1, AJ_u22, AJ_uk _ _ _ _ _ (by decide) (by decide)]
  obtain ⟨X1, hX1⟩ : ∃ X1, uI X 119 24 0 = X1 := ⟨_, rfl⟩
  have fX1 : Fj J X1 := hX1 ▸ Fj_u hX (by decide)
  have k24 : X1 119 24 = nI 0 := by rw [← hX1, uI_s]; rfl
  rw [hX1, S173 (lo := 97) (hi := 106) (xl := 97) (xh := 106) rfl rfl hT (Fj_T fX1 hJ) (by omega) (by decide) (by decide) (by decide)]
  by_cases h1 : 97 ≤ c (a + 1) ∧ c (a + 1) ≤ 106
  · have l2 := Tc_lt hT (a := a + 1) (by omega)
    rw [if_pos h1, if_pos h1, K2_i, B175_66, if_pos (show nI 43 = (43 : Int32) from rfl), AJ_uk _ _ _ _ _ (by decide) (by decide)]
    obtain ⟨X2, hX2⟩ : ∃ X2, uI X1 119 25 (nI (c (a + 1) - 97)) = X2 := ⟨_, rfl⟩
    have fX2 : Fj J X2 := hX2 ▸ Fj_u fX1 (by decide)
    have k24' : X2 119 24 = nI 0 := by rw [← hX2, uI_k _ _ _ _ _ (by decide)]; exact k24
    have k25 : X2 119 25 = nI (c (a + 1) - 97) := by rw [← hX2, uI_s]
    rw [hX2, S172 hT (Fj_T fX2 hJ) (show a + 1 + 1 ≤ l by omega)]
    show r175 L J (K2 175 80 _ _ (nuJ L X2 (a + 2) (nu c (a + 2)))) (match nu c (a + 2) with | none => _ | some q => _)
    rcases hq : nu c (a + 2) with _ | q
    · refine ⟨uI (uI X2 119 26 0) 119 27 0, ?_, Fj_u (Fj_u fX2 (by decide)) (by decide)⟩
      show K2 175 80 _ _ (some (some (.int 0), GG L, AJ X2 (a + 2) 1)) = _
      rw [K2_i]
      exact W80
    · have hok := nu_ok hT hq
      show r175 L J (K2 175 80 _ _ (some (some (.int (nI q.1)), GG L, AJ X2 q.2 0))) (if c q.2 = 61 then _ else _)
      rw [K2_i, B175_80, AJ_uk _ _ _ _ _ (by decide) (by decide), AJ_23, if_pos rfl]
      obtain ⟨X3, hX3⟩ : ∃ X3, uI X2 119 26 (nI q.1) = X3 := ⟨_, rfl⟩
      have fX3 : Fj J X3 := hX3 ▸ Fj_u fX2 (by decide)
      have hc3 := Tc_le hT q.2
      rw [hX3, S171 hT (Fj_T fX3 hJ) hok.2.2, K2_i, B175_95]
      by_cases h61 : c q.2 = 61
      · have l3 := Tc_lt hT (a := q.2) (by omega)
        rw [if_pos ((nI_is (k := 61) (y := 61) rfl (by omega) (by decide)).mpr h61), if_pos h61, B175_105, ck_of (by decide), uI_s, if_pos rfl, AJ_u23, AJ_22, nI_1, AJ_u22, S172 hT (Fj_T fX3 hJ) (by omega)]
        rcases hr : nu c (q.2 + 1) with _ | r
        · refine ⟨uI X3 119 27 0, ?_, Fj_u fX3 (by decide)⟩
          show K2 175 134 _ _ (some (some (.int 0), GG L, AJ X3 (q.2 + 1) 1)) = _
          rw [K2_i, B175_134, AJ_uk _ _ _ _ _ (by decide) (by decide)]
        · refine ⟨uI X3 119 27 (nI r.1), ?_, Fj_u fX3 (by decide), ?_, ?_, ?_, uI_s _ _ _ _⟩
          · show K2 175 134 _ _ (some (some (.int (nI r.1)), GG L, AJ X3 r.2 0)) = _
            rw [K2_i, B175_134, AJ_uk _ _ _ _ _ (by decide) (by decide)]
          · rw [uI_k _ _ _ _ _ (by decide), ← hX3, uI_k _ _ _ _ _ (by decide)]; exact k24'
          · rw [uI_k _ _ _ _ _ (by decide), ← hX3, uI_k _ _ _ _ _ (by decide)]; exact k25
          · rw [uI_k _ _ _ _ _ (by decide), ← hX3, uI_s]
      · rw [if_neg (fun z => h61 ((nI_is (k := 61) (y := 61) rfl (by omega) (by decide)).mp z)), if_neg h61]
        exact ⟨_, W105, Fj_u fX3 (by decide)⟩
  · rw [if_neg h1, if_neg h1, K2_i, B175_66, if_pos (show nI 43 = (43 : Int32) from rfl), AJ_uk _ _ _ _ _ (by decide) (by decide), S172w, K2_i]
    exact ⟨_, W80, Fj_u (Fj_u (Fj_u fX1 (by decide)) (by decide)) (by decide)⟩
/-- a wrong step goes to its end -/
theorem W54 {L l p : Nat} {J X : It} {x1 s : Int32} (hX : Fj J X) (hs : s = 2 ∨ s = 3 ∨ s = 4 ∨ s = 5) : ∃ J', E 174 54 [some (.ref 119), some (.int x1)] [.int s, .ref 119] (GG L) (AJ X p 1) = some (none, GG L, AJ J' p 1) ∧ Fj J J' := by
  obtain ⟨X1, hX1⟩ : ∃ X1, uI X 119 24 s = X1 := ⟨_, rfl⟩
  have fX1 : Fj J X1 := hX1 ▸ Fj_u hX (by decide)
  have k24 : X1 119 24 = s := by rw [← hX1, uI_s]
  rw [B174_54, AJ_uk _ _ _ _ _ (by decide) (by decide), hX1, AJ_23, if_neg (by decide), B174_94, ck_of (by decide), AJ_u23, AJ_23, if_neg (by decide), AJ_22, B174_114, Int32.add_zero, AJ_u22, AJ_k _ _ _ _ (by decide) (by decide), k24]
  by_cases h2 : s = 2
  · rw [if_pos h2, S173w, K2_i, B174_135, AJ_uk _ _ _ _ _ (by decide) (by decide)]
    exact ⟨_, rfl, Fj_u fX1 (by decide)⟩
  · rw [if_neg h2]
    by_cases h5 : s = 5
    · rw [if_pos h5, S172w, K2_i, B174_150, AJ_uk _ _ _ _ _ (by decide) (by decide)]
      exact ⟨_, rfl, Fj_u fX1 (by decide)⟩
    · rw [if_neg h5, S173w, K2_i, B174_162, AJ_uk _ _ _ _ _ (by decide) (by decide)]
      exact ⟨_, rfl, Fj_u fX1 (by decide)⟩
/-- a right sign behind the name -/
theorem W54r {L p : Nat} {X : It} {s : Int32} {x : Nat} (hx : x = 62 ∨ x = 42 ∨ x = 47 ∨ x = 60) : E 174 54 [some (.ref 119), some (.int (nI x))] [.int s, .ref 119] (GG L) (AJ X p 0) = E 174 114 [some (.ref 119), some (.int (nI x))] [.int 1, .int (nI p), .ref 119] (GG L) (AJ (uI X 119 24 s) p 0) := by
  have e94 : E 174 94 [some (.ref 119), some (.int (nI x))] [.int 0, .ref 119] (GG L) (AJ (uI X 119 24 s) p 0) = E 174 114 [some (.ref 119), some (.int (nI x))] [.int 1, .int (nI p), .ref 119] (GG L) (AJ (uI X 119 24 s) p 0) := by
    rw [B174_94, ck_of (by decide), AJ_u23, AJ_23, if_pos rfl, AJ_22]
  rw [B174_54, AJ_uk _ _ _ _ _ (by decide) (by decide), AJ_23, if_pos rfl, e94]
  rcases hx with rfl | rfl | rfl | rfl
  · rw [if_pos (show nI 62 = (62 : Int32) from rfl)]
  · rw [if_neg (show ¬ nI 42 = (62 : Int32) by decide), if_pos (show nI 42 = (42 : Int32) from rfl)]
  · rw [if_neg (show ¬ nI 47 = (62 : Int32) by decide), if_neg (show ¬ nI 47 = (42 : Int32) by decide), if_pos (show nI 47 = (47 : Int32) from rfl)]
  · rw [if_neg (show ¬ nI 60 = (62 : Int32) by decide), if_neg (show ¬ nI 60 = (42 : Int32) by decide), if_neg (show ¬ nI 60 = (47 : Int32) by decide), if_pos (show nI 60 = (60 : Int32) from rfl)]
/-- a step that begins with a name -/
theorem P174 {L l a : Nat} {c : Nat → Nat} {J X : It} (hT : Tc l c) (hJ : TJ l c J) (hX : Fj J X) (h27 : X 119 27 = 0) (ha : a ≤ l) (h43 : ¬ c a = 43) (h45 : ¬ c a = 45) : r175 L J (E 174 0 [some (.ref 119), none] [] (GG L) (AJ X a 0)) (stp c a) := by
  have hl := hT.1
  have hca := Tc_le hT a
  unfold stp
  rw [if_neg h43, if_neg h45, B174_0, S171 hT (Fj_T hX hJ) ha, K2_i, B174_4, S173 (lo := 97) (hi := 106) (xl := 97) (xh := 106) rfl rfl hT (Fj_T hX hJ) ha (by decide) (by decide) (by decide)]
  by_cases h1 : 97 ≤ c a ∧ c a ≤ 106
  · have l1 := Tc_lt hT (a := a) (by omega)
    have hc1 := Tc_le hT (a + 1)
    obtain ⟨X1, hX1⟩ : ∃ X1, uI X 119 25 (nI (c a - 97)) = X1 := ⟨_, rfl⟩
    have fX1 : Fj J X1 := hX1 ▸ Fj_u hX (by decide)
    have k25 : X1 119 25 = nI (c a - 97) := by rw [← hX1, uI_s]
    have k27 : X1 119 27 = 0 := by rw [← hX1, uI_k _ _ _ _ _ (by decide)]; exact h27
    rw [if_pos h1, if_pos h1, K2_i, B174_14, AJ_uk _ _ _ _ _ (by decide) (by decide), hX1, S171 hT (Fj_T fX1 hJ) (by omega), K2_i, B174_21]
    have go : ∀ (s : Int32) (X2 : It), uI X1 119 24 s = X2 → Fj J X2 ∧ X2 119 24 = s ∧ X2 119 25 = nI (c a - 97) ∧ X2 119 27 = nI 0 := fun s X2 h => ⟨h ▸ Fj_u fX1 (by decide), by rw [← h, uI_s], by rw [← h, uI_k _ _ _ _ _ (by decide)]; exact k25, by rw [← h, uI_k _ _ _ _ _ (by decide)]; exact k27⟩
    by_cases h62 : c (a + 1) = 62
    · have l2 := Tc_lt hT (a := a + 1) (by omega)
      obtain ⟨X2, hX2⟩ : ∃ X2, uI X1 119 24 2 = X2 := ⟨_, rfl⟩
      obtain ⟨fX2, y24, y25, y27⟩ := go _ _ hX2
      rw [if_pos ((nI_is (k := 62) (y := 62) rfl (by omega) (by decide)).mpr h62), if_pos h62, W54r (Or.inl h62), hX2, B174_114, nI_1, AJ_u22, AJ_k _ _ _ _ (by decide) (by decide), y24, if_pos rfl, S173 (lo := 97) (hi := 106) (xl := 97) (xh := 106) rfl rfl hT (Fj_T fX2 hJ) (show a + 1 + 1 ≤ l by omega) (by decide) (by decide) (by decide)]
      by_cases h2 : 97 ≤ c (a + 2) ∧ c (a + 2) ≤ 106
      · rw [if_pos h2, if_pos h2, K2_i, B174_135, AJ_uk _ _ _ _ _ (by decide) (by decide)]
        exact ⟨_, rfl, Fj_u fX2 (by decide), (uI_k _ _ _ _ _ (by decide)).trans y24, (uI_k _ _ _ _ _ (by decide)).trans y25, uI_s _ _ _ _, (uI_k _ _ _ _ _ (by decide)).trans y27⟩
      · rw [if_neg h2, if_neg h2, K2_i, B174_135, AJ_uk _ _ _ _ _ (by decide) (by decide)]
        exact ⟨_, rfl, Fj_u fX2 (by decide)⟩
    · rw [if_neg (fun z => h62 ((nI_is (k := 62) (y := 62) rfl (by omega) (by decide)).mp z)), if_neg h62]
      have fac : ∀ (s : Int32) (k : Nat) (hk : s = nI k) (h2' : ¬ s = 2) (h5' : ¬ s = 5) (hx : c (a + 1) = 62 ∨ c (a + 1) = 42 ∨ c (a + 1) = 47 ∨ c (a + 1) = 60), r175 L J (E 174 54 [some (.ref 119), some (.int (nI (c (a + 1))))] [.int s, .ref 119] (GG L) (AJ X1 (a + 1) 0)) (if 50 ≤ c (a + 2) ∧ c (a + 2) ≤ 57 then (some (k, c a - 97, c (a + 2) - 48, 0), a + 3) else (none, a + 2)) := by
        intro s k hk h2' h5' hx
        have l2 := Tc_lt hT (a := a + 1) (by omega)
        obtain ⟨X2, hX2⟩ : ∃ X2, uI X1 119 24 s = X2 := ⟨_, rfl⟩
        obtain ⟨fX2, y24, y25, y27⟩ := go _ _ hX2
        rw [W54r hx, hX2, B174_114, nI_1, AJ_u22, AJ_k _ _ _ _ (by decide) (by decide), y24, if_neg h2', if_neg h5', S173 (lo := 50) (hi := 57) (xl := 50) (xh := 57) rfl rfl hT (Fj_T fX2 hJ) (show a + 1 + 1 ≤ l by omega) (by decide) (by decide) (by decide)]
        by_cases h2 : 50 ≤ c (a + 2) ∧ c (a + 2) ≤ 57
        · have e2 : (2 : Int32) + nI (c (a + 2) - 50) = nI (c (a + 2) - 48) := by
            rw [show (2 : Int32) = nI 2 from rfl, nI_add, show 2 + (c (a + 2) - 50) = c (a + 2) - 48 by omega]
          rw [if_pos h2, if_pos h2, K2_i, B174_162, AJ_uk _ _ _ _ _ (by decide) (by decide)]
          exact ⟨_, rfl, Fj_u fX2 (by decide), ((uI_k _ _ _ _ _ (by decide)).trans y24).trans hk, (uI_k _ _ _ _ _ (by decide)).trans y25, (uI_s _ _ _ _).trans e2, (uI_k _ _ _ _ _ (by decide)).trans y27⟩
        · rw [if_neg h2, if_neg h2, K2_i, B174_162, AJ_uk _ _ _ _ _ (by decide) (by decide)]
          exact ⟨_, rfl, Fj_u fX2 (by decide)⟩
      by_cases h42 : c (a + 1) = 42
      · rw [if_pos ((nI_is (k := 42) (y := 42) rfl (by omega) (by decide)).mpr h42), if_pos h42]
        exact fac 3 3 rfl (by decide) (by decide) (Or.inr (Or.inl h42))
      · rw [if_neg (fun z => h42 ((nI_is (k := 42) (y := 42) rfl (by omega) (by decide)).mp z)), if_neg h42]
        by_cases h47 : c (a + 1) = 47
        · rw [if_pos ((nI_is (k := 47) (y := 47) rfl (by omega) (by decide)).mpr h47), if_pos h47]
          exact fac 4 4 rfl (by decide) (by decide) (Or.inr (Or.inr (Or.inl h47)))
        · rw [if_neg (fun z => h47 ((nI_is (k := 47) (y := 47) rfl (by omega) (by decide)).mp z)), if_neg h47]
          obtain ⟨X2, hX2⟩ : ∃ X2, uI X1 119 24 5 = X2 := ⟨_, rfl⟩
          obtain ⟨fX2, y24, y25, y27⟩ := go _ _ hX2
          by_cases h60 : c (a + 1) = 60
          · have l2 := Tc_lt hT (a := a + 1) (by omega)
            rw [if_pos h60, W54r (Or.inr (Or.inr (Or.inr h60))), hX2, B174_114, nI_1, AJ_u22, AJ_k _ _ _ _ (by decide) (by decide), y24, if_neg (by decide), if_pos rfl, S172 hT (Fj_T fX2 hJ) (show a + 1 + 1 ≤ l by omega)]
            show r175 L J (K2 174 150 _ _ (nuJ L X2 (a + 2) (nu c (a + 2)))) (match nu c (a + 2) with | none => _ | some q => _)
            rcases hq : nu c (a + 2) with _ | q
            · refine ⟨uI X2 119 26 0, ?_, Fj_u fX2 (by decide)⟩
              show K2 174 150 _ _ (some (some (.int 0), GG L, AJ X2 (a + 2) 1)) = _
              rw [K2_i, B174_150, AJ_uk _ _ _ _ _ (by decide) (by decide)]
            · refine ⟨uI X2 119 26 (nI q.1), ?_, Fj_u fX2 (by decide), (uI_k _ _ _ _ _ (by decide)).trans y24, (uI_k _ _ _ _ _ (by decide)).trans y25, uI_s _ _ _ _, (uI_k _ _ _ _ _ (by decide)).trans y27⟩
              show K2 174 150 _ _ (some (some (.int (nI q.1)), GG L, AJ X2 q.2 0)) = _
              rw [K2_i, B174_150, AJ_uk _ _ _ _ _ (by decide) (by decide)]
          · have n62 : ¬ nI (c (a + 1)) = (62 : Int32) := fun z => h62 ((nI_is (k := 62) (y := 62) rfl (by omega) (by decide)).mp z)
            have n42 : ¬ nI (c (a + 1)) = (42 : Int32) := fun z => h42 ((nI_is (k := 42) (y := 42) rfl (by omega) (by decide)).mp z)
            have n47 : ¬ nI (c (a + 1)) = (47 : Int32) := fun z => h47 ((nI_is (k := 47) (y := 47) rfl (by omega) (by decide)).mp z)
            have n60 : ¬ nI (c (a + 1)) = (60 : Int32) := fun z => h60 ((nI_is (k := 60) (y := 60) rfl (by omega) (by decide)).mp z)
            rw [if_neg h60, B174_54, AJ_uk _ _ _ _ _ (by decide) (by decide), hX2, AJ_23, if_pos rfl, if_neg n62, if_neg n42, if_neg n47, if_neg n60, B174_94, ck_of (by decide), AJ_u23, AJ_23, if_neg (by decide), AJ_22, B174_114, Int32.add_zero, AJ_u22, AJ_k _ _ _ _ (by decide) (by decide), y24, if_neg (by decide), if_pos rfl, S172w, K2_i, B174_150, AJ_uk _ _ _ _ _ (by decide) (by decide)]
            exact ⟨_, rfl, Fj_u fX2 (by decide)⟩
  · rw [if_neg h1, if_neg h1, K2_i, B174_14, AJ_uk _ _ _ _ _ (by decide) (by decide), S171 hT (Fj_T (Fj_u hX (by decide)) hJ) ha, K2_i, B174_21]
    have fX1 : Fj J (uI X 119 25 0) := Fj_u hX (by decide)
    split
    · exact W54 (l := l) fX1 (Or.inl rfl)
    · split
      · exact W54 (l := l) fX1 (Or.inr (Or.inl rfl))
      · split
        · exact W54 (l := l) fX1 (Or.inr (Or.inr (Or.inl rfl)))
        · exact W54 (l := l) fX1 (Or.inr (Or.inr (Or.inr rfl)))
theorem P175 {L l a : Nat} {c : Nat → Nat} {J : It} (hT : Tc l c) (hJ : TJ l c J) (ha : a ≤ l) : r175 L J (E 175 0 [some (.ref 119), none] [] (GG L) (AJ J a 0)) (stp c a) := by
  have hl := hT.1
  have hca := Tc_le hT a
  obtain ⟨X, hX⟩ : ∃ X, uI (uI J 119 26 0) 119 27 0 = X := ⟨_, rfl⟩
  have fX : Fj J X := hX ▸ Fj_u (Fj_u (Fj_r J) (by decide)) (by decide)
  have k27 : X 119 27 = 0 := by rw [← hX, uI_s]
  have k26 : X 119 26 = 0 := by rw [← hX, uI_k _ _ _ _ _ (by decide), uI_s]
  rw [B175_0, S171 hT hJ ha, K2_i, B175_4, AJ_uk _ _ _ _ _ (by decide) (by decide), AJ_uk _ _ _ _ _ (by decide) (by decide), hX]
  by_cases h43 : c a = 43
  · rw [if_pos ((nI_is (k := 43) (y := 43) rfl (by omega) (by decide)).mpr h43)]
    exact P175p hT hJ fX k27 (Tc_lt hT (by omega)) h43
  · rw [if_neg (fun z => h43 ((nI_is (k := 43) (y := 43) rfl (by omega) (by decide)).mp z))]
    by_cases h45 : c a = 45
    · have l1 := Tc_lt hT (a := a) (by omega)
      have n43 : ¬ nI (c a) = (43 : Int32) := fun z => h43 ((nI_is (k := 43) (y := 43) rfl (by omega) (by decide)).mp z)
      obtain ⟨X1, hX1⟩ : ∃ X1, uI X 119 24 1 = X1 := ⟨_, rfl⟩
      have fX1 : Fj J X1 := hX1 ▸ Fj_u fX (by decide)
      rw [if_pos ((nI_is (k := 45) (y := 45) rfl (by omega) (by decide)).mpr h45), B175_32, if_neg n43, AJ_22, nI_1, AJ_u22, AJ_uk _ _ _ _ _ (by decide) (by decide), hX1, S173 (lo := 97) (hi := 106) (xl := 97) (xh := 106) rfl rfl hT (Fj_T fX1 hJ) (by omega) (by decide) (by decide) (by decide)]
      unfold stp
      rw [if_neg h43, if_pos h45]
      by_cases h1 : 97 ≤ c (a + 1) ∧ c (a + 1) ≤ 106
      · rw [if_pos h1, if_pos h1, K2_i, B175_66, if_neg n43, AJ_uk _ _ _ _ _ (by decide) (by decide)]
        refine ⟨_, rfl, Fj_u fX1 (by decide), ?_, uI_s _ _ _ _, ?_, ?_⟩
        · rw [uI_k _ _ _ _ _ (by decide), ← hX1, uI_s]; rfl
        · rw [uI_k _ _ _ _ _ (by decide), ← hX1, uI_k _ _ _ _ _ (by decide)]; exact k26
        · rw [uI_k _ _ _ _ _ (by decide), ← hX1, uI_k _ _ _ _ _ (by decide)]; exact k27
      · rw [if_neg h1, if_neg h1, K2_i, B175_66, if_neg n43, AJ_uk _ _ _ _ _ (by decide) (by decide)]
        exact ⟨_, rfl, Fj_u fX1 (by decide)⟩
    · have h := P174 (L := L) hT hJ fX k27 ha h43 h45
      rw [if_neg (fun z => h45 ((nI_is (k := 45) (y := 45) rfl (by omega) (by decide)).mp z))]
      rcases hs : stp c a with ⟨_ | ⟨k, n, A, B⟩, b⟩
      · rw [hs] at h
        obtain ⟨J', e, f⟩ := h
        exact ⟨J', by rw [e, K2_v, B175_31], f⟩
      · rw [hs] at h
        obtain ⟨J', e, f⟩ := h
        exact ⟨J', by rw [e, K2_v, B175_31], f⟩
/-- what a right step is, and how far it reaches -/
theorem stp_ok {l a b k n A B : Nat} {c : Nat → Nat} (hT : Tc l c) (h : stp c a = (some (k, n, A, B), b)) : Sk k n A B ∧ a + 2 ≤ b ∧ b ≤ l := by
  unfold stp at h
  by_cases h43 : c a = 43
  · rw [if_pos h43] at h
    by_cases h1 : 97 ≤ c (a + 1) ∧ c (a + 1) ≤ 106
    · rw [if_pos h1] at h
      rcases hq : nu c (a + 2) with _ | q
      · rw [hq] at h; cases h
      · have hok := nu_ok hT hq
        rw [hq] at h
        have h' : (if c q.2 = 61 then (match nu c (q.2 + 1) with | none => (none, q.2 + 1) | some r => (some (0, c (a + 1) - 97, q.1, r.1), r.2)) else (none, q.2)) = (some (k, n, A, B), b) := h
        by_cases h61 : c q.2 = 61
        · rw [if_pos h61] at h'
          rcases hr : nu c (q.2 + 1) with _ | r
          · rw [hr] at h'; cases h'
          · have hok2 := nu_ok hT hr
            rw [hr] at h'
            cases h'
            exact ⟨⟨by omega, Or.inl ⟨rfl, by omega, by omega⟩⟩, by omega, hok2.2.2⟩
        · rw [if_neg h61] at h'; cases h'
    · rw [if_neg h1] at h; cases h
  · rw [if_neg h43] at h
    by_cases h45 : c a = 45
    · rw [if_pos h45] at h
      by_cases h1 : 97 ≤ c (a + 1) ∧ c (a + 1) ≤ 106
      · have l2 := Tc_lt hT (a := a + 1) (by omega)
        rw [if_pos h1] at h
        cases h
        exact ⟨⟨by omega, Or.inr (Or.inl ⟨rfl, rfl, rfl⟩)⟩, by omega, by omega⟩
      · rw [if_neg h1] at h; cases h
    · rw [if_neg h45] at h
      by_cases h1 : 97 ≤ c a ∧ c a ≤ 106
      · rw [if_pos h1] at h
        by_cases h62 : c (a + 1) = 62
        · rw [if_pos h62] at h
          by_cases h2 : 97 ≤ c (a + 2) ∧ c (a + 2) ≤ 106
          · have l3 := Tc_lt hT (a := a + 2) (by omega)
            rw [if_pos h2] at h
            cases h
            exact ⟨⟨by omega, Or.inr (Or.inr (Or.inl ⟨rfl, by omega, rfl⟩))⟩, by omega, by omega⟩
          · rw [if_neg h2] at h; cases h
        · rw [if_neg h62] at h
          by_cases h42 : c (a + 1) = 42
          · rw [if_pos h42] at h
            by_cases h2 : 50 ≤ c (a + 2) ∧ c (a + 2) ≤ 57
            · have l3 := Tc_lt hT (a := a + 2) (by omega)
              rw [if_pos h2] at h
              cases h
              exact ⟨⟨by omega, Or.inr (Or.inr (Or.inr (Or.inl ⟨Or.inl rfl, by omega, by omega, rfl⟩)))⟩, by omega, by omega⟩
            · rw [if_neg h2] at h; cases h
          · rw [if_neg h42] at h
            by_cases h47 : c (a + 1) = 47
            · rw [if_pos h47] at h
              by_cases h2 : 50 ≤ c (a + 2) ∧ c (a + 2) ≤ 57
              · have l3 := Tc_lt hT (a := a + 2) (by omega)
                rw [if_pos h2] at h
                cases h
                exact ⟨⟨by omega, Or.inr (Or.inr (Or.inr (Or.inl ⟨Or.inr rfl, by omega, by omega, rfl⟩)))⟩, by omega, by omega⟩
              · rw [if_neg h2] at h; cases h
            · rw [if_neg h47] at h
              by_cases h60 : c (a + 1) = 60
              · rw [if_pos h60] at h
                rcases hq : nu c (a + 2) with _ | q
                · rw [hq] at h; cases h
                · have hok := nu_ok hT hq
                  rw [hq] at h
                  cases h
                  exact ⟨⟨by omega, Or.inr (Or.inr (Or.inr (Or.inr ⟨rfl, by omega, rfl⟩)))⟩, by omega, hok.2.2⟩
              · rw [if_neg h60] at h; cases h
      · rw [if_neg h1] at h; cases h
/-- where reading stops at a wrong step -/
theorem stp_no {l a b : Nat} {c : Nat → Nat} (hT : Tc l c) (ha : a ≤ l) (h : stp c a = (none, b)) : b ≤ l := by
  unfold stp at h
  by_cases h43 : c a = 43
  · have l1 := Tc_lt hT (a := a) (by omega)
    rw [if_pos h43] at h
    by_cases h1 : 97 ≤ c (a + 1) ∧ c (a + 1) ≤ 106
    · have l2 := Tc_lt hT (a := a + 1) (by omega)
      rw [if_pos h1] at h
      rcases hq : nu c (a + 2) with _ | q
      · rw [hq] at h; cases h; omega
      · have hok := nu_ok hT hq
        rw [hq] at h
        have h' : (if c q.2 = 61 then (match nu c (q.2 + 1) with | none => (none, q.2 + 1) | some r => (some (0, c (a + 1) - 97, q.1, r.1), r.2)) else (none, q.2)) = (none, b) := h
        by_cases h61 : c q.2 = 61
        · have l3 := Tc_lt hT (a := q.2) (by omega)
          rw [if_pos h61] at h'
          rcases hr : nu c (q.2 + 1) with _ | r
          · rw [hr] at h'; cases h'; omega
          · rw [hr] at h'; cases h'
        · rw [if_neg h61] at h'; cases h'; exact hok.2.2
    · rw [if_neg h1] at h; cases h; omega
  · rw [if_neg h43] at h
    by_cases h45 : c a = 45
    · have l1 := Tc_lt hT (a := a) (by omega)
      rw [if_pos h45] at h
      by_cases h1 : 97 ≤ c (a + 1) ∧ c (a + 1) ≤ 106
      · rw [if_pos h1] at h; cases h
      · rw [if_neg h1] at h; cases h; omega
    · rw [if_neg h45] at h
      by_cases h1 : 97 ≤ c a ∧ c a ≤ 106
      · have l1 := Tc_lt hT (a := a) (by omega)
        rw [if_pos h1] at h
        have two : ∀ x, c (a + 1) = x → 0 < x → a + 2 ≤ l := fun x e h0 => by
          have := Tc_lt hT (a := a + 1) (by omega); omega
        split at h
        · rename_i q
          have := two _ q (by decide)
          split at h <;> cases h
          exact this
        · split at h
          · rename_i q
            have := two _ q (by decide)
            split at h <;> cases h
            exact this
          · split at h
            · rename_i q
              have := two _ q (by decide)
              split at h <;> cases h
              exact this
            · split at h
              · rename_i q
                have := two _ q (by decide)
                rcases hq : nu c (a + 2) with _ | q
                · rw [hq] at h; cases h; exact this
                · rw [hq] at h; cases h
              · cases h; omega
      · rw [if_neg h1] at h; cases h; exact ha
