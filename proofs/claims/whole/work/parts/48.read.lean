/-- the reference lays a step -/
def LJ (J : It) (ver i : Nat) : It := if ver < 6 then uI (uI (uI (uI (uI J 130 (28 * ver + i) (J 119 24)) 131 (28 * ver + i) (J 119 25)) 132 (28 * ver + i) (J 119 26)) 133 (28 * ver + i) (J 119 27)) 129 ver (nI (i + 1)) else J
theorem LJ_f {J : It} {ver i : Nat} (h : ¬ ver < 6) : LJ J ver i = J := by unfold LJ; rw [if_neg h]
theorem LJ_o {J : It} {ver i o : Nat} (h : o < 129 ∨ 133 < o) : LJ J ver i o = J o := by
  unfold LJ
  split
  · rw [uI_o _ _ _ _ _ (by omega), uI_o _ _ _ _ _ (by omega), uI_o _ _ _ _ _ (by omega), uI_o _ _ _ _ _ (by omega), uI_o _ _ _ _ _ (by omega)]
  · rfl
theorem S176 {L ver i a : Nat} {J : It} {w : Int32} (hv : ver ≤ 6) (hi : i < 28) (h : ver < 6 → J 129 ver = nI i) : E 176 0 [some (.ref 119), some (.int (nI ver)), none] [] (GG L) (AJ J a w) = some (none, GG L, AJ (LJ J ver i) a w) := by
  by_cases h6 : ver < 6
  · have w1 : ∀ (X : It) (o j k : Nat) (x : Int32), o ≠ 119 → uI X o j x 119 k = X 119 k := fun X o j k x h => uI_a _ _ _ _ _ _ (Ne.symm h)
    have w2 : ∀ (X : It) (o j k : Nat) (x : Int32), o ≠ 129 → uI X o j x 129 k = X 129 k := fun X o j k x h => uI_a _ _ _ _ _ _ (Ne.symm h)
    have b := B176_0 (L := L) (x1 := nI ver) (I := AJ J a w)
    rw [if_neg (show ¬ (6 : Int32) ≤ nI ver from nI_ge (a := ver) (b := 6) h6 (by decide)), ck_of (inb_nI h6 (by decide)), ix_nI (by omega), AJ_o _ _ _ 129 (by decide), h h6, i_28, ck_of (inb_nI (by omega) (by decide)), ck_of (inb_nI (by omega) (by decide)), ck_of (inb_nI (by omega) (by decide)), ck_of (inb_nI (by omega) (by decide)), ck_of (inb_nI h6 (by decide)), ck_of (inb_nI h6 (by decide)), ix_nI (by omega)] at b
    simp only [w1 _ 130 _ _ _ (show (130 : Nat) ≠ 119 by decide), w1 _ 131 _ _ _ (show (131 : Nat) ≠ 119 by decide), w1 _ 132 _ _ _ (show (132 : Nat) ≠ 119 by decide), w2 _ 130 _ _ _ (show (130 : Nat) ≠ 129 by decide), w2 _ 131 _ _ _ (show (131 : Nat) ≠ 129 by decide), w2 _ 132 _ _ _ (show (132 : Nat) ≠ 129 by decide), w2 _ 133 _ _ _ (show (133 : Nat) ≠ 129 by decide)] at b
    rw [AJ_k _ _ _ 24 (by decide) (by decide), AJ_k _ _ _ 25 (by decide) (by decide), AJ_k _ _ _ 26 (by decide) (by decide), AJ_k _ _ _ 27 (by decide) (by decide), AJ_o _ _ _ 129 (by decide), h h6, nI_1] at b
    rw [b]
    unfold LJ AJ
    rw [if_pos h6, uI_cm _ 119 130 _ _ _ _ (Or.inl (by decide)), uI_cm _ 119 131 _ _ _ _ (Or.inl (by decide)), uI_cm _ 119 132 _ _ _ _ (Or.inl (by decide)), uI_cm _ 119 133 _ _ _ _ (Or.inl (by decide)), uI_cm _ 119 129 _ _ _ _ (Or.inl (by decide)), uI_cm J 119 130 _ _ _ _ (Or.inl (by decide)), uI_cm _ 119 131 _ _ _ _ (Or.inl (by decide)), uI_cm _ 119 132 _ _ _ _ (Or.inl (by decide)), uI_cm _ 119 133 _ _ _ _ (Or.inl (by decide)), uI_cm _ 119 129 _ _ _ _ (Or.inl (by decide))]
  · have : ver = 6 := by omega
    subst this
    rw [B176_0, if_pos (show (6 : Int32) ≤ nI 6 by decide), LJ_f h6]
/-- a step that both have laid -/
def Row (I J : It) (ver i : Nat) : Prop := I 5 i = J 130 (28 * ver + i) ∧ I 6 i = J 131 (28 * ver + i) ∧ I 7 i = J 132 (28 * ver + i) ∧ I 8 i = J 133 (28 * ver + i) ∧ ∃ k n A B, Sk k n A B ∧ I 5 i = nI k ∧ I 6 i = nI n ∧ I 7 i = nI A ∧ I 8 i = nI B
theorem Row_1 {I J J1 : It} {ver i k n A B : Nat} (h6 : ver < 6) (hS : Sk k n A B) (h24 : J1 119 24 = nI k) (h25 : J1 119 25 = nI n) (h26 : J1 119 26 = nI A) (h27 : J1 119 27 = nI B) (hJ : ∀ o, o ≠ 119 → J1 o = J o) (h : ∀ j, j < i → Row I J ver j) : ∀ j, j < i + 1 → Row (App I i k n A B) (LJ J1 ver i) ver j := by
  intro j hj
  have e5 : App I i k n A B 5 j = if j = i then nI k else I 5 j := by unfold App; simp [uI]
  have e6 : App I i k n A B 6 j = if j = i then nI n else I 6 j := by unfold App; simp [uI]
  have e7 : App I i k n A B 7 j = if j = i then nI A else I 7 j := by unfold App; simp [uI]
  have e8 : App I i k n A B 8 j = if j = i then nI B else I 8 j := by unfold App; simp [uI]
  have f0 : LJ J1 ver i 130 (28 * ver + j) = if j = i then nI k else J 130 (28 * ver + j) := by unfold LJ; rw [if_pos h6, ← hJ 130 (by decide), h24]; simp [uI]
  have f1 : LJ J1 ver i 131 (28 * ver + j) = if j = i then nI n else J 131 (28 * ver + j) := by unfold LJ; rw [if_pos h6, ← hJ 131 (by decide), h25]; simp [uI]
  have f2 : LJ J1 ver i 132 (28 * ver + j) = if j = i then nI A else J 132 (28 * ver + j) := by unfold LJ; rw [if_pos h6, ← hJ 132 (by decide), h26]; simp [uI]
  have f3 : LJ J1 ver i 133 (28 * ver + j) = if j = i then nI B else J 133 (28 * ver + j) := by unfold LJ; rw [if_pos h6, ← hJ 133 (by decide), h27]; simp [uI]
  unfold Row
  rw [e5, e6, e7, e8, f0, f1, f2, f3]
  by_cases q : j = i
  · rw [if_pos q, if_pos q, if_pos q, if_pos q, if_pos q, if_pos q, if_pos q, if_pos q]
    exact ⟨rfl, rfl, rfl, rfl, k, n, A, B, hS, rfl, rfl, rfl, rfl⟩
  · rw [if_neg q, if_neg q, if_neg q, if_neg q, if_neg q, if_neg q, if_neg q, if_neg q]
    exact h j (by omega)
/-- what the reading of steps may change -/
def FrI (I I' : It) : Prop := (∀ o, o ≠ 2 → (o < 4 ∨ 8 < o) → I' o = I o) ∧ I' 2 2 = I 2 2
def FrJ (ver : Nat) (J J' : It) : Prop := (∀ o, o ≠ 119 → (ver = 6 ∨ o < 129 ∨ 133 < o) → J' o = J o) ∧ (∀ j, j < 22 → J' 119 j = J 119 j) ∧ (∀ j, j ≠ ver → J' 129 j = J 129 j) ∧ ∀ s, s < 28 * ver ∨ 28 * ver + 28 ≤ s → J' 130 s = J 130 s ∧ J' 131 s = J 131 s ∧ J' 132 s = J 132 s ∧ J' 133 s = J 133 s
theorem FrI_tr {I1 I2 I3 : It} (h : FrI I1 I2) (h' : FrI I2 I3) : FrI I1 I3 := ⟨fun o q1 q2 => (h'.1 o q1 q2).trans (h.1 o q1 q2), h'.2.trans h.2⟩
theorem FrJ_tr {ver : Nat} {J1 J2 J3 : It} (h : FrJ ver J1 J2) (h' : FrJ ver J2 J3) : FrJ ver J1 J3 := ⟨fun o q1 q2 => (h'.1 o q1 q2).trans (h.1 o q1 q2), fun j q => (h'.2.1 j q).trans (h.2.1 j q), fun j q => (h'.2.2.1 j q).trans (h.2.2.1 j q), fun s q => ⟨(h'.2.2.2 s q).1.trans (h.2.2.2 s q).1, (h'.2.2.2 s q).2.1.trans (h.2.2.2 s q).2.1, (h'.2.2.2 s q).2.2.1.trans (h.2.2.2 s q).2.2.1, (h'.2.2.2 s q).2.2.2.trans (h.2.2.2 s q).2.2.2⟩⟩
theorem FrI_A (I : It) (a : Nat) : FrI I (AI I a) := ⟨fun o q _ => AI_o _ _ _ q, AI_2 _ _⟩
theorem FrJ_A (ver : Nat) (J : It) (a : Nat) (w : Int32) : FrJ ver J (AJ J a w) := ⟨fun o q _ => AJ_o _ _ _ _ q, fun j q => AJ_k _ _ _ _ (by omega) (by omega), fun j _ => by rw [AJ_o _ _ _ _ (by decide)], fun s _ => by rw [AJ_o _ _ _ 130 (by decide), AJ_o _ _ _ 131 (by decide), AJ_o _ _ _ 132 (by decide), AJ_o _ _ _ 133 (by decide)]; exact ⟨rfl, rfl, rfl, rfl⟩⟩
theorem FrJ_F {ver : Nat} {J J' : It} (h : Fj J J') : FrJ ver J J' := ⟨fun o q _ => h.1 o q, h.2, fun j _ => by rw [h.1 129 (by decide)], fun s _ => by rw [h.1 130 (by decide), h.1 131 (by decide), h.1 132 (by decide), h.1 133 (by decide)]; exact ⟨rfl, rfl, rfl, rfl⟩⟩
theorem FrI_P (I : It) (i k n A B : Nat) : FrI I (App I i k n A B) := by
  unfold App
  refine ⟨fun o q1 q2 => ?_, ?_⟩
  · rw [uI_o _ _ _ _ _ (by omega), uI_o _ _ _ _ _ (by omega), uI_o _ _ _ _ _ (by omega), uI_o _ _ _ _ _ (by omega), uI_o _ _ _ _ _ (by omega)]
  · simp [uI]
theorem FrJ_L {ver i : Nat} (J : It) (hi : i < 28) : FrJ ver J (LJ J ver i) := by
  by_cases h : ver < 6
  · refine ⟨fun o q1 q2 => LJ_o (by omega), fun j q => by rw [LJ_o (by decide)], fun j q => ?_, fun s q => ⟨?_, ?_, ?_, ?_⟩⟩
    · unfold LJ; rw [if_pos h, uI_k _ _ _ _ _ q]; simp [uI]
    · unfold LJ; rw [if_pos h]; simp [uI]; omega
    · unfold LJ; rw [if_pos h]; simp [uI]; omega
    · unfold LJ; rw [if_pos h]; simp [uI]; omega
    · unfold LJ; rw [if_pos h]; simp [uI]; omega
  · rw [LJ_f h]
    exact ⟨fun o _ _ => rfl, fun j _ => rfl, fun j _ => rfl, fun s _ => ⟨rfl, rfl, rfl, rfl⟩⟩
theorem TI_F {l : Nat} {c : Nat → Nat} {I I' : It} (h : FrI I I') (hI : TI l c I) : TI l c I' := ⟨h.2.trans hI.1, fun k hk => by rw [h.1 3 (by decide) (by decide)]; exact hI.2 k hk⟩
theorem TJ_F {ver l : Nat} {c : Nat → Nat} {J J' : It} (h : FrJ ver J J') (hJ : TJ l c J) : TJ l c J' := ⟨(h.2.1 5 (by decide)).trans hJ.1, fun k hk => by rw [h.1 124 (by decide) (by omega)]; exact hJ.2 k hk⟩
set_option maxHeartbeats 1000000 in
/-- the steps of the pad read, on both sides -/
theorem P_read {L l ver : Nat} {c : Nat → Nat} (hT : Tc l c) (hv : ver ≤ 6) : ∀ (d i a pc : Nat) {I J : It}, d + i = 27 → 3 * i ≤ a → a ≤ l → (pc = 14 ∨ pc = 49) → TI l c I → TJ l c J → I 4 4 = nI i → (ver < 6 → J 129 ver = nI i) → (ver < 6 → ∀ j, j < i → Row I J ver j) →
    ∃ I' J' r, E 55 14 [some (.ref 2), some (.int (nI i))] [] (GG L) (AI I a) = some (some (.int r), GG L, I') ∧ K2 177 pc [some (.ref 119), some (.int (nI ver))] [] (E 175 0 [some (.ref 119), none] [] (GG L) (AJ J a 0)) = some (some (.int r), GG L, J') ∧ FrI I I' ∧ FrJ ver J J' ∧ (r = -6 → ver < 6 → ∃ m, m ≤ 27 ∧ I' 4 4 = nI m ∧ J' 129 ver = nI m ∧ ∀ j, j < m → Row I' J' ver j) := by
  intro d
  induction d with
  | zero =>
    intro i a pc I J hd h3 ha
    have := hT.1
    omega
  | succ d ih =>
    intro i a pc I J hd h3 ha hpc hI hJ h4 h129 hrow
    have hl := hT.1
    have e0 := B55_14 (L := L) (x1 := nI i) (I := AI I a)
    rw [if_neg (show ¬ (27 : Int32) ≤ nI i from nI_ge (a := i) (b := 27) (by omega) (by decide)), P56 hT hI ha h4 (show i < 27 by omega)] at e0
    have h175 := P175 (L := L) hT hJ ha
    -- what comes behind the step, in the reference
    have lay : ∀ (J1 : It) (b : Nat) (w : Int32), (ver < 6 → J1 129 ver = nI i) → K2 177 pc [some (.ref 119), some (.int (nI ver))] [] (some (none, GG L, AJ J1 b w)) = E 177 19 [some (.ref 119), some (.int (nI ver))] [] (GG L) (AJ (LJ J1 ver i) b w) := by
      intro J1 b w h
      rw [K2_v]
      rcases hpc with rfl | rfl
      · rw [B177_14, S176 hv (by omega) h, K2_v]
      · rw [B177_49, S176 hv (by omega) h, K2_v, B177_54]
    rcases hs : stp c a with ⟨_ | ⟨k, n, A, B⟩, b⟩
    · -- a wrong step
      rw [hs] at h175 e0
      obtain ⟨J1, e1, f1⟩ := h175
      have hb := stp_no hT ha hs
      have e0' : E 55 14 [some (.ref 2), some (.int (nI i))] [] (GG L) (AI I a) = some (some (.int (nI b)), GG L, AI I b) := by
        rw [e0]
        show K2 55 24 _ _ (some (some (.int 0), GG L, AI I b)) = _
        rw [K2_i, B55_24, if_pos rfl, AI_3]
      refine ⟨_, _, nI b, e0', ?_, FrI_A _ _, FrJ_tr (FrJ_F f1) (FrJ_tr (FrJ_L J1 (show i < 28 by omega)) (FrJ_A _ _ b 1)), fun h => absurd h (nI_n6 (by omega))⟩
      rw [e1, lay J1 b 1 (fun h => by rw [f1.1 129 (by decide)]; exact h129 h), B177_19, AJ_23, if_neg (by decide), B177_57, AJ_23, if_neg (by decide), AJ_22]
    · -- a right one
      rw [hs] at h175 e0
      obtain ⟨J1, e1, f1, k24, k25, k26, k27⟩ := h175
      obtain ⟨hSk, hb2, hbl⟩ := stp_ok hT hs
      obtain ⟨I1, hI1⟩ : ∃ I1, App I i k n A B = I1 := ⟨_, rfl⟩
      obtain ⟨J2, hJ2⟩ : ∃ J2, LJ J1 ver i = J2 := ⟨_, rfl⟩
      have fI : FrI I I1 := hI1 ▸ FrI_P I i k n A B
      have fJ : FrJ ver J J2 := hJ2 ▸ FrJ_tr (FrJ_F f1) (FrJ_L J1 (show i < 28 by omega))
      have tI := TI_F fI hI
      have tJ := TJ_F fJ hJ
      have hcb := Tc_le hT b
      have h4' : I1 4 4 = nI (i + 1) := by rw [← hI1]; unfold App; rw [uI_s]
      have h129' : ver < 6 → J2 129 ver = nI (i + 1) := fun h => by rw [← hJ2]; unfold LJ; rw [if_pos h, uI_s]
      have hrow' : ver < 6 → ∀ j, j < i + 1 → Row I1 J2 ver j := fun h => hI1 ▸ hJ2 ▸ Row_1 h hSk k24 k25 k26 k27 f1.1 (hrow h)
      have e0' : E 55 14 [some (.ref 2), some (.int (nI i))] [] (GG L) (AI I a) = E 55 24 [some (.ref 2), some (.int (nI i))] [.int 1] (GG L) (AI I1 b) := by
        rw [e0, ← hI1]
        exact K2_i
      have e1' : K2 177 pc [some (.ref 119), some (.int (nI ver))] [] (E 175 0 [some (.ref 119), none] [] (GG L) (AJ J a 0)) = E 177 30 [some (.ref 119), some (.int (nI ver))] [.int (nI (c b))] (GG L) (AJ J2 b 0) := by
        rw [e1, lay J1 b 0 (fun h => by rw [f1.1 129 (by decide)]; exact h129 h), hJ2, B177_19, AJ_23, if_pos rfl, S171 hT tJ hbl, K2_i]
      rw [B55_24, if_neg (by decide), AI_3, AI_2, tI.1] at e0'
      rw [B177_30] at e1'
      by_cases hbe : b < l
      · rw [if_pos (nI_lt hbe (by omega)), S64 (x := 44) (s := 44) rfl hT tI hbl (by decide) (by decide)] at e0'
        by_cases h44 : c b = 44
        · rw [if_pos h44, K2_i, B55_52, if_neg (by decide), nI_1] at e0'
          rw [if_pos ((nI_is (k := 44) (y := 44) rfl (by omega) (by decide)).mpr h44), AJ_22, nI_1, AJ_u22] at e1'
          obtain ⟨I', J', r, g0, g1, g2, g3, g4⟩ := ih (i + 1) (b + 1) 49 (I := I1) (J := J2) (by omega) (by omega) (by omega) (Or.inr rfl) tI tJ h4' h129' hrow'
          exact ⟨I', J', r, e0'.trans g0, e1'.trans g1, FrI_tr fI g2, FrJ_tr fJ g3, g4⟩
        · rw [if_neg h44, K2_i, B55_52, if_pos rfl, AI_3] at e0'
          rw [if_neg (fun z => h44 ((nI_is (k := 44) (y := 44) rfl (by omega) (by decide)).mp z)), B177_57, AJ_23, if_pos rfl, AJ_k _ _ _ _ (by decide) (by decide), AJ_22, tJ.1, if_neg (nI_ge hbe (by omega))] at e1'
          exact ⟨_, _, nI b, e0', e1', FrI_tr fI (FrI_A _ _), FrJ_tr fJ (FrJ_A _ _ _ _), fun h => absurd h (nI_n6 (by omega))⟩
      · have hcz := hT.2.2 b (by omega)
        rw [if_neg (nI_nlt (by omega) (by omega))] at e0'
        rw [hcz, if_neg (by decide), B177_57, AJ_23, if_pos rfl, AJ_k _ _ _ _ (by decide) (by decide), AJ_22, tJ.1, if_pos (nI_le (by omega) (by omega))] at e1'
        refine ⟨_, _, -6, e0', e1', FrI_tr fI (FrI_A _ _), FrJ_tr fJ (FrJ_A _ _ _ _), fun _ h6 => ⟨i + 1, by omega, ?_, ?_, fun j hj => ?_⟩⟩
        · rw [AI_o _ _ _ (by decide)]; exact h4'
        · rw [AJ_o _ _ _ _ (by decide)]; exact h129' h6
        · have := hrow' h6 j hj
          unfold Row at this ⊢
          rw [AI_o _ _ 5 (by decide), AI_o _ _ 6 (by decide), AI_o _ _ 7 (by decide), AI_o _ _ 8 (by decide), AJ_o _ _ _ 130 (by decide), AJ_o _ _ _ 131 (by decide), AJ_o _ _ _ 132 (by decide), AJ_o _ _ _ 133 (by decide)]
          exact this
/-- the pad read, on both sides -/
theorem W_read {L ver : Nat} {I J : It} (hP : Rp I J) (hv : ver ≤ 6) (h129 : ver < 6 → J 129 ver = 0) :
    ∃ I' J' r, E 55 0 [some (.ref 2), none] [] (GG L) I = some (some (.int r), GG L, I') ∧ E 177 0 [some (.ref 119), some (.int (nI ver))] [] (GG L) J = some (some (.int r), GG L, J') ∧ FrI I I' ∧ FrJ ver J J' ∧ (r = -6 → ver < 6 → ∃ m, m ≤ 27 ∧ I' 4 4 = nI m ∧ J' 129 ver = nI m ∧ ∀ j, j < m → Row I' J' ver j) := by
  obtain ⟨l, hl, p2, p5, hc⟩ := hP
  obtain ⟨c, hcc⟩ : ∃ c : Nat → Nat, c = fun k => if k < l then ix (I 3 k) else 0 := ⟨_, rfl⟩
  have hck : ∀ k, k < l → I 3 k = nI (c k) ∧ J 124 k = nI (c k) ∧ 33 ≤ c k ∧ c k ≤ 126 := fun k hk => by
    obtain ⟨e, x, hx1, hx2, hx3⟩ := hc k hk
    have : c k = x := by rw [hcc]; show (if k < l then ix (I 3 k) else 0) = x; rw [if_pos hk, e, hx3, ix_nI (by omega)]
    rw [this]
    exact ⟨e.trans hx3, hx3, hx1, hx2⟩
  have hT : Tc l c := ⟨hl, fun k hk => (hck k hk).2.2, fun k hk => by rw [hcc]; exact if_neg (by omega)⟩
  obtain ⟨I0, hI0⟩ : ∃ I0, uI I 4 4 0 = I0 := ⟨_, rfl⟩
  have fI0 : FrI I I0 := by
    rw [← hI0]
    exact ⟨fun o q1 q2 => uI_o _ _ _ _ _ (by omega), uI_a _ _ _ _ _ _ (by decide)⟩
  have hI : TI l c I0 := TI_F fI0 ⟨p2, fun k hk => (hck k hk).1⟩
  have hJ : TJ l c J := ⟨p5, fun k hk => (hck k hk).2.1⟩
  obtain ⟨I', J', r, g0, g1, g2, g3, g4⟩ := P_read (L := L) hT hv 27 0 0 14 (I := I0) (J := J) rfl (by decide) (by omega) (Or.inl rfl) hI hJ (by rw [← hI0, uI_s]; rfl) (fun h => (h129 h).trans rfl) (fun _ j hj => absurd hj (by omega))
  refine ⟨I', J', r, ?_, ?_, FrI_tr fI0 g2, g3, g4⟩
  · rw [B55_0, B86_0 k_4, K2_v, B55_12, uI_cm _ 2 4 _ _ _ _ (Or.inl (by decide)), hI0]
    exact g0
  · rw [B177_0]
    exact g1
theorem M_fault : Sm 112 [some (.ref 1)] 178 [some (.ref 119)] := fun L n I J hr => by
  obtain ⟨hR, hD, hK, hP⟩ := id hr
  obtain ⟨I', J', r, e0, e1, f, g, -⟩ := W_read (L := L) (ver := 6) hP (Nat.le_refl _) (fun h => absurd h (by decide))
  have e1' : E 177 0 [some (.ref 119), some (.int 6)] [] (GG L) J = some (some (.int r), GG L, J') := e1
  rw [B112_0, e0, K2_i, B112_7, B178_0, e1', K2_i, B178_6]
  exact ⟨I', J', n, r, rfl, rfl, RR_k hr (fun a q => f.1 a (by omega) (by omega)) f.2 (f.1 3 (by decide) (by decide)) (g.2.1 5 (by decide)) (g.2.1 6 (by decide)) (fun j _ => by rw [g.1 120 (by decide) (Or.inl rfl)]) (fun a q _ _ => g.1 a (by omega) (Or.inl rfl)), fun a q => f.1 a (by omega) (by omega), fun a q => g.1 a (by omega) (Or.inl rfl)⟩
