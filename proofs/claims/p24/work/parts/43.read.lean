/-! ===== p24: the pad's steps read, a layout made by them ===== -/
theorem TI_A {l : Nat} {c : Nat → Nat} {I : It} (m k n A B : Nat) (h : TI l c I) : TI l c (App I m k n A B) := by
  refine ⟨?_, fun j hj => ?_⟩
  · unfold App; simp only [uI_a _ 4 _ _ 2 _ (by decide), uI_a _ 8 _ _ 2 _ (by decide), uI_a _ 7 _ _ 2 _ (by decide), uI_a _ 6 _ _ 2 _ (by decide), uI_a _ 5 _ _ 2 _ (by decide)]; exact h.1
  · unfold App; simp only [uI_a _ 4 _ _ 3 _ (by decide), uI_a _ 8 _ _ 3 _ (by decide), uI_a _ 7 _ _ 3 _ (by decide), uI_a _ 6 _ _ 3 _ (by decide), uI_a _ 5 _ _ 3 _ (by decide)]; exact h.2 j hj
theorem App_4 (I : It) (m k n A B : Nat) : App I m k n A B 4 4 = nI (m + 1) := uI_s _ _ _ _
/-- a row of the steps -/
def Rw (I : It) (i k n A B : Nat) : Prop := I 5 i = nI k ∧ I 6 i = nI n ∧ I 7 i = nI A ∧ I 8 i = nI B
theorem Rw_new (I : It) (m k n A B : Nat) : Rw (App I m k n A B) m k n A B := by
  unfold Rw App; simp [uI]
theorem Rw_old {I : It} {i k n A B : Nat} (m k' n' A' B' : Nat) (hi : i ≠ m) (h : Rw I i k n A B) : Rw (App I m k' n' A' B') i k n A B := by
  obtain ⟨h1, h2, h3, h4⟩ := h
  unfold Rw App
  refine ⟨?_, ?_, ?_, ?_⟩
  · simp [uI, hi, h1]
  · simp [uI, hi, h2]
  · simp [uI, hi, h3]
  · simp [uI, hi, h4]
theorem Rw_A {I : It} {i k n A B : Nat} (a : Nat) (h : Rw I i k n A B) : Rw (AI I a) i k n A B := by
  unfold Rw
  rw [AI_o _ _ 5 (by decide), AI_o _ _ 6 (by decide), AI_o _ _ 7 (by decide), AI_o _ _ 8 (by decide)]
  exact h
/-- what reading may change -/
def FR (I I' : It) : Prop := (∀ o, o ≠ 2 → (o < 4 ∨ 8 < o) → I' o = I o)
theorem FR_A (I : It) (m k n A B : Nat) : FR I (App I m k n A B) := fun o q1 q2 => by
  unfold App
  rw [uI_o _ _ _ _ _ (by omega), uI_o _ _ _ _ _ (by omega), uI_o _ _ _ _ _ (by omega), uI_o _ _ _ _ _ (by omega), uI_o _ _ _ _ _ (by omega)]
theorem FR_tr {I1 I2 I3 : It} (h : FR I1 I2) (h' : FR I2 I3) : FR I1 I3 := fun o q1 q2 => (h' o q1 q2).trans (h o q1 q2)
theorem FR_I (I : It) (a : Nat) : FR I (AI I a) := fun o q1 _ => AI_o _ _ _ q1
section RD
variable {L : Nat × Nat} {l : Nat} {c : Nat → Nat} {I : It}
theorem R_0 : E 55 0 [some (.ref 2), none] [] (GG L) I = E 55 14 [some (.ref 2), some (.int (nI 0))] [] (GG L) (AI (uI I 4 4 0) 0) := by
  rw [B55_0, B86_0 k_4, K2_v, B55_12]
  unfold AI
  rw [uI_cm I 4 2 _ _ _ _ (Or.inl (by decide))]
  rfl
theorem R_next {i a b k n A B : Nat} (hT : Tc l c) (hI : TI l c I) (ha : a ≤ l) (h4 : I 4 4 = nI i) (hi : i < 27) (hs : stp c a = (some (k, n, A, B), b)) (hb : c b = 44) : E 55 14 [some (.ref 2), some (.int (nI i))] [] (GG L) (AI I a) = E 55 14 [some (.ref 2), some (.int (nI (i + 1)))] [] (GG L) (AI (App I i k n A B) (b + 1)) := by
  have hl := hT.1
  have hbl := Tc_lt hT (a := b) (by omega)
  have e0 := B55_14 (L := L) (x1 := nI i) (I := AI I a)
  rw [if_neg (show ¬ (27 : Int32) ≤ nI i from nI_ge (a := i) (b := 27) (by omega) (by decide)), P56 hT hI ha h4 hi, hs] at e0
  refine e0.trans ?_
  show K2 55 24 _ _ (some (some (.int 1), GG L, AI (App I i k n A B) b)) = _
  rw [K2_i, B55_24, if_neg (by decide), AI_3, AI_2, (TI_A i k n A B hI).1, if_pos (nI_lt hbl (by omega)), S64 (x := 44) (s := 44) rfl hT (TI_A i k n A B hI) (by omega) (by decide) (by decide), if_pos hb, K2_i, B55_52, if_neg (by decide), nI_1]
theorem R_last {i a k n A B : Nat} (hT : Tc l c) (hI : TI l c I) (ha : a ≤ l) (h4 : I 4 4 = nI i) (hi : i < 27) (hs : stp c a = (some (k, n, A, B), l)) : E 55 14 [some (.ref 2), some (.int (nI i))] [] (GG L) (AI I a) = some (some (.int (-6)), GG L, AI (App I i k n A B) l) := by
  have hl := hT.1
  have e0 := B55_14 (L := L) (x1 := nI i) (I := AI I a)
  rw [if_neg (show ¬ (27 : Int32) ≤ nI i from nI_ge (a := i) (b := 27) (by omega) (by decide)), P56 hT hI ha h4 hi, hs] at e0
  refine e0.trans ?_
  show K2 55 24 _ _ (some (some (.int 1), GG L, AI (App I i k n A B) l)) = _
  rw [K2_i, B55_24, if_neg (by decide), AI_3, AI_2, (TI_A i k n A B hI).1, if_neg (nI_nlt (Nat.le_refl _) (by omega))]
end RD
/-! the law's steps, as they are read -/
section SS
variable {c : Nat → Nat} {a : Nat} {rest : List Nat}
/-- what comes behind a number is no digit -/
def nd (rest : List Nat) : Prop := ¬ (48 ≤ cT rest 0 ∧ cT rest 0 ≤ 57)
theorem cT_c (x : Nat) (t : List Nat) (i : Nat) : cT (x :: t) (i + 1) = cT t i := rfl
theorem nu_at {s : List Nat} {j v : Nat} (hv : v < 256) (hc : ∀ i, c (a + i) = cT s i) (hs : ∀ i, cT s (j + i) = cT (dg v ++ rest) i) (hn : nd rest) : nu c (a + j) = some (v, a + j + (dg v).length) := by
  refine nu_dg hv (fun i hi => ?_) ?_
  · rw [Nat.add_assoc, hc, hs, cT_l hi]
  · rw [Nat.add_assoc, hc, hs]
    have := cT_r (dg v) rest 0
    rw [Nat.add_zero] at this
    rw [this]
    exact hn
theorem stp_add {k g d : Nat} (hk : k < 10) (hg : g < 256) (hd : d < 256) (hc : ∀ i, c (a + i) = cT (43 :: (97 + k) :: (dg g ++ 61 :: (dg d ++ rest))) i) (hn : nd rest) : stp c a = (some (0, k, g, d), a + (3 + (dg g).length + (dg d).length)) ∧ ∀ i, c (a + (3 + (dg g).length + (dg d).length) + i) = cT rest i := by
  have h0 : c a = 43 := hc 0
  have h1 : c (a + 1) = 97 + k := hc 1
  have hn1 : nd (61 :: (dg d ++ rest)) := by unfold nd; exact fun z => absurd z.2 (show ¬ 61 ≤ 57 by decide)
  have s2 : ∀ i, cT (43 :: (97 + k) :: (dg g ++ 61 :: (dg d ++ rest))) (2 + i) = cT (dg g ++ 61 :: (dg d ++ rest)) i := fun i => by rw [Nat.add_comm 2 i]; rfl
  have n1 := nu_at (j := 2) hg hc s2 hn1
  have s3 : ∀ i, cT (43 :: (97 + k) :: (dg g ++ 61 :: (dg d ++ rest))) ((3 + (dg g).length) + i) = cT (dg d ++ rest) i := fun i => by
    rw [show 3 + (dg g).length + i = 2 + ((dg g).length + (i + 1)) by omega, s2, cT_r]; rfl
  have n2 := nu_at (j := 3 + (dg g).length) hd hc s3 hn
  have h61 : c (a + 2 + (dg g).length) = 61 := by
    rw [Nat.add_assoc, hc, s2]
    have := cT_r (dg g) (61 :: (dg d ++ rest)) 0
    rw [Nat.add_zero] at this
    rw [this]; rfl
  refine ⟨?_, fun i => ?_⟩
  · unfold stp
    rw [if_pos h0, h1, if_pos (by omega), n1]
    simp only []
    rw [h61, if_pos rfl, show a + 2 + (dg g).length + 1 = a + (3 + (dg g).length) by omega, n2]
    simp only []
    rw [show 97 + k - 97 = k by omega, show a + (3 + (dg g).length) + (dg d).length = a + (3 + (dg g).length + (dg d).length) by omega]
  · rw [show a + (3 + (dg g).length + (dg d).length) + i = a + ((3 + (dg g).length) + ((dg d).length + i)) by omega, hc, s3, cT_r]
theorem stp_sc {n b : Nat} {times : Bool} (hn : n < 10) (hb : 2 ≤ b) (hb9 : b ≤ 9) (hc : ∀ i, c (a + i) = cT ((97 + n) :: (if times then 42 else 47) :: (48 + b) :: rest) i) : stp c a = (some (if times then 3 else 4, n, b, 0), a + 3) ∧ ∀ i, c (a + 3 + i) = cT rest i := by
  have h0 : c a = 97 + n := hc 0
  have h1 : c (a + 1) = if times then 42 else 47 := hc 1
  have h2 : c (a + 2) = 48 + b := hc 2
  refine ⟨?_, fun i => ?_⟩
  · unfold stp
    cases times with
    | true =>
      have h1' : c (a + 1) = 42 := h1
      rw [h0, if_neg (by omega), if_neg (by omega), if_pos (by omega), h1', if_neg (by decide), if_pos rfl, h2, if_pos (by omega), show 97 + n - 97 = n by omega, show 48 + b - 48 = b by omega]
      rfl
    | false =>
      have h1' : c (a + 1) = 47 := h1
      rw [h0, if_neg (by omega), if_neg (by omega), if_pos (by omega), h1', if_neg (by decide), if_neg (by decide), if_pos rfl, h2, if_pos (by omega), show 97 + n - 97 = n by omega, show 48 + b - 48 = b by omega]
      rfl
  · rw [show a + 3 + i = a + (i + 3) by omega, hc]; rfl
theorem stp_lim {o m : Nat} (ho : o < 10) (hm : m < 256) (hc : ∀ i, c (a + i) = cT ((97 + o) :: 60 :: (dg m ++ rest)) i) (hn : nd rest) : stp c a = (some (5, o, m, 0), a + (2 + (dg m).length)) := by
  have h0 : c a = 97 + o := hc 0
  have h1 : c (a + 1) = 60 := hc 1
  have s2 : ∀ i, cT ((97 + o) :: 60 :: (dg m ++ rest)) (2 + i) = cT (dg m ++ rest) i := fun i => by rw [Nat.add_comm 2 i]; rfl
  have n1 := nu_at (j := 2) hm hc s2 hn
  unfold stp
  rw [h0, if_neg (by omega), if_neg (by omega), if_pos (by omega), h1, if_neg (by decide), if_neg (by decide), if_neg (by decide), if_pos rfl, n1]
  simp only []
  rw [show 97 + o - 97 = o by omega, Nat.add_assoc]
theorem stp_drop (h0 : c a = 45) (h1 : c (a + 1) = 97) : stp c a = (some (1, 0, 0, 0), a + 2) := by
  unfold stp
  rw [h0, if_neg (by decide), if_pos rfl, h1, if_pos (by decide)]
end SS
/-! a layout being made -/
/-- there, greatest values, defaults, names before -/
def LaS (o : Nat) (T G D B : Nat → Int32) (I : It) : Prop := ∀ j, j < 10 → I (o + 1) j = T j ∧ I (o + 2) j = G j ∧ I (o + 3) j = D j ∧ I (o + 4) j = B j
/-- what a layout's own steps may change -/
def FO (o : Nat) (I I' : It) : Prop := ∀ a, a < o + 1 ∨ o + 4 < a → I' a = I a
theorem FO_tr {o : Nat} {I1 I2 I3 : It} (h : FO o I1 I2) (h' : FO o I2 I3) : FO o I1 I3 := fun a q => (h' a q).trans (h a q)
section LA
variable {L : Nat × Nat} {o k : Nat} {T G D B : Nat → Int32} {I : It}
theorem LaS_up {t x y z : Int32} (h : LaS o T G D B I) : LaS o (up T k t) (up G k x) (up D k y) (up B k z) (uI (uI (uI (uI I (o + 1) k t) (o + 2) k x) (o + 3) k y) (o + 4) k z) := fun j hj => by
  obtain ⟨h1, h2, h3, h4⟩ := h j hj
  rw [uI_a _ _ _ _ (o + 1) _ (by omega), uI_a _ _ _ _ (o + 1) _ (by omega), uI_a _ _ _ _ (o + 1) _ (by omega), uI_a _ _ _ _ (o + 2) _ (by omega), uI_a _ _ _ _ (o + 2) _ (by omega), uI_a _ _ _ _ (o + 3) _ (by omega)]
  by_cases q : j = k
  · subst q
    rw [uI_s, uI_s, uI_s, uI_s, up_s, up_s, up_s, up_s]; exact ⟨rfl, rfl, rfl, rfl⟩
  · rw [uI_k _ _ _ _ _ q, uI_k _ _ _ _ _ q, uI_k _ _ _ _ _ q, uI_k _ _ _ _ _ q, up_k _ _ _ q, up_k _ _ _ q, up_k _ _ _ q, up_k _ _ _ q, uI_a _ _ _ _ (o + 2) _ (by omega), uI_a _ _ _ _ (o + 3) _ (by omega), uI_a _ _ _ _ (o + 3) _ (by omega), uI_a _ _ _ _ (o + 4) _ (by omega), uI_a _ _ _ _ (o + 4) _ (by omega), uI_a _ _ _ _ (o + 4) _ (by omega)]
    exact ⟨h1, h2, h3, h4⟩
theorem S38 {g d : Nat} (ho : kd (GG L) o = 1) (hk : k < 10) (hT : T k = 0) (hdg : d ≤ g) (hg : g < 256) (h : LaS o T G D B I) : ∃ I', E 38 0 [some (.ref o), some (.int (nI k)), some (.int (nI g)), some (.int (nI d))] [] (GG L) I = some (some (.int 1), GG L, I') ∧ LaS o (up T k 1) (up G k (nI g)) (up D k (nI d)) (up B k (-6)) I' ∧ FO o I I' := by
  refine ⟨_, ?_, LaS_up (k := k) (t := 1) (x := nI g) (y := nI d) (z := -6) h, fun a q => by rw [uI_o _ _ _ _ _ (by omega), uI_o _ _ _ _ _ (by omega), uI_o _ _ _ _ _ (by omega), uI_o _ _ _ _ _ (by omega)]⟩
  rw [B38_0 ho, S119, K2_i, tI_t ⟨k, hk, rfl⟩, B38_4 ho, if_neg (by decide), ck_of (inb_nI hk (by decide)), ix_nI (by omega), (h k hk).1, hT, if_pos rfl, if_pos (nI_le hdg (by omega)), ck_of (inb_nI hk (by decide)), ck_of (inb_nI hk (by decide)), ck_of (inb_nI hk (by decide)), ck_of (inb_nI hk (by decide))]
theorem S39 (ho : kd (GG L) o = 1) (hk : k < 10) (hT : T k ≠ 0) (h : LaS o T G D B I) : ∃ I', E 39 0 [some (.ref o), some (.int (nI k))] [] (GG L) I = some (some (.int 1), GG L, I') ∧ FO o I I' := by
  refine ⟨_, ?_, fun a q => uI_o I (o + 1) k 0 a (by omega)⟩
  rw [B39_0 ho, S32k ho hk, K2_i, B39_5 ho, (h k hk).1, tI_t hT, if_neg (by decide), ck_of (inb_nI hk (by decide)), ix_nI (by omega)]
/-- multiplied, divided or limited -/
theorem S41 {kk b x y x' y' : Nat} (ho : kd (GG L) o = 1) (hk : k < 10) (hT : T k ≠ 0) (hG : G k = nI x) (hD : D k = nI y) (h92 : ∀ (I : It), E 92 0 [some (.int (nI kk)), some (.int (nI b)), some (.int (nI x))] [] (GG L) I = some (some (.int (nI x')), GG L, I)) (h92' : ∀ (I : It), E 92 0 [some (.int (nI kk)), some (.int (nI b)), some (.int (nI y))] [] (GG L) I = some (some (.int (nI y')), GG L, I)) (h : LaS o T G D B I) : ∃ I', E 41 0 [some (.ref o), some (.int (nI k)), some (.int (nI kk)), some (.int (nI b))] [] (GG L) I = some (some (.int 1), GG L, I') ∧ LaS o T (up G k (nI x')) (up D k (nI y')) B I' ∧ FO o I I' := by
  have k2 : kd (GG L) (o + 2) = 50 := wk_1_1 ho
  have l2 : ln (GG L) (o + 2) = 10 := wl_1_1 ho
  have k3 : kd (GG L) (o + 3) = 50 := wk_1_2 ho
  have l3 : ln (GG L) (o + 3) = 10 := wl_1_2 ho
  obtain ⟨h1, h2, h3, h4⟩ := h k hk
  refine ⟨uI (uI I (o + 2) k (nI x')) (o + 3) k (nI y'), ?_, fun j hj => ?_, fun a q => by rw [uI_o _ _ _ _ _ (by omega), uI_o _ _ _ _ _ (by omega)]⟩
  · rw [B41_0 ho, S32k ho hk, K2_i, B41_5 ho, h1, tI_t hT, if_neg (by decide), ck_of (inb_nI hk (by decide)), ix_nI (by omega), h2, hG, h92, K2_i, B41_26 ho k2 l2, ck_of (inb_nI hk (by decide)), ck_of (inb_nI hk (by decide)), ix_nI (by omega), uI_a _ _ _ _ (o + 3) _ (by omega), h3, hD, h92', K2_i, B41_43 k3 l3, ck_of (inb_nI hk (by decide)), ix_nI (by omega)]
  · obtain ⟨g1, g2, g3, g4⟩ := h j hj
    rw [uI_a _ _ _ _ (o + 1) _ (by omega), uI_a _ _ _ _ (o + 1) _ (by omega), uI_a _ _ _ _ (o + 2) _ (by omega), uI_a _ _ _ _ (o + 4) _ (by omega), uI_a _ _ _ _ (o + 4) _ (by omega)]
    by_cases q : j = k
    · subst q; rw [uI_s, uI_s, up_s, up_s]; exact ⟨g1, rfl, rfl, g4⟩
    · rw [uI_k _ _ _ _ _ q, uI_k _ _ _ _ _ q, uI_a _ _ _ _ (o + 3) _ (by omega), up_k _ _ _ q, up_k _ _ _ q]; exact ⟨g1, g2, g3, g4⟩
/-- a layout copied from the one before it -/
theorem S37 {o1 : Nat} (ho : kd (GG L) o = 1) (ho1 : kd (GG L) o1 = 1) (hoo : o1 + 4 < o) (hT : ∀ j, j < 10 → I (o1 + 1) j = 0 ∨ I (o1 + 1) j = 1) : ∀ (m k : Nat) {I1 : It}, m + k = 10 → (∀ a, a ≤ o → I1 a = I a) → FO o I I1 → (∀ j, j < k → I1 (o + 1) j = I (o1 + 1) j ∧ I1 (o + 2) j = I (o1 + 2) j ∧ I1 (o + 3) j = I (o1 + 3) j ∧ I1 (o + 4) j = nI j) →
    ∃ I', E 37 2 [some (.ref o), some (.ref o1), some (.ref 4), some (.int (nI k))] [] (GG L) I1 = E 37 2 [some (.ref o), some (.ref o1), some (.ref 4), some (.int (nI 10))] [] (GG L) I' ∧ FO o I I' ∧ LaS o (I (o1 + 1)) (I (o1 + 2)) (I (o1 + 3)) nI I' := by
  intro m
  induction m with
  | zero =>
    intro k I1 hm h1 h2 h3
    have hk : k = 10 := by omega
    subst hk
    exact ⟨I1, rfl, h2, h3⟩
  | succ m ih =>
    intro k I1 hm h1 h2 h3
    have hk : k < 10 := by omega
    have e1 : I1 (o1 + 1) = I (o1 + 1) := h1 _ (by omega)
    have e2 : I1 (o1 + 2) = I (o1 + 2) := h1 _ (by omega)
    have e3 : I1 (o1 + 3) = I (o1 + 3) := h1 _ (by omega)
    obtain ⟨I2, hI2⟩ : ∃ I2, uI (uI (uI (uI I1 (o + 1) k (I (o1 + 1) k)) (o + 2) k (I (o1 + 2) k)) (o + 3) k (I (o1 + 3) k)) (o + 4) k (nI k) = I2 := ⟨_, rfl⟩
    have o2 : ∀ a, a < o + 1 ∨ o + 4 < a → I2 a = I1 a := fun a q => by rw [← hI2, uI_o _ _ _ _ _ (by omega), uI_o _ _ _ _ _ (by omega), uI_o _ _ _ _ _ (by omega), uI_o _ _ _ _ _ (by omega)]
    obtain ⟨I', a1, a2, a3⟩ := ih (k + 1) (I1 := I2) (by omega) (fun a q => (o2 a (by omega)).trans (h1 a q)) (fun a q => (o2 a q).trans (h2 a q)) (fun j hj => by
      rw [← hI2, uI_a _ _ _ _ (o + 1) _ (by omega), uI_a _ _ _ _ (o + 1) _ (by omega), uI_a _ _ _ _ (o + 1) _ (by omega), uI_a _ _ _ _ (o + 2) _ (by omega), uI_a _ _ _ _ (o + 2) _ (by omega), uI_a _ _ _ _ (o + 3) _ (by omega)]
      by_cases q : j = k
      · subst q; rw [uI_s, uI_s, uI_s, uI_s]; exact ⟨rfl, rfl, rfl, rfl⟩
      · rw [uI_k _ _ _ _ _ q, uI_k _ _ _ _ _ q, uI_k _ _ _ _ _ q, uI_k _ _ _ _ _ q, uI_a _ _ _ _ (o + 2) _ (by omega), uI_a _ _ _ _ (o + 3) _ (by omega), uI_a _ _ _ _ (o + 3) _ (by omega), uI_a _ _ _ _ (o + 4) _ (by omega), uI_a _ _ _ _ (o + 4) _ (by omega), uI_a _ _ _ _ (o + 4) _ (by omega)]
        exact h3 j (by omega))
    refine ⟨I', ?_, a2, a3⟩
    rw [← a1, B37_2 ho ho1 k_4, if_neg (show ¬ (10 : Int32) ≤ nI k from nI_ge (a := k) (b := 10) hk (by decide)), ck_of (inb_nI hk (by decide)), ix_nI (by omega), e1, ck_of (by rw [inb_nI hk (by decide)]; rcases hT k hk with z | z <;> rw [z] <;> decide), ck_of (inb_nI hk (by decide)), ck_of (inb_nI hk (by decide)), ck_of (inb_nI hk (by decide)), ck_of (inb_nI hk (by decide)), ck_of (inb_nI hk (by decide)), nI_1, uI_a _ _ _ _ (o1 + 2) _ (by omega), e2, uI_a _ _ _ _ (o1 + 3) _ (by omega), uI_a _ _ _ _ (o1 + 3) _ (by omega), e3, hI2]
/-- one step done to a layout -/
theorem S89 {i m kk n A B' : Nat} {I I' : It} (ho : kd (GG L) o = 1) (hi : i < m) (hm : m ≤ 27) (h4 : I (o + 5) 4 = nI m) (h6 : I (o + 6) i = nI kk) (h7 : I (o + 7) i = nI n) (h8 : I (o + 8) i = nI A) (h9 : I (o + 9) i = nI B') (h90 : E 90 0 [some (.ref o), some (.int (nI kk)), some (.int (nI n)), some (.int (nI A)), some (.int (nI B'))] [] (GG L) I = some (some (.int 1), GG L, I')) : E 89 2 [some (.ref (o + 5)), some (.ref o), some (.int (nI i))] [] (GG L) I = E 89 2 [some (.ref (o + 5)), some (.ref o), some (.int (nI (i + 1)))] [] (GG L) I' := by
  have k5 : kd (GG L) (o + 5) = 5 := wk_1_4 ho
  rw [B89_2 k5 ho, h4, if_neg (nI_ge hi (by omega)), if_neg (show ¬ (27 : Int32) ≤ nI i from nI_ge (a := i) (b := 27) (by omega) (by decide)), ck_of (inb_nI (by omega) (by decide)), ck_of (inb_nI (by omega) (by decide)), ck_of (inb_nI (by omega) (by decide)), ck_of (inb_nI (by omega) (by decide)), ix_nI (by omega), h6, h7, h8, h9, h90, K2_i, B89_44 k5 ho, if_neg (by decide), nI_1]
theorem S89e {m : Nat} {I : It} (ho : kd (GG L) o = 1) (h4 : I (o + 5) 4 = nI m) : E 89 2 [some (.ref (o + 5)), some (.ref o), some (.int (nI m))] [] (GG L) I = some (some (.int 1), GG L, I) := by
  have k5 : kd (GG L) (o + 5) = 5 := wk_1_4 ho
  rw [B89_2 k5 ho, h4, if_pos (Int32.le_refl _)]
/-- a step's own method -/
theorem S90_0 {n A B' : Int32} {I : It} {R : Gt × It} (ho : kd (GG L) o = 1) (h : E 38 0 [some (.ref o), some (.int n), some (.int A), some (.int B')] [] (GG L) I = some (some (.int 1), R)) : E 90 0 [some (.ref o), some (.int (nI 0)), some (.int n), some (.int A), some (.int B')] [] (GG L) I = E 90 36 [some (.ref o), some (.int (nI 0)), some (.int n), some (.int A), some (.int B')] [.int 1] R.1 R.2 := by
  rw [B90_0 ho, show swt (nI 0 : Int32).toInt 0 [28, 37, 43] 50 = 28 from rfl, B90_28 ho, h]; rfl
theorem S90_1 {n A B' : Int32} {I : It} {R : Gt × It} (ho : kd (GG L) o = 1) (h : E 39 0 [some (.ref o), some (.int n)] [] (GG L) I = some (some (.int 1), R)) : E 90 0 [some (.ref o), some (.int (nI 1)), some (.int n), some (.int A), some (.int B')] [] (GG L) I = E 90 42 [some (.ref o), some (.int (nI 1)), some (.int n), some (.int A), some (.int B')] [.int 1] R.1 R.2 := by
  rw [B90_0 ho, show swt (nI 1 : Int32).toInt 0 [28, 37, 43] 50 = 37 from rfl, B90_37 ho, h]; rfl
theorem S90_2 {kk : Nat} {n A B' : Int32} {I I' : It} (ho : kd (GG L) o = 1) (hkk : kk = 3 ∨ kk = 4 ∨ kk = 5) (h : E 41 0 [some (.ref o), some (.int n), some (.int (nI kk)), some (.int A)] [] (GG L) I = some (some (.int 1), GG L, I')) : E 90 0 [some (.ref o), some (.int (nI kk)), some (.int n), some (.int A), some (.int B')] [] (GG L) I = some (some (.int 1), GG L, I') := by
  have : swt (nI kk : Int32).toInt 0 [28, 37, 43] 50 = 50 := by rcases hkk with rfl | rfl | rfl <;> rfl
  rw [B90_0 ho, this, B90_50 ho, h, K2_i, B90_57, ck_of (by decide)]
end LA
