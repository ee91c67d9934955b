/-! ===== p24: to the last version at once, or step by step; the factory's state ===== -/
theorem fct_0 {f : Nat → Int32} (h : ∀ k, f k = -6) : ∀ m, fct f m = 0 := by
  intro m
  induction m with
  | zero => rfl
  | succ m ih => show (if f m = -6 then fct f m else fct f m + 1) = 0; rw [if_pos (h m), ih]
theorem fct_3 {f : Nat → Int32} (h0 : f 0 ≠ -6) (h1 : f 1 ≠ -6) (h2 : f 2 ≠ -6) (h : ∀ k, 3 ≤ k → f k = -6) : ∀ m, fct f (3 + m) = 3 := by
  intro m
  induction m with
  | zero =>
    show (if f 2 = -6 then (if f 1 = -6 then (if f 0 = -6 then 0 else 0 + 1) else (if f 0 = -6 then 0 else 0 + 1) + 1) else (if f 1 = -6 then (if f 0 = -6 then 0 else 0 + 1) else (if f 0 = -6 then 0 else 0 + 1) + 1) + 1) = 3
    rw [if_neg h2, if_neg h1, if_neg h0]
  | succ m ih => show (if f (3 + m) = -6 then fct f (3 + m) else fct f (3 + m) + 1) = 3; rw [if_pos (h _ (by omega)), ih]
section MV
variable {L : Nat × Nat} {n a v s r : Nat} {g e Z : Nat → Nat → Nat} {x : Nat → Nat} {I : It} {P P' : Pc} {o0 o1 : Option Pc}
/-- the last part: the factory's state -/
theorem M_end {u4 u5 u6 u7 : Option Value} {y1 : Int32} (hn : n = 3) (hG : Gk g e) (hT : TT n g e Z P' (some P) o1 I) (hI : Iv g e P a v s r x) : ∃ L' I', K2 132 272 [some (.ref 1), some (.int y1), some (.int (nI v)), some (.int (nI 2)), u4, u5, u6, u7] [] (E 114 0 [some (.ref 1), some (.int 0)] [] (GG L) I) = some (some (.int 1), GG L', I') ∧ L'.1 = L.1 ∧ (L.2 ≤ L'.2 ∧ L'.2 ≤ L.2 + 2) ∧ TT n g e Z P (some P) o1 I' ∧ FL L I I' := by
  obtain ⟨hw, h⟩ := id hI
  have hn3 : 3 ≤ n := by omega
  have ha := h.1.2.2.2.2.1
  obtain ⟨I1, a1, hT1, f1, -⟩ := C_back0 (L := L) hT
  obtain ⟨t, ht, e1⟩ := U_up (L := L) (M := 3) (x := y1 >>> ((5 : Int32) &&& 31)) (I := I1) (by decide) (by decide)
  have e1' : E 123 0 [some (.int (y1 >>> ((5 : Int32) &&& 31))), some (.int (nI 2 + 1))] [] (GG L) I1 = some (some (.int (nI t)), GG L, I1) := e1
  obtain ⟨I2, a2, hT2, f2⟩ := C_factory (L := L) hT1 hw (show t < n by omega) ht
  obtain ⟨hI2, hc1, hc0⟩ := reset_Iv (e := e) hG hw ht
  have hH2 := Cw_head hn3 hT.1.1 hI2.2.2.2
  have s7 : E 106 0 [some (.ref 1), some (.int 7)] [] (GG L) I2 = some (some (.int 0), GG L, I2) := by
    rw [G_s7 hn3 hG hT2 hI2.2, fls_df]; rfl
  have p15 : E 105 0 [some (.ref 1), some (.int 1), some (.int 5), none] [] (GG L) I2 = some (some (.int 0), GG L, I2) := (Q_p5 (p := 1) hT2.2.1 (by decide)).trans (by rw [fct_0 hc1]; rfl)
  have p05 : E 105 0 [some (.ref 1), some (.int 0), some (.int 5), none] [] (GG L) I2 = some (some (.int 3), GG L, I2) := (Q_p5 (p := 0) hT2.2.1 (by decide)).trans (by rw [show (48 : Nat) = 3 + 45 from rfl, fct_3 hH2.1 hH2.2.1 hH2.2.2.1 hc0]; rfl)
  obtain ⟨I3, P3, a3, hT3, f3, hI3, -⟩ := Law_again (L := L) hn3 hT2 hI2
  obtain ⟨I4, a4, hT4, f4, -⟩ := C_back0 (L := dn (dn L)) hT3
  have a4' : E 114 0 [some (.ref 1), some (.int 0)] [] (GG (dn (dn L))) I3 = some (some (.int (nI a)), GG (dn (dn L)), I4) := a4.trans (by rw [h.1.1])
  refine ⟨dn (dn L), I4, ?_, rfl, by rw [dn2, dn2]; omega, hT4, FL_tr (FL_N f1) (FL_tr (FL_N f2) (FL_tr f3 (FL_N f4)))⟩
  rw [a1, K2_i, B132_272, e1', K2_i, B132_282 rfl, a2, K2_i, B132_290, if_pos (show nI 3 = (3 : Int32) from rfl), G_s2 hT2 hI2.2, K2_i, B132_299, if_pos rfl, s7, K2_i, B132_310, if_pos rfl, G_s3 hT2 hI2.2, K2_i, B132_318, if_pos (show nI 0 = (0 : Int32) from rfl), G_s1 hT2 hI2.2, K2_i, B132_326, if_pos (show nI 0 = (0 : Int32) from rfl), G_s4 hT2 hI2.2, K2_i, B132_334, if_pos (show nI (15 - 0) = (15 : Int32) from rfl), p15, K2_i, B132_345, if_pos rfl, p05, K2_i, B132_354, if_pos rfl, a3, K2_i, B132_362, if_neg (by decide), a4', K2_i, B132_370, if_neg (nI_pos (by omega)), G_s2 hT4 h, K2_i, B132_378, if_pos rfl]
/-- what a migration would give, noted -/
theorem M_note {u1 u2 u6 u7 : Int32} {v6 v7 : Option Value} {p : Nat} (hp : kd (GG L) p = 50) (lp : ln (GG L) p = 3) (hp9 : 119 ≤ p) (hG : Gk g e) (hw : P.1 = some none) (h : Iw g e P a v s r x) (hvt : v < 2) (hn : n = 3) : ∀ (m k : Nat) {I : It}, m + k = 3 → TT n g e Z P o0 o1 I → (∀ j, j < k → I p j = nI (mgs Z v x (2 - v) j)) →
    ∃ I', E 132 34 [some (.ref 1), some (.int u1), some (.int u2), some (.int (nI 2)), some (.ref p), some (.int (nI k)), v6, v7] [] (GG L) I = E 132 34 [some (.ref 1), some (.int u1), some (.int u2), some (.int (nI 2)), some (.ref p), some (.int (nI 3)), v6, v7] [] (GG L) I' ∧ TT n g e Z P o0 o1 I' ∧ (∀ b, b < 9 ∨ 119 ≤ b → b ≠ p → I' b = I b) ∧ ∀ j, j < 3 → I' p j = nI (mgs Z v x (2 - v) j) := by
  intro m
  induction m with
  | zero =>
    intro k I hm hT hj
    have hk : k = 3 := by omega
    subst hk
    exact ⟨I, rfl, hT, fun _ _ _ => rfl, hj⟩
  | succ m ih =>
    intro k I hm hT hj
    have hk : k < 3 := by omega
    obtain ⟨I1, a1, hT1, f1⟩ := C_ifm (L := L) (t := 2) hT hw h.1 (Iv_x hG h) h.2.1 hvt (by omega) (by decide) hk
    have hT2 : TT n g e Z P o0 o1 (uI I1 p k (nI (mgs Z v x (2 - v) k))) := TT_u hT1 hp9
    obtain ⟨I', b1, b2, b3, b4⟩ := ih (k + 1) (by omega) hT2 (fun j hjk => by
      by_cases z : j = k
      · subst z; rw [uI_s]
      · rw [uI_k _ _ _ _ _ z, f1 p (Or.inr hp9)]; exact hj j (by omega))
    refine ⟨I', ?_, b2, fun b hb hbp => by rw [b3 b hb hbp, uI_o _ _ _ _ _ hbp, f1 b hb], b4⟩
    rw [← b1, B132_34 hp lp, if_neg (show ¬ (3 : Int32) ≤ nI k from nI_ge (a := k) (b := 3) hk (by decide)), a1, K2_i, B132_51 hp lp hp lp, ck_of (inb_nI hk (by decide)), ix_nI (by omega), nI_1]
/-- what was found is as it was noted -/
theorem M_cmp1 {u1 u2 x5 x6 : Int32} {p t : Nat} (hp : kd (GG L) p = 50) (lp : ln (GG L) p = 3) (hn : 3 ≤ n) (hT : TT n g e Z P o0 o1 I) (hw : P.1 = some none) (h : Iw g e P a t s r x) (hj : ∀ j, j < 3 → I p j = nI (x j)) : ∀ (m k : Nat), m + k = 3 → E 132 76 [some (.ref 1), some (.int u1), some (.int u2), some (.int (nI 2)), some (.ref p), some (.int x5), some (.int x6), some (.int (nI k))] [] (GG L) I = E 132 76 [some (.ref 1), some (.int u1), some (.int u2), some (.int (nI 2)), some (.ref p), some (.int x5), some (.int x6), some (.int (nI 3))] [] (GG L) I := by
  intro m
  induction m with
  | zero =>
    intro k hm
    have hk : k = 3 := by omega
    subst hk
    rfl
  | succ m ih =>
    intro k hm
    have hk : k < 3 := by omega
    have h1 := ih (k + 1) (by omega)
    rw [← h1, B132_76 hp lp, if_neg (show ¬ (3 : Int32) ≤ nI k from nI_ge (a := k) (b := 3) hk (by decide)), G_get hn hT hw h hk, K2_i, B132_88 hp lp, ck_of (inb_nI hk (by decide)), ix_nI (by omega), hj k hk, if_pos rfl, nI_1]
theorem M_cmp2 {u1 u2 x5 x6 : Int32} {p t : Nat} (hp : kd (GG L) p = 50) (lp : ln (GG L) p = 3) (hn : 3 ≤ n) (hT : TT n g e Z P o0 o1 I) (hw : P.1 = some none) (h : Iw g e P a t s r x) (hj : ∀ j, j < 3 → I p j = nI (x j)) : ∀ (m k : Nat), m + k = 3 → E 132 142 [some (.ref 1), some (.int u1), some (.int u2), some (.int (nI 2)), some (.ref p), some (.int x5), some (.int x6), some (.int (nI k))] [] (GG L) I = E 132 142 [some (.ref 1), some (.int u1), some (.int u2), some (.int (nI 2)), some (.ref p), some (.int x5), some (.int x6), some (.int (nI 3))] [] (GG L) I := by
  intro m
  induction m with
  | zero =>
    intro k hm
    have hk : k = 3 := by omega
    subst hk
    rfl
  | succ m ih =>
    intro k hm
    have hk : k < 3 := by omega
    have h1 := ih (k + 1) (by omega)
    rw [← h1, B132_142 hp lp, if_neg (show ¬ (3 : Int32) ≤ nI k from nI_ge (a := k) (b := 3) hk (by decide)), G_get hn hT hw h hk, K2_i, B132_154 hp lp, ck_of (inb_nI hk (by decide)), ix_nI (by omega), hj k hk, if_pos rfl, nI_1]
/-- step by step -/
theorem M_steps {u1 u2 x5 x6 : Int32} {p : Nat} (hp : kd (GG L) p = 50) (lp : ln (GG L) p = 3) (hG : Gk g e) (hn : n = 3) (hv : v ≤ 2) (hx : ∀ k, k < 3 → x k ≤ g v k) : ∀ (m j : Nat) {I : It} {P : Pc} {a s r : Nat}, m + j = 2 - v → TT n g e Z P o0 o1 I → Iv g e P a (v + j) s r (mgs Z v x j) →
    ∃ I' P' a' s' r', E 132 115 [some (.ref 1), some (.int u1), some (.int u2), some (.int (nI 2)), some (.ref p), some (.int x5), some (.int x6), some (.int (nI (v + j + 1)))] [] (GG L) I = E 132 142 [some (.ref 1), some (.int u1), some (.int u2), some (.int (nI 2)), some (.ref p), some (.int x5), some (.int x6), some (.int 0)] [] (GG L) I' ∧ TT n g e Z P' o0 o1 I' ∧ FN I I' ∧ Iv g e P' a' 2 s' r' (mgs Z v x (2 - v)) := by
  intro m
  induction m with
  | zero =>
    intro j I P a s r hm hT hI
    have hj : j = 2 - v := by omega
    subst hj
    have : v + (2 - v) = 2 := by omega
    rw [this] at hI
    refine ⟨I, P, a, s, r, ?_, hT, FN_r I, hI⟩
    rw [B132_115 hp lp, if_pos (nI_lt (by omega) (by omega))]
  | succ m ih =>
    intro j I P a s r hm hT hI
    obtain ⟨hw, h⟩ := id hI
    have hle := mgs_le (x := x) hT.1 hx (j + 1) (by omega) (by omega)
    obtain ⟨q1, q2, -, -⟩ := fill_all hG hI (show v + j + 1 < 3 by omega) hle
    obtain ⟨I1, b1, hT1, f1⟩ := C_migrate (L := L) (t := v + j + 1) hT hw h.1 (by omega) (Iv_x hG h) h.2.1 (Nat.lt_succ_self _) (by omega) (by omega)
    have em : mgs Z (v + j) (mgs Z v x j) (v + j + 1 - (v + j)) = mgs Z v x (j + 1) := by
      rw [show v + j + 1 - (v + j) = 1 by omega]; rfl
    rw [em] at b1 hT1
    rw [q2] at b1
    obtain ⟨I2, P2, a2, s2, r2, c1, c2, c3, c4⟩ := ih (j + 1) (I := I1) (by omega) hT1 q1
    refine ⟨I2, P2, a2, s2, r2, ?_, c2, FN_tr f1 c3, c4⟩
    have hle3 := (fls_le e (v + j + 1) (mgs Z v x (j + 1)) 3).1
    rw [← c1, B132_115 hp lp, if_neg (nI_nlt (by omega) (by omega)), b1, K2_i, B132_127 hp lp, if_pos (show (3 : Int32) ≤ nI (3 + 3 * (fls e (v + j + 1) (mgs Z v x (j + 1)) 3).2) from nI_le (a := 3) (by omega) (by omega)), nI_1]
    rfl
theorem Law_moves {y1 : Int32} (hn : n = 3) (hG : Gk g e) (hT : TT n g e Z P o0 o1 I) (hI : Iv g e P a v s r x) : ∃ L' I', E 132 0 [some (.ref 1), some (.int y1), none, none, none, none, none, none] [] (GG L) I = some (some (.int 1), GG L', I') ∧ L'.1 = L.1 ∧ (L.2 ≤ L'.2 ∧ L'.2 ≤ L.2 + 5) ∧ TT n g e Z P (some P) o1 I' ∧ FL L I I' := by
  obtain ⟨hw, h⟩ := id hI
  have hn3 : 3 ≤ n := by omega
  have ha := h.1.2.2.2.2.1
  have hv3 := h.1.2.2.2.2.2.1
  have hxg := h.2.2.2.2.2.2.2.2.2
  obtain ⟨I1, b1, hT1, f1, -⟩ := C_keep0 (L := L) hT
  have b0 := B132_0 (L := L) (x1 := y1) (I := I)
  rw [G_s2 hT h, K2_i, B132_5, Q_s8 hT.1, K2_i, B132_12, show nI n - 1 = nI 2 from by rw [hn]; exact nI_pred 2, b1, K2_i, B132_20] at b0
  by_cases hv2 : nI 2 ≤ nI v
  · rw [if_pos hv2] at b0
    obtain ⟨L', I', c1, c2, c3, c4, c5⟩ := M_end (L := L) (u4 := none) (u5 := none) (u6 := none) (u7 := none) (y1 := y1) hn hG hT1 hI
    exact ⟨L', I', b0.trans c1, c2, by omega, c4, FL_tr (FL_N f1) c5⟩
  · rw [if_neg hv2, GG_n] at b0
    have hv : v < 2 := by
      by_cases z : v < 2
      · exact z
      · exact absurd (nI_le (by omega) (by omega)) hv2
    have kp : kd (GG (dn L)) (119 + L.2) = 50 := GG_xk _ (by omega) (by rw [dn2]; omega)
    have lp : ln (GG (dn L)) (119 + L.2) = 3 := GG_xl _ (by omega) (by rw [dn2]; omega)
    have hT2 : TT n g e Z P (some P) o1 (nI0 (GG L) I1) := TT_new hT1
    rw [B132_29 kp lp] at b0
    obtain ⟨y, hy⟩ : ∃ y, mgs Z v x (2 - v) = y := ⟨_, rfl⟩
    obtain ⟨I3, c3, hT3, f3, hj3⟩ := M_note (L := dn L) (u1 := y1) (u2 := nI v) (v6 := none) (v7 := none) (u6 := 0) (u7 := 0) kp lp (by omega) hG hw h hv hn 3 0 rfl hT2 (fun j hj => absurd hj (Nat.not_lt_zero _))
    rw [hy] at hj3
    have b2 := b0.trans c3
    -- at once
    have hyg : ∀ k, k < 3 → y k ≤ g 2 k := by
      have := mgs_le (x := x) hT.1 hxg (2 - v) (by omega) (by omega)
      rw [hy, show v + (2 - v) = 2 by omega] at this
      exact this
    obtain ⟨q1, q2, -, -⟩ := fill_all hG hI (show 2 < 3 by decide) hyg
    obtain ⟨I4, c4, hT4, f4⟩ := C_migrate (L := dn L) (t := 2) hT3 hw h.1 (by omega) (Iv_x hG h) h.2.1 hv (by omega) (by decide)
    rw [hy] at c4 hT4
    rw [q2] at c4
    obtain ⟨c, hc⟩ : ∃ c, (fls e 2 y 3).2 = c := ⟨_, rfl⟩
    have hc3 : c ≤ 3 := hc ▸ (fls_le e 2 y 3).1
    rw [hc] at c4 q1
    have s7 := G_s7 (L := dn L) hn3 hG hT4 q1.2
    rw [hc] at s7
    have c5 := M_cmp1 (L := dn L) (u1 := y1) (u2 := nI v) (x5 := nI (3 + 3 * c)) (x6 := nI c) kp lp hn3 hT4 q1.1 q1.2 (fun j hj => by rw [f4 _ (Or.inr (by omega))]; exact hj3 j hj) 3 0 rfl
    have c5' : E 132 76 [some (.ref 1), some (.int y1), some (.int (nI v)), some (.int (nI 2)), some (.ref (119 + L.2)), some (.int (nI (3 + 3 * c))), some (.int (nI c)), some (.int 0)] [] (GG (dn L)) I4 = _ := c5
    obtain ⟨I5, c6, hT5, f5, -⟩ := C_back0 (L := dn L) hT4
    rw [B132_34 kp lp, if_pos (by decide), c4, K2_i, B132_63 kp lp, s7, K2_i, B132_71 kp lp, c5', B132_76 kp lp, if_pos (by decide), c6, K2_i, B132_109 kp lp, nI_1] at b2
    -- step by step
    obtain ⟨I6, P6, a6, s6, r6, c7, hT6, f6, hI6⟩ := M_steps (L := dn L) (x := x) (v := v) (u1 := y1) (u2 := nI v) (x5 := nI (3 + 3 * c)) (x6 := nI c) kp lp hG hn (by omega) hxg (2 - v) 0 (a := a) (s := s) (r := r) rfl hT5 hI
    rw [hy] at hI6
    have b3 := b2.trans c7
    have c8 := M_cmp2 (L := dn L) (u1 := y1) (u2 := nI v) (x5 := nI (3 + 3 * c)) (x6 := nI c) kp lp hn3 hT6 hI6.1 hI6.2 (fun j hj => by rw [f6 _ (Or.inr (by omega)), f5 _ (Or.inr (by omega)), f4 _ (Or.inr (by omega))]; exact hj3 j hj) 3 0 rfl
    have c8' : E 132 142 [some (.ref 1), some (.int y1), some (.int (nI v)), some (.int (nI 2)), some (.ref (119 + L.2)), some (.int (nI (3 + 3 * c))), some (.int (nI c)), some (.int 0)] [] (GG (dn L)) I6 = _ := c8
    have s76 := G_s7 (L := dn L) hn3 hG hT6 hI6.2
    rw [hc] at s76
    obtain ⟨I7, P7, c9, hT7, f7, hI7, -⟩ := Law_again (L := dn L) hn3 hT6 hI6
    obtain ⟨M, hM⟩ : ∃ M, dn (dn (dn L)) = M := ⟨_, rfl⟩
    have hM1 : M.1 = L.1 := by rw [← hM]; rfl
    have hM2 : M.2 = L.2 + 3 := by rw [← hM]; rfl
    rw [hM] at c9
    obtain ⟨I8, c10, hT8, f8, -⟩ := C_back0 (L := M) hT7
    -- the power fails on the way
    obtain ⟨u, hu, e1⟩ := U_up (L := M) (M := 3 + 3 * c) (x := y1) (I := I8) (by omega) (by omega)
    obtain ⟨I9, c11, hT9, f9⟩ := C_fail (L := M) (m := u) hT8 hw (by omega)
    obtain ⟨P9, hP9⟩ : ∃ P9 : Pc, (some (some u), P.2) = P9 := ⟨_, rfl⟩
    rw [hP9] at hT9
    have h9 : Iw g e P9 a v s r x := hP9 ▸ h
    have hw9 : P9.1 = some (some u) := by rw [← hP9]
    obtain ⟨I10, c12, hT10, f10⟩ := C_migrate (L := M) (t := 2) hT9 hw9 h9.1 (by omega) (Iv_x hG h9) h9.2.1 hv (by omega) (by decide)
    rw [hy] at c12 hT10
    have hN : fillN e P9 2 y = u := by
      unfold fillN
      rw [hw9, hc]
      show min u (3 * c + 3) = u
      omega
    rw [hN] at c12
    obtain ⟨p1, p2, p3, p4⟩ := fill_off (v' := 2) (y := y) (by rw [hw9]; exact fun q => by cases q) h9 (by rw [hw9, hc]; simp only [pa]; rw [if_neg (by omega)])
    obtain ⟨P10, hP10⟩ : ∃ P10, fillS e P9 (1 - a) 2 ((s + 1) % 200) y = P10 := ⟨_, rfl⟩
    rw [hP10] at hT10 p1 p2 p3 p4
    obtain ⟨I11, P11, c13, hT11, f11, hI11, -⟩ := G_start (L := M) hn3 hT10 p4
    obtain ⟨e2u, he2, e2⟩ := U_up (L := M) (M := 3 + 3 * c) (x := y1) (I := I10) (by omega) (by omega)
    have hu2 : E 123 0 [some (.int y1), some (.int (nI (3 + 3 * c)))] [] (GG M) I10 = some (some (.int (nI u)), GG M, I10) := by
      have q1 := e1
      have q2 := e2
      rw [B123_0] at q1 q2 ⊢
      have hne : ¬ nI (3 + 3 * c) = 0 := nI_ne0 (by omega) (by omega)
      rw [ck_of (by simp [hne])] at q1 ⊢
      have : (y1 &&& 2147483647) - (y1 &&& 2147483647) / nI (3 + 3 * c) * nI (3 + 3 * c) = nI u := by
        have := congrArg (fun z : Option Rs => z.map (fun w => w.1)) q1
        simpa using this
      rw [this]
    have g0 : E 106 0 [some (.ref 1), some (.int 0)] [] (GG M) I10 = some (some (.int 0), GG M, I10) := by rw [Q_s0 hT10.2.1, p1]; rfl
    have g2 : E 106 0 [some (.ref 1), some (.int 2)] [] (GG M) I10 = some (some (.int (nI v)), GG M, I10) := by rw [Q_s2 hT10.2.1, p2, h9.1.2.1]
    obtain ⟨L', I', d1, d2, d3, d4, d5⟩ := M_end (L := M) (u4 := some (.ref (119 + L.2))) (u5 := some (.int (nI (3 + 3 * c)))) (u6 := some (.int (nI c))) (u7 := some (.int (nI 3))) (y1 := y1) hn hG hT11 hI
    rw [c8', B132_142 kp lp, if_pos (by decide), s76, K2_i, B132_176, if_pos rfl, due3, if_pos rfl, c9, K2_i, B132_196, if_neg (by decide), c10, K2_i, B132_206, e1, K2_i, B132_214, c11, K2_i, B132_217, c12, K2_i, B132_223, hu2, K2_i, B132_229, if_pos rfl, g0, K2_i, B132_237, if_pos rfl, g2, K2_i, B132_245, if_pos rfl, c13, K2_i, B132_255, G_s2 hT11 hI11.2, K2_i, B132_261, if_pos rfl] at b3
    refine ⟨L', I', b3.trans d1, d2.trans hM1, by omega, d4, ?_⟩
    have fM : ∀ {I1 I2 : It}, FL M I1 I2 → FL L I1 I2 := fun q b hb => q b (by omega)
    have g1 : FL L I (nI0 (GG L) I1) := FL_tr (FL_N f1) (FL_new L I1)
    have g3 : FL L (nI0 (GG L) I1) I3 := fun b hb => f3 b (by omega) (by omega)
    exact FL_tr g1 (FL_tr g3 (FL_tr (FL_N f4) (FL_tr (FL_N f5) (FL_tr (FL_N f6) (FL_tr (FL_dn f7) (FL_tr (FL_N f8) (FL_tr (FL_N f9) (FL_tr (FL_N f10) (FL_tr (FL_N f11) (fM d5))))))))))
end MV
