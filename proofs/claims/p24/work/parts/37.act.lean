/-! ===== p24: one thing done ===== -/
theorem and_pos (x : Int32) : ¬ (x &&& 2147483647) < 0 := by
  rw [Int32.not_lt, Int32.le_iff_toInt_le]
  have e : (x &&& 2147483647).toInt = (x.toBitVec &&& 2147483647#32).toInt := rfl
  have e2 : (2147483647#32).msb = false := by decide
  rw [e, BitVec.toInt_eq_toNat_of_msb (by rw [BitVec.msb_and, e2, Bool.and_false])]
  exact Int.natCast_nonneg _
theorem U_up {L : Nat × Nat} {M : Nat} {x : Int32} {I : It} (h0 : 0 < M) (hM : M < 2 ^ 31) : ∃ u, u < M ∧ E 123 0 [some (.int x), some (.int (nI M))] [] (GG L) I = some (some (.int (nI u)), GG L, I) := by
  obtain ⟨j, hj, e⟩ := nI_of (and_pos x)
  refine ⟨j % M, Nat.mod_lt _ h0, ?_⟩
  have hne : ¬ nI M = 0 := nI_ne0 h0 hM
  rw [B123_0, ck_of (by simp [hne]), e, nI_rem hj hM]
/-- the law goes on: 1, and an active page as it is had -/
def Ok (n : Nat) (g e Z : Nat → Nat → Nat) (o0 o1 : Option Pc) (L : Nat × Nat) (I : It) (res : Option Rs) : Prop :=
  ∃ L' I' P a v s r x, res = some (some (.int 1), GG L', I') ∧ L'.1 = L.1 ∧ (L.2 ≤ L'.2 ∧ L'.2 ≤ L.2 + 1) ∧ TT n g e Z P o0 o1 I' ∧ FL L I I' ∧ Iv g e P a v s r x
section AC
variable {L : Nat × Nat} {n a v s r : Nat} {g e Z : Nat → Nat → Nat} {x : Nat → Nat} {I : It} {P : Pc} {o0 o1 : Option Pc}
theorem mgs_le (hR : Ly n g e Z I) (hx : ∀ k, k < 3 → x k ≤ g v k) : ∀ m, v + m < n → v + m < 3 → ∀ k, k < 3 → mgs Z v x m k ≤ g (v + m) k := by
  intro m
  induction m with
  | zero => intro _ _ k hk; exact hx k hk
  | succ m ih =>
    intro h1 h2 k hk
    have h3 := ih (by omega) (by omega) k hk
    obtain ⟨-, -, h4⟩ := hR.2.2.2 (v + (m + 1)) h1 h2
    have h5 := ((h4 (by omega)).2.2.2.2.2.2.2.2.2.2.2.2.2.2 k hk).1
    rw [h5]
    exact mg_mono h3
theorem sn : ∀ T, pa (some none) T = some none := fun _ => rfl
theorem sub1 {a : Nat} (ha : a < 2) : (1 : Int32) - nI a = nI (1 - a) := nI_sub (a := 1) (by omega)
theorem seq1 {s : Nat} (hs : s < 200) : (nI s + 1) - (nI s + 1) / 200 * 200 = nI ((s + 1) % 200) := by
  rw [nI_1, show (200 : Int32) = nI 200 from rfl, nI_rem (by omega) (by decide)]
theorem due3 (c : Nat) : 3 + 3 * nI c = nI (3 + 3 * c) := by rw [show (3 : Int32) = nI 3 from rfl, nI_mul, nI_add]
/-- a page filled, by the law's calls -/
theorem fill_all (hG : Gk g e) (hI : Iv g e P a v s r x) {t : Nat} (ht : t < 3) {y : Nat → Nat} (hy : ∀ k, k < 3 → y k ≤ g t k) : Iv g e (fillS e P (1 - a) t ((s + 1) % 200) y) (1 - a) t ((s + 1) % 200) (fls e t y 3).2 y ∧ fillN e P t y = 3 + 3 * (fls e t y 3).2 ∧ (fillS e P (1 - a) t ((s + 1) % 200) y).2.2.1 0 + (fillS e P (1 - a) t ((s + 1) % 200) y).2.2.1 1 = P.2.2.1 0 + P.2.2.1 1 + nI (3 + 3 * (fls e t y 3).2) ∧ (fillS e P (1 - a) t ((s + 1) % 200) y).2.2.2.2.1 a = P.2.2.2.2.1 a := by
  obtain ⟨hw, h⟩ := hI
  have ha := h.1.2.2.2.2.1
  have hN : fillN e P t y = 3 + 3 * (fls e t y 3).2 := by
    show cn P.1 _ = _
    rw [hw]
    show 3 * (fls e t y 3).2 + 3 = _
    omega
  obtain ⟨q1, q2⟩ := fill_done hG h ht hy (by rw [hw, sn]; exact fun q => by cases q)
  refine ⟨⟨by rw [q1, hw, sn], q2⟩, hN, ?_, ?_⟩
  · rw [fill_W, sum_up (by omega), hN]
  · rw [fill_C, up_k _ _ _ (by omega)]
theorem Act0 {u1 u2 u3 u4 u5 u6 u8 u9 u10 u11 u12 u13 u14 : Option Value} (hn : 3 ≤ n) (hG : Gk g e) (hT : TT n g e Z P o0 o1 I) (hI : Iv g e P a v s r x) : Ok n g e Z o0 o1 L I (E 127 68 [some (.ref 1), u1, u2, u3, u4, u5, u6, some (.int (P.2.2.1 0 + P.2.2.1 1)), u8, u9, u10, u11, u12, u13, u14] [] (GG L) I) := by
  obtain ⟨hw, h⟩ := id hI
  have ha := h.1.2.2.2.2.1
  have hv3 := h.1.2.2.2.2.2.1
  have hs := h.1.2.2.2.2.2.2.1
  obtain ⟨q1, q2, q3, q4⟩ := fill_all hG hI hv3 h.2.2.2.2.2.2.2.2.2
  obtain ⟨I1, a1, hT1, f1⟩ := C_compact (L := L) hT hw h.1 (by omega) (Iv_x hG h) h.2.1
  rw [q2] at a1
  have hH : Hdx n ((fillS e P (1 - a) v ((s + 1) % 200) x).2.2.2.2.1 a) := by rw [q4]; exact Cw_head hn hT.1.1 h.2.2
  refine ⟨L, I1, _, 1 - a, v, (s + 1) % 200, (fls e v x 3).2, x, ?_, rfl, ⟨Nat.le_refl _, Nat.le_succ _⟩, hT1, FL_N f1, q1⟩
  rw [B127_68, G_s1 hT h, K2_i, B127_73, G_s3 hT h, K2_i, B127_80, a1, K2_i, B127_86, G_s7 hn hG hT1 q1.2, K2_i, B127_96, due3, if_pos rfl, Q_s10 hT1.2.1, K2_i, B127_113, if_pos q3, G_s1 hT1 q1.2, K2_i, B127_126, if_pos (sub1 ha).symm, G_s3 hT1 q1.2, K2_i, B127_138, if_pos (seq1 hs).symm, Q_p2 hT1.1 hT1.2.1 ha, K2_i, B127_156, tI_t hH, if_pos rfl]
theorem Act2 {u1 u5 u7 u8 u9 u10 u11 u12 u13 u14 : Option Value} {k : Nat} {y z : Int32} (hn : 3 ≤ n) (hG : Gk g e) (hT : TT n g e Z P o0 o1 I) (hI : Iv g e P a v s r x) (hk : k < 3) : Ok n g e Z o0 o1 L I (E 127 353 [some (.ref 1), u1, some (.int y), some (.int z), some (.int (nI k)), u5, some (.int (nI (g v k))), u7, u8, u9, u10, u11, u12, u13, u14] [] (GG L) I) := by
  obtain ⟨hw, h⟩ := id hI
  have hv3 := h.1.2.2.2.2.2.1
  have hgk := (hG v k hv3 hk).1
  obtain ⟨c, hc, e1⟩ := U_up (L := L) (M := g v k + 1) (x := z) (I := I) (by omega) (by omega)
  obtain ⟨m, hm, e2⟩ := U_up (L := L) (M := 14) (x := y >>> ((4 : Int32) &&& 31)) (I := I) (by decide) (by decide)
  have e2' : E 123 0 [some (.int (y >>> ((4 : Int32) &&& 31))), some (.int 14)] [] (GG L) I = some (some (.int (nI m)), GG L, I) := e2
  obtain ⟨I1, P1, a1, s1, r1, x1, b1, hT1, f1, hI1⟩ := Law_int (L := L) (k := k) (c := c) (m := m) hn hG hT hI hk (by omega) (by omega)
  refine ⟨L, I1, P1, a1, v, s1, r1, x1, ?_, rfl, ⟨Nat.le_refl _, Nat.le_succ _⟩, hT1, FL_N f1, hI1⟩
  rw [B127_353, nI_1, e1, K2_i, B127_364, e2', K2_i, B127_372, b1, K2_i, B127_375, ck_of (by decide)]
theorem Act3 {u1 u2 u3 u4 u6 u8 u9 u10 u11 u12 u13 u14 : Option Value} (hn : 3 ≤ n) (hT : TT n g e Z P o0 o1 I) (hI : Iv g e P a v s r x) : Ok n g e Z o0 o1 L I (E 127 376 [some (.ref 1), u1, u2, u3, u4, some (.int (nI v)), u6, some (.int (P.2.2.1 0 + P.2.2.1 1)), u8, u9, u10, u11, u12, u13, u14] [] (GG L) I) := by
  obtain ⟨hw, h⟩ := id hI
  obtain ⟨I1, P1, b1, hT1, f1, hI1, e1⟩ := G_start (L := L) hn hT h.2.2
  refine ⟨L, I1, P1, a, v, s, r, x, ?_, rfl, ⟨Nat.le_refl _, Nat.le_succ _⟩, hT1, FL_N f1, hI1⟩
  rw [B127_376, G_s1 hT h, K2_i, B127_381, G_s3 hT h, K2_i, B127_388, b1, K2_i, B127_394, if_pos rfl, G_s3 hT1 hI1.2, K2_i, B127_404, if_pos rfl, G_s2 hT1 hI1.2, K2_i, B127_414, if_pos rfl, Q_s10 hT1.2.1, K2_i, B127_425, if_pos (by rw [e1])]
theorem Act4 {u1 u2 u5 u8 u9 u10 u11 u12 u13 u14 : Option Value} {k : Nat} {z : Int32} (hn : 3 ≤ n) (hG : Gk g e) (hT : TT n g e Z P o0 o1 I) (hI : Iv g e P a v s r x) (hk : k < 3) : Ok n g e Z o0 o1 L I (E 127 436 [some (.ref 1), u1, u2, some (.int z), some (.int (nI k)), u5, some (.int (nI (g v k))), some (.int (P.2.2.1 0 + P.2.2.1 1)), u8, u9, u10, u11, u12, u13, u14] [] (GG L) I) := by
  obtain ⟨hw, h⟩ := id hI
  have ha := h.1.2.2.2.2.1
  have hv3 := h.1.2.2.2.2.2.1
  have hs := h.1.2.2.2.2.2.2.1
  have hr := h.1.2.2.2.2.2.2.2
  have hgk := (hG v k hv3 hk).1
  have hx := Iv_x hG h
  have hxk := hx k hk
  obtain ⟨c, hc, e1⟩ := U_up (L := L) (M := g v k + 1) (x := z) (I := I) (by omega) (by omega)
  obtain ⟨I1, b1, hT1, f1⟩ := C_set (L := L) (k := k) (c := c) hT hw h.1 (by omega) hx h.2.1 hk (by omega)
  have hW := ch_W (k := k) (c := c) h
  have hN : chN e P v r x k c = chT e v r x k c := by rw [chN_eq, hw]; rfl
  rw [hN] at b1 hW
  have b0 := B127_436 (L := L) (u1 := u1) (u2 := u2) (x3 := z) (x4 := nI k) (u5 := u5) (x6 := nI (g v k)) (x7 := P.2.2.1 0 + P.2.2.1 1) (u8 := u8) (u9 := u9) (u10 := u10) (u11 := u11) (u12 := u12) (u13 := u13) (u14 := u14) (I := I)
  have hnext : (48 : Int32) - 3 * nI (15 - r) = nI (3 + 3 * r) := by
    rw [show (48 : Int32) = nI 48 from rfl, show (3 : Int32) = nI 3 from rfl, nI_mul, nI_sub (by omega), show 48 - 3 * (15 - r) = 3 + 3 * r by omega]
  rw [nI_1, e1, K2_i, B127_444, G_get hn hT hw h hk, K2_i, B127_452, G_s4 hT h, K2_i, B127_459, hnext, G_s1 hT h, K2_i, B127_475, G_s3 hT h, K2_i, B127_482, b1, K2_i, B127_492] at b0
  by_cases hxc : x k = c
  · -- the same value
    obtain ⟨c1, c2, c3⟩ := ch_same (e := e) (P := P) (a := a) (v := v) (s := s) (r := r) hxc
    rw [c1] at hT1 hW
    rw [c2] at b0 hW
    refine ⟨L, I1, P, a, v, s, r, x, ?_, rfl, ⟨Nat.le_refl _, Nat.le_succ _⟩, hT1, FL_N f1, hI⟩
    rw [b0, G_get hn hT1 hw h hk, K2_i, B127_500, if_pos (by rw [hxc]), Q_s10 hT1.2.1, K2_i, B127_511, if_pos hW, if_pos (by rw [hxc]), if_pos (show nI 0 = (0 : Int32) from rfl), G_s4 hT1 h, K2_i, B127_538, if_pos rfl]
  · have hne : ¬ nI c = nI (x k) := fun q => hxc ((nI_eq (by omega) (by omega)).mp q).symm
    by_cases hr15 : r < 15
    · have c2 : chT e v r x k c = 3 := (if_neg hxc).trans (if_pos hr15)
      obtain ⟨q1, q2, q3, q4⟩ := ch_rec h hk (by omega) hxc hr15 (by rw [hw]; exact fun q => by cases q)
      obtain ⟨t0, t1, -, -⟩ := rcl_at (3 + 3 * r) k c v (P.2.2.2.2.1 a)
      have hw1 : (chS e P a v s r x k c).1 = some none := by rw [q1, hw]; rfl
      have hC0 : (chS e P a v s r x k c).2.2.2.2.1 a (3 + 3 * r) = nI (k + 1) := by rw [q3, up_s, t0]
      have hC1 : (chS e P a v s r x k c).2.2.2.2.1 a (3 + 3 * r + 1) = nI c := by rw [q3, up_s, t1]
      have hQk : (chS e P a v s r x k c).2.2.2.2.2.2 k = nI (3 + 3 * r) := by rw [q4, up_s]
      rw [c2] at b0 hW
      refine ⟨L, I1, _, a, v, s, r + 1, up x k c, ?_, rfl, ⟨Nat.le_refl _, Nat.le_succ _⟩, hT1, FL_N f1, ⟨hw1, q2⟩⟩
      rw [b0, G_get hn hT1 hw1 q2 hk, up_s, K2_i, B127_500, if_pos rfl, Q_s10 hT1.2.1, K2_i, B127_511, if_pos hW, if_neg hne, if_neg (nI_nle (by omega) (by omega)), if_pos (show nI 3 = (3 : Int32) from rfl), G_s4 hT1 q2, K2_i, B127_565, if_pos (by rw [show 15 - r = (15 - (r + 1)) + 1 by omega, nI_pred]), G_rec hn hT1 hw1 q2 hk, K2_i, B127_578, if_pos hQk, Q_cell hT1.2.1 ha (by omega), K2_i, B127_591, hC0, if_pos (by rw [← nI_1, Int32.add_comm]), nI_1, Q_cell hT1.2.1 ha (by omega), K2_i, B127_608, hC1, if_pos rfl, G_s1 hT1 q2, K2_i, B127_618, if_pos rfl]
    · have c2 : chT e v r x k c = 3 * (fls e v (up x k c) 3).2 + 3 := (if_neg hxc).trans (if_neg hr15)
      obtain ⟨q1, q2⟩ := ch_fill (k := k) (c := c) hG h (by omega) hxc hr15 (by rw [hw]; exact fun q => by cases q)
      have hw1 : (chS e P a v s r x k c).1 = some none := by rw [q1, hw]; rfl
      have hle := (fls_le e v (up x k c) 3).1
      rw [c2] at b0 hW
      refine ⟨L, I1, _, 1 - a, v, (s + 1) % 200, _, up x k c, ?_, rfl, ⟨Nat.le_refl _, Nat.le_succ _⟩, hT1, FL_N f1, ⟨hw1, q2⟩⟩
      rw [b0, G_get hn hT1 hw1 q2 hk, up_s, K2_i, B127_500, if_pos rfl, Q_s10 hT1.2.1, K2_i, B127_511, if_pos hW, if_neg hne, if_pos (show nI (15 - r) ≤ 0 by rw [show 15 - r = 0 by omega]; decide), G_s7 hn hG hT1 q2, K2_i, B127_639, if_pos (by rw [due3, Nat.add_comm]), G_s1 hT1 q2, K2_i, B127_649, if_pos (sub1 ha).symm, G_s3 hT1 q2, K2_i, B127_661, if_pos (seq1 hs).symm, G_s4 hT1 q2, K2_i, B127_677, G_s7 hn hG hT1 q2, K2_i, B127_685, if_pos (by rw [show (15 : Int32) = nI 15 from rfl, nI_sub (by omega)])]
/-- what a migration would give, noted -/
theorem Act1_note {u1 u2 u3 u4 u5 u6 u11 u12 u13 u14 : Option Value} {x7 : Int32} {t p : Nat} (hp : kd (GG L) p = 50) (lp : ln (GG L) p = 3) (hp9 : 119 ≤ p) (hG : Gk g e) (hw : P.1 = some none) (h : Iw g e P a v s r x) (hvt : v < t) (ht : t < n) (ht3 : t < 3) : ∀ (m k : Nat) {I : It}, m + k = 3 → TT n g e Z P o0 o1 I → (∀ j, j < k → I p j = nI (mgs Z v x (t - v) j)) →
    ∃ I', E 127 227 [some (.ref 1), u1, u2, u3, u4, u5, u6, some (.int x7), some (.int (nI t)), some (.ref p), some (.int (nI k)), u11, u12, u13, u14] [] (GG L) I = E 127 227 [some (.ref 1), u1, u2, u3, u4, u5, u6, some (.int x7), some (.int (nI t)), some (.ref p), some (.int (nI 3)), u11, u12, u13, u14] [] (GG L) I' ∧ TT n g e Z P o0 o1 I' ∧ (∀ b, b < 9 ∨ 119 ≤ b → b ≠ p → I' b = I b) ∧ ∀ j, j < 3 → I' p j = nI (mgs Z v x (t - v) j) := by
  intro m
  induction m with
  | zero =>
    intro k I hm hT hj
    have hk : k = 3 := by omega
    subst hk
    exact ⟨I, rfl, hT, fun _ _ _ => rfl, hj⟩
  | succ m ih =>
    intro k I hm hT hj
    have hk : k < 3 := by omega
    obtain ⟨I1, a1, hT1, f1⟩ := C_ifm (L := L) (t := t) hT hw h.1 (Iv_x hG h) h.2.1 hvt ht ht3 hk
    have hT2 : TT n g e Z P o0 o1 (uI I1 p k (nI (mgs Z v x (t - v) k))) := TT_u hT1 hp9
    obtain ⟨I', b1, b2, b3, b4⟩ := ih (k + 1) (by omega) hT2 (fun j hjk => by
      by_cases z : j = k
      · subst z; rw [uI_s]
      · rw [uI_k _ _ _ _ _ z, f1 p (Or.inr hp9)]; exact hj j (by omega))
    refine ⟨I', ?_, b2, fun b hb hbp => by rw [b3 b hb hbp, uI_o _ _ _ _ _ hbp, f1 b hb], b4⟩
    rw [← b1, B127_227 hp lp, if_neg (show ¬ (3 : Int32) ≤ nI k from nI_ge (a := k) (b := 3) hk (by decide)), a1, K2_i, B127_245 hp lp hp lp, ck_of (inb_nI hk (by decide)), ix_nI (by omega), nI_1]
theorem Act1_cmp {u1 u2 u3 u4 u5 u6 u12 u13 u14 : Option Value} {x7 x10 : Int32} {t p : Nat} (hp : kd (GG L) p = 50) (lp : ln (GG L) p = 3) (hn : 3 ≤ n) (hG : Gk g e) (hT : TT n g e Z P o0 o1 I) (hw : P.1 = some none) (h : Iw g e P a t s r x) (hj : ∀ j, j < 3 → I p j = nI (x j)) : ∀ (m k : Nat), m + k = 3 → E 127 263 [some (.ref 1), u1, u2, u3, u4, u5, u6, some (.int x7), some (.int (nI t)), some (.ref p), some (.int x10), some (.int (nI k)), u12, u13, u14] [] (GG L) I = E 127 263 [some (.ref 1), u1, u2, u3, u4, u5, u6, some (.int x7), some (.int (nI t)), some (.ref p), some (.int x10), some (.int (nI 3)), u12, u13, u14] [] (GG L) I := by
  intro m
  induction m with
  | zero =>
    intro k hm
    have hk : k = 3 := by omega
    subst hk
    rfl
  | succ m ih =>
    intro k hm
    have hk : k < 3 := by omega
    have h1 := ih (k + 1) (by omega)
    have ht3 := h.1.2.2.2.2.2.1
    have hxg := h.2.2.2.2.2.2.2.2.2 k hk
    have hgk := (hG t k ht3 hk).1
    rw [← h1, B127_263 hp lp, if_neg (show ¬ (3 : Int32) ≤ nI k from nI_ge (a := k) (b := 3) hk (by decide)), G_get hn hT hw h hk, K2_i, B127_275 hp lp, ck_of (inb_nI hk (by decide)), ix_nI (by omega), hj k hk, if_pos rfl, ck_of (inb_nI hk (by decide)), G_l0 hn hT ht3 hk, K2_i, B127_297 hp lp, if_pos (nI_le hxg (by omega)), nI_1]
theorem Act1 {u1 u2 u4 u6 u8 u9 u10 u11 u12 u13 u14 : Option Value} {z : Int32} (hn : n = 3) (hG : Gk g e) (hT : TT n g e Z P o0 o1 I) (hI : Iv g e P a v s r x) : Ok n g e Z o0 o1 L I (E 127 166 [some (.ref 1), u1, u2, some (.int z), u4, some (.int (nI v)), u6, some (.int (P.2.2.1 0 + P.2.2.1 1)), u8, u9, u10, u11, u12, u13, u14] [] (GG L) I) := by
  obtain ⟨hw, h⟩ := id hI
  have hn3 : 3 ≤ n := by omega
  have hv3 := h.1.2.2.2.2.2.1
  have b0 := B127_166 (L := L) (u1 := u1) (u2 := u2) (x3 := z) (u4 := u4) (x5 := nI v) (u6 := u6) (x7 := P.2.2.1 0 + P.2.2.1 1) (u8 := u8) (u9 := u9) (u10 := u10) (u11 := u11) (u12 := u12) (u13 := u13) (u14 := u14) (I := I)
  rw [nI_1, Q_s8 hT.1, K2_i, B127_180] at b0
  have ref : ∀ {u8' : Int32}, K2 127 197 [some (.ref 1), u1, u2, some (.int z), u4, some (.int (nI v)), u6, some (.int (P.2.2.1 0 + P.2.2.1 1)), some (.int u8'), u9, u10, u11, u12, u13, u14] [] (E 101 0 [some (.ref 1), some (.int (nI v))] [] (GG L) I) = some (some (.int 1), GG L, I) := by
    intro u8'
    rw [C_migrate2 hT.1 hT.2.1 hw h.1 (by omega) (Nat.le_refl _), K2_i, B127_197, if_pos rfl, Q_s10 hT.2.1, K2_i, B127_208, if_pos rfl]
  by_cases q : nI n ≤ nI (v + 1)
  · rw [if_pos q, ref] at b0
    exact ⟨L, I, P, a, v, s, r, x, b0, rfl, ⟨Nat.le_refl _, Nat.le_succ _⟩, hT, FL_r L I, hI⟩
  · rw [if_neg q] at b0
    have hvt : v + 1 < n := by
      by_cases z : v + 1 < n
      · exact z
      · exact absurd (nI_le (by omega) (by omega)) q
    obtain ⟨u, hu, e1⟩ := U_up (L := L) (M := 3) (x := z) (I := I) (by decide) (by decide)
    have e1' : E 123 0 [some (.int z), some (.int 3)] [] (GG L) I = some (some (.int (nI u)), GG L, I) := e1
    rw [e1', K2_i, B127_188] at b0
    by_cases hu0 : nI u ≤ 0
    · rw [if_pos hu0, GG_n] at b0
      have k1 : kd (GG (dn L)) (119 + L.2) = 50 := GG_xk _ (by omega) (by rw [dn2]; omega)
      have l1 : ln (GG (dn L)) (119 + L.2) = 3 := GG_xl _ (by omega) (by rw [dn2]; omega)
      have hT0 : TT n g e Z P o0 o1 (nI0 (GG L) I) := TT_new hT
      rw [B127_222 k1 l1] at b0
      obtain ⟨I1, c1, hT1, f1, hj1⟩ := Act1_note (L := dn L) (u1 := u1) (u2 := u2) (u3 := some (.int z)) (u4 := u4) (u5 := some (.int (nI v))) (u6 := u6) (u11 := u11) (u12 := u12) (u13 := u13) (u14 := u14) (x7 := P.2.2.1 0 + P.2.2.1 1) (t := v + 1) k1 l1 (by omega) hG hw h (Nat.lt_succ_self _) hvt (by omega) 3 0 rfl hT0 (fun j hj => absurd hj (Nat.not_lt_zero _))
      have b1 := b0.trans c1
      have hy : ∀ k, k < 3 → mgs Z v x (v + 1 - v) k ≤ g (v + 1) k := by
        have := mgs_le (x := x) hT.1 h.2.2.2.2.2.2.2.2.2 1 hvt (by omega)
        rw [show v + 1 - v = 1 by omega]
        exact this
      obtain ⟨q1, q2, q3, -⟩ := fill_all hG hI (show v + 1 < 3 by omega) hy
      obtain ⟨I2, c2, hT2, f2⟩ := C_migrate (L := dn L) (t := v + 1) hT1 hw h.1 (by omega) (Iv_x hG h) h.2.1 (Nat.lt_succ_self _) hvt (by omega)
      rw [q2] at c2
      have c3 := Act1_cmp (L := dn L) (u1 := u1) (u2 := u2) (u3 := some (.int z)) (u4 := u4) (u5 := some (.int (nI v))) (u6 := u6) (u12 := u12) (u13 := u13) (u14 := u14) (x7 := P.2.2.1 0 + P.2.2.1 1) (x10 := nI (3 + 3 * (fls e (v + 1) (mgs Z v x (v + 1 - v)) 3).2)) k1 l1 hn3 hG hT2 q1.1 q1.2 (fun j hj => by rw [f2 _ (Or.inr (by omega))]; exact hj1 j hj) 3 0 rfl
      have c3' : E 127 263 [some (.ref 1), u1, u2, some (.int z), u4, some (.int (nI v)), u6, some (.int (P.2.2.1 0 + P.2.2.1 1)), some (.int (nI (v + 1))), some (.ref (119 + L.2)), some (.int (nI (3 + 3 * (fls e (v + 1) (mgs Z v x (v + 1 - v)) 3).2))), some (.int 0), u12, u13, u14] [] (GG (dn L)) I2 = _ := c3
      rw [B127_227 k1 l1, if_pos (by decide), c2, K2_i, B127_258 k1 l1, c3', B127_263 k1 l1, if_pos (by decide), G_s2 hT2 q1.2, K2_i, B127_313, if_pos rfl, G_s7 hn3 hG hT2 q1.2, K2_i, B127_328, if_pos (due3 _).symm, Q_s10 hT2.2.1, K2_i, B127_339, if_pos q3] at b1
      refine ⟨dn L, I2, _, 1 - a, v + 1, (s + 1) % 200, _, _, b1, rfl, by rw [dn2]; omega, hT2, ?_, q1⟩
      exact FL_tr (FL_new L I) (FL_tr (fun b hb => f1 b (by omega) (by omega)) (FL_N f2))
    · rw [if_neg hu0, ref] at b0
      exact ⟨L, I, P, a, v, s, r, x, b0, rfl, ⟨Nat.le_refl _, Nat.le_succ _⟩, hT, FL_r L I, hI⟩
/-- one of the twenty-four things -/
theorem Law_act {y1 y2 y3 : Int32} (hn : n = 3) (hG : Gk g e) (hT : TT n g e Z P o0 o1 I) (hI : Iv g e P a v s r x) : Ok n g e Z o0 o1 L I (E 127 0 [some (.ref 1), some (.int y1), some (.int y2), some (.int y3), none, none, none, none, none, none, none, none, none, none, none] [] (GG L) I) := by
  obtain ⟨hw, h⟩ := id hI
  have hn3 : 3 ≤ n := by omega
  have hv3 := h.1.2.2.2.2.2.1
  obtain ⟨k, hk, e1⟩ := U_up (L := L) (M := 3) (x := y2) (I := I) (by decide) (by decide)
  have e1' : E 123 0 [some (.int y2), some (.int 3)] [] (GG L) I = some (some (.int (nI k)), GG L, I) := e1
  obtain ⟨u, hu, e2⟩ := U_up (L := L) (M := 8) (x := y1) (I := I) (by decide) (by decide)
  have e2' : E 123 0 [some (.int y1), some (.int 8)] [] (GG L) I = some (some (.int (nI u)), GG L, I) := e2
  have b0 := B127_0 (L := L) (x1 := y1) (x2 := y2) (x3 := y3) (I := I)
  rw [e1', K2_i, B127_5, G_s2 hT h, K2_i, B127_12, G_l0 hn3 hT hv3 hk, K2_i, B127_23, Q_s10 hT.2.1, K2_i, B127_31, e2', K2_i, B127_39] at b0
  rw [b0]
  have : u = 0 ∨ u = 1 ∨ u = 2 ∨ u = 3 ∨ u = 4 ∨ u = 5 ∨ u = 6 ∨ u = 7 := by omega
  rcases this with rfl | rfl | rfl | rfl | rfl | rfl | rfl | rfl
  · rw [show swt (nI 0 : Int32).toInt 0 [68, 166, 353, 376] 436 = 68 from rfl]; exact Act0 hn3 hG hT hI
  · rw [show swt (nI 1 : Int32).toInt 0 [68, 166, 353, 376] 436 = 166 from rfl]; exact Act1 hn hG hT hI
  · rw [show swt (nI 2 : Int32).toInt 0 [68, 166, 353, 376] 436 = 353 from rfl]; exact Act2 hn3 hG hT hI hk
  · rw [show swt (nI 3 : Int32).toInt 0 [68, 166, 353, 376] 436 = 376 from rfl]; exact Act3 hn3 hT hI
  · rw [show swt (nI 4 : Int32).toInt 0 [68, 166, 353, 376] 436 = 436 from rfl]; exact Act4 hn3 hG hT hI hk
  · rw [show swt (nI 5 : Int32).toInt 0 [68, 166, 353, 376] 436 = 436 from rfl]; exact Act4 hn3 hG hT hI hk
  · rw [show swt (nI 6 : Int32).toInt 0 [68, 166, 353, 376] 436 = 436 from rfl]; exact Act4 hn3 hG hT hI hk
  · rw [show swt (nI 7 : Int32).toInt 0 [68, 166, 353, 376] 436 = 436 from rfl]; exact Act4 hn3 hG hT hI hk
end AC
