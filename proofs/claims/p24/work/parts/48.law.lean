/-! ===== p24: the law ===== -/
theorem lgp : ∀ k, k < 3 → (11008 : Int64) ||| ((97 + nI k) : Int32).toInt64 = lN (vr [43, 97 + k].reverse) := by decide +kernel
theorem Ch_cons {c : Nat} {t : List Nat} (h : 33 ≤ c ∧ c ≤ 126) (ht : Ch t) : Ch (c :: t) := fun x hx => by
  rcases List.mem_cons.mp hx with q | q
  · rw [q]; exact h
  · exact ht x q
section LW
variable {L : Nat × Nat} {I : It}
theorem U_cell {k : Nat} (hL : L.1 < 2 ^ 31) (hk : k < 2 ^ 31) : ∃ y, E 122 0 [some (.ref 0), some (.int (nI k))] [] (GG L) I = some (some (.int y), GG L, I) := by
  rw [B122_0]
  by_cases q : (Int32.ofNat L.1) ≤ nI k
  · rw [if_pos q]; exact ⟨_, rfl⟩
  · rw [if_neg q]
    have hlt : k < L.1 := by
      by_cases z : k < L.1
      · exact z
      · exact absurd (show nI L.1 ≤ nI k from nI_le (by omega) hk) q
    rw [ck_of (inb_nI hlt hL)]
    exact ⟨_, rfl⟩
/-- one setting of the first text -/
theorem Tx_it {t : List Nat} {k : Nat} {x2 x3 : Int32} (hk : k < 3) (hl : t.length + 12 ≤ 80) (h : Pd t I) : ∃ I' gk dk, 9 ≤ gk ∧ gk < 200 ∧ dk < 10 ∧ K2 135 72 [some (.ref 0), some (.ref 1), some (.int x2), some (.int x3), some (.int (nI k))] [] (E 110 0 [some (.ref 1), some (.long (11008 ||| ((97 + nI k) : Int32).toInt64)), none] [] (GG L) I) = E 135 39 [some (.ref 0), some (.ref 1), some (.int x2), some (.int x3), some (.int (nI (k + 1)))] [] (GG L) I' ∧ Pd (t ++ [43, 97 + k] ++ dg gk ++ [61] ++ dg dk) I' ∧ FP I I' := by
  have c2 : Ch [43, 97 + k] := Ch_cons (by decide) (Ch_cons (by omega) (fun c hc => by cases hc))
  obtain ⟨I1, a1, d1, f1⟩ := T_put (L := L) (s := [43, 97 + k]) c2 (Nat.succ_pos _) (show 2 ≤ 8 by decide) (show t.length + 2 ≤ 80 by omega) h
  obtain ⟨u, hu, e1⟩ := U_up (L := L) (M := 190) (x := x3 >>> (((3 * nI k) : Int32) &&& 31)) (I := I1) (by decide) (by decide)
  have e1' : E 123 0 [some (.int (x3 >>> (((3 * nI k) : Int32) &&& 31))), some (.int 190)] [] (GG L) I1 = some (some (.int (nI u)), GG L, I1) := e1
  have l1 : (t ++ [43, 97 + k]).length = t.length + 2 := by rw [List.length_append]; rfl
  obtain ⟨I2, a2, d2, f2⟩ := T_num (L := L) (v := 9 + u) (by omega) (by rw [l1]; omega) d1
  have hd := dg_le (v := 9 + u)
  have l2 : (t ++ [43, 97 + k] ++ dg (9 + u)).length ≤ t.length + 5 := by rw [List.length_append, l1]; omega
  obtain ⟨I3, a3, d3, f3⟩ := T_put (L := L) (s := [61]) (Ch_cons (by decide) (fun c hc => by cases hc)) (Nat.succ_pos _) (show 1 ≤ 8 by decide) (show (t ++ [43, 97 + k] ++ dg (9 + u)).length + 1 ≤ 80 by omega) d2
  have a3' : E 110 0 [some (.ref 1), some (.long 61), none] [] (GG L) I2 = _ := a3
  obtain ⟨d, hd10, e2⟩ := U_up (L := L) (M := 10) (x := x3 >>> (((5 * nI k) : Int32) &&& 31)) (I := I3) (by decide) (by decide)
  have e2' : E 123 0 [some (.int (x3 >>> (((5 * nI k) : Int32) &&& 31))), some (.int 10)] [] (GG L) I3 = some (some (.int (nI d)), GG L, I3) := e2
  have l3 : (t ++ [43, 97 + k] ++ dg (9 + u) ++ [61]).length ≤ t.length + 6 := by rw [List.length_append]; show _ + 1 ≤ _; omega
  obtain ⟨I4, a4, d4, f4⟩ := T_num (L := L) (v := d) (by omega) (show (t ++ [43, 97 + k] ++ dg (9 + u) ++ [61]).length + 3 ≤ 80 by omega) d3
  refine ⟨I4, 9 + u, d, by omega, by omega, hd10, ?_, d4, FP_tr f1 (FP_tr f2 (FP_tr f3 f4))⟩
  rw [lgp k hk, a1, K2_i, B135_72, e1', K2_i, B135_88, show (9 : Int32) + nI u = nI (9 + u) from nI_add 9 u, a2, K2_v, B135_92, a3', K2_i, B135_99, e2', K2_i, B135_112, a4, K2_v, B135_115, nI_1]
/-- the first text -/
theorem Law_text {x2 x3 : Int32} (h : Pd [] I) : ∃ I' gg dd, (∀ k, k < 3 → gg k < 256) ∧ (∀ k, k < 3 → dd k ≤ gg k) ∧ E 135 39 [some (.ref 0), some (.ref 1), some (.int x2), some (.int x3), some (.int 0)] [] (GG L) I = E 135 39 [some (.ref 0), some (.ref 1), some (.int x2), some (.int x3), some (.int (nI 3))] [] (GG L) I' ∧ Pd (tx0 gg dd) I' ∧ FP I I' := by
  have hd : ∀ v, (dg v).length ≤ 3 := fun v => dg_le
  obtain ⟨I1, g0, d0, p1, p2, p3, a1, t1, f1⟩ := Tx_it (L := L) (k := 0) (x2 := x2) (x3 := x3) (by decide) (by decide) h
  obtain ⟨s1, hs1⟩ : ∃ s1, [] ++ [43, 97 + 0] ++ dg g0 ++ [61] ++ dg d0 = s1 := ⟨_, rfl⟩
  have n1 : s1.length ≤ 10 := by
    rw [← hs1]
    simp only [List.length_append, List.length_cons, List.length_nil]
    have := hd g0; have := hd d0; omega
  rw [hs1] at t1
  obtain ⟨I2, a2, t2, f2⟩ := T_put (L := L) (s := [44]) (Ch_cons (by decide) (fun c hc => by cases hc)) (Nat.succ_pos _) (show 1 ≤ 8 by decide) (show s1.length + 1 ≤ 80 by omega) t1
  have a2' : E 110 0 [some (.ref 1), some (.long 44), none] [] (GG L) I1 = _ := a2
  have m2 : (s1 ++ [44]).length = s1.length + 1 := by rw [List.length_append]; rfl
  obtain ⟨I3, g1, d1, q1, q2, q3, a3, t3, f3⟩ := Tx_it (L := L) (k := 1) (x2 := x2) (x3 := x3) (by decide) (by rw [m2]; omega) t2
  obtain ⟨s2, hs2⟩ : ∃ s2, s1 ++ [44] ++ [43, 97 + 1] ++ dg g1 ++ [61] ++ dg d1 = s2 := ⟨_, rfl⟩
  have n2 : s2.length ≤ 25 := by
    rw [← hs2]
    simp only [List.length_append, List.length_cons, List.length_nil]
    have := hd g1; have := hd d1; omega
  rw [hs2] at t3
  obtain ⟨I4, a4, t4, f4⟩ := T_put (L := L) (s := [44]) (Ch_cons (by decide) (fun c hc => by cases hc)) (Nat.succ_pos _) (show 1 ≤ 8 by decide) (show s2.length + 1 ≤ 80 by omega) t3
  have a4' : E 110 0 [some (.ref 1), some (.long 44), none] [] (GG L) I3 = _ := a4
  have m4 : (s2 ++ [44]).length = s2.length + 1 := by rw [List.length_append]; rfl
  obtain ⟨I5, g2, d2, r1, r2, r3, a5, t5, f5⟩ := Tx_it (L := L) (k := 2) (x2 := x2) (x3 := x3) (by decide) (by rw [m4]; omega) t4
  have k1 : E 135 39 [some (.ref 0), some (.ref 1), some (.int x2), some (.int x3), some (.int (nI 1))] [] (GG L) I1 = E 135 39 [some (.ref 0), some (.ref 1), some (.int x2), some (.int x3), some (.int (nI 2))] [] (GG L) I3 := by
    rw [B135_39, if_neg (by decide), if_neg (by decide), a2', K2_i, B135_57, a3]
  have k2 : E 135 39 [some (.ref 0), some (.ref 1), some (.int x2), some (.int x3), some (.int (nI 2))] [] (GG L) I3 = E 135 39 [some (.ref 0), some (.ref 1), some (.int x2), some (.int x3), some (.int (nI 3))] [] (GG L) I5 := by
    rw [B135_39, if_neg (by decide), if_neg (by decide), a4', K2_i, B135_57, a5]
  refine ⟨I5, fun i => if i = 0 then g0 else if i = 1 then g1 else g2, fun i => if i = 0 then d0 else if i = 1 then d1 else d2, fun k hk => ?_, fun k hk => ?_, ?_, ?_, FP_tr f1 (FP_tr f2 (FP_tr f3 (FP_tr f4 f5)))⟩
  · have : k = 0 ∨ k = 1 ∨ k = 2 := by omega
    rcases this with rfl | rfl | rfl
    · show g0 < 256; omega
    · show g1 < 256; omega
    · show g2 < 256; omega
  · have : k = 0 ∨ k = 1 ∨ k = 2 := by omega
    rcases this with rfl | rfl | rfl
    · show d0 ≤ g0; omega
    · show d1 ≤ g1; omega
    · show d2 ≤ g2; omega
  · rw [B135_39, if_neg (by decide), if_pos (by decide)]
    exact Eq.trans a1 (k1.trans k2)
  · have e : s2 ++ [44] ++ [43, 97 + 2] ++ dg g2 ++ [61] ++ dg d2 = tx0 (fun i => if i = 0 then g0 else if i = 1 then g1 else g2) (fun i => if i = 0 then d0 else if i = 1 then d1 else d2) := by
      rw [← hs2, ← hs1]
      unfold tx0
      simp [List.append_assoc]
    rw [← e]; exact t5
theorem tx0_Ch {gg dd : Nat → Nat} (hg : ∀ k, k < 3 → gg k < 256) (hd : ∀ k, k < 3 → dd k < 256) : Ch (tx0 gg dd) := by
  unfold tx0
  have c0 : Ch [] := fun c hc => by cases hc
  exact Ch_cons (by decide) (Ch_cons (by decide) (Ch_app (dg_Ch (hg 0 (by decide))) (Ch_cons (by decide) (Ch_app (dg_Ch (hd 0 (by decide))) (Ch_cons (by decide) (Ch_cons (by decide) (Ch_cons (by decide) (Ch_app (dg_Ch (hg 1 (by decide))) (Ch_cons (by decide) (Ch_app (dg_Ch (hd 1 (by decide))) (Ch_cons (by decide) (Ch_cons (by decide) (Ch_cons (by decide) (Ch_app (dg_Ch (hg 2 (by decide))) (Ch_cons (by decide) (Ch_app (dg_Ch (hd 2 (by decide))) c0))))))))))))))))
/-- the twenty-four things -/
theorem Acts {g e Z : Nat → Nat → Nat} {o0 o1 : Option Pc} (hG : Gk g e) : ∀ (m k q : Nat) {L : Nat × Nat} {I : It} {P : Pc} {a v s r : Nat} {x : Nat → Nat} {u3 : Option Value}, m + k = 24 → q + 3 * m < 1000 → isJ (some u3) = false → L.1 < 2 ^ 31 → TT 3 g e Z P o0 o1 I → Iv g e P a v s r x → Pd [] I →
    ∃ L' I' P' a' v' s' r' x' q' u3', E 135 193 [some (.ref 0), some (.ref 1), some (.int (nI q)), u3, some (.int (nI k))] [] (GG L) I = E 135 193 [some (.ref 0), some (.ref 1), some (.int (nI q')), u3', some (.int (nI 24))] [] (GG L') I' ∧ q' ≤ q + 3 * m ∧ L'.1 = L.1 ∧ L'.2 ≤ L.2 + m ∧ TT 3 g e Z P' o0 o1 I' ∧ Iv g e P' a' v' s' r' x' ∧ Pd [] I' := by
  intro m
  induction m with
  | zero =>
    intro k q L I P a v s r x u3 hm hq hu hL hT hI hP
    have hk : k = 24 := by omega
    subst hk
    exact ⟨L, I, P, a, v, s, r, x, q, u3, rfl, by omega, rfl, by omega, hT, hI, hP⟩
  | succ m ih =>
    intro k q L I P a v s r x u3 hm hq hu hL hT hI hP
    obtain ⟨y1, e1⟩ := U_cell (L := L) (I := I) (k := q) hL (by omega)
    obtain ⟨y2, e2⟩ := U_cell (L := L) (I := I) (k := q + 1) hL (by omega)
    obtain ⟨y3, e3⟩ := U_cell (L := L) (I := I) (k := q + 2) hL (by omega)
    obtain ⟨L1, I1, P1, a1, v1, s1, r1, x1, c1, c2, ⟨-, c3⟩, c4, c5, c6⟩ := Law_act (L := L) (y1 := y1) (y2 := y2) (y3 := y3) rfl hG hT hI
    have st := Law_stands (L := L1) (by decide) hG c4 c6
    obtain ⟨L', I', P', a', v', s', r', x', q', u3', d1, d2, d3, d4, d5, d6, d7⟩ := ih (k + 1) (q + 3) (u3 := some (.int y1)) (by omega) (by omega) rfl (by rw [c2]; exact hL) c4 c6 (Pd_L hP c5)
    refine ⟨L', I', P', a', v', s', r', x', q', u3', ?_, by omega, d3.trans c2, by omega, d5, d6, d7⟩
    rw [← d1, B135_193, if_neg (show ¬ (24 : Int32) ≤ nI k from nI_ge (a := k) (b := 24) (by omega) (by decide)), nI_1, e1, K2_i, B135_208, nI_1, e2, K2_i, B135_219, nI_1, e3, K2_i, B135_227, c1, K2_i, B135_230, if_neg (by decide), st, K2_i, B135_237 rfl, if_neg (by decide), nI_1]
/-- the law -/
theorem Law_all (hL : L.1 ≤ 260) (h0 : L.2 = 0) {u1 u2 u3 u4 : Option Value} (hB : Bt I) : ∃ L' I', E 135 7 [some (.ref 0), u1, u2, u3, u4] [.ref 1] (GG L) I = some (some (.int 1), GG L', I') ∧ L'.1 = L.1 ∧ L'.2 ≤ 40 := by
  have hL31 : L.1 < 2 ^ 31 := by omega
  obtain ⟨hT0, hP0⟩ := TT_00 hB (fun _ _ => 0) (fun _ _ => 0) (fun _ _ => 0)
  obtain ⟨y0, c0⟩ := U_cell (L := L) (I := I) (k := 0) hL31 (by decide)
  have c0' : E 122 0 [some (.ref 0), some (.int 0)] [] (GG L) I = some (some (.int y0), GG L, I) := c0
  obtain ⟨I1, P1, a1, hT1, hw1, hP1, -⟩ := Law_refused (L := L) (y1 := y0) hT0 hP0
  obtain ⟨y1, c1⟩ := U_cell (L := L) (I := I1) (k := 1) hL31 (by decide)
  have c1' : E 122 0 [some (.ref 0), some (.int (0 + 1))] [] (GG L) I1 = some (some (.int y1), GG L, I1) := c1
  obtain ⟨I2, gg, dd, hgg, hdd, a2, hP2, f2⟩ := Law_text (L := L) (x2 := 0 + 1 + 1) (x3 := y1) hP1
  have hT2 := TT_low hT1 (I' := I2) (fun b hb => f2 b (by omega) (by omega))
  obtain ⟨I3, a3, hT3, hP3, -⟩ := C_def0 (L := L) hgg hdd (tx0_Ch hgg (fun k hk => by have := hgg k hk; have := hdd k hk; omega)) hT2 hP2
  obtain ⟨I4, a4, hT4, f4⟩ := C_factory (L := L) (t := 0) hT3 hw1 (by decide) (by decide)
  have a4' : E 102 0 [some (.ref 1), some (.int 0)] [] (GG L) I3 = some (some (.int 3), GG L, I4) := a4
  have s6 : E 106 0 [some (.ref 1), some (.int 6)] [] (GG L) I4 = some (some (.int 3), GG L, I4) := Q_s6 (v := 0) hT4.1 hT4.2.1 (by decide) (by decide) rfl
  have s7 : E 106 0 [some (.ref 1), some (.int 7)] [] (GG L) I4 = some (some (.int 0), GG L, I4) := by
    rw [Q_s7 (v := 0) (x := dd) hT4.1 hT4.2.1 (by decide) (by decide) rfl rfl (fun k hk => by have := hgg k hk; have := hdd k hk; omega)]
    have : (fls (fun _ => dd) 0 dd 3) = ([], 0) := fls_df (fun _ => dd) 0 3
    rw [this]; rfl
  obtain ⟨y2, c2⟩ := U_cell (L := L) (I := I4) (k := 2) hL31 (by decide)
  have c2' : E 122 0 [some (.ref 0), some (.int (0 + 1 + 1))] [] (GG L) I4 = some (some (.int y2), GG L, I4) := c2
  obtain ⟨I5, g5, e5, Z5, a5, hT5, hP5, -, ho5⟩ := Law_later (L := L) (y1 := y2) (w := 1) (by decide) (by decide) hT4 (Pd_N hP3 f4)
  obtain ⟨y3, c3⟩ := U_cell (L := L) (I := I5) (k := 3) hL31 (by decide)
  have c3' : E 122 0 [some (.ref 0), some (.int (0 + 1 + 1 + 1))] [] (GG L) I5 = some (some (.int y3), GG L, I5) := c3
  obtain ⟨I6, g6, e6, Z6, a6, hT6, hP6, -, ho6⟩ := Law_later (L := L) (y1 := y3) (w := 2) (by decide) (by decide) hT5 hP5
  have hG : Gk g6 e6 := fun v k hv hk => ((hT6.1.2.2.2 v hv hv).2.1 k hk).2.2
  have he0 : e6 0 = dd := (ho6 0 (by decide)).2.trans (ho5 0 (by decide)).2
  have hrs : rsS (fun _ => dd) P1 0 = rsS e6 P1 0 := by unfold rsS; rw [he0]
  rw [hrs] at hT6
  obtain ⟨hI6, -, -⟩ := reset_Iv (g := g6) (e := e6) hG hw1 (t := 0) (by decide)
  -- the twenty-four things
  obtain ⟨L7, I7, P7, p7, v7, s7', r7, x7, q7, u7, a7, hq7, m7, n7, hT7, hI7, hP7⟩ := Acts (L := L) (u3 := some (.int y1)) hG 24 0 4 rfl (by decide) rfl hL31 hT6 hI6 hP6
  have hL7 : L7.1 < 2 ^ 31 := by rw [m7]; exact hL31
  obtain ⟨I8, P8, a8, hT8, f8, hI8, -⟩ := Law_again (L := L7) (by decide) hT7 hI7
  obtain ⟨M, hM⟩ : ∃ M, dn (dn L7) = M := ⟨_, rfl⟩
  have hM1 : M.1 = L.1 := by rw [← hM]; exact m7
  have hM2 : M.2 = L7.2 + 2 := by rw [← hM]; rfl
  have hM31 : M.1 < 2 ^ 31 := by rw [hM1]; exact hL31
  rw [hM] at a8
  have hP8 := Pd_L hP7 f8
  obtain ⟨y8, c8⟩ := U_cell (L := M) (I := I8) (k := q7) hM31 (by omega)
  obtain ⟨I9, a9, hT9, f9⟩ := Law_spoils (L := M) (y1 := y8) (by decide) hG hT8 hI8
  obtain ⟨y9, c9⟩ := U_cell (L := M) (I := I9) (k := q7 + 1) hM31 (by omega)
  obtain ⟨K, I10, a10, k1, k2, hT10, f10⟩ := Law_moves (L := M) (y1 := y9) rfl hG hT9 hI8
  have hK31 : K.1 < 2 ^ 31 := by rw [k1, hM1]; exact hL31
  obtain ⟨y10, c10⟩ := U_cell (L := K) (I := I10) (k := q7 + 2) hK31 (by omega)
  obtain ⟨I11, a11, hT11, f11⟩ := Law_kept (L := K) (y1 := y10) rfl hG hT10 hI8 (Pd_L (Pd_N hP8 f9) f10)
  obtain ⟨I12, P12, a12, hT12, f12, hI12, -⟩ := Law_again (L := K) (by decide) hT11 hI8
  refine ⟨dn (dn K), I12, ?_, k1.trans hM1, by rw [dn2, dn2]; omega⟩
  have a7' : E 135 193 [some (.ref 0), some (.ref 1), some (.int (0 + 1 + 1 + 1 + 1)), some (.int y1), some (.int 0)] [] (GG L) I6 = _ := a7
  rw [B135_7, c0', K2_i, B135_19, a1, K2_i, B135_22, if_neg (by decide), c1', K2_i, B135_35, a2, B135_39, if_pos (by decide), a3, K2_i, B135_125, if_pos rfl, a4', K2_i, B135_133, if_pos rfl, s6, K2_i, B135_143, if_pos rfl, s7, K2_i, B135_153, if_pos rfl, c2', K2_i, B135_167, a5, K2_i, B135_170, if_neg (by decide), c3', K2_i, B135_182, a6, K2_i, B135_185 rfl, if_neg (by decide), a7', B135_193, if_pos (by decide), a8, K2_i, B135_252, if_neg (by decide), c8, K2_i, B135_264, a9, K2_i, B135_267, if_neg (by decide), nI_1, c9, K2_i, B135_279, a10, K2_i, B135_282, if_neg (by decide), nI_1, c10, K2_i, B135_294, a11, K2_i, B135_297, if_neg (by decide), a12, K2_i, B135_304, if_neg (by decide)]
end LW
/-- the slots that the objects take -/
def slN (l : List (Nat × Nat × Nat × Nat)) : Nat := (l.map fun q => match q.1 with | 0 => q.2.2.1 | _ => 0).sum
theorem apG_sl : ∀ (l : List (Nat × Nat × Nat × Nat)) (G : Gt), (l.foldl apG G).2.1 = G.2.1 + slN l := by
  intro l
  induction l with
  | nil => intro G; rfl
  | cons q t ih =>
    intro G
    obtain ⟨z, x, y, c⟩ := q
    rw [List.foldl_cons, ih]
    cases z with
    | zero =>
      show (G.2.1 + y) + slN t = G.2.1 + (y + slN t)
      omega
    | succ z =>
      show G.2.1 + slN t = G.2.1 + (0 + slN t)
      omega
theorem GG_sl (L : Nat × Nat) : (GG L).2.1 ≤ 3000 + 3 * L.2 := by
  have h : (GB L.1).2.1 = 0 + slN opsL := apG_sl opsL (Gi L.1)
  unfold GG
  rw [xG_s, h]
  have : slN opsL ≤ 3000 := by decide +kernel
  omega
theorem whole_start {p : Program} {e : Env} {s : State} {m : MethodId} {below : List Frame} {meth : Method} {c : Code} (l : Launch) (hflags : l.flags = flags0) {b L : Nat} {xs : Nat → Int32} (hL : L ≤ 260) (C0 : lw_At p s m meth c b L xs) : W p l e room_1 s m #[Value.ref b] below meth c s.heap [] 0 0 (lw_Z below #[Value.ref b] s) (entryFrame m ([Value.ref b] : List Value).toArray 5) := by
  obtain ⟨I1, e1, -, hB⟩ := boot L xs
  obtain ⟨L', I', e2, h1, h2⟩ := Law_all (L := (L, 0)) (u1 := none) (u2 := none) (u3 := none) (u4 := none) hL rfl hB
  have h3 := GG_sl L'
  exact start_of_ev l C0 (e1.trans e2) (by rw [GG_n]; omega) (by omega)
