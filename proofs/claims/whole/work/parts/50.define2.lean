/-- the versions' rows that are kept, in the reference -/
def Kn (n : Nat) (J J' : It) : Prop := (∀ v k, v < n → k < 10 → J' 125 (10 * v + k) = J 125 (10 * v + k) ∧ J' 126 (10 * v + k) = J 126 (10 * v + k) ∧ J' 127 (10 * v + k) = J 127 (10 * v + k) ∧ J' 128 (10 * v + k) = J 128 (10 * v + k)) ∧ (∀ v, v < n → J' 129 v = J 129 v) ∧ ∀ v i, v < n → i < 28 → J' 130 (28 * v + i) = J 130 (28 * v + i) ∧ J' 131 (28 * v + i) = J 131 (28 * v + i) ∧ J' 132 (28 * v + i) = J 132 (28 * v + i) ∧ J' 133 (28 * v + i) = J 133 (28 * v + i)
theorem Kn_tr {n : Nat} {J1 J2 J3 : It} (h : Kn n J1 J2) (h' : Kn n J2 J3) : Kn n J1 J3 :=
  ⟨fun v k q1 q2 => ⟨(h'.1 v k q1 q2).1.trans (h.1 v k q1 q2).1, (h'.1 v k q1 q2).2.1.trans (h.1 v k q1 q2).2.1, (h'.1 v k q1 q2).2.2.1.trans (h.1 v k q1 q2).2.2.1, (h'.1 v k q1 q2).2.2.2.trans (h.1 v k q1 q2).2.2.2⟩, fun v q => (h'.2.1 v q).trans (h.2.1 v q), fun v i q1 q2 => ⟨(h'.2.2 v i q1 q2).1.trans (h.2.2 v i q1 q2).1, (h'.2.2 v i q1 q2).2.1.trans (h.2.2 v i q1 q2).2.1, (h'.2.2 v i q1 q2).2.2.1.trans (h.2.2 v i q1 q2).2.2.1, (h'.2.2 v i q1 q2).2.2.2.trans (h.2.2 v i q1 q2).2.2.2⟩⟩
theorem Kn_o {n : Nat} {J J' : It} (h : ∀ a, 125 ≤ a → a ≤ 133 → J' a = J a) : Kn n J J' :=
  ⟨fun v k _ _ => by rw [h 125 (by decide) (by decide), h 126 (by decide) (by decide), h 127 (by decide) (by decide), h 128 (by decide) (by decide)]; exact ⟨rfl, rfl, rfl, rfl⟩, fun v _ => by rw [h 129 (by decide) (by decide)], fun v i _ _ => by rw [h 130 (by decide) (by decide), h 131 (by decide) (by decide), h 132 (by decide) (by decide), h 133 (by decide) (by decide)]; exact ⟨rfl, rfl, rfl, rfl⟩⟩
theorem Kn_Ko {n : Nat} {J J' : It} (h : Ko n J J') : Kn n J J' :=
  ⟨fun v k q1 q2 => h.2 (10 * v + k) (by omega), fun v _ => by rw [h.1 129 (by omega)], fun v i _ _ => by rw [h.1 130 (by omega), h.1 131 (by omega), h.1 132 (by omega), h.1 133 (by omega)]; exact ⟨rfl, rfl, rfl, rfl⟩⟩
theorem Kn_Fr {n : Nat} {J J' : It} (h : FrJ n J J') : Kn n J J' :=
  ⟨fun v k _ _ => by rw [h.1 125 (by decide) (by omega), h.1 126 (by decide) (by omega), h.1 127 (by decide) (by omega), h.1 128 (by decide) (by omega)]; exact ⟨rfl, rfl, rfl, rfl⟩, fun v q => h.2.2.1 v (by omega), fun v i q1 q2 => h.2.2.2 (28 * v + i) (by omega)⟩
/-- a version's rows are as they were -/
theorem Rv_p {n v : Nat} {I J I' J' : It} (hv : v < n) (h : Rv I J v) (hI : ∀ a, 21 ≤ a → a < 21 + 10 * n → I' a = I a) (hK : Kn n J J') : Rv I' J' v := by
  obtain ⟨h1, c, hc, hcI, hcJ, hrow, S, s1, s2, s3⟩ := h
  have kk := hK.1 v
  have ks := hK.2.2 v
  refine ⟨fun k hk => ?_, c, hc, by rw [hI _ (by omega) (by omega)]; exact hcI, by rw [hK.2.1 v hv]; exact hcJ, fun i hi => ?_, S, fun a ha => ?_, fun a ha => ?_, fun i hi => ?_⟩
  · obtain ⟨y1, y2, y3, y4⟩ := kk k hv hk
    rw [y1, y2, y3, y4, hI _ (by omega) (by omega), hI _ (by omega) (by omega), hI _ (by omega) (by omega), hI _ (by omega) (by omega)]
    exact h1 k hk
  · obtain ⟨y1, y2, y3, y4⟩ := ks i hv (by omega)
    rw [y1, y2, y3, y4, hI _ (by omega) (by omega), hI _ (by omega) (by omega), hI _ (by omega) (by omega), hI _ (by omega) (by omega)]
    exact hrow i hi
  · rw [s1 a ha]
    constructor
    · rintro ⟨q1, q2⟩
      exact ⟨q1, by rw [(hK.1 (v - 1) a (by omega) ha).1]; exact q2⟩
    · rintro ⟨q1, q2⟩
      exact ⟨q1, by rw [← (hK.1 (v - 1) a (by omega) ha).1]; exact q2⟩
  · rw [(kk a hv ha).1]; exact s2 a ha
  · obtain ⟨y1, y2, y3, y4⟩ := ks i hv (by omega)
    have h := s3 i hi
    unfold St at h ⊢
    rw [y1, y2, y3, y4]
    exact h
/-- a device over more versions -/
theorem Rd_m {n n' d : Nat} {T T' : Nat → Int32} {I I' : It} {D D' : Nat → Int32} (h : Rd n T I d D) (hn : n ≤ n') (hI : ∀ a, d ≤ a → a ≤ d + 6 → I' a = I a) (hD : ∀ j, j < 127 → D' j = D j) (hT : ∀ v k, v < n → k < 10 → T' (10 * v + k) = T (10 * v + k)) : Rd n' T' I' d D' := by
  obtain ⟨c, d5, d6, d7, d9, hr⟩ := Rd_c h hI hD hT
  refine ⟨c, d5, d6, d7, d9, ?_⟩
  rcases hr with hr | ⟨p, v, s, e, hp, hv, hs, he, q2, q3, q4, q5, q8, hV⟩
  · exact Or.inl hr
  · exact Or.inr ⟨p, v, s, e, hp, by omega, hs, he, q2, q3, q4, q5, q8, hV⟩
theorem RR_n {n n' : Nat} {I J I' J' : It} (h : RR n I J) (hn : n ≤ n') (hI : ∀ a, 81 ≤ a → a < 119 → I' a = I a) (hRy : Ry n' I' J') (hP : Rp I' J') (hJ : ∀ a, a = 120 ∨ a = 122 ∨ a = 123 → J' a = J a) (hK : Kn n J J') : RR n' I' J' := by
  obtain ⟨r1, r2, r3, r4⟩ := h
  refine ⟨hRy, ?_, fun i hi => ?_, hP⟩
  · rw [hJ 120 (by omega)]
    exact Rd_m r2 hn (fun a q1 q2 => hI a (by omega) (by omega)) (fun _ _ => rfl) (fun v k q1 q2 => (hK.1 v k q1 q2).1)
  · obtain ⟨x1, x2, x3⟩ := r3 i hi
    rw [hI 118 (by omega) (by omega), hJ 123 (by omega), hJ 122 (by omega)]
    exact ⟨x1, x2, fun q => Rd_m (x3 q) hn (fun a q1 q2 => hI a (by omega) (by omega)) (fun _ _ => rfl) (fun v k q1 q2 => (hK.1 v k q1 q2).1)⟩
theorem Ry_n {n : Nat} {I J I' J' : It} (h : Ry n I J) (hI : ∀ a, 9 ≤ a → a < 21 + 10 * n → I' a = I a) (h6 : J' 119 6 = J 119 6) (hK : Kn n J J') : Ry n I' J' := by
  obtain ⟨hn, h1, h2, h3, h4⟩ := h
  exact ⟨hn, by rw [hI 9 (by omega) (by omega)]; exact h1, h6.trans h2, fun k hk => by rw [hI 11 (by omega) (by omega), hI 12 (by omega) (by omega), hI 13 (by omega) (by omega)]; exact h3 k hk, fun v hv => Rv_p hv (h4 v hv) (fun a q1 q2 => hI a (by omega) q2) hK⟩
theorem Rp_k {I J I' J' : It} (h : Rp I J) (h2 : I' 2 2 = I 2 2) (h3 : I' 3 = I 3) (h5 : J' 119 5 = J 119 5) (h124 : J' 124 = J 124) : Rp I' J' := by
  obtain ⟨l, y1, y2, y3, y4⟩ := h
  exact ⟨l, y1, h2.trans y2, h5.trans y3, fun k hk => by rw [h3, h124]; exact y4 k hk⟩
set_option maxHeartbeats 1000000 in
theorem M_define : Sm 94 [some (.ref 1)] 129 [some (.ref 119), none, none] := fun L n I J hr => by
  obtain ⟨hR, hD, hK, hP⟩ := id hr
  have hn := hR.1
  have j6 := hR.2.2.1
  have n10 : ¬ (1 : Int32) = 0 := by decide
  -- what was read, whatever it is
  have rd : ∃ I1 J1 r, E 55 0 [some (.ref 2), none] [] (GG L) I = some (some (.int r), GG L, I1) ∧ E 129 0 [some (.ref 119), none, none] [] (GG L) J = E 129 27 [some (.ref 119), none, none] [.int r] (GG L) J1 ∧ FrI I I1 ∧ Kn n J J1 ∧ (∀ a, a ≠ 119 → (a < 129 ∨ 133 < a) → J1 a = J a) ∧ (∀ j, j < 22 → J1 119 j = J 119 j) ∧ (r = -6 → n < 6 → ∃ m, m ≤ 27 ∧ I1 4 4 = nI m ∧ J1 129 n = nI m ∧ ∀ j, j < m → Row I1 J1 n j) := by
    by_cases h6 : n < 6
    · obtain ⟨J0, hJ0⟩ : ∃ J0, uI J 129 n 0 = J0 := ⟨_, rfl⟩
      have o0 : ∀ a, a ≠ 129 → J0 a = J a := fun a q => by rw [← hJ0]; exact uI_o _ _ _ _ _ q
      have k0 : Kn n J J0 := ⟨fun v k _ _ => by rw [o0 125 (by decide), o0 126 (by decide), o0 127 (by decide), o0 128 (by decide)]; exact ⟨rfl, rfl, rfl, rfl⟩, fun v q => by rw [← hJ0]; exact uI_k _ _ _ _ _ (by omega), fun v i _ _ => by rw [o0 130 (by decide), o0 131 (by decide), o0 132 (by decide), o0 133 (by decide)]; exact ⟨rfl, rfl, rfl, rfl⟩⟩
      obtain ⟨I1, J1, r, e0, e1, f, g, hrow⟩ := W_read (L := L) (ver := n) (I := I) (J := J0) (Rp_k hP rfl rfl (by rw [o0 119 (by decide)]) (o0 124 (by decide))) hn (fun _ => by rw [← hJ0, uI_s])
      refine ⟨I1, J1, r, e0, ?_, f, Kn_tr k0 (Kn_Fr g), fun a q1 q2 => (g.1 a q1 (by omega)).trans (o0 a (by omega)), fun j q => (g.2.1 j q).trans (by rw [o0 119 (by decide)]), hrow⟩
      rw [B129_0, j6, if_neg (show ¬ (6 : Int32) ≤ nI n from nI_ge (a := n) (b := 6) h6 (by decide)), ck_of (inb_nI h6 (by decide)), ix_nI (by omega), hJ0, o0 119 (by decide), j6, e1, K2_i]
    · have h6' : n = 6 := by omega
      obtain ⟨I1, J1, r, e0, e1, f, g, hrow⟩ := W_read (L := L) (ver := n) (I := I) (J := J) hP hn (fun h => absurd h h6)
      refine ⟨I1, J1, r, e0, ?_, f, Kn_Fr g, fun a q1 q2 => g.1 a q1 (Or.inl h6'), g.2.1, hrow⟩
      rw [B129_0, j6, if_pos (show (6 : Int32) ≤ nI n from nI_le (a := 6) (by omega) (by omega)), e1, K2_i]
  obtain ⟨I1, J1, r, e0, e1, f1, k1, o1, q1, hrows⟩ := rd
  have jn : J1 119 6 = nI n := (q1 6 (by decide)).trans j6
  have jP : J1 119 5 = J 119 5 := q1 5 (by decide)
  have hRR1 : RR n I1 J1 := RR_n hr (Nat.le_refl _) (fun a z1 z2 => f1.1 a (by omega) (by omega)) (Ry_n hR (fun a z1 z2 => f1.1 a (by omega) (by omega)) (q1 6 (by decide)) k1) (Rp_k hP f1.2 (f1.1 3 (by decide) (by decide)) jP (o1 124 (by decide) (by omega))) (fun a z => o1 a (by omega) (by omega)) k1
  have fr1 : ∀ a, a = 0 ∨ 119 ≤ a → I1 a = I a := fun a z => f1.1 a (by omega) (by omega)
  have fr2 : ∀ a, a < 119 → J1 a = J a := fun a z => o1 a (by omega) (by omega)
  rw [B94_0, e0, K2_i, B94_7, e1, B129_27, jn]
  by_cases hr6 : r = -6
  · rw [if_pos hr6, if_pos hr6, B44_0, K2_i, B94_22, hRR1.1.2.1]
    by_cases h6 : n < 6
    · have n6 : ¬ nI n = (6 : Int32) := fun z => by have := (nI_eq (a := n) (b := 6) (by omega) (by decide)).mp z; omega
      obtain ⟨m, hm, hI4, hJ129, hrow⟩ := hrows hr6 h6
      have hlay := k_lay (L := L) h6
      -- the layout before
      obtain ⟨p, hp, hp2, hpE, hpb, hp1⟩ : ∃ p, kd (GG L) p = 1 ∧ p + 5 ≤ 21 + 10 * n ∧ E 46 0 [some (.ref 9), some (.int (nI n - 1))] [] (GG L) I1 = some (some (.ref p), GG L, I1) ∧ (∀ j, j < 10 → b01 (I1 (p + 1) j) = true) ∧ ∀ j, j < 10 → I1 (p + 1) j = sr J1 n 125 j ∧ I1 (p + 2) j = sr J1 n 126 j ∧ I1 (p + 3) j = sr J1 n 127 j ∧ (sr J1 n 125 j = 0 ∨ sr J1 n 125 j = 1) ∧ byt (sr J1 n 126 j) ∧ byt (sr J1 n 127 j) := by
        by_cases h0 : 0 < n
        · have hrv := (hRR1.1.2.2.2.2 (n - 1) (by omega)).1
          have hs : nI n - 1 = nI (n - 1) := by rw [show (1 : Int32) = nI 1 from rfl, nI_sub (by omega)]
          refine ⟨21 + 10 * (n - 1), k_lay (by omega), by omega, by rw [hs, S46 hRR1.1 (by omega)], fun j hj => ?_, fun j hj => ?_⟩
          · obtain ⟨t1, t2, -⟩ := hrv j hj
            rw [show 21 + 10 * (n - 1) + 1 = 22 + 10 * (n - 1) by omega, t2]
            unfold b01
            rcases t1 with t | t <;> (rw [t]; decide)
          · obtain ⟨t1, t2, t3, t4, t5, t6, t7⟩ := hrv j hj
            unfold sr
            rw [if_pos h0, if_pos h0, if_pos h0, show 21 + 10 * (n - 1) + 1 = 22 + 10 * (n - 1) by omega, show 21 + 10 * (n - 1) + 2 = 23 + 10 * (n - 1) by omega, show 21 + 10 * (n - 1) + 3 = 24 + 10 * (n - 1) by omega]
            exact ⟨t2, t3, t5, t1, t4, t6⟩
        · have hz : n = 0 := by omega
          have hem := hRR1.1.2.2.2.1
          refine ⟨10, k_emp, by omega, ?_, fun j hj => by show b01 (I1 11 j) = true; rw [(hem j hj).1]; decide, fun j hj => ?_⟩
          · rw [S46n hRR1.1 (fun v hv => by omega)]
          · unfold sr
            rw [if_neg h0, if_neg h0, if_neg h0]
            exact ⟨(hem j hj).1, (hem j hj).2.1, (hem j hj).2.2, Or.inl rfl, ⟨0, by decide, rfl⟩, ⟨0, by decide, rfl⟩⟩
      -- the copies
      obtain ⟨I2, a2, f2, g2⟩ := S37 (L := L) hlay hp hp2 10 0 I1 rfl hpb
      obtain ⟨J2, b2, k2, h2⟩ := S128 (L := L) h6 10 0 J1 (u3 := none) rfl (fun j hj h0 => by
        have := (hp1 j hj).2.2.2.1
        unfold sr at this
        rw [if_pos h0] at this
        exact this)
      have b2' : E 128 2 [some (.ref 119), some (.int (nI n)), some (.int 0), none] [] (GG L) J1 = some (none, GG L, J2) := b2
      obtain ⟨I3, a3, f3, g3, h3⟩ := S88 (L := L) (I := I2) h6
      have hl3 : Ly I3 J2 n := fun k hk => by
        obtain ⟨z1, z2, z3, z4, z5, z6⟩ := hp1 k hk
        obtain ⟨x1, x2, x3, x4⟩ := g2 k hk
        obtain ⟨y1, y2, y3, y4⟩ := h2 k hk
        rw [if_pos (Nat.zero_le _)] at x1 x2 x3 x4 y1 y2 y3 y4
        rw [f3 (22 + 10 * n) (by omega), f3 (23 + 10 * n) (by omega), f3 (24 + 10 * n) (by omega), f3 (25 + 10 * n) (by omega), show 22 + 10 * n = 21 + 10 * n + 1 by omega, show 23 + 10 * n = 21 + 10 * n + 2 by omega, show 24 + 10 * n = 21 + 10 * n + 3 by omega, show 25 + 10 * n = 21 + 10 * n + 4 by omega, x1, x2, x3, x4, y1, y2, y3, y4, z1, z2, z3]
        exact ⟨z4, rfl, rfl, z5, rfl, z6, rfl⟩
      have low2 : ∀ a, a < 22 + 10 * n → I2 a = I1 a := fun a z => f2 a (by omega)
      have hrow3 : ∀ j, j < m → I3 (27 + 10 * n) j = J2 130 (28 * n + j) ∧ I3 (28 + 10 * n) j = J2 131 (28 * n + j) ∧ I3 (29 + 10 * n) j = J2 132 (28 * n + j) ∧ I3 (30 + 10 * n) j = J2 133 (28 * n + j) ∧ ∃ k n' A B, Sk k n' A B ∧ J2 130 (28 * n + j) = nI k ∧ J2 131 (28 * n + j) = nI n' ∧ J2 132 (28 * n + j) = nI A ∧ J2 133 (28 * n + j) = nI B := fun j hj => by
        obtain ⟨x1, x2, x3, x4, k, n', A, B, w1, w2, w3, w4, w5⟩ := hrow j hj
        obtain ⟨y1, y2, y3, y4⟩ := h3 j (by omega)
        rw [y1, y2, y3, y4, low2 5 (by omega), low2 6 (by omega), low2 7 (by omega), low2 8 (by omega), k2.1 130 (by omega), k2.1 131 (by omega), k2.1 132 (by omega), k2.1 133 (by omega)]
        exact ⟨x1, x2, x3, x4, k, n', A, B, w1, x1 ▸ w2, x2 ▸ w3, x3 ▸ w4, x4 ▸ w5⟩
      have hcall : E 37 0 [some (.ref (21 + 10 * n)), some (.ref p), some (.ref 4), none] [] (GG L) I1 = K2 37 73 [some (.ref (21 + 10 * n)), some (.ref p), some (.ref 4), some (.int (nI 10))] [] (E 89 2 [some (.ref (26 + 10 * n)), some (.ref (21 + 10 * n)), some (.int (nI 0))] [] (GG L) I3) := by
        rw [B37_0 hlay hp k_4]
        refine Eq.trans a2 ?_
        rw [B37_2 hlay hp k_4, if_pos (by decide), show 21 + 10 * n + 5 = 26 + 10 * n by omega, a3, K2_v, B37_65 hlay, show 21 + 10 * n + 5 = 26 + 10 * n by omega, B89_0 (k_stp h6) hlay]
        rfl
      have hf13 : ∀ a, a < 22 + 10 * n ∨ 30 + 10 * n < a → I3 a = I1 a := fun a z => by rw [f3 a (by omega), f2 a (by omega)]
      rw [if_pos (show nI n < (6 : Int32) from nI_lt (b := 6) h6 (by decide)), if_neg n6, B51_0, K2_i, B94_41 k_4, B47_0 k_4, hRR1.1.2.1, if_neg (show ¬ (6 : Int32) ≤ nI n from nI_ge (a := n) (b := 6) h6 (by decide)), ck_of (inb_nI h6 (by decide)), ix_nI (by omega), hpE, K2_i, B47_28 k_4 hlay hp, hcall, B128_0, b2', K2_v, B129_55]
      rcases D_loop (L := L) (S0 := nz J2 n) h6 hm m 0 (I := I3) (J := J2) (u2 := none) (S := fun _ => nz J2 n) rfl hl3 (by rw [k2.1 119 (by omega)]; exact jn) (by rw [g3, low2 4 (by omega)]; exact hI4) (by rw [k2.1 129 (by omega)]; exact hJ129) hrow3 rfl rfl (fun j hj => absurd hj (by omega)) with ⟨I4, J4, y0, y1, y2, y3⟩ | ⟨I4, J4, S, y0, y1, y2, y3, y4, y5, y6, y7⟩
      · -- a step cannot be done
        have y1' : E 129 57 [some (.ref 119), some (.int 0), none] [] (GG L) J2 = some (some (.int (-5)), GG L, J4) := y1
        have fI : ∀ a, a < 22 + 10 * n ∨ 30 + 10 * n < a → I4 a = I1 a := fun a z => by rw [y2 a (by omega), hf13 a z]
        have kJ : Ko n J1 J4 := Ko_tr k2 y3
        rw [y0, K2_i, B37_73, ck_of (by decide), K2_i, B47_32, if_pos rfl, K2_i, B94_44, if_pos rfl]
        refine ⟨I4, J4, n, _, rfl, y1', ?_, fun a z => (fI a (by omega)).trans (fr1 a z), fun a z => (kJ.1 a (by omega)).trans (fr2 a z)⟩
        exact RR_n hRR1 (Nat.le_refl _) (fun a z1 z2 => fI a (by omega)) (Ry_n hRR1.1 (fun a z1 z2 => fI a (by omega)) (by rw [kJ.1 119 (by omega)]) (Kn_Ko kJ)) (Rp_k hRR1.2.2.2 (by rw [fI 2 (by omega)]) (fI 3 (by omega)) (by rw [kJ.1 119 (by omega)]) (kJ.1 124 (by omega))) (fun a z => kJ.1 a (by omega)) (Kn_Ko kJ)
      · -- the version is made
        have y1' : E 129 57 [some (.ref 119), some (.int 0), none] [] (GG L) J2 = some (some (.int (nI n)), GG L, uI (uI J4 119 5 0) 119 6 (nI (n + 1))) := y1
        have fI : ∀ a, a < 22 + 10 * n ∨ 30 + 10 * n < a → I4 a = I1 a := fun a z => by rw [y2 a (by omega), hf13 a z]
        have kJ : Ko n J1 J4 := Ko_tr k2 y3
        have i9 : I4 9 2 = nI n := by rw [fI 9 (by omega)]; exact hRR1.1.2.1
        have i9' : uI (uI I4 9 2 (nI (n + 1))) 2 2 0 9 2 = nI (n + 1) := by rw [uI_a _ _ _ _ _ _ (by decide), uI_s]
        rw [y0, K2_i, B37_73, ck_of (by decide), K2_i, B47_32, if_neg n10, K2_i, B94_44, if_neg n10, B52_0, K2_v, B94_57, B44_0, K2_i, B94_64, i9, nI_1, i9', nI_pred]
        obtain ⟨I5, hI5⟩ : ∃ I5, uI (uI I4 9 2 (nI (n + 1))) 2 2 0 = I5 := ⟨_, rfl⟩
        obtain ⟨J5, hJ5⟩ : ∃ J5, uI (uI J4 119 5 0) 119 6 (nI (n + 1)) = J5 := ⟨_, rfl⟩
        rw [hJ5] at y1'
        rw [hI5]
        have o5 : ∀ a, a ≠ 9 → a ≠ 2 → I5 a = I4 a := fun a z1 z2 => by rw [← hI5, uI_o _ _ _ _ _ z2, uI_o _ _ _ _ _ z1]
        have p5 : ∀ a, a ≠ 119 → J5 a = J4 a := fun a z => by rw [← hJ5, uI_o _ _ _ _ _ z, uI_o _ _ _ _ _ z]
        have kJ5 : Kn n J1 J5 := Kn_tr (Kn_Ko kJ) (Kn_o (fun a z1 z2 => p5 a (by omega)))
        have hrv : Rv I5 J5 n := by
          refine ⟨fun k hk => ?_, m, hm, ?_, ?_, fun i hi => ?_, S, fun a ha => ?_, fun a ha => ?_, fun i hi => ?_⟩
          · rw [o5 _ (by omega) (by omega), o5 _ (by omega) (by omega), o5 _ (by omega) (by omega), o5 _ (by omega) (by omega), p5 125 (by decide), p5 126 (by decide), p5 127 (by decide), p5 128 (by decide)]
            exact y4 k hk
          · rw [o5 _ (by omega) (by omega), y2 _ (by omega), g3, low2 4 (by omega)]; exact hI4
          · rw [p5 129 (by decide), kJ.1 129 (by omega)]; exact hJ129
          · obtain ⟨x1, x2, x3, x4, -⟩ := hrow3 i hi
            rw [o5 _ (by omega) (by omega), o5 _ (by omega) (by omega), o5 _ (by omega) (by omega), o5 _ (by omega) (by omega), y2 _ (by omega), y2 _ (by omega), y2 _ (by omega), y2 _ (by omega), p5 130 (by decide), p5 131 (by decide), p5 132 (by decide), p5 133 (by decide), y3.1 130 (by omega), y3.1 131 (by omega), y3.1 132 (by omega), y3.1 133 (by omega)]
            exact ⟨x1, x2, x3, x4⟩
          · rw [y5, nz_t]
            obtain ⟨w1, -, -, -⟩ := h2 a ha
            rw [if_pos (Nat.zero_le _)] at w1
            rw [w1]
            unfold sr
            by_cases h0 : 0 < n
            · rw [if_pos h0, (kJ5.1 (n - 1) a (by omega) ha).1]
              exact ⟨fun z => ⟨h0, z⟩, fun z => z.2⟩
            · rw [if_neg h0]
              exact ⟨fun z => absurd rfl z, fun z => absurd z.1 h0⟩
          · rw [y6, nz_t, p5 125 (by decide)]
          · have h := y7 i hi
            unfold St at h ⊢
            rw [p5 130 (by decide), p5 131 (by decide), p5 132 (by decide), p5 133 (by decide)]
            exact h
        have hRy : Ry (n + 1) I5 J5 := by
          refine ⟨by omega, by rw [← hI5]; exact i9', by rw [← hJ5, uI_s], fun k hk => ?_, fun v hv => ?_⟩
          · rw [o5 11 (by decide) (by decide), o5 12 (by decide) (by decide), o5 13 (by decide) (by decide), fI 11 (by omega), fI 12 (by omega), fI 13 (by omega)]
            exact hRR1.1.2.2.2.1 k hk
          · by_cases z : v = n
            · subst z; exact hrv
            · exact Rv_p (n := n) (by omega) (hRR1.1.2.2.2.2 v (by omega)) (fun a z1 z2 => by rw [o5 a (by omega) (by omega), fI a (by omega)]) kJ5
        refine ⟨I5, J5, n + 1, _, rfl, y1', RR_n hRR1 (by omega) (fun a z1 z2 => by rw [o5 a (by omega) (by omega), fI a (by omega)]) hRy ⟨0, by decide, ?_, ?_, fun k hk => absurd hk (by omega)⟩ (fun a z => by rw [p5 a (by omega), kJ.1 a (by omega)]) kJ5, fun a z => by rw [o5 a (by omega) (by omega), fI a (by omega), fr1 a z], fun a z => by rw [p5 a (by omega), kJ.1 a (by omega), fr2 a z]⟩
        · rw [← hI5, uI_s]; rfl
        · rw [← hJ5, uI_k _ _ _ _ _ (by decide), uI_s]; rfl
    · have h6' : n = 6 := by omega
      subst h6'
      rw [if_neg (show ¬ nI 6 < (6 : Int32) by decide), if_pos (show nI 6 = (6 : Int32) from rfl)]
      exact ⟨I1, J1, 6, _, rfl, rfl, hRR1, fr1, fr2⟩
  · rw [if_neg hr6, if_neg hr6]
    exact ⟨I1, J1, n, _, rfl, rfl, hRR1, fr1, fr2⟩
