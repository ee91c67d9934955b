/-! ===== p24: a value changed, copies, migration, the factory's state ===== -/
theorem m6_ne0 : ¬ (0 : Int32) = -6 := by decide
/-- a value given to a setting -/
def chS (e : Nat → Nat → Nat) (P : Pc) (a v s r : Nat) (x : Nat → Nat) (k c : Nat) : Pc :=
  if x k = c then P
  else if r < 15 then (if (pa P.1 3) = none then wS a (rcl (3 + 3 * r) k c v) P
    else ((wS a (rcl (3 + 3 * r) k c v) P).1, up P.2.1 8 (nI (3 + 3 * (r + 1))), (wS a (rcl (3 + 3 * r) k c v) P).2.2.1, P.2.2.2.1, (wS a (rcl (3 + 3 * r) k c v) P).2.2.2.2.1, nV (up x k c), up P.2.2.2.2.2.2 k (nI (3 + 3 * r))))
  else fillS e P (1 - a) v ((s + 1) % 200) (up x k c)
def chN (e : Nat → Nat → Nat) (P : Pc) (v r : Nat) (x : Nat → Nat) (k c : Nat) : Nat :=
  if x k = c then 0 else if r < 15 then cn P.1 3 else fillN e P v (up x k c)
/-- registers of an active page -/
def rga (P : Pc) (a v s r : Nat) : Prop := P.2.1 5 = nI a ∧ P.2.1 6 = nI v ∧ P.2.1 7 = nI s ∧ P.2.1 8 = nI (3 + 3 * r) ∧ a < 2 ∧ v < 3 ∧ s < 200 ∧ r ≤ 15
theorem T_change {L : Nat × Nat} {n d a v s r k c : Nat} {g e Z : Nat → Nat → Nat} {x : Nat → Nat} {I : It} {P : Pc} (hd : kd (GG L) d = 0) (hd81 : 81 ≤ d) (hR : Ly n g e Z I) (h : Rd I d P) (hg : rga P a v s r) (hvn : v < n) (hx : ∀ k, k < 3 → x k < 256) (hV : P.2.2.2.2.2.1 = nV x) (hk : k < 3) (hc : c < 256) :
    ∃ I', E 21 0 [some (.ref d), some (.int (nI k)), some (.int (nI c)), none] [] (GG L) I = some (some (.int (nI (chN e P v r x k c))), GG L, I') ∧ FD d I I' ∧ Rd I' d (chS e P a v s r x k c) := by
  obtain ⟨g5, g6, g7, g8, ha, hv3, hs, hr15⟩ := hg
  have hn := hR.1
  have i5 : I d 5 = nI a := (h.2.2.2.1 5 (by decide) (by decide)).trans g5
  have i6 : I d 6 = nI v := (h.2.2.2.1 6 (by decide) (by decide)).trans g6
  have i8 : I d 8 = nI (3 + 3 * r) := (h.2.2.2.1 8 (by decide) (by decide)).trans g8
  have iv : ∀ j, j < 10 → I (d + 5) j = nV x j := fun j hj => (h.2.2.2.2.2 j hj).1.trans (by rw [hV])
  have hxk := hx k hk
  have hda := k_pg (L := L) hd ha
  have b0 := B21_0 (L := L) (o0 := d) (x1 := nI k) (x2 := nI c) (I := I) hd
  rw [S119, K2_i, tI_t ⟨k, by omega, rfl⟩, B21_4 hd, if_neg (by decide), ck_of (inb_nI (by omega) (by decide)), ix_nI (by omega), iv k (by omega), nV_k hk, i8, show nI (3 + 3 * r) + 3 = nI (3 + 3 * r + 3) from nI_add _ 3] at b0
  unfold chS chN
  by_cases hU : x k = c
  · rw [if_pos hU, if_pos hU]
    rw [if_pos (by rw [hU])] at b0
    exact ⟨I, b0, FD_rfl _ _, h⟩
  · rw [if_neg hU, if_neg hU]
    rw [if_neg (fun z => hU ((nI_eq (by omega) (by omega)).mp z))] at b0
    by_cases hr : r < 15
    · rw [if_pos hr, if_pos hr]
      rw [if_pos (show nI (3 + 3 * r + 3) ≤ (48 : Int32) from nI_le (b := 48) (by omega) (by decide)), i5, S9 hd ha, K2_i, B21_70 hd hd hda, i8, i6] at b0
      obtain ⟨I1, a1, h1, f1⟩ := T_rec (L := L) (i := 3 + 3 * r) (n := k) (c := c) (v := v) hd hda ha (by omega) h
      rw [a1, K2_i, B21_83 hd] at b0
      have fD := FD_I f1
      have i3 := h1.1
      by_cases hz : pa P.1 3 = none
      · rw [if_pos hz]
        have : (wS a (rcl (3 + 3 * r) k c v) P).1 = none := hz
        rw [this] at i3
        rw [if_pos (show I1 d 3 = 0 from i3)] at b0
        exact ⟨I1, b0, fD, h1⟩
      · rw [if_neg hz]
        have i3' : ¬ I1 d 3 = 0 := by
          rw [i3]
          cases hw : (wS a (rcl (3 + 3 * r) k c v) P).1 with
          | none => exact absurd hw hz
          | some w => exact (by decide : ¬ (1 : Int32) = 0)
        have j8 : I1 d 8 = nI (3 + 3 * r) := (h1.2.2.2.1 8 (by decide) (by decide)).trans g8
        rw [if_neg i3', ck_of (inb_nI (by omega) (by decide)), ck_of (inb_nI (by omega) (by decide)), ix_nI (by omega), uI_a _ _ _ _ d 8 (by omega), uI_a _ _ _ _ d 8 (by omega), uI_a _ _ _ _ d 8 (by omega), j8, show nI (3 + 3 * r) + 3 = nI (3 + 3 * (r + 1)) from nI_add _ 3] at b0
        refine ⟨_, b0, FD_tr fD (FD_tr (FD_tr (FD_u (by omega) (by omega)) (FD_u (by omega) (by omega))) (FD_u (by omega) (by omega))), ?_⟩
        have := Rd_reg (k := 8) (x := nI (3 + 3 * (r + 1))) (Rd_val (a := k) (x := nI c) (y := nI (3 + 3 * r)) h1) (by decide)
        rw [show (wS a (rcl (3 + 3 * r) k c v) P).2.2.2.2.2.1 = nV x from hV, nV_up hk] at this
        exact this
    · rw [if_neg hr, if_neg hr]
      have hr' : r = 15 := by omega
      have k50 := wk_0_10 hd
      obtain ⟨I1, hI1⟩ : ∃ I1, uI (cpI I (d + 5) (d + 7) 0 0 10) (d + 7) k (nI c) = I1 := ⟨_, rfl⟩
      have o1 : ∀ b, b ≠ d + 7 → I1 b = I b := fun b hb => by rw [← hI1, uI_o _ _ _ _ _ hb, cp_o _ _ _ _ _ hb]
      have f1 : FD d I I1 := fun b hb => o1 b (by omega)
      rw [if_neg (show ¬ nI (3 + 3 * r + 3) ≤ (48 : Int32) from nI_ge (a := 48) (b := 3 + 3 * r + 3) (by omega) (by omega)), ck_of (inb_nI (by omega) (by decide)), hI1, o1 d (by omega), i6] at b0
      obtain ⟨I2, a2, f2, h2⟩ := T_fill (L := L) (x := up x k c) hd hd81 (Ly_D hR hd81 f1) (Rd_oth h (fun b _ q => o1 b (by omega))) ha hs g5 g7 hvn hv3 (fun j hj => by
        by_cases z : j = k
        · rw [z, up_s]; exact hc
        · rw [up_k _ _ _ z]; exact hx j hj) (fun j hj => by
        rw [← nV_up hk, ← hI1]
        by_cases z : j = k
        · rw [z, uI_s, up_s]
        · rw [uI_k _ _ _ _ _ z, up_k _ _ _ z, cp_s _ _ _ _ _ hj]; exact iv j hj)
      rw [a2, K2_i, B21_60] at b0
      exact ⟨I2, b0, FD_tr f1 f2, h2⟩
/-- a page copied, a device copied -/
theorem S69 {L : Nat × Nat} {o o' : Nat} {I : It} (ho : kd (GG L) o = 4) (ho' : kd (GG L) o' = 4) (hne : o' ≠ o) (hne1 : o' ≠ o + 1) : ∃ I', E 69 0 [some (.ref o), some (.ref o')] [] (GG L) I = some (none, GG L, I') ∧ (∀ a, a ≠ o → a ≠ o + 1 → I' a = I a) ∧ I' o 1 = I o' 1 ∧ I' o 2 = I o' 2 ∧ ∀ k, k < 48 → I' (o + 1) k = I (o' + 1) k := by
  refine ⟨_, B69_0 ho ho', fun a q0 q1 => ?_, ?_, ?_, fun k hk => ?_⟩
  · rw [uI_o _ _ _ _ _ q0, uI_o _ _ _ _ _ q0, cp_o _ _ _ _ _ q1]
  · rw [uI_k _ _ _ _ _ (by decide), uI_s, cp_o _ _ _ _ _ hne1]
  · rw [uI_s, uI_o _ _ _ _ _ hne, cp_o _ _ _ _ _ hne1]
  · rw [uI_a _ _ _ _ _ _ (by omega), uI_a _ _ _ _ _ _ (by omega), cp_s _ _ _ _ _ hk]
theorem pwA_01 (w : Pw) : pwA w = 0 ∨ pwA w = 1 := by cases w <;> simp [pwA]
theorem T_copy {L : Nat × Nat} {d d' : Nat} {I : It} {P : Pc} (hd : kd (GG L) d = 0) (hd' : kd (GG L) d' = 0) (hf : d + 8 < d' ∨ d' + 8 < d) (h : Rd I d' P) :
    ∃ I', E 1 0 [some (.ref d), some (.ref d')] [] (GG L) I = some (none, GG L, I') ∧ FD d I I' ∧ Rd I' d P := by
  obtain ⟨I1, a1, o1, c1, c2, c3⟩ := S69 (L := L) (o := d + 1) (o' := d' + 1) (I := I) (k_pg (p := 0) hd (by decide)) (k_pg (p := 0) hd' (by decide)) (by omega) (by omega)
  obtain ⟨I2, a2, o2, e1, e2, e3⟩ := S69 (L := L) (o := d + 3) (o' := d' + 3) (I := I1) (k_pg (p := 1) hd (by decide)) (k_pg (p := 1) hd' (by decide)) (by omega) (by omega)
  obtain ⟨r3, r4, rok, rA, rC, rV⟩ := h
  have f2 : ∀ a, a < d + 1 ∨ d + 4 < a → I2 a = I a := fun a ha => by rw [o2 a (by omega) (by omega), o1 a (by omega) (by omega)]
  have hd0 : I2 d' = I d' := f2 d' (by omega)
  have hdd : d' ≠ d := by omega
  have b0 := B1_0 (L := L) (o0 := d) (o1 := d') (I := I) hd hd'
  rw [a1, K2_v, B1_11 hd hd', a2, K2_v, B1_22 hd hd', ck_of (by rw [hd0, r3]; rcases pwA_01 P.1 with z | z <;> rw [z] <;> decide)] at b0
  simp only [uI_a _ _ _ _ _ _ hdd, hd0] at b0
  obtain ⟨I3, hI3⟩ : ∃ I3, uI (uI (uI (uI (uI (uI (uI I2 d 3 (I d' 3)) d 4 (I d' 4)) d 5 (I d' 5)) d 6 (I d' 6)) d 7 (I d' 7)) d 8 (I d' 8)) d 9 (I d' 9) = I3 := ⟨_, rfl⟩
  rw [hI3] at b0
  have o3 : ∀ b, b ≠ d → I3 b = I2 b := fun b hb => by rw [← hI3, uI_o _ _ _ _ _ hb, uI_o _ _ _ _ _ hb, uI_o _ _ _ _ _ hb, uI_o _ _ _ _ _ hb, uI_o _ _ _ _ _ hb, uI_o _ _ _ _ _ hb, uI_o _ _ _ _ _ hb]
  have v3 : ∀ j, 3 ≤ j → j < 10 → I3 d j = I d' j := fun j q1 q2 => by
    rw [← hI3]
    have : j = 3 ∨ j = 4 ∨ j = 5 ∨ j = 6 ∨ j = 7 ∨ j = 8 ∨ j = 9 := by omega
    rcases this with rfl | rfl | rfl | rfl | rfl | rfl | rfl <;> simp [uI]
  refine ⟨_, b0, fun b hb => ?_, ?_⟩
  · rw [cp_o _ _ _ _ _ (by omega), cp_o _ _ _ _ _ (by omega), o3 b (by omega), f2 b (by omega)]
  · have oo : ∀ b, b ≠ d + 5 → b ≠ d + 6 → cpI (cpI I3 (d' + 5) (d + 5) 0 0 10) (d' + 6) (d + 6) 0 0 10 b = I3 b := fun b q5 q6 => by rw [cp_o _ _ _ _ _ q6, cp_o _ _ _ _ _ q5]
    refine ⟨by rw [oo d (by omega) (by omega), v3 3 (by decide) (by decide)]; exact r3, by rw [oo d (by omega) (by omega), v3 4 (by decide) (by decide)]; exact r4, rok, fun j q1 q2 => by rw [oo d (by omega) (by omega), v3 j (by omega) q2]; exact rA j q1 q2, fun p hp => ?_, fun k hk => ?_⟩
    · rw [oo _ (by omega) (by omega), oo _ (by omega) (by omega), o3 _ (by omega), o3 _ (by omega)]
      obtain ⟨x1, x2, x3⟩ := rC p hp
      have : p = 0 ∨ p = 1 := by omega
      rcases this with rfl | rfl
      · refine ⟨?_, ?_, fun k hk => ?_⟩
        · rw [show d + 1 + 2 * 0 = d + 1 from rfl, o2 _ (by omega) (by omega), c1]; exact x1
        · rw [show d + 1 + 2 * 0 = d + 1 from rfl, o2 _ (by omega) (by omega), c2]; exact x2
        · rw [show d + 2 + 2 * 0 = d + 1 + 1 from rfl, o2 _ (by omega) (by omega), c3 k hk]; exact x3 k hk
      · refine ⟨?_, ?_, fun k hk => ?_⟩
        · rw [show d + 1 + 2 * 1 = d + 3 from rfl, e1, o1 _ (by omega) (by omega)]; exact x1
        · rw [show d + 1 + 2 * 1 = d + 3 from rfl, e2, o1 _ (by omega) (by omega)]; exact x2
        · rw [show d + 2 + 2 * 1 = d + 3 + 1 from rfl, e3 k hk, o1 _ (by omega) (by omega)]; exact x3 k hk
    · obtain ⟨x1, x2⟩ := rV k hk
      refine ⟨?_, ?_⟩
      · rw [cp_o _ _ _ _ _ (by omega), cp_s _ _ _ _ _ hk, o3 _ (by omega), f2 _ (by omega)]; exact x1
      · rw [cp_s _ _ _ _ _ hk, cp_o _ _ _ _ _ (by omega), o3 _ (by omega), f2 _ (by omega)]; exact x2
/-- multiplied, divided, limited -/
theorem S92_3 {L : Nat × Nat} {b c : Nat} {I : It} (hb : b < 10) (hc : c < 256) : E 92 0 [some (.int (nI 3)), some (.int (nI b)), some (.int (nI c))] [] (GG L) I = some (some (.int (nI (min (c * b) 255))), GG L, I) := by
  have hcb : c * b ≤ 255 * 9 := Nat.mul_le_mul (by omega) (by omega)
  rw [B92_0, if_pos (show nI 3 = (3 : Int32) from rfl), nI_mul, B121_0]
  by_cases h : 255 < c * b
  · rw [if_pos (show (255 : Int32) < nI (c * b) from nI_lt (a := 255) h (by omega)), K2_i, B92_14, Nat.min_eq_right (by omega)]; rfl
  · rw [if_neg (show ¬ (255 : Int32) < nI (c * b) from nI_nlt (a := 255) (b := c * b) (by omega) (by omega)), K2_i, B92_14, Nat.min_eq_left (by omega)]
theorem S92_4 {L : Nat × Nat} {b c : Nat} {I : It} (h2 : 2 ≤ b) (hb : b < 10) (hc : c < 256) : E 92 0 [some (.int (nI 4)), some (.int (nI b)), some (.int (nI c))] [] (GG L) I = some (some (.int (nI (c / b))), GG L, I) := by
  have hb0 : ¬ nI b = 0 := nI_ne0 (by omega) (by omega)
  rw [B92_0, if_neg (by decide), if_pos (show nI 4 = (4 : Int32) from rfl), if_pos (show (1 : Int32) ≤ nI b from nI_le (a := 1) (by omega) (by omega)), ck_of (by simp [hb0]), nI_div (by omega) (by omega)]
theorem S92_5 {L : Nat × Nat} {b c : Nat} {I : It} (hb : b < 256) (hc : c < 256) : E 92 0 [some (.int (nI 5)), some (.int (nI b)), some (.int (nI c))] [] (GG L) I = some (some (.int (nI (min c b))), GG L, I) := by
  rw [B92_0, if_neg (by decide), if_neg (by decide), B121_0]
  by_cases h : b < c
  · rw [if_pos (nI_lt h (by omega)), K2_i, B92_38, Nat.min_eq_right (by omega)]
  · rw [if_neg (nI_nlt (by omega) (by omega)), K2_i, B92_38, Nat.min_eq_left (by omega)]
theorem k_stp {L : Nat × Nat} {v : Nat} (hv : v < 6) : kd (GG L) (26 + 10 * v) = 5 := by
  have := wk_1_4 (k_lay (L := L) hv)
  rwa [show 21 + 10 * v + 5 = 26 + 10 * v by omega] at this
/-- one step done to the values -/
theorem V_step {L : Nat × Nat} {d v i c kk a b y z : Nat} {I : It} {u3 u4 : Option Value} (hd : kd (GG L) d = 0) (hv : v < 6) (hi : i < c) (hc : c ≤ 27) (hcI : I (26 + 10 * v) 4 = nI c) (h0 : I (27 + 10 * v) i = nI kk) (h1 : I (28 + 10 * v) i = nI a) (h2 : I (29 + 10 * v) i = nI b) (ha : a < 10) (hkk : 3 ≤ kk) (hkk5 : kk ≤ 5) (hy : I (d + 7) a = nI y)
    (h92 : E 92 0 [some (.int (nI kk)), some (.int (nI b)), some (.int (nI y))] [] (GG L) I = some (some (.int (nI z)), GG L, I)) :
    ∃ u3' u4', E 91 2 [some (.ref (26 + 10 * v)), some (.ref (d + 7)), some (.int (nI i)), u3, u4] [] (GG L) I = E 91 2 [some (.ref (26 + 10 * v)), some (.ref (d + 7)), some (.int (nI (i + 1))), u3', u4'] [] (GG L) (uI I (d + 7) a (nI z)) := by
  have k5 := k_stp (L := L) hv
  have k50 := wk_0_12 hd
  have l50 := wl_0_12 hd
  have b0 := B91_2 (L := L) (o0 := 26 + 10 * v) (o1 := d + 7) (x2 := nI i) (u3 := u3) (u4 := u4) (I := I) k5 k50 l50
  rw [hcI, if_neg (nI_ge hi (by omega)), if_neg (show ¬ (27 : Int32) ≤ nI i from nI_ge (a := i) (b := 27) (by omega) (by decide)), ck_of (inb_nI (by omega) (by decide)), ck_of (inb_nI (by omega) (by decide)), ix_nI (by omega), show 26 + 10 * v + 2 = 28 + 10 * v by omega, show 26 + 10 * v + 3 = 29 + 10 * v by omega, h1, S119, K2_i, tI_t ⟨a, ha, rfl⟩, B91_35 k5 k50 l50, if_neg (by decide), if_pos (show nI a < (10 : Int32) from nI_lt (b := 10) ha (by decide)), ck_of (inb_nI (by omega) (by decide)), ix_nI (by omega), show 26 + 10 * v + 1 = 27 + 10 * v by omega, show 26 + 10 * v + 4 = 30 + 10 * v by omega, h0, nI_1, h2,
    if_neg (show ¬ nI kk = (0 : Int32) from fun q => by have := (nI_eq (a := kk) (b := 0) (by omega) (by decide)).mp q; omega), ck_of (inb_nI (by omega) (by decide)),
    if_neg (show ¬ nI kk = (2 : Int32) from fun q => by have := (nI_eq (a := kk) (b := 2) (by omega) (by decide)).mp q; omega), ck_of (inb_nI (by omega) (by decide)),
    if_neg (show ¬ nI kk = (1 : Int32) from fun q => by have := (nI_eq (a := kk) (b := 1) (by omega) (by decide)).mp q; omega), ck_of (inb_nI (by omega) (by decide)), ck_of (inb_nI ha (by decide)), ix_nI (by omega), hy, h92, K2_i, B91_129 k5 k50 l50 k50 l50, ck_of (inb_nI ha (by decide)), ix_nI (by omega), nI_1] at b0
  exact ⟨_, _, b0⟩
theorem mg1_lt {Z : Nat → Nat → Nat} {w k x : Nat} (h : x < 256) : mg1 Z w k x < 256 := by
  unfold mg1
  split
  · split
    · omega
    · have := Nat.div_le_self x (Z w 2); omega
  · exact h
theorem mg_lt {Z : Nat → Nat → Nat} {w k x : Nat} (h : x < 256) : mg Z w k x < 256 := by
  have := mg1_lt (Z := Z) (w := w) (k := k) h
  unfold mg mg2
  split
  · omega
  · exact this
/-- the two steps of a version done to the values -/
theorem V_ver {L : Nat × Nat} {d v : Nat} {g e Z : Nat → Nat → Nat} {x : Nat → Nat} {I : It} (hd : kd (GG L) d = 0) (hd81 : 81 ≤ d) (h0 : 0 < v) (hv3 : v < 3) (hl : Lv g e Z I v) (hx : ∀ k, k < 3 → x k < 256) (h7 : ∀ j, j < 10 → I (d + 7) j = nV x j) :
    ∃ I', E 91 0 [some (.ref (26 + 10 * v)), some (.ref (d + 7)), none, none, none] [] (GG L) I = some (none, GG L, I') ∧ (∀ a, a ≠ d + 7 → I' a = I a) ∧ ∀ j, j < 10 → I' (d + 7) j = nV (fun k => mg Z v k (x k)) j := by
  obtain ⟨-, q4, q5, q6, q7, q8, q9, q10, z0, z1, z2, z29, z3, z4, -⟩ := hl.2.2 h0
  have k5 := k_stp (L := L) (v := v) (by omega)
  have k50 := wk_0_12 hd
  have l50 := wl_0_12 hd
  have hx1 := hx (Z v 1) z1
  -- the first step
  obtain ⟨I1, hI1⟩ : ∃ I1, uI I (d + 7) (Z v 1) (nI (mg1 Z v (Z v 1) (x (Z v 1)))) = I1 := ⟨_, rfl⟩
  obtain ⟨u3, u4, b1⟩ := V_step (L := L) (v := v) (u3 := none) (u4 := none) (z := mg1 Z v (Z v 1) (x (Z v 1))) hd (by omega) (show 0 < 2 by decide) (by decide) q4 q5 q6 q7 (by omega) (by omega) (by omega) ((h7 _ (by omega)).trans (nV_k z1)) (by
    unfold mg1
    rw [if_pos rfl]
    rcases z0 with z0 | z0
    · rw [z0, if_pos rfl]; exact S92_3 (by omega) hx1
    · rw [z0, if_neg (by decide)]; exact S92_4 z2 (by omega) hx1)
  rw [hI1] at b1
  have o1 : ∀ a, a ≠ d + 7 → I1 a = I a := fun a h => by rw [← hI1, uI_o _ _ _ _ _ h]
  have h71 : ∀ j, j < 10 → I1 (d + 7) j = nV (fun k => mg1 Z v k (x k)) j := fun j hj => by
    rw [← hI1]
    by_cases q : j = Z v 1
    · rw [q, uI_s, nV_k z1]
    · rw [uI_k _ _ _ _ _ q, h7 j hj]
      have e1 : mg1 Z v j (x j) = x j := by unfold mg1; rw [if_neg q]
      show nV x j = if j < 3 then nI (mg1 Z v j (x j)) else -6
      rw [e1]; rfl
  have hy1 := mg1_lt (Z := Z) (w := v) (k := Z v 3) (hx (Z v 3) z3)
  obtain ⟨u3', u4', b2⟩ := V_step (L := L) (v := v) (u3 := u3) (u4 := u4) (z := mg2 Z v (Z v 3) (mg1 Z v (Z v 3) (x (Z v 3)))) hd (by omega) (show 1 < 2 by decide) (by decide) (by rw [o1 _ (by omega)]; exact q4) (by rw [o1 _ (by omega)]; exact q8) (by rw [o1 _ (by omega)]; exact q9) (by rw [o1 _ (by omega)]; exact q10) (by omega) (by decide) (by decide) ((h71 _ (by omega)).trans (nV_k z3)) (by
    unfold mg2
    rw [if_pos rfl]
    exact S92_5 z4 hy1)
  refine ⟨uI I1 (d + 7) (Z v 3) (nI (mg2 Z v (Z v 3) (mg1 Z v (Z v 3) (x (Z v 3))))), ?_, fun a h => by rw [uI_o _ _ _ _ _ h, o1 a h], fun j hj => ?_⟩
  · rw [B91_0 k5 k50 l50]
    refine Eq.trans ?_ (b1.trans (b2.trans ?_))
    · rfl
    · rw [B91_2 k5 k50 l50, uI_a _ _ _ _ _ _ (by omega), o1 _ (by omega), q4, if_pos (Int32.le_refl _)]
  · by_cases q : j = Z v 3
    · rw [q, uI_s, nV_k z3]; rfl
    · rw [uI_k _ _ _ _ _ q, h71 j hj]
      have e1 : mg Z v j (x j) = mg1 Z v j (x j) := by unfold mg mg2; rw [if_neg q]
      show (if j < 3 then nI (mg1 Z v j (x j)) else -6) = if j < 3 then nI (mg Z v j (x j)) else -6
      rw [e1]
/-- values migrated over m versions -/
def mgs (Z : Nat → Nat → Nat) (v : Nat) (x : Nat → Nat) : Nat → (Nat → Nat)
  | 0 => x
  | m + 1 => fun k => mg Z (v + m + 1) k (mgs Z v x m k)
theorem mgs_lt {Z : Nat → Nat → Nat} {v : Nat} {x : Nat → Nat} (hx : ∀ k, k < 3 → x k < 256) : ∀ m k, k < 3 → mgs Z v x m k < 256 := by
  intro m
  induction m with
  | zero => exact hx
  | succ m ih => exact fun k hk => mg_lt (ih k hk)
theorem V_all {L : Nat × Nat} {n d v t : Nat} {g e Z : Nat → Nat → Nat} {x : Nat → Nat} (hd : kd (GG L) d = 0) (hd81 : 81 ≤ d) (hvt : v ≤ t) (ht : t < n) (ht3 : t < 3) (hx : ∀ k, k < 3 → x k < 256) : ∀ (m j : Nat) {I : It} {u2 : Option Value}, m + j = t - v → Ly n g e Z I → (∀ i, i < 10 → I (d + 7) i = nV (mgs Z v x j) i) →
    ∃ I', E 48 5 [some (.ref 9), some (.ref (d + 7)), u2, some (.int (nI t)), some (.int (nI (v + j + 1)))] [] (GG L) I = some (none, GG L, I') ∧ (∀ a, a ≠ d + 7 → I' a = I a) ∧ ∀ i, i < 10 → I' (d + 7) i = nV (mgs Z v x (t - v)) i := by
  intro m
  induction m with
  | zero =>
    intro j I u2 hm hR h7
    have hj : j = t - v := by omega
    subst hj
    refine ⟨I, ?_, fun _ _ => rfl, h7⟩
    rw [B48_5 (wk_0_12 hd) (wl_0_12 hd), if_pos (nI_lt (by omega) (by omega))]
  | succ m ih =>
    intro j I u2 hm hR h7
    have kx := k_lay (L := L) (v := v + j + 1) (by omega)
    have k50 := wk_0_12 hd
    have l50 := wl_0_12 hd
    obtain ⟨I1, e1, o1, h71⟩ := V_ver (L := L) hd hd81 (show 0 < v + j + 1 by omega) (by omega) (hR.2.2.2 (v + j + 1) (by omega) (by omega)) (mgs_lt hx j) h7
    obtain ⟨I2, e2, o2, h72⟩ := ih (j + 1) (I := I1) (u2 := u2) (by omega) (Ly_congr hR (fun a _ ha => o1 a (by omega))) h71
    have e1' : E 91 0 [some (.ref (21 + 10 * (v + j + 1) + 5)), some (.ref (d + 7)), none, none, none] [] (GG L) I = some (none, GG L, I1) := by
      rw [show 21 + 10 * (v + j + 1) + 5 = 26 + 10 * (v + j + 1) by omega]; exact e1
    refine ⟨I2, ?_, fun a q => (o2 a q).trans (o1 a q), h72⟩
    rw [B48_5 k50 l50, if_neg (nI_nlt (by omega) (by omega)), if_neg (show ¬ (6 : Int32) ≤ nI (v + j + 1) from nI_ge (a := v + j + 1) (b := 6) (by omega) (by decide)), S46 hR (by omega), K2_i, B48_24 k50 l50 kx, B42_0 kx k50 l50, e1', K2_v, B42_8, K2_v, B48_28 k50 l50, nI_1]
    exact e2
/-- the values that a migration would give -/
theorem T_mig {L : Nat × Nat} {n d v t : Nat} {g e Z : Nat → Nat → Nat} {x : Nat → Nat} {I : It} {P : Pc} (hd : kd (GG L) d = 0) (hd81 : 81 ≤ d) (hR : Ly n g e Z I) (h : Rd I d P) (h6 : P.2.1 6 = nI v) (hV : P.2.2.2.2.2.1 = nV x) (hx : ∀ k, k < 3 → x k < 256) (hvt : v ≤ t) (ht : t < n) (ht3 : t < 3) :
    ∃ I', E 24 0 [some (.ref d), some (.int (nI t))] [] (GG L) I = some (none, GG L, I') ∧ (∀ a, a ≠ d + 7 → I' a = I a) ∧ ∀ i, i < 10 → I' (d + 7) i = nV (mgs Z v x (t - v)) i := by
  have k50 := wk_0_12 hd
  have l50 := wl_0_12 hd
  obtain ⟨I1, hI1⟩ : ∃ I1, cpI I (d + 5) (d + 7) 0 0 10 = I1 := ⟨_, rfl⟩
  have o1 : ∀ a, a ≠ d + 7 → I1 a = I a := fun a q => by rw [← hI1, cp_o _ _ _ _ _ q]
  have i6 : I d 6 = nI v := (h.2.2.2.1 6 (by decide) (by decide)).trans h6
  obtain ⟨I2, e2, o2, h72⟩ := V_all (L := L) (n := n) (g := g) (e := e) (Z := Z) (x := x) (u2 := some (.int (nI v))) hd hd81 hvt ht ht3 hx (t - v) 0 (I := I1) rfl (Ly_congr hR (fun a _ ha => o1 a (by omega))) (fun i hi => by
    rw [← hI1, cp_s _ _ _ _ _ hi, (h.2.2.2.2.2 i hi).1, hV]; rfl)
  refine ⟨I2, ?_, fun a q => (o2 a q).trans (o1 a q), h72⟩
  rw [B24_0 hd, hI1, o1 d (by omega), i6, B48_0 k50 l50, nI_1]
  exact (congrArg _ e2).trans (by rw [K2_v, B24_31])
/-- the other page filled with migrated values -/
theorem T_move {L : Nat × Nat} {n d a v s r t : Nat} {g e Z : Nat → Nat → Nat} {x : Nat → Nat} {I : It} {P : Pc} (hd : kd (GG L) d = 0) (hd81 : 81 ≤ d) (hR : Ly n g e Z I) (h : Rd I d P) (hg : rga P a v s r) (hV : P.2.2.2.2.2.1 = nV x) (hx : ∀ k, k < 3 → x k < 256) (hvt : v ≤ t) (ht : t < n) (ht3 : t < 3) :
    ∃ I', E 22 0 [some (.ref d), some (.int (nI t))] [] (GG L) I = some (some (.int (nI (fillN e P t (mgs Z v x (t - v))))), GG L, I') ∧ FD d I I' ∧ Rd I' d (fillS e P (1 - a) t ((s + 1) % 200) (mgs Z v x (t - v))) := by
  obtain ⟨g5, g6, g7, g8, ha, hv3, hs, hr15⟩ := hg
  obtain ⟨I1, e1, o1, h71⟩ := T_mig (L := L) hd hd81 hR h g6 hV hx hvt ht ht3
  have f1 : FD d I I1 := fun b hb => o1 b (by omega)
  obtain ⟨I2, e2, f2, h2⟩ := T_fill (L := L) (x := mgs Z v x (t - v)) hd hd81 (Ly_D hR hd81 f1) (Rd_oth h (fun b _ q => o1 b (by omega))) ha hs g5 g7 ht ht3 (mgs_lt hx _) h71
  exact ⟨I2, by rw [B22_0 hd, e1, K2_v, B22_5 hd, e2, K2_i, B22_10], FD_tr f1 f2, h2⟩
/-- the factory's state -/
def rsS (e : Nat → Nat → Nat) (P : Pc) (v : Nat) : Pc :=
  (some none, rg (nI 0) (nI v) (nI 0) (nI 3) (P.2.1 9), (wS 0 (hcl v 0) (eS 1 (eS 0 P))).2.2.1, (wS 0 (hcl v 0) (eS 1 (eS 0 P))).2.2.2.1, (wS 0 (hcl v 0) (eS 1 (eS 0 P))).2.2.2.2.1, nV (e v), m6F)
theorem T_reset {L : Nat × Nat} {n d v : Nat} {g e Z : Nat → Nat → Nat} {I : It} {P : Pc} (hd : kd (GG L) d = 0) (hd81 : 81 ≤ d) (hR : Ly n g e Z I) (h : Rd I d P) (hP : P.1 = some none) (hv : v < n) (hv3 : v < 3) :
    ∃ I', E 25 0 [some (.ref d), some (.int (nI v)), none] [] (GG L) I = some (some (.int (nI 3)), GG L, I') ∧ FD d I I' ∧ Rd I' d (rsS e P v) := by
  obtain ⟨I1, a1, h1, f1⟩ := T_erase (L := L) (p := 0) (k_pg hd (by decide)) (by decide) h
  obtain ⟨I2, a2, h2, f2⟩ := T_erase (L := L) (p := 1) (k_pg hd (by decide)) (by decide) h1
  obtain ⟨I3, a3, h3, f3⟩ := T_head (L := L) (p := 0) (v := v) (s := 0) hd (k_pg hd (by decide)) (by decide) h2
  have fD : FD d I I3 := FD_tr (FD_tr (FD_I f1) (FD_I f2)) (FD_I f3)
  have hcn : cn (eS 1 (eS 0 P)).1 3 = 3 := by show cn P.1 3 = 3; rw [hP]; rfl
  have a3' : E 28 0 [some (.ref d), some (.ref (d + 1)), some (.int (nI v)), some (.int 0), none] [] (GG L) I2 = some (some (.int (nI (cn (eS 1 (eS 0 P)).1 3))), GG L, I3) := a3
  have hpw : (wS 0 (hcl v 0) (eS 1 (eS 0 P))).1 = some none := by show pa P.1 3 = _; rw [hP]; rfl
  have i3 : ¬ I3 d 3 = 0 := by rw [h3.1, hpw]; decide
  have h4 := Rd_reg (k := 8) (x := 3) (Rd_reg (k := 7) (x := 0) (Rd_reg (k := 6) (x := nI v) (Rd_reg (k := 5) (x := 0) h3 (by decide)) (by decide)) (by decide)) (by decide)
  have f4 : FD d I3 (uI (uI (uI (uI I3 d 5 0) d 6 (nI v)) d 7 0) d 8 3) := FD_tr (FD_tr (FD_tr (FD_u (by omega) (by omega)) (FD_u (by omega) (by omega))) (FD_u (by omega) (by omega))) (FD_u (by omega) (by omega))
  obtain ⟨I5, a5, f5, h5⟩ := T_defaults (L := L) (Ly_D hR hd81 (FD_tr fD f4)) hd hd81 hv hv3 h4 (by simp [up])
  refine ⟨I5, ?_, FD_tr fD (FD_tr f4 f5), ?_⟩
  · have a1' : E 70 0 [some (.ref (d + 1)), none] [] (GG L) I = some (none, GG L, I1) := a1
    have a2' : E 70 0 [some (.ref (d + 3)), none] [] (GG L) I1 = some (none, GG L, I2) := a2
    rw [B25_0 hd, a1', K2_v, B25_7 hd, a2', K2_v, B25_14 hd, a3', K2_i, B25_24 hd, if_neg i3, a5, K2_v, B25_56, hcn]
  · unfold rsS
    refine Rd_eq h5 hpw.symm (fun j q5 q10 => ?_) (fun _ _ => ⟨rfl, rfl⟩) (fun _ _ _ _ => rfl) (fun _ _ => ⟨rfl, rfl⟩)
    have : j = 5 ∨ j = 6 ∨ j = 7 ∨ j = 8 ∨ j = 9 := by omega
    rcases this with rfl | rfl | rfl | rfl | rfl <;> simp [up, rg] <;> rfl
