/-- a layout in the class, as its rows are in the reference -/
def Ly (I J : It) (v : Nat) : Prop := ∀ k, k < 10 → (J 125 (10 * v + k) = 0 ∨ J 125 (10 * v + k) = 1) ∧ I (22 + 10 * v) k = J 125 (10 * v + k) ∧ I (23 + 10 * v) k = J 126 (10 * v + k) ∧ byt (J 126 (10 * v + k)) ∧ I (24 + 10 * v) k = J 127 (10 * v + k) ∧ byt (J 127 (10 * v + k)) ∧ I (25 + 10 * v) k = J 128 (10 * v + k)
/-- the settings that are there -/
def nz (J : It) (v : Nat) (a : Nat) : Bool := !decide (J 125 (10 * v + a) = 0)
theorem nz_t {J : It} {v a : Nat} : nz J v a = true ↔ J 125 (10 * v + a) ≠ 0 := by unfold nz; simp
/-- rows of the reference that are kept outside a version -/
def Ko (v : Nat) (J J' : It) : Prop := (∀ a, a < 125 ∨ 128 < a → J' a = J a) ∧ ∀ i, i < 10 * v ∨ 10 * v + 10 ≤ i → J' 125 i = J 125 i ∧ J' 126 i = J 126 i ∧ J' 127 i = J 127 i ∧ J' 128 i = J 128 i
theorem Ko_tr {v : Nat} {J1 J2 J3 : It} (h : Ko v J1 J2) (h' : Ko v J2 J3) : Ko v J1 J3 := ⟨fun a q => (h'.1 a q).trans (h.1 a q), fun i q => ⟨(h'.2 i q).1.trans (h.2 i q).1, (h'.2 i q).2.1.trans (h.2 i q).2.1, (h'.2 i q).2.2.1.trans (h.2 i q).2.2.1, (h'.2 i q).2.2.2.trans (h.2 i q).2.2.2⟩⟩
theorem k_125 {L : Nat} : kd (GG L) 125 = 51 := by rw [GG_kd L (by decide) (by decide)]; decide +kernel
theorem l_125 {L : Nat} : ln (GG L) 125 = 60 := by rw [GG_ln L (by decide) (by decide)]; decide +kernel
theorem k_126 {L : Nat} : kd (GG L) 126 = 50 := by rw [GG_kd L (by decide) (by decide)]; decide +kernel
theorem l_126 {L : Nat} : ln (GG L) 126 = 60 := by rw [GG_ln L (by decide) (by decide)]; decide +kernel
theorem k_127 {L : Nat} : kd (GG L) 127 = 50 := by rw [GG_kd L (by decide) (by decide)]; decide +kernel
theorem l_127 {L : Nat} : ln (GG L) 127 = 60 := by rw [GG_ln L (by decide) (by decide)]; decide +kernel
/-- what one step does to a layout, on both sides: the update of four rows at one name -/
theorem Ly_u {I J : It} {v m : Nat} {b g u w : Int32} (hm : m < 10) (hl : Ly I J v) (hb : b = 0 ∨ b = 1) (hg : byt g) (hu : byt u) : Ly (uI (uI (uI (uI I (22 + 10 * v) m b) (23 + 10 * v) m g) (24 + 10 * v) m u) (25 + 10 * v) m w) (uI (uI (uI (uI J 125 (10 * v + m) b) 126 (10 * v + m) g) 127 (10 * v + m) u) 128 (10 * v + m) w) v := by
  intro k hk
  obtain ⟨t1, t2, t3, t4, t5, t6, t7⟩ := hl k hk
  have n1 : ∀ x y : Nat, x < y → (x = y) = False := fun x y h => by simp; omega
  by_cases q : k = m
  · subst q
    simp [uI, hb, hg, hu]
  · have q' : ¬ 10 * v + k = 10 * v + m := by omega
    simp [uI, q, t1, t2, t3, t4, t5, t6, t7]
theorem Ko_u {J : It} {v m : Nat} {b g u w : Int32} (hm : m < 10) : Ko v J (uI (uI (uI (uI J 125 (10 * v + m) b) 126 (10 * v + m) g) 127 (10 * v + m) u) 128 (10 * v + m) w) := by
  refine ⟨fun a q => ?_, fun i q => ?_⟩
  · rw [uI_o _ _ _ _ _ (by omega), uI_o _ _ _ _ _ (by omega), uI_o _ _ _ _ _ (by omega), uI_o _ _ _ _ _ (by omega)]
  · have q' : ¬ i = 10 * v + m := by omega
    simp [uI, q']
theorem fI_u {I : It} {v m : Nat} {b g u w : Int32} : ∀ a, a < 22 + 10 * v ∨ 25 + 10 * v < a → uI (uI (uI (uI I (22 + 10 * v) m b) (23 + 10 * v) m g) (24 + 10 * v) m u) (25 + 10 * v) m w a = I a := fun a q => by
  rw [uI_o _ _ _ _ _ (by omega), uI_o _ _ _ _ _ (by omega), uI_o _ _ _ _ _ (by omega), uI_o _ _ _ _ _ (by omega)]
/-- a write of what is there already -/
theorem uI_id {I : It} {o k : Nat} {x : Int32} (h : I o k = x) : uI I o k x = I := by
  funext a j
  unfold uI
  by_cases h1 : a = o
  · rw [if_pos h1]
    by_cases h2 : j = k
    · rw [if_pos h2, h1, h2, h]
    · rw [if_neg h2]
  · rw [if_neg h1]
theorem nz_u {J : It} {v m x : Nat} {b g u w : Int32} (hx : x ≠ m) : nz (uI (uI (uI (uI J 125 (10 * v + m) b) 126 (10 * v + m) g) 127 (10 * v + m) u) 128 (10 * v + m) w) v x = nz J v x := by
  unfold nz
  have : ¬ 10 * v + x = 10 * v + m := by omega
  simp [uI, this, hx]
/-- multiplying, dividing or limiting one setting of a layout, on both sides -/
theorem D_scale {L v s k m A B : Nat} {I J : It} (hv : v < 6) (hs : s < 168) (hl : Ly I J v) (hm : m < 10) (hk : k = 3 ∨ k = 4 ∨ k = 5) (hc1 : nI k = 4 → 1 ≤ nI A) (hc2 : nI k = 3 ∨ nI k = 4 → ∃ f, 2 ≤ f ∧ f ≤ 9 ∧ nI A = nI f) (hc3 : nI k ≠ 3 → nI k ≠ 4 → byt (nI A)) (h0 : J 130 s = nI k) (h1 : J 131 s = nI m) (h2 : J 132 s = nI A) :
    (E 90 0 [some (.ref (21 + 10 * v)), some (.int (nI k)), some (.int (nI m)), some (.int (nI A)), some (.int (nI B))] [] (GG L) I = some (some (.int 0), GG L, I) ∧ E 126 0 [some (.ref 119), some (.int (nI s)), some (.int (nI v)), none] [] (GG L) J = some (some (.int 0), GG L, J)) ∨
    ∃ I' J', E 90 0 [some (.ref (21 + 10 * v)), some (.int (nI k)), some (.int (nI m)), some (.int (nI A)), some (.int (nI B))] [] (GG L) I = some (some (.int 1), GG L, I') ∧ E 126 0 [some (.ref 119), some (.int (nI s)), some (.int (nI v)), none] [] (GG L) J = some (some (.int 1), GG L, J) ∧ E 127 0 [some (.ref 119), some (.int (nI s)), some (.int (nI v)), none, none] [] (GG L) J = some (none, GG L, J') ∧ Ly I' J' v ∧ (∀ a, a < 22 + 10 * v ∨ 25 + 10 * v < a → I' a = I a) ∧ Ko v J J' ∧ St J s (nz J v) (nz J' v) := by
  have hlay := k_lay (L := L) hv
  obtain ⟨t1, t2, t3, t4, t5, t6, t7⟩ := hl m hm
  have o1 : 21 + 10 * v + 1 = 22 + 10 * v := by omega
  have o2 : 21 + 10 * v + 2 = 23 + 10 * v := by omega
  have o3 : 21 + 10 * v + 3 = 24 + 10 * v := by omega
  have kk2 := wk_1_1 hlay
  have ll2 := wl_1_1 hlay
  have kk3 := wk_1_2 hlay
  have ll3 := wl_1_2 hlay
  rw [o2] at kk2 ll2
  rw [o3] at kk3 ll3
  have n10 : ¬ (1 : Int32) = 0 := by decide
  have hsw : swt (nI k).toInt 0 [28, 37, 43] 50 = 50 := by rcases hk with rfl | rfl | rfl <;> rfl
  have hsw2 : swt (nI k).toInt 0 [44, 86, 96] 166 = 166 := by rcases hk with rfl | rfl | rfl <;> rfl
  have nk0 : ¬ nI k = 0 := by rcases hk with rfl | rfl | rfl <;> decide
  have nk2 : ¬ nI k = 2 := by rcases hk with rfl | rfl | rfl <;> decide
  have b0 := B90_0 (L := L) (o0 := 21 + 10 * v) (x1 := nI k) (x2 := nI m) (x3 := nI A) (x4 := nI B) (I := I) hlay
  have b1 := B126_0 (L := L) (x1 := nI s) (x2 := nI v) (I := J)
  have b2 := B127_0 (L := L) (x1 := nI s) (x2 := nI v) (I := J)
  rw [ck_of (inb_nI hs (by decide)), ix_nI (by omega), h1, S124k hv hm, K2_i, B126_11, ck_of (inb_nI hs (by decide)), ck_of (inb_nI hs (by decide)), ck_of (inb_nI hs (by decide)), ck_of (inb_nI hs (by decide)), ck_of (inb_nI hs (by decide)), ix_nI (by omega), h0, if_neg nk0, if_neg nk2] at b1
  rw [ck_of (inb_nI hs (by decide)), ck_of (inb_nI hs (by decide)), ix_nI (by omega), h0, h1, i_10, hsw2, B127_166, ck_of (inb_nI hs (by decide)), ck_of (inb_nI (by omega) (by decide)), ck_of (inb_nI hs (by decide)), ix_nI (by omega), ix_nI (by omega), h0, h2, S125 hc1, K2_i, B127_192 k_126 l_126, ck_of (inb_nI (by omega) (by decide)), ck_of (inb_nI hs (by decide)), ck_of (inb_nI (by omega) (by decide)), ck_of (inb_nI hs (by decide)), ix_nI (by omega), ix_nI (by omega), uI_a _ 126 _ _ 130 _ (by decide), uI_a _ 126 _ _ 127 _ (by decide), uI_a _ 126 _ _ 132 _ (by decide), h0, h2, S125 hc1, K2_i, B127_219 k_127 l_127, ck_of (inb_nI (by omega) (by decide)), ix_nI (by omega)] at b2
  have e32 : E 32 0 [some (.ref (21 + 10 * v)), some (.int (nI m))] [] (GG L) I = some (some (.int (tI (J 125 (10 * v + m) ≠ 0))), GG L, I) := by
    rw [S32k hlay hm, o1, t2]
  rw [hsw, B90_50 hlay, B41_0 hlay, e32, K2_i, B41_5 hlay] at b0
  by_cases hT : J 125 (10 * v + m) = 0
  · rw [tI_f (fun q => q hT), if_pos rfl, K2_i, B90_57, ck_of (by decide)] at b0
    rw [tI_f (fun q => q hT), if_pos rfl] at b1
    exact Or.inl ⟨b0, b1⟩
  · rw [tI_t hT, if_neg n10, ck_of (inb_nI hm (by decide)), o2, ix_nI (by omega), S92 hc1, K2_i, B41_26 hlay kk2 ll2, ck_of (inb_nI hm (by decide)), ck_of (inb_nI hm (by decide)), o3, ix_nI (by omega), uI_a _ _ _ _ (24 + 10 * v) _ (by omega), S92 hc1, K2_i, B41_43 kk3 ll3, ck_of (inb_nI hm (by decide)), ix_nI (by omega), K2_i, B90_57, ck_of (by decide)] at b0
    rw [tI_t hT, if_neg n10] at b1
    rw [t3, t5] at b0
    obtain ⟨g, hg⟩ : ∃ g, chg (nI k) (J 126 (10 * v + m)) (nI A) = g := ⟨_, rfl⟩
    obtain ⟨u, hu⟩ : ∃ u, chg (nI k) (J 127 (10 * v + m)) (nI A) = u := ⟨_, rfl⟩
    have hgb : byt g := hg ▸ chg_byt t4 hc2 hc3
    have hub : byt u := hu ▸ chg_byt t6 hc2 hc3
    rw [hg, hu] at b0 b2
    have eI : uI (uI I (23 + 10 * v) m g) (24 + 10 * v) m u = uI (uI (uI (uI I (22 + 10 * v) m (I (22 + 10 * v) m)) (23 + 10 * v) m g) (24 + 10 * v) m u) (25 + 10 * v) m (I (25 + 10 * v) m) := by
      rw [uI_id (I := I) (o := 22 + 10 * v) (k := m) rfl, uI_id (o := 25 + 10 * v) (by rw [uI_a _ _ _ _ _ _ (by omega), uI_a _ _ _ _ _ _ (by omega)])]
    have eJ : uI (uI J 126 (10 * v + m) g) 127 (10 * v + m) u = uI (uI (uI (uI J 125 (10 * v + m) (I (22 + 10 * v) m)) 126 (10 * v + m) g) 127 (10 * v + m) u) 128 (10 * v + m) (I (25 + 10 * v) m) := by
      rw [uI_id (I := J) (o := 125) (k := 10 * v + m) t2.symm, uI_id (o := 128) (by rw [uI_a _ _ _ _ _ _ (by decide), uI_a _ _ _ _ _ _ (by decide)]; exact t7.symm)]
    rw [eI] at b0
    rw [eJ] at b2
    have hsub : ∀ x, nz (uI (uI (uI (uI J 125 (10 * v + m) (I (22 + 10 * v) m)) 126 (10 * v + m) g) 127 (10 * v + m) u) 128 (10 * v + m) (I (25 + 10 * v) m)) v x = true → nz J v x = true := fun x hx' => by
      by_cases q : x = m
      · subst q; exact nz_t.mpr hT
      · rw [nz_u q] at hx'; exact hx'
    refine Or.inr ⟨_, _, b0, b1, b2, Ly_u hm hl (t2.symm ▸ t1) hgb hub, fI_u, Ko_u hm, m, hm, h1, ?_⟩
    rcases hk with rfl | rfl | rfl
    · exact Or.inr (Or.inr (Or.inr (Or.inl ⟨Or.inl h0, nz_t.mpr hT, h2.symm ▸ hc2 (Or.inl rfl), hsub⟩)))
    · exact Or.inr (Or.inr (Or.inr (Or.inl ⟨Or.inr h0, nz_t.mpr hT, h2.symm ▸ hc2 (Or.inr rfl), hsub⟩)))
    · exact Or.inr (Or.inr (Or.inr (Or.inr ⟨h0, nz_t.mpr hT, h2.symm ▸ hc3 (by decide) (by decide), hsub⟩)))
set_option maxHeartbeats 2000000 in
theorem D_step {L v s k m A B : Nat} {I J : It} (hv : v < 6) (hs : s < 168) (hl : Ly I J v) (hS : Sk k m A B) (h0 : J 130 s = nI k) (h1 : J 131 s = nI m) (h2 : J 132 s = nI A) (h3 : J 133 s = nI B) :
    (E 90 0 [some (.ref (21 + 10 * v)), some (.int (nI k)), some (.int (nI m)), some (.int (nI A)), some (.int (nI B))] [] (GG L) I = some (some (.int 0), GG L, I) ∧ E 126 0 [some (.ref 119), some (.int (nI s)), some (.int (nI v)), none] [] (GG L) J = some (some (.int 0), GG L, J)) ∨
    ∃ I' J', E 90 0 [some (.ref (21 + 10 * v)), some (.int (nI k)), some (.int (nI m)), some (.int (nI A)), some (.int (nI B))] [] (GG L) I = some (some (.int 1), GG L, I') ∧ E 126 0 [some (.ref 119), some (.int (nI s)), some (.int (nI v)), none] [] (GG L) J = some (some (.int 1), GG L, J) ∧ E 127 0 [some (.ref 119), some (.int (nI s)), some (.int (nI v)), none, none] [] (GG L) J = some (none, GG L, J') ∧ Ly I' J' v ∧ (∀ a, a < 22 + 10 * v ∨ 25 + 10 * v < a → I' a = I a) ∧ Ko v J J' ∧ St J s (nz J v) (nz J' v) := by
  have hk := k_lay (L := L) hv
  obtain ⟨hm, hcase⟩ := hS
  obtain ⟨t1, t2, t3, t4, t5, t6, t7⟩ := hl m hm
  have o1 : 21 + 10 * v + 1 = 22 + 10 * v := by omega
  have o2 : 21 + 10 * v + 2 = 23 + 10 * v := by omega
  have o3 : 21 + 10 * v + 3 = 24 + 10 * v := by omega
  have o4 : 21 + 10 * v + 4 = 25 + 10 * v := by omega
  have n10 : ¬ (1 : Int32) = 0 := by decide
  have b0 := B90_0 (L := L) (o0 := 21 + 10 * v) (x1 := nI k) (x2 := nI m) (x3 := nI A) (x4 := nI B) (I := I) hk
  have b1 := B126_0 (L := L) (x1 := nI s) (x2 := nI v) (I := J)
  have b2 := B127_0 (L := L) (x1 := nI s) (x2 := nI v) (I := J)
  rw [ck_of (inb_nI hs (by decide)), ix_nI (by omega), h1, S124k hv hm, K2_i, B126_11, ck_of (inb_nI hs (by decide)), ck_of (inb_nI hs (by decide)), ck_of (inb_nI hs (by decide)), ck_of (inb_nI hs (by decide)), ck_of (inb_nI hs (by decide)), ix_nI (by omega), h0, h2, h3] at b1
  rw [ck_of (inb_nI hs (by decide)), ck_of (inb_nI hs (by decide)), ix_nI (by omega), h0, h1, i_10] at b2
  have e32 : E 32 0 [some (.ref (21 + 10 * v)), some (.int (nI m))] [] (GG L) I = some (some (.int (tI (J 125 (10 * v + m) ≠ 0))), GG L, I) := by
    rw [S32k hk hm, o1, t2]
  rcases hcase with ⟨rfl, hA, hB⟩ | ⟨rfl, rfl, rfl⟩ | ⟨rfl, hA, rfl⟩ | ⟨hkk, hA2, hA9, rfl⟩ | ⟨rfl, hA, rfl⟩
  · -- adding
    rw [show swt (nI 0).toInt 0 [28, 37, 43] 50 = 28 from rfl, B90_28 hk, B38_0 hk, S119, K2_i, tI_t ⟨m, hm, rfl⟩, B38_4 hk, if_neg n10, ck_of (inb_nI hm (by decide)), ck_of (inb_nI hm (by decide)), ck_of (inb_nI hm (by decide)), ck_of (inb_nI hm (by decide)), ck_of (inb_nI hm (by decide)), ix_nI (by omega), o1, o2, o3, o4, t2] at b0
    rw [if_pos (show nI 0 = (0 : Int32) from rfl)] at b1
    by_cases hT : J 125 (10 * v + m) = 0
    · rw [if_pos hT] at b0
      rw [tI_f (fun q => q hT), if_pos rfl] at b1
      by_cases hBA : B ≤ A
      · rw [if_pos (nI_le hBA (by omega)), K2_i, B90_36, ck_of (by decide)] at b0
        rw [if_neg (nI_nlt hBA (by omega))] at b1
        rw [show swt (nI 0).toInt 0 [44, 86, 96] 166 = 44 from rfl, B127_44, ck_of (inb_nI (by omega) (by decide)), ck_of (inb_nI hs (by decide)), ck_of (inb_nI (by omega) (by decide)), ck_of (inb_nI hs (by decide)), ck_of (inb_nI (by omega) (by decide)), ck_of (inb_nI (by omega) (by decide)), ix_nI (by omega), ix_nI (by omega), uI_a _ 125 _ _ 132 _ (by decide), uI_a _ 126 _ _ 133 _ (by decide), uI_a _ 125 _ _ 133 _ (by decide), h2, h3] at b2
        refine Or.inr ⟨_, _, b0, b1, b2, Ly_u hm hl (Or.inr rfl) ⟨A, hA, rfl⟩ ⟨B, hB, rfl⟩, fI_u, Ko_u hm, m, hm, h1, Or.inl ⟨h0, h3 ▸ ⟨B, hB, rfl⟩, fun x hx hx' => ?_⟩⟩
        rw [nz_u hx] at hx'
        exact hx'
      · rw [if_neg (nI_ge (show A < B by omega) (by omega)), K2_i, B90_36, ck_of (by decide)] at b0
        rw [if_pos (nI_lt (show A < B by omega) (by omega))] at b1
        exact Or.inl ⟨b0, b1⟩
    · rw [if_neg hT, K2_i, B90_36, ck_of (by decide)] at b0
      rw [tI_t hT, if_neg n10] at b1
      exact Or.inl ⟨b0, b1⟩
  · -- dropping
    rw [show swt (nI 1).toInt 0 [28, 37, 43] 50 = 37 from rfl, B90_37 hk, B39_0 hk, e32, K2_i, B39_5 hk, ck_of (inb_nI hm (by decide)), ix_nI (by omega), o1] at b0
    rw [if_neg (show ¬ nI 1 = (0 : Int32) by decide), if_neg (show ¬ nI 1 = (2 : Int32) by decide)] at b1
    by_cases hT : J 125 (10 * v + m) = 0
    · rw [tI_f (fun q => q hT), if_pos rfl, K2_i, B90_42, ck_of (by decide)] at b0
      rw [tI_f (fun q => q hT), if_pos rfl] at b1
      exact Or.inl ⟨b0, b1⟩
    · rw [tI_t hT, if_neg n10, K2_i, B90_42, ck_of (by decide)] at b0
      rw [tI_t hT, if_neg n10] at b1
      rw [show swt (nI 1).toInt 0 [44, 86, 96] 166 = 86 from rfl, B127_86, ck_of (inb_nI (by omega) (by decide)), ix_nI (by omega)] at b2
      have eI : uI I (22 + 10 * v) m 0 = uI (uI (uI (uI I (22 + 10 * v) m 0) (23 + 10 * v) m (I (23 + 10 * v) m)) (24 + 10 * v) m (I (24 + 10 * v) m)) (25 + 10 * v) m (I (25 + 10 * v) m) := by
        rw [uI_id (o := 23 + 10 * v) (uI_a _ _ _ _ _ _ (by omega)), uI_id (o := 24 + 10 * v) (uI_a _ _ _ _ _ _ (by omega)), uI_id (o := 25 + 10 * v) (uI_a _ _ _ _ _ _ (by omega))]
      have eJ : uI J 125 (10 * v + m) 0 = uI (uI (uI (uI J 125 (10 * v + m) 0) 126 (10 * v + m) (I (23 + 10 * v) m)) 127 (10 * v + m) (I (24 + 10 * v) m)) 128 (10 * v + m) (I (25 + 10 * v) m) := by
        rw [t3, t5, t7, uI_id (o := 126) (uI_a _ _ _ _ _ _ (by decide)), uI_id (o := 127) (uI_a _ _ _ _ _ _ (by decide)), uI_id (o := 128) (uI_a _ _ _ _ _ _ (by decide))]
      rw [eI] at b0
      rw [eJ] at b2
      refine Or.inr ⟨_, _, b0, b1, b2, Ly_u hm hl (Or.inl rfl) (t3 ▸ t4) (t5 ▸ t6), fI_u, Ko_u hm, m, hm, h1, Or.inr (Or.inl ⟨h0, fun x hx' => ?_⟩)⟩
      by_cases q : x = m
      · subst q; exact nz_t.mpr hT
      · rw [nz_u q] at hx'
        exact hx'
  · -- renaming
    rw [show swt (nI 2).toInt 0 [28, 37, 43] 50 = 43 from rfl, B90_43 hk, B40_0 hk, e32, K2_i, B40_5 hk] at b0
    rw [if_neg (show ¬ nI 2 = (0 : Int32) by decide), if_pos (show nI 2 = (2 : Int32) from rfl), S124k hv hA, K2_i, B126_71] at b1
    by_cases hT : J 125 (10 * v + m) = 0
    · rw [tI_f (fun q => q hT), if_pos rfl, K2_i, B90_49, ck_of (by decide)] at b0
      rw [tI_f (P := J 125 (10 * v + m) ≠ 0) (fun q => q hT), if_pos rfl] at b1
      exact Or.inl ⟨b0, b1⟩
    · obtain ⟨y1, y2, y3, y4, y5, y6, y7⟩ := hl A hA
      rw [tI_t hT, if_neg n10, S119, K2_i, tI_t ⟨A, hA, rfl⟩, B40_12 hk, if_neg n10, ck_of (inb_nI hA (by decide)), ck_of (inb_nI hm (by decide)), ck_of (inb_nI hA (by decide)), ck_of (inb_nI hm (by decide)), ck_of (inb_nI hA (by decide)), ck_of (inb_nI hm (by decide)), ck_of (inb_nI hA (by decide)), ck_of (inb_nI hm (by decide)), ck_of (inb_nI hA (by decide)), ix_nI (by omega), ix_nI (by omega), o1, o2, o3, o4, y2] at b0
      rw [tI_t (P := J 125 (10 * v + m) ≠ 0) hT, if_neg n10] at b1
      by_cases hTA : J 125 (10 * v + A) = 0
      · have hAm : A ≠ m := fun e => hT (e ▸ hTA)
        rw [if_pos hTA, K2_i, B90_49, ck_of (by decide)] at b0
        rw [tI_f (fun q => q hTA), if_pos rfl] at b1
        rw [show swt (nI 2).toInt 0 [44, 86, 96] 166 = 96 from rfl, B127_96, ck_of (inb_nI hs (by decide)), ix_nI (by omega), h2, i_10, ck_of (inb_nI (by omega) (by decide)), ck_of (inb_nI (by omega) (by decide)), ck_of (inb_nI (by omega) (by decide)), ck_of (inb_nI (by omega) (by decide)), ck_of (inb_nI (by omega) (by decide)), ck_of (inb_nI (by omega) (by decide)), ck_of (inb_nI (by omega) (by decide)), ck_of (inb_nI (by omega) (by decide)), ix_nI (by omega), ix_nI (by omega)] at b2
        -- first the drop, then the new name
        obtain ⟨I1, hI1⟩ : ∃ I1, uI I (22 + 10 * v) m 0 = I1 := ⟨_, rfl⟩
        obtain ⟨J1, hJ1⟩ : ∃ J1, uI J 125 (10 * v + m) 0 = J1 := ⟨_, rfl⟩
        have eI : I1 = uI (uI (uI (uI I (22 + 10 * v) m 0) (23 + 10 * v) m (I (23 + 10 * v) m)) (24 + 10 * v) m (I (24 + 10 * v) m)) (25 + 10 * v) m (I (25 + 10 * v) m) := by
          rw [uI_id (o := 23 + 10 * v) (uI_a _ _ _ _ _ _ (by omega)), uI_id (o := 24 + 10 * v) (uI_a _ _ _ _ _ _ (by omega)), uI_id (o := 25 + 10 * v) (uI_a _ _ _ _ _ _ (by omega)), hI1]
        have eJ : J1 = uI (uI (uI (uI J 125 (10 * v + m) 0) 126 (10 * v + m) (I (23 + 10 * v) m)) 127 (10 * v + m) (I (24 + 10 * v) m)) 128 (10 * v + m) (I (25 + 10 * v) m) := by
          rw [t3, t5, t7, uI_id (o := 126) (uI_a _ _ _ _ _ _ (by decide)), uI_id (o := 127) (uI_a _ _ _ _ _ _ (by decide)), uI_id (o := 128) (uI_a _ _ _ _ _ _ (by decide)), hJ1]
        have hl1 : Ly I1 J1 v := by rw [eI, eJ]; exact Ly_u hm hl (Or.inl rfl) (t3 ▸ t4) (t5 ▸ t6)
        have fI1 : ∀ a, a < 22 + 10 * v ∨ 25 + 10 * v < a → I1 a = I a := by rw [eI]; exact fI_u
        have kJ1 : Ko v J J1 := by rw [eJ]; exact Ko_u hm
        have nz1 : ∀ x, nz J1 v x = true → nz J v x = true := fun x hx' => by
          by_cases q : x = m
          · subst q; exact nz_t.mpr hT
          · rw [eJ, nz_u q] at hx'; exact hx'
        obtain ⟨z1, z2, z3, z4, z5, z6, z7⟩ := hl1 m hm
        rw [hI1] at b0
        rw [hJ1] at b2
        have w1 : ∀ (X : It) (o o' j j' : Nat) (x : Int32), o' ≠ o → uI X o j x o' j' = X o' j' := fun X o o' j j' x h => uI_a X o j x o' j' h
        have w2 : ∀ (X : It) (o : Nat) (x : Int32), uI X o A x o m = X o m := fun X o x => uI_k X o A x m (Ne.symm hAm)
        have w3 : ∀ (X : It) (o : Nat) (x : Int32), uI X o (10 * v + A) x o (10 * v + m) = X o (10 * v + m) := fun X o x => uI_k X o _ x _ (by omega)
        simp only [w1 _ (22 + 10 * v) (23 + 10 * v) _ _ _ (by omega), w1 _ (22 + 10 * v) (24 + 10 * v) _ _ _ (by omega), w1 _ (22 + 10 * v) (25 + 10 * v) _ _ _ (by omega), w1 _ (23 + 10 * v) (24 + 10 * v) _ _ _ (by omega), w1 _ (23 + 10 * v) (25 + 10 * v) _ _ _ (by omega), w1 _ (24 + 10 * v) (25 + 10 * v) _ _ _ (by omega)] at b0
        simp only [w1 _ 125 126 _ _ _ (by decide), w1 _ 125 127 _ _ _ (by decide), w1 _ 125 128 _ _ _ (by decide), w1 _ 126 127 _ _ _ (by decide), w1 _ 126 128 _ _ _ (by decide), w1 _ 127 128 _ _ _ (by decide), ← z3, ← z5, ← z7] at b2
        refine Or.inr ⟨_, _, b0, b1, b2, Ly_u hA hl1 (Or.inr rfl) (z3 ▸ z4) (z5 ▸ z6), fun a q => (fI_u a q).trans (fI1 a q), Ko_tr kJ1 (Ko_u hA), m, hm, h1, Or.inr (Or.inr (Or.inl ⟨h0, nz_t.mpr hT, A, hA, h2, fun x hx hx' => ?_⟩))⟩
        rw [nz_u hx] at hx'
        exact nz1 x hx'
      · rw [if_neg hTA, K2_i, B90_49, ck_of (by decide)] at b0
        rw [tI_t hTA, if_neg n10] at b1
        exact Or.inl ⟨b0, b1⟩
  · -- multiplying, dividing
    exact D_scale hv hs hl hm (by omega) (fun _ => nI_le (a := 1) (by omega) (by omega)) (fun _ => ⟨A, hA2, hA9, rfl⟩) (fun n3 n4 => by
      rcases hkk with rfl | rfl
      · exact absurd rfl n3
      · exact absurd rfl n4) h0 h1 h2
  · -- limiting
    exact D_scale hv hs hl hm (by omega) (fun e => absurd e (by decide)) (fun e => by rcases e with e | e <;> exact absurd e (by decide)) (fun _ _ => ⟨A, hA, rfl⟩) h0 h1 h2
/-- the class's copy of a layout -/
theorem S37 {L o0 o1 : Nat} (h0 : kd (GG L) o0 = 1) (h1 : kd (GG L) o1 = 1) (hne : o1 + 5 ≤ o0) : ∀ (m k : Nat) (I : It), m + k = 10 → (∀ j, j < 10 → b01 (I (o1 + 1) j) = true) → ∃ I', E 37 2 [some (.ref o0), some (.ref o1), some (.ref 4), some (.int (nI k))] [] (GG L) I = E 37 2 [some (.ref o0), some (.ref o1), some (.ref 4), some (.int (nI 10))] [] (GG L) I' ∧ (∀ a, a < o0 + 1 ∨ o0 + 4 < a → I' a = I a) ∧ ∀ j, j < 10 → I' (o0 + 1) j = (if k ≤ j then I (o1 + 1) j else I (o0 + 1) j) ∧ I' (o0 + 2) j = (if k ≤ j then I (o1 + 2) j else I (o0 + 2) j) ∧ I' (o0 + 3) j = (if k ≤ j then I (o1 + 3) j else I (o0 + 3) j) ∧ I' (o0 + 4) j = (if k ≤ j then nI j else I (o0 + 4) j) := by
  intro m
  induction m with
  | zero =>
    intro k I hm hb
    have hk : k = 10 := by omega
    subst hk
    refine ⟨I, rfl, fun _ _ => rfl, fun j hj => ⟨?_, ?_, ?_, ?_⟩⟩ <;> rw [if_neg (by omega)]
  | succ m ih =>
    intro k I hm hb
    obtain ⟨I1, hI1⟩ : ∃ I1, uI (uI (uI (uI I (o0 + 1) k (I (o1 + 1) k)) (o0 + 2) k (I (o1 + 2) k)) (o0 + 3) k (I (o1 + 3) k)) (o0 + 4) k (nI k) = I1 := ⟨_, rfl⟩
    have f1 : ∀ a, a < o0 + 1 ∨ o0 + 4 < a → I1 a = I a := fun a q => by rw [← hI1, uI_o _ _ _ _ _ (by omega), uI_o _ _ _ _ _ (by omega), uI_o _ _ _ _ _ (by omega), uI_o _ _ _ _ _ (by omega)]
    have x1 : I1 (o0 + 1) = uI I (o0 + 1) k (I (o1 + 1) k) (o0 + 1) := by rw [← hI1, uI_o _ _ _ _ _ (by omega), uI_o _ _ _ _ _ (by omega), uI_o _ _ _ _ _ (by omega)]
    have x2 : I1 (o0 + 2) = uI (uI I (o0 + 1) k (I (o1 + 1) k)) (o0 + 2) k (I (o1 + 2) k) (o0 + 2) := by rw [← hI1, uI_o _ _ _ _ _ (by omega), uI_o _ _ _ _ _ (by omega)]
    have x3 : I1 (o0 + 3) = uI (uI (uI I (o0 + 1) k (I (o1 + 1) k)) (o0 + 2) k (I (o1 + 2) k)) (o0 + 3) k (I (o1 + 3) k) (o0 + 3) := by rw [← hI1, uI_o _ _ _ _ _ (by omega)]
    obtain ⟨I', e, g1, g2⟩ := ih (k + 1) I1 (by omega) (fun j hj => by rw [f1 _ (by omega)]; exact hb j hj)
    refine ⟨I', ?_, fun a q => (g1 a q).trans (f1 a q), fun j hj => ?_⟩
    · rw [← e, B37_2 h0 h1 k_4, if_neg (show ¬ (10 : Int32) ≤ nI k from nI_ge (a := k) (b := 10) (by omega) (by decide)), ck_of (inb_nI (by omega) (by decide)), ix_nI (by omega), ck_of (by rw [inb_nI (by omega) (by decide), hb k (by omega)]; rfl), ck_of (inb_nI (by omega) (by decide)), ck_of (inb_nI (by omega) (by decide)), ck_of (inb_nI (by omega) (by decide)), ck_of (inb_nI (by omega) (by decide)), ck_of (inb_nI (by omega) (by decide)), nI_1, uI_a _ (o0 + 1) _ _ (o1 + 2) _ (by omega), uI_a _ (o0 + 2) _ _ (o1 + 3) _ (by omega), uI_a _ (o0 + 1) _ _ (o1 + 3) _ (by omega), hI1]
    · obtain ⟨y1, y2, y3, y4⟩ := g2 j hj
      rw [y1, y2, y3, y4, f1 (o1 + 1) (by omega), f1 (o1 + 2) (by omega), f1 (o1 + 3) (by omega), x1, x2, x3]
      by_cases q : k + 1 ≤ j
      · rw [if_pos q, if_pos q, if_pos q, if_pos q, if_pos (show k ≤ j by omega), if_pos (show k ≤ j by omega), if_pos (show k ≤ j by omega), if_pos (show k ≤ j by omega)]
        exact ⟨rfl, rfl, rfl, rfl⟩
      · rw [if_neg q, if_neg q, if_neg q, if_neg q]
        by_cases q2 : j = k
        · subst q2
          rw [if_pos (Nat.le_refl _), if_pos (Nat.le_refl _), if_pos (Nat.le_refl _), if_pos (Nat.le_refl _), uI_s, uI_s, uI_s, ← hI1, uI_s]
          exact ⟨rfl, rfl, rfl, rfl⟩
        · rw [if_neg (show ¬ k ≤ j by omega), if_neg (show ¬ k ≤ j by omega), if_neg (show ¬ k ≤ j by omega), if_neg (show ¬ k ≤ j by omega), uI_k _ _ _ _ _ q2, uI_k _ _ _ _ _ q2, uI_k _ _ _ _ _ q2, ← hI1, uI_k _ _ _ _ _ q2, uI_o _ _ _ _ _ (show o0 + 2 ≠ o0 + 1 by omega), uI_o _ _ _ _ _ (show o0 + 3 ≠ o0 + 2 by omega), uI_o _ _ _ _ _ (show o0 + 3 ≠ o0 + 1 by omega), uI_o _ _ _ _ _ (show o0 + 4 ≠ o0 + 3 by omega), uI_o _ _ _ _ _ (show o0 + 4 ≠ o0 + 2 by omega), uI_o _ _ _ _ _ (show o0 + 4 ≠ o0 + 1 by omega)]
          exact ⟨rfl, rfl, rfl, rfl⟩
/-- what the reference copies a layout from -/
def sr (J : It) (v o j : Nat) : Int32 := if 0 < v then J o (10 * (v - 1) + j) else 0
/-- one name of the reference's copy -/
theorem C128 {L v k : Nat} {J : It} {u3 : Option Value} (hv : v < 6) (hk : k < 10) (hb : 0 < v → J 125 (10 * (v - 1) + k) = 0 ∨ J 125 (10 * (v - 1) + k) = 1) : E 128 2 [some (.ref 119), some (.int (nI v)), some (.int (nI k)), u3] [] (GG L) J = E 128 2 [some (.ref 119), some (.int (nI v)), some (.int (nI (k + 1))), some (.int (nI (10 * v + k)))] [] (GG L) (uI (uI (uI (uI J 125 (10 * v + k) (sr J v 125 k)) 126 (10 * v + k) (sr J v 126 k)) 127 (10 * v + k) (sr J v 127 k)) 128 (10 * v + k) (nI k)) := by
  rw [B128_2, if_neg (show ¬ (10 : Int32) ≤ nI k from nI_ge (a := k) (b := 10) hk (by decide)), i_10]
  unfold sr
  by_cases h0 : 0 < v
  · have hsub : nI (10 * v + k) - 10 = nI (10 * (v - 1) + k) := by
      rw [show (10 : Int32) = nI 10 from rfl, nI_sub (by omega), show 10 * v + k - 10 = 10 * (v - 1) + k by omega]
    have tail : ∀ x : Int32, b01 x = true → E 128 41 [some (.ref 119), some (.int (nI v)), some (.int (nI k)), some (.int (nI (10 * v + k)))] [.int x, .int (nI (10 * v + k)), .ref 125] (GG L) J = E 128 2 [some (.ref 119), some (.int (nI v)), some (.int (nI (k + 1))), some (.int (nI (10 * v + k)))] [] (GG L) (uI (uI (uI (uI J 125 (10 * v + k) x) 126 (10 * v + k) (J 126 (10 * (v - 1) + k))) 127 (10 * v + k) (J 127 (10 * (v - 1) + k))) 128 (10 * v + k) (nI k)) := by
      intro x hx
      rw [B128_41 k_125 l_125, hsub, ck_of (by rw [inb_nI (by omega) (by decide), hx]; rfl), if_neg (nI_nle h0 (by omega)), ck_of (inb_nI (by omega) (by decide)), ix_nI (by omega), ix_nI (by omega), uI_a _ 125 _ _ 126 _ (by decide), B128_64 k_126 l_126, hsub, ck_of (inb_nI (by omega) (by decide)), if_neg (nI_nle h0 (by omega)), ck_of (inb_nI (by omega) (by decide)), ck_of (inb_nI (by omega) (by decide)), ck_of (inb_nI (by omega) (by decide)), ix_nI (by omega), ix_nI (by omega), uI_a _ 126 _ _ 127 _ (by decide), uI_a _ 125 _ _ 127 _ (by decide), nI_1]
    rw [if_neg (nI_nle h0 (by omega)), hsub, ck_of (inb_nI (by omega) (by decide)), ix_nI (by omega), if_pos h0, if_pos h0, if_pos h0]
    rcases hb h0 with hz | hz
    · rw [hz, if_pos rfl, tail 0 (by decide)]
    · rw [hz, if_neg (by decide), tail 1 (by decide)]
  · have hz : v = 0 := by omega
    subst hz
    rw [if_pos (show nI 0 ≤ (0 : Int32) by decide), if_neg h0, if_neg h0, if_neg h0, B128_41 k_125 l_125, ck_of (by rw [inb_nI (by omega) (by decide)]; rfl), if_pos (show nI 0 ≤ (0 : Int32) by decide), ix_nI (by omega), B128_64 k_126 l_126, ck_of (inb_nI (by omega) (by decide)), if_pos (show nI 0 ≤ (0 : Int32) by decide), ck_of (inb_nI (by omega) (by decide)), ck_of (inb_nI (by omega) (by decide)), ix_nI (by omega), nI_1]
theorem S128 {L v : Nat} (hv : v < 6) : ∀ (m k : Nat) (J : It) {u3 : Option Value}, m + k = 10 → (∀ j, j < 10 → 0 < v → J 125 (10 * (v - 1) + j) = 0 ∨ J 125 (10 * (v - 1) + j) = 1) → ∃ J', E 128 2 [some (.ref 119), some (.int (nI v)), some (.int (nI k)), u3] [] (GG L) J = some (none, GG L, J') ∧ Ko v J J' ∧ ∀ j, j < 10 → J' 125 (10 * v + j) = (if k ≤ j then sr J v 125 j else J 125 (10 * v + j)) ∧ J' 126 (10 * v + j) = (if k ≤ j then sr J v 126 j else J 126 (10 * v + j)) ∧ J' 127 (10 * v + j) = (if k ≤ j then sr J v 127 j else J 127 (10 * v + j)) ∧ J' 128 (10 * v + j) = (if k ≤ j then nI j else J 128 (10 * v + j)) := by
  intro m
  induction m with
  | zero =>
    intro k J u3 hm hb
    have hk : k = 10 := by omega
    subst hk
    refine ⟨J, ?_, ⟨fun _ _ => rfl, fun _ _ => ⟨rfl, rfl, rfl, rfl⟩⟩, fun j hj => ⟨?_, ?_, ?_, ?_⟩⟩
    · rw [B128_2, if_pos (by decide)]
    all_goals rw [if_neg (by omega)]
  | succ m ih =>
    intro k J u3 hm hb
    obtain ⟨J1, hJ1⟩ : ∃ J1, uI (uI (uI (uI J 125 (10 * v + k) (sr J v 125 k)) 126 (10 * v + k) (sr J v 126 k)) 127 (10 * v + k) (sr J v 127 k)) 128 (10 * v + k) (nI k) = J1 := ⟨_, rfl⟩
    have kJ : Ko v J J1 := hJ1 ▸ Ko_u (by omega)
    have hsr : ∀ o j, o = 125 ∨ o = 126 ∨ o = 127 → j < 10 → sr J1 v o j = sr J v o j := fun o j ho hj => by
      unfold sr
      by_cases h0 : 0 < v
      · obtain ⟨z1, z2, z3, -⟩ := kJ.2 (10 * (v - 1) + j) (by omega)
        rw [if_pos h0, if_pos h0]
        rcases ho with rfl | rfl | rfl
        · exact z1
        · exact z2
        · exact z3
      · rw [if_neg h0, if_neg h0]
    obtain ⟨J', e, g1, g2⟩ := ih (k + 1) J1 (u3 := some (.int (nI (10 * v + k)))) (by omega) (fun j hj h0 => by rw [(kJ.2 (10 * (v - 1) + j) (by omega)).1]; exact hb j hj h0)
    refine ⟨J', ?_, Ko_tr kJ g1, fun j hj => ?_⟩
    · rw [C128 hv (by omega) (hb k (by omega)), hJ1, e]
    · obtain ⟨y1, y2, y3, y4⟩ := g2 j hj
      rw [y1, y2, y3, y4, hsr 125 j (by omega) hj, hsr 126 j (by omega) hj, hsr 127 j (by omega) hj]
      by_cases q : k + 1 ≤ j
      · rw [if_pos q, if_pos q, if_pos q, if_pos q, if_pos (show k ≤ j by omega), if_pos (show k ≤ j by omega), if_pos (show k ≤ j by omega), if_pos (show k ≤ j by omega)]
        exact ⟨rfl, rfl, rfl, rfl⟩
      · rw [if_neg q, if_neg q, if_neg q, if_neg q]
        have x5 : J1 125 = uI J 125 (10 * v + k) (sr J v 125 k) 125 := by rw [← hJ1, uI_o _ _ _ _ _ (by decide), uI_o _ _ _ _ _ (by decide), uI_o _ _ _ _ _ (by decide)]
        have x6 : J1 126 = uI (uI J 125 (10 * v + k) (sr J v 125 k)) 126 (10 * v + k) (sr J v 126 k) 126 := by rw [← hJ1, uI_o _ _ _ _ _ (by decide), uI_o _ _ _ _ _ (by decide)]
        have x7 : J1 127 = uI (uI (uI J 125 (10 * v + k) (sr J v 125 k)) 126 (10 * v + k) (sr J v 126 k)) 127 (10 * v + k) (sr J v 127 k) 127 := by rw [← hJ1, uI_o _ _ _ _ _ (by decide)]
        rw [x5, x6, x7]
        by_cases q2 : j = k
        · subst q2
          rw [if_pos (Nat.le_refl _), if_pos (Nat.le_refl _), if_pos (Nat.le_refl _), if_pos (Nat.le_refl _), uI_s, uI_s, uI_s, ← hJ1, uI_s]
          exact ⟨rfl, rfl, rfl, rfl⟩
        · rw [if_neg (show ¬ k ≤ j by omega), if_neg (show ¬ k ≤ j by omega), if_neg (show ¬ k ≤ j by omega), if_neg (show ¬ k ≤ j by omega), uI_k _ _ _ _ _ (by omega), uI_k _ _ _ _ _ (by omega), uI_k _ _ _ _ _ (by omega), ← hJ1, uI_k _ _ _ _ _ (by omega), uI_o _ _ _ _ _ (show (126 : Nat) ≠ 125 by decide), uI_o _ _ _ _ _ (show (127 : Nat) ≠ 126 by decide), uI_o _ _ _ _ _ (show (127 : Nat) ≠ 125 by decide), uI_o _ _ _ _ _ (show (128 : Nat) ≠ 127 by decide), uI_o _ _ _ _ _ (show (128 : Nat) ≠ 126 by decide), uI_o _ _ _ _ _ (show (128 : Nat) ≠ 125 by decide)]
          exact ⟨rfl, rfl, rfl, rfl⟩
/-- the class's copy of the steps -/
theorem S88 {L v : Nat} {I : It} (hv : v < 6) : ∃ I', E 88 0 [some (.ref (26 + 10 * v)), some (.ref 4)] [] (GG L) I = some (none, GG L, I') ∧ (∀ a, a < 26 + 10 * v ∨ 30 + 10 * v < a → I' a = I a) ∧ I' (26 + 10 * v) 4 = I 4 4 ∧ ∀ j, j < 27 → I' (27 + 10 * v) j = I 5 j ∧ I' (28 + 10 * v) j = I 6 j ∧ I' (29 + 10 * v) j = I 7 j ∧ I' (30 + 10 * v) j = I 8 j := by
  have b := B88_0 (L := L) (o0 := 26 + 10 * v) (o1 := 4) (I := I) (k_stp hv) k_4
  obtain ⟨I1, hI1⟩ : ∃ I1, cpI (cpI (cpI (cpI I (4 + 1) (26 + 10 * v + 1) 0 0 27) (4 + 2) (26 + 10 * v + 2) 0 0 27) (4 + 3) (26 + 10 * v + 3) 0 0 27) (4 + 4) (26 + 10 * v + 4) 0 0 27 = I1 := ⟨_, rfl⟩
  rw [hI1] at b
  refine ⟨_, b, fun a q => ?_, ?_, fun j hj => ⟨?_, ?_, ?_, ?_⟩⟩
  · rw [uI_o _ _ _ _ _ (by omega), ← hI1, cp_o _ _ _ _ _ (by omega), cp_o _ _ _ _ _ (by omega), cp_o _ _ _ _ _ (by omega), cp_o _ _ _ _ _ (by omega)]
  · rw [uI_s, ← hI1, cp_o _ _ _ _ _ (by omega), cp_o _ _ _ _ _ (by omega), cp_o _ _ _ _ _ (by omega), cp_o _ _ _ _ _ (by omega)]
  · rw [uI_o _ _ _ _ _ (by omega), ← hI1, cp_o _ _ _ _ _ (by omega), cp_o _ _ _ _ _ (by omega), cp_o _ _ _ _ _ (by omega), show 27 + 10 * v = 26 + 10 * v + 1 by omega, cp_s _ _ _ _ _ hj]
  · rw [uI_o _ _ _ _ _ (by omega), ← hI1, cp_o _ _ _ _ _ (by omega), cp_o _ _ _ _ _ (by omega), show 28 + 10 * v = 26 + 10 * v + 2 by omega, cp_s _ _ _ _ _ hj, cp_o _ _ _ _ _ (by omega)]
  · rw [uI_o _ _ _ _ _ (by omega), ← hI1, cp_o _ _ _ _ _ (by omega), show 29 + 10 * v = 26 + 10 * v + 3 by omega, cp_s _ _ _ _ _ hj, cp_o _ _ _ _ _ (by omega), cp_o _ _ _ _ _ (by omega)]
  · rw [uI_o _ _ _ _ _ (by omega), ← hI1, show 30 + 10 * v = 26 + 10 * v + 4 by omega, cp_s _ _ _ _ _ hj, cp_o _ _ _ _ _ (by omega), cp_o _ _ _ _ _ (by omega), cp_o _ _ _ _ _ (by omega)]
theorem St_K {v s : Nat} {J J' : It} {S S' : Nat → Bool} (h : St J s S S') (hK : Ko v J J') : St J' s S S' := by
  unfold St at h ⊢
  rw [hK.1 130 (by omega), hK.1 131 (by omega), hK.1 132 (by omega), hK.1 133 (by omega)]
  exact h
/-- the steps done to a layout, on both sides -/
theorem D_loop {L v m : Nat} {S0 : Nat → Bool} (hv : v < 6) (hm : m ≤ 27) : ∀ (d i : Nat) {I J : It} {u2 : Option Value} {S : Nat → Nat → Bool}, d + i = m → Ly I J v → J 119 6 = nI v → I (26 + 10 * v) 4 = nI m → J 129 v = nI m →
    (∀ j, j < m → I (27 + 10 * v) j = J 130 (28 * v + j) ∧ I (28 + 10 * v) j = J 131 (28 * v + j) ∧ I (29 + 10 * v) j = J 132 (28 * v + j) ∧ I (30 + 10 * v) j = J 133 (28 * v + j) ∧ ∃ k n A B, Sk k n A B ∧ J 130 (28 * v + j) = nI k ∧ J 131 (28 * v + j) = nI n ∧ J 132 (28 * v + j) = nI A ∧ J 133 (28 * v + j) = nI B) → S 0 = S0 → S i = nz J v → (∀ j, j < i → St J (28 * v + j) (S j) (S (j + 1))) →
    (∃ I' J', E 89 2 [some (.ref (26 + 10 * v)), some (.ref (21 + 10 * v)), some (.int (nI i))] [] (GG L) I = some (some (.int 0), GG L, I') ∧ E 129 57 [some (.ref 119), some (.int (nI i)), u2] [] (GG L) J = some (some (.int (-5)), GG L, J') ∧ (∀ a, a < 22 + 10 * v ∨ 25 + 10 * v < a → I' a = I a) ∧ Ko v J J') ∨
    ∃ (I' J' : It) (S' : Nat → Nat → Bool), E 89 2 [some (.ref (26 + 10 * v)), some (.ref (21 + 10 * v)), some (.int (nI i))] [] (GG L) I = some (some (.int 1), GG L, I') ∧ E 129 57 [some (.ref 119), some (.int (nI i)), u2] [] (GG L) J = some (some (.int (nI v)), GG L, uI (uI J' 119 5 0) 119 6 (nI (v + 1))) ∧ (∀ a, a < 22 + 10 * v ∨ 25 + 10 * v < a → I' a = I a) ∧ Ko v J J' ∧ Ly I' J' v ∧ S' 0 = S0 ∧ S' m = nz J' v ∧ ∀ j, j < m → St J' (28 * v + j) (S' j) (S' (j + 1)) := by
  intro d
  induction d with
  | zero =>
    intro i I J u2 S hd hl h6 hI hJ hrow hS0 hSi hSt
    have hi : i = m := by omega
    subst hi
    refine Or.inr ⟨I, J, S, ?_, ?_, fun _ _ => rfl, ⟨fun _ _ => rfl, fun _ _ => ⟨rfl, rfl, rfl, rfl⟩⟩, hl, hS0, hSi, hSt⟩
    · rw [B89_2 (k_stp hv) (k_lay hv), hI, if_pos (Int32.le_refl _)]
    · rw [B129_57, h6, ck_of (inb_nI hv (by decide)), ix_nI (by omega), hJ, if_pos (Int32.le_refl _), uI_k _ 119 5 _ 6 (by decide), h6, nI_1, uI_s, nI_pred]
  | succ d ih =>
    intro i I J u2 S hd hl h6 hI hJ hrow hS0 hSi hSt
    obtain ⟨r0, r1, r2, r3, k, n, A, B, hSk, q0, q1, q2, q3⟩ := hrow i (by omega)
    have e0 := B89_2 (L := L) (o0 := 26 + 10 * v) (o1 := 21 + 10 * v) (x2 := nI i) (I := I) (k_stp hv) (k_lay hv)
    have e1 := B129_57 (L := L) (x1 := nI i) (u2 := u2) (I := J)
    rw [hI, if_neg (nI_ge (show i < m by omega) (by omega)), if_neg (show ¬ (27 : Int32) ≤ nI i from nI_ge (a := i) (b := 27) (by omega) (by decide)), ck_of (inb_nI (by omega) (by decide)), ck_of (inb_nI (by omega) (by decide)), ck_of (inb_nI (by omega) (by decide)), ck_of (inb_nI (by omega) (by decide)), ix_nI (by omega), show 26 + 10 * v + 1 = 27 + 10 * v by omega, show 26 + 10 * v + 2 = 28 + 10 * v by omega, show 26 + 10 * v + 3 = 29 + 10 * v by omega, show 26 + 10 * v + 4 = 30 + 10 * v by omega, r0, r1, r2, r3, q0, q1, q2, q3] at e0
    rw [h6, ck_of (inb_nI hv (by decide)), ix_nI (by omega), hJ, if_neg (nI_ge (show i < m by omega) (by omega)), i_28] at e1
    rcases D_step (L := L) hv (show 28 * v + i < 168 by omega) hl hSk q0 q1 q2 q3 with ⟨a1, a2⟩ | ⟨I1, J1, a1, a2, a3, hl1, f1, k1, st1⟩
    · rw [a1, K2_i, B89_44 (k_stp hv) (k_lay hv), if_pos rfl] at e0
      rw [a2, K2_i, B129_89, if_pos rfl] at e1
      exact Or.inl ⟨I, J, e0, e1, fun _ _ => rfl, ⟨fun _ _ => rfl, fun _ _ => ⟨rfl, rfl, rfl, rfl⟩⟩⟩
    · have n10 : ¬ (1 : Int32) = 0 := by decide
      have j6 : J1 119 6 = nI v := by rw [k1.1 119 (by omega)]; exact h6
      rw [a1, K2_i, B89_44 (k_stp hv) (k_lay hv), if_neg n10, nI_1] at e0
      rw [a2, K2_i, B129_89, if_neg n10, h6, a3, K2_v, B129_104, nI_1] at e1
      have hS1 : ∀ j, j ≤ i → (fun j => if j ≤ i then S j else nz J1 v) j = S j := fun j hj => if_pos hj
      have hS2 : (fun j => if j ≤ i then S j else nz J1 v) (i + 1) = nz J1 v := if_neg (by omega)
      rcases ih (i + 1) (I := I1) (J := J1) (u2 := some (.int (nI (28 * v + i)))) (S := fun j => if j ≤ i then S j else nz J1 v) (by omega) hl1 j6 (by rw [f1 _ (by omega)]; exact hI) (by rw [k1.1 129 (by omega)]; exact hJ) (fun j hj => by
          rw [f1 (27 + 10 * v) (by omega), f1 (28 + 10 * v) (by omega), f1 (29 + 10 * v) (by omega), f1 (30 + 10 * v) (by omega), k1.1 130 (by omega), k1.1 131 (by omega), k1.1 132 (by omega), k1.1 133 (by omega)]
          exact hrow j hj) ((hS1 0 (by omega)).trans hS0) hS2 (fun j hj => by
          by_cases q : j = i
          · subst q
            rw [if_pos (Nat.le_refl j), if_neg (show ¬ j + 1 ≤ j by omega), hSi]
            exact St_K st1 k1
          · rw [if_pos (show j ≤ i by omega), if_pos (show j + 1 ≤ i by omega)]
            exact St_K (hSt j (by omega)) k1) with ⟨I', J', y0, y1, y2, y3⟩ | ⟨I', J', S', y0, y1, y2, y3, y4, y5, y6, y7⟩
      · exact Or.inl ⟨I', J', e0.trans y0, e1.trans y1, fun a q => (y2 a q).trans (f1 a q), Ko_tr k1 y3⟩
      · exact Or.inr ⟨I', J', S', e0.trans y0, e1.trans y1, fun a q => (y2 a q).trans (f1 a q), Ko_tr k1 y3, y4, y5, y6, y7⟩
