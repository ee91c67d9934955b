theorem swt_k {k : Nat} {l : List Nat} {d : Nat} (hk : k < l.length) (hl : k < 2 ^ 31) : swt (nI k).toInt 0 l d = l.getD k d := by
  unfold swt
  rw [nI_toInt hl, if_neg (by omega)]
  simp
theorem swt_n {x : Int32} {l : List Nat} {d : Nat} (h : ∀ k, k < l.length → x ≠ nI k) : swt x.toInt 0 l d = d := by
  unfold swt
  by_cases h0 : x < 0
  · have : x.toInt < 0 := by
      have := Int32.lt_iff_toInt_lt.mp h0
      simpa using this
    rw [if_pos (Or.inl this)]
  · obtain ⟨j, hj, e⟩ := nI_of h0
    by_cases q : j < l.length
    · exact absurd e (h j q)
    · rw [e, nI_toInt hj, if_pos (Or.inr (by omega))]
theorem M_layout (x y z : Int32) : Sm 95 [some (.ref 1), some (.int x), some (.int y), some (.int z), none] 130 [some (.ref 119), some (.int x), some (.int y), some (.int z), none] := Sm_q fun L n I J hr => by
  obtain ⟨hR, hD, -, -⟩ := hr
  have hn := hR.1
  rw [B95_0, B130_0, S123 hR, K2_i, B130_5]
  by_cases hx : ∃ v, v < n ∧ x = nI v
  · obtain ⟨t, ht, rfl⟩ := id hx
    have hl := k_lay (L := L) (v := t) (by omega)
    have hrow := (hR.2.2.2.2 t ht).1
    have e32 : E 32 0 [some (.ref (21 + 10 * t)), some (.int y)] [] (GG L) I = some (some (.int (tI (∃ k, k < 10 ∧ y = nI k ∧ J 125 (10 * t + k) ≠ 0))), GG L, I) := by
      rw [S32 hl, tI_iff]
      constructor
      · rintro ⟨k, hk, e, hh⟩
        rw [show 21 + 10 * t + 1 = 22 + 10 * t by omega, (hrow k hk).2.1] at hh
        exact ⟨k, hk, e, hh⟩
      · rintro ⟨k, hk, e, hh⟩
        refine ⟨k, hk, e, ?_⟩
        rw [show 21 + 10 * t + 1 = 22 + 10 * t by omega, (hrow k hk).2.1]
        exact hh
    rw [tI_t hx, if_neg (by decide), S46 hR ht, K2_i, B95_8 hl, e32, K2_i, B95_16 hl, S124 (by omega), K2_i, B130_14]
    by_cases hy : ∃ k, k < 10 ∧ y = nI k ∧ J 125 (10 * t + k) ≠ 0
    · obtain ⟨k, hk, rfl, hT⟩ := id hy
      obtain ⟨t1, t2, t3, t4, t5, t6, t7⟩ := hrow k hk
      rw [tI_t hy, if_neg (by decide), if_neg (by decide), i_10, ck_of (inb_nI (by omega) (by decide)), ck_of (inb_nI (by omega) (by decide)), ck_of (inb_nI (by omega) (by decide)), ix_nI (by omega)]
      rcases below z (n := 3) (by decide) with ⟨j, hj, e⟩ | ⟨-, h4⟩
      · have : j = 0 ∨ j = 1 ∨ j = 2 := by omega
        rcases this with rfl | rfl | rfl
        · rw [e, show swt (nI 0).toInt 0 [48, 55, 62] 69 = 48 from rfl, B95_48 hl, S33 hl hk, K2_i, B95_54, show 21 + 10 * t + 1 = 22 + 10 * t by omega, show 21 + 10 * t + 2 = 23 + 10 * t by omega, t2, t3, if_neg hT, if_pos (show nI 0 = (0 : Int32) from rfl)]
          exact ⟨_, rfl, rfl⟩
        · rw [e, show swt (nI 1).toInt 0 [48, 55, 62] 69 = 55 from rfl, B95_55 hl, S34 hl hk, K2_i, B95_61, show 21 + 10 * t + 1 = 22 + 10 * t by omega, show 21 + 10 * t + 3 = 24 + 10 * t by omega, t2, t5, if_neg hT, if_neg (show ¬ nI 1 = (0 : Int32) by decide), if_pos (show nI 1 = (1 : Int32) from rfl)]
          exact ⟨_, rfl, rfl⟩
        · rw [e, show swt (nI 2).toInt 0 [48, 55, 62] 69 = 62 from rfl, B95_62 hl, S35 hl hk, K2_i, B95_68, show 21 + 10 * t + 1 = 22 + 10 * t by omega, show 21 + 10 * t + 4 = 25 + 10 * t by omega, t2, t7, if_neg hT, if_neg (show ¬ nI 2 = (0 : Int32) by decide), if_neg (show ¬ nI 2 = (1 : Int32) by decide), if_pos (show nI 2 = (2 : Int32) from rfl)]
          exact ⟨_, rfl, rfl⟩
      · rw [swt_n (l := [48, 55, 62]) (fun j hj => h4 j hj), B95_69, if_neg (show ¬ z = 0 from h4 0 (by decide)), if_neg (show ¬ z = 1 from h4 1 (by decide)), if_neg (show ¬ z = 2 from h4 2 (by decide))]
        exact ⟨_, rfl, rfl⟩
    · rw [tI_f hy, if_pos rfl, if_pos rfl]; exact ⟨_, rfl, rfl⟩
  · have e32 : E 32 0 [some (.ref 10), some (.int y)] [] (GG L) I = some (some (.int 0), GG L, I) := by
      rw [S32 k_emp, tI_f]
      rintro ⟨k, hk, -, hh⟩
      exact hh (hR.2.2.2.1 k hk).1
    rw [tI_f hx, if_pos rfl, S46n hR (fun v hv e => hx ⟨v, hv, e⟩), K2_i, B95_8 k_emp, e32, K2_i, B95_16 k_emp, if_pos rfl]
    exact ⟨_, rfl, rfl⟩
theorem Hs_k {J : It} {v k : Nat} (h3 : J 120 3 = nI v) (hv : v < 6) (hk : k < 10) : Hs J (nI k) ↔ J 125 (10 * v + k) ≠ 0 := by
  constructor
  · rintro ⟨v', k', hv', hk', h, e, hT⟩
    have h1 : v' = v := (nI_eq (by omega) (by omega)).mp (h.symm.trans h3)
    have h2 : k' = k := (nI_eq (by omega) (by omega)).mp e.symm
    subst h1; subst h2; exact hT
  · exact fun h => ⟨v, k, hv, hk, h3, rfl, h⟩
/-- the settings counted -/
theorem C_cnt {L n : Nat} {I J : It} (hR : Ry n I J) (hD : Rd n (J 125) I 81 (J 120)) : ∀ (m k : Nat) (c : Int32) {u4 : Option Value}, m + k = 10 → ∃ r, E 14 4 [some (.ref 81), some (.int c), some (.int (nI k))] [] (GG L) I = some (some (.int r), GG L, I) ∧ E 164 4 [some (.ref 119), some (.int 0), some (.int c), some (.int (nI k)), u4] [] (GG L) J = some (some (.int r), GG L, J) := by
  obtain ⟨o, ho, e10, e32, -, -⟩ := S_has (L := L) k_81 hR hD
  intro m
  induction m with
  | zero =>
    intro k c u4 hm
    have hk : k = 10 := by omega
    subst hk
    refine ⟨c, ?_, ?_⟩
    · rw [B14_4 k_81, if_pos (by decide)]
    · rw [B164_4, if_pos (by decide)]
  | succ m ih =>
    intro k c u4 hm
    have hge : ¬ (10 : Int32) ≤ nI k := nI_ge (a := k) (b := 10) (by omega) (by decide)
    rw [B14_4 k_81, if_neg hge, e10, K2_i, B14_14 k_81 ho, e32, K2_i, B14_18 k_81, B164_4, if_neg hge, S145 hR hD, K2_i, B164_15]
    by_cases h : Hs J (nI k)
    · rw [tI_t h, if_neg (by decide), if_neg (by decide), if_pos rfl, B164_55, if_neg (by decide), nI_1]
      exact ih (k + 1) (c + 1) (by omega)
    · rw [tI_f h, if_pos rfl, if_pos rfl, B164_55, if_pos rfl, nI_1, Int32.add_zero]
      exact ih (k + 1) c (by omega)
/-- the changed settings counted -/
theorem C_chg {L n : Nat} {I J : It} (hR : Ry n I J) (hD : Rd n (J 125) I 81 (J 120)) : ∀ (m k : Nat) (c : Int32) {u4 : Option Value}, m + k = 10 → ∃ r, E 15 4 [some (.ref 81), some (.int c), some (.int (nI k))] [] (GG L) I = some (some (.int r), GG L, I) ∧ E 164 4 [some (.ref 119), some (.int 1), some (.int c), some (.int (nI k)), u4] [] (GG L) J = some (some (.int r), GG L, J) := by
  have hn := hR.1
  obtain ⟨o, ho, e10, e32, -, e34⟩ := S_has (L := L) k_81 hR hD
  intro m
  induction m with
  | zero =>
    intro k c u4 hm
    have hk : k = 10 := by omega
    subst hk
    refine ⟨c, ?_, ?_⟩
    · rw [B15_4 k_81, if_pos (by decide)]
    · rw [B164_4, if_pos (by decide)]
  | succ m ih =>
    intro k c u4 hm
    have hge : ¬ (10 : Int32) ≤ nI k := nI_ge (a := k) (b := 10) (by omega) (by decide)
    rw [B15_4 k_81, if_neg hge, e10, K2_i, B15_14 k_81 ho, e32, K2_i, B15_18 k_81, B164_4, if_neg hge, S145 hR hD, K2_i, B164_15]
    by_cases h : Hs J (nI k)
    · obtain ⟨v, k', hv, hk', hkk, h3, -, hT, h1, -, -⟩ := Hs_val hn hD h
      have : k' = k := (nI_eq (by omega) (by omega)).mp hkk.symm
      subst this
      rw [tI_t h, if_neg (by decide), if_neg (by decide), if_neg (by decide), ck_of (inb_nI hk' (by decide)), ix_nI (by omega), e10, K2_i, B15_31 k_81 ho, e34 k' v hk' (by omega) h3 hT, K2_i, B15_35 k_81, show (81 : Nat) + 5 = 86 from rfl]
      rw [h3, i_10, show 11 + nI k' = nI (11 + k') from nI_add 11 k', ck_of (inb_nI (by omega) (by decide)), ck_of (inb_nI (by omega) (by decide)), ix_nI (by omega), ix_nI (by omega)]
      have h1' : I 86 k' = J 120 (11 + k') := h1
      rw [h1']
      by_cases hq : J 120 (11 + k') = J 127 (10 * v + k')
      · rw [if_pos hq, if_pos hq, B164_55, if_pos rfl, nI_1, Int32.add_zero]
        exact ih (k' + 1) c (by omega)
      · rw [if_neg hq, if_neg hq, B164_55, if_neg (by decide), nI_1]
        exact ih (k' + 1) (c + 1) (by omega)
    · rw [tI_f h, if_pos rfl, if_pos rfl, B164_55, if_pos rfl, nI_1, Int32.add_zero]
      exact ih (k + 1) c (by omega)
theorem M_state (x : Int32) : Sm 106 [some (.ref 1), some (.int x)] 165 [some (.ref 119), some (.int x)] := Sm_q fun L n I J hr => by
  obtain ⟨hR, hD, -, l, hl, p1, p2, -⟩ := hr
  have hn := hR.1
  obtain ⟨hc, d5, d6, d7, d9, hrest⟩ := id hD
  have k0 := k_pg (L := L) (p := 0) k_81 (by decide)
  have k1 := k_pg (L := L) (p := 1) k_81 (by decide)
  have s0 : E 9 0 [some (.ref 81), some (.int 0)] [] (GG L) I = some (some (.ref 82), GG L, I) := S9 (p := 0) k_81 (by decide)
  have s1 : E 9 0 [some (.ref 81), some (.int 1)] [] (GG L) I = some (some (.ref 84), GG L, I) := S9 (p := 1) k_81 (by decide)
  have c6 := hc.2.2.2.2.2
  have w0 : I 82 1 = J 120 7 := (c6 0 (by decide)).1
  have w1 : I 84 1 = J 120 8 := (c6 1 (by decide)).1
  have r0 : I 82 2 = J 120 9 := (c6 0 (by decide)).2.1
  have r1 : I 84 2 = J 120 10 := (c6 1 (by decide)).2.1
  rw [B106_0, B165_0]
  rcases below x (n := 13) (by decide) with ⟨j, hj, e⟩ | ⟨-, h4⟩
  · have : j = 0 ∨ j = 1 ∨ j = 2 ∨ j = 3 ∨ j = 4 ∨ j = 5 ∨ j = 6 ∨ j = 7 ∨ j = 8 ∨ j = 9 ∨ j = 10 ∨ j = 11 ∨ j = 12 := by omega
    rw [e, swt_k (show j < ([68, 84, 92, 100, 108, 116, 124, 132, 140, 148, 156, 180, 204] : List Nat).length from hj) (by omega), swt_k (show j < ([68, 75, 82, 89, 96, 121, 129, 135, 141, 146, 153, 169, 185] : List Nat).length from hj) (by omega)]
    rcases this with rfl | rfl | rfl | rfl | rfl | rfl | rfl | rfl | rfl | rfl | rfl | rfl | rfl
    · refine ⟨J 120 0, (B106_68).trans ?_, B165_68⟩
      rw [S2 k_81 hc, K2_i, B106_75]
      rcases hc.2.1 with h | h
      · rw [h, if_pos rfl]
      · rw [h, if_neg (by decide)]
    · exact ⟨J 120 2, (B106_84).trans (by rw [B5_0 k_81, K2_i, B106_91, d5]), B165_75⟩
    · exact ⟨J 120 3, (B106_92).trans (by rw [B6_0 k_81, K2_i, B106_99, d6]), B165_82⟩
    · exact ⟨J 120 4, (B106_100).trans (by rw [B7_0 k_81, K2_i, B106_107, d7]), B165_89⟩
    · refine ⟨(48 - I 81 8) / 3, (B106_108).trans (by rw [B13_0 k_81, K2_i, B106_115]), (B165_96).trans ?_⟩
      rcases hrest with ⟨q2, q3, q4, q8⟩ | ⟨p, v, s, e, hp, hv, hs, he, q2, q3, q4, q5, q8, hVr⟩
      · rw [q2, if_neg (by decide), q8]; rfl
      · rw [q2, if_pos (nI_pos' (by omega)), q5, q8]
    · exact ⟨J 120 6, (B106_116).trans (by rw [B8_0 k_81, K2_i, B106_123, d9]), B165_121⟩
    · obtain ⟨r, a, b⟩ := C_cnt (L := L) hR hD 10 0 0 (u4 := none) rfl
      exact ⟨r, (B106_124).trans (by rw [B14_0 k_81]; exact (congrArg _ a).trans (by rw [K2_i, B106_131])), (B165_129).trans (by rw [B164_0]; exact (congrArg _ b).trans (by rw [K2_i, B165_134]))⟩
    · obtain ⟨r, a, b⟩ := C_chg (L := L) hR hD 10 0 0 (u4 := none) rfl
      exact ⟨r, (B106_132).trans (by rw [B15_0 k_81]; exact (congrArg _ a).trans (by rw [K2_i, B106_139])), (B165_135).trans (by rw [B164_0]; exact (congrArg _ b).trans (by rw [K2_i, B165_140]))⟩
    · exact ⟨nI n, (B106_140).trans (by rw [B44_0, K2_i, B106_147, hR.2.1]), (B165_141).trans (by rw [hR.2.2.1])⟩
    · exact ⟨J 120 1, (B106_148).trans (by rw [B4_0 k_81, K2_i, B106_155, hc.2.2.1]), B165_146⟩
    · exact ⟨J 120 7 + J 120 8, (B106_156).trans (by rw [s0, K2_i, B106_164 k_82, B67_0 k_82, K2_i, B106_167, s1, K2_i, B106_175 k_84, B67_0 k_84, K2_i, B106_178, w0, w1]), B165_153⟩
    · exact ⟨J 120 9 + J 120 10, (B106_180).trans (by rw [s0, K2_i, B106_188 k_82, B68_0 k_82, K2_i, B106_191, s1, K2_i, B106_199 k_84, B68_0 k_84, K2_i, B106_202, r0, r1]), B165_169⟩
    · exact ⟨nI l, (B106_204).trans (by rw [B50_0, K2_i, B106_211, p1]), (B165_185).trans (by rw [p2])⟩
  · rw [swt_n (l := [68, 84, 92, 100, 108, 116, 124, 132, 140, 148, 156, 180, 204]) (fun k hk => h4 k hk), swt_n (l := [68, 75, 82, 89, 96, 121, 129, 135, 141, 146, 153, 169, 185]) (fun k hk => h4 k hk), B106_212, B165_190]
    exact ⟨_, rfl, rfl⟩
/-- the cells that are not erased -/
theorem C_fil {L o p : Nat} {I J : It} (ho : kd (GG L) o = 4) (hp : p < 2) (hc : ∀ k, k < 48 → I (o + 1) k = J 120 (21 + 48 * p + k)) : ∀ (m k : Nat) (c : Int32), m + k = 48 → ∃ r, E 74 4 [some (.ref o), some (.int c), some (.int (nI k))] [] (GG L) I = some (some (.int r), GG L, I) ∧ E 161 4 [some (.ref 119), some (.int (nI p)), some (.int c), some (.int (nI k))] [] (GG L) J = some (some (.int r), GG L, J) := by
  intro m
  induction m with
  | zero =>
    intro k c hm
    have hk : k = 48 := by omega
    subst hk
    refine ⟨c, ?_, ?_⟩
    · rw [B74_4 ho, if_pos (by decide)]
    · rw [B161_4, if_pos (by decide)]
  | succ m ih =>
    intro k c hm
    have hge : ¬ (48 : Int32) ≤ nI k := nI_ge (a := k) (b := 48) (by omega) (by decide)
    rw [B74_4 ho, if_neg hge, ck_of (inb_nI (by omega) (by decide)), ix_nI (by omega), hc k (by omega), B161_4, if_neg hge, S131 hp (by omega), K2_i, B161_17, nI_1]
    by_cases h : J 120 (21 + 48 * p + k) = -6
    · rw [if_pos h, if_pos h, Int32.add_zero]
      exact ih (k + 1) c (by omega)
    · rw [if_neg h, if_neg h]
      exact ih (k + 1) (c + 1) (by omega)
/-- the records counted -/
theorem C_rec {L n v o p q : Nat} {g : Int32} {I : It} {u1 : Option Value} (hq : (g = 1 ∧ q = 17) ∨ (g = 0 ∧ q = 18)) (ho : kd (GG L) o = 4) (hp : p < 2) (hv : v < n) (hn : n ≤ 6) : ∀ (m i : Nat) (c : Int32) {J : It}, 3 * m + i = 48 → 3 ≤ i → J 119 19 = nI i → Rv I J v → (∀ k, k < 48 → I (o + 1) k = J 120 (21 + 48 * p + k) ∧ cel (J 120 (21 + 48 * p + k))) → J 120 (21 + 48 * p + 0) = nI (200 + v) → J 119 q = c →
    ∃ r J', E 81 25 [some (.ref o), u1, some (.int g), some (.ref (21 + 10 * v)), some (.int c), some (.int (nI i))] [] (GG L) I = some (some (.int r), GG L, I) ∧ E 141 15 [some (.ref 119), some (.int (nI p)), some (.int (nI v)), some (.int 0)] [] (GG L) J = some (none, GG L, J') ∧ J' 119 q = r ∧ (∀ a, a ≠ 119 → J' a = J a) ∧ ∀ j, j < 16 → J' 119 j = J 119 j := by
  have hl := k_lay (L := L) (v := v) (by omega)
  intro m
  induction m with
  | zero =>
    intro i c J hm h3 h19 hR hc h0 hcq
    have hi : i = 48 := by omega
    subst hi
    refine ⟨c, J, ?_, ?_, hcq, fun _ _ => rfl, fun _ _ => rfl⟩
    · rw [B81_25 ho hl, if_pos (by decide)]
    · rw [B141_15, h19, if_pos (by decide)]
  | succ m ih =>
    intro i c J hm h3 h19 hR hc h0 hcq
    have hge : ¬ (48 : Int32) ≤ nI i := nI_ge (a := i) (b := 48) (by omega) (by decide)
    have b1 := B141_15 (L := L) (x1 := nI p) (x2 := nI v) (x3 := 0) (I := J)
    rw [h19, if_neg hge, S131 hp (by omega), K2_i, B141_33] at b1
    rw [B81_25 ho hl, if_neg hge, S78 ho h3 (by omega), K2_i, B81_38 ho hl, (hc i (by omega)).1]
    by_cases hz : J 120 (21 + 48 * p + i) = -6
    · rw [if_pos hz] at b1
      rw [tI_f (fun q => q hz), if_pos rfl]
      exact ⟨c, J, rfl, b1, hcq, fun _ _ => rfl, fun _ _ => rfl⟩
    · have hgr : ∀ k, k < 10 → byt (J 126 (10 * v + k)) := fun k hk => (hR.1 k hk).2.2.2.1
      have s79 := S79 (L := L) (o := o) (i := i) hR (by omega) ho hl (by omega) (fun k hk => by rw [(hc k hk).1]; exact (hc k hk).2)
      rw [tI_iff (Gdf_congr (by omega) (fun k hk => (hc k hk).1))] at s79
      have h00 : I (o + 1) 0 - 200 = nI v := sub_200.mpr ((hc 0 (by decide)).1.trans h0)
      rw [if_neg hz, h19, S140 hp (by omega) (by omega) hgr, K2_i, B141_48] at b1
      rw [tI_t hz, if_neg (by decide), S75 ho, K2_i, h00, B81_49 ho hl ho hl, s79, K2_i, B81_52 ho hl, show nI i + 3 = nI (i + 3) from nI_add i 3]
      have hRv : ∀ {J' : It}, (∀ a, a ≠ 119 → J' a = J a) → Rv I J' v := fun hJ => by
        have hr := hR
        unfold Rv St at hr ⊢
        rw [hJ 125 (by decide), hJ 126 (by decide), hJ 127 (by decide), hJ 128 (by decide), hJ 129 (by decide), hJ 130 (by decide), hJ 131 (by decide), hJ 132 (by decide), hJ 133 (by decide)]
        exact hr
      by_cases hg : Gdf J v (fun k => J 120 (21 + 48 * p + k)) i
      · obtain ⟨J1, hJ1⟩ : ∃ J1, uI (uI J 119 17 (J 119 17 + 1)) 119 19 (nI (i + 3)) = J1 := ⟨_, rfl⟩
        rw [tI_t hg, if_neg (by decide), if_pos rfl, uI_k _ _ _ _ _ (show 19 ≠ 17 by decide), h19, show nI i + 3 = nI (i + 3) from nI_add i 3, hJ1] at b1
        have oJ1 : ∀ a, a ≠ 119 → J1 a = J a := fun a h => by rw [← hJ1, uI_o _ _ _ _ _ h, uI_o _ _ _ _ _ h]
        have pJ1 : ∀ j, j < 16 → J1 119 j = J 119 j := fun j hj => by rw [← hJ1, uI_k _ _ _ _ _ (by omega), uI_k _ _ _ _ _ (by omega)]
        have s1 : J1 119 19 = nI (i + 3) := by rw [← hJ1, uI_s]
        rw [tI_t hg]
        rcases hq with ⟨hg1, hq1⟩ | ⟨hg1, hq1⟩
        · rw [if_pos hg1.symm]
          obtain ⟨r, J', y1, y2, y3, y4, y5⟩ := ih (i + 3) (c + 1) (J := J1) (by omega) (by omega) s1 (hRv oJ1) (fun k hk => by rw [oJ1 120 (by decide)]; exact hc k hk) (by rw [oJ1 120 (by decide)]; exact h0) (by rw [hq1, ← hJ1, uI_k _ _ _ _ _ (by decide), uI_s, ← hq1, hcq])
          exact ⟨r, J', y1, b1.trans y2, y3, fun a h => (y4 a h).trans (oJ1 a h), fun j hj => (y5 j hj).trans (pJ1 j hj)⟩
        · rw [if_neg (by rw [hg1]; decide)]
          obtain ⟨r, J', y1, y2, y3, y4, y5⟩ := ih (i + 3) c (J := J1) (by omega) (by omega) s1 (hRv oJ1) (fun k hk => by rw [oJ1 120 (by decide)]; exact hc k hk) (by rw [oJ1 120 (by decide)]; exact h0) (by rw [hq1, ← hJ1, uI_k _ _ _ _ _ (by decide), uI_k _ _ _ _ _ (by decide), ← hq1, hcq])
          exact ⟨r, J', y1, b1.trans y2, y3, fun a h => (y4 a h).trans (oJ1 a h), fun j hj => (y5 j hj).trans (pJ1 j hj)⟩
      · obtain ⟨J1, hJ1⟩ : ∃ J1, uI (uI J 119 18 (J 119 18 + 1)) 119 19 (nI (i + 3)) = J1 := ⟨_, rfl⟩
        rw [tI_f hg, if_pos rfl, uI_k _ _ _ _ _ (show 19 ≠ 18 by decide), h19, show nI i + 3 = nI (i + 3) from nI_add i 3, hJ1] at b1
        have oJ1 : ∀ a, a ≠ 119 → J1 a = J a := fun a h => by rw [← hJ1, uI_o _ _ _ _ _ h, uI_o _ _ _ _ _ h]
        have pJ1 : ∀ j, j < 16 → J1 119 j = J 119 j := fun j hj => by rw [← hJ1, uI_k _ _ _ _ _ (by omega), uI_k _ _ _ _ _ (by omega)]
        have s1 : J1 119 19 = nI (i + 3) := by rw [← hJ1, uI_s]
        rw [tI_f hg]
        rcases hq with ⟨hg1, hq1⟩ | ⟨hg1, hq1⟩
        · rw [if_neg (by rw [hg1]; decide)]
          obtain ⟨r, J', y1, y2, y3, y4, y5⟩ := ih (i + 3) c (J := J1) (by omega) (by omega) s1 (hRv oJ1) (fun k hk => by rw [oJ1 120 (by decide)]; exact hc k hk) (by rw [oJ1 120 (by decide)]; exact h0) (by rw [hq1, ← hJ1, uI_k _ _ _ _ _ (by decide), uI_k _ _ _ _ _ (by decide), ← hq1, hcq])
          exact ⟨r, J', y1, b1.trans y2, y3, fun a h => (y4 a h).trans (oJ1 a h), fun j hj => (y5 j hj).trans (pJ1 j hj)⟩
        · rw [if_pos hg1.symm]
          obtain ⟨r, J', y1, y2, y3, y4, y5⟩ := ih (i + 3) (c + 1) (J := J1) (by omega) (by omega) s1 (hRv oJ1) (fun k hk => by rw [oJ1 120 (by decide)]; exact hc k hk) (by rw [oJ1 120 (by decide)]; exact h0) (by rw [hq1, ← hJ1, uI_k _ _ _ _ _ (by decide), uI_s, ← hq1, hcq])
          exact ⟨r, J', y1, b1.trans y2, y3, fun a h => (y4 a h).trans (oJ1 a h), fun j hj => (y5 j hj).trans (pJ1 j hj)⟩
/-- the counted records of a page, on both sides -/
theorem W_cnt {L n p q : Nat} {g : Int32} {I J : It} (hq : (g = 1 ∧ q = 17) ∨ (g = 0 ∧ q = 18)) (hp : p < 2) (hR : Ry n I J) (hc : Rc I 81 (J 120)) :
    ∃ r J', E 81 0 [some (.ref (81 + 1 + 2 * p)), some (.ref 9), some (.int g), none, none, none] [] (GG L) I = some (some (.int r), GG L, I) ∧ E 162 0 [some (.ref 119), some (.int (nI p)), some (.int g)] [] (GG L) J = some (some (.int r), GG L, J') ∧ (∀ a, a ≠ 119 → J' a = J a) ∧ ∀ j, j < 16 → J' 119 j = J 119 j := by
  have hn := hR.1
  have hpg := k_pg (L := L) k_81 hp
  have hcc : ∀ k, k < 48 → I (81 + 1 + 2 * p + 1) k = J 120 (21 + 48 * p + k) ∧ cel (J 120 (21 + 48 * p + k)) := fun k hk => by
    rw [show 81 + 1 + 2 * p + 1 = 81 + 2 + 2 * p by omega]; exact (hc.2.2.2.2.2 p hp).2.2 k hk
  have s77 := S77 (L := L) (o := 81 + 1 + 2 * p) hR hpg (fun k hk => by rw [(hcc k hk).1]; exact (hcc k hk).2)
  rw [tI_iff (Hdf_congr (fun k hk => (hcc k hk).1))] at s77
  rw [B81_0 hpg, s77, K2_i, B81_5 hpg, B162_0, S139 hR hp, K2_i, B162_5]
  by_cases h : Hdf n (fun k => J 120 (21 + 48 * p + k))
  · obtain ⟨v, s, hv, hs, e0, -, -⟩ := id h
    have hl := k_lay (L := L) (v := v) (by omega)
    have e0' : J 120 (21 + 48 * p + 0) = nI (200 + v) := e0
    have h00 : I (81 + 1 + 2 * p + 1) 0 - 200 = nI v := sub_200.mpr ((hcc 0 (by decide)).1.trans e0')
    have g0 : E 131 0 [some (.ref 119), some (.int (nI p)), some (.int 0)] [] (GG L) J = some (some (.int (J 120 (21 + 48 * p + 0))), GG L, J) := S131 (i := 0) hp (by decide)
    obtain ⟨J1, hJ1⟩ : ∃ J1, uI (uI (uI J 119 17 0) 119 18 0) 119 19 3 = J1 := ⟨_, rfl⟩
    have oJ1 : ∀ a, a ≠ 119 → J1 a = J a := fun a h => by rw [← hJ1, uI_o _ _ _ _ _ h, uI_o _ _ _ _ _ h, uI_o _ _ _ _ _ h]
    have pJ1 : ∀ j, j < 16 → J1 119 j = J 119 j := fun j hj => by rw [← hJ1, uI_k _ _ _ _ _ (by omega), uI_k _ _ _ _ _ (by omega), uI_k _ _ _ _ _ (by omega)]
    have hR1 : Ry n I J1 := Ry_congr hR (fun _ _ => rfl) (pJ1 6 (by decide)) (fun a q1 q2 => oJ1 a (by omega))
    obtain ⟨r, J', y1, y2, y3, y4, y5⟩ := C_rec (L := L) (n := n) (v := v) (o := 81 + 1 + 2 * p) (p := p) (q := q) (g := g) (I := I) (u1 := some (.ref 9)) hq hpg hp hv hn 15 3 0 (J := J1) rfl (Nat.le_refl _) (by rw [← hJ1, uI_s]; rfl) (hR1.2.2.2.2 v hv) (fun k hk => by rw [oJ1 120 (by decide)]; exact hcc k hk) (by rw [oJ1 120 (by decide)]; exact e0') (by
      rcases hq with ⟨-, hq1⟩ | ⟨-, hq1⟩
      · rw [hq1, ← hJ1, uI_k _ _ _ _ _ (by decide), uI_k _ _ _ _ _ (by decide), uI_s]
      · rw [hq1, ← hJ1, uI_k _ _ _ _ _ (by decide), uI_s])
    have y1' : E 81 25 [some (.ref (81 + 1 + 2 * p)), some (.ref 9), some (.int g), some (.ref (21 + 10 * v)), some (.int 0), some (.int 3)] [] (GG L) I = some (some (.int r), GG L, I) := y1
    rw [tI_t h, if_neg (by decide), if_neg (by decide), S75 hpg, K2_i, h00, B81_15 hpg, S46 hR hv, K2_i, B81_18 hpg hl, y1', g0, K2_i, B162_18, e0', sub_200.mpr rfl, B141_0, hJ1, y2, K2_v, B162_26]
    refine ⟨r, J', rfl, ?_, fun a h => (y4 a h).trans (oJ1 a h), fun j hj => (y5 j hj).trans (pJ1 j hj)⟩
    rcases hq with ⟨hg1, hq1⟩ | ⟨hg1, hq1⟩
    · rw [if_neg (by rw [hg1]; decide), ← hq1, y3]
    · rw [if_pos hg1, ← hq1, y3]
  · rw [tI_f h, if_pos rfl, if_pos rfl]
    exact ⟨_, _, rfl, rfl, fun _ _ => rfl, fun _ _ => rfl⟩
theorem M_page (x y : Int32) : Sm 105 [some (.ref 1), some (.int x), some (.int y), none] 163 [some (.ref 119), some (.int x), some (.int y)] := fun L n I J hr => by
  obtain ⟨hR, hD, -, -⟩ := id hr
  have hc := hD.1
  rw [B105_0, S115, K2_i, B105_4, B163_0, S121, K2_i, B163_6, tI_iff (in_iff (x := x) (n := 1) (M := 1) rfl (by decide))]
  by_cases h : ∃ p, p < 2 ∧ x = nI p
  · obtain ⟨p, hp, rfl⟩ := id h
    have hpg := k_pg (L := L) k_81 hp
    rw [tI_t h, if_neg (by decide), if_neg (by decide), S9 k_81 hp, K2_i, B105_17 hpg]
    have hcc : ∀ k, k < 48 → I (81 + 1 + 2 * p + 1) k = J 120 (21 + 48 * p + k) ∧ cel (J 120 (21 + 48 * p + k)) := fun k hk => by
      rw [show 81 + 1 + 2 * p + 1 = 81 + 2 + 2 * p by omega]; exact (hc.2.2.2.2.2 p hp).2.2 k hk
    have q : ∀ {r : Int32} {A B : Option Rs}, A = some (some (.int r), GG L, I) → B = some (some (.int r), GG L, J) → ∃ I' J' n' r, A = some (some (.int r), GG L, I') ∧ B = some (some (.int r), GG L, J') ∧ RR n' I' J' ∧ (∀ a, a = 0 ∨ 119 ≤ a → I' a = I a) ∧ ∀ a, a < 119 → J' a = J a := fun ha hb => ⟨I, J, n, _, ha, hb, hr, fun _ _ => rfl, fun _ _ => rfl⟩
    rcases below y (n := 6) (by decide) with ⟨j, hj, e⟩ | ⟨-, h4⟩
    · have : j = 0 ∨ j = 1 ∨ j = 2 ∨ j = 3 ∨ j = 4 ∨ j = 5 := by omega
      rw [e, swt_k (show j < ([56, 61, 66, 83, 93, 103] : List Nat).length from hj) (by omega), swt_k (show j < ([52, 62, 72, 86, 93, 100] : List Nat).length from hj) (by omega)]
      rcases this with rfl | rfl | rfl | rfl | rfl | rfl
      · refine q (r := J 120 (7 + p)) ((B105_56 hpg).trans (by rw [B67_0 hpg, K2_i, B105_60, (hc.2.2.2.2.2 p hp).1])) ((B163_52).trans (by rw [i_7, ck_of (inb_nI (by omega) (by decide)), ix_nI (by omega)]))
      · refine q (r := J 120 (9 + p)) ((B105_61 hpg).trans (by rw [B68_0 hpg, K2_i, B105_65, (hc.2.2.2.2.2 p hp).2.1])) ((B163_62).trans (by rw [i_9, ck_of (inb_nI (by omega) (by decide)), ix_nI (by omega)]))
      · have s77 := S77 (L := L) (o := 81 + 1 + 2 * p) hR hpg (fun k hk => by rw [(hcc k hk).1]; exact (hcc k hk).2)
        rw [tI_iff (Hdf_congr (fun k hk => (hcc k hk).1))] at s77
        refine q (r := tI (Hdf n (fun k => J 120 (21 + 48 * p + k)))) ((B105_66 hpg).trans (by
          rw [s77, K2_i, B105_74]
          by_cases hh : Hdf n (fun k => J 120 (21 + 48 * p + k))
          · rw [tI_t hh, if_neg (by decide)]
          · rw [tI_f hh, if_pos rfl])) ((B163_72).trans (by
          rw [S139 hR hp, K2_i, B163_77]
          by_cases hh : Hdf n (fun k => J 120 (21 + 48 * p + k))
          · rw [tI_t hh, if_neg (by decide)]
          · rw [tI_f hh, if_pos rfl]))
      · obtain ⟨r, J', a1, a2, f1, f2⟩ := W_cnt (L := L) (g := 1) (q := 17) (Or.inl ⟨rfl, rfl⟩) hp hR hc
        exact ⟨I, J', n, r, (B105_83 hpg).trans (by rw [a1, K2_i, B105_92]), (B163_86).trans (by rw [a2, K2_i, B163_92]), RR_k hr (fun _ _ => rfl) rfl rfl (f2 5 (by decide)) (f2 6 (by decide)) (fun j _ => by rw [f1 120 (by decide)]) (fun a q1 _ _ => f1 a (by omega)), fun _ _ => rfl, fun a q1 => f1 a (by omega)⟩
      · obtain ⟨r, J', a1, a2, f1, f2⟩ := W_cnt (L := L) (g := 0) (q := 18) (Or.inr ⟨rfl, rfl⟩) hp hR hc
        exact ⟨I, J', n, r, (B105_93 hpg).trans (by rw [a1, K2_i, B105_102]), (B163_93).trans (by rw [a2, K2_i, B163_99]), RR_k hr (fun _ _ => rfl) rfl rfl (f2 5 (by decide)) (f2 6 (by decide)) (fun j _ => by rw [f1 120 (by decide)]) (fun a q1 _ _ => f1 a (by omega)), fun _ _ => rfl, fun a q1 => f1 a (by omega)⟩
      · obtain ⟨r, a1, a2⟩ := C_fil (L := L) (I := I) (J := J) hpg hp (fun k hk => (hcc k hk).1) 48 0 0 rfl
        refine q (r := r) ((B105_103 hpg).trans ?_) ((B163_100).trans ?_)
        · rw [B74_0 hpg]; exact (congrArg _ a1).trans (by rw [K2_i, B105_107])
        · rw [B161_0]; exact (congrArg _ a2).trans (by rw [K2_i, B163_105])
    · rw [swt_n (l := [56, 61, 66, 83, 93, 103]) (fun k hk => h4 k hk), swt_n (l := [52, 62, 72, 86, 93, 100]) (fun k hk => h4 k hk), B105_108, B163_106]
      exact q rfl rfl
  · rw [tI_f h, if_pos rfl, if_pos rfl]
    exact ⟨_, _, _, _, rfl, rfl, hr, fun _ _ => rfl, fun _ _ => rfl⟩
