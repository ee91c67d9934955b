/-! ===== p24: what the calls tell ===== -/
theorem S2 {L : Nat × Nat} {d : Nat} {I : It} {P : Pc} (hd : kd (GG L) d = 0) (h : Rd I d P) : E 2 0 [some (.ref d)] [] (GG L) I = some (some (.int (pwA P.1)), GG L, I) := by
  rw [B2_0 hd, h.1, ck_of]
  rcases pwA_01 P.1 with z | z <;> rw [z] <;> decide
theorem S3 {L : Nat × Nat} {d : Nat} {I : It} {P : Pc} (hd : kd (GG L) d = 0) (h : Rd I d P) : E 3 0 [some (.ref d)] [] (GG L) I = some (some (.int (tI (pwA P.1 ≠ 0 ∧ P.2.1 5 ≠ -6))), GG L, I) := by
  rw [B3_0 hd, h.1, h.2.2.2.1 5 (by decide) (by decide)]
  by_cases h0 : pwA P.1 = 0
  · rw [if_pos h0, tI_f (fun q => q.1 h0)]
  · rw [if_neg h0]
    by_cases h2 : P.2.1 5 = -6
    · rw [if_pos h2, tI_f (fun q => q.2 h2)]
    · rw [if_neg h2, tI_t ⟨h0, h2⟩]
theorem S11 {L : Nat × Nat} {d k : Nat} {I : It} (hd : kd (GG L) d = 0) (hk : k < 10) : E 11 0 [some (.ref d), some (.int (nI k))] [] (GG L) I = some (some (.int (I (d + 5) k)), GG L, I) := by
  rw [B11_0 hd, S119, K2_i, tI_t ⟨k, hk, rfl⟩, B11_4 hd, if_neg (by decide), ck_of (inb_nI hk (by decide)), ix_nI (by omega)]
theorem S12 {L : Nat × Nat} {d k : Nat} {I : It} (hd : kd (GG L) d = 0) (hk : k < 10) : E 12 0 [some (.ref d), some (.int (nI k))] [] (GG L) I = some (some (.int (I (d + 6) k)), GG L, I) := by
  rw [B12_0 hd, S119, K2_i, tI_t ⟨k, hk, rfl⟩, B12_4 hd, if_neg (by decide), ck_of (inb_nI hk (by decide)), ix_nI (by omega)]
section QQ
variable {L : Nat × Nat} {n : Nat} {g e Z : Nat → Nat → Nat} {I : It} {P : Pc}
/-! the state -/
theorem Q_s0 (h : Rd I 81 P) : E 106 0 [some (.ref 1), some (.int 0)] [] (GG L) I = some (some (.int (pwA P.1)), GG L, I) := by
  rw [B106_0, show swt (0 : Int32).toInt 0 [68, 84, 92, 100, 108, 116, 124, 132, 140, 148, 156, 180, 204] 212 = 68 from rfl, B106_68, S2 k_81 h, K2_i, B106_75]
  rcases pwA_01 P.1 with z | z <;> rw [z]
  · rfl
  · rfl
theorem Q_s1 (h : Rd I 81 P) : E 106 0 [some (.ref 1), some (.int 1)] [] (GG L) I = some (some (.int (P.2.1 5)), GG L, I) := by
  rw [B106_0, show swt (1 : Int32).toInt 0 [68, 84, 92, 100, 108, 116, 124, 132, 140, 148, 156, 180, 204] 212 = 84 from rfl, B106_84, B5_0 k_81, K2_i, B106_91, h.2.2.2.1 5 (by decide) (by decide)]
theorem Q_s2 (h : Rd I 81 P) : E 106 0 [some (.ref 1), some (.int 2)] [] (GG L) I = some (some (.int (P.2.1 6)), GG L, I) := by
  rw [B106_0, show swt (2 : Int32).toInt 0 [68, 84, 92, 100, 108, 116, 124, 132, 140, 148, 156, 180, 204] 212 = 92 from rfl, B106_92, B6_0 k_81, K2_i, B106_99, h.2.2.2.1 6 (by decide) (by decide)]
theorem Q_s3 (h : Rd I 81 P) : E 106 0 [some (.ref 1), some (.int 3)] [] (GG L) I = some (some (.int (P.2.1 7)), GG L, I) := by
  rw [B106_0, show swt (3 : Int32).toInt 0 [68, 84, 92, 100, 108, 116, 124, 132, 140, 148, 156, 180, 204] 212 = 100 from rfl, B106_100, B7_0 k_81, K2_i, B106_107, h.2.2.2.1 7 (by decide) (by decide)]
theorem Q_s4 (h : Rd I 81 P) : E 106 0 [some (.ref 1), some (.int 4)] [] (GG L) I = some (some (.int ((48 - P.2.1 8) / 3)), GG L, I) := by
  rw [B106_0, show swt (4 : Int32).toInt 0 [68, 84, 92, 100, 108, 116, 124, 132, 140, 148, 156, 180, 204] 212 = 108 from rfl, B106_108, B13_0 k_81, K2_i, B106_115, h.2.2.2.1 8 (by decide) (by decide)]
theorem Q_s5 (h : Rd I 81 P) : E 106 0 [some (.ref 1), some (.int 5)] [] (GG L) I = some (some (.int (P.2.1 9)), GG L, I) := by
  rw [B106_0, show swt (5 : Int32).toInt 0 [68, 84, 92, 100, 108, 116, 124, 132, 140, 148, 156, 180, 204] 212 = 116 from rfl, B106_116, B8_0 k_81, K2_i, B106_123, h.2.2.2.1 9 (by decide) (by decide)]
theorem Q_s8 (h : Ly n g e Z I) : E 106 0 [some (.ref 1), some (.int 8)] [] (GG L) I = some (some (.int (nI n)), GG L, I) := by
  rw [B106_0, show swt (8 : Int32).toInt 0 [68, 84, 92, 100, 108, 116, 124, 132, 140, 148, 156, 180, 204] 212 = 140 from rfl, B106_140, B44_0, K2_i, B106_147, h.2.1]
theorem Q_s9 (h : Rd I 81 P) : E 106 0 [some (.ref 1), some (.int 9)] [] (GG L) I = some (some (.int (pwB P.1)), GG L, I) := by
  rw [B106_0, show swt (9 : Int32).toInt 0 [68, 84, 92, 100, 108, 116, 124, 132, 140, 148, 156, 180, 204] 212 = 148 from rfl, B106_148, B4_0 k_81, K2_i, B106_155, h.2.1]
theorem Q_s10 (h : Rd I 81 P) : E 106 0 [some (.ref 1), some (.int 10)] [] (GG L) I = some (some (.int (P.2.2.1 0 + P.2.2.1 1)), GG L, I) := by
  have e0 : I 82 1 = P.2.2.1 0 := (h.2.2.2.2.1 0 (by decide)).1
  have e1 : I 84 1 = P.2.2.1 1 := (h.2.2.2.2.1 1 (by decide)).1
  rw [B106_0, show swt (10 : Int32).toInt 0 [68, 84, 92, 100, 108, 116, 124, 132, 140, 148, 156, 180, 204] 212 = 156 from rfl, B106_156, B9_0 k_81, if_neg (by decide), K2_i, B106_164 (wk_0_1 k_81), B67_0 (wk_0_1 k_81), K2_i, B106_167, B9_0 k_81, if_pos rfl, K2_i, B106_175 (wk_0_2 k_81), B67_0 (wk_0_2 k_81), K2_i, B106_178, show 81 + 1 = 82 from rfl, show 81 + 3 = 84 from rfl, e0, e1]
theorem Q_s11 (h : Rd I 81 P) : E 106 0 [some (.ref 1), some (.int 11)] [] (GG L) I = some (some (.int (P.2.2.2.1 0 + P.2.2.2.1 1)), GG L, I) := by
  have e0 : I 82 2 = P.2.2.2.1 0 := (h.2.2.2.2.1 0 (by decide)).2.1
  have e1 : I 84 2 = P.2.2.2.1 1 := (h.2.2.2.2.1 1 (by decide)).2.1
  rw [B106_0, show swt (11 : Int32).toInt 0 [68, 84, 92, 100, 108, 116, 124, 132, 140, 148, 156, 180, 204] 212 = 180 from rfl, B106_180, B9_0 k_81, if_neg (by decide), K2_i, B106_188 (wk_0_1 k_81), B68_0 (wk_0_1 k_81), K2_i, B106_191, B9_0 k_81, if_pos rfl, K2_i, B106_199 (wk_0_2 k_81), B68_0 (wk_0_2 k_81), K2_i, B106_202, show 81 + 1 = 82 from rfl, show 81 + 3 = 84 from rfl, e0, e1]
theorem Q_s12 : E 106 0 [some (.ref 1), some (.int 12)] [] (GG L) I = some (some (.int (I 2 2)), GG L, I) := by
  rw [B106_0, show swt (12 : Int32).toInt 0 [68, 84, 92, 100, 108, 116, 124, 132, 140, 148, 156, 180, 204] 212 = 204 from rfl, B106_204, B50_0, K2_i, B106_211]
/-- the settings counted -/
theorem C14 {v : Nat} (hR : Ly n g e Z I) (hv : v < n) (hv3 : v < 3) (h6 : I 81 6 = nI v) : ∀ (m k : Nat), m + k = 10 → E 14 4 [some (.ref 81), some (.int (nI (min k 3))), some (.int (nI k))] [] (GG L) I = some (some (.int (nI 3)), GG L, I) := by
  intro m
  induction m with
  | zero =>
    intro k hm
    have hk : k = 10 := by omega
    subst hk
    rw [B14_4 k_81, if_pos (by decide)]; rfl
  | succ m ih =>
    intro k hm
    have hn := hR.1
    have h1 := ih (k + 1) (by omega)
    rw [B14_4 k_81, if_neg (show ¬ (10 : Int32) ≤ nI k from nI_ge (a := k) (b := 10) (show k < 10 by omega) (by decide)), S10 hR k_81 hv h6, K2_i, B14_14 k_81 (k_lay (by omega)), L32k (hR.2.2.2 v hv hv3) (by omega) (by omega), K2_i, B14_18 k_81, nI_1, nI_1]
    by_cases q : k < 3
    · rw [tI_t q, if_neg (by decide), show min k 3 + 1 = min (k + 1) 3 by omega]; exact h1
    · rw [tI_f q, if_pos rfl, show min k 3 = min (k + 1) 3 by omega]; exact h1
theorem C14n (hR : Ly n g e Z I) (h6 : I 81 6 = -6) : ∀ (m k : Nat), m + k = 10 → E 14 4 [some (.ref 81), some (.int 0), some (.int (nI k))] [] (GG L) I = some (some (.int 0), GG L, I) := by
  intro m
  induction m with
  | zero =>
    intro k hm
    have hk : k = 10 := by omega
    subst hk
    rw [B14_4 k_81, if_pos (by decide)]
  | succ m ih =>
    intro k hm
    have h1 := ih (k + 1) (by omega)
    rw [B14_4 k_81, if_neg (show ¬ (10 : Int32) ≤ nI k from nI_ge (a := k) (b := 10) (show k < 10 by omega) (by decide)), S10n hR k_81 h6, K2_i, B14_14 k_81 k_emp, S32k k_emp (by omega), K2_i, B14_18 k_81, nI_1, tI_f (fun q => q (hR.2.2.1 k (by omega))), if_pos rfl]
    exact h1
theorem Q_s6 {v : Nat} (hR : Ly n g e Z I) (h : Rd I 81 P) (hv : v < n) (hv3 : v < 3) (h6 : P.2.1 6 = nI v) : E 106 0 [some (.ref 1), some (.int 6)] [] (GG L) I = some (some (.int (nI 3)), GG L, I) := by
  have i6 : I 81 6 = nI v := (h.2.2.2.1 6 (by decide) (by decide)).trans h6
  rw [B106_0, show swt (6 : Int32).toInt 0 [68, 84, 92, 100, 108, 116, 124, 132, 140, 148, 156, 180, 204] 212 = 124 from rfl, B106_124, B14_0 k_81]
  have := C14 (L := L) hR hv hv3 i6 10 0 rfl
  refine (congrArg _ this).trans ?_
  rw [K2_i, B106_131]
theorem Q_s6n (hR : Ly n g e Z I) (h : Rd I 81 P) (h6 : P.2.1 6 = -6) : E 106 0 [some (.ref 1), some (.int 6)] [] (GG L) I = some (some (.int 0), GG L, I) := by
  have i6 : I 81 6 = -6 := (h.2.2.2.1 6 (by decide) (by decide)).trans h6
  rw [B106_0, show swt (6 : Int32).toInt 0 [68, 84, 92, 100, 108, 116, 124, 132, 140, 148, 156, 180, 204] 212 = 124 from rfl, B106_124, B14_0 k_81]
  have := C14n (L := L) hR i6 10 0 rfl
  refine (congrArg _ this).trans ?_
  rw [K2_i, B106_131]
theorem C15 {v : Nat} {x : Nat → Nat} (hR : Ly n g e Z I) (hv : v < n) (hv3 : v < 3) (h6 : I 81 6 = nI v) (hV : ∀ k, k < 10 → I 86 k = nV x k) (hx : ∀ k, k < 3 → x k < 256) : ∀ (m k : Nat), m + k = 10 → E 15 4 [some (.ref 81), some (.int (nI (fls e v x (min k 3)).2)), some (.int (nI k))] [] (GG L) I = some (some (.int (nI (fls e v x 3).2)), GG L, I) := by
  intro m
  induction m with
  | zero =>
    intro k hm
    have hk : k = 10 := by omega
    subst hk
    rw [B15_4 k_81, if_pos (by decide)]; rfl
  | succ m ih =>
    intro k hm
    have hn := hR.1
    have h1 := ih (k + 1) (by omega)
    have hl := hR.2.2.2 v hv hv3
    rw [B15_4 k_81, if_neg (show ¬ (10 : Int32) ≤ nI k from nI_ge (a := k) (b := 10) (show k < 10 by omega) (by decide)), S10 hR k_81 hv h6, K2_i, B15_14 k_81 (k_lay (by omega)), L32k hl (by omega) (by omega), K2_i, B15_18 k_81, nI_1]
    by_cases q : k < 3
    · have hlv := hl.2.1 k q
      have hxk := hx k q
      rw [tI_t q, if_neg (by decide), ck_of (inb_nI (by omega) (by decide)), ix_nI (by omega), show 81 + 5 = 86 from rfl, hV k (by omega), nV_k q, S10 hR k_81 hv h6, K2_i, B15_31 k_81 (k_lay (by omega)), L34 hl (by omega) q, K2_i, B15_35 k_81, nI_1, nI_1, show min k 3 = k by omega]
      rw [show min (k + 1) 3 = k + 1 by omega] at h1
      by_cases hU : x k = e v k
      · rw [if_pos (by rw [hU])]
        rw [fls_s hU] at h1
        exact h1
      · rw [if_neg (fun z => hU ((nI_eq (by omega) (by omega)).mp z))]
        rw [fls_c hU] at h1
        exact h1
    · rw [tI_f q, if_pos rfl, show min k 3 = min (k + 1) 3 by omega]; exact h1
theorem Q_s7 {v : Nat} {x : Nat → Nat} (hR : Ly n g e Z I) (h : Rd I 81 P) (hv : v < n) (hv3 : v < 3) (h6 : P.2.1 6 = nI v) (hV : P.2.2.2.2.2.1 = nV x) (hx : ∀ k, k < 3 → x k < 256) : E 106 0 [some (.ref 1), some (.int 7)] [] (GG L) I = some (some (.int (nI (fls e v x 3).2)), GG L, I) := by
  have i6 : I 81 6 = nI v := (h.2.2.2.1 6 (by decide) (by decide)).trans h6
  rw [B106_0, show swt (7 : Int32).toInt 0 [68, 84, 92, 100, 108, 116, 124, 132, 140, 148, 156, 180, 204] 212 = 132 from rfl, B106_132, B15_0 k_81]
  have := C15 (L := L) (x := x) hR hv hv3 i6 (fun k hk => (h.2.2.2.2.2 k hk).1.trans (by rw [hV])) hx 10 0 rfl
  refine (congrArg _ this).trans ?_
  rw [K2_i, B106_139]
/-! values and places -/
theorem Q_get {v k : Nat} {w : Option Nat} (hR : Ly n g e Z I) (h : Rd I 81 P) (hw : P.1 = some w) (hv : v < n) (hv3 : v < 3) (h6 : P.2.1 6 = nI v) (hk : k < 3) : E 98 0 [some (.ref 1), some (.int (nI k))] [] (GG L) I = some (some (.int (P.2.2.2.2.2.1 k)), GG L, I) := by
  have hn := hR.1
  have i6 : I 81 6 = nI v := (h.2.2.2.1 6 (by decide) (by decide)).trans h6
  rw [B98_0, S2 k_81 h, K2_i, B98_7, hw, show pwA (some w) = 1 from rfl, if_neg (by decide), S10 hR k_81 hv i6, K2_i, B98_20 (k_lay (by omega)), L32k (hR.2.2.2 v hv hv3) (by omega) (by omega), K2_i, B98_24, tI_t hk, if_neg (by decide), S11 k_81 (by omega), K2_i, B98_35, (h.2.2.2.2.2 k (by omega)).1]
theorem Q_getn {w : Option Nat} {y : Int32} (hR : Ly n g e Z I) (h : Rd I 81 P) (hw : P.1 = some w) (h6 : P.2.1 6 = -6) : E 98 0 [some (.ref 1), some (.int y)] [] (GG L) I = some (some (.int (-1)), GG L, I) := by
  have i6 : I 81 6 = -6 := (h.2.2.2.1 6 (by decide) (by decide)).trans h6
  rw [B98_0, S2 k_81 h, K2_i, B98_7, hw, show pwA (some w) = 1 from rfl, if_neg (by decide), S10n hR k_81 i6, K2_i, B98_20 k_emp, S32 k_emp, K2_i, B98_24, tI_f (fun ⟨k, hk, _, q⟩ => q (hR.2.2.1 k hk)), if_pos rfl]
theorem Q_get0 {y : Int32} (h : Rd I 81 P) (hw : P.1 = none) : E 98 0 [some (.ref 1), some (.int y)] [] (GG L) I = some (some (.int (-5)), GG L, I) := by
  rw [B98_0, S2 k_81 h, K2_i, B98_7, hw, show pwA none = 0 from rfl, if_pos rfl]
theorem Q_record {v k : Nat} {w : Option Nat} (hR : Ly n g e Z I) (h : Rd I 81 P) (hw : P.1 = some w) (hv : v < n) (hv3 : v < 3) (h6 : P.2.1 6 = nI v) (hk : k < 3) : E 107 0 [some (.ref 1), some (.int (nI k))] [] (GG L) I = some (some (.int (P.2.2.2.2.2.2 k)), GG L, I) := by
  have hn := hR.1
  have i6 : I 81 6 = nI v := (h.2.2.2.1 6 (by decide) (by decide)).trans h6
  rw [B107_0, S2 k_81 h, K2_i, B107_7, hw, show pwA (some w) = 1 from rfl, if_neg (by decide), S10 hR k_81 hv i6, K2_i, B107_20 (k_lay (by omega)), L32k (hR.2.2.2 v hv hv3) (by omega) (by omega), K2_i, B107_24, tI_t hk, if_neg (by decide), S12 k_81 (by omega), K2_i, B107_35, (h.2.2.2.2.2 k (by omega)).2]
theorem Q_recordn {w : Option Nat} {y : Int32} (hR : Ly n g e Z I) (h : Rd I 81 P) (hw : P.1 = some w) (h6 : P.2.1 6 = -6) : E 107 0 [some (.ref 1), some (.int y)] [] (GG L) I = some (some (.int (-1)), GG L, I) := by
  have i6 : I 81 6 = -6 := (h.2.2.2.1 6 (by decide) (by decide)).trans h6
  rw [B107_0, S2 k_81 h, K2_i, B107_7, hw, show pwA (some w) = 1 from rfl, if_neg (by decide), S10n hR k_81 i6, K2_i, B107_20 k_emp, S32 k_emp, K2_i, B107_24, tI_f (fun ⟨k, hk, _, q⟩ => q (hR.2.2.1 k hk)), if_pos rfl]
/-! layouts -/
theorem Q_l0 {v k : Nat} (hR : Ly n g e Z I) (hv : v < n) (hv3 : v < 3) (hk : k < 3) : E 95 0 [some (.ref 1), some (.int (nI v)), some (.int (nI k)), some (.int 0), none] [] (GG L) I = some (some (.int (nI (g v k))), GG L, I) := by
  have hn := hR.1
  have hl := hR.2.2.2 v hv hv3
  rw [B95_0, S46 hR hv, K2_i, B95_8 (k_lay (by omega)), L32k hl (by omega) (by omega), K2_i, B95_16 (k_lay (by omega)), tI_t hk, if_neg (by decide), show swt (0 : Int32).toInt 0 [48, 55, 62] 69 = 48 from rfl, B95_48 (k_lay (by omega)), L33 hl (by omega) hk, K2_i, B95_54]
theorem Q_l1 {v k : Nat} (hR : Ly n g e Z I) (hv : v < n) (hv3 : v < 3) (hk : k < 3) : E 95 0 [some (.ref 1), some (.int (nI v)), some (.int (nI k)), some (.int 1), none] [] (GG L) I = some (some (.int (nI (e v k))), GG L, I) := by
  have hn := hR.1
  have hl := hR.2.2.2 v hv hv3
  rw [B95_0, S46 hR hv, K2_i, B95_8 (k_lay (by omega)), L32k hl (by omega) (by omega), K2_i, B95_16 (k_lay (by omega)), tI_t hk, if_neg (by decide), show swt (1 : Int32).toInt 0 [48, 55, 62] 69 = 55 from rfl, B95_55 (k_lay (by omega)), L34 hl (by omega) hk, K2_i, B95_61]
theorem Q_l2 {v k : Nat} (hR : Ly n g e Z I) (hv : v < n) (hv3 : v < 3) (h0 : 0 < v) (hk : k < 3) : E 95 0 [some (.ref 1), some (.int (nI v)), some (.int (nI k)), some (.int 2), none] [] (GG L) I = some (some (.int (nI k)), GG L, I) := by
  have hn := hR.1
  have hl := hR.2.2.2 v hv hv3
  rw [B95_0, S46 hR hv, K2_i, B95_8 (k_lay (by omega)), L32k hl (by omega) (by omega), K2_i, B95_16 (k_lay (by omega)), tI_t hk, if_neg (by decide), show swt (2 : Int32).toInt 0 [48, 55, 62] 69 = 62 from rfl, B95_62 (k_lay (by omega)), L35 hl (by omega) h0 hk, K2_i, B95_68]
theorem Q_ln {v k : Nat} {y : Int32} (hR : Ly n g e Z I) (hv : v < n) (hv3 : v < 3) (hk : 3 ≤ k) (hk2 : k < 2 ^ 31) : E 95 0 [some (.ref 1), some (.int (nI v)), some (.int (nI k)), some (.int y), none] [] (GG L) I = some (some (.int (-1)), GG L, I) := by
  have hn := hR.1
  have hl := hR.2.2.2 v hv hv3
  rw [B95_0, S46 hR hv, K2_i, B95_8 (k_lay (by omega)), L32k hl (by omega) hk2, K2_i, B95_16 (k_lay (by omega)), tI_f (by omega), if_pos rfl]
theorem Q_lf {y z u : Int32} (hR : Ly n g e Z I) (hy : ∀ v, v < n → y ≠ nI v) : E 95 0 [some (.ref 1), some (.int y), some (.int z), some (.int u), none] [] (GG L) I = some (some (.int (-1)), GG L, I) := by
  rw [B95_0, S46n hR hy, K2_i, B95_8 k_emp, S32 k_emp, K2_i, B95_16 k_emp, tI_f (fun ⟨k, hk, _, q⟩ => q (hR.2.2.1 k hk)), if_pos rfl]
/-! cells and pages -/
theorem S115 {y : Int32} : E 115 0 [some (.int y)] [] (GG L) I = some (some (.int (tI (∃ p, p < 2 ∧ y = nI p))), GG L, I) := by
  rcases below y (n := 2) (by decide) with ⟨k, hk, e⟩ | ⟨h3, h4⟩
  · rw [tI_t ⟨k, hk, e⟩, e, B115_0, if_neg (nI_pos (by omega)), if_neg (show ¬ (2 : Int32) ≤ nI k from nI_ge (a := k) (b := 2) hk (by decide))]
  · rw [tI_f (fun ⟨k, hk, e⟩ => h4 k hk e), B115_0]
    by_cases h5 : y < 0
    · rw [if_pos h5]
    · rw [if_neg h5, if_pos (show (2 : Int32) ≤ y from h3.resolve_left h5)]
theorem S117 {y : Int32} : E 117 0 [some (.int y)] [] (GG L) I = some (some (.int (tI (∃ p, p < 2 ∧ y = nI p))), GG L, I) := by
  rcases below y (n := 2) (by decide) with ⟨k, hk, e⟩ | ⟨h3, h4⟩
  · rw [tI_t ⟨k, hk, e⟩, e, B117_0, if_neg (nI_pos (by omega)), if_neg (show ¬ (2 : Int32) ≤ nI k from nI_ge (a := k) (b := 2) hk (by decide))]
  · rw [tI_f (fun ⟨k, hk, e⟩ => h4 k hk e), B117_0]
    by_cases h5 : y < 0
    · rw [if_pos h5]
    · rw [if_neg h5, if_pos (show (2 : Int32) ≤ y from h3.resolve_left h5)]
theorem S116 {y z : Int32} : E 116 0 [some (.int y), some (.int z)] [] (GG L) I = some (some (.int (tI ((∃ p, p < 2 ∧ y = nI p) ∧ ∃ k, k < 48 ∧ z = nI k))), GG L, I) := by
  rw [B116_0, S115, K2_i, B116_4]
  by_cases h : ∃ p, p < 2 ∧ y = nI p
  · rw [tI_t h, if_neg (by decide)]
    rcases below z (n := 48) (by decide) with ⟨k, hk, e⟩ | ⟨h3, h4⟩
    · rw [tI_t ⟨h, k, hk, e⟩, e, if_neg (nI_pos (by omega)), if_neg (show ¬ (48 : Int32) ≤ nI k from nI_ge (a := k) (b := 48) hk (by decide))]
    · rw [tI_f (fun ⟨_, k, hk, e⟩ => h4 k hk e)]
      by_cases h5 : z < 0
      · rw [if_pos h5]
      · rw [if_neg h5, if_pos (show (48 : Int32) ≤ z from h3.resolve_left h5)]
  · rw [tI_f h, if_pos rfl, tI_f (fun q => h q.1)]
theorem Q_cell {p k : Nat} (h : Rd I 81 P) (hp : p < 2) (hk : k < 48) : E 103 0 [some (.ref 1), some (.int (nI p)), some (.int (nI k))] [] (GG L) I = some (some (.int (P.2.2.2.2.1 p k)), GG L, I) := by
  rw [B103_0, S116, K2_i, B103_5, tI_t ⟨⟨p, hp, rfl⟩, k, hk, rfl⟩, if_neg (by decide), S9 k_81 hp, K2_i, B103_16 (k_pg k_81 hp), S71 (k_pg k_81 hp) hk, K2_i, B103_20, Rd_cells h hp hk]
theorem Q_cellf {y z : Int32} (hyz : ¬ ((∃ p, p < 2 ∧ y = nI p) ∧ ∃ k, k < 48 ∧ z = nI k)) : E 103 0 [some (.ref 1), some (.int y), some (.int z)] [] (GG L) I = some (some (.int (-1)), GG L, I) := by
  rw [B103_0, S116, K2_i, B103_5, tI_f hyz, if_pos rfl]
/-- the sum over all cells -/
def hsh (C : Nat → Nat → Int32) : Nat → Int32
  | 0 => 0
  | k + 1 => hsh C k * 31 + C (k / 48) (k % 48)
theorem Q_cells (h : Rd I 81 P) : E 126 0 [some (.ref 1), none, none] [] (GG L) I = some (some (.int (hsh P.2.2.2.2.1 96)), GG L, I) := by
  have key : ∀ (m k : Nat), m + k = 96 → E 126 4 [some (.ref 1), some (.int (hsh P.2.2.2.2.1 k)), some (.int (nI k))] [] (GG L) I = some (some (.int (hsh P.2.2.2.2.1 96)), GG L, I) := by
    intro m
    induction m with
    | zero =>
      intro k hm
      have hk : k = 96 := by omega
      subst hk
      rw [B126_4, if_pos (by decide)]
    | succ m ih =>
      intro k hm
      have h1 := ih (k + 1) (by omega)
      rw [B126_4, if_neg (show ¬ (96 : Int32) ≤ nI k from nI_ge (a := k) (b := 96) (show k < 96 by omega) (by decide)), show (48 : Int32) = nI 48 from rfl, nI_div (by omega) (by decide), nI_mul, nI_sub (Nat.div_mul_le_self k 48), show k - k / 48 * 48 = k % 48 by omega, Q_cell h (by omega) (by omega), K2_i, B126_26, nI_1]
      exact h1
  rw [B126_0]
  exact key 96 0 rfl
theorem hsh_congr {C C' : Nat → Nat → Int32} (h : ∀ p k, p < 2 → k < 48 → C p k = C' p k) : ∀ m, m ≤ 96 → hsh C m = hsh C' m := by
  intro m
  induction m with
  | zero => intro _; rfl
  | succ m ih =>
    intro hm
    show hsh C m * 31 + C (m / 48) (m % 48) = hsh C' m * 31 + C' (m / 48) (m % 48)
    rw [ih (by omega), h _ _ (by omega) (by omega)]
theorem Q_p {p : Nat} {y : Int32} (hp : p < 2) : E 105 0 [some (.ref 1), some (.int (nI p)), some (.int y), none] [] (GG L) I = E 105 (swt (y : Int32).toInt 0 [56, 61, 66, 83, 93, 103] 108) [some (.ref 1), some (.int (nI p)), some (.int y), some (.ref (82 + 2 * p))] [] (GG L) I := by
  have k4 := k_pg (L := L) k_81 hp
  rw [B105_0, S115, K2_i, B105_4, tI_t ⟨p, hp, rfl⟩, if_neg (by decide), S9 k_81 hp, K2_i, B105_17 k4]
theorem Q_p0 {p : Nat} (h : Rd I 81 P) (hp : p < 2) : E 105 0 [some (.ref 1), some (.int (nI p)), some (.int 0), none] [] (GG L) I = some (some (.int (P.2.2.1 p)), GG L, I) := by
  have k4 : kd (GG L) (82 + 2 * p) = 4 := k_pg (L := L) k_81 hp
  have e1 : I (82 + 2 * p) 1 = P.2.2.1 p := (h.2.2.2.2.1 p hp).1
  rw [Q_p hp, show swt (0 : Int32).toInt 0 [56, 61, 66, 83, 93, 103] 108 = 56 from rfl, B105_56 k4, B67_0 k4, K2_i, B105_60, e1]
theorem Q_p1 {p : Nat} (h : Rd I 81 P) (hp : p < 2) : E 105 0 [some (.ref 1), some (.int (nI p)), some (.int 1), none] [] (GG L) I = some (some (.int (P.2.2.2.1 p)), GG L, I) := by
  have k4 : kd (GG L) (82 + 2 * p) = 4 := k_pg (L := L) k_81 hp
  have e1 : I (82 + 2 * p) 2 = P.2.2.2.1 p := (h.2.2.2.2.1 p hp).2.1
  rw [Q_p hp, show swt (1 : Int32).toInt 0 [56, 61, 66, 83, 93, 103] 108 = 61 from rfl, B105_61 k4, B68_0 k4, K2_i, B105_65, e1]
theorem Hdx_P {p : Nat} (h : Rd I 81 P) (hp : p < 2) : Hdx n (I (82 + 2 * p + 1)) ↔ Hdx n (P.2.2.2.2.1 p) := Hdx_congr (fun k hk => Rd_cells (d := 81) h hp hk)
theorem Q_p2 {p : Nat} (hR : Ly n g e Z I) (h : Rd I 81 P) (hp : p < 2) : E 105 0 [some (.ref 1), some (.int (nI p)), some (.int 2), none] [] (GG L) I = some (some (.int (tI (Hdx n (P.2.2.2.2.1 p)))), GG L, I) := by
  have k4 : kd (GG L) (82 + 2 * p) = 4 := k_pg (L := L) k_81 hp
  rw [Q_p hp, show swt (2 : Int32).toInt 0 [56, 61, 66, 83, 93, 103] 108 = 66 from rfl, B105_66 k4, S77 hR k4, K2_i, B105_74, tI_iff (Hdx_P h hp)]
  by_cases q : Hdx n (P.2.2.2.2.1 p)
  · rw [tI_t q]; rfl
  · rw [tI_f q]; rfl
/-- how many good records there are -/
noncomputable def gct (g : Nat → Nat → Nat) (v : Nat) (f : Nat → Int32) : Nat → Int32
  | 0 => 0
  | j + 1 => @ite _ (Gdx g v f (3 + 3 * j)) (Classical.propDecidable _) (gct g v f j + 1) (gct g v f j)
theorem gct_g {v j : Nat} {f : Nat → Int32} (h : Gdx g v f (3 + 3 * j)) : gct g v f (j + 1) = gct g v f j + 1 := if_pos h
theorem gct_b {v j : Nat} {f : Nat → Int32} (h : ¬ Gdx g v f (3 + 3 * j)) : gct g v f (j + 1) = gct g v f j := if_neg h
theorem rdf_bg {v j : Nat} {f : Nat → Int32} (h : Gdx g v f (3 + 3 * j)) : (rdf g e v f (j + 1)).2.2 = (rdf g e v f j).2.2 := by
  rw [show rdf g e v f (j + 1) = _ from if_pos h]
theorem gct_bad {v : Nat} {f : Nat → Int32} : ∀ j, gct g v f j + (rdf g e v f j).2.2 = nI j := by
  intro j
  induction j with
  | zero => rfl
  | succ j ih =>
    by_cases h : Gdx g v f (3 + 3 * j)
    · rw [gct_g h, rdf_bg h, ← nI_1, ← ih, Int32.add_assoc, Int32.add_assoc, Int32.add_comm 1]
    · rw [gct_b h, rdf_b h, ← nI_1, ← ih, Int32.add_assoc]
theorem C81 {p v r : Nat} {b : Bool} {f : Nat → Int32} (hR : Ly n g e Z I) (hp : p < 2) (hv : v < n) (hv3 : v < 3) (hc : ∀ k, k < 48 → I (82 + 2 * p + 1) k = f k) (h0 : f 0 = nI (200 + v)) (hr : nr f = r) : ∀ (m j : Nat), m + j = r →
    E 81 25 [some (.ref (82 + 2 * p)), some (.ref 9), some (.int (if b then 1 else 0)), some (.ref (21 + 10 * v)), some (.int (if b then gct g v f j else (rdf g e v f j).2.2)), some (.int (nI (3 + 3 * j)))] [] (GG L) I = some (some (.int (if b then gct g v f r else (rdf g e v f r).2.2)), GG L, I) := by
  have k4 : kd (GG L) (82 + 2 * p) = 4 := k_pg (L := L) k_81 hp
  have hn := hR.1
  have kl := k_lay (L := L) (v := v) (by omega)
  obtain ⟨hr15, hr1, hr2⟩ := nr_spec f
  rw [hr] at hr15 hr1 hr2
  intro m
  induction m with
  | zero =>
    intro j hm
    have hj : j = r := by omega
    subst hj
    rcases hr2 with q | q
    · subst q
      rw [B81_25 k4 kl, if_pos (by decide)]
    · by_cases q15 : j = 15
      · subst q15
        rw [B81_25 k4 kl, if_pos (by decide)]
      · rw [B81_25 k4 kl, if_neg (show ¬ (48 : Int32) ≤ nI (3 + 3 * j) from nI_ge (a := 3 + 3 * j) (b := 48) (by omega) (by decide)), S78 k4 (by omega) (by omega), hc _ (by omega), tI_f (fun z => z q), K2_i, B81_38 k4 kl, if_pos rfl]
  | succ m ih =>
    intro j hm
    have h1 := ih (j + 1) (by omega)
    have s79 := S79 (L := L) (o := 82 + 2 * p) (i := 3 + 3 * j) (hR.2.2.2 v hv hv3) (by omega) k4 (by omega)
    rw [tI_iff (Gdx_congr (fun k _ hk => hc k (by omega)))] at s79
    rw [B81_25 k4 kl, if_neg (show ¬ (48 : Int32) ≤ nI (3 + 3 * j) from nI_ge (a := 3 + 3 * j) (b := 48) (by omega) (by decide)), S78 k4 (by omega) (by omega), hc _ (by omega), tI_t (hr1 j (by omega)), K2_i, B81_38 k4 kl, if_neg (by decide), S75 k4, hc 0 (by decide), h0, sub_200.mpr rfl, K2_i, B81_49 k4 kl k4 kl, s79, K2_i, B81_52 k4 kl, show nI (3 + 3 * j) + 3 = nI (3 + 3 * (j + 1)) from nI_add _ 3]
    by_cases hg : Gdx g v f (3 + 3 * j)
    · rw [tI_t hg]
      rw [gct_g hg, rdf_bg hg] at h1
      cases b with
      | true => exact h1
      | false => exact h1
    · rw [tI_f hg]
      rw [gct_b hg, rdf_b hg] at h1
      cases b with
      | true => exact h1
      | false => exact h1
theorem Q_p3 {p v : Nat} (hR : Ly n g e Z I) (h : Rd I 81 P) (hp : p < 2) (hH : Hdx n (P.2.2.2.2.1 p)) (hv : v < n) (hv3 : v < 3) (h0 : P.2.2.2.2.1 p 0 = nI (200 + v)) : E 105 0 [some (.ref 1), some (.int (nI p)), some (.int 3), none] [] (GG L) I = some (some (.int (gct g v (P.2.2.2.2.1 p) (nr (P.2.2.2.2.1 p)))), GG L, I) := by
  have k4 : kd (GG L) (82 + 2 * p) = 4 := k_pg (L := L) k_81 hp
  have hn := hR.1
  have kl := k_lay (L := L) (v := v) (by omega)
  have c0 : I (82 + 2 * p + 1) 0 = nI (200 + v) := (Rd_cells (d := 81) h hp (by decide)).trans h0
  have := C81 (L := L) (b := true) hR hp hv hv3 (fun k hk => Rd_cells (d := 81) h hp hk) h0 rfl (nr (P.2.2.2.2.1 p)) 0 rfl
  rw [Q_p hp, show swt (3 : Int32).toInt 0 [56, 61, 66, 83, 93, 103] 108 = 83 from rfl, B105_83 k4, B81_0 k4, S77 hR k4, K2_i, B81_5 k4, tI_t ((Hdx_P h hp).mpr hH), if_neg (by decide), S75 k4, c0, sub_200.mpr rfl, K2_i, B81_15 k4, S46 hR hv, K2_i, B81_18 k4 kl]
  exact (congrArg _ this).trans (by rw [K2_i, B105_92]; rfl)
theorem Q_p4 {p v : Nat} (hR : Ly n g e Z I) (h : Rd I 81 P) (hp : p < 2) (hH : Hdx n (P.2.2.2.2.1 p)) (hv : v < n) (hv3 : v < 3) (h0 : P.2.2.2.2.1 p 0 = nI (200 + v)) : E 105 0 [some (.ref 1), some (.int (nI p)), some (.int 4), none] [] (GG L) I = some (some (.int (rdf g e v (P.2.2.2.2.1 p) (nr (P.2.2.2.2.1 p))).2.2), GG L, I) := by
  have k4 : kd (GG L) (82 + 2 * p) = 4 := k_pg (L := L) k_81 hp
  have hn := hR.1
  have kl := k_lay (L := L) (v := v) (by omega)
  have c0 : I (82 + 2 * p + 1) 0 = nI (200 + v) := (Rd_cells (d := 81) h hp (by decide)).trans h0
  have := C81 (L := L) (b := false) hR hp hv hv3 (fun k hk => Rd_cells (d := 81) h hp hk) h0 rfl (nr (P.2.2.2.2.1 p)) 0 rfl
  rw [Q_p hp, show swt (4 : Int32).toInt 0 [56, 61, 66, 83, 93, 103] 108 = 93 from rfl, B105_93 k4, B81_0 k4, S77 hR k4, K2_i, B81_5 k4, tI_t ((Hdx_P h hp).mpr hH), if_neg (by decide), S75 k4, c0, sub_200.mpr rfl, K2_i, B81_15 k4, S46 hR hv, K2_i, B81_18 k4 kl]
  exact (congrArg _ this).trans (by rw [K2_i, B105_102]; rfl)
theorem Q_p3n {p : Nat} (hR : Ly n g e Z I) (h : Rd I 81 P) (hp : p < 2) (hH : ¬ Hdx n (P.2.2.2.2.1 p)) : E 105 0 [some (.ref 1), some (.int (nI p)), some (.int 3), none] [] (GG L) I = some (some (.int 0), GG L, I) := by
  have k4 : kd (GG L) (82 + 2 * p) = 4 := k_pg (L := L) k_81 hp
  rw [Q_p hp, show swt (3 : Int32).toInt 0 [56, 61, 66, 83, 93, 103] 108 = 83 from rfl, B105_83 k4, B81_0 k4, S77 hR k4, K2_i, B81_5 k4, tI_f (fun q => hH ((Hdx_P h hp).mp q)), if_pos rfl, K2_i, B105_92]
/-- the cells that are not erased -/
def fct (f : Nat → Int32) : Nat → Nat
  | 0 => 0
  | k + 1 => if f k = -6 then fct f k else fct f k + 1
theorem Q_p5 {p : Nat} (h : Rd I 81 P) (hp : p < 2) : E 105 0 [some (.ref 1), some (.int (nI p)), some (.int 5), none] [] (GG L) I = some (some (.int (nI (fct (P.2.2.2.2.1 p) 48))), GG L, I) := by
  have k4 : kd (GG L) (82 + 2 * p) = 4 := k_pg (L := L) k_81 hp
  have key : ∀ (m k : Nat), m + k = 48 → E 74 4 [some (.ref (82 + 2 * p)), some (.int (nI (fct (P.2.2.2.2.1 p) k))), some (.int (nI k))] [] (GG L) I = some (some (.int (nI (fct (P.2.2.2.2.1 p) 48))), GG L, I) := by
    intro m
    induction m with
    | zero =>
      intro k hm
      have hk : k = 48 := by omega
      subst hk
      rw [B74_4 k4, if_pos (by decide)]
    | succ m ih =>
      intro k hm
      have h1 := ih (k + 1) (by omega)
      rw [B74_4 k4, if_neg (show ¬ (48 : Int32) ≤ nI k from nI_ge (a := k) (b := 48) (show k < 48 by omega) (by decide)), ck_of (inb_nI (by omega) (by decide)), ix_nI (by omega), nI_1, nI_1]
      have hc : I (82 + 2 * p + 1) k = P.2.2.2.2.1 p k := Rd_cells (d := 81) h hp (by omega)
      rw [hc]
      by_cases q : P.2.2.2.2.1 p k = -6
      · rw [if_pos q]
        rw [show fct (P.2.2.2.2.1 p) (k + 1) = fct (P.2.2.2.2.1 p) k from if_pos q] at h1
        exact h1
      · rw [if_neg q]
        rw [show fct (P.2.2.2.2.1 p) (k + 1) = fct (P.2.2.2.2.1 p) k + 1 from if_neg q] at h1
        exact h1
  rw [Q_p hp, show swt (5 : Int32).toInt 0 [56, 61, 66, 83, 93, 103] 108 = 103 from rfl, B105_103 k4, B74_0 k4]
  exact (congrArg _ (key 48 0 rfl)).trans (by rw [K2_i, B105_107])
end QQ
