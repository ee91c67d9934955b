/-! ===== p24: the power fails while a value is set ===== -/
section IN
variable {L : Nat × Nat} {n a v s r : Nat} {g e Z : Nat → Nat → Nat} {x : Nat → Nat} {I : It} {P : Pc} {o0 o1 : Option Pc}
theorem okv_P {Q : Nat → Int32} (h : Cw g e P.2.2.2.2.1 a v s r x Q) : okv n P := by
  obtain ⟨w, A, W, X, C, V, Q'⟩ := P
  exact Cw_okv h
theorem rst_P {Q : Nat → Int32} (hn : 3 ≤ n) (hn6 : n ≤ 6) (h : Cw g e P.2.2.2.2.1 a v s r x Q) : rst n g e P = (some none, rg (nI a) (nI v) (nI s) (nI (3 + 3 * r)) (rdf g e v (P.2.2.2.2.1 a) r).2.2, P.2.2.1, P.2.2.2.1, P.2.2.2.2.1, nV x, Q) := by
  obtain ⟨w, A, W, X, C, V, Q'⟩ := P
  exact Cw_rst hn hn6 h
theorem nx3 {k : Nat} (hk : k < 3) : (nI k + 1) - (nI k + 1) / 3 * 3 = nI ((k + 1) % 3) := by
  rw [nI_1, show (3 : Int32) = nI 3 from rfl, nI_rem (by omega) (by decide)]
theorem Law_int {k c m : Nat} (hn : 3 ≤ n) (hG : Gk g e) (hT : TT n g e Z P o0 o1 I) (hI : Iv g e P a v s r x) (hk : k < 3) (hc : c ≤ g v k) (hm : m ≤ 200) : ∃ I' P' a' s' r' x', E 128 0 [some (.ref 1), some (.int (nI k)), some (.int (nI c)), some (.int (nI m)), none, none, none, none, none, none] [] (GG L) I = some (some (.int 1), GG L, I') ∧ TT n g e Z P' o0 o1 I' ∧ FN I I' ∧ Iv g e P' a' v s' r' x' := by
  obtain ⟨hw, h⟩ := hI
  have hn6 := hT.1.1
  have hx := Iv_x hG h
  have hv3 := h.1.2.2.2.2.2.1
  have hgk := (hG v k hv3 hk).1
  have hk1 : (k + 1) % 3 < 3 := Nat.mod_lt _ (by decide)
  obtain ⟨P1, hP1⟩ : ∃ P1 : Pc, (some (some m), P.2) = P1 := ⟨_, rfl⟩
  have h1 : Iw g e P1 a v s r x := hP1 ▸ h
  have hw1 : P1.1 = some (some m) := by rw [← hP1]
  have hw1n : P1.1 ≠ none := by rw [hw1]; exact fun q => by cases q
  obtain ⟨T, hTT⟩ : ∃ T, chT e v r x k c = T := ⟨_, rfl⟩
  obtain ⟨P2, hP2⟩ : ∃ P2, chS e P1 a v s r x k c = P2 := ⟨_, rfl⟩
  have hN : chN e P1 v r x k c = min m T := by rw [chN_eq, hTT, hw1]; rfl
  have hW : P2.2.2.1 0 + P2.2.2.1 1 = P1.2.2.1 0 + P1.2.2.1 1 + nI (min m T) := by rw [← hP2, ← hN]; exact ch_W h1
  have hall := ch_all hG hw1n h1 hk hc
  rw [hTT, hP2, hw1] at hall
  -- what is found then
  obtain ⟨x', hx'⟩ : ∃ x' : Nat → Nat, (if m < T then x else up x k c) = x' := ⟨_, rfl⟩
  have hCw : ∃ a' s' r' Q', Cw g e P2.2.2.2.2.1 a' v s' r' x' Q' := by
    rcases hall with ⟨q1, -, a', s', r', q3⟩ | ⟨q1, -, -, r', q3⟩
    · have : ¬ m < T := fun z => q1 (by simp only [pa]; rw [if_neg (by omega)])
      rw [if_neg this] at hx'
      exact ⟨a', s', r', _, hx' ▸ q3.2.2⟩
    · have : m < T := by
        by_cases z : T ≤ m
        · simp only [pa] at q1; rw [if_pos z] at q1; cases q1
        · omega
      rw [if_pos this] at hx'
      exact ⟨a, s, r', _, hx' ▸ q3⟩
  obtain ⟨a', s', r', Q', hC⟩ := hCw
  have hrst := rst_P (n := n) hn hn6 hC
  have hoth : x' ((k + 1) % 3) = x ((k + 1) % 3) := by
    rw [← hx']
    split
    · rfl
    · exact up_k _ _ _ (by omega)
  have hdue : x' k = if m < T then x k else c := by
    rw [← hx']
    split
    · rfl
    · exact up_s _ _ _
  have hx'k : x' k < 256 := by rw [hdue]; have := hx k hk; split <;> omega
  -- the calls
  have iff : ∀ {I0 : It} {j : Nat}, TT n g e Z P o0 o1 I0 → j < 3 → ∃ I1, E 109 0 [some (.ref 1), some (.int (nI k)), some (.int (nI c)), some (.int (nI m)), some (.int (nI j)), none] [] (GG L) I0 = some (some (.int (nI (x' j))), GG L, I1) ∧ TT n g e Z P o0 o1 I1 ∧ FN I0 I1 := by
    intro I0 j hT0 hj
    have := C_iff (L := L) (j := j) (v' := v) hT0 hw h.1 (by omega) hx h.2.1 hk hc hm hj (by rw [hP1, hP2]; exact okv_P hC) (by rw [hP1, hP2, hrst]; rfl) (by omega) hv3
    rw [hP1, hP2, hrst] at this
    obtain ⟨I1, q1, q2, q3⟩ := this
    refine ⟨I1, q1.trans ?_, q2, q3⟩
    show some (some (Value.int (nV x' j)), GG L, I1) = _
    rw [nV_k hj]
  obtain ⟨I1, a1, hT1, f1⟩ := iff hT hk
  obtain ⟨I2, a2, hT2, f2⟩ := iff hT1 hk1
  obtain ⟨I3, a3, hT3, f3⟩ := C_fail (L := L) hT2 hw hm
  rw [hP1] at hT3
  obtain ⟨I4, a4, hT4, f4⟩ := C_set (L := L) hT3 hw1 h1.1 (by omega) hx h1.2.1 hk hc
  rw [hN] at a4
  rw [hP2] at hT4
  obtain ⟨I5, P5, a5, hT5, f5, hI5, e5⟩ := G_start (L := L) hn hT4 hC
  have hsum : P2.2.2.1 0 + P2.2.2.1 1 = P.2.2.1 0 + P.2.2.1 1 + nI (min m T) := by rw [hW, ← hP1]
  refine ⟨I5, P5, a', s', r', x', ?_, hT5, FN_tr f1 (FN_tr f2 (FN_tr f3 (FN_tr f4 f5))), hI5⟩
  have b0 := B128_0 (L := L) (x1 := nI k) (x2 := nI c) (x3 := nI m) (I := I)
  rw [G_get hn hT hw h hk, K2_i, B128_5, nx3 hk, G_get hn hT hw h hk1, K2_i, B128_16, a1, K2_i, B128_26] at b0
  have b1 : E 128 0 [some (.ref 1), some (.int (nI k)), some (.int (nI c)), some (.int (nI m)), none, none, none, none, none, none] [] (GG L) I = E 128 41 [some (.ref 1), some (.int (nI k)), some (.int (nI c)), some (.int (nI m)), some (.int (nI (x k))), some (.int (nI (x ((k + 1) % 3)))), some (.int (nI (x' k))), none, none, none] [] (GG L) I1 := by
    refine b0.trans ?_
    by_cases q : m < T
    · rw [if_pos (by rw [hdue, if_pos q])]
    · by_cases z : nI (x' k) = nI (x k)
      · rw [if_pos z]
      · rw [if_neg z, if_pos (by rw [hdue, if_neg q])]
  have g9 := Q_s9 (L := L) hT3.2.1
  rw [hw1] at g9
  have g9' : E 106 0 [some (.ref 1), some (.int 9)] [] (GG L) I3 = some (some (.int (nI m)), GG L, I3) := g9
  rw [b1, B128_41, nx3 hk, a2, K2_i, B128_53, if_pos (by rw [hoth]), Q_s10 hT2.2.1, K2_i, B128_66, a3, K2_i, B128_73, if_pos rfl, g9', K2_i, B128_82, if_pos rfl, a4, K2_i, B128_94, Q_s0 hT4.2.1, K2_i, B128_101]
  have g0 : E 106 0 [some (.ref 1), some (.int 0)] [] (GG L) I5 = some (some (.int 1), GG L, I5) := by rw [Q_s0 hT5.2.1, hI5.1]; rfl
  have g95 : E 106 0 [some (.ref 1), some (.int 9)] [] (GG L) I5 = some (some (.int (-6)), GG L, I5) := by rw [Q_s9 hT5.2.1, hI5.1]; rfl
  have ha' := hC.1.1
  rcases hall with ⟨q1, q2, -⟩ | ⟨q1, q2, -⟩
  · -- it was not cut off
    have hmT : ¬ m < T := fun z => q1 (by simp only [pa]; rw [if_neg (by omega)])
    have hpa : pa (some (some m)) T = some (some (m - T)) := by simp only [pa]; rw [if_pos (by omega)]
    rw [hpa] at q2
    rw [if_neg hmT] at hdue
    have hI2 : Iw g e P2 a' v s' r' x' → True := fun _ => trivial
    have hg4 : E 98 0 [some (.ref 1), some (.int (nI k))] [] (GG L) I4 = some (some (.int (nI c)), GG L, I4) := by
      obtain ⟨z1, z2, a2', s2', r2', z3⟩ : P1.1 ≠ none ∧ True ∧ ∃ a' s' r', Iw g e P2 a' v s' r' (up x k c) := by
        refine ⟨hw1n, trivial, ?_⟩
        have hall := ch_all hG hw1n h1 hk hc
        rw [hTT, hP2, hw1, hpa] at hall
        rcases hall with ⟨-, -, z⟩ | ⟨z, -⟩
        · exact z
        · cases z
      rw [G_get hn hT4 q2 z3 hk, up_s]
    have g94 : E 106 0 [some (.ref 1), some (.int 9)] [] (GG L) I4 = some (some (.int (nI (m - T))), GG L, I4) := by rw [Q_s9 hT4.2.1, q2]; rfl
    rw [q2, show pwA (some (some (m - T))) = 1 from rfl, if_neg (by decide), Q_s10 hT4.2.1, K2_i, B128_117, if_pos hsum, if_neg (nI_nlt (by omega) (by omega)), if_pos rfl, B128_144, if_pos rfl, if_pos rfl, hg4, K2_i, B128_203, if_pos rfl, g94, K2_i, B128_213, if_pos (by rw [nI_sub (by omega), show m - min m T = m - T by omega]), a5, K2_i, B128_226, if_neg (nI_pos (by omega)), g0, K2_i, B128_234, if_pos rfl, g95, K2_i, B128_244, if_pos rfl, G_get hn hT5 hI5.1 hI5.2 hk, K2_i, B128_256, if_pos rfl, nx3 hk, G_get hn hT5 hI5.1 hI5.2 hk1, K2_i, B128_270, if_pos (by rw [hoth]), if_pos rfl, if_pos (by rw [hdue]), B128_286, if_pos rfl, if_pos (by rw [hdue])]
  · -- it was
    have hmT : m < T := by
      by_cases z : T ≤ m
      · simp only [pa] at q1; rw [if_pos z] at q1; cases q1
      · omega
    rw [if_pos hmT] at hdue
    have g94 : E 106 0 [some (.ref 1), some (.int 9)] [] (GG L) I4 = some (some (.int (-6)), GG L, I4) := by rw [Q_s9 hT4.2.1, q2]; rfl
    have gf1 : E 96 0 [some (.ref 1), some (.int 1), none] [] (GG L) I4 = some (some (.int (-5)), GG L, I4) := C_fail0 (m := 1) hT4.2.1 q2 (by decide)
    rw [q2, show pwA none = 0 from rfl, if_pos rfl, Q_s10 hT4.2.1, K2_i, B128_117, if_pos hsum, if_neg (nI_nlt (by omega) (by omega)), if_neg (by decide), if_pos (by rw [show min m T = m by omega]), B128_144, if_neg (by decide), Q_get0 hT4.2.1 q2, K2_i, B128_154, if_pos rfl, C_set0 hT4.2.1 q2, K2_i, B128_165, if_pos rfl, gf1, K2_i, B128_175, if_pos rfl, g94, K2_i, B128_186, if_pos rfl, if_neg (by decide), a5, K2_i, B128_226, if_neg (nI_pos (by omega)), g0, K2_i, B128_234, if_pos rfl, g95, K2_i, B128_244, if_pos rfl, G_get hn hT5 hI5.1 hI5.2 hk, K2_i, B128_256, if_pos rfl, nx3 hk, G_get hn hT5 hI5.1 hI5.2 hk1, K2_i, B128_270, if_pos (by rw [hoth]), if_neg (by decide), B128_286, if_neg (by decide), hdue]
    by_cases z : nI (x k) = nI c
    · rw [if_pos z, if_pos z]
    · rw [if_neg z, if_pos rfl]
end IN
