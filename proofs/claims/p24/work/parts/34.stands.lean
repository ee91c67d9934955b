/-! ===== p24: the law's checks that all stands, and that a start changes nothing ===== -/
theorem TT_new {n : Nat} {g e Z : Nat → Nat → Nat} {P : Pc} {o0 o1 : Option Pc} {L : Nat × Nat} {I : It} (h : TT n g e Z P o0 o1 I) : TT n g e Z P o0 o1 (nI0 (GG L) I) := by
  have o : ∀ b, b < 119 → nI0 (GG L) I b = I b := fun b hb => nI0_o _ _ _ (by rw [GG_n]; omega)
  refine ⟨Ly_congr h.1 (fun a _ ha => o a (by omega)), Rd_oth h.2.1 (fun a q1 q2 => o a (by omega)), ?_, ?_⟩
  · have hi := h.2.2.1
    cases o0 with
    | none => show nI0 (GG L) I 118 0 = 0; rw [o 118 (by decide)]; exact hi
    | some P1 => exact ⟨by rw [o 118 (by decide)]; exact hi.1, Rd_oth hi.2 (fun b q1 q2 => o b (by omega))⟩
  · have hi := h.2.2.2
    cases o1 with
    | none => show nI0 (GG L) I 118 1 = 0; rw [o 118 (by decide)]; exact hi
    | some P1 => exact ⟨by rw [o 118 (by decide)]; exact hi.1, Rd_oth hi.2 (fun b q1 q2 => o b (by omega))⟩
theorem TT_u {n : Nat} {g e Z : Nat → Nat → Nat} {P : Pc} {o0 o1 : Option Pc} {o k : Nat} {y : Int32} {I : It} (h : TT n g e Z P o0 o1 I) (ho : 119 ≤ o) : TT n g e Z P o0 o1 (uI I o k y) := by
  have oo : ∀ b, b < 119 → uI I o k y b = I b := fun b hb => uI_o _ _ _ _ _ (by omega)
  refine ⟨Ly_congr h.1 (fun a _ ha => oo a (by omega)), Rd_oth h.2.1 (fun a q1 q2 => oo a (by omega)), ?_, ?_⟩
  · have hi := h.2.2.1
    cases o0 with
    | none => show uI I o k y 118 0 = 0; rw [oo 118 (by decide)]; exact hi
    | some P1 => exact ⟨by rw [oo 118 (by decide)]; exact hi.1, Rd_oth hi.2 (fun b q1 q2 => oo b (by omega))⟩
  · have hi := h.2.2.2
    cases o1 with
    | none => show uI I o k y 118 1 = 0; rw [oo 118 (by decide)]; exact hi
    | some P1 => exact ⟨by rw [oo 118 (by decide)]; exact hi.1, Rd_oth hi.2 (fun b q1 q2 => oo b (by omega))⟩
/-- where a value is from -/
theorem rdf_at {g e : Nat → Nat → Nat} {v k : Nat} {f : Nat → Int32} (hk : k < 3) : ∀ j, ((rdf g e v f j).2.1 k = -6 ∧ (rdf g e v f j).1 k = nI (e v k)) ∨ ∃ i, i < j ∧ (rdf g e v f j).2.1 k = nI (3 + 3 * i) ∧ f (3 + 3 * i) = nI (k + 1) ∧ f (3 + 3 * i + 1) = (rdf g e v f j).1 k := by
  intro j
  induction j with
  | zero => exact Or.inl ⟨rfl, by show dfV e v k = _; unfold dfV; rw [if_pos hk]⟩
  | succ j ih =>
    by_cases hG : Gdx g v f (3 + 3 * j)
    · obtain ⟨y, b, hy, hb, w0, w1, w2⟩ := id hG
      rw [rdf_g hy hG w0 w1]
      by_cases z : k = y
      · subst z
        refine Or.inr ⟨j, Nat.lt_succ_self _, ?_, w0, ?_⟩
        · simp only [up_s]
        · simp only [up_s]; exact w1
      · simp only [up_k _ _ _ z]
        rcases ih with ih | ⟨i, h1, h2⟩
        · exact Or.inl ih
        · exact Or.inr ⟨i, by omega, h2⟩
    · rw [rdf_b hG]
      rcases ih with ih | ⟨i, h1, h2⟩
      · exact Or.inl ih
      · exact Or.inr ⟨i, by omega, h2⟩
section ST
variable {L : Nat × Nat} {n a v s r : Nat} {g e Z : Nat → Nat → Nat} {x : Nat → Nat} {I : It} {P : Pc} {o0 o1 : Option Pc}
theorem Iv_x (hG : Gk g e) (h : Iw g e P a v s r x) : ∀ k, k < 3 → x k < 256 := fun k hk => by
  have h1 := h.2.2.2.2.2.2.2.2.2 k hk
  have h2 := (hG v k h.1.2.2.2.2.2.1 hk).1
  omega
theorem G_s1 (hT : TT n g e Z P o0 o1 I) (h : Iw g e P a v s r x) : E 106 0 [some (.ref 1), some (.int 1)] [] (GG L) I = some (some (.int (nI a)), GG L, I) := by rw [Q_s1 hT.2.1, h.1.1]
theorem G_s2 (hT : TT n g e Z P o0 o1 I) (h : Iw g e P a v s r x) : E 106 0 [some (.ref 1), some (.int 2)] [] (GG L) I = some (some (.int (nI v)), GG L, I) := by rw [Q_s2 hT.2.1, h.1.2.1]
theorem G_s3 (hT : TT n g e Z P o0 o1 I) (h : Iw g e P a v s r x) : E 106 0 [some (.ref 1), some (.int 3)] [] (GG L) I = some (some (.int (nI s)), GG L, I) := by rw [Q_s3 hT.2.1, h.1.2.2.1]
theorem G_s4 (hT : TT n g e Z P o0 o1 I) (h : Iw g e P a v s r x) : E 106 0 [some (.ref 1), some (.int 4)] [] (GG L) I = some (some (.int (nI (15 - r))), GG L, I) := by
  have hr := h.1.2.2.2.2.2.2.2
  rw [Q_s4 hT.2.1, h.1.2.2.2.1, show (48 : Int32) = nI 48 from rfl, nI_sub (by omega), show (3 : Int32) = nI 3 from rfl, nI_div (by omega) (by decide), show (48 - (3 + 3 * r)) / 3 = 15 - r by omega]
theorem G_s6 (hn : 3 ≤ n) (hT : TT n g e Z P o0 o1 I) (h : Iw g e P a v s r x) : E 106 0 [some (.ref 1), some (.int 6)] [] (GG L) I = some (some (.int (nI 3)), GG L, I) := Q_s6 hT.1 hT.2.1 (by have := h.1.2.2.2.2.2.1; omega) h.1.2.2.2.2.2.1 h.1.2.1
theorem G_s7 (hn : 3 ≤ n) (hG : Gk g e) (hT : TT n g e Z P o0 o1 I) (h : Iw g e P a v s r x) : E 106 0 [some (.ref 1), some (.int 7)] [] (GG L) I = some (some (.int (nI (fls e v x 3).2)), GG L, I) := Q_s7 hT.1 hT.2.1 (by have := h.1.2.2.2.2.2.1; omega) h.1.2.2.2.2.2.1 h.1.2.1 h.2.1 (Iv_x hG h)
theorem G_get {w : Option Nat} {k : Nat} (hn : 3 ≤ n) (hT : TT n g e Z P o0 o1 I) (hw : P.1 = some w) (h : Iw g e P a v s r x) (hk : k < 3) : E 98 0 [some (.ref 1), some (.int (nI k))] [] (GG L) I = some (some (.int (nI (x k))), GG L, I) := by
  rw [Q_get hT.1 hT.2.1 hw (by have := h.1.2.2.2.2.2.1; omega) h.1.2.2.2.2.2.1 h.1.2.1 hk, h.2.1, nV_k hk]
theorem G_rec {w : Option Nat} {k : Nat} (hn : 3 ≤ n) (hT : TT n g e Z P o0 o1 I) (hw : P.1 = some w) (h : Iw g e P a v s r x) (hk : k < 3) : E 107 0 [some (.ref 1), some (.int (nI k))] [] (GG L) I = some (some (.int (P.2.2.2.2.2.2 k)), GG L, I) := Q_record hT.1 hT.2.1 hw (by have := h.1.2.2.2.2.2.1; omega) h.1.2.2.2.2.2.1 h.1.2.1 hk
theorem G_l0 {k : Nat} (hn : 3 ≤ n) (hT : TT n g e Z P o0 o1 I) (hv3 : v < 3) (hk : k < 3) : E 95 0 [some (.ref 1), some (.int (nI v)), some (.int (nI k)), some (.int 0), none] [] (GG L) I = some (some (.int (nI (g v k))), GG L, I) := Q_l0 hT.1 (by omega) hv3 hk
theorem G_l1 {k : Nat} (hn : 3 ≤ n) (hT : TT n g e Z P o0 o1 I) (hv3 : v < 3) (hk : k < 3) : E 95 0 [some (.ref 1), some (.int (nI v)), some (.int (nI k)), some (.int 1), none] [] (GG L) I = some (some (.int (nI (e v k))), GG L, I) := Q_l1 hT.1 (by omega) hv3 hk
theorem G_at (hG : Gk g e) (h : Iw g e P a v s r x) {k : Nat} (hk : k < 3) : (P.2.2.2.2.2.2 k = -6 ∧ x k = e v k) ∨ ∃ i, i < r ∧ P.2.2.2.2.2.2 k = nI (3 + 3 * i) ∧ P.2.2.2.2.1 a (3 + 3 * i) = nI (k + 1) ∧ P.2.2.2.2.1 a (3 + 3 * i + 1) = nI (x k) := by
  have hx := Iv_x hG h k hk
  have hGk := hG v k h.1.2.2.2.2.2.1 hk
  obtain ⟨-, -, -, -, -, hV, hQ, -⟩ := h.2.2
  have := rdf_at (g := g) (e := e) (v := v) (f := P.2.2.2.2.1 a) hk r
  rw [hV, hQ, nV_k hk] at this
  rcases this with ⟨q1, q2⟩ | q
  · exact Or.inl ⟨q1, (nI_eq (by omega) (by omega)).mp q2⟩
  · exact Or.inr q
/-- the loop over the settings -/
theorem St_loop (hn : 3 ≤ n) (hG : Gk g e) (hT : TT n g e Z P o0 o1 I) (hI : Iv g e P a v s r x) : ∀ (m k : Nat) {u5 u6 : Option Value}, m + k = 3 → ∃ u5' u6', E 129 17 [some (.ref 1), some (.int (nI a)), some (.int (nI v)), some (.int (nI (fls e v x k).2)), some (.int (nI k)), u5, u6] [] (GG L) I = E 129 17 [some (.ref 1), some (.int (nI a)), some (.int (nI v)), some (.int (nI (fls e v x 3).2)), some (.int (nI 3)), u5', u6'] [] (GG L) I := by
  obtain ⟨hw, h⟩ := hI
  have hx := Iv_x hG h
  have ha := h.1.2.2.2.2.1
  have hv3 := h.1.2.2.2.2.2.1
  have hr := h.1.2.2.2.2.2.2.2
  intro m
  induction m with
  | zero =>
    intro k u5 u6 hm
    have hk : k = 3 := by omega
    subst hk
    exact ⟨_, _, rfl⟩
  | succ m ih =>
    intro k u5 u6 hm
    have hk : k < 3 := by omega
    have hxk := hx k hk
    have hGk := hG v k hv3 hk
    have hxg := h.2.2.2.2.2.2.2.2.2 k hk
    obtain ⟨u5', u6', h1⟩ := ih (k + 1) (u5 := some (.int (nI (x k)))) (u6 := some (.int (P.2.2.2.2.2.2 k))) (by omega)
    refine ⟨u5', u6', ?_⟩
    rw [← h1, B129_17, if_neg (show ¬ (3 : Int32) ≤ nI k from nI_ge (a := k) (b := 3) hk (by decide)), G_get hn hT hw h hk, K2_i, B129_29, G_rec hn hT hw h hk, K2_i, B129_37, G_l1 hn hT hv3 hk, K2_i, B129_50]
    have key : ∀ b : Nat, E 129 58 [some (.ref 1), some (.int (nI a)), some (.int (nI v)), some (.int (nI (fls e v x k).2)), some (.int (nI k)), some (.int (nI (x k))), some (.int (P.2.2.2.2.2.2 k))] [.int (nI b), .int (nI (fls e v x k).2)] (GG L) I = E 129 17 [some (.ref 1), some (.int (nI a)), some (.int (nI v)), some (.int (nI ((fls e v x k).2 + b))), some (.int (nI (k + 1))), some (.int (nI (x k))), some (.int (P.2.2.2.2.2.2 k))] [] (GG L) I := by
      intro b
      rw [B129_58, if_neg (nI_pos (by omega)), G_l0 hn hT hv3 hk, K2_i, B129_75, if_pos (nI_le hxg (by omega)), nI_add]
      rcases G_at hG h hk with ⟨q1, q2⟩ | ⟨i, hi, q1, q2, q3⟩
      · rw [q1, if_pos (by decide), G_l1 hn hT hv3 hk, K2_i, B129_141, if_pos (by rw [q2]), nI_1]
      · rw [q1, if_neg (nI_pos (by omega)), Q_cell hT.2.1 ha (by omega), K2_i, B129_92, q2, show 1 + nI k = nI (k + 1) from by rw [Int32.add_comm, nI_1], if_pos rfl, nI_1, Q_cell hT.2.1 ha (by omega), K2_i, B129_108, q3, if_pos rfl, G_s4 hT h, K2_i, B129_123, if_pos, nI_1]
        rw [show (48 : Int32) = nI 48 from rfl, show (3 : Int32) = nI 3 from rfl, nI_mul, nI_sub (by omega)]
        exact nI_lt (by omega) (by omega)
    by_cases hU : x k = e v k
    · rw [if_pos (by rw [hU]), fls_s hU]
      exact key 0
    · rw [if_neg (fun z => hU ((nI_eq (by omega) (by omega)).mp z)), fls_c hU]
      exact key 1
theorem Law_stands (hn : 3 ≤ n) (hG : Gk g e) (hT : TT n g e Z P o0 o1 I) (hI : Iv g e P a v s r x) : E 129 0 [some (.ref 1), none, none, none, none, none, none] [] (GG L) I = some (some (.int 1), GG L, I) := by
  obtain ⟨hw, h⟩ := id hI
  have hn6 := hT.1.1
  have ha := h.1.2.2.2.2.1
  have hv3 := h.1.2.2.2.2.2.1
  have hr := h.1.2.2.2.2.2.2.2
  obtain ⟨k0, k1, k2⟩ := h.2.2.2.1
  have hH : Hdx n (P.2.2.2.2.1 a) := Cw_head hn hn6 h.2.2
  have hnr := Cw_nr h.2.2
  obtain ⟨u5, u6, hl⟩ := St_loop (L := L) hn hG hT hI 3 0 (u5 := none) (u6 := none) rfl
  have hl' : E 129 17 [some (.ref 1), some (.int (nI a)), some (.int (nI v)), some (.int 0), some (.int 0), none, none] [] (GG L) I = _ := hl
  have c0 : E 103 0 [some (.ref 1), some (.int (nI a)), some (.int 0)] [] (GG L) I = some (some (.int (nI (200 + v))), GG L, I) := (Q_cell (k := 0) hT.2.1 ha (by decide)).trans (by rw [k0])
  have c1 : E 103 0 [some (.ref 1), some (.int (nI a)), some (.int 1)] [] (GG L) I = some (some (.int (nI s)), GG L, I) := (Q_cell (k := 1) hT.2.1 ha (by decide)).trans (by rw [k1])
  have p00 : E 105 0 [some (.ref 1), some (.int 0), some (.int 0), none] [] (GG L) I = _ := Q_p0 (p := 0) hT.2.1 (by decide)
  have p10 : E 105 0 [some (.ref 1), some (.int 1), some (.int 0), none] [] (GG L) I = _ := Q_p0 (p := 1) hT.2.1 (by decide)
  have p01 : E 105 0 [some (.ref 1), some (.int 0), some (.int 1), none] [] (GG L) I = _ := Q_p1 (p := 0) hT.2.1 (by decide)
  have p11 : E 105 0 [some (.ref 1), some (.int 1), some (.int 1), none] [] (GG L) I = _ := Q_p1 (p := 1) hT.2.1 (by decide)
  rw [B129_0, G_s1 hT h, K2_i, B129_5, G_s2 hT h, K2_i, B129_11, hl', B129_17, if_pos (by decide), c0, K2_i, B129_158, if_pos (show nI (200 + v) = 200 + nI v from (nI_add 200 v).symm), c1, K2_i, B129_172, G_s3 hT h, K2_i, B129_177, if_pos rfl, Q_p2 hT.1 hT.2.1 ha, K2_i, B129_186, tI_t hH, if_pos rfl, G_s7 hn hG hT h, K2_i, B129_198, if_pos rfl, G_s6 hn hT h, K2_i, B129_208, if_pos (show nI 3 = (3 : Int32) from rfl), Q_s10 hT.2.1, K2_i, B129_218, p00, K2_i, B129_224, p10, K2_i, B129_230, if_pos rfl, Q_s11 hT.2.1, K2_i, B129_240, p01, K2_i, B129_246, p11, K2_i, B129_252, if_pos rfl, Q_p3 hT.1 hT.2.1 ha hH (by omega) hv3 k0, K2_i, B129_262, Q_p4 hT.1 hT.2.1 ha hH (by omega) hv3 k0, K2_i, B129_268, gct_bad, hnr, G_s4 hT h, K2_i, B129_276, if_pos]
  rw [show (15 : Int32) = nI 15 from rfl, nI_sub (by omega), show 15 - (15 - r) = r by omega]
end ST
