/-! ===== p24: the law's walk over a later version ===== -/
theorem TT_low {n : Nat} {g e Z : Nat → Nat → Nat} {P : Pc} {o0 o1 : Option Pc} {I I' : It} (h : TT n g e Z P o0 o1 I) (hI : ∀ a, 9 ≤ a → I' a = I a) : TT n g e Z P o0 o1 I' :=
  TT_def h (Ly_congr h.1 (fun a h9 _ => hI a h9)) (fun a ha => hI a (by omega))
theorem lg4 : ∀ k, k < 3 → ∀ u, u < 8 → ∀ t : Bool, ((((97 + nI k) : Int32).toInt64 <<< ((24 : Int32).toInt64 &&& 63) ||| (((if t then 42 else 47) : Int32).toInt64 <<< ((16 : Int32).toInt64 &&& 63))) ||| (((48 + nI (2 + u)) : Int32).toInt64 <<< ((8 : Int32).toInt64 &&& 63))) ||| 44 = lN (vr [97 + k, (if t then 42 else 47), 48 + (2 + u), 44].reverse) := by decide +kernel
theorem lg2 : ∀ o, o < 3 → ((97 + nI o) : Int32).toInt64 <<< ((8 : Int32).toInt64 &&& 63) ||| 60 = lN (vr [97 + o, 60].reverse) := by decide +kernel
section LL
variable {L : Nat × Nat} {n w : Nat} {g e Z : Nat → Nat → Nat} {I : It} {P : Pc} {o0 o1 : Option Pc}
theorem Ch_of {t : List Nat} (h : t.all (fun c => decide (33 ≤ c ∧ c ≤ 126)) = true) : Ch t := fun c hc => by
  have := List.all_eq_true.mp h c hc
  simpa using this
/-- the pad's fault, of such a text -/
theorem T_faultW {times : Bool} {k b o m : Nat} (hk : k < 3) (h2 : 2 ≤ b) (h9 : b ≤ 9) (ho3 : o < 3) (hm : m < 256) (h : Pd (txW times k b o m) I) : ∃ I', E 112 0 [some (.ref 1)] [] (GG L) I = some (some (.int (-6)), GG L, I') ∧ Pd (txW times k b o m) I' ∧ ∀ a, a ≠ 2 → (a < 4 ∨ 8 < a) → I' a = I a := by
  have hC := txW_Ch (times := times) hk (show b < 10 by omega) ho3 hm
  have hlen : (txW times k b o m).length = 6 + (dg m).length := by
    unfold txW
    simp only [List.length_cons, List.length_append, List.length_nil]
    omega
  have hl3 : (dg m).length ≤ 3 := dg_le
  have hTc := Tc_T hC (by omega)
  have ndn : nd [] := fun z => absurd z.1 (show ¬ 48 ≤ 0 by decide)
  obtain ⟨s0, c0⟩ := stp_sc (c := cT (txW times k b o m)) (a := 0) (n := k) (b := b) (times := times) (rest := 44 :: (97 + o) :: 60 :: (dg m ++ [])) (by omega) h2 h9 (fun i => by rw [Nat.zero_add]; rfl)
  have s1 := stp_lim (c := cT (txW times k b o m)) (a := 0 + 3 + 1) (o := o) (m := m) (rest := []) (by omega) hm (fun i => by rw [Nat.add_assoc, Nat.add_comm 1 i, c0]; rfl) ndn
  rw [show 0 + 3 + 1 + (2 + (dg m).length) = (txW times k b o m).length by omega] at s1
  have hc0 : cT (txW times k b o m) (0 + 3) = 44 := c0 0
  obtain ⟨I0, hI0⟩ : ∃ I0, uI I 4 4 0 = I0 := ⟨_, rfl⟩
  have t0 : TI (txW times k b o m).length (cT (txW times k b o m)) I0 := ⟨by rw [← hI0, uI_o _ _ _ _ _ (by decide)]; exact h.1, fun j hj => by rw [← hI0, uI_o _ _ _ _ _ (by decide)]; exact h.2 j hj⟩
  have h40 : I0 4 4 = nI 0 := by rw [← hI0, uI_s]; rfl
  have r0 := R_next (L := L) (i := 0) hTc t0 (Nat.zero_le _) h40 (by decide) s0 hc0
  have t1 := TI_A 0 (if times then 3 else 4) k b 0 t0
  have r1 := R_last (L := L) (i := 0 + 1) hTc t1 (by omega) (App_4 _ _ _ _ _ _) (by decide) s1
  have t2 := TI_A (0 + 1) 5 o m 0 t1
  refine ⟨AI (App (App I0 0 (if times then 3 else 4) k b 0) (0 + 1) 5 o m 0) (txW times k b o m).length, ?_, ⟨(AI_2 _ _).trans t2.1, fun j hj => by rw [AI_o _ _ _ (by decide)]; exact t2.2 j hj⟩, fun a p1 p2 => by
    rw [AI_o _ _ _ p1, FR_A _ _ _ _ _ _ a p1 p2, FR_A _ _ _ _ _ _ a p1 p2, ← hI0, uI_o _ _ _ _ _ (by omega)]⟩
  rw [B112_0, R_0, hI0, r0, r1, K2_i, B112_7]
/-- one number of one setting, in both versions -/
theorem La_num {times : Bool} {k b o m j what : Nat} {y1 : Option Value} {u10 : Option Value} {gv : Nat → Nat → Nat} (hwh : (what = 0 ∧ gv = g) ∨ (what = 1 ∧ gv = e)) (hk : k < 3) (h2 : 2 ≤ b) (h9 : b ≤ 9) (ho3 : o < 3) (hm : m < 256) (h0 : 0 < w) (hw3 : w < 3) (hR : Ly (w + 1) g e Z I) (hZ : Z w = zW times k b o m) (hj : j < 3) : ∃ x10 : Int32, E 125 206 [some (.ref 1), y1, some (.int (nI w)), some (.int (nI k)), some (.int (nI b)), some (.int (nI m)), some (.int (nI o)), some (.int (if times then 1 else 0)), some (.int (nI j)), some (.int (nI what)), u10] [] (GG L) I = E 125 206 [some (.ref 1), y1, some (.int (nI w)), some (.int (nI k)), some (.int (nI b)), some (.int (nI m)), some (.int (nI o)), some (.int (if times then 1 else 0)), some (.int (nI j)), some (.int (nI (what + 1))), some (.int x10)] [] (GG L) I := by
  have q0 : ∀ v, v < w + 1 → E 95 0 [some (.ref 1), some (.int (nI v)), some (.int (nI j)), some (.int (nI what)), none] [] (GG L) I = some (some (.int (nI (gv v j))), GG L, I) := fun v hv => by
    rcases hwh with ⟨r1, r2⟩ | ⟨r1, r2⟩
    · rw [r1, r2]; exact Q_l0 hR hv (by omega) hj
    · rw [r1, r2]; exact Q_l1 hR hv (by omega) hj
  have hlw := hR.2.2.2 w (by omega) hw3
  have hlv := (hR.2.2.2 (w - 1) (by omega) (by omega)).2.1 j hj
  have hb256 : gv (w - 1) j < 256 := by rcases hwh with ⟨-, r2⟩ | ⟨-, r2⟩ <;> rw [r2] <;> omega
  have hmg : gv w j = mg Z w j (gv (w - 1) j) := by
    have := (hlw.2.2 h0).2.2.2.2.2.2.2.2.2.2.2.2.2.2 j hj
    rcases hwh with ⟨-, r2⟩ | ⟨-, r2⟩
    · rw [r2]; exact this.1
    · rw [r2]; exact this.2
  obtain ⟨x, hx⟩ : ∃ x, gv (w - 1) j = x := ⟨_, rfl⟩
  rw [hx] at hmg hb256
  have z0 : Z w 0 = if times then 3 else 4 := by rw [hZ]; rfl
  have z1 : Z w 1 = k := by rw [hZ]; rfl
  have z2 : Z w 2 = b := by rw [hZ]; rfl
  have z3 : Z w 3 = o := by rw [hZ]; rfl
  have z4 : Z w 4 = m := by rw [hZ]; rfl
  have hx1 := mg1_lt (Z := Z) (w := w) (k := j) hb256
  have hwh2 : ¬ (2 : Int32) ≤ nI what := nI_ge (a := what) (b := 2) (by rcases hwh with ⟨r1, -⟩ | ⟨r1, -⟩ <;> omega) (by decide)
  have b0 := B125_206 (L := L) (u1 := y1) (x2 := nI w) (x3 := nI k) (x4 := nI b) (x5 := nI m) (x6 := nI o) (x7 := if times then 1 else 0) (x8 := nI j) (x9 := nI what) (u10 := u10) (I := I)
  rw [if_neg hwh2, show nI w - 1 = nI (w - 1) from by obtain ⟨v, hv⟩ : ∃ v, w = v + 1 := ⟨w - 1, by omega⟩; rw [hv]; exact nI_pred v, q0 (w - 1) (by omega), hx, K2_i, B125_223] at b0
  -- the first step
  have st1 : E 125 206 [some (.ref 1), y1, some (.int (nI w)), some (.int (nI k)), some (.int (nI b)), some (.int (nI m)), some (.int (nI o)), some (.int (if times then 1 else 0)), some (.int (nI j)), some (.int (nI what)), u10] [] (GG L) I = E 125 268 [some (.ref 1), y1, some (.int (nI w)), some (.int (nI k)), some (.int (nI b)), some (.int (nI m)), some (.int (nI o)), some (.int (if times then 1 else 0)), some (.int (nI j)), some (.int (nI what)), some (.int (nI (mg1 Z w j x)))] [] (GG L) I := by
    rw [b0]
    unfold mg1
    rw [z0, z1, z2]
    by_cases q : j = k
    · rw [if_pos (show nI j = nI k by rw [q]), if_pos q]
      cases times with
      | true =>
        rw [show (if true = true then (1 : Int32) else 0) = 1 from rfl, if_neg (by decide), show (if true = true then 3 else 4) = 3 from rfl, if_pos rfl, nI_mul]
        have hxb : x * b ≤ 255 * 9 := Nat.mul_le_mul (by omega) h9
        by_cases z : x * b ≤ 255
        · rw [if_pos (show nI (x * b) ≤ (255 : Int32) from nI_le (b := 255) z (by decide)), Nat.min_eq_left z]
        · rw [if_neg (show ¬ nI (x * b) ≤ (255 : Int32) from nI_ge (a := 255) (b := x * b) (by omega) (by omega)), Nat.min_eq_right (by omega)]; rfl
      | false =>
        have hb0 : ¬ nI b = 0 := nI_ne0 (by omega) (by omega)
        rw [show (if false = true then (1 : Int32) else 0) = 0 from rfl, if_pos rfl, show (if false = true then 3 else 4) = 4 from rfl, if_neg (by decide), ck_of (by simp [hb0]), nI_div (by omega) (by omega)]
    · rw [if_neg (fun z => q ((nI_eq (by omega) (by omega)).mp z)), if_neg q]
  refine ⟨nI (gv w j), st1.trans ?_⟩
  rw [B125_268]
  have hmg2 : gv w j = mg2 Z w j (mg1 Z w j x) := hmg
  by_cases q : j = o
  · rw [if_pos (show nI j = nI o by rw [q])]
    have e2 : gv w j = min (mg1 Z w j x) m := by rw [hmg2]; unfold mg2; rw [z3, z4, if_pos q]
    by_cases z : mg1 Z w j x ≤ m
    · rw [if_pos (nI_le z (by omega)), q0 w (by omega), K2_i, B125_295, if_pos (by rw [e2, Nat.min_eq_left z]), nI_1, e2, Nat.min_eq_left z]
    · rw [if_neg (nI_ge (by omega) (by omega)), q0 w (by omega), K2_i, B125_295, if_pos (by rw [e2, Nat.min_eq_right (by omega)]), nI_1, e2, Nat.min_eq_right (by omega)]
  · have e2 : gv w j = mg1 Z w j x := by rw [hmg2]; unfold mg2; rw [z3, if_neg q]
    rw [if_neg (fun z => q ((nI_eq (by omega) (by omega)).mp z)), q0 w (by omega), K2_i, B125_295, if_pos (by rw [e2]), nI_1, e2]
/-- the settings of it, one after the other -/
theorem La_loop {times : Bool} {k b o m : Nat} {y1 : Option Value} (hk : k < 3) (h2 : 2 ≤ b) (h9 : b ≤ 9) (ho3 : o < 3) (hm : m < 256) (h0 : 0 < w) (hw3 : w < 3) (hR : Ly (w + 1) g e Z I) (hZ : Z w = zW times k b o m) : ∀ (d j : Nat) {u9 u10 : Option Value}, d + j = 10 → E 125 176 [some (.ref 1), y1, some (.int (nI w)), some (.int (nI k)), some (.int (nI b)), some (.int (nI m)), some (.int (nI o)), some (.int (if times then 1 else 0)), some (.int (nI j)), u9, u10] [] (GG L) I = some (some (.int 1), GG L, I) := by
  intro d
  induction d with
  | zero =>
    intro j u9 u10 hd
    have hj : j = 10 := by omega
    subst hj
    rw [B125_176, if_pos (by decide)]
  | succ d ih =>
    intro j u9 u10 hd
    rw [B125_176, if_neg (show ¬ (10 : Int32) ≤ nI j from nI_ge (a := j) (b := 10) (by omega) (by decide))]
    by_cases hj : j < 3
    · rw [if_pos (show nI j ≤ (2 : Int32) from nI_le (b := 2) (by omega) (by decide))]
      obtain ⟨x1, e1⟩ := La_num (L := L) (what := 0) (y1 := y1) (u10 := u10) (gv := g) (Or.inl ⟨rfl, rfl⟩) hk h2 h9 ho3 hm h0 hw3 hR hZ hj
      obtain ⟨x2, e2⟩ := La_num (L := L) (what := 1) (y1 := y1) (u10 := some (.int x1)) (gv := e) (Or.inr ⟨rfl, rfl⟩) hk h2 h9 ho3 hm h0 hw3 hR hZ hj
      have e1' : E 125 206 [some (.ref 1), y1, some (.int (nI w)), some (.int (nI k)), some (.int (nI b)), some (.int (nI m)), some (.int (nI o)), some (.int (if times then 1 else 0)), some (.int (nI j)), some (.int 0), u10] [] (GG L) I = _ := e1
      have hlw := (hR.2.2.2 w (by omega) hw3).2.1 j hj
      rw [e1']
      refine e2.trans ?_
      rw [B125_206, if_pos (by decide), Q_l2 hR (by omega) hw3 h0 hj, K2_i, B125_316, if_pos rfl, Q_l1 hR (by omega) hw3 hj, K2_i, B125_329, Q_l0 hR (by omega) hw3 hj, K2_i, B125_337, if_pos (nI_le hlw.2.2.2 (by omega)), nI_1]
      exact ih (j + 1) (by omega)
    · rw [if_neg (show ¬ nI j ≤ (2 : Int32) from nI_ge (a := 2) (b := j) (by omega) (by omega)), Q_ln hR (by omega) hw3 (by omega) (by omega), K2_i, B125_197, if_pos rfl, nI_1]
      exact ih (j + 1) (by omega)
theorem Law_later {y1 : Int32} (h0 : 0 < w) (hw3 : w < 3) (hT : TT w g e Z P o0 o1 I) (hP : Pd [] I) : ∃ I' g' e' Z', E 125 0 [some (.ref 1), some (.int y1), none, none, none, none, none, none, none, none, none] [] (GG L) I = some (some (.int 1), GG L, I') ∧ TT (w + 1) g' e' Z' P o0 o1 I' ∧ Pd [] I' ∧ (∀ a, 81 ≤ a ∨ a = 0 → I' a = I a) ∧ ∀ v, v < w → g' v = g v ∧ e' v = e v := by
  obtain ⟨k, hk, e1⟩ := U_up (L := L) (M := 3) (x := y1) (I := I) (by decide) (by decide)
  obtain ⟨u, hu, e2⟩ := U_up (L := L) (M := 8) (x := y1 >>> ((3 : Int32) &&& 31)) (I := I) (by decide) (by decide)
  obtain ⟨m, hm, e3⟩ := U_up (L := L) (M := 256) (x := y1 >>> ((6 : Int32) &&& 31)) (I := I) (by decide) (by decide)
  obtain ⟨o, ho, e4⟩ := U_up (L := L) (M := 3) (x := y1 >>> ((10 : Int32) &&& 31)) (I := I) (by decide) (by decide)
  obtain ⟨t, ht, e5⟩ := U_up (L := L) (M := 2) (x := y1 >>> ((14 : Int32) &&& 31)) (I := I) (by decide) (by decide)
  have e1' : E 123 0 [some (.int y1), some (.int 3)] [] (GG L) I = some (some (.int (nI k)), GG L, I) := e1
  have e2' : E 123 0 [some (.int (y1 >>> ((3 : Int32) &&& 31))), some (.int 8)] [] (GG L) I = some (some (.int (nI u)), GG L, I) := e2
  have e3' : E 123 0 [some (.int (y1 >>> ((6 : Int32) &&& 31))), some (.int 256)] [] (GG L) I = some (some (.int (nI m)), GG L, I) := e3
  have e4' : E 123 0 [some (.int (y1 >>> ((10 : Int32) &&& 31))), some (.int 3)] [] (GG L) I = some (some (.int (nI o)), GG L, I) := e4
  have e5' : E 123 0 [some (.int (y1 >>> ((14 : Int32) &&& 31))), some (.int 2)] [] (GG L) I = some (some (.int (nI t)), GG L, I) := e5
  obtain ⟨b, hb⟩ : ∃ b, 2 + u = b := ⟨_, rfl⟩
  have b0 := B125_0 (L := L) (x1 := y1) (I := I)
  rw [Q_s8 hT.1, K2_i, B125_6, e1', K2_i, B125_12, e2', K2_i, B125_22, show (2 : Int32) + nI u = nI b from by rw [← hb]; exact nI_add 2 u, e3', K2_i, B125_35, e4', K2_i, B125_45, e5', K2_i, B125_55] at b0
  obtain ⟨times, htm⟩ : ∃ times : Bool, times = decide (t = 0) := ⟨_, rfl⟩
  -- the text
  have hlg := lg4 k hk u hu times
  rw [hb] at hlg
  have cs4 : Ch [97 + k, (if times then 42 else 47), 48 + b, 44] := by
    intro c hc
    simp only [List.mem_cons, List.not_mem_nil, or_false] at hc
    rcases hc with q | q | q | q
    · omega
    · rw [q]; cases times <;> decide
    · omega
    · omega
  obtain ⟨I1, p1, d1, f1⟩ := T_put (L := L) (t := []) (s := [97 + k, (if times then 42 else 47), 48 + b, 44]) cs4 (Nat.succ_pos _) (show 4 ≤ 8 by decide) (show 0 + 4 ≤ 80 by decide) hP
  have cs2 : Ch [97 + o, 60] := by
    intro c hc
    simp only [List.mem_cons, List.not_mem_nil, or_false] at hc
    rcases hc with q | q <;> omega
  obtain ⟨I2, p2, d2, f2⟩ := T_put (L := L) (t := [97 + k, (if times then 42 else 47), 48 + b, 44]) (s := [97 + o, 60]) cs2 (Nat.succ_pos _) (show 2 ≤ 8 by decide) (show 4 + 2 ≤ 80 by decide) d1
  obtain ⟨I3, p3, d3, f3⟩ := T_num (L := L) (t := [97 + k, (if times then 42 else 47), 48 + b, 44] ++ [97 + o, 60]) (v := m) hm (show 6 + 3 ≤ 80 by decide) d2
  have htx : [97 + k, (if times then 42 else 47), 48 + b, 44] ++ [97 + o, 60] ++ dg m = txW times k b o m := by unfold txW; simp
  rw [htx] at d3
  have hT3 : TT w g e Z P o0 o1 I3 := TT_low hT (fun a ha => by rw [f3 a (by omega) (by omega), f2 a (by omega) (by omega), f1 a (by omega) (by omega)])
  obtain ⟨I4, p4, d4, f4⟩ := T_faultW (L := L) hk (show 2 ≤ b by omega) (show b ≤ 9 by omega) ho hm d3
  have hT4 : TT w g e Z P o0 o1 I4 := TT_low hT3 (fun a ha => f4 a (by omega) (by omega))
  obtain ⟨I5, g', e', Z', p5, hT5, d5, f5, ho5, hZ5⟩ := C_defW (L := L) hk (show 2 ≤ b by omega) (show b ≤ 9 by omega) ho hm h0 hw3 hT4 d4
  refine ⟨I5, g', e', Z', ?_, hT5, d5, fun a ha => by rw [f5 a ha, f4 a (by omega) (by omega), f3 a (by omega) (by omega), f2 a (by omega) (by omega), f1 a (by omega) (by omega)], ho5⟩
  have s12 : E 106 0 [some (.ref 1), some (.int 12)] [] (GG L) I5 = some (some (.int 0), GG L, I5) := by rw [Q_s12, d5.1]; rfl
  have hloop := La_loop (L := L) (y1 := some (.int y1)) (u9 := none) (u10 := none) hk (show 2 ≤ b by omega) (show b ≤ 9 by omega) ho hm h0 hw3 hT5.1 hZ5 10 0 rfl
  have tail : E 125 63 [some (.ref 1), some (.int y1), some (.int (nI w)), some (.int (nI k)), some (.int (nI b)), some (.int (nI m)), some (.int (nI o)), none, none, none, none] [.int (if times then 1 else 0)] (GG L) I = some (some (.int 1), GG L, I5) := by
    have h86 : E 125 63 [some (.ref 1), some (.int y1), some (.int (nI w)), some (.int (nI k)), some (.int (nI b)), some (.int (nI m)), some (.int (nI o)), none, none, none, none] [.int (if times then 1 else 0)] (GG L) I = E 125 86 [some (.ref 1), some (.int y1), some (.int (nI w)), some (.int (nI k)), some (.int (nI b)), some (.int (nI m)), some (.int (nI o)), some (.int (if times then 1 else 0)), none, none, none] [.int (if times then 42 else 47), .long (((97 + nI k) : Int32).toInt64 <<< ((24 : Int32).toInt64 &&& 63)), .ref 1] (GG L) I := by
      rw [B125_63]
      cases times with
      | true => rw [show (if true = true then (1 : Int32) else 0) = 1 from rfl, if_neg (by decide)]; rfl
      | false => rw [show (if false = true then (1 : Int32) else 0) = 0 from rfl, if_pos rfl]; rfl
    rw [h86, B125_86, hlg, p1, K2_i, B125_108, lg2 o ho, p2, K2_i, B125_126, p3, K2_v, B125_133, p4, K2_i, B125_137, if_pos rfl, p5, K2_i, B125_146, if_pos rfl, Q_s8 hT5.1, K2_i, B125_156, if_pos (nI_1 w).symm, s12, K2_i, B125_168, if_pos rfl]
    exact hloop
  rw [b0]
  by_cases q : nI t = 0
  · have ht0 : t = 0 := (nI_eq (b := 0) (by omega) (by decide)).mp q
    rw [if_pos q]
    rw [show times = true from by rw [htm, ht0]; rfl] at tail
    exact tail
  · have ht0 : ¬ t = 0 := fun z => q (by rw [z]; rfl)
    rw [if_neg q]
    rw [show times = false from by rw [htm]; exact decide_eq_false ht0] at tail
    exact tail
end LL
