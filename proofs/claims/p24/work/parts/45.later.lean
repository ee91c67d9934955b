/-! ===== p24: a later version defined ===== -/
section DW
variable {L : Nat × Nat} {n : Nat} {g e Z : Nat → Nat → Nat} {I : It} {P : Pc} {o0 o1 : Option Pc}
def txW (times : Bool) (k b o m : Nat) : List Nat := (97 + k) :: (if times then 42 else 47) :: (48 + b) :: 44 :: (97 + o) :: 60 :: (dg m ++ [])
def zW (times : Bool) (k b o m : Nat) : Nat → Nat := fun i => if i = 0 then (if times then 3 else 4) else if i = 1 then k else if i = 2 then b else if i = 3 then o else m
theorem txW_Ch {times : Bool} {k b o m : Nat} (hk : k < 3) (hb : b < 10) (ho : o < 3) (hm : m < 256) : Ch (txW times k b o m) := by
  intro c hc
  unfold txW at hc
  rw [List.append_nil] at hc
  simp only [List.mem_cons] at hc
  rcases hc with q | q | q | q | q | q | q
  · omega
  · rw [q]; cases times <;> decide
  · omega
  · omega
  · omega
  · omega
  · exact dg_Ch hm c q
theorem nI_inj2 {a b : Nat} (h : a = b) : nI a = nI b := by rw [h]
/-- a number of the layout scaled, whatever the memory -/
theorem sc92 {times : Bool} {b x : Nat} (h2 : 2 ≤ b) (h9 : b ≤ 9) (hx : x < 256) (I : It) : E 92 0 [some (.int (nI (if times then 3 else 4))), some (.int (nI b)), some (.int (nI x))] [] (GG L) I = some (some (.int (nI (if (if times then 3 else 4) = 3 then min (x * b) 255 else x / b))), GG L, I) := by
  cases times with
  | true => exact S92_3 (by omega) hx
  | false => exact S92_4 h2 (by omega) hx
theorem C_defW {times : Bool} {k b o m w : Nat} (hk : k < 3) (h2 : 2 ≤ b) (h9 : b ≤ 9) (ho3 : o < 3) (hm : m < 256) (h0 : 0 < w) (hw3 : w < 3) (hT : TT w g e Z P o0 o1 I) (h : Pd (txW times k b o m) I) : ∃ I' g' e' Z', E 94 0 [some (.ref 1)] [] (GG L) I = some (some (.int (nI w)), GG L, I') ∧ TT (w + 1) g' e' Z' P o0 o1 I' ∧ Pd [] I' ∧ (∀ a, 81 ≤ a ∨ a = 0 → I' a = I a) ∧ (∀ v, v < w → g' v = g v ∧ e' v = e v) ∧ Z' w = zW times k b o m := by
  have hC := txW_Ch (times := times) hk (show b < 10 by omega) ho3 hm
  have hlen : (txW times k b o m).length = 6 + (dg m).length := by
    unfold txW
    simp only [List.length_cons, List.length_append, List.length_nil]
    omega
  have hl3 : (dg m).length ≤ 3 := dg_le
  have hTc := Tc_T hC (by omega)
  have ndn : nd [] := fun z => absurd z.1 (show ¬ 48 ≤ 0 by decide)
  obtain ⟨s0, c0⟩ := stp_sc (c := cT (txW times k b o m)) (a := 0) (n := k) (b := b) (times := times) (rest := 44 :: (97 + o) :: 60 :: (dg m ++ [])) (by omega) h2 h9 (fun i => by rw [Nat.zero_add]; rfl)
  have s1 := stp_lim (c := cT (txW times k b o m)) (a := 0 + 3 + 1) (o := o) (m := m) (rest := []) (by omega) hm (fun i => by rw [Nat.add_assoc, Nat.add_comm 1 i, c0]; rfl) ndn
  rw [show 0 + 3 + 1 + (2 + (dg m).length) = (txW times k b o m).length by omega] at s1
  have hc0 : cT (txW times k b o m) (0 + 3) = 44 := c0 0
  obtain ⟨kk, hkk⟩ : ∃ kk, (if times then 3 else 4 : Nat) = kk := ⟨_, rfl⟩
  have hkk34 : kk = 3 ∨ kk = 4 := by rw [← hkk]; cases times <;> simp
  rw [hkk] at s0
  obtain ⟨I0, hI0⟩ : ∃ I0, uI I 4 4 0 = I0 := ⟨_, rfl⟩
  have t0 : TI (txW times k b o m).length (cT (txW times k b o m)) I0 := ⟨by rw [← hI0, uI_o _ _ _ _ _ (by decide)]; exact h.1, fun j hj => by rw [← hI0, uI_o _ _ _ _ _ (by decide)]; exact h.2 j hj⟩
  have h40 : I0 4 4 = nI 0 := by rw [← hI0, uI_s]; rfl
  have r0 := R_next (L := L) (i := 0) hTc t0 (Nat.zero_le _) h40 (by decide) s0 hc0
  have t1 := TI_A 0 kk k b 0 t0
  have r1 := R_last (L := L) (i := 0 + 1) hTc t1 (by omega) (App_4 _ _ _ _ _ _) (by decide) s1
  obtain ⟨I1, hI1⟩ : ∃ I1, AI (App (App I0 0 kk k b 0) (0 + 1) 5 o m 0) (txW times k b o m).length = I1 := ⟨_, rfl⟩
  have h55 : E 55 0 [some (.ref 2), none] [] (GG L) I = some (some (.int (-6)), GG L, I1) := by
    rw [R_0, hI0, r0, r1, hI1]
  have w0 : Rw I1 0 kk k b 0 := by rw [← hI1]; exact Rw_A _ (Rw_old _ _ _ _ _ (by decide) (Rw_new _ _ _ _ _ _))
  have w1 : Rw I1 1 5 o m 0 := by rw [← hI1]; exact Rw_A _ (Rw_new _ _ _ _ _ _)
  have h41 : I1 4 4 = nI 2 := by rw [← hI1, AI_o _ _ _ (by decide)]; exact App_4 _ _ _ _ _ _
  have f1 : ∀ a, a ≠ 2 → (a < 4 ∨ 8 < a) → I1 a = I a := fun a p1 p2 => by
    rw [← hI1, AI_o _ _ _ p1, FR_A _ _ _ _ _ _ a p1 p2, FR_A _ _ _ _ _ _ a p1 p2, ← hI0, uI_o _ _ _ _ _ (by omega)]
  have hR := hT.1
  have hR1 : Ly w g e Z I1 := Ly_congr hR (fun a p1 _ => f1 a (by omega) (by omega))
  obtain ⟨v, hv⟩ : ∃ v, w = v + 1 := ⟨w - 1, by omega⟩
  have hlv := hR1.2.2.2 v (by omega) (by omega)
  have h46 : E 46 0 [some (.ref 9), some (.int (nI w - 1))] [] (GG L) I1 = some (some (.ref (21 + 10 * v)), GG L, I1) := by
    rw [hv, nI_pred]; exact S46 hR1 (by omega)
  have kp := k_lay (L := L) (v := v) (by omega)
  have ho : kd (GG L) (21 + 10 * w) = 1 := k_lay (by omega)
  have hT01 : ∀ j, j < 10 → I1 (21 + 10 * v + 1) j = (if j < 3 then 1 else 0) := fun j hj => by rw [show 21 + 10 * v + 1 = 22 + 10 * v by omega]; exact hlv.1 j hj
  obtain ⟨I3, a3, l3, w3, n3, f3⟩ := T_make (L := L) (I := I1) (o := 21 + 10 * w) (p := 21 + 10 * v) ho kp (by omega) (by omega) (fun j hj => by
    rw [hT01 j hj]
    by_cases q : j < 3
    · rw [if_pos q]; exact Or.inr rfl
    · rw [if_neg q]; exact Or.inl rfl)
  have e4 : I3 (21 + 10 * w + 5) 4 = nI 2 := n3.trans h41
  have hG0 : ∀ j, j < 3 → I1 (21 + 10 * v + 2) j = nI (g v j) := fun j hj => by rw [show 21 + 10 * v + 2 = 23 + 10 * v by omega]; exact (hlv.2.1 j hj).1
  have hD0 : ∀ j, j < 3 → I1 (21 + 10 * v + 3) j = nI (e v j) := fun j hj => by rw [show 21 + 10 * v + 3 = 24 + 10 * v by omega]; exact (hlv.2.1 j hj).2.1
  have hgb : ∀ j, j < 3 → g v j < 256 ∧ e v j ≤ g v j := fun j hj => (hlv.2.1 j hj).2.2
  have hTne : ∀ j, j < 3 → I1 (21 + 10 * v + 1) j ≠ 0 := fun j hj => by rw [hT01 j (by omega)]; exact ite01.mpr hj
  -- the new tables
  obtain ⟨Z', hZ'⟩ : ∃ Z' : Nat → Nat → Nat, up Z w (zW times k b o m) = Z' := ⟨_, rfl⟩
  have zw : Z' w = zW times k b o m := by rw [← hZ', up_s]
  have zv : ∀ u, u ≠ w → Z' u = Z u := fun u hu => by rw [← hZ', up_k _ _ _ hu]
  have z0 : Z' w 0 = kk := by rw [zw]; exact hkk
  have z1 : Z' w 1 = k := by rw [zw]; rfl
  have z2 : Z' w 2 = b := by rw [zw]; rfl
  have z3 : Z' w 3 = o := by rw [zw]; rfl
  have z4 : Z' w 4 = m := by rw [zw]; rfl
  have m1 : ∀ y, mg1 Z' w k y = (if kk = 3 then min (y * b) 255 else y / b) := fun y => by unfold mg1; rw [z0, z1, z2, if_pos rfl]
  have m1n : ∀ j y, j ≠ k → mg1 Z' w j y = y := fun j y hj => by unfold mg1; rw [z1, if_neg hj]
  have m2 : ∀ y, mg2 Z' w o y = min y m := fun y => by unfold mg2; rw [z3, z4, if_pos rfl]
  have m2n : ∀ j y, j ≠ o → mg2 Z' w j y = y := fun j y hj => by unfold mg2; rw [z3, if_neg hj]
  -- the first step
  have h92 : ∀ y, y < 256 → ∀ I : It, E 92 0 [some (.int (nI kk)), some (.int (nI b)), some (.int (nI y))] [] (GG L) I = some (some (.int (nI (mg1 Z' w k y))), GG L, I) := fun y hy I => by
    rw [m1, ← hkk]; exact sc92 h2 h9 hy I
  obtain ⟨I4, b4, l4, f4⟩ := S41 (L := L) (kk := kk) (b := b) (x := g v k) (y := e v k) (x' := mg1 Z' w k (g v k)) (y' := mg1 Z' w k (e v k)) ho (show k < 10 by omega) (hTne k hk) (hG0 k hk) (hD0 k hk) (h92 _ (hgb k hk).1) (h92 _ (by have := hgb k hk; omega)) l3
  obtain ⟨u1, u2, u3, u4⟩ := w3 0 (by decide)
  have d4 := S89 (L := L) (i := 0) (m := 2) (kk := kk) (n := k) (A := b) (B' := 0) ho (by decide) (by decide) e4 (u1.trans w0.1) (u2.trans w0.2.1) (u3.trans w0.2.2.1) (u4.trans w0.2.2.2) (S90_2 ho (by omega) b4)
  -- the second one
  obtain ⟨gx, hgx⟩ : ∃ gx, mg1 Z' w o (g v o) = gx := ⟨_, rfl⟩
  obtain ⟨ex, hex⟩ : ∃ ex, mg1 Z' w o (e v o) = ex := ⟨_, rfl⟩
  have hgx2 : gx < 256 := hgx ▸ mg1_lt (hgb o ho3).1
  have hex2 : ex < 256 := hex ▸ mg1_lt (by have := hgb o ho3; omega)
  have hG1 : ∀ j, j < 3 → up (I1 (21 + 10 * v + 2)) k (nI (mg1 Z' w k (g v k))) j = nI (mg1 Z' w j (g v j)) := fun j hj => by
    by_cases q : j = k
    · subst q; rw [up_s]
    · rw [up_k _ _ _ q, hG0 j hj, m1n _ _ q]
  have hD1 : ∀ j, j < 3 → up (I1 (21 + 10 * v + 3)) k (nI (mg1 Z' w k (e v k))) j = nI (mg1 Z' w j (e v j)) := fun j hj => by
    by_cases q : j = k
    · subst q; rw [up_s]
    · rw [up_k _ _ _ q, hD0 j hj, m1n _ _ q]
  obtain ⟨I5, b5, l5, f5⟩ := S41 (L := L) (kk := 5) (b := m) (x := gx) (y := ex) (x' := min gx m) (y' := min ex m) ho (show o < 10 by omega) (hTne o ho3) ((hG1 o ho3).trans (by rw [hgx])) ((hD1 o ho3).trans (by rw [hex])) (fun I => S92_5 hm hgx2) (fun I => S92_5 hm hex2) l4
  obtain ⟨u1', u2', u3', u4'⟩ := w3 1 (by decide)
  have d5 := S89 (L := L) (i := 0 + 1) (m := 2) (kk := 5) (n := o) (A := m) (B' := 0) ho (by decide) (by decide) (by rw [f4 _ (by omega)]; exact e4) (by rw [f4 _ (by omega)]; exact u1'.trans w1.1) (by rw [f4 _ (by omega)]; exact u2'.trans w1.2.1) (by rw [f4 _ (by omega)]; exact u3'.trans w1.2.2.1) (by rw [f4 _ (by omega)]; exact u4'.trans w1.2.2.2) (S90_2 ho (by omega) b5)
  have d6 := S89e (L := L) (o := 21 + 10 * w) (m := 0 + 1 + 1) (I := I5) ho (by rw [f5 _ (by omega), f4 _ (by omega)]; exact e4)
  have h37 : E 37 0 [some (.ref (21 + 10 * w)), some (.ref (21 + 10 * v)), some (.ref 4), none] [] (GG L) I1 = some (some (.int 1), GG L, I5) := by
    refine a3.trans ?_
    rw [d4, d5, d6, K2_i, B37_73, ck_of (by decide)]
  have g5 : ∀ a, a ≤ 21 + 10 * w ∨ 30 + 10 * w < a → I5 a = I1 a := fun a ha => by rw [f5 a (by omega), f4 a (by omega), f3 a (by omega)]
  have h95 : I5 9 2 = nI w := by rw [g5 9 (by omega)]; exact hR1.2.1
  have hd := T_def (L := L) (n := w) h55 (by omega) hR1.2.1 h46 kp h37 h95
  obtain ⟨I6, hI6⟩ : ∃ I6, uI (uI I5 9 2 (nI (w + 1))) 2 2 0 = I6 := ⟨_, rfl⟩
  rw [hI6] at hd
  have of : ∀ a, a ≠ 2 → a ≠ 9 → I6 a = I5 a := fun a p1 p2 => by rw [← hI6, uI_o _ _ _ _ _ p1, uI_o _ _ _ _ _ p2]
  have fin : ∀ a, 81 ≤ a ∨ a = 0 → I6 a = I a := fun a ha => by rw [of a (by omega) (by omega), g5 a (by omega), f1 a (by omega) (by omega)]
  obtain ⟨g', hg'⟩ : ∃ g' : Nat → Nat → Nat, up g w (fun j => mg Z' w j (g v j)) = g' := ⟨_, rfl⟩
  obtain ⟨e', he'⟩ : ∃ e' : Nat → Nat → Nat, up e w (fun j => mg Z' w j (e v j)) = e' := ⟨_, rfl⟩
  have gw : g' w = fun j => mg Z' w j (g v j) := by rw [← hg', up_s]
  have ew : e' w = fun j => mg Z' w j (e v j) := by rw [← he', up_s]
  have gv : ∀ u, u ≠ w → g' u = g u := fun u hu => by rw [← hg', up_k _ _ _ hu]
  have ev : ∀ u, u ≠ w → e' u = e u := fun u hu => by rw [← he', up_k _ _ _ hu]
  refine ⟨I6, g', e', Z', hd, TT_def hT ?_ (fun a ha => fin a (Or.inl ha)), Pd_nil (by rw [← hI6, uI_s]), fin, fun u hu => ⟨gv u (by omega), ev u (by omega)⟩, zw⟩
  refine ⟨by omega, by rw [← hI6, uI_a _ _ _ _ _ _ (by decide), uI_s], fun j hj => by rw [of 11 (by decide) (by decide), g5 11 (by omega)]; exact hR1.2.2.1 j hj, fun u hu hu3 => ?_⟩
  by_cases huw : u = w
  · -- the new version
    rw [huw]
    refine ⟨fun j hj => ?_, fun j hj => ?_, fun _ => ⟨fun j hj => ?_, ?_, ?_, ?_, ?_, ?_, ?_, ?_, by rw [z0]; exact hkk34, by rw [z1]; exact hk, by rw [z2]; exact h2, by rw [z2]; exact h9, by rw [z3]; exact ho3, by rw [z4]; exact hm, fun j hj => ?_⟩⟩
    · rw [show 22 + 10 * w = 21 + 10 * w + 1 by omega, of _ (by omega) (by omega), (l5 j hj).1]; exact hT01 j hj
    · obtain ⟨-, q2, q3, -⟩ := l5 j (by omega)
      rw [show 23 + 10 * w = 21 + 10 * w + 2 by omega, show 24 + 10 * w = 21 + 10 * w + 3 by omega, of _ (by omega) (by omega), of _ (by omega) (by omega), q2, q3, gw, ew]
      refine ⟨?_, ?_, mg_lt (hgb j hj).1, mg_mono (hgb j hj).2⟩
      · show _ = nI (mg2 Z' w j (mg1 Z' w j (g v j)))
        by_cases q : j = o
        · subst q; rw [up_s, m2, hgx]
        · rw [up_k _ _ _ q, hG1 j hj, m2n _ _ q]
      · show _ = nI (mg2 Z' w j (mg1 Z' w j (e v j)))
        by_cases q : j = o
        · subst q; rw [up_s, m2, hex]
        · rw [up_k _ _ _ q, hD1 j hj, m2n _ _ q]
    · rw [show 25 + 10 * w = 21 + 10 * w + 4 by omega, of _ (by omega) (by omega), (l5 j (by omega)).2.2.2]
    · rw [show 26 + 10 * w = 21 + 10 * w + 5 by omega, of _ (by omega) (by omega), f5 _ (by omega), f4 _ (by omega)]; exact e4
    · rw [show 27 + 10 * w = 21 + 10 * w + 6 by omega, of _ (by omega) (by omega), f5 _ (by omega), f4 _ (by omega), z0]; exact u1.trans w0.1
    · rw [show 28 + 10 * w = 21 + 10 * w + 7 by omega, of _ (by omega) (by omega), f5 _ (by omega), f4 _ (by omega), z1]; exact u2.trans w0.2.1
    · rw [show 29 + 10 * w = 21 + 10 * w + 8 by omega, of _ (by omega) (by omega), f5 _ (by omega), f4 _ (by omega), z2]; exact u3.trans w0.2.2.1
    · rw [show 27 + 10 * w = 21 + 10 * w + 6 by omega, of _ (by omega) (by omega), f5 _ (by omega), f4 _ (by omega)]; exact u1'.trans w1.1
    · rw [show 28 + 10 * w = 21 + 10 * w + 7 by omega, of _ (by omega) (by omega), f5 _ (by omega), f4 _ (by omega), z3]; exact u2'.trans w1.2.1
    · rw [show 29 + 10 * w = 21 + 10 * w + 8 by omega, of _ (by omega) (by omega), f5 _ (by omega), f4 _ (by omega), z4]; exact u3'.trans w1.2.2.1
    · rw [gw, ew, gv (w - 1) (by omega), ev (w - 1) (by omega), show w - 1 = v by omega]; exact ⟨rfl, rfl⟩
  · -- an older one
    have hul := hR1.2.2.2 u (by omega) hu3
    have hIu : ∀ a, 22 + 10 * u ≤ a → a ≤ 29 + 10 * u → I6 a = I1 a := fun a p1 p2 => by rw [of a (by omega) (by omega), g5 a (by omega)]
    unfold Lv at hul ⊢
    rw [hIu (22 + 10 * u) (by omega) (by omega), hIu (23 + 10 * u) (by omega) (by omega), hIu (24 + 10 * u) (by omega) (by omega), hIu (25 + 10 * u) (by omega) (by omega), hIu (26 + 10 * u) (by omega) (by omega), hIu (27 + 10 * u) (by omega) (by omega), hIu (28 + 10 * u) (by omega) (by omega), hIu (29 + 10 * u) (by omega) (by omega), gv u huw, ev u huw, zv u huw]
    refine ⟨hul.1, hul.2.1, fun hu0 => ?_⟩
    obtain ⟨y1, y2, y3, y4, y5, y6, y7, y8, y9, y10, y11, y12, y13, y14, y15⟩ := hul.2.2 hu0
    refine ⟨y1, y2, y3, y4, y5, y6, y7, y8, y9, y10, y11, y12, y13, y14, fun j hj => ?_⟩
    rw [gv (u - 1) (by omega), ev (u - 1) (by omega)]
    have : mg Z' u = mg Z u := by unfold mg mg1 mg2; rw [zv u huw]
    rw [this]
    exact y15 j hj
/-- a setting dropped, in the version 3 -/
theorem C_def3 (hT : TT 3 g e Z P o0 o1 I) (h : Pd [45, 97] I) : ∃ I', E 94 0 [some (.ref 1)] [] (GG L) I = some (some (.int (nI 3)), GG L, I') ∧ TT 4 g e Z P o0 o1 I' ∧ Pd [] I' ∧ ∀ a, 81 ≤ a ∨ a = 0 → I' a = I a := by
  have hC : Ch [45, 97] := by unfold Ch; decide
  have hTc := Tc_T hC (by decide)
  have s0 := stp_drop (c := cT [45, 97]) (a := 0) rfl rfl
  obtain ⟨I0, hI0⟩ : ∃ I0, uI I 4 4 0 = I0 := ⟨_, rfl⟩
  have t0 : TI [45, 97].length (cT [45, 97]) I0 := ⟨by rw [← hI0, uI_o _ _ _ _ _ (by decide)]; exact h.1, fun j hj => by rw [← hI0, uI_o _ _ _ _ _ (by decide)]; exact h.2 j hj⟩
  have h40 : I0 4 4 = nI 0 := by rw [← hI0, uI_s]; rfl
  have r0 := R_last (L := L) (i := 0) hTc t0 (Nat.zero_le _) h40 (by decide) s0
  obtain ⟨I1, hI1⟩ : ∃ I1, AI (App I0 0 1 0 0 0) [45, 97].length = I1 := ⟨_, rfl⟩
  have h55 : E 55 0 [some (.ref 2), none] [] (GG L) I = some (some (.int (-6)), GG L, I1) := by
    rw [R_0, hI0, r0, hI1]
  have w0 : Rw I1 0 1 0 0 0 := by rw [← hI1]; exact Rw_A _ (Rw_new _ _ _ _ _ _)
  have h41 : I1 4 4 = nI 1 := by rw [← hI1, AI_o _ _ _ (by decide)]; exact App_4 _ _ _ _ _ _
  have f1 : ∀ a, a ≠ 2 → (a < 4 ∨ 8 < a) → I1 a = I a := fun a p1 p2 => by
    rw [← hI1, AI_o _ _ _ p1, FR_A _ _ _ _ _ _ a p1 p2, ← hI0, uI_o _ _ _ _ _ (by omega)]
  have hR := hT.1
  have hR1 : Ly 3 g e Z I1 := Ly_congr hR (fun a p1 _ => f1 a (by omega) (by omega))
  have hlv := hR1.2.2.2 2 (by decide) (by decide)
  have h46 : E 46 0 [some (.ref 9), some (.int (nI 3 - 1))] [] (GG L) I1 = some (some (.ref 41), GG L, I1) := by
    rw [nI_pred]; exact S46 (v := 2) hR1 (by decide)
  have kp : kd (GG L) 41 = 1 := k_lay (L := L) (v := 2) (by decide)
  have ho : kd (GG L) 51 = 1 := k_lay (L := L) (v := 3) (by decide)
  obtain ⟨I3, a3, l3, w3, n3, f3⟩ := T_make (L := L) (I := I1) (o := 51) (p := 41) ho kp (by decide) (by decide) (fun j hj => by
    have e : I1 (41 + 1) j = (if j < 3 then 1 else 0) := hlv.1 j hj
    rw [e]
    by_cases q : j < 3
    · rw [if_pos q]; exact Or.inr rfl
    · rw [if_neg q]; exact Or.inl rfl)
  have e4 : I3 (51 + 5) 4 = nI 1 := n3.trans h41
  obtain ⟨I4, b4, f4⟩ := S39 (L := L) (k := 0) ho (by decide) (by have e : I1 (41 + 1) 0 = (if 0 < 3 then 1 else 0) := hlv.1 0 (by decide); rw [e]; decide) l3
  obtain ⟨u1, u2, u3, u4⟩ := w3 0 (by decide)
  have h90 : E 90 0 [some (.ref 51), some (.int (nI 1)), some (.int (nI 0)), some (.int (nI 0)), some (.int (nI 0))] [] (GG L) I3 = some (some (.int 1), GG L, I4) := by
    rw [S90_1 ho b4, B90_42, ck_of (by decide)]
  have d4 := S89 (L := L) (i := 0) (m := 1) (kk := 1) (n := 0) (A := 0) (B' := 0) ho (by decide) (by decide) e4 (u1.trans w0.1) (u2.trans w0.2.1) (u3.trans w0.2.2.1) (u4.trans w0.2.2.2) h90
  have d6 := S89e (L := L) (o := 51) (m := 0 + 1) (I := I4) ho (by rw [f4 _ (by omega)]; exact e4)
  have h37 : E 37 0 [some (.ref (21 + 10 * 3)), some (.ref 41), some (.ref 4), none] [] (GG L) I1 = some (some (.int 1), GG L, I4) := by
    refine a3.trans ?_
    rw [d4, d6, K2_i, B37_73, ck_of (by decide)]
  have g5 : ∀ a, a ≤ 51 ∨ 60 < a → I4 a = I1 a := fun a ha => by rw [f4 a (by omega), f3 a (by omega)]
  have h95 : I4 9 2 = nI 3 := by rw [g5 9 (by omega)]; exact hR1.2.1
  have hd := T_def (L := L) (n := 3) h55 (by omega) hR1.2.1 h46 kp h37 h95
  obtain ⟨I6, hI6⟩ : ∃ I6, uI (uI I4 9 2 (nI (3 + 1))) 2 2 0 = I6 := ⟨_, rfl⟩
  rw [hI6] at hd
  have of : ∀ a, a ≠ 2 → a ≠ 9 → I6 a = I4 a := fun a p1 p2 => by rw [← hI6, uI_o _ _ _ _ _ p1, uI_o _ _ _ _ _ p2]
  have fin : ∀ a, 81 ≤ a ∨ a = 0 → I6 a = I a := fun a ha => by rw [of a (by omega) (by omega), g5 a (by omega), f1 a (by omega) (by omega)]
  refine ⟨I6, hd, TT_def hT ?_ (fun a ha => fin a (Or.inl ha)), Pd_nil (by rw [← hI6, uI_s]), fin⟩
  refine ⟨by omega, by rw [← hI6, uI_a _ _ _ _ _ _ (by decide), uI_s], fun j hj => by rw [of 11 (by decide) (by decide), g5 11 (by omega)]; exact hR1.2.2.1 j hj, fun u hu hu3 => ?_⟩
  have hul := hR1.2.2.2 u (by omega) hu3
  have hIu : ∀ a, 22 + 10 * u ≤ a → a ≤ 29 + 10 * u → I6 a = I1 a := fun a p1 p2 => by rw [of a (by omega) (by omega), g5 a (by omega)]
  unfold Lv at hul ⊢
  rw [hIu (22 + 10 * u) (by omega) (by omega), hIu (23 + 10 * u) (by omega) (by omega), hIu (24 + 10 * u) (by omega) (by omega), hIu (25 + 10 * u) (by omega) (by omega), hIu (26 + 10 * u) (by omega) (by omega), hIu (27 + 10 * u) (by omega) (by omega), hIu (28 + 10 * u) (by omega) (by omega), hIu (29 + 10 * u) (by omega) (by omega)]
  exact hul
end DW
