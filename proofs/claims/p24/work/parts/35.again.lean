/-! ===== p24: started again, all is as it was ===== -/
theorem GG_n1 (L : Nat × Nat) : (GG L).1 = 119 + L.2 := GG_n L
theorem dn2 (L : Nat × Nat) : (dn L).2 = L.2 + 1 := rfl
/-- the law's rows of three stay, below so many -/
def FL (L : Nat × Nat) (I I' : It) : Prop := ∀ b, b < 9 ∨ (119 ≤ b ∧ b < 119 + L.2) → I' b = I b
theorem FL_N {L : Nat × Nat} {I I' : It} (h : FN I I') : FL L I I' := fun b hb => h b (by omega)
theorem FL_tr {L : Nat × Nat} {I1 I2 I3 : It} (h : FL L I1 I2) (h' : FL L I2 I3) : FL L I1 I3 := fun b hb => (h' b hb).trans (h b hb)
theorem FL_r (L : Nat × Nat) (I : It) : FL L I I := fun _ _ => rfl
theorem FL_dn {L : Nat × Nat} {I I' : It} (h : FL (dn L) I I') : FL L I I' := fun b hb => h b (by rw [dn2]; omega)
theorem FL_new (L : Nat × Nat) (I : It) : FL L I (nI0 (GG L) I) := fun b hb => nI0_o _ _ _ (by rw [GG_n]; omega)
theorem FL_u {L : Nat × Nat} {I : It} {o k : Nat} {y : Int32} (h : 119 + L.2 ≤ o) : FL L I (uI I o k y) := fun b hb => uI_o _ _ _ _ _ (by omega)
section AG
variable {L : Nat × Nat} {n a v s r : Nat} {g e Z : Nat → Nat → Nat} {x : Nat → Nat} {I : It} {P : Pc} {o0 o1 : Option Pc}
/-- the values and the places noted -/
theorem Ag_note {p q : Nat} {u4 u5 u6 : Option Value} (hp : kd (GG L) p = 50) (lp : ln (GG L) p = 3) (hq : kd (GG L) q = 50) (lq : ln (GG L) q = 3) (hp9 : 119 ≤ p) (hq9 : 119 ≤ q) (hpq : p ≠ q) (hn : 3 ≤ n) (hw : P.1 = some none) (h : Iw g e P a v s r x) : ∀ (m k : Nat) {I : It}, m + k = 3 → TT n g e Z P o0 o1 I → (∀ j, j < k → I p j = nI (x j) ∧ I q j = P.2.2.2.2.2.2 j) →
    ∃ I', E 130 10 [some (.ref 1), some (.ref p), some (.ref q), some (.int (nI k)), u4, u5, u6] [] (GG L) I = E 130 10 [some (.ref 1), some (.ref p), some (.ref q), some (.int (nI 3)), u4, u5, u6] [] (GG L) I' ∧ TT n g e Z P o0 o1 I' ∧ (∀ b, b ≠ p → b ≠ q → I' b = I b) ∧ ∀ j, j < 3 → I' p j = nI (x j) ∧ I' q j = P.2.2.2.2.2.2 j := by
  intro m
  induction m with
  | zero =>
    intro k I hm hT hj
    have hk : k = 3 := by omega
    subst hk
    exact ⟨I, rfl, hT, fun _ _ _ => rfl, hj⟩
  | succ m ih =>
    intro k I hm hT hj
    have hk : k < 3 := by omega
    have hT1 : TT n g e Z P o0 o1 (uI I p k (nI (x k))) := TT_u hT hp9
    have hT2 : TT n g e Z P o0 o1 (uI (uI I p k (nI (x k))) q k (P.2.2.2.2.2.2 k)) := TT_u hT1 hq9
    obtain ⟨I', a1, a2, a3, a4⟩ := ih (k + 1) (by omega) hT2 (fun j hjk => by
      rw [uI_a _ _ _ _ _ _ hpq]
      by_cases z : j = k
      · subst z; rw [uI_s, uI_s]; exact ⟨rfl, rfl⟩
      · rw [uI_k _ _ _ _ _ z, uI_k _ _ _ _ _ z, uI_a _ _ _ _ _ _ (fun q => hpq q.symm)]; exact hj j (by omega))
    refine ⟨I', ?_, a2, fun b h1 h2 => by rw [a3 b h1 h2, uI_o _ _ _ _ _ h2, uI_o _ _ _ _ _ h1], a4⟩
    rw [← a1, B130_10 hp lp hq lq, if_neg (show ¬ (3 : Int32) ≤ nI k from nI_ge (a := k) (b := 3) hk (by decide)), G_get hn hT hw h hk, K2_i, B130_22 hp lp hq lq hp lp, ck_of (inb_nI hk (by decide)), ix_nI (by omega), G_rec hn hT1 hw h hk, K2_i, B130_30 hp lp hq lq hq lq, ck_of (inb_nI hk (by decide)), ix_nI (by omega), nI_1]
theorem Ag_cmp {p q : Nat} {u3 u4 u5 : Option Value} (hu5 : isJ (some u5) = false) (hp : kd (GG L) p = 50) (lp : ln (GG L) p = 3) (hq : kd (GG L) q = 50) (lq : ln (GG L) q = 3) (hn : 3 ≤ n) (hw : P.1 = some none) (h : Iw g e P a v s r x) (hT : TT n g e Z P o0 o1 I) (hj : ∀ j, j < 3 → I p j = nI (x j) ∧ I q j = P.2.2.2.2.2.2 j) : ∀ (m k : Nat), m + k = 3 → E 130 88 [some (.ref 1), some (.ref p), some (.ref q), u3, u4, u5, some (.int (nI k))] [] (GG L) I = some (some (.int 1), GG L, I) := by
  intro m
  induction m with
  | zero =>
    intro k hm
    have hk : k = 3 := by omega
    subst hk
    rw [B130_88 hp lp hq lq, if_pos (by decide)]
  | succ m ih =>
    intro k hm
    have hk : k < 3 := by omega
    have h1 := ih (k + 1) (by omega)
    rw [B130_88 hp lp hq lq, if_neg (show ¬ (3 : Int32) ≤ nI k from nI_ge (a := k) (b := 3) hk (by decide)), G_get hn hT hw h hk, K2_i, B130_100 hp lp hq lq, ck_of (inb_nI hk (by decide)), ix_nI (by omega), if_pos (hj k hk).1.symm, G_rec hn hT hw h hk, K2_i, B130_113 hp lp hq lq hu5, ck_of (inb_nI hk (by decide)), ix_nI (by omega), if_pos (hj k hk).2.symm, nI_1]
    exact h1
/-- the picture behind a start -/
noncomputable def agS (g e : Nat → Nat → Nat) (P : Pc) (a v s r : Nat) (x : Nat → Nat) : Pc := (some none, rg (nI a) (nI v) (nI s) (nI (3 + 3 * r)) (rdf g e v (P.2.2.2.2.1 a) r).2.2, P.2.2.1, P.2.2.2.1, P.2.2.2.2.1, nV x, P.2.2.2.2.2.2)
theorem G_start (hn : 3 ≤ n) (hT : TT n g e Z P o0 o1 I) {Q : Nat → Int32} (h : Cw g e P.2.2.2.2.1 a v s r x Q) : ∃ I' P', E 97 0 [some (.ref 1)] [] (GG L) I = some (some (.int (nI a)), GG L, I') ∧ TT n g e Z P' o0 o1 I' ∧ FN I I' ∧ Iv g e P' a v s r x ∧ P' = (some none, rg (nI a) (nI v) (nI s) (nI (3 + 3 * r)) (rdf g e v (P.2.2.2.2.1 a) r).2.2, P.2.2.1, P.2.2.2.1, P.2.2.2.2.1, nV x, Q) := by
  obtain ⟨w, A, W, X, C, V, Q'⟩ := P
  obtain ⟨I', a1, a2, a3⟩ := C_start (L := L) hT (Cw_okv h)
  have e0 := Cw_rst (w := w) (A := A) (W := W) (X := X) (V := V) (Q' := Q') hn hT.1.1 h
  have hI := rst_Iv (w := w) (A := A) (W := W) (X := X) (V := V) (Q' := Q') hn hT.1.1 h
  rw [e0] at a1 a2 hI
  exact ⟨I', _, a1, a2, a3, hI, rfl⟩
theorem Law_again (hn : 3 ≤ n) (hT : TT n g e Z P o0 o1 I) (hI : Iv g e P a v s r x) : ∃ I' P', E 130 0 [some (.ref 1), none, none, none, none, none, none] [] (GG L) I = some (some (.int 1), GG (dn (dn L)), I') ∧ TT n g e Z P' o0 o1 I' ∧ FL L I I' ∧ Iv g e P' a v s r x ∧ P'.2.2 = P.2.2 := by
  obtain ⟨hw, h⟩ := hI
  have k1 : kd (GG (dn L)) (119 + L.2) = 50 := GG_xk _ (by omega) (by rw [dn2]; omega)
  have l1 : ln (GG (dn L)) (119 + L.2) = 3 := GG_xl _ (by omega) (by rw [dn2]; omega)
  obtain ⟨M, hM⟩ : ∃ M, dn (dn L) = M := ⟨_, rfl⟩
  have hM2 : M.2 = L.2 + 2 := by rw [← hM]; rfl
  have kp : kd (GG M) (119 + L.2) = 50 := GG_xk _ (by omega) (by omega)
  have lp : ln (GG M) (119 + L.2) = 3 := GG_xl _ (by omega) (by omega)
  have kq : kd (GG M) (119 + L.2 + 1) = 50 := GG_xk _ (by omega) (by omega)
  have lq : ln (GG M) (119 + L.2 + 1) = 3 := GG_xl _ (by omega) (by omega)
  have hT0 : TT n g e Z P o0 o1 (nI0 (GG (dn L)) (nI0 (GG L) I)) := TT_new (TT_new hT)
  have f0 : FL L I (nI0 (GG (dn L)) (nI0 (GG L) I)) := FL_tr (FL_new L I) (FL_dn (FL_new (dn L) _))
  obtain ⟨I1, a1, hT1, o1', hj1⟩ := Ag_note (L := M) (u4 := none) (u5 := none) (u6 := none) kp lp kq lq (by omega) (by omega) (by omega) hn hw h 3 0 rfl hT0 (fun j hj => absurd hj (Nat.not_lt_zero _))
  have a1' : E 130 10 [some (.ref 1), some (.ref (119 + L.2)), some (.ref (119 + L.2 + 1)), some (.int 0), none, none, none] [] (GG M) (nI0 (GG (dn L)) (nI0 (GG L) I)) = _ := a1
  obtain ⟨I2, P2, b1, hT2, f2, hI2, e2⟩ := G_start (L := M) hn hT1 h.2.2
  have hP2 : P2.2.2 = P.2.2 := by
    rw [e2]
    show (P.2.2.1, P.2.2.2.1, P.2.2.2.2.1, nV x, P.2.2.2.2.2.2) = P.2.2
    rw [← h.2.1]
  have hC2 : P2.2.2.2.2.1 = P.2.2.2.2.1 := by rw [hP2]
  have hQ2 : P2.2.2.2.2.2.2 = P.2.2.2.2.2.2 := by rw [hP2]
  have c1 := Ag_cmp (L := M) (u3 := some (.int (nI (15 - r)))) (u4 := some (.int (nI a))) (u5 := some (.int (hsh P.2.2.2.2.1 96))) rfl kp lp kq lq hn hI2.1 hI2.2 hT2 (fun j hj => by
    rw [f2 _ (Or.inr (by omega)), f2 _ (Or.inr (by omega)), hQ2]; exact hj1 j hj) 3 0 rfl
  have c1' : E 130 88 [some (.ref 1), some (.ref (119 + L.2)), some (.ref (119 + L.2 + 1)), some (.int (nI (15 - r))), some (.int (nI a)), some (.int (hsh P.2.2.2.2.1 96)), some (.int 0)] [] (GG M) I2 = _ := c1
  refine ⟨I2, P2, ?_, hT2, ?_, hI2, hP2⟩
  · rw [B130_0, GG_n, B130_3 k1 l1, GG_n, dn2, hM, show 119 + (L.2 + 1) = 119 + L.2 + 1 by omega, B130_7 kp lp kq lq, a1', B130_10 kp lp kq lq, if_pos (by decide), G_s4 hT1 h, K2_i, B130_42 kp lp kq lq, G_s1 hT1 h, K2_i, B130_48 kp lp kq lq, Q_cells hT1.2.1, K2_i, B130_54 kp lp kq lq, b1, K2_i, B130_60 kp lp kq lq, if_pos rfl, G_s4 hT2 hI2.2, K2_i, B130_70 kp lp kq lq, if_pos rfl, Q_cells hT2.2.1, hC2, K2_i, B130_78 kp lp kq lq, if_pos rfl, c1']
  · exact FL_tr f0 (FL_tr (fun b hb => o1' b (by omega) (by omega)) (FL_N f2))
end AG
