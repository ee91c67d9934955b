/-! ===== p24: the law's walk over spoiled cells ===== -/
theorem nI_ge' {j : Nat} (h : j < 2 ^ 31) : ¬ nI j ≤ (-6 : Int32) := fun q => absurd (Int32.le_trans (nI_pos' h) q) (by decide)
section SQ
variable {L : Nat × Nat} {n a v s r : Nat} {g e Z : Nat → Nat → Nat} {x : Nat → Nat} {I : It} {P : Pc} {o0 o1 : Option Pc}
theorem Law_spoils {y1 : Int32} (hn : 3 ≤ n) (hG : Gk g e) (hT : TT n g e Z P o0 o1 I) (hI : Iv g e P a v s r x) : ∃ I', E 131 0 [some (.ref 1), some (.int y1), none, none, none, none, none, none, none, none] [] (GG L) I = some (some (.int 1), GG L, I') ∧ TT n g e Z P (some P) o1 I' ∧ FN I I' := by
  obtain ⟨hw, h⟩ := id hI
  have hn6 := hT.1.1
  have ha := h.1.2.2.2.2.1
  have hv3 := h.1.2.2.2.2.2.1
  have hr := h.1.2.2.2.2.2.2.2
  obtain ⟨k, hk, e1⟩ := U_up (L := L) (M := 3) (x := y1) (I := I) (by decide) (by decide)
  have e1' : E 123 0 [some (.int y1), some (.int 3)] [] (GG L) I = some (some (.int (nI k)), GG L, I) := e1
  obtain ⟨I1, b1, hT1, f1, -⟩ := C_keep0 (L := L) hT
  have b0 := B131_0 (L := L) (x1 := y1) (I := I)
  rw [e1', K2_i, B131_5, G_s1 hT h, K2_i, B131_11, Q_s10 hT.2.1, K2_i, B131_18, G_rec hn hT hw h hk, K2_i, B131_25, G_get hn hT hw h hk, K2_i, B131_32, b1, K2_i, B131_39] at b0
  rcases G_at hG h hk with ⟨q1, q2⟩ | ⟨i, hi, q1, q2, q3⟩
  · rw [q1, if_pos (by decide)] at b0
    obtain ⟨I2, c1, c2, c3⟩ := Sp_head (L := L) (P0 := P) (k := k) (u1 := some (.int y1)) (u7 := none) (u8 := none) (u9 := none) (y5 := -6) (y6 := nI (x k)) hn hk hT1 hI hI rfl q1.symm rfl
    exact ⟨I2, b0.trans c1, c2, FN_tr f1 c3⟩
  · rw [q1, if_neg (nI_pos (by omega)), show nI (3 + 3 * i) + 2 = nI (3 + 3 * i + 2) from nI_add _ 2] at b0
    -- the record
    obtain ⟨-, hkk, h3, h4, ho, hV, hQ, hxg⟩ := id h.2.2
    obtain ⟨l1, l2, l3, l4⟩ := rdf_last (g := g) (e := e) (v := v) (f := P.2.2.2.2.1 a) hk (show i < 1000 by omega) r (by omega) (by rw [hQ]; exact q1)
    obtain ⟨y, b, hy, hb, w0, w1, w2⟩ := id l2
    have hgy := (hG v y hv3 hy).1
    obtain ⟨c, hc⟩ : ∃ c, (7 * (y + 1) + 11 * b + 13 * v + 5) % 251 = c := ⟨_, rfl⟩
    have hc251 : c < 251 := by omega
    have hchk : P.2.2.2.2.1 a (3 + 3 * i + 2) = nI c := by
      rw [w2, w0, w1, rck_nI (by omega) (by omega) (by omega), hc]
    obtain ⟨u, hu, e2⟩ := U_up (L := L) (M := 249) (x := y1 >>> ((3 : Int32) &&& 31)) (I := I1) (by decide) (by decide)
    have e2' : E 123 0 [some (.int (y1 >>> ((3 : Int32) &&& 31))), some (.int 249)] [] (GG L) I1 = some (some (.int (nI u)), GG L, I1) := e2
    have hy251 : (nI c + 1 + nI u) - (nI c + 1 + nI u) / 251 * 251 = nI ((c + 1 + u) % 251) := by
      rw [nI_1, nI_add, show (251 : Int32) = nI 251 from rfl, nI_rem (by omega) (by decide)]
    have hyne : (c + 1 + u) % 251 ≠ c := by omega
    obtain ⟨f', hf'⟩ : ∃ f', up (P.2.2.2.2.1 a) (3 + 3 * i + 2) (nI ((c + 1 + u) % 251)) = f' := ⟨_, rfl⟩
    have hb' : ¬ Gdx g v f' (3 + 3 * i) := by
      rintro ⟨y', b', hy', hb', z0, z1, z2⟩
      rw [← hf'] at z0 z1 z2
      rw [up_k _ _ _ (by omega)] at z0 z1
      rw [up_s, up_k _ _ _ (by omega), up_k _ _ _ (by omega), w0, w1, rck_nI (by omega) (by omega) (by omega), hc] at z2
      exact hyne ((nI_eq (by omega) (by omega)).mp z2)
    have hsp := rdf_spoil (g := g) (e := e) (v := v) (r := r) (k := k) (i := i) (y := nI ((c + 1 + u) % 251)) (f := P.2.2.2.2.1 a) l2 l4 (by rw [hf']; exact hb') (r - i - 1) r (by omega) (Nat.le_refl _)
    rw [hf'] at hsp
    obtain ⟨hs1, hs2⟩ := hsp
    obtain ⟨x2, hx2, hxg2⟩ := rdf_V (e := e) hG hv3 f' r
    obtain ⟨I2, b2, hT2, f2⟩ := C_spoil (L := L) (k := 3 + 3 * i + 2) (y := nI ((c + 1 + u) % 251)) hT1 ha (by omega) (Or.inr ⟨(c + 1 + u) % 251, by omega, rfl⟩)
    rw [hchk] at b2
    obtain ⟨P2, hP2⟩ : ∃ P2, spS P a (3 + 3 * i + 2) (nI ((c + 1 + u) % 251)) = P2 := ⟨_, rfl⟩
    rw [hP2] at hT2
    have hC2 : P2.2.2.2.2.1 = up P.2.2.2.2.1 a f' := by rw [← hP2, ← hf']; rfl
    have hw2 : P2.1 = some none := by rw [← hP2]; exact hw
    have hA2 : P2.2.1 6 = nI v := by rw [← hP2]; exact h.1.2.1
    have hV2 : P2.2.2.2.2.2.1 k = nI (x k) := by
      rw [← hP2]
      show P.2.2.2.2.2.1 k = _
      rw [h.2.1, nV_k hk]
    have hQ2 : P2.2.2.2.2.2.2 k = nI (3 + 3 * i) := by rw [← hP2]; exact q1
    have hCw2 : Cw g e P2.2.2.2.2.1 a v s r x2 (rdf g e v f' r).2.1 := by
      rw [hC2]
      refine ⟨h.1.2.2.2.2, ?_, fun j hj => ?_, fun j q5 q6 => ?_, ?_, ?_, ?_, hxg2⟩
      · rw [up_s, ← hf', up_k _ _ _ (by omega), up_k _ _ _ (by omega), up_k _ _ _ (by omega)]; exact hkk
      · rw [up_s, ← hf', up_k _ _ _ (by omega)]; exact h3 j hj
      · rw [up_s, ← hf', up_k _ _ _ (by omega)]; exact h4 j q5 q6
      · unfold Oc; rw [up_k _ _ _ (show 1 - a ≠ a by omega)]; exact ho
      · rw [up_s]; exact hx2
      · rw [up_s]
    have hnr2 := Cw_nr hCw2
    have hH2 := Cw_head hn hn6 hCw2
    obtain ⟨I3, P3, b3, hT3, f3, hI3, e3⟩ := G_start (L := L) (P := P2) hn hT2 hCw2
    have hbad0 : E 105 0 [some (.ref 1), some (.int (nI a)), some (.int 4), none] [] (GG L) I1 = some (some (.int (rdf g e v (P.2.2.2.2.1 a) r).2.2), GG L, I1) := by
      rw [Q_p4 hT1.1 hT1.2.1 ha (Cw_head hn hn6 h.2.2) (by omega) hv3 hkk.1, Cw_nr h.2.2]
    have hbad2 : E 105 0 [some (.ref 1), some (.int (nI a)), some (.int 4), none] [] (GG L) I2 = some (some (.int (rdf g e v f' r).2.2), GG L, I2) := by
      rw [Q_p4 hT2.1 hT2.2.1 ha hH2 (by omega) hv3 hCw2.2.1.1, hnr2, hC2, up_s]
    have hA9 : P3.2.1 9 = (rdf g e v f' r).2.2 := by
      rw [e3]
      show (rdf g e v (P2.2.2.2.2.1 a) r).2.2 = _
      rw [hC2, up_s]
    have hQ3 : P3.2.2.2.2.2.2 k = (rdf g e v (P.2.2.2.2.1 a) i).2.1 k := by rw [e3]; exact hs1
    have hW3 : P3.2.2.1 = P.2.2.1 := by rw [e3, ← hP2]; rfl
    rw [Q_cell hT1.2.1 ha (by omega), hchk, K2_i, B131_54, hbad0, K2_i, B131_62, e2', K2_i, B131_83, hy251, show nI (3 + 3 * i) + 2 = nI (3 + 3 * i + 2) from nI_add _ 2, b2, K2_i, B131_91, if_pos rfl, Q_get hT2.1 hT2.2.1 hw2 (by omega) hv3 hA2 hk, hV2, K2_i, B131_101, if_pos rfl, Q_record hT2.1 hT2.2.1 hw2 (by omega) hv3 hA2 hk, hQ2, K2_i, B131_111, if_pos rfl, hbad2, K2_i, B131_122, if_pos hs2, b3, K2_i, B131_135, G_rec hn hT3 hI3.1 hI3.2 hk, hQ3, K2_i, B131_141] at b0
    have s5 : E 106 0 [some (.ref 1), some (.int 5)] [] (GG L) I3 = some (some (.int (rdf g e v f' r).2.2), GG L, I3) := by rw [Q_s5 hT3.2.1, hA9]
    have hfin := fun (u7' u8' : Option Value) => Sp_head (L := L) (P0 := P) (k := k) (u1 := some (.int y1)) (u7 := u7') (u8 := u8') (u9 := none) (y5 := nI (3 + 3 * i)) (y6 := nI (x k)) hn hk hT3 hI3 hI hW3 q1.symm rfl
    have hat := rdf_at (g := g) (e := e) (v := v) (f := P.2.2.2.2.1 a) hk i
    rcases hat with ⟨t1, -⟩ | ⟨i', hi', t1, -⟩
    · have hQ3' : P3.2.2.2.2.2.2 k = -6 := hQ3.trans t1
      have hx2k : nI (x2 k) = nI (e v k) := by
        rcases G_at hG hI3.2 hk with ⟨-, t2⟩ | ⟨i'', hi'', t2, -⟩
        · rw [t2]
        · rw [hQ3'] at t2; exact absurd t2 (m6_nI (by omega))
      rw [t1, if_neg (nI_ge' (by omega)), s5, K2_i, B131_151, if_pos hs2, G_rec hn hT3 hI3.1 hI3.2 hk, hQ3', K2_i, B131_165, if_neg (by decide), G_get hn hT3 hI3.1 hI3.2 hk, K2_i, B131_173, G_s2 hT3 hI3.2, K2_i, B131_179, G_l1 hn hT3 hv3 hk, K2_i, B131_184, if_pos hx2k] at b0
      obtain ⟨I4, c1, c2, c3⟩ := hfin _ _
      exact ⟨I4, b0.trans c1, c2, FN_tr f1 (FN_tr f2 (FN_tr f3 c3))⟩
    · have hQ3' : P3.2.2.2.2.2.2 k = nI (3 + 3 * i') := hQ3.trans t1
      rw [t1, if_neg (nI_ge (by omega) (by omega)), s5, K2_i, B131_151, if_pos hs2, G_rec hn hT3 hI3.1 hI3.2 hk, hQ3', K2_i, B131_165, if_pos (nI_pos' (by omega))] at b0
      obtain ⟨I4, c1, c2, c3⟩ := hfin _ _
      exact ⟨I4, b0.trans c1, c2, FN_tr f1 (FN_tr f2 (FN_tr f3 c3))⟩
end SQ
