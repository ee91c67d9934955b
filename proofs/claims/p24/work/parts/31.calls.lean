/-! ===== p24: the calls that change something ===== -/
def Im (I : It) (i d : Nat) : Option Pc → Prop
  | none => I 118 i = 0
  | some P => I 118 i = 1 ∧ Rd I d P
def TT (n : Nat) (g e Z : Nat → Nat → Nat) (P : Pc) (o0 o1 : Option Pc) (I : It) : Prop := Ly n g e Z I ∧ Rd I 81 P ∧ Im I 0 100 o0 ∧ Im I 1 109 o1
theorem Im_D {d d' i : Nat} {o : Option Pc} {I I' : It} (h : Im I i d o) (hf : d' + 8 < d ∨ d + 8 < d') (hd : d' + 8 < 118) (f : FD d' I I') : Im I' i d o := by
  cases o with
  | none => show I' 118 i = 0; rw [f 118 (by omega)]; exact h
  | some P => exact ⟨by rw [f 118 (by omega)]; exact h.1, Rd_oth h.2 (fun a q1 q2 => f a (by omega))⟩
theorem TT_D {n : Nat} {g e Z : Nat → Nat → Nat} {P P' : Pc} {o0 o1 : Option Pc} {I I' : It} (h : TT n g e Z P o0 o1 I) (f : FD 81 I I') (hP : Rd I' 81 P') : TT n g e Z P' o0 o1 I' :=
  ⟨Ly_D h.1 (by decide) f, hP, Im_D h.2.2.1 (by decide) (by decide) f, Im_D h.2.2.2 (by decide) (by decide) f⟩
theorem TT_90 {n : Nat} {g e Z : Nat → Nat → Nat} {P : Pc} {o0 o1 : Option Pc} {I I' : It} (h : TT n g e Z P o0 o1 I) (f : FD 90 I I') : TT n g e Z P o0 o1 I' :=
  ⟨Ly_D h.1 (by decide) f, Rd_oth h.2.1 (fun a q1 q2 => f a (by omega)), Im_D h.2.2.1 (by decide) (by decide) f, Im_D h.2.2.2 (by decide) (by decide) f⟩
/-- the law's own objects stay -/
def FN (I I' : It) : Prop := ∀ a, a < 9 ∨ 119 ≤ a → I' a = I a
theorem FN_D {d : Nat} {I I' : It} (f : FD d I I') (h : 81 ≤ d) (h2 : d + 8 < 119) : FN I I' := fun a ha => f a (by omega)
theorem FN_tr {I1 I2 I3 : It} (h : FN I1 I2) (h' : FN I2 I3) : FN I1 I3 := fun a ha => (h' a ha).trans (h a ha)
theorem FN_r (I : It) : FN I I := fun _ _ => rfl
theorem Rd_fail {d m : Nat} {w : Option Nat} {I : It} {P : Pc} (h : Rd I d P) (hw : P.1 = some w) (hm : m ≤ 200) : Rd (uI I d 4 (nI m)) d (some (some m), P.2) := by
  obtain ⟨r3, r4, rok, rA, rC, rV⟩ := h
  refine ⟨by rw [uI_k _ _ _ _ _ (by decide), r3, hw]; rfl, by rw [uI_s]; rfl, hm, fun j h5 h10 => by rw [uI_k _ _ _ _ _ (by omega)]; exact rA j h5 h10, fun p hp => ?_, fun k hk => ?_⟩
  · rw [uI_o _ _ _ _ _ (by omega), uI_o _ _ _ _ _ (by omega)]; exact rC p hp
  · rw [uI_o _ _ _ _ _ (by omega), uI_o _ _ _ _ _ (by omega)]; exact rV k hk
section CC
variable {L : Nat × Nat} {n a v s r : Nat} {g e Z : Nat → Nat → Nat} {x : Nat → Nat} {I : It} {P : Pc} {o0 o1 : Option Pc}
theorem S118 {y : Int32} : E 118 0 [some (.int y)] [] (GG L) I = some (some (.int (tI (∃ m, m < 201 ∧ y = nI m))), GG L, I) := by
  rcases below y (n := 201) (by decide) with ⟨k, hk, e⟩ | ⟨h3, h4⟩
  · rw [tI_t ⟨k, hk, e⟩, e, B118_0, if_neg (nI_pos (by omega)), if_neg (show ¬ (200 : Int32) < nI k from nI_nlt (a := 200) (b := k) (by omega) (by decide))]
  · rw [tI_f (fun ⟨k, hk, e⟩ => h4 k hk e), B118_0]
    by_cases h5 : y < 0
    · rw [if_pos h5]
    · rw [if_neg h5, if_pos]
      have h6 : nI 201 ≤ y := h3.resolve_left h5
      obtain ⟨j, hj, ej⟩ := nI_of h5
      rw [ej] at h6 ⊢
      have := (nI_leI (by decide) hj).mp h6
      exact nI_lt (a := 200) (by omega) hj
theorem C_fail {m : Nat} (h : TT n g e Z P o0 o1 I) (hw : P.1 = some none) (hm : m ≤ 200) : ∃ I', E 96 0 [some (.ref 1), some (.int (nI m)), none] [] (GG L) I = some (some (.int 0), GG L, I') ∧ TT n g e Z (some (some m), P.2) o0 o1 I' ∧ FN I I' := by
  have h4 : I 81 4 = -6 := by rw [h.2.1.2.1, hw]; rfl
  have f : FD 81 I (uI I 81 4 (nI m)) := FD_u (by decide) (by decide)
  refine ⟨_, ?_, TT_D h f (Rd_fail h.2.1 hw hm), FN_D f (by decide) (by decide)⟩
  rw [B96_0, if_neg (nI_m6 (by omega)), S118, K2_i, B96_10, tI_t ⟨m, by omega, rfl⟩, if_neg (by decide), S2 k_81 h.2.1, K2_i, B96_23, hw, show pwA (some none) = 1 from rfl, if_neg (by decide), B4_0 k_81, K2_i, B96_36, h4, if_pos rfl, B16_0 k_81, K2_v, B96_55]
theorem C_fail0 {m : Nat} (h : Rd I 81 P) (hw : P.1 = none) (hm : m ≤ 200) : E 96 0 [some (.ref 1), some (.int (nI m)), none] [] (GG L) I = some (some (.int (-5)), GG L, I) := by
  rw [B96_0, if_neg (nI_m6 (by omega)), S118, K2_i, B96_10, tI_t ⟨m, by omega, rfl⟩, if_neg (by decide), S2 k_81 h, K2_i, B96_23, hw, show pwA none = 0 from rfl, if_pos rfl]
theorem C_failf {y : Int32} (h6 : y ≠ -6) (hy : ∀ m, m < 201 → y ≠ nI m) : E 96 0 [some (.ref 1), some (.int y), none] [] (GG L) I = some (some (.int (-2)), GG L, I) := by
  rw [B96_0, if_neg h6, S118, K2_i, B96_10, tI_f (fun ⟨m, hm, q⟩ => hy m hm q), if_pos rfl]
theorem C_start (h : TT n g e Z P o0 o1 I) (hP : okv n P) : ∃ I', E 97 0 [some (.ref 1)] [] (GG L) I = some (some (.int ((rst n g e P).2.1 5)), GG L, I') ∧ TT n g e Z (rst n g e P) o0 o1 I' ∧ FN I I' := by
  obtain ⟨I', b1, b2, b3⟩ := T_start (L := L) h.1 k_81 (by decide) h.2.1 hP
  refine ⟨I', ?_, TT_D h b2 b3, FN_D b2 (by decide) (by decide)⟩
  rw [B97_0, b1, K2_v, B97_7, B5_0 k_81, K2_i, B97_14, b3.2.2.2.1 5 (by decide) (by decide)]
theorem C_set {w : Option Nat} {k c : Nat} (h : TT n g e Z P o0 o1 I) (hw : P.1 = some w) (hg : rga P a v s r) (hvn : v < n) (hx : ∀ k, k < 3 → x k < 256) (hV : P.2.2.2.2.2.1 = nV x) (hk : k < 3) (hc : c ≤ g v k) : ∃ I', E 99 0 [some (.ref 1), some (.int (nI k)), some (.int (nI c))] [] (GG L) I = some (some (.int (nI (chN e P v r x k c))), GG L, I') ∧ TT n g e Z (chS e P a v s r x k c) o0 o1 I' ∧ FN I I' := by
  have hn := h.1.1
  have hv3 : v < 3 := hg.2.2.2.2.2.1
  have hl := h.1.2.2.2 v hvn hv3
  have hgk := (hl.2.1 k hk).2.2.1
  have i6 : I 81 6 = nI v := (h.2.1.2.2.2.1 6 (by decide) (by decide)).trans hg.2.1
  obtain ⟨I', b1, b2, b3⟩ := T_change (L := L) k_81 (by decide) h.1 h.2.1 hg hvn hx hV hk (show c < 256 by omega)
  refine ⟨I', ?_, TT_D h b2 b3, FN_D b2 (by decide) (by decide)⟩
  rw [B99_0, S2 k_81 h.2.1, K2_i, B99_7, hw, show pwA (some w) = 1 from rfl, if_neg (by decide), S10 h.1 k_81 hvn i6, K2_i, B99_20 (k_lay (by omega)), L32k hl (by omega) (by omega), K2_i, B99_24, tI_t hk, if_neg (by decide), S10 h.1 k_81 hvn i6, K2_i, B99_36 (k_lay (by omega)), L36 hl (by omega), K2_i, B99_41, tI_t ⟨k, c, hk, hc, rfl, rfl⟩, if_neg (by decide), b1, K2_i, B99_56]
theorem C_set0 {y z : Int32} (h : Rd I 81 P) (hw : P.1 = none) : E 99 0 [some (.ref 1), some (.int y), some (.int z)] [] (GG L) I = some (some (.int (-5)), GG L, I) := by
  rw [B99_0, S2 k_81 h, K2_i, B99_7, hw, show pwA none = 0 from rfl, if_pos rfl]
theorem C_setn {w : Option Nat} {y z : Int32} (hR : Ly n g e Z I) (h : Rd I 81 P) (hw : P.1 = some w) (h6 : P.2.1 6 = -6) : E 99 0 [some (.ref 1), some (.int y), some (.int z)] [] (GG L) I = some (some (.int (-1)), GG L, I) := by
  have i6 : I 81 6 = -6 := (h.2.2.2.1 6 (by decide) (by decide)).trans h6
  rw [B99_0, S2 k_81 h, K2_i, B99_7, hw, show pwA (some w) = 1 from rfl, if_neg (by decide), S10n hR k_81 i6, K2_i, B99_20 k_emp, S32 k_emp, K2_i, B99_24, tI_f (fun ⟨k, hk, _, q⟩ => q (hR.2.2.1 k hk)), if_pos rfl]
theorem rdy {w : Option Nat} (hw : P.1 = some w) (hg : rga P a v s r) : pwA P.1 ≠ 0 ∧ P.2.1 5 ≠ -6 := ⟨by rw [hw]; exact (by decide : (1 : Int32) ≠ 0), by rw [hg.1]; exact nI_m6 (by have := hg.2.2.2.2.1; omega)⟩
theorem C_compact {w : Option Nat} (h : TT n g e Z P o0 o1 I) (hw : P.1 = some w) (hg : rga P a v s r) (hvn : v < n) (hx : ∀ k, k < 3 → x k < 256) (hV : P.2.2.2.2.2.1 = nV x) : ∃ I', E 100 0 [some (.ref 1)] [] (GG L) I = some (some (.int (nI (fillN e P v x))), GG L, I') ∧ TT n g e Z (fillS e P (1 - a) v ((s + 1) % 200) x) o0 o1 I' ∧ FN I I' := by
  have i6 : I 81 6 = nI v := (h.2.1.2.2.2.1 6 (by decide) (by decide)).trans hg.2.1
  obtain ⟨I', b1, b2, b3⟩ := T_move (L := L) (t := v) k_81 (by decide) h.1 h.2.1 hg hV hx (Nat.le_refl _) hvn hg.2.2.2.2.2.1
  rw [Nat.sub_self] at b1 b3
  refine ⟨I', ?_, TT_D h b2 b3, FN_D b2 (by decide) (by decide)⟩
  rw [B100_0, S3 k_81 h.2.1, K2_i, B100_7, tI_t (rdy hw hg), if_neg (by decide), B6_0 k_81, i6, K2_i, B100_24 k_81, b1, K2_i, B100_27]
  rfl
theorem C_compactn (h : Rd I 81 P) (h5 : P.2.1 5 = -6) : E 100 0 [some (.ref 1)] [] (GG L) I = some (some (.int (-5)), GG L, I) := by
  rw [B100_0, S3 k_81 h, K2_i, B100_7, tI_f (fun q => q.2 h5), if_pos rfl]
theorem C_migrate {w : Option Nat} {t : Nat} (h : TT n g e Z P o0 o1 I) (hw : P.1 = some w) (hg : rga P a v s r) (hvn : v < n) (hx : ∀ k, k < 3 → x k < 256) (hV : P.2.2.2.2.2.1 = nV x) (hvt : v < t) (ht : t < n) (ht3 : t < 3) : ∃ I', E 101 0 [some (.ref 1), some (.int (nI t))] [] (GG L) I = some (some (.int (nI (fillN e P t (mgs Z v x (t - v))))), GG L, I') ∧ TT n g e Z (fillS e P (1 - a) t ((s + 1) % 200) (mgs Z v x (t - v))) o0 o1 I' ∧ FN I I' := by
  have i6 : I 81 6 = nI v := (h.2.1.2.2.2.1 6 (by decide) (by decide)).trans hg.2.1
  obtain ⟨I', b1, b2, b3⟩ := T_move (L := L) (t := t) k_81 (by decide) h.1 h.2.1 hg hV hx (by omega) ht ht3
  refine ⟨I', ?_, TT_D h b2 b3, FN_D b2 (by decide) (by decide)⟩
  rw [B101_0, S3 k_81 h.2.1, K2_i, B101_7, tI_t (rdy hw hg), if_neg (by decide), S45 h.1, K2_i, B101_21, tI_t ⟨t, ht, rfl⟩, if_neg (by decide), B6_0 k_81, i6, K2_i, B101_34, if_pos (nI_lt hvt (by omega)), b1, K2_i, B101_48]
theorem C_migrate2 {w : Option Nat} {t : Nat} (hR : Ly n g e Z I) (h : Rd I 81 P) (hw : P.1 = some w) (hg : rga P a v s r) (ht : t < n) (hvt : t ≤ v) : E 101 0 [some (.ref 1), some (.int (nI t))] [] (GG L) I = some (some (.int (-2)), GG L, I) := by
  have i6 : I 81 6 = nI v := (h.2.2.2.1 6 (by decide) (by decide)).trans hg.2.1
  have := hg.2.2.2.2.2.1
  rw [B101_0, S3 k_81 h, K2_i, B101_7, tI_t (rdy hw hg), if_neg (by decide), S45 hR, K2_i, B101_21, tI_t ⟨t, ht, rfl⟩, if_neg (by decide), B6_0 k_81, i6, K2_i, B101_34, if_neg (nI_nlt hvt (by omega))]
theorem C_migraten {y : Int32} (h : Rd I 81 P) (h5 : P.2.1 5 = -6) : E 101 0 [some (.ref 1), some (.int y)] [] (GG L) I = some (some (.int (-5)), GG L, I) := by
  rw [B101_0, S3 k_81 h, K2_i, B101_7, tI_f (fun q => q.2 h5), if_pos rfl]
theorem C_factory {t : Nat} (h : TT n g e Z P o0 o1 I) (hw : P.1 = some none) (ht : t < n) (ht3 : t < 3) : ∃ I', E 102 0 [some (.ref 1), some (.int (nI t))] [] (GG L) I = some (some (.int (nI 3)), GG L, I') ∧ TT n g e Z (rsS e P t) o0 o1 I' ∧ FN I I' := by
  obtain ⟨I', b1, b2, b3⟩ := T_reset (L := L) k_81 (by decide) h.1 h.2.1 hw ht ht3
  refine ⟨I', ?_, TT_D h b2 b3, FN_D b2 (by decide) (by decide)⟩
  rw [B102_0, S2 k_81 h.2.1, K2_i, B102_7, hw, show pwA (some none) = 1 from rfl, if_neg (by decide), S45 h.1, K2_i, B102_21, tI_t ⟨t, ht, rfl⟩, if_neg (by decide), b1, K2_i, B102_32]
theorem C_factoryf {w : Option Nat} {y : Int32} (hR : Ly n g e Z I) (h : Rd I 81 P) (hw : P.1 = some w) (hy : ∀ v, v < n → y ≠ nI v) : E 102 0 [some (.ref 1), some (.int y)] [] (GG L) I = some (some (.int (-1)), GG L, I) := by
  rw [B102_0, S2 k_81 h, K2_i, B102_7, hw, show pwA (some w) = 1 from rfl, if_neg (by decide), S45 hR, K2_i, B102_21, tI_f (fun ⟨v, hv, q⟩ => hy v hv q), if_pos rfl]
/-- a cell spoiled -/
def spS (P : Pc) (p k : Nat) (y : Int32) : Pc := (P.1, P.2.1, P.2.2.1, P.2.2.2.1, up P.2.2.2.2.1 p (up (P.2.2.2.2.1 p) k y), P.2.2.2.2.2)
theorem C_spoil {p k : Nat} {y : Int32} (h : TT n g e Z P o0 o1 I) (hp : p < 2) (hk : k < 48) (hy : y = -6 ∨ ∃ c, c < 256 ∧ y = nI c) : ∃ I', E 104 0 [some (.ref 1), some (.int (nI p)), some (.int (nI k)), some (.int y), none] [] (GG L) I = some (some (.int (P.2.2.2.2.1 p k)), GG L, I') ∧ TT n g e Z (spS P p k y) o0 o1 I' ∧ FN I I' := by
  have k4 := k_pg (L := L) k_81 hp
  have f : FD 81 I (uI I (81 + 1 + 2 * p + 1) k y) := FD_u (by omega) (by omega)
  refine ⟨_, ?_, TT_D h f ?_, FN_D f (by decide) (by decide)⟩
  · have e1 : E 104 5 [some (.ref 1), some (.int (nI p)), some (.int (nI k)), some (.int y), none] [.int 1] (GG L) I = K2 104 38 [some (.ref 1), some (.int (nI p)), some (.int (nI k)), some (.int y), none] [] (E 9 0 [some (.ref 81), some (.int (nI p))] [] (GG L) I) := by
      rw [B104_5, if_neg (by decide)]
      rcases hy with hy | ⟨c, hc, hy⟩
      · rw [if_pos hy]
      · rw [hy, if_neg (nI_m6 (by omega)), if_neg (nI_pos (by omega)), if_pos (show nI c ≤ (255 : Int32) from nI_le (b := 255) (by omega) (by decide))]
    rw [B104_0, S116, K2_i, tI_t ⟨⟨p, hp, rfl⟩, k, hk, rfl⟩, e1, S9 k_81 hp, K2_i, B104_38 k4, S71 k4 hk, K2_i, B104_42, S9 k_81 hp, K2_i, B104_52 k4, S72 k4 hk, K2_v, B104_57, Rd_cells h.2.1 hp hk]
  · obtain ⟨r3, r4, rok, rA, rC, rV⟩ := h.2.1
    refine ⟨by rw [uI_o _ _ _ _ _ (by omega)]; exact r3, by rw [uI_o _ _ _ _ _ (by omega)]; exact r4, rok, fun j q1 q2 => by rw [uI_o _ _ _ _ _ (by omega)]; exact rA j q1 q2, fun q hq => ?_, fun j hj => ?_⟩
    · obtain ⟨x1, x2, x3⟩ := rC q hq
      refine ⟨by rw [uI_a _ _ _ _ _ _ (by omega)]; exact x1, by rw [uI_a _ _ _ _ _ _ (by omega)]; exact x2, fun j hj => ?_⟩
      simp only [spS]
      by_cases hqp : q = p
      · subst hqp
        rw [up_s, show 81 + 2 + 2 * q = 81 + 1 + 2 * q + 1 by omega]
        by_cases hjk : j = k
        · subst hjk; rw [uI_s, up_s]
        · rw [uI_k _ _ _ _ _ hjk, up_k _ _ _ hjk]; exact Rd_cells h.2.1 hq hj
      · rw [uI_a _ _ _ _ _ _ (by omega), up_k _ _ _ hqp]; exact x3 j hj
    · rw [uI_a _ _ _ _ _ _ (by omega), uI_a _ _ _ _ _ _ (by omega)]; exact rV j hj
theorem C_spoilf {y z u : Int32} (hyz : ¬ ((∃ p, p < 2 ∧ y = nI p) ∧ ∃ k, k < 48 ∧ z = nI k)) : E 104 0 [some (.ref 1), some (.int y), some (.int z), some (.int u), none] [] (GG L) I = some (some (.int (-1)), GG L, I) := by
  rw [B104_0, S116, K2_i, B104_5, tI_f hyz, if_pos rfl]
theorem C_spoil2 {u : Int32} (h6 : u ≠ -6) (hu : ¬ (0 ≤ u ∧ u ≤ 255)) : E 104 0 [some (.ref 1), some (.int 0), some (.int 0), some (.int u), none] [] (GG L) I = some (some (.int (-2)), GG L, I) := by
  rw [B104_0, S116, K2_i, B104_5, tI_t ⟨⟨0, by decide, rfl⟩, 0, by decide, rfl⟩, if_neg (by decide), if_neg h6]
  by_cases q : u < 0
  · rw [if_pos q]
  · rw [if_neg q, if_neg (fun z => hu ⟨Int32.not_lt.mp q, z⟩)]
theorem C_pagef {y z : Int32} (hy : ¬ ∃ p, p < 2 ∧ y = nI p) : E 105 0 [some (.ref 1), some (.int y), some (.int z), none] [] (GG L) I = some (some (.int (-1)), GG L, I) := by
  rw [B105_0, S115, K2_i, B105_4, tI_f hy, if_pos rfl]
/-- what a migration would give -/
theorem C_ifm {w : Option Nat} {t k : Nat} (h : TT n g e Z P o0 o1 I) (hw : P.1 = some w) (hg : rga P a v s r) (hx : ∀ k, k < 3 → x k < 256) (hV : P.2.2.2.2.2.1 = nV x) (hvt : v < t) (ht : t < n) (ht3 : t < 3) (hk : k < 3) : ∃ I', E 108 0 [some (.ref 1), some (.int (nI t)), some (.int (nI k))] [] (GG L) I = some (some (.int (nI (mgs Z v x (t - v) k))), GG L, I') ∧ TT n g e Z P o0 o1 I' ∧ FN I I' := by
  have hn := h.1.1
  have i6 : I 81 6 = nI v := (h.2.1.2.2.2.1 6 (by decide) (by decide)).trans hg.2.1
  obtain ⟨I', b1, b2, b3⟩ := T_mig (L := L) (t := t) k_81 (by decide) h.1 h.2.1 hg.2.1 hV hx (by omega) ht ht3
  have f : FD 81 I I' := fun b hb => b2 b (by omega)
  refine ⟨I', ?_, TT_D h f (Rd_oth h.2.1 (fun b q1 q2 => b2 b (by omega))), FN_D f (by decide) (by decide)⟩
  rw [B108_0, S3 k_81 h.2.1, K2_i, B108_7, tI_t (rdy hw hg), if_neg (by decide), S46 h.1 ht, K2_i, B108_21 (k_lay (by omega)), L32k (h.1.2.2.2 t ht ht3) (by omega) (by omega), K2_i, B108_25, tI_t hk, if_neg (by decide), B6_0 k_81, i6, K2_i, B108_38, if_pos (nI_lt hvt (by omega)), B23_0 k_81, b1, K2_v, B23_5 k_81, S119, K2_i, B23_9 k_81, tI_t ⟨k, by omega, rfl⟩, if_neg (by decide), ck_of (inb_nI (by omega) (by decide)), ix_nI (by omega), K2_i, B108_53, b3 k (by omega), nV_k hk]
theorem C_ifmn {y z : Int32} (h : Rd I 81 P) (h5 : P.2.1 5 = -6) : E 108 0 [some (.ref 1), some (.int y), some (.int z)] [] (GG L) I = some (some (.int (-5)), GG L, I) := by
  rw [B108_0, S3 k_81 h, K2_i, B108_7, tI_f (fun q => q.2 h5), if_pos rfl]
/-- what would be found if the power failed -/
theorem C_iff {w : Option Nat} {k c m j v' : Nat} (h : TT n g e Z P o0 o1 I) (hw : P.1 = some w) (hg : rga P a v s r) (hvn : v < n) (hx : ∀ k, k < 3 → x k < 256) (hV : P.2.2.2.2.2.1 = nV x) (hk : k < 3) (hc : c ≤ g v k) (hm : m ≤ 200) (hj : j < 3) (hok : okv n (chS e (some (some m), P.2) a v s r x k c)) (h6 : (rst n g e (chS e (some (some m), P.2) a v s r x k c)).2.1 6 = nI v') (hv' : v' < n) (hv3' : v' < 3) : ∃ I', E 109 0 [some (.ref 1), some (.int (nI k)), some (.int (nI c)), some (.int (nI m)), some (.int (nI j)), none] [] (GG L) I = some (some (.int ((rst n g e (chS e (some (some m), P.2) a v s r x k c)).2.2.2.2.2.1 j)), GG L, I') ∧ TT n g e Z P o0 o1 I' ∧ FN I I' := by
  have hn := h.1.1
  have hv3 : v < 3 := hg.2.2.2.2.2.1
  have hl := h.1.2.2.2 v hvn hv3
  have hgk := (hl.2.1 k hk).2.2.1
  have i6 : I 81 6 = nI v := (h.2.1.2.2.2.1 6 (by decide) (by decide)).trans hg.2.1
  obtain ⟨I1, a1, f1, h1⟩ := T_copy (L := L) (d := 90) (d' := 81) k_90 k_81 (by decide) h.2.1
  have h2 : Rd (uI I1 90 4 (nI m)) 90 (some (some m), P.2) := Rd_fail h1 hw hm
  have f2 : FD 90 I (uI I1 90 4 (nI m)) := FD_tr f1 (FD_u (by decide) (by decide))
  obtain ⟨I3, a3, f3, h3⟩ := T_change (L := L) (P := (some (some m), P.2)) k_90 (by decide) (Ly_D h.1 (by decide) f2) h2 hg hvn hx hV hk (show c < 256 by omega)
  have fD3 := FD_tr f2 f3
  obtain ⟨I4, a4, f4, h4⟩ := T_start (L := L) (Ly_D h.1 (by decide) fD3) k_90 (by decide) h3 hok
  have fD4 := FD_tr fD3 f4
  have hR4 := Ly_D h.1 (by decide) fD4
  have i64 : I4 90 6 = nI v' := (h4.2.2.2.1 6 (by decide) (by decide)).trans h6
  refine ⟨I4, ?_, TT_90 h fD4, FN_D fD4 (by decide) (by decide)⟩
  rw [B109_0, S2 k_81 h.2.1, K2_i, B109_7, hw, show pwA (some w) = 1 from rfl, if_neg (by decide), S10 h.1 k_81 hvn i6, K2_i, B109_20 (k_lay (by omega)), L32k hl (by omega) (by omega), K2_i, B109_28 (k_lay (by omega)), tI_t hk, if_neg (by decide), L32k hl (by omega) (by omega), K2_i, B109_38 (k_lay (by omega)), tI_t hj, if_neg (by decide), L36 hl (by omega), K2_i, B109_50, tI_t ⟨k, c, hk, hc, rfl, rfl⟩, if_neg (by decide), S118, K2_i, B109_57, tI_t ⟨m, by omega, rfl⟩, if_neg (by decide), a1, K2_v, B109_74, B16_0 k_90, K2_v, B109_82, a3, K2_i, B109_91, a4, K2_v, B109_99, S10 hR4 k_90 hv' i64, K2_i, B109_106 (k_lay (by omega)), L32k (hR4.2.2.2 v' hv' hv3') (by omega) (by omega), K2_i, B109_111, tI_t hj, if_neg (by decide), S11 k_90 (by omega), K2_i, B109_123, (h4.2.2.2.2.2 j (by omega)).1]
theorem C_ifff {w : Option Nat} {y1 y2 y3 y4 : Int32} (hR : Ly n g e Z I) (h : Rd I 81 P) (hw : P.1 = some w) (h6 : P.2.1 6 = -6) : E 109 0 [some (.ref 1), some (.int y1), some (.int y2), some (.int y3), some (.int y4), none] [] (GG L) I = some (some (.int (-1)), GG L, I) := by
  have i6 : I 81 6 = -6 := (h.2.2.2.1 6 (by decide) (by decide)).trans h6
  rw [B109_0, S2 k_81 h, K2_i, B109_7, hw, show pwA (some w) = 1 from rfl, if_neg (by decide), S10n hR k_81 i6, K2_i, B109_20 k_emp, S32 k_emp, K2_i, B109_28 k_emp, tI_f (fun ⟨k, hk, _, q⟩ => q (hR.2.2.1 k hk)), if_pos rfl]
/-! images -/
theorem C_keep0 (h : TT n g e Z P o0 o1 I) : ∃ I', E 113 0 [some (.ref 1), some (.int 0)] [] (GG L) I = some (some (.int (P.2.1 5)), GG L, I') ∧ TT n g e Z P (some P) o1 I' ∧ FN I I' ∧ ∀ a, a < 81 → I' a = I a := by
  obtain ⟨I1, a1, f1, h1⟩ := T_copy (L := L) (d := 100) (d' := 81) k_100 k_81 (by decide) h.2.1
  have o : ∀ b, b < 100 ∨ (108 < b ∧ b ≠ 118) → uI I1 118 0 1 b = I b := fun b hb => by rw [uI_o _ _ _ _ _ (by omega), f1 b (by omega)]
  refine ⟨uI I1 118 0 1, ?_, ⟨Ly_congr h.1 (fun b _ hb => o b (by omega)), Rd_oth h.2.1 (fun b q1 q2 => o b (by omega)), ⟨uI_s _ _ _ _, Rd_oth h1 (fun b q1 q2 => uI_o _ _ _ _ _ (by omega))⟩, ?_⟩, fun b hb => o b (by omega), fun b hb => o b (by omega)⟩
  · have e0 : ix 0 = 0 := x_0
    rw [B113_0, S117, K2_i, B113_4, tI_t ⟨0, by decide, rfl⟩, if_neg (by decide), ck_of (by decide), e0, show 100 + 9 * 0 = 100 from rfl, a1, K2_v, B113_23, ck_of (by decide), e0, B5_0 k_81, K2_i, B113_37, o 81 (by decide), h.2.1.2.2.2.1 5 (by decide) (by decide)]
  · have hi := h.2.2.2
    cases o1 with
    | none => show uI I1 118 0 1 118 1 = 0; rw [uI_k _ _ _ _ _ (by decide), f1 118 (by decide)]; exact hi
    | some P1 => exact ⟨by rw [uI_k _ _ _ _ _ (by decide), f1 118 (by decide)]; exact hi.1, Rd_oth hi.2 (fun b q1 q2 => o b (by omega))⟩
theorem C_keep1 (h : TT n g e Z P o0 o1 I) : ∃ I', E 113 0 [some (.ref 1), some (.int 1)] [] (GG L) I = some (some (.int (P.2.1 5)), GG L, I') ∧ TT n g e Z P o0 (some P) I' ∧ FN I I' ∧ ∀ a, a < 81 → I' a = I a := by
  obtain ⟨I1, a1, f1, h1⟩ := T_copy (L := L) (d := 109) (d' := 81) k_109 k_81 (by decide) h.2.1
  have o : ∀ b, b < 109 ∨ (117 < b ∧ b ≠ 118) → uI I1 118 1 1 b = I b := fun b hb => by rw [uI_o _ _ _ _ _ (by omega), f1 b (by omega)]
  refine ⟨uI I1 118 1 1, ?_, ⟨Ly_congr h.1 (fun b _ hb => o b (by omega)), Rd_oth h.2.1 (fun b q1 q2 => o b (by omega)), ?_, ⟨uI_s _ _ _ _, Rd_oth h1 (fun b q1 q2 => uI_o _ _ _ _ _ (by omega))⟩⟩, fun b hb => o b (by omega), fun b hb => o b (by omega)⟩
  · have e0 : ix 1 = 1 := x_1
    rw [B113_0, S117, K2_i, B113_4, tI_t ⟨1, by decide, rfl⟩, if_neg (by decide), ck_of (by decide), e0, show 100 + 9 * 1 = 109 from rfl, a1, K2_v, B113_23, ck_of (by decide), e0, B5_0 k_81, K2_i, B113_37, o 81 (by decide), h.2.1.2.2.2.1 5 (by decide) (by decide)]
  · have hi := h.2.2.1
    cases o0 with
    | none => show uI I1 118 1 1 118 0 = 0; rw [uI_k _ _ _ _ _ (by decide), f1 118 (by decide)]; exact hi
    | some P1 => exact ⟨by rw [uI_k _ _ _ _ _ (by decide), f1 118 (by decide)]; exact hi.1, Rd_oth hi.2 (fun b q1 q2 => o b (by omega))⟩
theorem C_keepf {y : Int32} (hy : ¬ ∃ p, p < 2 ∧ y = nI p) : E 113 0 [some (.ref 1), some (.int y)] [] (GG L) I = some (some (.int (-2)), GG L, I) := by
  rw [B113_0, S117, K2_i, B113_4, tI_f hy, if_pos rfl]
theorem C_backf {y : Int32} (hy : ¬ ∃ p, p < 2 ∧ y = nI p) : E 114 0 [some (.ref 1), some (.int y)] [] (GG L) I = some (some (.int (-2)), GG L, I) := by
  rw [B114_0, S117, K2_i, B114_4, tI_f hy, if_pos rfl]
theorem C_back0 {P0 : Pc} (h : TT n g e Z P (some P0) o1 I) : ∃ I', E 114 0 [some (.ref 1), some (.int 0)] [] (GG L) I = some (some (.int (P0.2.1 5)), GG L, I') ∧ TT n g e Z P0 (some P0) o1 I' ∧ FN I I' ∧ ∀ a, a < 81 → I' a = I a := by
  obtain ⟨hk, hr⟩ := h.2.2.1
  obtain ⟨I1, a1, f1, h1⟩ := T_copy (L := L) (d := 81) (d' := 100) k_81 k_100 (by decide) hr
  refine ⟨I1, ?_, TT_D h f1 h1, FN_D f1 (by decide) (by decide), fun a ha => f1 a (by omega)⟩
  have e0 : ix 0 = 0 := x_0
  rw [B114_0, S117, K2_i, B114_4, tI_t ⟨0, by decide, rfl⟩, if_neg (by decide), ck_of (by decide), e0, if_neg (by rw [hk]; decide), ck_of (by decide), show 100 + 9 * 0 = 100 from rfl, a1, K2_v, B114_35, B5_0 k_81, K2_i, B114_42, h1.2.2.2.1 5 (by decide) (by decide)]
theorem C_back1 {P0 : Pc} (h : TT n g e Z P o0 (some P0) I) : ∃ I', E 114 0 [some (.ref 1), some (.int 1)] [] (GG L) I = some (some (.int (P0.2.1 5)), GG L, I') ∧ TT n g e Z P0 o0 (some P0) I' ∧ FN I I' ∧ ∀ a, a < 81 → I' a = I a := by
  obtain ⟨hk, hr⟩ := h.2.2.2
  obtain ⟨I1, a1, f1, h1⟩ := T_copy (L := L) (d := 81) (d' := 109) k_81 k_109 (by decide) hr
  refine ⟨I1, ?_, TT_D h f1 h1, FN_D f1 (by decide) (by decide), fun a ha => f1 a (by omega)⟩
  have e0 : ix 1 = 1 := x_1
  rw [B114_0, S117, K2_i, B114_4, tI_t ⟨1, by decide, rfl⟩, if_neg (by decide), ck_of (by decide), e0, if_neg (by rw [hk]; decide), ck_of (by decide), show 100 + 9 * 1 = 109 from rfl, a1, K2_v, B114_35, B5_0 k_81, K2_i, B114_42, h1.2.2.2.1 5 (by decide) (by decide)]
end CC
