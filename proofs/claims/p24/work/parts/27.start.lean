/-! ===== p24: the start ===== -/
def FD (d : Nat) (I I' : It) : Prop := ∀ a, a < d ∨ d + 8 < a → I' a = I a
theorem FD_rfl (d : Nat) (I : It) : FD d I I := fun _ _ => rfl
theorem FD_tr {d : Nat} {I1 I2 I3 : It} (h : FD d I1 I2) (h' : FD d I2 I3) : FD d I1 I3 := fun a ha => (h' a ha).trans (h a ha)
theorem FD_I {d : Nat} {I I' : It} (h : FI d I I') : FD d I I' := fun a ha => h a (by omega)
theorem FD_u {d o k : Nat} {x : Int32} {I : It} (h1 : d ≤ o) (h2 : o ≤ d + 8) : FD d I (uI I o k x) := fun a ha => uI_o _ _ _ _ _ (by omega)
theorem Ly_D {n d : Nat} {g e Z : Nat → Nat → Nat} {I I' : It} (h : Ly n g e Z I) (hd : 81 ≤ d) (f : FD d I I') : Ly n g e Z I' := Ly_congr h (fun a _ h2 => f a (by omega))
def rg (a b c x y : Int32) : Nat → Int32 := fun j => if j = 5 then a else if j = 6 then b else if j = 7 then c else if j = 8 then x else y
theorem Rd_oth {d : Nat} {I I' : It} {P : Pc} (h : Rd I d P) (hI : ∀ a, d ≤ a → a ≤ d + 6 → I' a = I a) : Rd I' d P := by
  obtain ⟨h3, h4, hok, hA, hC, hV⟩ := h
  have e0 := hI d (by omega) (by omega)
  refine ⟨by rw [e0]; exact h3, by rw [e0]; exact h4, hok, fun j h5 h10 => by rw [e0]; exact hA j h5 h10, fun p hp => ?_, fun k hk => ?_⟩
  · rw [hI (d + 1 + 2 * p) (by omega) (by omega), hI (d + 2 + 2 * p) (by omega) (by omega)]
    exact hC p hp
  · rw [hI (d + 5) (by omega) (by omega), hI (d + 6) (by omega) (by omega)]
    exact hV k hk
/-- a picture may be put in place of another that is the same where it counts -/
theorem Rd_eq {d : Nat} {I : It} {P P' : Pc} (h : Rd I d P) (h0 : P'.1 = P.1) (hA : ∀ j, 5 ≤ j → j < 10 → P'.2.1 j = P.2.1 j) (hW : ∀ p, p < 2 → P'.2.2.1 p = P.2.2.1 p ∧ P'.2.2.2.1 p = P.2.2.2.1 p) (hC : ∀ p k, p < 2 → k < 48 → P'.2.2.2.2.1 p k = P.2.2.2.2.1 p k) (hV : ∀ k, k < 10 → P'.2.2.2.2.2.1 k = P.2.2.2.2.2.1 k ∧ P'.2.2.2.2.2.2 k = P.2.2.2.2.2.2 k) : Rd I d P' := by
  obtain ⟨r3, r4, rok, rA, rC, rV⟩ := h
  refine ⟨by rw [h0]; exact r3, by rw [h0]; exact r4, by rw [h0]; exact rok, fun j h5 h10 => by rw [hA j h5 h10]; exact rA j h5 h10, fun p hp => ?_, fun k hk => ?_⟩
  · obtain ⟨e1, e2, e3⟩ := rC p hp
    rw [(hW p hp).1, (hW p hp).2]
    exact ⟨e1, e2, fun k hk => by rw [hC p k hp hk]; exact e3 k hk⟩
  · rw [(hV k hk).1, (hV k hk).2]; exact rV k hk
theorem Rd_reg {d k : Nat} {x : Int32} {I : It} {P : Pc} (h : Rd I d P) (h5 : 5 ≤ k) : Rd (uI I d k x) d (P.1, up P.2.1 k x, P.2.2) := by
  obtain ⟨r3, r4, rok, rA, rC, rV⟩ := h
  refine ⟨by rw [uI_k _ _ _ _ _ (by omega)]; exact r3, by rw [uI_k _ _ _ _ _ (by omega)]; exact r4, rok, fun j h5 h10 => ?_, fun p hp => ?_, fun k hk => ?_⟩
  · by_cases q : j = k
    · subst q; rw [uI_s]; exact (up_s _ _ _).symm
    · rw [uI_k _ _ _ _ _ q]; exact (rA j h5 h10).trans (up_k _ _ _ q).symm
  · rw [uI_o _ _ _ _ _ (by omega), uI_o _ _ _ _ _ (by omega)]; exact rC p hp
  · rw [uI_o _ _ _ _ _ (by omega), uI_o _ _ _ _ _ (by omega)]; exact rV k hk
theorem Rd_val {d a : Nat} {x y : Int32} {I : It} {P : Pc} (h : Rd I d P) : Rd (uI (uI I (d + 5) a x) (d + 6) a y) d (P.1, P.2.1, P.2.2.1, P.2.2.2.1, P.2.2.2.2.1, up P.2.2.2.2.2.1 a x, up P.2.2.2.2.2.2 a y) := by
  obtain ⟨r3, r4, rok, rA, rC, rV⟩ := h
  have o : ∀ q, q ≠ d + 5 → q ≠ d + 6 → uI (uI I (d + 5) a x) (d + 6) a y q = I q := fun q q5 q6 => by rw [uI_o _ _ _ _ _ q6, uI_o _ _ _ _ _ q5]
  refine ⟨by rw [o d (by omega) (by omega)]; exact r3, by rw [o d (by omega) (by omega)]; exact r4, rok, fun j h5 h10 => by rw [o d (by omega) (by omega)]; exact rA j h5 h10, fun p hp => ?_, fun k hk => ?_⟩
  · rw [o _ (by omega) (by omega), o _ (by omega) (by omega)]; exact rC p hp
  · obtain ⟨e1, e2⟩ := rV k hk
    by_cases q : k = a
    · subst q
      rw [uI_a _ _ _ _ _ _ (by omega), uI_s, uI_s]
      exact ⟨(up_s _ _ _).symm, (up_s _ _ _).symm⟩
    · rw [uI_a _ _ _ _ _ _ (by omega), uI_k _ _ _ _ _ q, uI_k _ _ _ _ _ q, uI_a _ _ _ _ _ _ (by omega)]
      exact ⟨e1.trans (up_k _ _ _ q).symm, e2.trans (up_k _ _ _ q).symm⟩
theorem Rd_pw {d : Nat} {I : It} {P : Pc} (w : Pw) (hw : okw w) (h : Rd I d P) : Rd (uI (uI I d 3 (pwA w)) d 4 (pwB w)) d (w, P.2) := by
  obtain ⟨r3, r4, rok, rA, rC, rV⟩ := h
  refine ⟨by rw [uI_k _ _ _ _ _ (by decide), uI_s], by rw [uI_s], hw, fun j h5 h10 => by rw [uI_k _ _ _ _ _ (by omega), uI_k _ _ _ _ _ (by omega)]; exact rA j h5 h10, fun p hp => ?_, fun k hk => ?_⟩
  · rw [uI_o _ _ _ _ _ (by omega), uI_o _ _ _ _ _ (by omega), uI_o _ _ _ _ _ (by omega), uI_o _ _ _ _ _ (by omega)]; exact rC p hp
  · rw [uI_o _ _ _ _ _ (by omega), uI_o _ _ _ _ _ (by omega), uI_o _ _ _ _ _ (by omega), uI_o _ _ _ _ _ (by omega)]; exact rV k hk
theorem Rd_cells {d p : Nat} {I : It} {P : Pc} (h : Rd I d P) (hp : p < 2) {k : Nat} (hk : k < 48) : I (d + 1 + 2 * p + 1) k = P.2.2.2.2.1 p k := by
  have := (h.2.2.2.2.1 p hp).2.2 k hk
  rwa [show d + 2 + 2 * p = d + 1 + 2 * p + 1 by omega] at this
theorem Hdx_congr {n : Nat} {f f' : Nat → Int32} (h : ∀ k, k < 48 → f k = f' k) : Hdx n f ↔ Hdx n f' := by
  unfold Hdx
  rw [h 0 (by decide), h 1 (by decide), h 2 (by decide)]
theorem Gdx_congr {g : Nat → Nat → Nat} {v i : Nat} {f f' : Nat → Int32} (h : ∀ k, i ≤ k → k < i + 3 → f k = f' k) : Gdx g v f i ↔ Gdx g v f' i := by
  unfold Gdx
  rw [h i (by omega) (by omega), h (i + 1) (by omega) (by omega), h (i + 2) (by omega) (by omega)]
/-- which page is the active one -/
noncomputable def actI (n : Nat) (f0 f1 : Nat → Int32) : Int32 :=
  @ite _ (Hdx n f0) (Classical.propDecidable _) (@ite _ (Hdx n f1) (Classical.propDecidable _) (if 1 ≤ fmd (f1 1 - f0 1) ∧ fmd (f1 1 - f0 1) ≤ 100 then 1 else 0) 0) (@ite _ (Hdx n f1) (Classical.propDecidable _) 1 (-6))
theorem T_act {L : Nat × Nat} {n d : Nat} {g e Z : Nat → Nat → Nat} {I : It} {P : Pc} (hR : Ly n g e Z I) (hd : kd (GG L) d = 0) (h : Rd I d P) : E 18 0 [some (.ref d), none, none, none] [] (GG L) I = some (some (.int (actI n (P.2.2.2.2.1 0) (P.2.2.2.2.1 1))), GG L, I) := by
  have k1 : kd (GG L) (d + 1) = 4 := k_pg (p := 0) hd (by decide)
  have k3 : kd (GG L) (d + 3) = 4 := k_pg (p := 1) hd (by decide)
  have q0 : ∀ k, k < 48 → I (d + 1 + 1) k = P.2.2.2.2.1 0 k := fun k hk => Rd_cells (p := 0) h (by decide) hk
  have q1 : ∀ k, k < 48 → I (d + 3 + 1) k = P.2.2.2.2.1 1 k := fun k hk => Rd_cells (p := 1) h (by decide) hk
  have a0 := S77 (L := L) (o := d + 1) hR k1
  have a1 := S77 (L := L) (o := d + 3) hR k3
  rw [tI_iff (Hdx_congr q0)] at a0
  rw [tI_iff (Hdx_congr q1)] at a1
  rw [B18_0 hd, a0, K2_i, B18_11 hd, a1, K2_i, B18_23 hd]
  unfold actI
  by_cases h0 : Hdx n (P.2.2.2.2.1 0)
  · rw [if_pos h0, tI_t h0, if_neg (by decide)]
    by_cases h1 : Hdx n (P.2.2.2.2.1 1)
    · rw [if_pos h1, tI_t h1, if_neg (by decide), S76 k3, K2_i, B18_39 hd, S76 k1, K2_i, B18_46, q0 1 (by decide), q1 1 (by decide), S120, K2_i, B18_53 rfl]
      obtain ⟨y, hy⟩ : ∃ y, fmd (P.2.2.2.2.1 1 1 - P.2.2.2.2.1 0 1) = y := ⟨_, rfl⟩
      rw [hy]
      by_cases z1 : y < 1
      · rw [if_pos z1, if_neg (fun z => Int32.not_le.mpr z1 z.1)]
      · rw [if_neg z1]
        by_cases z2 : 100 < y
        · rw [if_pos z2, if_neg (fun z => Int32.not_le.mpr z2 z.2)]
        · rw [if_neg z2, if_pos ⟨Int32.not_lt.mp z1, Int32.not_lt.mp z2⟩]
    · rw [if_neg h1, tI_f h1, if_pos rfl, B18_71, if_pos rfl, if_neg (by decide)]
  · rw [if_neg h0, tI_f h0, if_pos rfl]
    by_cases h1 : Hdx n (P.2.2.2.2.1 1)
    · rw [if_pos h1, tI_t h1, B18_71, if_neg (by decide)]
    · rw [if_neg h1, tI_f h1, B18_71, if_pos rfl, if_pos rfl]
theorem actI_p {n : Nat} {f0 f1 : Nat → Int32} (h : actI n f0 f1 ≠ -6) : ∃ p, p < 2 ∧ actI n f0 f1 = nI p ∧ Hdx n (if p = 0 then f0 else f1) := by
  unfold actI at h ⊢
  by_cases h0 : Hdx n f0
  · rw [if_pos h0]
    by_cases h1 : Hdx n f1
    · rw [if_pos h1]
      by_cases z : 1 ≤ fmd (f1 1 - f0 1) ∧ fmd (f1 1 - f0 1) ≤ 100
      · rw [if_pos z]; exact ⟨1, by decide, rfl, h1⟩
      · rw [if_neg z]; exact ⟨0, by decide, rfl, h0⟩
    · rw [if_neg h1]; exact ⟨0, by decide, rfl, h0⟩
  · rw [if_neg h0] at h ⊢
    by_cases h1 : Hdx n f1
    · rw [if_pos h1]; exact ⟨1, by decide, rfl, h1⟩
    · rw [if_neg h1] at h; exact absurd rfl h
theorem S10 {L : Nat × Nat} {n d v : Nat} {g e Z : Nat → Nat → Nat} {I : It} (hR : Ly n g e Z I) (hd : kd (GG L) d = 0) (hv : v < n) (h : I d 6 = nI v) : E 10 0 [some (.ref d)] [] (GG L) I = some (some (.ref (21 + 10 * v)), GG L, I) := by
  have hn := hR.1
  rw [B10_0 hd, h, S46 hR hv, K2_i, B10_11 (k_lay (by omega))]
theorem S10n {L : Nat × Nat} {n d : Nat} {g e Z : Nat → Nat → Nat} {I : It} (hR : Ly n g e Z I) (hd : kd (GG L) d = 0) (h : I d 6 = -6) : E 10 0 [some (.ref d)] [] (GG L) I = some (some (.ref 10), GG L, I) := by
  have hn := hR.1
  rw [B10_0 hd, h, S46n hR (fun v hv e => nI_pos (show v < 2 ^ 31 by omega) (e ▸ by decide)), K2_i, B10_11 k_emp]
/-- the defaults taken -/
theorem S19 {L : Nat × Nat} {d o : Nat} (hd : kd (GG L) d = 0) (hd81 : 81 ≤ d) (ho : kd (GG L) o = 1) (ho81 : o + 3 < 81) : ∀ (m k : Nat) (I : It), m + k = 10 →
    (∀ I' : It, (∀ a, a < 81 → I' a = I a) → I' d 6 = I d 6 → E 10 0 [some (.ref d)] [] (GG L) I' = some (some (.ref o), GG L, I')) →
    ∃ I', E 19 2 [some (.ref d), some (.int (nI k))] [] (GG L) I = some (none, GG L, I') ∧ (∀ a, a ≠ d + 5 → a ≠ d + 6 → I' a = I a) ∧ (∀ j, j < 10 → I' (d + 5) j = if k ≤ j then (if I (o + 1) j = 0 then -6 else I (o + 3) j) else I (d + 5) j) ∧ (∀ j, j < 10 → I' (d + 6) j = if k ≤ j then -6 else I (d + 6) j) := by
  have hd5 : kd (GG L) (d + 5) = 50 := wk_0_10 hd
  have ld5 : ln (GG L) (d + 5) = 10 := wl_0_10 hd
  intro m
  induction m with
  | zero =>
    intro k I hm hp
    have hk : k = 10 := by omega
    subst hk
    refine ⟨I, ?_, fun _ _ _ => rfl, fun j hj => by rw [if_neg (by omega)], fun j hj => by rw [if_neg (by omega)]⟩
    rw [B19_2 hd, if_pos (by decide)]
  | succ m ih =>
    intro k I hm hp
    obtain ⟨x, hx⟩ : ∃ x, (if I (o + 1) k = 0 then (-6 : Int32) else I (o + 3) k) = x := ⟨_, rfl⟩
    obtain ⟨I1, hI1⟩ : ∃ I1, uI (uI I (d + 5) k x) (d + 6) k (-6) = I1 := ⟨_, rfl⟩
    have hlow : ∀ a, a ≠ d + 5 → a ≠ d + 6 → I1 a = I a := fun a h5 h6 => by rw [← hI1, uI_o _ _ _ _ _ h6, uI_o _ _ _ _ _ h5]
    obtain ⟨I', e, h1, h2, h3⟩ := ih (k + 1) I1 (by omega) (fun I' h6 h7 => hp I' (fun a ha => (h6 a ha).trans (hlow a (by omega) (by omega))) (h7.trans (by rw [hlow d (by omega) (by omega)])))
    refine ⟨I', ?_, fun a q5 q6 => (h1 a q5 q6).trans (hlow a q5 q6), fun j hj => ?_, fun j hj => ?_⟩
    · rw [B19_2 hd, if_neg (show ¬ (10 : Int32) ≤ nI k from nI_ge (a := k) (b := 10) (show k < 10 by omega) (by decide)), hp I (fun _ _ => rfl) rfl, K2_i, B19_17 hd hd5 ld5 ho, S34 ho (by omega), K2_i, B19_21 hd hd5 ld5, ck_of (inb_nI (by omega) (by decide)), ck_of (inb_nI (by omega) (by decide)), ix_nI (by omega), nI_1, hx, hI1, e]
    · rw [h2 j hj, hlow (o + 1) (by omega) (by omega), hlow (o + 3) (by omega) (by omega), ← hI1]
      by_cases q : k + 1 ≤ j
      · rw [if_pos q, if_pos (show k ≤ j by omega)]
      · rw [if_neg q, uI_a _ _ _ _ _ _ (by omega)]
        by_cases q2 : j = k
        · rw [q2, uI_s, if_pos (Nat.le_refl _), hx]
        · rw [uI_k _ _ _ _ _ q2, if_neg (by omega)]
    · rw [h3 j hj, ← hI1]
      by_cases q : k + 1 ≤ j
      · rw [if_pos q, if_pos (show k ≤ j by omega)]
      · rw [if_neg q]
        by_cases q2 : j = k
        · rw [q2, uI_s, if_pos (Nat.le_refl _)]
        · rw [uI_k _ _ _ _ _ q2, uI_a _ _ _ _ _ _ (by omega), if_neg (by omega)]
/-- the defaults of a version; of none -/
def dfV (e : Nat → Nat → Nat) (v : Nat) : Nat → Int32 := fun k => if k < 3 then nI (e v k) else -6
def m6F : Nat → Int32 := fun _ => -6
theorem T_defaults {L : Nat × Nat} {n d v : Nat} {g e Z : Nat → Nat → Nat} {I : It} {P : Pc} (hR : Ly n g e Z I) (hd : kd (GG L) d = 0) (hd81 : 81 ≤ d) (hv : v < n) (hv3 : v < 3) (h : Rd I d P) (h6 : P.2.1 6 = nI v) :
    ∃ I', E 19 0 [some (.ref d), none] [] (GG L) I = some (none, GG L, I') ∧ FD d I I' ∧ Rd I' d (P.1, P.2.1, P.2.2.1, P.2.2.2.1, P.2.2.2.2.1, dfV e v, m6F) := by
  have hn := hR.1
  obtain ⟨r3, r4, rok, rA, rC, rV⟩ := h
  have i6 : I d 6 = nI v := (rA 6 (by decide) (by decide)).trans h6
  obtain ⟨I5, e5, h1, h2, h3⟩ := S19 (L := L) (o := 21 + 10 * v) hd hd81 (k_lay (by omega)) (by omega) 10 0 I rfl (fun I' q q' => S10 (Ly_congr hR (fun a _ ha => q a ha)) hd hv (q'.trans i6))
  have o : ∀ a, a ≠ d + 5 → a ≠ d + 6 → I5 a = I a := h1
  have hl := hR.2.2.2 v hv hv3
  refine ⟨I5, (B19_0 hd).trans e5, fun a ha => o a (by omega) (by omega), ⟨by rw [o d (by omega) (by omega)]; exact r3, by rw [o d (by omega) (by omega)]; exact r4, rok, fun j h5 h10 => by rw [o d (by omega) (by omega)]; exact rA j h5 h10, fun p hp => ?_, fun k hk => ?_⟩⟩
  · rw [o _ (by omega) (by omega), o _ (by omega) (by omega)]; exact rC p hp
  · rw [h2 k hk, h3 k hk, if_pos (Nat.zero_le _), if_pos (Nat.zero_le _), show 21 + 10 * v + 1 = 22 + 10 * v by omega, show 21 + 10 * v + 3 = 24 + 10 * v by omega, hl.1 k hk]
    refine ⟨?_, rfl⟩
    show _ = dfV e v k
    unfold dfV
    by_cases q : k < 3
    · rw [if_neg (ite01.mpr q), if_pos q, (hl.2.1 k q).2.1]
    · rw [if_pos (by rw [if_neg q]), if_neg q]
theorem T_defaultsN {L : Nat × Nat} {n d : Nat} {g e Z : Nat → Nat → Nat} {I : It} {P : Pc} (hR : Ly n g e Z I) (hd : kd (GG L) d = 0) (hd81 : 81 ≤ d) (h : Rd I d P) (h6 : P.2.1 6 = -6) :
    ∃ I', E 19 0 [some (.ref d), none] [] (GG L) I = some (none, GG L, I') ∧ FD d I I' ∧ Rd I' d (P.1, P.2.1, P.2.2.1, P.2.2.2.1, P.2.2.2.2.1, m6F, m6F) := by
  obtain ⟨r3, r4, rok, rA, rC, rV⟩ := h
  have i6 : I d 6 = -6 := (rA 6 (by decide) (by decide)).trans h6
  obtain ⟨I5, e5, h1, h2, h3⟩ := S19 (L := L) (o := 10) hd hd81 k_emp (by decide) 10 0 I rfl (fun I' q q' => S10n (Ly_congr hR (fun a _ ha => q a ha)) hd (q'.trans i6))
  have o : ∀ a, a ≠ d + 5 → a ≠ d + 6 → I5 a = I a := h1
  refine ⟨I5, (B19_0 hd).trans e5, fun a ha => o a (by omega) (by omega), ⟨by rw [o d (by omega) (by omega)]; exact r3, by rw [o d (by omega) (by omega)]; exact r4, rok, fun j h5 h10 => by rw [o d (by omega) (by omega)]; exact rA j h5 h10, fun p hp => ?_, fun k hk => ?_⟩⟩
  · rw [o _ (by omega) (by omega), o _ (by omega) (by omega)]; exact rC p hp
  · rw [h2 k hk, h3 k hk, if_pos (Nat.zero_le _), if_pos (Nat.zero_le _), show 10 + 1 = 11 from rfl, hR.2.2.1 k hk, if_pos rfl]
    exact ⟨rfl, rfl⟩
/-- the records of a page, read one after the other: values, places, how many bad ones -/
noncomputable def rdf (g e : Nat → Nat → Nat) (v : Nat) (f : Nat → Int32) : Nat → (Nat → Int32) × (Nat → Int32) × Int32
  | 0 => (dfV e v, m6F, 0)
  | j + 1 => @ite _ (Gdx g v f (3 + 3 * j)) (Classical.propDecidable _) (up (rdf g e v f j).1 (ix (f (3 + 3 * j) - 1)) (f (3 + 3 * j + 1)), up (rdf g e v f j).2.1 (ix (f (3 + 3 * j) - 1)) (nI (3 + 3 * j)), (rdf g e v f j).2.2) ((rdf g e v f j).1, (rdf g e v f j).2.1, (rdf g e v f j).2.2 + 1)
theorem rdf_g {g e : Nat → Nat → Nat} {v j a b : Nat} {f : Nat → Int32} (ha : a < 3) (hg : Gdx g v f (3 + 3 * j)) (h0 : f (3 + 3 * j) = nI (a + 1)) (h1 : f (3 + 3 * j + 1) = nI b) : rdf g e v f (j + 1) = (up (rdf g e v f j).1 a (nI b), up (rdf g e v f j).2.1 a (nI (3 + 3 * j)), (rdf g e v f j).2.2) := by
  have e0 : ix (f (3 + 3 * j) - 1) = a := by rw [h0, nI_pred, ix_nI (by omega)]
  rw [show rdf g e v f (j + 1) = _ from if_pos hg, e0, h1]
theorem rdf_b {g e : Nat → Nat → Nat} {v j : Nat} {f : Nat → Int32} (hg : ¬ Gdx g v f (3 + 3 * j)) : rdf g e v f (j + 1) = ((rdf g e v f j).1, (rdf g e v f j).2.1, (rdf g e v f j).2.2 + 1) := if_neg hg
/-- how many records there are -/
def nrg (f : Nat → Int32) : Nat → Nat → Nat
  | 0, j => j
  | m + 1, j => if f (3 + 3 * j) = -6 then j else nrg f m (j + 1)
def nr (f : Nat → Int32) : Nat := nrg f 15 0
theorem nrg_spec (f : Nat → Int32) : ∀ (m j : Nat), j ≤ nrg f m j ∧ nrg f m j ≤ j + m ∧ (∀ i, j ≤ i → i < nrg f m j → f (3 + 3 * i) ≠ -6) ∧ (nrg f m j = j + m ∨ f (3 + 3 * nrg f m j) = -6) := by
  intro m
  induction m with
  | zero => intro j; exact ⟨Nat.le_refl _, Nat.le_refl _, fun i h1 h2 => absurd h2 (Nat.not_lt.mpr h1), Or.inl rfl⟩
  | succ m ih =>
    intro j
    unfold nrg
    by_cases h : f (3 + 3 * j) = -6
    · rw [if_pos h]
      exact ⟨Nat.le_refl _, by omega, fun i h1 h2 => by omega, Or.inr h⟩
    · rw [if_neg h]
      obtain ⟨a1, a2, a3, a4⟩ := ih (j + 1)
      refine ⟨by omega, by omega, fun i h1 h2 => ?_, ?_⟩
      · by_cases q : i = j
        · rw [q]; exact h
        · exact a3 i (by omega) h2
      · rcases a4 with a4 | a4
        · exact Or.inl (by omega)
        · exact Or.inr a4
theorem nr_spec (f : Nat → Int32) : nr f ≤ 15 ∧ (∀ i, i < nr f → f (3 + 3 * i) ≠ -6) ∧ (nr f = 15 ∨ f (3 + 3 * nr f) = -6) := by
  obtain ⟨-, a2, a3, a4⟩ := nrg_spec f 15 0
  exact ⟨a2, fun i hi => a3 i (Nat.zero_le _) hi, a4⟩
theorem nr_is {f : Nat → Int32} {r : Nat} (h0 : r ≤ 15) (h1 : ∀ i, i < r → f (3 + 3 * i) ≠ -6) (h2 : r = 15 ∨ f (3 + 3 * r) = -6) : nr f = r := by
  obtain ⟨a1, a2, a3⟩ := nr_spec f
  rcases Nat.lt_trichotomy (nr f) r with h | h | h
  · rcases a3 with a3 | a3
    · omega
    · exact absurd a3 (h1 _ h)
  · exact h
  · rcases h2 with h2 | h2
    · omega
    · exact absurd h2 (a2 _ h)
/-- the records read -/
theorem R_all {L : Nat × Nat} {n d p v r : Nat} {g e Z : Nat → Nat → Nat} {w : Pw} {W X : Nat → Int32} {C : Nat → Nat → Int32} (hd : kd (GG L) d = 0) (hd81 : 81 ≤ d) (hp : p < 2) (hv : v < n) (hv3 : v < 3) (hr : nr (C p) = r) : ∀ (m j : Nat) {I : It} {A V Q : Nat → Int32} {u3 : Option Value}, m + j = r → Ly n g e Z I → Rd I d (w, A, W, X, C, V, Q) → A 6 = nI v → (V, Q, A 9) = rdf g e v (C p) j →
    ∃ I', E 20 2 [some (.ref d), some (.ref (d + 1 + 2 * p)), some (.int (nI (3 + 3 * j))), u3] [] (GG L) I = some (none, GG L, I') ∧ FD d I I' ∧ Rd I' d (w, up (up A 9 (rdf g e v (C p) r).2.2) 8 (nI (3 + 3 * r)), W, X, C, (rdf g e v (C p) r).1, (rdf g e v (C p) r).2.1) := by
  have hdp := k_pg (L := L) hd hp
  have hd5 : kd (GG L) (d + 5) = 50 := wk_0_10 hd
  have ld5 : ln (GG L) (d + 5) = 10 := wl_0_10 hd
  obtain ⟨hr15, hr1, hr2⟩ := nr_spec (C p)
  rw [hr] at hr15 hr1 hr2
  intro m
  induction m with
  | zero =>
    intro j I A V Q u3 hm hR hRd h6 hQ
    have hj : j = r := by omega
    subst hj
    have e1 : V = (rdf g e v (C p) j).1 := congrArg (·.1) hQ
    have e2 : Q = (rdf g e v (C p) j).2.1 := congrArg (·.2.1) hQ
    have e3 : A 9 = (rdf g e v (C p) j).2.2 := congrArg (·.2.2) hQ
    refine ⟨uI I d 8 (nI (3 + 3 * j)), ?_, FD_u (by omega) (by omega), ?_⟩
    · rcases hr2 with q | q
      · subst q
        rw [B20_2 hd hdp, if_pos (by decide)]
      · by_cases q15 : j = 15
        · subst q15
          rw [B20_2 hd hdp, if_pos (by decide)]
        · rw [B20_2 hd hdp, if_neg (show ¬ (48 : Int32) ≤ nI (3 + 3 * j) from nI_ge (a := 3 + 3 * j) (b := 48) (by omega) (by decide)), S78 hdp (by omega) (by omega), Rd_cells hRd hp (by omega), tI_f (fun z => z q), K2_i, B20_13 hd hdp, if_pos rfl]
    · have := Rd_reg (k := 8) (x := nI (3 + 3 * j)) hRd (by decide)
      rw [← e1, ← e2, ← e3, up_self]
      exact this
  | succ m ih =>
    intro j I A V Q u3 hm hR hRd h6 hQ
    have e1 : V = (rdf g e v (C p) j).1 := congrArg (·.1) hQ
    have e2 : Q = (rdf g e v (C p) j).2.1 := congrArg (·.2.1) hQ
    have e3 : A 9 = (rdf g e v (C p) j).2.2 := congrArg (·.2.2) hQ
    have hn := hR.1
    have hl := hR.2.2.2 v hv hv3
    have i6 : I d 6 = nI v := (hRd.2.2.2.1 6 (by decide) (by decide)).trans h6
    have i9 : I d 9 = A 9 := hRd.2.2.2.1 9 (by decide) (by decide)
    have hc : ∀ k, k < 48 → I (d + 1 + 2 * p + 1) k = C p k := fun k hk => Rd_cells hRd hp hk
    have b0 := B20_2 (L := L) (o0 := d) (o1 := d + 1 + 2 * p) (x2 := nI (3 + 3 * j)) (u3 := u3) (I := I) hd hdp
    rw [if_neg (show ¬ (48 : Int32) ≤ nI (3 + 3 * j) from nI_ge (a := 3 + 3 * j) (b := 48) (by omega) (by decide)), S78 hdp (by omega) (by omega), hc _ (by omega), tI_t (hr1 j (by omega)), K2_i, B20_13 hd hdp, if_neg (by decide), S80 hdp (by omega), hc _ (by omega), K2_i, B20_21 hd hdp, S119, K2_i, B20_26 hd hdp, show nI (3 + 3 * j) + 3 = nI (3 + 3 * (j + 1)) from nI_add _ 3, i9] at b0
    have bad : ¬ Gdx g v (C p) (3 + 3 * j) → (∃ u, E 20 2 [some (.ref d), some (.ref (d + 1 + 2 * p)), some (.int (nI (3 + 3 * j))), u3] [] (GG L) I = E 20 2 [some (.ref d), some (.ref (d + 1 + 2 * p)), some (.int (nI (3 + 3 * (j + 1)))), u] [] (GG L) (uI I d 9 (A 9 + 1))) → ∃ I', E 20 2 [some (.ref d), some (.ref (d + 1 + 2 * p)), some (.int (nI (3 + 3 * j))), u3] [] (GG L) I = some (none, GG L, I') ∧ FD d I I' ∧ Rd I' d (w, up (up A 9 (rdf g e v (C p) r).2.2) 8 (nI (3 + 3 * r)), W, X, C, (rdf g e v (C p) r).1, (rdf g e v (C p) r).2.1) := by
      intro hb ⟨u, hu⟩
      have f1 : FD d I (uI I d 9 (A 9 + 1)) := FD_u (by omega) (by omega)
      obtain ⟨I', a1, a2, a3⟩ := ih (j + 1) (I := uI I d 9 (A 9 + 1)) (A := up A 9 (A 9 + 1)) (V := V) (Q := Q) (u3 := u) (by omega) (Ly_D hR hd81 f1) (Rd_reg (k := 9) hRd (by decide)) ((up_k _ _ _ (by decide)).trans h6) (by rw [rdf_b hb, ← e1, ← e2, ← e3, up_s])
      rw [up_up] at a3
      exact ⟨I', hu.trans a1, FD_tr f1 a2, a3⟩
    by_cases hnm : ∃ k, k < 10 ∧ C p (3 + 3 * j) - 1 = nI k
    · rw [tI_t hnm, if_neg (by decide), S10 hR hd hv i6, K2_i, B20_35 hd hdp hdp (k_lay (by omega)), i6] at b0
      have s79 := S79 (L := L) (o := d + 1 + 2 * p) (i := 3 + 3 * j) hl (by omega) hdp (by omega)
      rw [tI_iff (Gdx_congr (fun k _ hk => hc k (by omega)))] at s79
      rw [s79, K2_i, B20_42 hd hdp, i9, show nI (3 + 3 * j) + 3 = nI (3 + 3 * (j + 1)) from nI_add _ 3] at b0
      by_cases hg : Gdx g v (C p) (3 + 3 * j)
      · obtain ⟨a, b, ha, hb, w0, w1, w2⟩ := id hg
        have hsub : C p (3 + 3 * j) - 1 = nI a := sub_1.mpr w0
        rw [tI_t hg, if_neg (by decide), nI_1, S71 hdp (by omega), hc _ (by omega), K2_i, hsub, B20_57 hd hdp hd5 ld5, ck_of (inb_nI (by omega) (by decide)), ck_of (inb_nI (by omega) (by decide)), ix_nI (by omega), show nI (3 + 3 * j) + 3 = nI (3 + 3 * (j + 1)) from nI_add _ 3, w1] at b0
        have f1 : FD d I (uI (uI I (d + 5) a (nI b)) (d + 6) a (nI (3 + 3 * j))) := FD_tr (FD_u (by omega) (by omega)) (FD_u (by omega) (by omega))
        obtain ⟨I', a1, a2, a3⟩ := ih (j + 1) (A := A) (V := up V a (nI b)) (Q := up Q a (nI (3 + 3 * j))) (u3 := some (.int (nI a))) (by omega) (Ly_D hR hd81 f1) (Rd_val hRd) h6 (by rw [rdf_g ha hg w0 w1, ← e1, ← e2, ← e3])
        exact ⟨I', b0.trans a1, FD_tr f1 a2, a3⟩
      · rw [tI_f hg, if_pos rfl] at b0
        exact bad hg ⟨_, b0⟩
    · rw [tI_f hnm, if_pos rfl] at b0
      exact bad (fun ⟨a, b, ha, hb, w0, _⟩ => hnm ⟨a, by omega, sub_1.mpr w0⟩) ⟨_, b0⟩
theorem S9 {L : Nat × Nat} {d p : Nat} {I : It} (hd : kd (GG L) d = 0) (hp : p < 2) : E 9 0 [some (.ref d), some (.int (nI p))] [] (GG L) I = some (some (.ref (d + 1 + 2 * p)), GG L, I) := by
  rw [B9_0 hd]
  have : p = 0 ∨ p = 1 := by omega
  rcases this with rfl | rfl
  · rw [if_neg (by decide)]
  · rw [if_pos (by decide)]
/-- what a start makes of a device -/
noncomputable def rst (n : Nat) (g e : Nat → Nat → Nat) (P : Pc) : Pc :=
  if actI n (P.2.2.2.2.1 0) (P.2.2.2.2.1 1) = -6 then (some none, rg (-6) (-6) (-6) 48 0, P.2.2.1, P.2.2.2.1, P.2.2.2.2.1, m6F, m6F)
  else (some none, rg (actI n (P.2.2.2.2.1 0) (P.2.2.2.2.1 1)) (P.2.2.2.2.1 (ix (actI n (P.2.2.2.2.1 0) (P.2.2.2.2.1 1))) 0 - 200) (P.2.2.2.2.1 (ix (actI n (P.2.2.2.2.1 0) (P.2.2.2.2.1 1))) 1) (nI (3 + 3 * nr (P.2.2.2.2.1 (ix (actI n (P.2.2.2.2.1 0) (P.2.2.2.2.1 1)))))) (rdf g e (ix (P.2.2.2.2.1 (ix (actI n (P.2.2.2.2.1 0) (P.2.2.2.2.1 1))) 0 - 200)) (P.2.2.2.2.1 (ix (actI n (P.2.2.2.2.1 0) (P.2.2.2.2.1 1)))) (nr (P.2.2.2.2.1 (ix (actI n (P.2.2.2.2.1 0) (P.2.2.2.2.1 1)))))).2.2,
    P.2.2.1, P.2.2.2.1, P.2.2.2.2.1, (rdf g e (ix (P.2.2.2.2.1 (ix (actI n (P.2.2.2.2.1 0) (P.2.2.2.2.1 1))) 0 - 200)) (P.2.2.2.2.1 (ix (actI n (P.2.2.2.2.1 0) (P.2.2.2.2.1 1)))) (nr (P.2.2.2.2.1 (ix (actI n (P.2.2.2.2.1 0) (P.2.2.2.2.1 1)))))).1, (rdf g e (ix (P.2.2.2.2.1 (ix (actI n (P.2.2.2.2.1 0) (P.2.2.2.2.1 1))) 0 - 200)) (P.2.2.2.2.1 (ix (actI n (P.2.2.2.2.1 0) (P.2.2.2.2.1 1)))) (nr (P.2.2.2.2.1 (ix (actI n (P.2.2.2.2.1 0) (P.2.2.2.2.1 1)))))).2.1)
theorem rst_n {n : Nat} {g e : Nat → Nat → Nat} {w : Pw} {A W X V Q : Nat → Int32} {C : Nat → Nat → Int32} (h : actI n (C 0) (C 1) = -6) : rst n g e (w, A, W, X, C, V, Q) = (some none, rg (-6) (-6) (-6) 48 0, W, X, C, m6F, m6F) := if_pos h
theorem rst_p {n p v : Nat} {g e : Nat → Nat → Nat} {w : Pw} {A W X V Q : Nat → Int32} {C : Nat → Nat → Int32} (hp : p < 2) (h : actI n (C 0) (C 1) = nI p) (hv : v < 3) (h0 : C p 0 = nI (200 + v)) : rst n g e (w, A, W, X, C, V, Q) = (some none, rg (nI p) (nI v) (C p 1) (nI (3 + 3 * nr (C p))) (rdf g e v (C p) (nr (C p))).2.2, W, X, C, (rdf g e v (C p) (nr (C p))).1, (rdf g e v (C p) (nr (C p))).2.1) := by
  have e0 : actI n (C 0) (C 1) ≠ -6 := by rw [h]; exact nI_m6 (by omega)
  unfold rst
  simp only [if_neg e0, h, ix_nI (show p < 2 ^ 31 by omega), h0, show nI (200 + v) - 200 = nI v from sub_200.mpr rfl, ix_nI (show v < 2 ^ 31 by omega)]
  exact if_neg (nI_m6 (by omega))
/-- every page with a good head is of a version below 3 -/
def okv (n : Nat) (P : Pc) : Prop := ∀ p, p < 2 → Hdx n (P.2.2.2.2.1 p) → ∃ v, v < 3 ∧ P.2.2.2.2.1 p 0 = nI (200 + v)
theorem T_start {L : Nat × Nat} {n d : Nat} {g e Z : Nat → Nat → Nat} {I : It} {P : Pc} (hR : Ly n g e Z I) (hd : kd (GG L) d = 0) (hd81 : 81 ≤ d) (h : Rd I d P) (hP : okv n P) :
    ∃ I', E 17 0 [some (.ref d)] [] (GG L) I = some (none, GG L, I') ∧ FD d I I' ∧ Rd I' d (rst n g e P) := by
  obtain ⟨w, A, W, X, C, V, Q⟩ := P
  have hn := hR.1
  have h1 : Rd (uI (uI I d 3 1) d 4 (-6)) d (some none, A, W, X, C, V, Q) := Rd_pw (some none) trivial h
  obtain ⟨I1, hI1⟩ : ∃ I1, uI (uI I d 3 1) d 4 (-6) = I1 := ⟨_, rfl⟩
  have f1 : FD d I I1 := hI1 ▸ FD_tr (FD_u (by omega) (by omega)) (FD_u (by omega) (by omega))
  rw [hI1] at h1
  have hR1 := Ly_D hR hd81 f1
  have a1 : E 18 0 [some (.ref d), none, none, none] [] (GG L) I1 = some (some (.int (actI n (C 0) (C 1))), GG L, I1) := T_act hR1 hd h1
  have b0 := B17_0 (L := L) (o0 := d) (I := I) hd
  rw [hI1, a1, K2_i, B17_16 hd hd, uI_s] at b0
  by_cases hr : actI n (C 0) (C 1) = -6
  · -- no active page
    rw [hr, if_pos rfl, B17_45 hd hd, uI_k _ _ _ _ _ (show 5 ≠ 6 by decide), uI_s, if_pos rfl, B17_74 hd hd] at b0
    obtain ⟨I4, hI4⟩ : ∃ I4, uI (uI (uI I1 d 5 (-6)) d 6 (-6)) d 7 (-6) = I4 := ⟨_, rfl⟩
    have h4 : Rd I4 d (some none, up (up (up A 5 (-6)) 6 (-6)) 7 (-6), W, X, C, V, Q) := hI4 ▸ Rd_reg (k := 7) (Rd_reg (k := 6) (Rd_reg (k := 5) h1 (by decide)) (by decide)) (by decide)
    have f4 : FD d I I4 := FD_tr f1 (hI4 ▸ FD_tr (FD_tr (FD_u (by omega) (by omega)) (FD_u (by omega) (by omega))) (FD_u (by omega) (by omega)))
    obtain ⟨I5, e5, f5, h5⟩ := T_defaultsN (Ly_D hR hd81 f4) hd hd81 h4 (by simp [up])
    have i55 : I5 d 5 = -6 := (h5.2.2.2.1 5 (by decide) (by decide)).trans (by simp [up])
    rw [hI4, e5, K2_v, B17_81 hd, uI_k _ _ _ _ _ (show 5 ≠ 9 by decide), i55, if_pos rfl, B17_116] at b0
    refine ⟨_, b0, FD_tr (FD_tr f4 f5) (FD_tr (FD_u (by omega) (by omega)) (FD_u (by omega) (by omega))), ?_⟩
    rw [rst_n hr]
    refine Rd_eq (Rd_reg (k := 8) (x := 48) (Rd_reg (k := 9) (x := 0) h5 (by decide)) (by decide)) rfl (fun j q5 q10 => ?_) (fun _ _ => ⟨rfl, rfl⟩) (fun _ _ _ _ => rfl) (fun _ _ => ⟨rfl, rfl⟩)
    have : j = 5 ∨ j = 6 ∨ j = 7 ∨ j = 8 ∨ j = 9 := by omega
    rcases this with rfl | rfl | rfl | rfl | rfl <;> rfl
  · obtain ⟨p, hp, hrp, hH⟩ := actI_p hr
    have hH' : Hdx n (C p) := by
      have : p = 0 ∨ p = 1 := by omega
      rcases this with rfl | rfl
      · exact hH
      · exact hH
    obtain ⟨v, hv3, hv0⟩ := hP p hp hH'
    have hv0 : C p 0 = nI (200 + v) := hv0
    obtain ⟨v', hv', ev'⟩ := hH'.2.2.2.1
    have hvn : v < n := by
      have := (nI_eq (by omega) (by omega)).mp (hv0.symm.trans ev')
      omega
    have hdp := k_pg (L := L) hd hp
    have ne6 : ¬ nI p = -6 := nI_m6 (by omega)
    have cl : ∀ {I0 : It} {P0 : Pc}, Rd I0 d P0 → P0.2.2.2.2.1 = C → ∀ k, k < 48 → I0 (d + 1 + 2 * p + 1) k = C p k := fun q e k hk => (Rd_cells q hp hk).trans (by rw [e])
    rw [hrp] at b0
    have h2 := Rd_reg (k := 5) (x := nI p) h1 (by decide)
    rw [if_neg ne6, S9 hd hp, K2_i, B17_42 hd hd hdp, S75 hdp, cl h2 rfl 0 (by decide), hv0, sub_200.mpr rfl, K2_i, B17_45 hd hd] at b0
    have h3 := Rd_reg (k := 6) (x := nI v) h2 (by decide)
    rw [uI_k _ _ _ _ _ (show 5 ≠ 6 by decide), uI_s, if_neg ne6, S9 hd hp, K2_i, B17_71 hd hd hdp, S76 hdp, cl h3 rfl 1 (by decide), K2_i, B17_74 hd hd] at b0
    have h4 := Rd_reg (k := 7) (x := C p 1) h3 (by decide)
    obtain ⟨I4, hI4⟩ : ∃ I4, uI (uI (uI I1 d 5 (nI p)) d 6 (nI v)) d 7 (C p 1) = I4 := ⟨_, rfl⟩
    rw [hI4] at b0 h4
    have f4 : FD d I I4 := FD_tr f1 (hI4 ▸ FD_tr (FD_tr (FD_u (by omega) (by omega)) (FD_u (by omega) (by omega))) (FD_u (by omega) (by omega)))
    obtain ⟨I5, e5, f5, h5⟩ := T_defaults (Ly_D hR hd81 f4) hd hd81 hvn hv3 h4 (by simp [up])
    have h6 := Rd_reg (k := 9) (x := 0) h5 (by decide)
    have i55 : I5 d 5 = nI p := (h5.2.2.2.1 5 (by decide) (by decide)).trans (by simp [up])
    have f6 : FD d I (uI I5 d 9 0) := FD_tr (FD_tr f4 f5) (FD_u (by omega) (by omega))
    rw [e5, K2_v, B17_81 hd, uI_k _ _ _ _ _ (show 5 ≠ 9 by decide), i55, if_neg ne6, S9 hd hp, K2_i, B17_113 hd hdp, B20_0 hd hdp] at b0
    obtain ⟨I7, e7, f7, h7⟩ := R_all (L := L) (n := n) (g := g) (e := e) (Z := Z) (u3 := none) hd hd81 hp hvn hv3 (rfl : nr (C p) = nr (C p)) (nr (C p)) 0 rfl (Ly_D hR hd81 f6) h6 (by simp [up]) (by simp only [up_s]; rfl)
    have e7' : E 20 2 [some (.ref d), some (.ref (d + 1 + 2 * p)), some (.int 3), none] [] (GG L) (uI I5 d 9 0) = some (none, GG L, I7) := e7
    rw [e7', K2_v, B17_116] at b0
    refine ⟨I7, b0, FD_tr f6 f7, ?_⟩
    rw [rst_p hp hrp hv3 hv0]
    refine Rd_eq h7 rfl (fun j q5 q10 => ?_) (fun _ _ => ⟨rfl, rfl⟩) (fun _ _ _ _ => rfl) (fun _ _ => ⟨rfl, rfl⟩)
    have : j = 5 ∨ j = 6 ∨ j = 7 ∨ j = 8 ∨ j = 9 := by omega
    rcases this with rfl | rfl | rfl | rfl | rfl <;> simp [up, rg]
