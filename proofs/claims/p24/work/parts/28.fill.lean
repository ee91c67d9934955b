/-! ===== p24: filling a page, a value changed, copies, migration, the factory's state ===== -/
/-- values of the names 0 to 2 -/
def nV (x : Nat → Nat) : Nat → Int32 := fun k => if k < 3 then nI (x k) else -6
theorem nV_k {x : Nat → Nat} {k : Nat} (h : k < 3) : nV x k = nI (x k) := if_pos h
theorem nV_up {x : Nat → Nat} {a b : Nat} (ha : a < 3) : up (nV x) a (nI b) = nV (up x a b) := by
  funext j
  unfold nV up
  by_cases h : j = a
  · rw [if_pos h, if_pos (by omega), if_pos h]
  · rw [if_neg h, if_neg h]
theorem dfV_eq (e : Nat → Nat → Nat) (v : Nat) : dfV e v = nV (e v) := rfl
/-- the records of the settings that are not at their defaults, below a name; where they lie -/
def fls (e : Nat → Nat → Nat) (v : Nat) (x : Nat → Nat) : Nat → List (Nat × Int32) × Nat
  | 0 => ([], 0)
  | k + 1 => if x k = e v k then fls e v x k else ((fls e v x k).1 ++ rcl (3 + 3 * (fls e v x k).2) k (x k) v, (fls e v x k).2 + 1)
theorem fls_s {e : Nat → Nat → Nat} {v k : Nat} {x : Nat → Nat} (h : x k = e v k) : fls e v x (k + 1) = fls e v x k := if_pos h
theorem fls_c {e : Nat → Nat → Nat} {v k : Nat} {x : Nat → Nat} (h : ¬ x k = e v k) : fls e v x (k + 1) = ((fls e v x k).1 ++ rcl (3 + 3 * (fls e v x k).2) k (x k) v, (fls e v x k).2 + 1) := if_neg h
theorem fls_le (e : Nat → Nat → Nat) (v : Nat) (x : Nat → Nat) : ∀ k, (fls e v x k).2 ≤ k ∧ (fls e v x k).1.length = 3 * (fls e v x k).2 := by
  intro k
  induction k with
  | zero => exact ⟨Nat.le_refl _, rfl⟩
  | succ k ih =>
    by_cases h : x k = e v k
    · rw [fls_s h]; exact ⟨by omega, ih.2⟩
    · rw [fls_c h]
      refine ⟨by show (fls e v x k).2 + 1 ≤ k + 1; omega, ?_⟩
      rw [List.length_append, ih.2]
      show 3 * (fls e v x k).2 + 3 = 3 * ((fls e v x k).2 + 1)
      omega
def fpl (e : Nat → Nat → Nat) (v : Nat) (x : Nat → Nat) : Nat → Int32 := fun k => if k < 3 ∧ x k ≠ e v k then nI (3 + 3 * (fls e v x k).2) else -6
/-- a device behind the filling of the page q in the version v with the sequence t -/
def fillS (e : Nat → Nat → Nat) (P : Pc) (q v t : Nat) (x : Nat → Nat) : Pc :=
  if (wS q ((fls e v x 3).1 ++ hcl v t) (eS q P)).1 = none then wS q ((fls e v x 3).1 ++ hcl v t) (eS q P)
  else ((wS q ((fls e v x 3).1 ++ hcl v t) (eS q P)).1, rg (nI q) (nI v) (nI t) (nI (3 + 3 * (fls e v x 3).2)) (P.2.1 9), (wS q ((fls e v x 3).1 ++ hcl v t) (eS q P)).2.2.1, (wS q ((fls e v x 3).1 ++ hcl v t) (eS q P)).2.2.2.1, (wS q ((fls e v x 3).1 ++ hcl v t) (eS q P)).2.2.2.2.1, nV x, fpl e v x)
def fillN (e : Nat → Nat → Nat) (P : Pc) (v : Nat) (x : Nat → Nat) : Nat := cn P.1 (3 * (fls e v x 3).2 + 3)
theorem cp_o (I : It) (a0 a1 n a : Nat) (h : a ≠ a1) : cpI I a0 a1 0 0 n a = I a := by funext j; unfold cpI; rw [if_neg h]
theorem cp_s (I : It) (a0 a1 n j : Nat) (h : j < n) : cpI I a0 a1 0 0 n a1 j = I a0 j := by
  unfold cpI va_cpy
  rw [if_pos rfl, if_pos (by omega), Nat.zero_add, Nat.sub_zero]
/-- the loop over the names -/
theorem F_loop {L : Nat × Nat} {n d q v : Nat} {x3 : Int32} {g e Z : Nat → Nat → Nat} {x : Nat → Nat} {P0 : Pc} (hd : kd (GG L) d = 0) (hd81 : 81 ≤ d) (hq : q < 2) (hv : v < n) (hv3 : v < 3) (hx : ∀ k, k < 3 → x k < 256) : ∀ (m k : Nat) {I : It}, m + k = 10 → Ly n g e Z I → Rd I d (wS q (fls e v x (min k 3)).1 P0) → (∀ j, j < 10 → I (d + 7) j = nV x j) → (∀ j, j < k → I (d + 8) j = fpl e v x j) →
    ∃ I', E 26 55 [some (.ref d), some (.int (nI v)), some (.int (nI q)), some (.int x3), some (.ref (21 + 10 * v)), some (.ref (d + 1 + 2 * q)), some (.int (nI (cn P0.1 (fls e v x (min k 3)).1.length))), some (.int (nI (3 + 3 * (fls e v x (min k 3)).2))), some (.int (nI k))] [] (GG L) I = E 26 55 [some (.ref d), some (.int (nI v)), some (.int (nI q)), some (.int x3), some (.ref (21 + 10 * v)), some (.ref (d + 1 + 2 * q)), some (.int (nI (cn P0.1 (fls e v x 3).1.length))), some (.int (nI (3 + 3 * (fls e v x 3).2))), some (.int (nI 10))] [] (GG L) I' ∧ FD d I I' ∧ Rd I' d (wS q (fls e v x 3).1 P0) ∧ (∀ j, j < 10 → I' (d + 7) j = nV x j) ∧ (∀ j, j < 10 → I' (d + 8) j = fpl e v x j) := by
  intro m
  induction m with
  | zero =>
    intro k I hm hR hRd h7 h8
    have hk : k = 10 := by omega
    subst hk
    exact ⟨I, rfl, FD_rfl _ _, hRd, h7, h8⟩
  | succ m ih =>
    intro k I hm hR hRd h7 h8
    have hn := hR.1
    have hl := k_lay (L := L) (v := v) (by omega)
    have hdq := k_pg (L := L) hd hq
    obtain ⟨w, hw⟩ : ∃ w, nI (cn P0.1 (fls e v x (min k 3)).1.length) = w := ⟨_, rfl⟩
    have b0 := B26_55 (L := L) (o0 := d) (x1 := nI v) (x2 := nI q) (x3 := x3) (o4 := 21 + 10 * v) (o5 := d + 1 + 2 * q) (x6 := w) (x7 := nI (3 + 3 * (fls e v x (min k 3)).2)) (x8 := nI k) (I := I) hd hl hdq
    obtain ⟨I1, hI1⟩ : ∃ I1, uI I (d + 8) k (-6) = I1 := ⟨_, rfl⟩
    have f1 : FD d I I1 := hI1 ▸ FD_u (by omega) (by omega)
    have o1 : ∀ a, a ≠ d + 8 → I1 a = I a := fun a h => by rw [← hI1, uI_o _ _ _ _ _ h]
    have hR1 := Ly_D hR hd81 f1
    have hRd1 : Rd I1 d (wS q (fls e v x (min k 3)).1 P0) := Rd_oth hRd (fun a _ h => o1 a (by omega))
    have h71 : ∀ j, j < 10 → I1 (d + 7) j = nV x j := fun j hj => by rw [o1 _ (by omega)]; exact h7 j hj
    rw [if_neg (show ¬ (10 : Int32) ≤ nI k from nI_ge (a := k) (b := 10) (show k < 10 by omega) (by decide)), ck_of (inb_nI (by omega) (by decide)), ix_nI (by omega), hI1, L32k (hR1.2.2.2 v hv hv3) (by omega) (by omega), K2_i, B26_78 hd hl hdq, nI_1] at b0
    have h8k : ∀ y, I1 (d + 8) k = y → fpl e v x k = y → ∀ j, j < k + 1 → I1 (d + 8) j = fpl e v x j := fun y e1 e2 j hj => by
      by_cases z : j = k
      · rw [z, e1, e2]
      · rw [← hI1, uI_k _ _ _ _ _ z]; exact h8 j (by omega)
    have i8 : I1 (d + 8) k = -6 := by rw [← hI1, uI_s]
    by_cases hk3 : k < 3
    · have hmin : min k 3 = k := by omega
      have hmin1 : min (k + 1) 3 = k + 1 := by omega
      rw [hmin] at hRd1 hw b0
      rw [tI_t hk3, if_neg (by decide), ck_of (inb_nI (by omega) (by decide)), ix_nI (by omega), h71 k (by omega), nV_k hk3, L34 (hR1.2.2.2 v hv hv3) (by omega) hk3, K2_i, B26_95 hd hl hdq, nI_1] at b0
      have hlv := (hR1.2.2.2 v hv hv3).2.1 k hk3
      have hxk := hx k hk3
      by_cases hU : x k = e v k
      · have hfs := fls_s hU
        obtain ⟨I', a1, a2, a3, a4, a5⟩ := ih (k + 1) (I := I1) (by omega) hR1 (by rw [hmin1, hfs]; exact hRd1) h71 (h8k _ i8 (by unfold fpl; rw [if_neg (fun z => z.2 hU)]))
        rw [hmin1, hfs] at a1
        rw [if_pos (by rw [hU]), ← hw] at b0
        rw [hmin]
        exact ⟨I', b0.trans a1, FD_tr f1 a2, a3, a4, a5⟩
      · have hne : ¬ nI (x k) = nI (e v k) := fun z => hU ((nI_eq (by omega) (by omega)).mp z)
        have hfc := fls_c hU
        obtain ⟨hle, hlen⟩ := fls_le e v x k
        rw [if_neg hne, ck_of (inb_nI (by omega) (by decide)), ck_of (inb_nI (by omega) (by decide)), ix_nI (by omega), uI_a _ _ _ _ _ _ (by omega), h71 k (by omega), nV_k hk3] at b0
        obtain ⟨I2, hI2⟩ : ∃ I2, uI I1 (d + 8) k (nI (3 + 3 * (fls e v x k).2)) = I2 := ⟨_, rfl⟩
        rw [hI2] at b0
        have f2 : FD d I1 I2 := hI2 ▸ FD_u (by omega) (by omega)
        have o2 : ∀ a, a ≠ d + 8 → I2 a = I1 a := fun a h => by rw [← hI2, uI_o _ _ _ _ _ h]
        obtain ⟨I3, c1, c2, c3⟩ := T_rec (L := L) (i := 3 + 3 * (fls e v x k).2) (n := k) (c := x k) (v := v) hd hdq hq (by omega) (Rd_oth hRd1 (fun a _ h => o2 a (by omega)))
        rw [wS_app] at c2
        have f3 : FD d I I3 := FD_tr (FD_tr f1 f2) (FD_I c3)
        have hlen' : (fls e v x k).1.length + 3 = (fls e v x (k + 1)).1.length := by rw [hfc, List.length_append]; rfl
        obtain ⟨I', a1, a2, a3, a4, a5⟩ := ih (k + 1) (I := I3) (by omega) (Ly_D hR hd81 f3) (by rw [hmin1, hfc]; exact c2) (fun j hj => by rw [c3 _ (by omega), o2 _ (by omega)]; exact h71 j hj) (fun j hj => by
          rw [c3 _ (by omega), ← hI2]
          by_cases z : j = k
          · rw [z, uI_s]; unfold fpl; rw [if_pos ⟨hk3, hU⟩]
          · rw [uI_k _ _ _ _ _ z, ← hI1, uI_k _ _ _ _ _ z]; exact h8 j (by omega))
        rw [hmin1] at a1
        rw [c1, K2_i, B26_127 hd hl hdq, nI_1, show nI (3 + 3 * (fls e v x k).2) + 3 = nI (3 + 3 * (fls e v x (k + 1)).2) from by rw [hfc]; exact nI_add _ 3, ← hw, show nI (cn P0.1 (fls e v x k).1.length) + nI (cn (wS q (fls e v x k).1 P0).1 3) = nI (cn P0.1 (fls e v x (k + 1)).1.length) from by rw [nI_add, ← hlen', cn_add]; rfl] at b0
        rw [hmin]
        exact ⟨I', b0.trans a1, FD_tr f3 a2, a3, a4, a5⟩
    · have hmin : min k 3 = 3 := by omega
      have hmin1 : min (k + 1) 3 = 3 := by omega
      rw [tI_f hk3, if_pos rfl] at b0
      obtain ⟨I', a1, a2, a3, a4, a5⟩ := ih (k + 1) (I := I1) (by omega) hR1 (by rw [hmin1, ← hmin]; exact hRd1) h71 (h8k _ i8 (by unfold fpl; rw [if_neg (fun z => hk3 z.1)]))
      rw [hmin1] at a1
      rw [hmin] at b0 hw
      rw [← hw] at b0
      rw [hmin]
      exact ⟨I', b0.trans a1, FD_tr f1 a2, a3, a4, a5⟩
/-- the other page filled -/
theorem T_fill {L : Nat × Nat} {n d a s v : Nat} {g e Z : Nat → Nat → Nat} {x : Nat → Nat} {I : It} {P : Pc} (hd : kd (GG L) d = 0) (hd81 : 81 ≤ d) (hR : Ly n g e Z I) (h : Rd I d P) (ha : a < 2) (hs : s < 200) (hA5 : P.2.1 5 = nI a) (hA7 : P.2.1 7 = nI s) (hv : v < n) (hv3 : v < 3) (hx : ∀ k, k < 3 → x k < 256) (h7 : ∀ j, j < 10 → I (d + 7) j = nV x j) :
    ∃ I', E 26 0 [some (.ref d), some (.int (nI v)), none, none, none, none, none, none, none] [] (GG L) I = some (some (.int (nI (fillN e P v x))), GG L, I') ∧ FD d I I' ∧ Rd I' d (fillS e P (1 - a) v ((s + 1) % 200) x) := by
  have hn := hR.1
  obtain ⟨q, hq⟩ : ∃ q, 1 - a = q := ⟨_, rfl⟩
  have hq2 : q < 2 := by omega
  rw [hq]
  have hdq := k_pg (L := L) hd hq2
  have hl := k_lay (L := L) (v := v) (by omega)
  obtain ⟨t, ht⟩ : ∃ t, (s + 1) % 200 = t := ⟨_, rfl⟩
  rw [ht]
  have hseq : (nI s + 1) - (nI s + 1) / 200 * 200 = nI t := by
    rw [nI_1, show (200 : Int32) = nI 200 from rfl, nI_rem (by omega) (by decide), ht]
  have i5 : I d 5 = nI a := (h.2.2.2.1 5 (by decide) (by decide)).trans hA5
  have i7 : I d 7 = nI s := (h.2.2.2.1 7 (by decide) (by decide)).trans hA7
  have b0 : E 26 0 [some (.ref d), some (.int (nI v)), none, none, none, none, none, none, none] [] (GG L) I = E 26 12 [some (.ref d), some (.int (nI v)), none, none, none, none, none, none, none] [.int (nI q)] (GG L) I := by
    rw [B26_0 hd, i5]
    have : a = 0 ∨ a = 1 := by omega
    rcases this with rfl | rfl
    · subst hq; rw [if_pos (by decide)]; rfl
    · subst hq; rw [if_neg (by decide)]; rfl
  obtain ⟨I1, a1, h1, f1⟩ := T_erase (L := L) hdq hq2 h
  rw [B26_12 hd, S46 hR hv, K2_i, i7, hseq, B26_32 hd hl, S9 hd hq2, K2_i, B26_39 hd hl hdq, a1, K2_v, B26_46 hd hl hdq] at b0
  have fD1 := FD_I f1
  obtain ⟨I2, c1, f2, h2, h72, h82⟩ := F_loop (L := L) (x3 := nI t) (P0 := eS q P) hd hd81 hq2 hv hv3 hx 10 0 (I := I1) rfl (Ly_D hR hd81 fD1) (by show Rd I1 d (wS q [] _); rw [wS_nil]; exact h1) (fun j hj => by rw [f1 _ (by omega)]; exact h7 j hj) (fun j hj => absurd hj (by omega))
  have e0 : nI (cn (eS q P).1 (fls e v x (min 0 3)).1.length) = 0 := by
    show nI (cn (eS q P).1 0) = 0
    rw [Nat.le_zero.mp (cn_le _ 0)]; rfl
  have e1 : nI (3 + 3 * (fls e v x (min 0 3)).2) = 3 := rfl
  rw [e0, e1, show nI 0 = 0 from rfl] at c1
  obtain ⟨I3, e3, h3, f3⟩ := T_head (L := L) (v := v) (s := t) hd hdq hq2 h2
  rw [wS_app] at h3
  obtain ⟨hle, hlen⟩ := fls_le e v x 3
  have b1 := b0.trans c1
  rw [B26_55 hd hl hdq, if_pos (by decide), e3, K2_i, B26_149 hd rfl] at b1
  have hcount : nI (cn (eS q P).1 (fls e v x 3).1.length) + nI (cn (wS q (fls e v x 3).1 (eS q P)).1 3) = nI (fillN e P v x) := by
    rw [nI_add]
    show nI (cn P.1 (fls e v x 3).1.length + cn (pa P.1 (fls e v x 3).1.length) 3) = nI (cn P.1 (3 * (fls e v x 3).2 + 3))
    rw [← cn_add, hlen]
  rw [hcount] at b1
  have fD : FD d I I3 := FD_tr (FD_tr fD1 f2) (FD_I f3)
  have i3 := h3.1
  by_cases hz : (wS q ((fls e v x 3).1 ++ hcl v t) (eS q P)).1 = none
  · rw [hz] at i3
    rw [if_pos (show I3 d 3 = 0 from i3)] at b1
    refine ⟨I3, b1, fD, ?_⟩
    unfold fillS
    rw [if_pos hz]
    exact h3
  · have i3' : ¬ I3 d 3 = 0 := by
      rw [i3]
      cases hw : (wS q ((fls e v x 3).1 ++ hcl v t) (eS q P)).1 with
      | none => exact absurd hw hz
      | some w => exact (by decide : ¬ (1 : Int32) = 0)
    rw [if_neg i3'] at b1
    refine ⟨_, b1, ?_, ?_⟩
    · intro b hb
      rw [cp_o _ _ _ _ _ (by omega), cp_o _ _ _ _ _ (by omega), uI_o _ _ _ _ _ (by omega), uI_o _ _ _ _ _ (by omega), uI_o _ _ _ _ _ (by omega), uI_o _ _ _ _ _ (by omega)]
      exact fD b hb
    · have hR3 := Rd_reg (k := 8) (x := nI (3 + 3 * (fls e v x 3).2)) (Rd_reg (k := 7) (x := nI t) (Rd_reg (k := 6) (x := nI v) (Rd_reg (k := 5) (x := nI q) h3 (by decide)) (by decide)) (by decide)) (by decide)
      obtain ⟨I4, hI4⟩ : ∃ I4, uI (uI (uI (uI I3 d 5 (nI q)) d 6 (nI v)) d 7 (nI t)) d 8 (nI (3 + 3 * (fls e v x 3).2)) = I4 := ⟨_, rfl⟩
      rw [hI4] at hR3 ⊢
      have o4 : ∀ b, b ≠ d → I4 b = I3 b := fun b hb => by rw [← hI4, uI_o _ _ _ _ _ hb, uI_o _ _ _ _ _ hb, uI_o _ _ _ _ _ hb, uI_o _ _ _ _ _ hb]
      obtain ⟨r3, r4, rok, rA, rC, rV⟩ := hR3
      have o : ∀ b, b ≠ d + 5 → b ≠ d + 6 → cpI (cpI I4 (d + 7) (d + 5) 0 0 10) (d + 8) (d + 6) 0 0 10 b = I4 b := fun b q5 q6 => by rw [cp_o _ _ _ _ _ q6, cp_o _ _ _ _ _ q5]
      unfold fillS
      rw [if_neg hz]
      refine ⟨by rw [o d (by omega) (by omega)]; exact r3, by rw [o d (by omega) (by omega)]; exact r4, rok, fun j h5 h10 => ?_, fun p hp => ?_, fun k hk => ?_⟩
      · rw [o d (by omega) (by omega), rA j h5 h10]
        have : j = 5 ∨ j = 6 ∨ j = 7 ∨ j = 8 ∨ j = 9 := by omega
        rcases this with rfl | rfl | rfl | rfl | rfl <;> rfl
      · rw [o _ (by omega) (by omega), o _ (by omega) (by omega)]; exact rC p hp
      · refine ⟨?_, ?_⟩
        · rw [cp_o _ _ _ _ _ (by omega), cp_s _ _ _ _ _ hk, o4 _ (by omega), f3 _ (by omega)]; exact h72 k hk
        · rw [cp_s _ _ _ _ _ hk, cp_o _ _ _ _ _ (by omega), o4 _ (by omega), f3 _ (by omega)]; exact h82 k hk
