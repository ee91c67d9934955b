theorem sub_ar (a w r : Int32) : (a + r) - (w + r) = a - w := by
  have h : (a - w) + (w + r) = a + r := by rw [← Int32.add_assoc, Int32.sub_add_cancel]
  rw [← h, Int32.add_sub_cancel]
def FI8 (d : Nat) (I I' : It) : Prop := (∀ a, a < d ∨ d + 4 < a → a ≠ d + 8 → I' a = I a) ∧ ∀ j, j ≠ 3 → j ≠ 4 → I' d j = I d j
def FJ8 (J J' : It) : Prop := (∀ a, a ≠ 119 → a ≠ 120 → a ≠ 135 → J' a = J a) ∧ (∀ j, j ≠ 16 → J' 119 j = J 119 j) ∧ ∀ j, (2 ≤ j ∧ j < 7) ∨ (11 ≤ j ∧ j < 21) ∨ 117 ≤ j → J' 120 j = J 120 j
theorem FI8_of {d : Nat} {I I' : It} (h : FI d I I') : FI8 d I I' := ⟨fun a q _ => h.1 a q, h.2⟩
theorem FJ8_of {J J' : It} (h : FJ J J') : FJ8 J J' := ⟨fun a q1 q2 _ => h.1 a q1 q2, h.2.1, h.2.2⟩
theorem FI8_tr {d : Nat} {I1 I2 I3 : It} (h : FI8 d I1 I2) (h' : FI8 d I2 I3) : FI8 d I1 I3 := ⟨fun a q1 q2 => (h'.1 a q1 q2).trans (h.1 a q1 q2), fun j q1 q2 => (h'.2 j q1 q2).trans (h.2 j q1 q2)⟩
theorem FJ8_tr {J1 J2 J3 : It} (h : FJ8 J1 J2) (h' : FJ8 J2 J3) : FJ8 J1 J3 := ⟨fun a q1 q2 q3 => (h'.1 a q1 q2 q3).trans (h.1 a q1 q2 q3), fun j q => (h'.2.1 j q).trans (h.2.1 j q), fun j q => (h'.2.2 j q).trans (h.2.2 j q)⟩
theorem FI8_u {d k : Nat} {x : Int32} {I : It} : FI8 d I (uI I (d + 8) k x) := ⟨fun a _ q => uI_o _ _ _ _ _ q, fun j _ _ => uI_a _ _ _ _ _ _ (by omega)⟩
theorem FJ8_u {k : Nat} {x : Int32} {J : It} : FJ8 J (uI J 135 k x) := ⟨fun a _ _ q => uI_o _ _ _ _ _ q, fun j _ => uI_a _ _ _ _ _ _ (by decide), fun j _ => uI_a _ _ _ _ _ _ (by decide)⟩
theorem Ry_8 {n d : Nat} {I J I' J' : It} (h : Ry n I J) (hd : 81 ≤ d) (hI : FI8 d I I') (hJ : FJ8 J J') : Ry n I' J' := Ry_congr h (fun a ha => hI.1 a (by omega) (by omega)) (hJ.2.1 6 (by decide)) (fun a q1 q2 => hJ.1 a (by omega) (by omega) (by omega))
theorem Rc_u {d k k' : Nat} {x x' : Int32} {I J : It} (h : Rc I d (J 120)) : Rc (uI I (d + 8) k x) d (uI J 135 k' x' 120) := Rc_keep h (fun a q1 q2 => uI_o _ _ _ _ _ (by omega)) (uI_a _ _ _ _ _ _ (by omega)) (uI_a _ _ _ _ _ _ (by omega)) (fun j _ => uI_a _ _ _ _ _ _ (by decide))
/-- what the filling of a page keeps between two settings -/
def Qf (n v d k : Nat) (I J : It) : Prop := Ry n I J ∧ Rc I d (J 120) ∧ (∀ j, j < 10 → J 125 (10 * v + j) ≠ 0 → I (d + 7) j = J 134 j ∧ byt (J 134 j)) ∧ ∀ j, j < k → I (d + 8) j = J 135 j
set_option maxHeartbeats 1000000 in
theorem F_loop {L n d p v : Nat} {x3 y3 : Int32} (hd : kd (GG L) d = 0) (hd81 : 81 ≤ d) (hdJ : d + 8 < 119) (hdp : kd (GG L) (d + 1 + 2 * p) = 4) (hp : p < 2) (hv : v < n) : ∀ (m k e : Nat) (w : Int32) {I J : It}, m + k = 10 → 3 ≤ e → e ≤ 3 + 3 * k → Qf n v d k I J →
    ∃ I' J' e' w', 3 ≤ e' ∧ e' ≤ 33 ∧
      E 26 55 [some (.ref d), some (.int (nI v)), some (.int (nI p)), some (.int x3), some (.ref (21 + 10 * v)), some (.ref (d + 1 + 2 * p)), some (.int w), some (.int (nI e)), some (.int (nI k))] [] (GG L) I = E 26 55 [some (.ref d), some (.int (nI v)), some (.int (nI p)), some (.int x3), some (.ref (21 + 10 * v)), some (.ref (d + 1 + 2 * p)), some (.int w'), some (.int (nI e')), some (.int (nI 10))] [] (GG L) I' ∧
      E 148 33 [some (.ref 119), some (.int (nI v)), some (.int (nI p)), some (.int y3), some (.int (nI e)), some (.int (nI k))] [] (GG L) J = E 148 33 [some (.ref 119), some (.int (nI v)), some (.int (nI p)), some (.int y3), some (.int (nI e')), some (.int (nI 10))] [] (GG L) J' ∧
      Qf n v d 10 I' J' ∧ FI8 d I I' ∧ FJ8 J J' ∧ J' 119 16 - w' = J 119 16 - w := by
  intro m
  induction m with
  | zero =>
    intro k e w I J hm h3 he hQ
    have hk : k = 10 := by omega
    subst hk
    exact ⟨I, J, e, w, h3, by omega, rfl, rfl, hQ, ⟨fun _ _ _ => rfl, fun _ _ _ => rfl⟩, ⟨fun _ _ _ _ => rfl, fun _ _ => rfl, fun _ _ => rfl⟩, rfl⟩
  | succ m ih =>
    intro k e w I J hm h3 he hQ
    obtain ⟨hR, hc, hV, hP⟩ := hQ
    have hn := hR.1
    have hl := k_lay (L := L) (v := v) (by omega)
    have b0 := B26_55 (L := L) (o0 := d) (x1 := nI v) (x2 := nI p) (x3 := x3) (o4 := 21 + 10 * v) (o5 := d + 1 + 2 * p) (x6 := w) (x7 := nI e) (x8 := nI k) (I := I) hd hl hdp
    have b1 := B148_33 (L := L) (x1 := nI v) (x2 := nI p) (x3 := y3) (x4 := nI e) (x5 := nI k) (I := J)
    rw [if_neg (show ¬ (10 : Int32) ≤ nI k from nI_ge (a := k) (b := 10) (show k < 10 by omega) (by decide)), ck_of (inb_nI (by omega) (by decide)), ix_nI (by omega)] at b0 b1
    obtain ⟨I1, hI1⟩ : ∃ I1, uI I (d + 8) k (-6) = I1 := ⟨_, rfl⟩
    obtain ⟨J1, hJ1⟩ : ∃ J1, uI J 135 k (-6) = J1 := ⟨_, rfl⟩
    have fI1 : FI8 d I I1 := hI1 ▸ FI8_u
    have fJ1 : FJ8 J J1 := hJ1 ▸ FJ8_u
    have hR1 : Ry n I1 J1 := Ry_8 hR hd81 fI1 fJ1
    have hc1 : Rc I1 d (J1 120) := hI1 ▸ hJ1 ▸ Rc_u hc
    have o1 : ∀ a, a ≠ 135 → J1 a = J a := fun a h => by rw [← hJ1, uI_o _ _ _ _ _ h]
    have oI1 : ∀ a, a ≠ d + 8 → I1 a = I a := fun a h => by rw [← hI1, uI_o _ _ _ _ _ h]
    have hV1 : ∀ j, j < 10 → J1 125 (10 * v + j) ≠ 0 → I1 (d + 7) j = J1 134 j ∧ byt (J1 134 j) := fun j hj hT => by
      rw [oI1 _ (by omega), o1 134 (by decide)]
      exact hV j hj (by rw [← o1 125 (by decide)]; exact hT)
    have hP1 : ∀ j, j < k + 1 → I1 (d + 8) j = J1 135 j := fun j hj => by
      rw [← hI1, ← hJ1]
      by_cases q : j = k
      · rw [q, uI_s, uI_s]
      · rw [uI_k _ _ _ _ _ q, uI_k _ _ _ _ _ q]; exact hP j (by omega)
    obtain ⟨t1, t2, -, -, t5, -⟩ := (hR1.2.2.2.2 v hv).1 k (by omega)
    rw [hI1, S32k hl (by omega), K2_i, B26_78 hd hl hdp, show 21 + 10 * v + 1 = 22 + 10 * v by omega, t2, nI_1] at b0
    rw [hJ1, S124k (by omega) (by omega), K2_i, B148_56, nI_1] at b1
    have skip : ∀ (c0 : E 26 55 [some (.ref d), some (.int (nI v)), some (.int (nI p)), some (.int x3), some (.ref (21 + 10 * v)), some (.ref (d + 1 + 2 * p)), some (.int w), some (.int (nI e)), some (.int (nI k))] [] (GG L) I = E 26 55 [some (.ref d), some (.int (nI v)), some (.int (nI p)), some (.int x3), some (.ref (21 + 10 * v)), some (.ref (d + 1 + 2 * p)), some (.int w), some (.int (nI e)), some (.int (nI (k + 1)))] [] (GG L) I1) (c1 : E 148 33 [some (.ref 119), some (.int (nI v)), some (.int (nI p)), some (.int y3), some (.int (nI e)), some (.int (nI k))] [] (GG L) J = E 148 33 [some (.ref 119), some (.int (nI v)), some (.int (nI p)), some (.int y3), some (.int (nI e)), some (.int (nI (k + 1)))] [] (GG L) J1),
        ∃ I' J' e' w', 3 ≤ e' ∧ e' ≤ 33 ∧
      E 26 55 [some (.ref d), some (.int (nI v)), some (.int (nI p)), some (.int x3), some (.ref (21 + 10 * v)), some (.ref (d + 1 + 2 * p)), some (.int w), some (.int (nI e)), some (.int (nI k))] [] (GG L) I = E 26 55 [some (.ref d), some (.int (nI v)), some (.int (nI p)), some (.int x3), some (.ref (21 + 10 * v)), some (.ref (d + 1 + 2 * p)), some (.int w'), some (.int (nI e')), some (.int (nI 10))] [] (GG L) I' ∧
      E 148 33 [some (.ref 119), some (.int (nI v)), some (.int (nI p)), some (.int y3), some (.int (nI e)), some (.int (nI k))] [] (GG L) J = E 148 33 [some (.ref 119), some (.int (nI v)), some (.int (nI p)), some (.int y3), some (.int (nI e')), some (.int (nI 10))] [] (GG L) J' ∧
      Qf n v d 10 I' J' ∧ FI8 d I I' ∧ FJ8 J J' ∧ J' 119 16 - w' = J 119 16 - w := by
      intro c0 c1
      obtain ⟨I', J', e', w', g1, g2, g3, g4, g5, g6, g7, g8⟩ := ih (k + 1) e w (I := I1) (J := J1) (by omega) h3 (by omega) ⟨hR1, hc1, hV1, hP1⟩
      exact ⟨I', J', e', w', g1, g2, c0.trans g3, c1.trans g4, g5, FI8_tr fI1 g6, FJ8_tr fJ1 g7, by rw [g8, o1 119 (by decide)]⟩
    by_cases hT : J1 125 (10 * v + k) = 0
    · rw [tI_f (fun q => q hT), if_pos rfl] at b0 b1
      exact skip b0 b1
    · obtain ⟨u1, c, hcb, u2⟩ := hV1 k (by omega) hT
      rw [tI_t hT, if_neg (by decide), ck_of (inb_nI (by omega) (by decide)), ix_nI (by omega)] at b0 b1
      rw [u1, S34 hl (by omega), K2_i, B26_95 hd hl hdp, show 21 + 10 * v + 1 = 22 + 10 * v by omega, show 21 + 10 * v + 3 = 24 + 10 * v by omega, t2, if_neg hT, t5, nI_1] at b0
      rw [show 10 * nI v + nI k = nI (10 * v + k) from by rw [show (10 : Int32) = nI 10 from rfl, nI_mul, nI_add], ck_of (inb_nI (by omega) (by decide)), ix_nI (by omega)] at b1
      by_cases hU : J1 134 k = J1 127 (10 * v + k)
      · rw [if_pos hU] at b0 b1
        exact skip b0 b1
      · rw [if_neg hU, ck_of (inb_nI (by omega) (by decide)), ck_of (inb_nI (by omega) (by decide)), ix_nI (by omega), uI_a _ _ _ _ _ _ (by omega), u1, u2] at b0
        rw [if_neg hU, ck_of (inb_nI (by omega) (by decide)), u2] at b1
        obtain ⟨I2, hI2⟩ : ∃ I2, uI I1 (d + 8) k (nI e) = I2 := ⟨_, rfl⟩
        rw [hI2] at b0
        have hc2 : Rc I2 d (J1 120) := by
          rw [← hI2]
          exact Rc_keep hc1 (fun a q1 q2 => uI_o _ _ _ _ _ (by omega)) (uI_a _ _ _ _ _ _ (by omega)) (uI_a _ _ _ _ _ _ (by omega)) (fun j _ => rfl)
        obtain ⟨I3, J3, r, a0, a1, hc3, f3, g3, w3⟩ := W_rec (L := L) (i := e) (n := k) (c := c) (v := v) hd hdp hp (by omega) (by omega) hcb (by omega) hc2
        rw [a0, K2_i, B26_127 hd hl hdp, show nI e + 3 = nI (e + 3) from nI_add e 3, nI_1] at b0
        rw [a1, K2_v, B148_98, ck_of (inb_nI (by omega) (by decide)), ix_nI (by omega), show nI e + 3 = nI (e + 3) from nI_add e 3, nI_1] at b1
        obtain ⟨J4, hJ4⟩ : ∃ J4, uI J3 135 k (nI e) = J4 := ⟨_, rfl⟩
        rw [hJ4] at b1
        have o4 : ∀ a, a ≠ 135 → J4 a = J3 a := fun a h => by rw [← hJ4, uI_o _ _ _ _ _ h]
        have fI3 : FI8 d I I3 := FI8_tr fI1 (FI8_tr (hI2 ▸ FI8_u) (FI8_of f3))
        have fJ4 : FJ8 J J4 := FJ8_tr fJ1 (FJ8_tr (FJ8_of g3) (hJ4 ▸ FJ8_u))
        have hQ4 : Qf n v d (k + 1) I3 J4 := by
          refine ⟨Ry_8 hR hd81 fI3 fJ4, by rw [o4 120 (by decide)]; exact hc3, fun j hj hT' => ?_, fun j hj => ?_⟩
          · have e7 : I3 (d + 7) = I (d + 7) := fI3.1 (d + 7) (by omega) (by omega)
            have e134 : J4 134 = J 134 := fJ4.1 134 (by decide) (by decide) (by decide)
            have e125 : J4 125 = J 125 := fJ4.1 125 (by decide) (by decide) (by decide)
            rw [e7, e134]
            exact hV j hj (by rw [← e125]; exact hT')
          · have e8 : I3 (d + 8) = I2 (d + 8) := f3.1 (d + 8) (by omega)
            have e135 : J3 135 = J1 135 := g3.1 135 (by decide) (by decide)
            rw [e8, ← hI2, ← hJ4]
            by_cases q : j = k
            · rw [q, uI_s, uI_s]
            · rw [uI_k _ _ _ _ _ q, uI_k _ _ _ _ _ q, e135]; exact hP1 j hj
        obtain ⟨I', J', e', w', y1, y2, y3', y4, y5, y6, y7, y8⟩ := ih (k + 1) (e + 3) (w + r) (by omega) (by omega) (by omega) hQ4
        refine ⟨I', J', e', w', y1, y2, b0.trans y3', b1.trans y4, y5, FI8_tr fI3 y6, FJ8_tr fJ4 y7, ?_⟩
        rw [y8, o4 119 (by decide), w3, o1 119 (by decide)]; exact sub_ar _ _ _
