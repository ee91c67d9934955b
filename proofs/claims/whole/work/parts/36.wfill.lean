/-- what a device's own work may change, on either side -/
def FDI (d : Nat) (I I' : It) : Prop := ∀ a, a < d ∨ d + 8 < a → I' a = I a
def FDJ (J J' : It) : Prop := (∀ a, a ≠ 119 → a ≠ 120 → a ≠ 134 → a ≠ 135 → J' a = J a) ∧ ∀ j, j < 16 → J' 119 j = J 119 j
theorem FDI_tr {d : Nat} {I1 I2 I3 : It} (h : FDI d I1 I2) (h' : FDI d I2 I3) : FDI d I1 I3 := fun a q => (h' a q).trans (h a q)
theorem FDJ_tr {J1 J2 J3 : It} (h : FDJ J1 J2) (h' : FDJ J2 J3) : FDJ J1 J3 := ⟨fun a q1 q2 q3 q4 => (h'.1 a q1 q2 q3 q4).trans (h.1 a q1 q2 q3 q4), fun j q => (h'.2 j q).trans (h.2 j q)⟩
theorem FDI_r {d : Nat} {I : It} : FDI d I I := fun _ _ => rfl
theorem FDJ_r {J : It} : FDJ J J := ⟨fun _ _ _ _ _ => rfl, fun _ _ => rfl⟩
theorem FDI_8 {d : Nat} {I I' : It} (h : FI8 d I I') : FDI d I I' := fun a q => h.1 a (by omega) (by omega)
theorem FDJ_8 {J J' : It} (h : FJ8 J J') : FDJ J J' := ⟨fun a q1 q2 _ q4 => h.1 a q1 q2 q4, fun j q => h.2.1 j (by omega)⟩
theorem Ry_D {n d : Nat} {I J I' J' : It} (h : Ry n I J) (hd : 81 ≤ d) (hI : FDI d I I') (hJ : FDJ J J') : Ry n I' J' := Ry_congr h (fun a ha => hI a (by omega)) (hJ.2 6 (by decide)) (fun a q1 q2 => hJ.1 a (by omega) (by omega) (by omega) (by omega))
theorem k_pg {L d p : Nat} (hd : kd (GG L) d = 0) (hp : p < 2) : kd (GG L) (d + 1 + 2 * p) = 4 := by
  have : p = 0 ∨ p = 1 := by omega
  rcases this with rfl | rfl
  · exact wk_0_1 hd
  · exact wk_0_2 hd
set_option maxHeartbeats 1000000 in
/-- the other page filled, on both sides -/
theorem W_fill {L n d v : Nat} {I J : It} (hd : kd (GG L) d = 0) (hd81 : 81 ≤ d) (hdJ : d + 8 < 119) (hR : Ry n I J) (hv : v < n) (hD : Rd n (J 125) I d (J 120)) (hact : J 120 2 ≠ -6) (hV : ∀ j, j < 10 → J 125 (10 * v + j) ≠ 0 → I (d + 7) j = J 134 j ∧ byt (J 134 j)) :
    ∃ I' J' r, E 26 0 [some (.ref d), some (.int (nI v)), none, none, none, none, none, none, none] [] (GG L) I = some (some (.int r), GG L, I') ∧ E 148 0 [some (.ref 119), some (.int (nI v)), none, none, none, none] [] (GG L) J = some (none, GG L, J') ∧ Rd n (J 125) I' d (J' 120) ∧ FDI d I I' ∧ FDJ J J' ∧ J' 119 16 = J 119 16 + r := by
  have hn := hR.1
  obtain ⟨hc, d5, d6, d7, d9, hrest⟩ := hD
  obtain ⟨p, v0, s, e0, hp, hv0, hs, he0, D2, D3, D4, D5, i8, hVr⟩ := hrest.resolve_left (fun h => hact h.1)
  obtain ⟨q, hq, hq1, hq2⟩ : ∃ q, q < 2 ∧ (1 : Int32) - nI p = nI q ∧ ((nI p = 0 ∧ q = 1) ∨ (nI p ≠ 0 ∧ q = 0)) := by
    have : p = 0 ∨ p = 1 := by omega
    rcases this with rfl | rfl
    · exact ⟨1, by decide, by decide, Or.inl ⟨by decide, rfl⟩⟩
    · exact ⟨0, by decide, by decide, Or.inr ⟨by decide, rfl⟩⟩
  have hdq := k_pg (L := L) hd hq
  have hl := k_lay (L := L) (v := v) (by omega)
  obtain ⟨t, ht⟩ : ∃ t, (s + 1) % 200 = t := ⟨_, rfl⟩
  have ht2 : t < 200 := by omega
  have hseq : (nI s + 1) - (nI s + 1) / 200 * 200 = nI t := by
    rw [nI_1, show (200 : Int32) = nI 200 from rfl, nI_rem (by omega) (by decide), ht]
  have i5 : I d 5 = nI p := d5.trans D2
  have i7 : I d 7 = nI s := d7.trans D4
  have b0 : E 26 0 [some (.ref d), some (.int (nI v)), none, none, none, none, none, none, none] [] (GG L) I = E 26 12 [some (.ref d), some (.int (nI v)), none, none, none, none, none, none, none] [.int (nI q)] (GG L) I := by
    rw [B26_0 hd, i5]
    rcases hq2 with ⟨h1, h2⟩ | ⟨h1, h2⟩
    · rw [if_pos h1, h2]; rfl
    · rw [if_neg h1, h2]; rfl
  obtain ⟨I1, J1, a1, a2, hc1, f1, g1, w1⟩ := W_erase (L := L) hdq hq hc
  rw [B26_12 hd, S46 hR hv, K2_i, i7, hseq, B26_32 hd hl, S9 hd hq, K2_i, B26_39 hd hl hdq, a1, K2_v, B26_46 hd hl hdq] at b0
  have b1 := B148_0 (L := L) (x1 := nI v) (I := J)
  rw [D2, D4, hseq, hq1, a2, K2_v, B148_30] at b1
  have hQ0 : Qf n v d 0 I1 J1 := by
    refine ⟨Ry_8 hR hd81 (FI8_of f1) (FJ8_of g1), hc1, fun j hj hT => ?_, fun j hj => absurd hj (by omega)⟩
    have e7 : I1 (d + 7) = I (d + 7) := f1.1 (d + 7) (by omega)
    have e134 : J1 134 = J 134 := g1.1 134 (by decide) (by decide)
    rw [e7, e134]
    exact hV j hj (by rw [← g1.1 125 (by decide) (by decide)]; exact hT)
  obtain ⟨I2, J2, e, w, he3, he33, b0', b1', hQ2, f2, g2, w2⟩ := F_loop (L := L) (x3 := nI t) (y3 := nI t) hd hd81 hdJ hdq hq hv 10 0 3 0 rfl (by omega) (by omega) hQ0
  obtain ⟨hR2, hc2, hV2, hP2⟩ := hQ2
  obtain ⟨I3, J3, r, a3, a4, hc3, f3, g3, w3⟩ := W_head (L := L) (v := v) (s := t) hd hdq hq (by omega) ht2 hc2
  have b0'' := b0.trans b0'
  have b1'' := b1.trans b1'
  rw [B26_55 hd hl hdq, if_pos (by decide), a3, K2_i, B26_149 hd rfl] at b0''
  rw [B148_33, if_pos (by decide), a4, K2_v, B148_123] at b1''
  have fI : FI8 d I I3 := FI8_tr (FI8_tr (FI8_of f1) f2) (FI8_of f3)
  have fJ : FJ8 J J3 := FJ8_tr (FJ8_tr (FJ8_of g1) g2) (FJ8_of g3)
  have w0 : J3 119 16 = J 119 16 + (w + r) := by
    have h2 : J2 119 16 = J1 119 16 + w := by
      have := congrArg (· + w) w2
      simp only [Int32.sub_add_cancel, Int32.sub_zero] at this
      exact this
    rw [w3, h2, w1, Int32.add_assoc]
  have c1 := hc3.1
  by_cases hz : J3 120 0 = 0
  · rw [if_pos (c1.trans hz)] at b0''
    rw [if_neg (by rw [hz]; decide)] at b1''
    refine ⟨I3, J3, w + r, b0'', b1'', ⟨hc3, ?_, ?_, ?_, ?_, Or.inr ⟨p, v0, s, e0, hp, hv0, hs, he0, ?_, ?_, ?_, ?_, ?_, ?_⟩⟩, FDI_8 fI, FDJ_8 fJ, w0⟩
    · rw [fI.2 5 (by decide) (by decide), fJ.2.2 2 (by omega)]; exact d5
    · rw [fI.2 6 (by decide) (by decide), fJ.2.2 3 (by omega)]; exact d6
    · rw [fI.2 7 (by decide) (by decide), fJ.2.2 4 (by omega)]; exact d7
    · rw [fI.2 9 (by decide) (by decide), fJ.2.2 6 (by omega)]; exact d9
    · rw [fJ.2.2 2 (by omega)]; exact D2
    · rw [fJ.2.2 3 (by omega)]; exact D3
    · rw [fJ.2.2 4 (by omega)]; exact D4
    · rw [fJ.2.2 5 (by omega)]; exact D5
    · rw [fI.2 8 (by decide) (by decide)]; exact i8
    · intro k hk hT
      rw [fI.1 (d + 5) (by omega) (by omega), fI.1 (d + 6) (by omega) (by omega), fJ.2.2 (11 + k) (by omega), fJ.2.2 (117 + k) (by omega)]
      exact hVr k hk hT
  · have hone : J3 120 0 = 1 := hc3.2.1.resolve_left hz
    rw [if_neg (by rw [c1]; exact hz)] at b0''
    rw [if_pos hone] at b1''
    obtain ⟨I4, hI4⟩ : ∃ I4, uI (uI (uI (uI I3 d 5 (nI q)) d 6 (nI v)) d 7 (nI t)) d 8 (nI e) = I4 := ⟨_, rfl⟩
    obtain ⟨J4, hJ4⟩ : ∃ J4, uI (uI (uI (uI J3 120 2 (nI q)) 120 3 (nI v)) 120 4 (nI t)) 120 5 (nI e) = J4 := ⟨_, rfl⟩
    rw [hI4] at b0''
    rw [hJ4] at b1''
    obtain ⟨J5, e5, h1, h2, h3, h4⟩ := S148 (L := L) (u1 := some (.int (nI v))) (u2 := some (.int (nI q))) (u3 := some (.int (nI t))) (u4 := some (.int (nI e))) rfl 10 0 J4 rfl
    have e5' : E 148 165 [some (.ref 119), some (.int (nI v)), some (.int (nI q)), some (.int (nI t)), some (.int (nI e)), some (.int 0)] [] (GG L) J4 = some (none, GG L, J5) := e5
    rw [e5'] at b1''
    have oI4 : ∀ a, a ≠ d → I4 a = I3 a := fun a h => by rw [← hI4, uI_o _ _ _ _ _ h, uI_o _ _ _ _ _ h, uI_o _ _ _ _ _ h, uI_o _ _ _ _ _ h]
    have oJ4 : ∀ a, a ≠ 120 → J4 a = J3 a := fun a h => by rw [← hJ4, uI_o _ _ _ _ _ h, uI_o _ _ _ _ _ h, uI_o _ _ _ _ _ h, uI_o _ _ _ _ _ h]
    have pI4 : ∀ j, j ≠ 5 → j ≠ 6 → j ≠ 7 → j ≠ 8 → I4 d j = I3 d j := fun j q5 q6 q7 q8 => by rw [← hI4, uI_k _ _ _ _ _ q8, uI_k _ _ _ _ _ q7, uI_k _ _ _ _ _ q6, uI_k _ _ _ _ _ q5]
    have pJ4 : ∀ j, j < 2 ∨ 6 ≤ j → J4 120 j = J3 120 j := fun j h => by rw [← hJ4, uI_k _ _ _ _ _ (by omega), uI_k _ _ _ _ _ (by omega), uI_k _ _ _ _ _ (by omega), uI_k _ _ _ _ _ (by omega)]
    obtain ⟨I5, hI5⟩ : ∃ I5, cpI (cpI I4 (d + 7) (d + 5) 0 0 10) (d + 8) (d + 6) 0 0 10 = I5 := ⟨_, rfl⟩
    rw [hI5] at b0''
    have oI5 : ∀ a, a ≠ d + 5 → a ≠ d + 6 → I5 a = I4 a := fun a q5 q6 => by rw [← hI5, cp_o _ _ _ _ _ q6, cp_o _ _ _ _ _ q5]
    have v5 : ∀ k, k < 10 → I5 (d + 5) k = I3 (d + 7) k := fun k hk => by rw [← hI5, cp_o _ _ _ _ _ (by omega), cp_s _ _ _ _ _ hk, oI4 _ (by omega)]
    have v6 : ∀ k, k < 10 → I5 (d + 6) k = I3 (d + 8) k := fun k hk => by rw [← hI5, cp_s _ _ _ _ _ hk, cp_o _ _ _ _ _ (by omega), oI4 _ (by omega)]
    have i5d : I5 d = I4 d := oI5 d (by omega) (by omega)
    refine ⟨I5, J5, w + r, b0'', b1'', ⟨?_, ?_, ?_, ?_, ?_, Or.inr ⟨q, v, t, e, hq, hv, ht2, by omega, ?_, ?_, ?_, ?_, ?_, ?_⟩⟩, ?_, ?_, ?_⟩
    · exact Rc_keep hc3 (fun a q1 q2 => by rw [oI5 a (by omega) (by omega), oI4 a (by omega)]) (by rw [i5d, pI4 3 (by decide) (by decide) (by decide) (by decide)]) (by rw [i5d, pI4 4 (by decide) (by decide) (by decide) (by decide)]) (fun j hj => by rw [h4 j (by omega), pJ4 j (by omega)])
    · rw [i5d, h4 2 (by omega), ← hI4, ← hJ4]; simp [uI]
    · rw [i5d, h4 3 (by omega), ← hI4, ← hJ4]; simp [uI]
    · rw [i5d, h4 4 (by omega), ← hI4, ← hJ4]; simp [uI]
    · rw [i5d, h4 6 (by omega), pI4 9 (by decide) (by decide) (by decide) (by decide), pJ4 6 (by omega), fI.2 9 (by decide) (by decide), fJ.2.2 6 (by omega)]; exact d9
    · rw [h4 2 (by omega), ← hJ4]; simp [uI]
    · rw [h4 3 (by omega), ← hJ4]; simp [uI]
    · rw [h4 4 (by omega), ← hJ4]; simp [uI]
    · rw [h4 5 (by omega), ← hJ4]; simp [uI]
    · rw [i5d, ← hI4]; simp [uI]
    · intro k hk hT
      have e7 : I3 (d + 7) = I2 (d + 7) := f3.1 (d + 7) (by omega)
      have e8 : I3 (d + 8) = I2 (d + 8) := f3.1 (d + 8) (by omega)
      have e134 : J3 134 = J2 134 := g3.1 134 (by decide) (by decide)
      have e135 : J3 135 = J2 135 := g3.1 135 (by decide) (by decide)
      have e125 : J2 125 = J 125 := by rw [g2.1 125 (by decide) (by decide) (by decide), g1.1 125 (by decide) (by decide)]
      obtain ⟨z1, z2⟩ := hV2 k hk (by rw [e125]; exact hT)
      rw [v5 k hk, v6 k hk, h2 k hk, h3 k hk, if_pos (Nat.zero_le _), if_pos (Nat.zero_le _), oJ4 134 (by decide), oJ4 135 (by decide), e7, e8, e134, e135]
      exact ⟨z1, z2, hP2 k hk⟩
    · intro a ha
      rw [oI5 a (by omega) (by omega), oI4 a (by omega)]
      exact FDI_8 fI a ha
    · refine ⟨fun a q1 q2 q3 q4 => ?_, fun j hj => ?_⟩
      · rw [h1 a q2, oJ4 a q2]; exact (FDJ_8 fJ).1 a q1 q2 q3 q4
      · rw [h1 119 (by decide), oJ4 119 (by decide)]; exact (FDJ_8 fJ).2 j hj
    · rw [h1 119 (by decide), oJ4 119 (by decide)]; exact w0
