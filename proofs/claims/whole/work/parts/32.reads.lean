theorem Qr_8 {n v d p i : Nat} {x : Int32} {I J : It} (hd81 : 81 ≤ d) (h : Qr n v d p i I J) : Qr n v d p i (uI I d 8 x) J := by
  obtain ⟨hR, hc, h6, h9, h19, hV⟩ := h
  have v1 : ∀ q, q ≠ d → uI I d 8 x q = I q := fun q h => uI_o _ _ _ _ _ h
  refine ⟨Ry_congr hR (fun a ha => v1 a (by omega)) rfl (fun _ _ _ => rfl), Rc_keep hc (fun a q1 q2 => v1 a (by omega)) (uI_k _ _ _ _ _ (by decide)) (uI_k _ _ _ _ _ (by decide)) (fun _ _ => rfl), (uI_k _ _ _ _ _ (by decide)).trans h6, (uI_k _ _ _ _ _ (by decide)).trans h9, h19, fun k hk hT => ?_⟩
  rw [v1 _ (by omega), v1 _ (by omega)]
  exact hV k hk hT
/-- the records of a page read, on both sides -/
theorem R_all {L n d p v : Nat} (hd : kd (GG L) d = 0) (hd81 : 81 ≤ d) (hdJ : d + 6 < 119) (hdp : kd (GG L) (d + 1 + 2 * p) = 4) (hd5 : kd (GG L) (d + 5) = 50) (ld5 : ln (GG L) (d + 5) = 10) (hp : p < 2) (hv : v < n) : ∀ (m i : Nat) {I J : It} {u3 : Option Value}, 3 * m + i = 48 → 3 ≤ i → Qr n v d p i I J →
    ∃ I' J' e, e ≤ 48 ∧ E 20 2 [some (.ref d), some (.ref (d + 1 + 2 * p)), some (.int (nI i)), u3] [] (GG L) I = some (none, GG L, I') ∧ E 141 15 [some (.ref 119), some (.int (nI p)), some (.int (nI v)), some (.int 1)] [] (GG L) J = some (none, GG L, J') ∧ I' d 8 = nI e ∧ Qr n v d p e I' J' ∧ FRI d I I' ∧ FRJ J J' := by
  intro m
  induction m with
  | zero =>
    intro i I J u3 hm h3 hQ
    have hi : i = 48 := by omega
    subst hi
    refine ⟨uI I d 8 (nI 48), J, 48, Nat.le_refl _, ?_, ?_, uI_s _ _ _ _, Qr_8 hd81 hQ, ⟨fun a q1 _ _ => uI_o _ _ _ _ _ q1, fun j q1 _ => uI_k _ _ _ _ _ q1⟩, ⟨fun _ _ _ => rfl, fun _ _ _ _ => rfl, fun _ _ => rfl⟩⟩
    · rw [B20_2 hd hdp, if_pos (by decide)]
    · rw [B141_15, hQ.2.2.2.2.1, if_pos (by decide)]
  | succ m ih =>
    intro i I J u3 hm h3 hQ
    rcases R_step (u3 := u3) hd hd81 hdJ hdp hd5 ld5 hp hv h3 (by omega) hQ with ⟨e1, e2⟩ | ⟨I1, J1, u, e1, e2, hQ1, f1, g1⟩
    · exact ⟨_, _, i, by omega, e1, e2, uI_s _ _ _ _, Qr_8 hd81 hQ, ⟨fun a q1 _ _ => uI_o _ _ _ _ _ q1, fun j q1 _ => uI_k _ _ _ _ _ q1⟩, ⟨fun _ _ _ => rfl, fun _ _ _ _ => rfl, fun _ _ => rfl⟩⟩
    · obtain ⟨I', J', e, he, a1, a2, a3, a4, a5, a6⟩ := ih (i + 3) (u3 := u) (by omega) (by omega) hQ1
      exact ⟨I', J', e, he, e1.trans a1, e2.trans a2, a3, a4, FRI_tr f1 a5, FRJ_tr g1 a6⟩
/-- a device as a row of the reference has it -/
def Rd (n : Nat) (T : Nat → Int32) (I : It) (d : Nat) (D : Nat → Int32) : Prop := Rc I d D ∧ I d 5 = D 2 ∧ I d 6 = D 3 ∧ I d 7 = D 4 ∧ I d 9 = D 6 ∧
  ((D 2 = -6 ∧ D 3 = -6 ∧ D 4 = -6 ∧ I d 8 = 48) ∨ ∃ p v s e, p < 2 ∧ v < n ∧ s < 200 ∧ e ≤ 48 ∧ D 2 = nI p ∧ D 3 = nI v ∧ D 4 = nI s ∧ D 5 = nI e ∧ I d 8 = nI e ∧ Vr T v I d D)
