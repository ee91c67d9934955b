/-- a layout in the class, as its rows are in the reference -/
def Ly (I J : It) (v : Nat) : Prop := ∀ k, k < 10 → (J 125 (10 * v + k) = 0 ∨ J 125 (10 * v + k) = 1) ∧ I (22 + 10 * v) k = J 125 (10 * v + k) ∧ I (23 + 10 * v) k = J 126 (10 * v + k) ∧ byt (J 126 (10 * v + k)) ∧ I (24 + 10 * v) k = J 127 (10 * v + k) ∧ byt (J 127 (10 * v + k)) ∧ I (25 + 10 * v) k = J 128 (10 * v + k)
/-- the settings that are there -/
def nz (J : It) (v : Nat) (a : Nat) : Bool := !decide (J 125 (10 * v + a) = 0)
theorem nz_t {J : It} {v a : Nat} : nz J v a = true ↔ J 125 (10 * v + a) ≠ 0 := by unfold nz; simp
/-- rows of the reference that are kept outside a version -/
def Ko (v : Nat) (J J' : It) : Prop := (∀ a, a < 125 ∨ 128 < a → J' a = J a) ∧ ∀ i, i < 10 * v ∨ 10 * v + 10 ≤ i → J' 125 i = J 125 i ∧ J' 126 i = J 126 i ∧ J' 127 i = J 127 i ∧ J' 128 i = J 128 i
theorem Ko_tr {v : Nat} {J1 J2 J3 : It} (h : Ko v J1 J2) (h' : Ko v J2 J3) : Ko v J1 J3 := ⟨fun a q => (h'.1 a q).trans (h.1 a q), fun i q => ⟨(h'.2 i q).1.trans (h.2 i q).1, (h'.2 i q).2.1.trans (h.2 i q).2.1, (h'.2 i q).2.2.1.trans (h.2 i q).2.2.1, (h'.2 i q).2.2.2.trans (h.2 i q).2.2.2⟩⟩
theorem k_125 {L : Nat} : kd (GG L) 125 = 51 := by rw [GG_kd L (by decide) (by decide)]; decide +kernel
theorem l_125 {L : Nat} : ln (GG L) 125 = 60 := by rw [GG_ln L (by decide) (by decide)]; decide +kernel
theorem k_126 {L : Nat} : kd (GG L) 126 = 50 := by rw [GG_kd L (by decide) (by decide)]; decide +kernel
theorem l_126 {L : Nat} : ln (GG L) 126 = 60 := by rw [GG_ln L (by decide) (by decide)]; decide +kernel
theorem k_127 {L : Nat} : kd (GG L) 127 = 50 := by rw [GG_kd L (by decide) (by decide)]; decide +kernel
theorem l_127 {L : Nat} : ln (GG L) 127 = 60 := by rw [GG_ln L (by decide) (by decide)]; decide +kernel
/-- what one step does to a layout, on both sides: the update of four rows at one name -/
theorem Ly_u {I J : It} {v m : Nat} {b g u w : Int32} (hm : m < 10) (hl : Ly I J v) (hb : b = 0 ∨ b = 1) (hg : byt g) (hu : byt u) : Ly (uI (uI (uI (uI I (22 + 10 * v) m b) (23 + 10 * v) m g) (24 + 10 * v) m u) (25 + 10 * v) m w) (uI (uI (uI (uI J 125 (10 * v + m) b) 126 (10 * v + m) g) 127 (10 * v + m) u) 128 (10 * v + m) w) v := by
  intro k hk
  obtain ⟨t1, t2, t3, t4, t5, t6, t7⟩ := hl k hk
  have n1 : ∀ x y : Nat, x < y → (x = y) = False := fun x y h => by simp; omega
  by_cases q : k = m
  · subst q
    simp [uI, hb, hg, hu]
  · have q' : ¬ 10 * v + k = 10 * v + m := by omega
    simp [uI, q, t1, t2, t3, t4, t5, t6, t7]
theorem Ko_u {J : It} {v m : Nat} {b g u w : Int32} (hm : m < 10) : Ko v J (uI (uI (uI (uI J 125 (10 * v + m) b) 126 (10 * v + m) g) 127 (10 * v + m) u) 128 (10 * v + m) w) := by
  refine ⟨fun a q => ?_, fun i q => ?_⟩
  · rw [uI_o _ _ _ _ _ (by omega), uI_o _ _ _ _ _ (by omega), uI_o _ _ _ _ _ (by omega), uI_o _ _ _ _ _ (by omega)]
  · have q' : ¬ i = 10 * v + m := by omega
    simp [uI, q']
theorem fI_u {I : It} {v m : Nat} {b g u w : Int32} : ∀ a, a < 22 + 10 * v ∨ 25 + 10 * v < a → uI (uI (uI (uI I (22 + 10 * v) m b) (23 + 10 * v) m g) (24 + 10 * v) m u) (25 + 10 * v) m w a = I a := fun a q => by
  rw [uI_o _ _ _ _ _ (by omega), uI_o _ _ _ _ _ (by omega), uI_o _ _ _ _ _ (by omega), uI_o _ _ _ _ _ (by omega)]
/-- a write of what is there already -/
theorem uI_id {I : It} {o k : Nat} {x : Int32} (h : I o k = x) : uI I o k x = I := by
  funext a j
  unfold uI
  by_cases h1 : a = o
  · rw [if_pos h1]
    by_cases h2 : j = k
    · rw [if_pos h2, h1, h2, h]
    · rw [if_neg h2]
  · rw [if_neg h1]
theorem nz_u {J : It} {v m x : Nat} {b g u w : Int32} (hx : x ≠ m) : nz (uI (uI (uI (uI J 125 (10 * v + m) b) 126 (10 * v + m) g) 127 (10 * v + m) u) 128 (10 * v + m) w) v x = nz J v x := by
  unfold nz
  have : ¬ 10 * v + x = 10 * v + m := by omega
  simp [uI, this, hx]
