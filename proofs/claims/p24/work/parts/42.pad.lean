/-! ===== p24: the pad as a list of characters ===== -/
def cT (t : List Nat) : Nat → Nat := fun k => t.getD k 0
theorem cT_l {t s : List Nat} {k : Nat} (h : k < t.length) : cT (t ++ s) k = cT t k := by
  unfold cT
  rw [List.getD_eq_getElem?_getD, List.getD_eq_getElem?_getD, List.getElem?_append_left h]
theorem cT_r (t s : List Nat) (k : Nat) : cT (t ++ s) (t.length + k) = cT s k := by
  unfold cT
  rw [List.getD_eq_getElem?_getD, List.getD_eq_getElem?_getD, List.getElem?_append_right (Nat.le_add_right _ _), Nat.add_sub_cancel_left]
theorem cT_end {t : List Nat} {k : Nat} (h : t.length ≤ k) : cT t k = 0 := by
  unfold cT
  rw [List.getD_eq_getElem?_getD, List.getElem?_eq_none h]; rfl
/-- characters -/
def Ch (t : List Nat) : Prop := ∀ c, c ∈ t → 33 ≤ c ∧ c ≤ 126
theorem Ch_app {t s : List Nat} (h : Ch t) (h' : Ch s) : Ch (t ++ s) := fun c hc => by
  rcases List.mem_append.mp hc with q | q
  · exact h c q
  · exact h' c q
theorem Ch_at {t : List Nat} (h : Ch t) {k : Nat} (hk : k < t.length) : 33 ≤ cT t k ∧ cT t k ≤ 126 := by
  refine h _ ?_
  unfold cT
  rw [List.getD_eq_getElem?_getD, List.getElem?_eq_getElem hk]
  exact List.getElem_mem hk
theorem Tc_T {t : List Nat} (h : Ch t) (hl : t.length ≤ 80) : Tc t.length (cT t) := ⟨hl, fun _ hk => Ch_at h hk, fun _ hk => cT_end hk⟩
/-- the pad holds a text -/
def Pd (t : List Nat) (I : It) : Prop := TI t.length (cT t) I
/-- a number out of characters, the last one first -/
def vr : List Nat → Nat
  | [] => 0
  | c :: t => c + 256 * vr t
theorem vr_lt : ∀ (t : List Nat), Ch t → vr t < 2 ^ (8 * t.length) := by
  intro t
  induction t with
  | nil => intro _; decide
  | cons c t ih =>
    intro h
    have h1 := ih (fun x hx => h x (List.mem_cons_of_mem _ hx))
    have h2 := h c List.mem_cons_self
    show c + 256 * vr t < 2 ^ (8 * (t.length + 1))
    rw [Nat.mul_add, Nat.pow_add]
    have : (2 : Nat) ^ (8 * 1) = 256 := by decide
    rw [this]
    omega
theorem vr_by : ∀ (t : List Nat) (k : Nat), Ch t → k < t.length → by8 (vr t) k = cT t k := by
  intro t
  induction t with
  | nil => intro k _ h; exact absurd h (Nat.not_lt_zero _)
  | cons c t ih =>
    intro k h hk
    have h2 := h c List.mem_cons_self
    cases k with
    | zero =>
      show (c + 256 * vr t) / 2 ^ (8 * 0) % 256 = c
      rw [show (2 : Nat) ^ (8 * 0) = 1 by decide, Nat.div_one]
      omega
    | succ k =>
      have h1 := ih k (fun x hx => h x (List.mem_cons_of_mem _ hx)) (by simpa using hk)
      rw [show cT (c :: t) (k + 1) = cT t k from rfl, ← h1]
      show (c + 256 * vr t) / 2 ^ (8 * (k + 1)) % 256 = vr t / 2 ^ (8 * k) % 256
      rw [← dv8, Nat.div_div_eq_div_mul, Nat.mul_comm (2 ^ (8 * k)), ← Nat.div_div_eq_div_mul, show (2 : Nat) ^ 8 = 256 by decide, show (c + 256 * vr t) / 256 = vr t by omega]
/-- what only the pad's text has changed -/
def FP (I I' : It) : Prop := ∀ a, a ≠ 2 → a ≠ 3 → I' a = I a
theorem FP_tr {I1 I2 I3 : It} (h : FP I1 I2) (h' : FP I2 I3) : FP I1 I3 := fun a q1 q2 => (h' a q1 q2).trans (h a q1 q2)
theorem FP_r (I : It) : FP I I := fun _ _ _ => rfl
/-- characters put -/
theorem T_put {L : Nat × Nat} {t s : List Nat} {I : It} (hs : Ch s) (h0 : 0 < s.length) (h8 : s.length ≤ 8) (hl : t.length + s.length ≤ 80) (h : Pd t I) : ∃ I', E 110 0 [some (.ref 1), some (.long (lN (vr s.reverse))), none] [] (GG L) I = some (some (.int (nI (t.length + s.length))), GG L, I') ∧ Pd (t ++ s) I' ∧ FP I I' := by
  have hr : Ch s.reverse := fun c hc => hs c (List.mem_reverse.mp hc)
  have hrl : s.reverse.length = s.length := List.length_reverse
  have hlt := vr_lt s.reverse hr
  rw [hrl] at hlt
  obtain ⟨u, hu⟩ : ∃ u, vr s.reverse = u := ⟨_, rfl⟩
  obtain ⟨m, hm⟩ : ∃ m, s.length = m := ⟨_, rfl⟩
  rw [hm] at hlt hl h8 h0
  rw [hu] at hlt ⊢
  rw [hm]
  have hu64 : u < 2 ^ 64 := Nat.lt_of_lt_of_le hlt (Nat.pow_le_pow_right (by decide) (by omega))
  have hby : ∀ k, k < m → by8 u k = cT s.reverse k := fun k hk => by rw [← hu]; exact vr_by _ k hr (by omega)
  have hrev : ∀ k, k < m → cT s.reverse k = cT s (m - 1 - k) := fun k hk => by
    unfold cT
    rw [List.getD_eq_getElem?_getD, List.getD_eq_getElem?_getD, List.getElem?_reverse (by omega), hm]
  have hb : ∀ k, k < m → 33 ≤ by8 u k ∧ by8 u k ≤ 126 := fun k hk => by rw [hby k hk]; exact Ch_at hr (by omega)
  have hz : u / 2 ^ (8 * m) = 0 := Nat.div_eq_of_lt hlt
  have hcnt := S54 (L := L) (I := I) hu64 h8 hz hb m 0 (u0 := some (.long (lN u))) (u1 := none) (u5 := none) (u6 := none) rfl rfl rfl
  rw [show u / 2 ^ (8 * 0) = u by simp] at hcnt
  have hcnt' : E 54 5 [some (.long (lN u)), none, some (.long (lN u)), none, some (.int 0), none, none] [] (GG L) I = some (some (.int (nI m)), GG L, I) := hcnt
  obtain ⟨I', e1, g1, g2, g3⟩ := S53 (L := L) (u := u) (l := t.length) (m := m) hu64 h8 hl m (I := I) (x4 := nI m - 1) (u3 := some (.int (nI m))) rfl (Nat.le_refl _) rfl (by rw [Nat.sub_self]; exact h.1)
  refine ⟨I', ?_, ⟨by rw [g1, List.length_append, hm], fun k hk => ?_⟩, g2⟩
  · rw [B110_0, B53_0, B54_0, hcnt', K2_i, B53_4, if_neg (nI_ne0 h0 (by omega)), h.1, nI_add, if_pos (show nI (t.length + m) ≤ (80 : Int32) from nI_le (b := 80) hl (by decide)), e1, K2_i, B110_8]
  · rw [List.length_append, hm] at hk
    rw [g3 k, Nat.sub_self]
    by_cases q : k < t.length
    · rw [if_neg (by omega), h.2 k q, cT_l q]
    · rw [if_pos (by omega), hby _ (by omega), hrev _ (by omega)]
      have e : k = t.length + (k - t.length) := by omega
      rw [e, cT_r]
      congr 2
      omega
/-- the digits of a number -/
def dg (v : Nat) : List Nat := (if 99 < v then [48 + v / 100] else []) ++ ((if 9 < v then [48 + v / 10 % 10] else []) ++ [48 + v % 10])
theorem dg_Ch {v : Nat} (h : v < 256) : Ch (dg v) := by
  intro c hc
  unfold dg at hc
  rcases List.mem_append.mp hc with q | q
  · split at q
    · rw [List.mem_singleton.mp q]; omega
    · cases q
  · rcases List.mem_append.mp q with q | q
    · split at q
      · rw [List.mem_singleton.mp q]; omega
      · cases q
    · rw [List.mem_singleton.mp q]; omega
theorem dg_len {v : Nat} : (dg v).length = (if 99 < v then 1 else 0) + ((if 9 < v then 1 else 0) + 1) := by
  unfold dg
  rw [List.length_append, List.length_append]
  by_cases h1 : 99 < v <;> by_cases h2 : 9 < v <;> simp [h1, h2]
theorem dg_le {v : Nat} : (dg v).length ≤ 3 := by
  rw [dg_len]
  split <;> split <;> omega
/-- a number read -/
theorem nu_dg {c : Nat → Nat} {a v : Nat} (hv : v < 256) (hd : ∀ i, i < (dg v).length → c (a + i) = cT (dg v) i) (he : ¬ (48 ≤ c (a + (dg v).length) ∧ c (a + (dg v).length) ≤ 57)) : nu c a = some (v, a + (dg v).length) := by
  unfold nu
  by_cases h1 : 99 < v
  · have hl : (dg v).length = 3 := by rw [dg_len, if_pos h1, if_pos (by omega)]
    have hdg : dg v = [48 + v / 100, 48 + v / 10 % 10, 48 + v % 10] := by unfold dg; rw [if_pos h1, if_pos (by omega)]; rfl
    rw [hl] at hd
    have d0 : c a = 48 + v / 100 := by have := hd 0 (by decide); rw [hdg] at this; exact this
    have d1 : c (a + 1) = 48 + v / 10 % 10 := by have := hd 1 (by decide); rw [hdg] at this; exact this
    have d2 : c (a + 2) = 48 + v % 10 := by have := hd 2 (by decide); rw [hdg] at this; exact this
    rw [d0, d1, d2, if_pos (by omega), if_pos (by omega), if_pos (by omega), hl]
    congr 2
    omega
  · by_cases h2 : 9 < v
    · have hl : (dg v).length = 2 := by rw [dg_len, if_neg h1, if_pos h2]
      have hdg : dg v = [48 + v / 10 % 10, 48 + v % 10] := by unfold dg; rw [if_neg h1, if_pos h2]; rfl
      rw [hl] at hd he
      have d0 : c a = 48 + v / 10 % 10 := by have := hd 0 (by decide); rw [hdg] at this; exact this
      have d1 : c (a + 1) = 48 + v % 10 := by have := hd 1 (by decide); rw [hdg] at this; exact this
      rw [d0, d1, if_pos (by omega), if_pos (by omega), if_neg (fun z => he ⟨z.1, z.2.1⟩), hl]
      congr 2
      omega
    · have hl : (dg v).length = 1 := by rw [dg_len, if_neg h1, if_neg h2]
      have hdg : dg v = [48 + v % 10] := by unfold dg; rw [if_neg h1, if_neg h2]; rfl
      rw [hl] at hd he
      have d0 : c a = 48 + v % 10 := by have := hd 0 (by decide); rw [hdg] at this; exact this
      rw [d0, if_pos (by omega), if_neg (fun z => he z.2), hl]
      congr 2
      omega
theorem long1 {c : Nat} (hc : c < 256) : (nI c).toInt64 = lN (vr [c].reverse) := by
  show _ = lN (c + 256 * 0)
  rw [nI_l (by omega), Nat.mul_zero, Nat.add_zero]
/-- a number put by the law -/
theorem T_num {L : Nat × Nat} {t : List Nat} {v : Nat} {I : It} (hv : v < 256) (hl : t.length + 3 ≤ 80) (h : Pd t I) : ∃ I', E 124 0 [some (.ref 1), some (.int (nI v))] [] (GG L) I = some (none, GG L, I') ∧ Pd (t ++ dg v) I' ∧ FP I I' := by
  have h100 : nI v / 100 = nI (v / 100) := nI_div (k := 100) (by omega) (by decide)
  have h10 : nI v / 10 = nI (v / 10) := nI_div (k := 10) (by omega) (by decide)
  have r10 : nI v - nI v / 10 * 10 = nI (v % 10) := nI_rem (k := 10) (by omega) (by decide)
  have r100 : nI (v / 10) - nI (v / 10) / 10 * 10 = nI (v / 10 % 10) := nI_rem (k := 10) (by omega) (by decide)
  -- the last digit
  have last : ∀ (t : List Nat) (I : It), t.length + 1 ≤ 80 → Pd t I → ∃ I', K2 124 53 [some (.ref 1), some (.int (nI v))] [] (E 110 0 [some (.ref 1), some (.long ((48 + (nI v - nI v / 10 * 10)) : Int32).toInt64), none] [] (GG L) I) = some (none, GG L, I') ∧ Pd (t ++ [48 + v % 10]) I' ∧ FP I I' := by
    intro t I hl h
    have e : ((48 + (nI v - nI v / 10 * 10)) : Int32).toInt64 = lN (vr [48 + v % 10].reverse) := by
      rw [r10, show (48 : Int32) = nI 48 from rfl, nI_add]; exact long1 (by omega)
    obtain ⟨I', a1, a2, a3⟩ := T_put (L := L) (s := [48 + v % 10]) (fun c hc => by rw [List.mem_singleton.mp hc]; omega) (Nat.succ_pos 0) (show 1 ≤ 8 by decide) hl h
    exact ⟨I', by rw [e, a1, K2_i, B124_53], a2, a3⟩
  have mid : ∀ (t : List Nat) (I : It), t.length + 2 ≤ 80 → Pd t I → ∃ I', E 124 19 [some (.ref 1), some (.int (nI v))] [] (GG L) I = some (none, GG L, I') ∧ Pd (t ++ ((if 9 < v then [48 + v / 10 % 10] else []) ++ [48 + v % 10])) I' ∧ FP I I' := by
    intro t I hl h
    by_cases h9 : 9 < v
    · have e : ((48 + ((nI v / 10) - (nI v / 10) / 10 * 10)) : Int32).toInt64 = lN (vr [48 + v / 10 % 10].reverse) := by
        rw [h10, r100, show (48 : Int32) = nI 48 from rfl, nI_add]; exact long1 (by omega)
      obtain ⟨I1, a1, a2, a3⟩ := T_put (L := L) (s := [48 + v / 10 % 10]) (fun c hc => by rw [List.mem_singleton.mp hc]; omega) (Nat.succ_pos 0) (show 1 ≤ 8 by decide) (show t.length + 1 ≤ 80 by omega) h
      obtain ⟨I2, b1, b2, b3⟩ := last _ I1 (by rw [List.length_append]; exact hl) a2
      refine ⟨I2, ?_, ?_, FP_tr a3 b3⟩
      · rw [B124_19, if_neg (show ¬ nI v ≤ (9 : Int32) from nI_ge (a := 9) (b := v) h9 (by omega)), e, a1, K2_i, B124_40, b1]
      · rw [if_pos h9, ← List.append_assoc]; exact b2
    · obtain ⟨I2, b1, b2, b3⟩ := last t I (by omega) h
      refine ⟨I2, ?_, ?_, b3⟩
      · rw [B124_19, if_pos (show nI v ≤ (9 : Int32) from nI_le (b := 9) (by omega) (by decide)), b1]
      · rw [if_neg h9]; exact b2
  by_cases h99 : 99 < v
  · have e : ((48 + (nI v / 100)) : Int32).toInt64 = lN (vr [48 + v / 100].reverse) := by
      rw [h100, show (48 : Int32) = nI 48 from rfl, nI_add]; exact long1 (by omega)
    obtain ⟨I1, a1, a2, a3⟩ := T_put (L := L) (s := [48 + v / 100]) (fun c hc => by rw [List.mem_singleton.mp hc]; omega) (Nat.succ_pos 0) (show 1 ≤ 8 by decide) (show t.length + 1 ≤ 80 by omega) h
    obtain ⟨I2, b1, b2, b3⟩ := mid _ I1 (by rw [List.length_append]; exact hl) a2
    refine ⟨I2, ?_, ?_, FP_tr a3 b3⟩
    · rw [B124_0, if_neg (show ¬ nI v ≤ (99 : Int32) from nI_ge (a := 99) (b := v) h99 (by omega)), e, a1, K2_i, B124_18, b1]
    · unfold dg; rw [if_pos h99, ← List.append_assoc]; exact b2
  · obtain ⟨I2, b1, b2, b3⟩ := mid t I (by omega) h
    refine ⟨I2, ?_, ?_, b3⟩
    · rw [B124_0, if_pos (show nI v ≤ (99 : Int32) from nI_le (b := 99) (by omega) (by decide)), b1]
    · unfold dg; rw [if_neg h99]; exact b2
