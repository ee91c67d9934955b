/-! ===== p24: what the calls make of an active page ===== -/
theorem pa_cn {w : Pw} {T : Nat} (h : pa w T ≠ none) : cn w T = T := by
  rcases w with _ | _ | m
  · exact absurd rfl h
  · rfl
  · simp only [pa] at h
    by_cases q : T ≤ m
    · simp only [cn]; omega
    · rw [if_neg q] at h; exact absurd rfl h
theorem pa_cut {w : Pw} {T : Nat} (hw : w ≠ none) (h : pa w T = none) : cn w T < T := by
  rcases w with _ | _ | m
  · exact absurd rfl hw
  · cases h
  · simp only [pa] at h
    by_cases q : T ≤ m
    · rw [if_pos q] at h; cases h
    · simp only [cn]; omega
theorem sum_up {W : Nat → Int32} {q : Nat} {y : Int32} (hq : q < 2) : up W q (W q + y) 0 + up W q (W q + y) 1 = W 0 + W 1 + y := by
  have : q = 0 ∨ q = 1 := by omega
  rcases this with rfl | rfl
  · rw [up_s, up_k _ _ _ (by decide), Int32.add_assoc, Int32.add_comm y, ← Int32.add_assoc]
  · rw [up_s, up_k _ _ _ (by decide), Int32.add_assoc]
section OP
variable {n a v s r : Nat} {g e : Nat → Nat → Nat} {x : Nat → Nat} {P : Pc}
theorem fl_len (e : Nat → Nat → Nat) (v t : Nat) (y : Nat → Nat) : ((fls e v y 3).1 ++ hcl v t).length = 3 * (fls e v y 3).2 + 3 := by
  rw [List.length_append, (fls_le e v y 3).2]; rfl
theorem fill_pw (q v t : Nat) (y : Nat → Nat) : (wS q ((fls e v y 3).1 ++ hcl v t) (eS q P)).1 = pa P.1 (3 * (fls e v y 3).2 + 3) := by
  show pa P.1 ((fls e v y 3).1 ++ hcl v t).length = _
  rw [fl_len]
theorem fill_W (q v t : Nat) (y : Nat → Nat) : (fillS e P q v t y).2.2.1 = up P.2.2.1 q (P.2.2.1 q + nI (fillN e P v y)) := by
  have h1 : (wS q ((fls e v y 3).1 ++ hcl v t) (eS q P)).2.2.1 = up P.2.2.1 q (P.2.2.1 q + nI (fillN e P v y)) := by
    show up P.2.2.1 q (P.2.2.1 q + nI (cn P.1 ((fls e v y 3).1 ++ hcl v t).length)) = _
    rw [fl_len]; rfl
  unfold fillS
  split
  · exact h1
  · exact h1
theorem fill_C (q v t : Nat) (y : Nat → Nat) : (fillS e P q v t y).2.2.2.2.1 = up P.2.2.2.2.1 q (wl (((fls e v y 3).1 ++ hcl v t).take (cn P.1 (3 * (fls e v y 3).2 + 3))) m6F) := by
  have h1 : (wS q ((fls e v y 3).1 ++ hcl v t) (eS q P)).2.2.2.2.1 = up P.2.2.2.2.1 q (wl (((fls e v y 3).1 ++ hcl v t).take (cn P.1 (3 * (fls e v y 3).2 + 3))) m6F) := by
    show up (up P.2.2.2.2.1 q (fun _ => -6)) q (wl (((fls e v y 3).1 ++ hcl v t).take (cn P.1 ((fls e v y 3).1 ++ hcl v t).length)) ((up P.2.2.2.2.1 q (fun _ => -6)) q)) = _
    rw [fl_len, up_up, up_s]; rfl
  unfold fillS
  split
  · exact h1
  · exact h1
theorem fill_done (hG : Gk g e) (h : Iw g e P a v s r x) {v' : Nat} (hv' : v' < 3) {y : Nat → Nat} (hy : ∀ k, k < 3 → y k ≤ g v' k) (hp : pa P.1 (3 * (fls e v' y 3).2 + 3) ≠ none) : (fillS e P (1 - a) v' ((s + 1) % 200) y).1 = pa P.1 (3 * (fls e v' y 3).2 + 3) ∧ Iw g e (fillS e P (1 - a) v' ((s + 1) % 200) y) (1 - a) v' ((s + 1) % 200) (fls e v' y 3).2 y := by
  have hC := fill_C (e := e) (P := P) (1 - a) v' ((s + 1) % 200) y
  rw [pa_cn hp, ← fl_len e v' ((s + 1) % 200) y, List.take_length] at hC
  have hg := fill_good hG h.2.2 hv' hy
  have hpw := fill_pw (e := e) (P := P) (1 - a) v' ((s + 1) % 200) y
  have hne : (wS (1 - a) ((fls e v' y 3).1 ++ hcl v' ((s + 1) % 200)) (eS (1 - a) P)).1 ≠ none := by rw [hpw]; exact hp
  rw [← hC] at hg
  have e0 : fillS e P (1 - a) v' ((s + 1) % 200) y = _ := if_neg hne
  refine ⟨by rw [e0]; exact hpw, ⟨?_, ?_, ?_, ?_, hg.1⟩, ?_, ?_⟩
  · rw [e0]; rfl
  · rw [e0]; rfl
  · rw [e0]; rfl
  · rw [e0]; rfl
  · rw [e0]
  · have eQ : (fillS e P (1 - a) v' ((s + 1) % 200) y).2.2.2.2.2.2 = fpl e v' y := by rw [e0]
    rw [eQ]; exact hg
theorem fill_off (hw : P.1 ≠ none) (h : Iw g e P a v s r x) {v' : Nat} {y : Nat → Nat} (hp : pa P.1 (3 * (fls e v' y 3).2 + 3) = none) : (fillS e P (1 - a) v' ((s + 1) % 200) y).1 = none ∧ (fillS e P (1 - a) v' ((s + 1) % 200) y).2.1 = P.2.1 ∧ (fillS e P (1 - a) v' ((s + 1) % 200) y).2.2.2.2.2 = P.2.2.2.2.2 ∧ Cw g e (fillS e P (1 - a) v' ((s + 1) % 200) y).2.2.2.2.1 a v s r x P.2.2.2.2.2.2 := by
  have hpw := fill_pw (e := e) (P := P) (1 - a) v' ((s + 1) % 200) y
  have hz : (wS (1 - a) ((fls e v' y 3).1 ++ hcl v' ((s + 1) % 200)) (eS (1 - a) P)).1 = none := hpw.trans hp
  have e0 : fillS e P (1 - a) v' ((s + 1) % 200) y = _ := if_pos hz
  refine ⟨by rw [e0]; exact hz, by rw [e0]; rfl, by rw [e0]; rfl, ?_⟩
  rw [fill_C]
  exact fill_cut h.2.2 (by rw [fl_len]; exact pa_cut hw hp)
/-- how many cells a change would write -/
def chT (e : Nat → Nat → Nat) (v r : Nat) (x : Nat → Nat) (k c : Nat) : Nat := if x k = c then 0 else if r < 15 then 3 else 3 * (fls e v (up x k c) 3).2 + 3
theorem chN_eq (e : Nat → Nat → Nat) (P : Pc) (v r : Nat) (x : Nat → Nat) (k c : Nat) : chN e P v r x k c = cn P.1 (chT e v r x k c) := by
  unfold chN chT fillN
  split
  · exact (Nat.le_zero.mp (cn_le _ 0)).symm
  · split <;> rfl
theorem ch_same {k c : Nat} (hk : x k = c) : chS e P a v s r x k c = P ∧ chT e v r x k c = 0 ∧ up x k c = x := by
  refine ⟨if_pos hk, if_pos hk, ?_⟩
  rw [← hk]; exact up_self _ _
theorem up_le {k c : Nat} (h : ∀ j, j < 3 → x j ≤ g v j) (hc : c ≤ g v k) : ∀ j, j < 3 → up x k c j ≤ g v j := fun j hj => by
  by_cases z : j = k
  · rw [z, up_s]; exact hc
  · rw [up_k _ _ _ z]; exact h j hj
theorem ch_rec {k c : Nat} (h : Iw g e P a v s r x) (hk : k < 3) (hc : c ≤ g v k) (hne : x k ≠ c) (hr : r < 15) (hp : pa P.1 3 ≠ none) : (chS e P a v s r x k c).1 = pa P.1 3 ∧ Iw g e (chS e P a v s r x k c) a v s (r + 1) (up x k c) ∧ (chS e P a v s r x k c).2.2.2.2.1 = up P.2.2.2.2.1 a (wl (rcl (3 + 3 * r) k c v) (P.2.2.2.2.1 a)) ∧ (chS e P a v s r x k c).2.2.2.2.2.2 = up P.2.2.2.2.2.2 k (nI (3 + 3 * r)) := by
  have e0 : chS e P a v s r x k c = ((wS a (rcl (3 + 3 * r) k c v) P).1, up P.2.1 8 (nI (3 + 3 * (r + 1))), (wS a (rcl (3 + 3 * r) k c v) P).2.2.1, P.2.2.2.1, (wS a (rcl (3 + 3 * r) k c v) P).2.2.2.2.1, nV (up x k c), up P.2.2.2.2.2.2 k (nI (3 + 3 * r))) := by
    unfold chS; rw [if_neg hne, if_pos hr, if_neg hp]
  have eC : (wS a (rcl (3 + 3 * r) k c v) P).2.2.2.2.1 = up P.2.2.2.2.1 a (wl (rcl (3 + 3 * r) k c v) (P.2.2.2.2.1 a)) := by
    show up P.2.2.2.2.1 a (wl ((rcl (3 + 3 * r) k c v).take (cn P.1 3)) (P.2.2.2.2.1 a)) = _
    rw [pa_cn hp]; rfl
  have hg := rec_good h.2.2 hr hk hc
  obtain ⟨⟨g5, g6, g7, g8, gr⟩, hV, hC⟩ := h
  rw [e0]
  refine ⟨rfl, ⟨⟨?_, ?_, ?_, ?_, hg.1⟩, rfl, ?_⟩, eC, rfl⟩
  · exact (up_k P.2.1 8 (nI (3 + 3 * (r + 1))) (show 5 ≠ 8 by decide)).trans g5
  · exact (up_k P.2.1 8 (nI (3 + 3 * (r + 1))) (show 6 ≠ 8 by decide)).trans g6
  · exact (up_k P.2.1 8 (nI (3 + 3 * (r + 1))) (show 7 ≠ 8 by decide)).trans g7
  · exact up_s P.2.1 8 _
  · show Cw g e (wS a (rcl (3 + 3 * r) k c v) P).2.2.2.2.1 a v s (r + 1) (up x k c) (up P.2.2.2.2.2.2 k (nI (3 + 3 * r)))
    rw [eC]; exact hg
theorem ch_fill {k c : Nat} (hG : Gk g e) (h : Iw g e P a v s r x) (hc : c ≤ g v k) (hne : x k ≠ c) (hr : ¬ r < 15) (hp : pa P.1 (3 * (fls e v (up x k c) 3).2 + 3) ≠ none) : (chS e P a v s r x k c).1 = pa P.1 (3 * (fls e v (up x k c) 3).2 + 3) ∧ Iw g e (chS e P a v s r x k c) (1 - a) v ((s + 1) % 200) (fls e v (up x k c) 3).2 (up x k c) := by
  have e0 : chS e P a v s r x k c = fillS e P (1 - a) v ((s + 1) % 200) (up x k c) := by
    unfold chS; rw [if_neg hne, if_neg hr]
  rw [e0]
  exact fill_done hG h h.1.2.2.2.2.2.1 (up_le h.2.2.2.2.2.2.2.2.2 hc) hp
theorem ch_W {k c : Nat} (h : Iw g e P a v s r x) : (chS e P a v s r x k c).2.2.1 0 + (chS e P a v s r x k c).2.2.1 1 = P.2.2.1 0 + P.2.2.1 1 + nI (chN e P v r x k c) := by
  have ha := h.1.2.2.2.2.1
  unfold chS chN
  by_cases hk : x k = c
  · rw [if_pos hk, if_pos hk, show nI 0 = 0 from rfl, Int32.add_zero]
  · rw [if_neg hk, if_neg hk]
    by_cases hr : r < 15
    · rw [if_pos hr, if_pos hr]
      have : ∀ (b : Prop) [Decidable b] (Z : Pc), Z.2.2.1 = (wS a (rcl (3 + 3 * r) k c v) P).2.2.1 → (if b then wS a (rcl (3 + 3 * r) k c v) P else Z).2.2.1 = (wS a (rcl (3 + 3 * r) k c v) P).2.2.1 := fun b _ Z hZ => by
        split
        · rfl
        · exact hZ
      rw [this]
      · exact sum_up ha
      · rfl
    · rw [if_neg hr, if_neg hr, fill_W]
      exact sum_up (by omega)
/-- a change, done or cut off -/
theorem ch_all {k c : Nat} (hG : Gk g e) (hw : P.1 ≠ none) (h : Iw g e P a v s r x) (hk : k < 3) (hc : c ≤ g v k) :
    (pa P.1 (chT e v r x k c) ≠ none ∧ (chS e P a v s r x k c).1 = pa P.1 (chT e v r x k c) ∧ ∃ a' s' r', Iw g e (chS e P a v s r x k c) a' v s' r' (up x k c)) ∨
    (pa P.1 (chT e v r x k c) = none ∧ (chS e P a v s r x k c).1 = none ∧ (chS e P a v s r x k c).2.1 = P.2.1 ∧ ∃ r', Cw g e (chS e P a v s r x k c).2.2.2.2.1 a v s r' x P.2.2.2.2.2.2) := by
  by_cases hp : pa P.1 (chT e v r x k c) = none
  · refine Or.inr ⟨hp, ?_⟩
    by_cases hx : x k = c
    · rw [show chT e v r x k c = 0 from if_pos hx, pa_0] at hp
      exact absurd hp hw
    · by_cases hr : r < 15
      · rw [show chT e v r x k c = 3 from (if_neg hx).trans (if_pos hr)] at hp
        have e0 : chS e P a v s r x k c = wS a (rcl (3 + 3 * r) k c v) P := by
          unfold chS; rw [if_neg hx, if_pos hr, if_pos hp]
        rw [e0]
        exact ⟨hp, rfl, rec_cut hG h.2.2 hr hk (pa_cut hw hp)⟩
      · rw [show chT e v r x k c = 3 * (fls e v (up x k c) 3).2 + 3 from (if_neg hx).trans (if_neg hr)] at hp
        have e0 : chS e P a v s r x k c = fillS e P (1 - a) v ((s + 1) % 200) (up x k c) := by
          unfold chS; rw [if_neg hx, if_neg hr]
        rw [e0]
        obtain ⟨q1, q2, -, q4⟩ := fill_off hw h hp
        exact ⟨q1, q2, r, q4⟩
  · refine Or.inl ⟨hp, ?_⟩
    by_cases hx : x k = c
    · obtain ⟨e1, e2, e3⟩ := ch_same (e := e) (P := P) (a := a) (v := v) (s := s) (r := r) hx
      rw [e1, e2, e3, pa_0]
      exact ⟨rfl, a, s, r, h⟩
    · by_cases hr : r < 15
      · rw [show chT e v r x k c = 3 from (if_neg hx).trans (if_pos hr)] at hp ⊢
        obtain ⟨q1, q2, -⟩ := ch_rec h hk hc hx hr hp
        exact ⟨q1, _, _, _, q2⟩
      · rw [show chT e v r x k c = 3 * (fls e v (up x k c) 3).2 + 3 from (if_neg hx).trans (if_neg hr)] at hp ⊢
        obtain ⟨q1, q2⟩ := ch_fill hG h hc hx hr hp
        exact ⟨q1, _, _, _, q2⟩
/-- no setting is other than its default -/
theorem fls_df (e : Nat → Nat → Nat) (v : Nat) : ∀ k, fls e v (e v) k = ([], 0) := by
  intro k
  induction k with
  | zero => rfl
  | succ k ih => rw [fls_s rfl]; exact ih
theorem reset_Iv (hG : Gk g e) (hP : P.1 = some none) {t : Nat} (ht : t < 3) : Iv g e (rsS e P t) 0 t 0 0 (e t) ∧ (∀ k, (rsS e P t).2.2.2.2.1 1 k = -6) ∧ ∀ k, 3 ≤ k → (rsS e P t).2.2.2.2.1 0 k = -6 := by
  have eC : (rsS e P t).2.2.2.2.1 = up (up (up P.2.2.2.2.1 0 m6F) 1 m6F) 0 (wl (hcl t 0) m6F) := by
    show up (up (up P.2.2.2.2.1 0 (fun _ => -6)) 1 (fun _ => -6)) 0 (wl ((hcl t 0).take (cn P.1 3)) ((up (up P.2.2.2.2.1 0 (fun _ => -6)) 1 (fun _ => -6)) 0)) = _
    rw [hP, up_k _ _ _ (show (0 : Nat) ≠ 1 by decide), up_s]; rfl
  obtain ⟨q0, q1, q2, q3⟩ := hcl_at t 0 m6F
  have eC0 : (rsS e P t).2.2.2.2.1 0 = wl (hcl t 0) m6F := by rw [eC, up_s]
  have eC1 : (rsS e P t).2.2.2.2.1 1 = m6F := by rw [eC, up_k _ _ _ (by decide), up_s]
  refine ⟨⟨rfl, ⟨rfl, rfl, rfl, rfl, by decide, ht, by decide, by decide⟩, rfl, ⟨by decide, ht, by decide, by decide⟩, ?_, fun j hj => absurd hj (Nat.not_lt_zero _), fun k h3 hk => ?_, ?_, ?_, ?_, fun k hk => (hG t k ht hk).2⟩, fun k => by rw [eC1]; rfl, fun k hk => by rw [eC0, q3 k hk]; rfl⟩
  · rw [eC0]; exact ⟨q0, q1, q2⟩
  · rw [eC0, q3 k (by omega)]; rfl
  · refine Or.inl (Or.inl ?_)
    rw [show 1 - 0 = 1 from rfl, eC1]; rfl
  · rfl
  · rfl
end OP
