/-! ===== p24: what holds of the cells, and what stays so ===== -/
theorem up_ik {α : Type} (f : Nat → α) (i : Nat) (x : α) {j : Nat} (h : j ≠ i) : up f i x j = f j := up_k f i x h
/-- the cells of the active page a: a head of the version v and the sequence s, r records, and the values x and places Q that they give -/
def Oc (C : Nat → Nat → Int32) (q s : Nat) : Prop := (C q 0 = -6 ∨ C q 1 = -6 ∨ C q 2 = -6) ∨ ∃ v t, v < 3 ∧ t < 200 ∧ (t + 1) % 200 = s ∧ C q 0 = nI (200 + v) ∧ C q 1 = nI t ∧ C q 2 = hck (nI (200 + v)) (nI t)
def Cw (g e : Nat → Nat → Nat) (C : Nat → Nat → Int32) (a v s r : Nat) (x : Nat → Nat) (Q : Nat → Int32) : Prop :=
  (a < 2 ∧ v < 3 ∧ s < 200 ∧ r ≤ 15) ∧ (C a 0 = nI (200 + v) ∧ C a 1 = nI s ∧ C a 2 = hck (nI (200 + v)) (nI s)) ∧ (∀ j, j < r → C a (3 + 3 * j) ≠ -6) ∧ (∀ k, 3 + 3 * r ≤ k → k < 48 → C a k = -6) ∧ Oc C (1 - a) s ∧ (rdf g e v (C a) r).1 = nV x ∧ (rdf g e v (C a) r).2.1 = Q ∧ ∀ k, k < 3 → x k ≤ g v k
/-- an active page as it is had -/
def Iw (g e : Nat → Nat → Nat) (P : Pc) (a v s r : Nat) (x : Nat → Nat) : Prop := rga P a v s r ∧ P.2.2.2.2.2.1 = nV x ∧ Cw g e P.2.2.2.2.1 a v s r x P.2.2.2.2.2.2
def Iv (g e : Nat → Nat → Nat) (P : Pc) (a v s r : Nat) (x : Nat → Nat) : Prop := P.1 = some none ∧ Iw g e P a v s r x
/-- the greatest values are bytes, the defaults are not greater -/
def Gk (g e : Nat → Nat → Nat) : Prop := ∀ v k, v < 3 → k < 3 → g v k < 256 ∧ e v k ≤ g v k
section PU
variable {n a v s r : Nat} {g e : Nat → Nat → Nat} {C : Nat → Nat → Int32} {x : Nat → Nat} {Q : Nat → Int32}
theorem Cw_nr (h : Cw g e C a v s r x Q) : nr (C a) = r := by
  obtain ⟨⟨ha, hv, hs, hr⟩, -, h1, h2, -⟩ := h
  refine nr_is hr h1 ?_
  by_cases q : r = 15
  · exact Or.inl q
  · exact Or.inr (h2 _ (Nat.le_refl _) (by omega))
theorem head_good {f : Nat → Int32} (hv : v < n) (hn : n ≤ 6) (hs : s < 200) (h0 : f 0 = nI (200 + v)) (h1 : f 1 = nI s) (h2 : f 2 = hck (nI (200 + v)) (nI s)) : Hdx n f := by
  refine ⟨by rw [h0]; exact nI_m6 (by omega), by rw [h1]; exact nI_m6 (by omega), ?_, ⟨v, hv, h0⟩, ?_, by rw [h0, h1]; exact h2⟩
  · rw [h2, hck_nI (by omega) (by omega)]; exact nI_m6 (by omega)
  · rw [h1]; exact nI_lt (b := 200) hs (by decide)
theorem Cw_head (hn : 3 ≤ n) (hn6 : n ≤ 6) (h : Cw g e C a v s r x Q) : Hdx n (C a) := by
  obtain ⟨⟨ha, hv, hs, hr⟩, ⟨h0, h1, h2⟩, -⟩ := h
  exact head_good (show v < n by omega) hn6 hs h0 h1 h2
theorem Oc_bad {q : Nat} (h : C q 0 = -6 ∨ C q 1 = -6 ∨ C q 2 = -6) : ¬ Hdx n (C q) := by
  rintro ⟨q0, q1, q2, -⟩
  rcases h with h | h | h
  · exact q0 h
  · exact q1 h
  · exact q2 h
theorem Oc_ver {q : Nat} (h : Oc C q s) (hH : Hdx n (C q)) : ∃ v, v < 3 ∧ C q 0 = nI (200 + v) := by
  rcases h with h | ⟨v, t, hv, -, -, h0, -⟩
  · exact absurd hH (Oc_bad h)
  · exact ⟨v, hv, h0⟩
theorem Cw_okv {w : Pw} {A W X V Q' : Nat → Int32} (h : Cw g e C a v s r x Q) : okv n (w, A, W, X, C, V, Q') := by
  obtain ⟨⟨ha, hv, hs, hr⟩, ⟨h0, h1, h2⟩, -, -, ho, -⟩ := h
  intro p hp hH
  by_cases q : p = a
  · subst q; exact ⟨v, hv, h0⟩
  · have : p = 1 - a := by omega
    subst this
    exact Oc_ver ho hH
theorem Cw_act (hn : 3 ≤ n) (hn6 : n ≤ 6) (h : Cw g e C a v s r x Q) : actI n (C 0) (C 1) = nI a := by
  have hH := Cw_head hn hn6 h
  obtain ⟨⟨ha, hv, hs, hr⟩, ⟨h0, h1, h2⟩, -, -, ho, -⟩ := h
  have : a = 0 ∨ a = 1 := by omega
  unfold actI
  rcases this with rfl | rfl
  · rw [if_pos hH]
    rcases ho with ho | ⟨v', t, hv', ht, hst, k0, k1, k2⟩
    · rw [if_neg (Oc_bad ho)]; rfl
    · have k1' : C 1 1 = nI t := k1
      rw [if_pos (head_good (show v' < n by omega) hn6 ht k0 k1 k2), k1', h1, fmd_d ht hs, show (t + 200 - s) % 200 = 199 by omega]
      decide
  · rcases ho with ho | ⟨v', t, hv', ht, hst, k0, k1, k2⟩
    · have ho' : ¬ Hdx n (C 0) := Oc_bad (q := 0) ho
      rw [if_neg ho', if_pos hH]; rfl
    · have k1' : C 0 1 = nI t := k1
      have k0' : Hdx n (C 0) := head_good (show v' < n by omega) hn6 ht k0 k1 k2
      rw [if_pos k0', if_pos hH, k1', h1, fmd_d hs ht, show (s + 200 - t) % 200 = 1 by omega]
      decide
/-- a start finds it -/
theorem Cw_rst {w : Pw} {A W X V Q' : Nat → Int32} (hn : 3 ≤ n) (hn6 : n ≤ 6) (h : Cw g e C a v s r x Q) : rst n g e (w, A, W, X, C, V, Q') = (some none, rg (nI a) (nI v) (nI s) (nI (3 + 3 * r)) (rdf g e v (C a) r).2.2, W, X, C, nV x, Q) := by
  have h1 := Cw_act hn hn6 h
  have h2 := Cw_nr h
  obtain ⟨⟨ha, hv, hs, hr⟩, ⟨k0, k1, k2⟩, -, -, -, hV, hQ, -⟩ := h
  rw [rst_p ha h1 hv k0, h2, hV, hQ, k1]
theorem rst_Iv {w : Pw} {A W X V Q' : Nat → Int32} (hn : 3 ≤ n) (hn6 : n ≤ 6) (h : Cw g e C a v s r x Q) : Iv g e (rst n g e (w, A, W, X, C, V, Q')) a v s r x := by
  rw [Cw_rst hn hn6 h]
  exact ⟨rfl, ⟨rfl, rfl, rfl, rfl, h.1⟩, rfl, h⟩
theorem rdf_congr {f f' : Nat → Int32} : ∀ j, (∀ k, 3 ≤ k → k < 3 + 3 * j → f k = f' k) → rdf g e v f j = rdf g e v f' j := by
  intro j
  induction j with
  | zero => intro _; rfl
  | succ j ih =>
    intro h
    have h1 := ih (fun k q1 q2 => h k q1 (by omega))
    have hg : Gdx g v f (3 + 3 * j) ↔ Gdx g v f' (3 + 3 * j) := Gdx_congr (fun k q1 q2 => h k (by omega) (by omega))
    by_cases hG : Gdx g v f (3 + 3 * j)
    · obtain ⟨y, b, hy, hb, w0, w1, w2⟩ := id hG
      rw [rdf_g hy hG w0 w1, rdf_g hy (hg.mp hG) ((h _ (by omega) (by omega)).symm.trans w0) ((h _ (by omega) (by omega)).symm.trans w1), h1]
    · rw [rdf_b hG, rdf_b (fun q => hG (hg.mpr q)), h1]
theorem wl_rcl (i k c v : Nat) (f : Nat → Int32) : wl (rcl i k c v) f = up (up (up f i (nI (k + 1))) (i + 1) (nI c)) (i + 2) (rck (nI (k + 1)) (nI c) (nI v)) := rfl
theorem rcl_at (i k c v : Nat) (f : Nat → Int32) : wl (rcl i k c v) f i = nI (k + 1) ∧ wl (rcl i k c v) f (i + 1) = nI c ∧ wl (rcl i k c v) f (i + 2) = rck (nI (k + 1)) (nI c) (nI v) ∧ ∀ j, j < i ∨ i + 3 ≤ j → wl (rcl i k c v) f j = f j := by
  rw [wl_rcl]
  refine ⟨?_, ?_, ?_, fun j hj => ?_⟩
  · rw [up_k _ _ _ (by omega), up_k _ _ _ (by omega), up_s]
  · rw [up_k _ _ _ (by omega), up_s]
  · rw [up_s]
  · rw [up_k _ _ _ (by omega), up_k _ _ _ (by omega), up_k _ _ _ (by omega)]
theorem rdf_rec {k c j : Nat} {f : Nat → Int32} (hk : k < 3) (hc : c ≤ g v k) : rdf g e v (wl (rcl (3 + 3 * j) k c v) f) (j + 1) = (up (rdf g e v f j).1 k (nI c), up (rdf g e v f j).2.1 k (nI (3 + 3 * j)), (rdf g e v f j).2.2) := by
  obtain ⟨q0, q1, q2, q3⟩ := rcl_at (3 + 3 * j) k c v f
  rw [rdf_g hk ⟨k, c, hk, hc, q0, q1, by rw [q2, q0, q1]⟩ q0 q1, rdf_congr j (fun i _ hi => q3 i (by omega))]
/-- a record written behind the others -/
theorem rec_good {k c : Nat} (h : Cw g e C a v s r x Q) (hr : r < 15) (hk : k < 3) (hc : c ≤ g v k) : Cw g e (up C a (wl (rcl (3 + 3 * r) k c v) (C a))) a v s (r + 1) (up x k c) (up Q k (nI (3 + 3 * r))) := by
  obtain ⟨⟨ha, hv, hs, -⟩, ⟨h0, h1, h2⟩, h3, h4, ho, hV, hQ, hx⟩ := h
  obtain ⟨q0, q1, q2, q3⟩ := rcl_at (3 + 3 * r) k c v (C a)
  refine ⟨⟨ha, hv, hs, by omega⟩, ?_, fun j hj => ?_, fun j q5 q6 => ?_, ?_, ?_, ?_, fun j hj => ?_⟩
  · rw [up_s, q3 0 (by omega), q3 1 (by omega), q3 2 (by omega)]; exact ⟨h0, h1, h2⟩
  · rw [up_s]
    by_cases z : j = r
    · subst z; rw [q0]; exact nI_m6 (by omega)
    · rw [q3 _ (by omega)]; exact h3 j (by omega)
  · rw [up_s, q3 j (by omega)]; exact h4 j (by omega) q6
  · unfold Oc; rw [up_k _ _ _ (show 1 - a ≠ a by omega)]; exact ho
  · rw [up_s, rdf_rec hk hc, hV, nV_up hk]
  · rw [up_s, rdf_rec hk hc, hQ]
  · by_cases z : j = k
    · rw [z, up_s]; exact hc
    · rw [up_k _ _ _ z]; exact hx j hj
/-- a record cut off -/
theorem rec_cut {k c m : Nat} (hG : Gk g e) (h : Cw g e C a v s r x Q) (hr : r < 15) (hk : k < 3) (hm : m < 3) : ∃ r', Cw g e (up C a (wl ((rcl (3 + 3 * r) k c v).take m) (C a))) a v s r' x Q := by
  by_cases hm0 : m = 0
  · subst hm0
    refine ⟨r, ?_⟩
    rw [List.take_zero, show wl [] (C a) = C a from rfl, up_self]
    exact h
  · obtain ⟨⟨ha, hv, hs, -⟩, ⟨h0, h1, h2⟩, h3, h4, ho, hV, hQ, hx⟩ := h
    obtain ⟨f, hf⟩ : ∃ f, wl ((rcl (3 + 3 * r) k c v).take m) (C a) = f := ⟨_, rfl⟩
    have q0 : f (3 + 3 * r) = nI (k + 1) := by
      rw [← hf]
      have : m = 1 ∨ m = 2 := by omega
      rcases this with rfl | rfl
      · show up (C a) (3 + 3 * r) (nI (k + 1)) (3 + 3 * r) = _; rw [up_s]
      · show up (up (C a) (3 + 3 * r) (nI (k + 1))) (3 + 3 * r + 1) (nI c) (3 + 3 * r) = _
        rw [up_k _ _ _ (by omega), up_s]
    have qo : ∀ j, j < 3 + 3 * r ∨ 3 + 3 * r + 2 ≤ j → f j = C a j := fun j hj => by
      rw [← hf]
      have : m = 1 ∨ m = 2 := by omega
      rcases this with rfl | rfl
      · show up (C a) (3 + 3 * r) (nI (k + 1)) j = _; rw [up_k _ _ _ (by omega)]
      · show up (up (C a) (3 + 3 * r) (nI (k + 1))) (3 + 3 * r + 1) (nI c) j = _
        rw [up_k _ _ _ (by omega), up_k _ _ _ (by omega)]
    have q2 : f (3 + 3 * r + 2) = -6 := by rw [qo _ (by omega)]; exact h4 _ (by omega) (by omega)
    have hb : ¬ Gdx g v f (3 + 3 * r) := by
      rintro ⟨y, b, hy, hb, w0, w1, w2⟩
      rw [q2] at w2
      have hb3 := (hG v y hv hy).1
      rw [w0, w1, rck_nI (by omega) (by omega) (by omega)] at w2
      exact m6_nI (by omega) w2
    refine ⟨r + 1, ⟨ha, hv, hs, by omega⟩, ?_, fun j hj => ?_, fun j q5 q6 => ?_, ?_, ?_, ?_, hx⟩
    · rw [up_s, hf, qo 0 (by omega), qo 1 (by omega), qo 2 (by omega)]; exact ⟨h0, h1, h2⟩
    · rw [up_s, hf]
      by_cases z : j = r
      · subst z; rw [q0]; exact nI_m6 (by omega)
      · rw [qo _ (by omega)]; exact h3 j (by omega)
    · rw [up_s, hf, qo j (by omega)]; exact h4 j (by omega) q6
    · unfold Oc; rw [up_k _ _ _ (show 1 - a ≠ a by omega)]; exact ho
    · rw [up_s, hf, rdf_b hb, rdf_congr r (fun i _ hi => qo i (by omega))]; exact hV
    · rw [up_s, hf, rdf_b hb, rdf_congr r (fun i _ hi => qo i (by omega))]; exact hQ
/-- a page being filled -/
theorem fill_part (hG : Gk g e) (hv : v < 3) {y : Nat → Nat} (hy : ∀ k, k < 3 → y k ≤ g v k) : ∀ k, k ≤ 3 → (∀ i, i < 3 ∨ 3 + 3 * (fls e v y k).2 ≤ i → wl (fls e v y k).1 m6F i = -6) ∧ (∀ j, j < (fls e v y k).2 → wl (fls e v y k).1 m6F (3 + 3 * j) ≠ -6) ∧
    (rdf g e v (wl (fls e v y k).1 m6F) (fls e v y k).2).1 = nV (fun i => if i < k then y i else e v i) ∧ (rdf g e v (wl (fls e v y k).1 m6F) (fls e v y k).2).2.1 = (fun i => if i < k then fpl e v y i else -6) := by
  intro k
  induction k with
  | zero =>
    intro _
    refine ⟨fun i _ => rfl, fun j hj => absurd hj (Nat.not_lt_zero _), ?_, ?_⟩
    · rfl
    · funext i; rfl
  | succ k ih =>
    intro hk
    obtain ⟨h1, h2, h3, h4⟩ := ih (by omega)
    have hlt : ∀ i, i ≠ k → ((if i < k + 1 then y i else e v i) = (if i < k then y i else e v i)) := fun i hi => by
      by_cases q : i < k
      · rw [if_pos q, if_pos (by omega)]
      · rw [if_neg q, if_neg (by omega)]
    have hltQ : ∀ i, i ≠ k → ((if i < k + 1 then fpl e v y i else (-6 : Int32)) = (if i < k then fpl e v y i else -6)) := fun i hi => by
      by_cases q : i < k
      · rw [if_pos q, if_pos (by omega)]
      · rw [if_neg q, if_neg (by omega)]
    by_cases hU : y k = e v k
    · rw [fls_s hU]
      refine ⟨h1, h2, h3.trans ?_, h4.trans ?_⟩
      · congr 1
        funext i
        by_cases z : i = k
        · subst z; rw [if_neg (Nat.lt_irrefl _), if_pos (Nat.lt_succ_self _), hU]
        · exact (hlt i z).symm
      · funext i
        by_cases z : i = k
        · subst z; rw [if_neg (Nat.lt_irrefl _), if_pos (Nat.lt_succ_self _)]
          unfold fpl; rw [if_neg (fun q => q.2 hU)]
        · exact (hltQ i z).symm
    · rw [fls_c hU]
      simp only []
      rw [wl_app]
      obtain ⟨f, hf⟩ : ∃ f, wl (fls e v y k).1 m6F = f := ⟨_, rfl⟩
      obtain ⟨c, hc⟩ : ∃ c, (fls e v y k).2 = c := ⟨_, rfl⟩
      rw [hf, hc] at h1 h2 h3 h4
      rw [hf, hc]
      obtain ⟨q0, q1, q2, q3⟩ := rcl_at (3 + 3 * c) k (y k) v f
      have hrd := rdf_rec (g := g) (e := e) (v := v) (j := c) (f := f) (show k < 3 by omega) (hy k (by omega))
      have hG1 := hG v k hv (by omega)
      refine ⟨fun i hi => ?_, fun j hj => ?_, ?_, ?_⟩
      · rw [q3 i (by omega)]; exact h1 i (by omega)
      · by_cases z : j = c
        · rw [z, q0]; exact nI_m6 (by omega)
        · rw [q3 _ (by omega)]; exact h2 j (by omega)
      · rw [hrd]
        simp only []
        rw [h3, nV_up (by omega)]
        congr 1
        funext i
        by_cases z : i = k
        · rw [z, up_s, if_pos (Nat.lt_succ_self _)]
        · rw [up_k _ _ _ z]; exact (hlt i z).symm
      · rw [hrd]
        simp only []
        rw [h4]
        funext i
        by_cases z : i = k
        · rw [z, up_s, if_pos (Nat.lt_succ_self _)]
          unfold fpl; rw [if_pos ⟨by omega, hU⟩, hc]
        · rw [up_k _ _ _ z]; exact (hltQ i z).symm
theorem hcl_at (v t : Nat) (f : Nat → Int32) : wl (hcl v t) f 0 = nI (200 + v) ∧ wl (hcl v t) f 1 = nI t ∧ wl (hcl v t) f 2 = hck (nI (200 + v)) (nI t) ∧ ∀ j, 3 ≤ j → wl (hcl v t) f j = f j := by
  show up (up (up f 0 (nI (200 + v))) 1 (nI t)) 2 (hck (nI (200 + v)) (nI t)) 0 = _ ∧ up (up (up f 0 (nI (200 + v))) 1 (nI t)) 2 (hck (nI (200 + v)) (nI t)) 1 = _ ∧ up (up (up f 0 (nI (200 + v))) 1 (nI t)) 2 (hck (nI (200 + v)) (nI t)) 2 = _ ∧ ∀ j, 3 ≤ j → up (up (up f 0 (nI (200 + v))) 1 (nI t)) 2 (hck (nI (200 + v)) (nI t)) j = f j
  refine ⟨?_, ?_, ?_, fun j hj => ?_⟩
  · rw [up_k _ _ _ (by omega), up_k _ _ _ (by omega), up_s]
  · rw [up_k _ _ _ (by omega), up_s]
  · rw [up_s]
  · rw [up_k _ _ _ (by omega), up_k _ _ _ (by omega), up_k _ _ _ (by omega)]
/-- the other page filled to its end -/
theorem fill_good (hG : Gk g e) (h : Cw g e C a v s r x Q) {v' : Nat} (hv' : v' < 3) {y : Nat → Nat} (hy : ∀ k, k < 3 → y k ≤ g v' k) : Cw g e (up C (1 - a) (wl ((fls e v' y 3).1 ++ hcl v' ((s + 1) % 200)) m6F)) (1 - a) v' ((s + 1) % 200) (fls e v' y 3).2 y (fpl e v' y) := by
  obtain ⟨⟨ha, hv, hs, hr⟩, ⟨h0, h1, h2⟩, -⟩ := h
  obtain ⟨f1, f2, f3, f4⟩ := fill_part hG hv' hy 3 (Nat.le_refl _)
  obtain ⟨c, hc⟩ : ∃ c, (fls e v' y 3).2 = c := ⟨_, rfl⟩
  have hc3 : c ≤ 3 := hc ▸ (fls_le e v' y 3).1
  rw [wl_app]
  obtain ⟨f, hf⟩ : ∃ f, wl (fls e v' y 3).1 m6F = f := ⟨_, rfl⟩
  rw [hf, hc] at f1 f2 f3 f4
  rw [hf, hc]
  obtain ⟨q0, q1, q2, q3⟩ := hcl_at v' ((s + 1) % 200) f
  have hrd : rdf g e v' (wl (hcl v' ((s + 1) % 200)) f) c = rdf g e v' f c := rdf_congr c (fun i hi _ => q3 i hi)
  refine ⟨⟨by omega, hv', Nat.mod_lt _ (by decide), by omega⟩, ?_, fun j hj => ?_, fun j q5 q6 => ?_, ?_, ?_, ?_, hy⟩
  · rw [up_s]; exact ⟨q0, q1, q2⟩
  · rw [up_s, q3 _ (by omega)]; exact f2 j hj
  · rw [up_s, q3 _ (by omega)]; exact f1 j (Or.inr q5)
  · refine Or.inr ⟨v, s, hv, hs, rfl, ?_⟩
    rw [show 1 - (1 - a) = a by omega, up_k _ _ _ (show a ≠ 1 - a by omega)]
    exact ⟨h0, h1, h2⟩
  · rw [up_s, hrd, f3]
    unfold nV
    funext i
    by_cases q : i < 3
    · rw [if_pos q, if_pos q]; show nI (if i < 3 then y i else e v' i) = nI (y i); rw [if_pos q]
    · rw [if_neg q, if_neg q]
  · rw [up_s, hrd, f4]
    funext i
    by_cases q : i < 3
    · rw [if_pos q]
    · rw [if_neg q]; unfold fpl; rw [if_neg (fun z => q z.1)]
theorem fls_idx (e : Nat → Nat → Nat) (v : Nat) (y : Nat → Nat) : ∀ k q, q ∈ (fls e v y k).1 → 3 ≤ q.1 := by
  intro k
  induction k with
  | zero => intro q hq; cases hq
  | succ k ih =>
    intro q hq
    by_cases hU : y k = e v k
    · rw [fls_s hU] at hq; exact ih q hq
    · rw [fls_c hU] at hq
      rcases List.mem_append.mp hq with hq | hq
      · exact ih q hq
      · have : q = (3 + 3 * (fls e v y k).2, nI (k + 1)) ∨ q = (3 + 3 * (fls e v y k).2 + 1, nI (y k)) ∨ q = (3 + 3 * (fls e v y k).2 + 2, rck (nI (k + 1)) (nI (y k)) (nI v)) := by
          simpa [rcl] using hq
        rcases this with h | h | h <;> rw [h] <;> simp only [] <;> omega
/-- the other page filled, but cut off -/
theorem fill_cut (h : Cw g e C a v s r x Q) {v' t m : Nat} {y : Nat → Nat} (hm : m < ((fls e v' y 3).1 ++ hcl v' t).length) : Cw g e (up C (1 - a) (wl (((fls e v' y 3).1 ++ hcl v' t).take m) m6F)) a v s r x Q := by
  obtain ⟨⟨ha, hv, hs, hr⟩, h0, h3, h4, ho, hV, hQ, hx⟩ := h
  have hne : a ≠ 1 - a := by omega
  refine ⟨⟨ha, hv, hs, hr⟩, by rw [up_k _ _ _ hne]; exact h0, fun j hj => by rw [up_k _ _ _ hne]; exact h3 j hj, fun k q5 q6 => by rw [up_k _ _ _ hne]; exact h4 k q5 q6, ?_, by rw [up_k _ _ _ hne]; exact hV, by rw [up_k _ _ _ hne]; exact hQ, hx⟩
  refine Or.inl (Or.inr (Or.inr ?_))
  rw [up_s]
  refine (wl_out _ _ _ (fun q hq => ?_)).trans rfl
  rw [List.length_append] at hm
  have hlen : (hcl v' t).length = 3 := rfl
  by_cases z : m ≤ (fls e v' y 3).1.length
  · rw [List.take_append_of_le_length z] at hq
    have := fls_idx e v' y 3 q (List.mem_of_mem_take hq)
    omega
  · have e1 : m = (fls e v' y 3).1.length + (m - (fls e v' y 3).1.length) := by omega
    rw [e1, List.take_length_add_append] at hq
    rcases List.mem_append.mp hq with hq | hq
    · have := fls_idx e v' y 3 q hq
      omega
    · have : m - (fls e v' y 3).1.length = 1 ∨ m - (fls e v' y 3).1.length = 2 := by
        by_cases z0 : m - (fls e v' y 3).1.length = 0
        · omega
        · omega
      rcases this with z1 | z1
      · rw [z1] at hq
        have : q = (0, nI (200 + v')) := by simpa [hcl] using hq
        rw [this]; simp
      · rw [z1] at hq
        have : q = (0, nI (200 + v')) ∨ q = (1, nI t) := by simpa [hcl] using hq
        rcases this with h | h <;> rw [h] <;> simp
end PU
