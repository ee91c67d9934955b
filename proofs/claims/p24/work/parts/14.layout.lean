/-! ===== the objects behind both constructors ===== -/
def apG (G : Gt) (q : Nat × Nat × Nat × Nat) : Gt := match q.1 with
  | 0 => nG G q.2.1 q.2.2.1
  | _ => uG G q.2.1 q.2.2.1 q.2.2.2
def alcs (l : List (Nat × Nat × Nat × Nat)) : List (Nat × Nat) := l.filterMap (fun q => if q.1 = 0 then some (q.2.1, q.2.2.1) else none)
def rfO : List (Nat × Nat × Nat × Nat) → Nat → Nat → Nat → Option Nat → Option Nat
  | [], _, _, _, acc => acc
  | q :: t, n, a, j, acc => match q.1 with
    | 0 => rfO t (n + 1) a j (if a = n then none else acc)
    | _ => rfO t n a j (if a = q.2.1 then (if j = q.2.2.1 then some q.2.2.2 else acc) else acc)
theorem apG_n : ∀ (l : List (Nat × Nat × Nat × Nat)) (G : Gt), (l.foldl apG G).1 = G.1 + (alcs l).length := by
  intro l
  induction l with
  | nil => intro G; rfl
  | cons q t ih =>
    intro G
    obtain ⟨z, a, b, c⟩ := q
    rw [List.foldl_cons, ih]
    cases z with
    | zero =>
      have e : alcs ((0, a, b, c) :: t) = (a, b) :: alcs t := by simp [alcs]
      rw [e, List.length_cons]
      show G.1 + 1 + _ = _
      omega
    | succ z =>
      have e : alcs ((z + 1, a, b, c) :: t) = alcs t := by simp [alcs]
      rw [e]
      rfl
theorem apG_k : ∀ (l : List (Nat × Nat × Nat × Nat)) (G : Gt) (a : Nat) (q : Nat × Nat), G.1 ≤ a → (alcs l)[a - G.1]? = some q → (l.foldl apG G).2.2.1 a = q := by
  have keep : ∀ (l : List (Nat × Nat × Nat × Nat)) (G : Gt) (a : Nat), a < G.1 → (l.foldl apG G).2.2.1 a = G.2.2.1 a := by
    intro l
    induction l with
    | nil => intro G a h; rfl
    | cons q t ih =>
      intro G a h
      obtain ⟨z, x, y, c⟩ := q
      rw [List.foldl_cons]
      cases z with
      | zero =>
        exact (ih (nG G x y) a (show a < (nG G x y).1 from Nat.lt_succ_of_lt h)).trans (nG_kd G x y a (by omega))
      | succ z => exact (ih (uG G x y c) a (show a < (uG G x y c).1 from h)).trans rfl
  intro l
  induction l with
  | nil => intro G a q h h2; simp [alcs] at h2
  | cons q0 t ih =>
    intro G a q h h2
    obtain ⟨z, x, y, c⟩ := q0
    rw [List.foldl_cons]
    cases z with
    | zero =>
      have e : alcs ((0, x, y, c) :: t) = (x, y) :: alcs t := by simp [alcs]
      rw [e] at h2
      by_cases ha : a = G.1
      · subst ha
        rw [Nat.sub_self] at h2
        simp only [List.getElem?_cons_zero, Option.some.injEq] at h2
        subst h2
        exact (keep t (nG G x y) G.1 (show G.1 < (nG G x y).1 from Nat.lt_succ_self _)).trans (nG_new G x y)
      · refine ih (nG G x y) a q (show G.1 + 1 ≤ a by omega) ?_
        rw [show a - G.1 = (a - (G.1 + 1)) + 1 by omega, List.getElem?_cons_succ] at h2
        exact h2
    | succ z =>
      have e : alcs ((z + 1, x, y, c) :: t) = alcs t := by simp [alcs]
      rw [e] at h2
      exact ih (uG G x y c) a q h h2
theorem apG_r : ∀ (l : List (Nat × Nat × Nat × Nat)) (G : Gt) (a j : Nat), rf (l.foldl apG G) a j = rfO l G.1 a j (rf G a j) := by
  intro l
  induction l with
  | nil => intro G a j; rfl
  | cons q t ih =>
    intro G a j
    obtain ⟨z, x, y, c⟩ := q
    rw [List.foldl_cons, ih]
    cases z with
    | zero =>
      show rfO t (G.1 + 1) a j (rf (nG G x y) a j) = rfO t (G.1 + 1) a j (if a = G.1 then none else rf G a j)
      rfl
    | succ z => rfl
def opsL : List (Nat × Nat × Nat × Nat) := [(0, 6, 6, 0), (0, 3, 4, 0), (0, 52, 80, 0), (1, 2, 0, 3), (0, 5, 5, 0), (0, 50, 27, 0), (1, 4, 0, 5), (0, 50, 27, 0), (1, 4, 1, 6), (0, 50, 27, 0), (1, 4, 2, 7), (0, 50, 27, 0), (1, 4, 3, 8), (1, 2, 1, 4), (1, 1, 0, 2), (0, 2, 3, 0), (0, 1, 5, 0), (0, 51, 10, 0), (1, 10, 0, 11), (0, 50, 10, 0), (1, 10, 1, 12), (0, 50, 10, 0), (1, 10, 2, 13), (0, 50, 10, 0), (1, 10, 3, 14), (0, 5, 5, 0), (0, 50, 27, 0), (1, 15, 0, 16), (0, 50, 27, 0), (1, 15, 1, 17), (0, 50, 27, 0), (1, 15, 2, 18), (0, 50, 27, 0), (1, 15, 3, 19), (1, 10, 4, 15), (1, 9, 0, 10), (0, 53, 6, 0), (1, 9, 1, 20), (0, 1, 5, 0), (0, 51, 10, 0), (1, 21, 0, 22), (0, 50, 10, 0), (1, 21, 1, 23), (0, 50, 10, 0), (1, 21, 2, 24), (0, 50, 10, 0), (1, 21, 3, 25), (0, 5, 5, 0), (0, 50, 27, 0), (1, 26, 0, 27), (0, 50, 27, 0), (1, 26, 1, 28), (0, 50, 27, 0), (1, 26, 2, 29), (0, 50, 27, 0), (1, 26, 3, 30), (1, 21, 4, 26), (1, 20, 0, 21), (0, 1, 5, 0), (0, 51, 10, 0), (1, 31, 0, 32), (0, 50, 10, 0), (1, 31, 1, 33), (0, 50, 10, 0), (1, 31, 2, 34), (0, 50, 10, 0), (1, 31, 3, 35), (0, 5, 5, 0), (0, 50, 27, 0), (1, 36, 0, 37), (0, 50, 27, 0), (1, 36, 1, 38), (0, 50, 27, 0), (1, 36, 2, 39), (0, 50, 27, 0), (1, 36, 3, 40), (1, 31, 4, 36), (1, 20, 1, 31), (0, 1, 5, 0), (0, 51, 10, 0), (1, 41, 0, 42), (0, 50, 10, 0), (1, 41, 1, 43), (0, 50, 10, 0), (1, 41, 2, 44), (0, 50, 10, 0), (1, 41, 3, 45), (0, 5, 5, 0), (0, 50, 27, 0), (1, 46, 0, 47), (0, 50, 27, 0), (1, 46, 1, 48), (0, 50, 27, 0), (1, 46, 2, 49), (0, 50, 27, 0), (1, 46, 3, 50), (1, 41, 4, 46), (1, 20, 2, 41), (0, 1, 5, 0), (0, 51, 10, 0), (1, 51, 0, 52), (0, 50, 10, 0), (1, 51, 1, 53), (0, 50, 10, 0), (1, 51, 2, 54), (0, 50, 10, 0), (1, 51, 3, 55), (0, 5, 5, 0), (0, 50, 27, 0), (1, 56, 0, 57), (0, 50, 27, 0), (1, 56, 1, 58), (0, 50, 27, 0), (1, 56, 2, 59), (0, 50, 27, 0), (1, 56, 3, 60), (1, 51, 4, 56), (1, 20, 3, 51), (0, 1, 5, 0), (0, 51, 10, 0), (1, 61, 0, 62), (0, 50, 10, 0), (1, 61, 1, 63), (0, 50, 10, 0), (1, 61, 2, 64), (0, 50, 10, 0), (1, 61, 3, 65), (0, 5, 5, 0), (0, 50, 27, 0), (1, 66, 0, 67), (0, 50, 27, 0), (1, 66, 1, 68), (0, 50, 27, 0), (1, 66, 2, 69), (0, 50, 27, 0), (1, 66, 3, 70), (1, 61, 4, 66), (1, 20, 4, 61), (0, 1, 5, 0), (0, 51, 10, 0), (1, 71, 0, 72), (0, 50, 10, 0), (1, 71, 1, 73), (0, 50, 10, 0), (1, 71, 2, 74), (0, 50, 10, 0), (1, 71, 3, 75), (0, 5, 5, 0), (0, 50, 27, 0), (1, 76, 0, 77), (0, 50, 27, 0), (1, 76, 1, 78), (0, 50, 27, 0), (1, 76, 2, 79), (0, 50, 27, 0), (1, 76, 3, 80), (1, 71, 4, 76), (1, 20, 5, 71), (1, 1, 1, 9), (0, 0, 14, 0), (0, 4, 3, 0), (0, 50, 48, 0), (1, 82, 0, 83), (1, 81, 1, 82), (0, 4, 3, 0), (0, 50, 48, 0), (1, 84, 0, 85), (1, 81, 2, 84), (0, 50, 10, 0), (1, 81, 10, 86), (0, 50, 10, 0), (1, 81, 11, 87), (0, 50, 10, 0), (1, 81, 12, 88), (0, 50, 10, 0), (1, 81, 13, 89), (1, 81, 0, 9), (1, 1, 2, 81), (0, 0, 14, 0), (0, 4, 3, 0), (0, 50, 48, 0), (1, 91, 0, 92), (1, 90, 1, 91), (0, 4, 3, 0), (0, 50, 48, 0), (1, 93, 0, 94), (1, 90, 2, 93), (0, 50, 10, 0), (1, 90, 10, 95), (0, 50, 10, 0), (1, 90, 11, 96), (0, 50, 10, 0), (1, 90, 12, 97), (0, 50, 10, 0), (1, 90, 13, 98), (1, 90, 0, 9), (1, 1, 3, 90), (0, 54, 2, 0), (1, 1, 4, 99), (0, 0, 14, 0), (0, 4, 3, 0), (0, 50, 48, 0), (1, 101, 0, 102), (1, 100, 1, 101), (0, 4, 3, 0), (0, 50, 48, 0), (1, 103, 0, 104), (1, 100, 2, 103), (0, 50, 10, 0), (1, 100, 10, 105), (0, 50, 10, 0), (1, 100, 11, 106), (0, 50, 10, 0), (1, 100, 12, 107), (0, 50, 10, 0), (1, 100, 13, 108), (1, 100, 0, 9), (1, 99, 0, 100), (0, 0, 14, 0), (0, 4, 3, 0), (0, 50, 48, 0), (1, 110, 0, 111), (1, 109, 1, 110), (0, 4, 3, 0), (0, 50, 48, 0), (1, 112, 0, 113), (1, 109, 2, 112), (0, 50, 10, 0), (1, 109, 10, 114), (0, 50, 10, 0), (1, 109, 11, 115), (0, 50, 10, 0), (1, 109, 12, 116), (0, 50, 10, 0), (1, 109, 13, 117), (1, 109, 0, 9), (1, 99, 1, 109), (0, 51, 2, 0), (1, 1, 5, 118)]
/-- the start: the script alone, of L ints -/
def Gi (L : Nat) : Gt := (1, 0, fun _ => (60, L), fun _ _ => none)
/-- the objects behind the constructor, and so many rows of three that the law makes -/
def xG : Nat → Gt → Gt
  | 0, G => G
  | k + 1, G => nG (xG k G) 50 3
theorem xG_n : ∀ (k : Nat) (G : Gt), (xG k G).1 = G.1 + k := by
  intro k
  induction k with
  | zero => intro G; rfl
  | succ k ih => intro G; show (xG k G).1 + 1 = _; rw [ih]; omega
theorem xG_s : ∀ (k : Nat) (G : Gt), (xG k G).2.1 = G.2.1 + 3 * k := by
  intro k
  induction k with
  | zero => intro G; rfl
  | succ k ih => intro G; show (xG k G).2.1 + 3 = _; rw [ih]; omega
theorem xG_k : ∀ (k : Nat) (G : Gt) (a : Nat), a < G.1 → (xG k G).2.2.1 a = G.2.2.1 a := by
  intro k
  induction k with
  | zero => intro G a h; rfl
  | succ k ih => intro G a h; exact (nG_kd (xG k G) 50 3 a (by rw [xG_n]; omega)).trans (ih G a h)
theorem xG_r : ∀ (k : Nat) (G : Gt) (a j : Nat), a < G.1 → rf (xG k G) a j = rf G a j := by
  intro k
  induction k with
  | zero => intro G a j h; rfl
  | succ k ih => intro G a j h; exact (nG_rf (xG k G) 50 3 a j (by rw [xG_n]; omega)).trans (ih G a j h)
theorem xG_x : ∀ (k : Nat) (G : Gt) (j : Nat), j < k → (xG k G).2.2.1 (G.1 + j) = (50, 3) := by
  intro k
  induction k with
  | zero => intro G j h; omega
  | succ k ih =>
    intro G j h
    by_cases e : j = k
    · subst e
      rw [show G.1 + j = (xG j G).1 from (xG_n j G).symm]
      exact nG_new (xG j G) 50 3
    · exact (nG_kd (xG k G) 50 3 _ (by rw [xG_n]; omega)).trans (ih G j (by omega))
def GB (L : Nat) : Gt := opsL.foldl apG (Gi L)
def GG (L : Nat × Nat) : Gt := xG L.2 (GB L.1)
def dn (L : Nat × Nat) : Nat × Nat := (L.1, L.2 + 1)
theorem GB_n (L : Nat) : (GB L).1 = 119 := by
  unfold GB
  rw [apG_n]
  have : (alcs opsL).length = 118 := by decide +kernel
  rw [this]
  rfl
theorem GG_n (L : Nat × Nat) : (GG L).1 = 119 + L.2 := by unfold GG; rw [xG_n, GB_n]
def kTab : List (Nat × Nat) := [(60, 0), (6, 6), (3, 4), (52, 80), (5, 5), (50, 27), (50, 27), (50, 27), (50, 27), (2, 3), (1, 5), (51, 10), (50, 10), (50, 10), (50, 10), (5, 5), (50, 27), (50, 27), (50, 27), (50, 27), (53, 6), (1, 5), (51, 10), (50, 10), (50, 10), (50, 10), (5, 5), (50, 27), (50, 27), (50, 27), (50, 27), (1, 5), (51, 10), (50, 10), (50, 10), (50, 10), (5, 5), (50, 27), (50, 27), (50, 27), (50, 27), (1, 5), (51, 10), (50, 10), (50, 10), (50, 10), (5, 5), (50, 27), (50, 27), (50, 27), (50, 27), (1, 5), (51, 10), (50, 10), (50, 10), (50, 10), (5, 5), (50, 27), (50, 27), (50, 27), (50, 27), (1, 5), (51, 10), (50, 10), (50, 10), (50, 10), (5, 5), (50, 27), (50, 27), (50, 27), (50, 27), (1, 5), (51, 10), (50, 10), (50, 10), (50, 10), (5, 5), (50, 27), (50, 27), (50, 27), (50, 27), (0, 14), (4, 3), (50, 48), (4, 3), (50, 48), (50, 10), (50, 10), (50, 10), (50, 10), (0, 14), (4, 3), (50, 48), (4, 3), (50, 48), (50, 10), (50, 10), (50, 10), (50, 10), (54, 2), (0, 14), (4, 3), (50, 48), (4, 3), (50, 48), (50, 10), (50, 10), (50, 10), (50, 10), (0, 14), (4, 3), (50, 48), (4, 3), (50, 48), (50, 10), (50, 10), (50, 10), (50, 10), (51, 2)]
theorem GB_k (L : Nat) {a : Nat} (h0 : 0 < a) (h : a < 119) : (GB L).2.2.1 a = kTab.getD a (0, 0) := by
  have h1 : (List.range 119).all (fun a => a == 0 || (alcs opsL)[a - 1]? == some (kTab.getD a (0, 0))) = true := by decide +kernel
  have h2 := List.all_eq_true.mp h1 a (List.mem_range.mpr h)
  simp only [Bool.or_eq_true, beq_iff_eq] at h2
  rcases h2 with h2 | h2
  · omega
  · exact apG_k opsL (Gi L) a _ h0 h2
theorem GG_k (L : Nat × Nat) {a : Nat} (h0 : 0 < a) (h : a < 119) : (GG L).2.2.1 a = kTab.getD a (0, 0) := (xG_k _ _ _ (by rw [GB_n]; exact h)).trans (GB_k L.1 h0 h)
theorem GG_kd (L : Nat × Nat) {a : Nat} (h0 : 0 < a) (h : a < 119) : kd (GG L) a = (kTab.getD a (0, 0)).1 := by
  unfold kd
  rw [if_neg (by omega), if_pos (by rw [GG_n]; omega), GG_k L h0 h]
theorem GG_ln (L : Nat × Nat) {a : Nat} (h0 : 0 < a) (h : a < 119) : ln (GG L) a = (kTab.getD a (0, 0)).2 := by
  unfold ln
  rw [GG_k L h0 h]
theorem GG_rf (L : Nat × Nat) (a j : Nat) (h : a < 119) : rf (GG L) a j = rfO opsL 1 a j none := (xG_r _ _ _ _ (by rw [GB_n]; exact h)).trans (apG_r opsL (Gi L.1) a j)
theorem GG_x (L : Nat × Nat) {a : Nat} (h0 : 119 ≤ a) (h : a < 119 + L.2) : (GG L).2.2.1 a = (50, 3) := by
  have := xG_x L.2 (GB L.1) (a - 119) (by omega)
  rw [GB_n, show 119 + (a - 119) = a by omega] at this
  exact this
theorem GG_xk (L : Nat × Nat) {a : Nat} (h0 : 119 ≤ a) (h : a < 119 + L.2) : kd (GG L) a = 50 := by
  unfold kd
  rw [if_neg (by omega), if_pos (by rw [GG_n]; exact h), GG_x L h0 h]
theorem GG_xl (L : Nat × Nat) {a : Nat} (h0 : 119 ≤ a) (h : a < 119 + L.2) : ln (GG L) a = 3 := by
  unfold ln
  rw [GG_x L h0 h]
theorem GG_in (L : Nat × Nat) {a c : Nat} (h : kd (GG L) a = c) (h1 : c < 50) : 0 < a ∧ a < 119 ∧ (kTab.getD a (0, 0)).1 = c := by
  obtain ⟨a1, a2, a3⟩ := kd_spec h (by omega) (by omega)
  rw [GG_n] at a2
  rcases Nat.lt_or_ge a 119 with a4 | a4
  · refine ⟨a1, a4, ?_⟩
    rw [GG_k L a1 a4] at a3
    exact a3
  · rw [GG_x L a4 a2] at a3
    omega
theorem w_0_0 {L : Nat × Nat} {o : Nat} (h : kd (GG L) o = 0) : rf (GG L) o 0 = some 9 := by
  obtain ⟨h1, h2, h3⟩ := GG_in L h (by decide)
  rw [GG_rf L _ _ h2]
  have key : ∀ a, a < 119 → (kTab.getD a (0, 0)).1 = 0 → rfO opsL 1 a 0 none = some 9 := by decide +kernel
  exact key o h2 h3
theorem wk_0_0 {L : Nat × Nat} {o : Nat} (h : kd (GG L) o = 0) : kd (GG L) 9 = 2 := by
  obtain ⟨h1, h2, h3⟩ := GG_in L h (by decide)
  have key : ∀ a, a < 119 → (kTab.getD a (0, 0)).1 = 0 → 9 < 119 ∧ 0 < 9 ∧ kTab.getD 9 (0, 0) = (2, 3) := by decide +kernel
  obtain ⟨k1, k2, k3⟩ := key o h2 h3
  rw [GG_kd L k2 k1, k3]
theorem wl_0_0 {L : Nat × Nat} {o : Nat} (h : kd (GG L) o = 0) : ln (GG L) 9 = 3 := by
  obtain ⟨h1, h2, h3⟩ := GG_in L h (by decide)
  have key : ∀ a, a < 119 → (kTab.getD a (0, 0)).1 = 0 → 9 < 119 ∧ 0 < 9 ∧ kTab.getD 9 (0, 0) = (2, 3) := by decide +kernel
  obtain ⟨k1, k2, k3⟩ := key o h2 h3
  rw [GG_ln L k2 k1, k3]
theorem w_0_1 {L : Nat × Nat} {o : Nat} (h : kd (GG L) o = 0) : rf (GG L) o 1 = some (o + 1) := by
  obtain ⟨h1, h2, h3⟩ := GG_in L h (by decide)
  rw [GG_rf L _ _ h2]
  have key : ∀ a, a < 119 → (kTab.getD a (0, 0)).1 = 0 → rfO opsL 1 a 1 none = some (a + 1) := by decide +kernel
  exact key o h2 h3
theorem wk_0_1 {L : Nat × Nat} {o : Nat} (h : kd (GG L) o = 0) : kd (GG L) (o + 1) = 4 := by
  obtain ⟨h1, h2, h3⟩ := GG_in L h (by decide)
  have key : ∀ a, a < 119 → (kTab.getD a (0, 0)).1 = 0 → (a + 1) < 119 ∧ 0 < (a + 1) ∧ kTab.getD (a + 1) (0, 0) = (4, 3) := by decide +kernel
  obtain ⟨k1, k2, k3⟩ := key o h2 h3
  rw [GG_kd L k2 k1, k3]
theorem wl_0_1 {L : Nat × Nat} {o : Nat} (h : kd (GG L) o = 0) : ln (GG L) (o + 1) = 3 := by
  obtain ⟨h1, h2, h3⟩ := GG_in L h (by decide)
  have key : ∀ a, a < 119 → (kTab.getD a (0, 0)).1 = 0 → (a + 1) < 119 ∧ 0 < (a + 1) ∧ kTab.getD (a + 1) (0, 0) = (4, 3) := by decide +kernel
  obtain ⟨k1, k2, k3⟩ := key o h2 h3
  rw [GG_ln L k2 k1, k3]
theorem w_0_2 {L : Nat × Nat} {o : Nat} (h : kd (GG L) o = 0) : rf (GG L) o 2 = some (o + 3) := by
  obtain ⟨h1, h2, h3⟩ := GG_in L h (by decide)
  rw [GG_rf L _ _ h2]
  have key : ∀ a, a < 119 → (kTab.getD a (0, 0)).1 = 0 → rfO opsL 1 a 2 none = some (a + 3) := by decide +kernel
  exact key o h2 h3
theorem wk_0_2 {L : Nat × Nat} {o : Nat} (h : kd (GG L) o = 0) : kd (GG L) (o + 3) = 4 := by
  obtain ⟨h1, h2, h3⟩ := GG_in L h (by decide)
  have key : ∀ a, a < 119 → (kTab.getD a (0, 0)).1 = 0 → (a + 3) < 119 ∧ 0 < (a + 3) ∧ kTab.getD (a + 3) (0, 0) = (4, 3) := by decide +kernel
  obtain ⟨k1, k2, k3⟩ := key o h2 h3
  rw [GG_kd L k2 k1, k3]
theorem wl_0_2 {L : Nat × Nat} {o : Nat} (h : kd (GG L) o = 0) : ln (GG L) (o + 3) = 3 := by
  obtain ⟨h1, h2, h3⟩ := GG_in L h (by decide)
  have key : ∀ a, a < 119 → (kTab.getD a (0, 0)).1 = 0 → (a + 3) < 119 ∧ 0 < (a + 3) ∧ kTab.getD (a + 3) (0, 0) = (4, 3) := by decide +kernel
  obtain ⟨k1, k2, k3⟩ := key o h2 h3
  rw [GG_ln L k2 k1, k3]
theorem w_0_10 {L : Nat × Nat} {o : Nat} (h : kd (GG L) o = 0) : rf (GG L) o 10 = some (o + 5) := by
  obtain ⟨h1, h2, h3⟩ := GG_in L h (by decide)
  rw [GG_rf L _ _ h2]
  have key : ∀ a, a < 119 → (kTab.getD a (0, 0)).1 = 0 → rfO opsL 1 a 10 none = some (a + 5) := by decide +kernel
  exact key o h2 h3
theorem wk_0_10 {L : Nat × Nat} {o : Nat} (h : kd (GG L) o = 0) : kd (GG L) (o + 5) = 50 := by
  obtain ⟨h1, h2, h3⟩ := GG_in L h (by decide)
  have key : ∀ a, a < 119 → (kTab.getD a (0, 0)).1 = 0 → (a + 5) < 119 ∧ 0 < (a + 5) ∧ kTab.getD (a + 5) (0, 0) = (50, 10) := by decide +kernel
  obtain ⟨k1, k2, k3⟩ := key o h2 h3
  rw [GG_kd L k2 k1, k3]
theorem wl_0_10 {L : Nat × Nat} {o : Nat} (h : kd (GG L) o = 0) : ln (GG L) (o + 5) = 10 := by
  obtain ⟨h1, h2, h3⟩ := GG_in L h (by decide)
  have key : ∀ a, a < 119 → (kTab.getD a (0, 0)).1 = 0 → (a + 5) < 119 ∧ 0 < (a + 5) ∧ kTab.getD (a + 5) (0, 0) = (50, 10) := by decide +kernel
  obtain ⟨k1, k2, k3⟩ := key o h2 h3
  rw [GG_ln L k2 k1, k3]
theorem w_0_11 {L : Nat × Nat} {o : Nat} (h : kd (GG L) o = 0) : rf (GG L) o 11 = some (o + 6) := by
  obtain ⟨h1, h2, h3⟩ := GG_in L h (by decide)
  rw [GG_rf L _ _ h2]
  have key : ∀ a, a < 119 → (kTab.getD a (0, 0)).1 = 0 → rfO opsL 1 a 11 none = some (a + 6) := by decide +kernel
  exact key o h2 h3
theorem wk_0_11 {L : Nat × Nat} {o : Nat} (h : kd (GG L) o = 0) : kd (GG L) (o + 6) = 50 := by
  obtain ⟨h1, h2, h3⟩ := GG_in L h (by decide)
  have key : ∀ a, a < 119 → (kTab.getD a (0, 0)).1 = 0 → (a + 6) < 119 ∧ 0 < (a + 6) ∧ kTab.getD (a + 6) (0, 0) = (50, 10) := by decide +kernel
  obtain ⟨k1, k2, k3⟩ := key o h2 h3
  rw [GG_kd L k2 k1, k3]
theorem wl_0_11 {L : Nat × Nat} {o : Nat} (h : kd (GG L) o = 0) : ln (GG L) (o + 6) = 10 := by
  obtain ⟨h1, h2, h3⟩ := GG_in L h (by decide)
  have key : ∀ a, a < 119 → (kTab.getD a (0, 0)).1 = 0 → (a + 6) < 119 ∧ 0 < (a + 6) ∧ kTab.getD (a + 6) (0, 0) = (50, 10) := by decide +kernel
  obtain ⟨k1, k2, k3⟩ := key o h2 h3
  rw [GG_ln L k2 k1, k3]
theorem w_0_12 {L : Nat × Nat} {o : Nat} (h : kd (GG L) o = 0) : rf (GG L) o 12 = some (o + 7) := by
  obtain ⟨h1, h2, h3⟩ := GG_in L h (by decide)
  rw [GG_rf L _ _ h2]
  have key : ∀ a, a < 119 → (kTab.getD a (0, 0)).1 = 0 → rfO opsL 1 a 12 none = some (a + 7) := by decide +kernel
  exact key o h2 h3
theorem wk_0_12 {L : Nat × Nat} {o : Nat} (h : kd (GG L) o = 0) : kd (GG L) (o + 7) = 50 := by
  obtain ⟨h1, h2, h3⟩ := GG_in L h (by decide)
  have key : ∀ a, a < 119 → (kTab.getD a (0, 0)).1 = 0 → (a + 7) < 119 ∧ 0 < (a + 7) ∧ kTab.getD (a + 7) (0, 0) = (50, 10) := by decide +kernel
  obtain ⟨k1, k2, k3⟩ := key o h2 h3
  rw [GG_kd L k2 k1, k3]
theorem wl_0_12 {L : Nat × Nat} {o : Nat} (h : kd (GG L) o = 0) : ln (GG L) (o + 7) = 10 := by
  obtain ⟨h1, h2, h3⟩ := GG_in L h (by decide)
  have key : ∀ a, a < 119 → (kTab.getD a (0, 0)).1 = 0 → (a + 7) < 119 ∧ 0 < (a + 7) ∧ kTab.getD (a + 7) (0, 0) = (50, 10) := by decide +kernel
  obtain ⟨k1, k2, k3⟩ := key o h2 h3
  rw [GG_ln L k2 k1, k3]
theorem w_0_13 {L : Nat × Nat} {o : Nat} (h : kd (GG L) o = 0) : rf (GG L) o 13 = some (o + 8) := by
  obtain ⟨h1, h2, h3⟩ := GG_in L h (by decide)
  rw [GG_rf L _ _ h2]
  have key : ∀ a, a < 119 → (kTab.getD a (0, 0)).1 = 0 → rfO opsL 1 a 13 none = some (a + 8) := by decide +kernel
  exact key o h2 h3
theorem wk_0_13 {L : Nat × Nat} {o : Nat} (h : kd (GG L) o = 0) : kd (GG L) (o + 8) = 50 := by
  obtain ⟨h1, h2, h3⟩ := GG_in L h (by decide)
  have key : ∀ a, a < 119 → (kTab.getD a (0, 0)).1 = 0 → (a + 8) < 119 ∧ 0 < (a + 8) ∧ kTab.getD (a + 8) (0, 0) = (50, 10) := by decide +kernel
  obtain ⟨k1, k2, k3⟩ := key o h2 h3
  rw [GG_kd L k2 k1, k3]
theorem wl_0_13 {L : Nat × Nat} {o : Nat} (h : kd (GG L) o = 0) : ln (GG L) (o + 8) = 10 := by
  obtain ⟨h1, h2, h3⟩ := GG_in L h (by decide)
  have key : ∀ a, a < 119 → (kTab.getD a (0, 0)).1 = 0 → (a + 8) < 119 ∧ 0 < (a + 8) ∧ kTab.getD (a + 8) (0, 0) = (50, 10) := by decide +kernel
  obtain ⟨k1, k2, k3⟩ := key o h2 h3
  rw [GG_ln L k2 k1, k3]
theorem w_1_0 {L : Nat × Nat} {o : Nat} (h : kd (GG L) o = 1) : rf (GG L) o 0 = some (o + 1) := by
  obtain ⟨h1, h2, h3⟩ := GG_in L h (by decide)
  rw [GG_rf L _ _ h2]
  have key : ∀ a, a < 119 → (kTab.getD a (0, 0)).1 = 1 → rfO opsL 1 a 0 none = some (a + 1) := by decide +kernel
  exact key o h2 h3
theorem wk_1_0 {L : Nat × Nat} {o : Nat} (h : kd (GG L) o = 1) : kd (GG L) (o + 1) = 51 := by
  obtain ⟨h1, h2, h3⟩ := GG_in L h (by decide)
  have key : ∀ a, a < 119 → (kTab.getD a (0, 0)).1 = 1 → (a + 1) < 119 ∧ 0 < (a + 1) ∧ kTab.getD (a + 1) (0, 0) = (51, 10) := by decide +kernel
  obtain ⟨k1, k2, k3⟩ := key o h2 h3
  rw [GG_kd L k2 k1, k3]
theorem wl_1_0 {L : Nat × Nat} {o : Nat} (h : kd (GG L) o = 1) : ln (GG L) (o + 1) = 10 := by
  obtain ⟨h1, h2, h3⟩ := GG_in L h (by decide)
  have key : ∀ a, a < 119 → (kTab.getD a (0, 0)).1 = 1 → (a + 1) < 119 ∧ 0 < (a + 1) ∧ kTab.getD (a + 1) (0, 0) = (51, 10) := by decide +kernel
  obtain ⟨k1, k2, k3⟩ := key o h2 h3
  rw [GG_ln L k2 k1, k3]
theorem w_1_1 {L : Nat × Nat} {o : Nat} (h : kd (GG L) o = 1) : rf (GG L) o 1 = some (o + 2) := by
  obtain ⟨h1, h2, h3⟩ := GG_in L h (by decide)
  rw [GG_rf L _ _ h2]
  have key : ∀ a, a < 119 → (kTab.getD a (0, 0)).1 = 1 → rfO opsL 1 a 1 none = some (a + 2) := by decide +kernel
  exact key o h2 h3
theorem wk_1_1 {L : Nat × Nat} {o : Nat} (h : kd (GG L) o = 1) : kd (GG L) (o + 2) = 50 := by
  obtain ⟨h1, h2, h3⟩ := GG_in L h (by decide)
  have key : ∀ a, a < 119 → (kTab.getD a (0, 0)).1 = 1 → (a + 2) < 119 ∧ 0 < (a + 2) ∧ kTab.getD (a + 2) (0, 0) = (50, 10) := by decide +kernel
  obtain ⟨k1, k2, k3⟩ := key o h2 h3
  rw [GG_kd L k2 k1, k3]
theorem wl_1_1 {L : Nat × Nat} {o : Nat} (h : kd (GG L) o = 1) : ln (GG L) (o + 2) = 10 := by
  obtain ⟨h1, h2, h3⟩ := GG_in L h (by decide)
  have key : ∀ a, a < 119 → (kTab.getD a (0, 0)).1 = 1 → (a + 2) < 119 ∧ 0 < (a + 2) ∧ kTab.getD (a + 2) (0, 0) = (50, 10) := by decide +kernel
  obtain ⟨k1, k2, k3⟩ := key o h2 h3
  rw [GG_ln L k2 k1, k3]
theorem w_1_2 {L : Nat × Nat} {o : Nat} (h : kd (GG L) o = 1) : rf (GG L) o 2 = some (o + 3) := by
  obtain ⟨h1, h2, h3⟩ := GG_in L h (by decide)
  rw [GG_rf L _ _ h2]
  have key : ∀ a, a < 119 → (kTab.getD a (0, 0)).1 = 1 → rfO opsL 1 a 2 none = some (a + 3) := by decide +kernel
  exact key o h2 h3
theorem wk_1_2 {L : Nat × Nat} {o : Nat} (h : kd (GG L) o = 1) : kd (GG L) (o + 3) = 50 := by
  obtain ⟨h1, h2, h3⟩ := GG_in L h (by decide)
  have key : ∀ a, a < 119 → (kTab.getD a (0, 0)).1 = 1 → (a + 3) < 119 ∧ 0 < (a + 3) ∧ kTab.getD (a + 3) (0, 0) = (50, 10) := by decide +kernel
  obtain ⟨k1, k2, k3⟩ := key o h2 h3
  rw [GG_kd L k2 k1, k3]
theorem wl_1_2 {L : Nat × Nat} {o : Nat} (h : kd (GG L) o = 1) : ln (GG L) (o + 3) = 10 := by
  obtain ⟨h1, h2, h3⟩ := GG_in L h (by decide)
  have key : ∀ a, a < 119 → (kTab.getD a (0, 0)).1 = 1 → (a + 3) < 119 ∧ 0 < (a + 3) ∧ kTab.getD (a + 3) (0, 0) = (50, 10) := by decide +kernel
  obtain ⟨k1, k2, k3⟩ := key o h2 h3
  rw [GG_ln L k2 k1, k3]
theorem w_1_3 {L : Nat × Nat} {o : Nat} (h : kd (GG L) o = 1) : rf (GG L) o 3 = some (o + 4) := by
  obtain ⟨h1, h2, h3⟩ := GG_in L h (by decide)
  rw [GG_rf L _ _ h2]
  have key : ∀ a, a < 119 → (kTab.getD a (0, 0)).1 = 1 → rfO opsL 1 a 3 none = some (a + 4) := by decide +kernel
  exact key o h2 h3
theorem wk_1_3 {L : Nat × Nat} {o : Nat} (h : kd (GG L) o = 1) : kd (GG L) (o + 4) = 50 := by
  obtain ⟨h1, h2, h3⟩ := GG_in L h (by decide)
  have key : ∀ a, a < 119 → (kTab.getD a (0, 0)).1 = 1 → (a + 4) < 119 ∧ 0 < (a + 4) ∧ kTab.getD (a + 4) (0, 0) = (50, 10) := by decide +kernel
  obtain ⟨k1, k2, k3⟩ := key o h2 h3
  rw [GG_kd L k2 k1, k3]
theorem wl_1_3 {L : Nat × Nat} {o : Nat} (h : kd (GG L) o = 1) : ln (GG L) (o + 4) = 10 := by
  obtain ⟨h1, h2, h3⟩ := GG_in L h (by decide)
  have key : ∀ a, a < 119 → (kTab.getD a (0, 0)).1 = 1 → (a + 4) < 119 ∧ 0 < (a + 4) ∧ kTab.getD (a + 4) (0, 0) = (50, 10) := by decide +kernel
  obtain ⟨k1, k2, k3⟩ := key o h2 h3
  rw [GG_ln L k2 k1, k3]
theorem w_1_4 {L : Nat × Nat} {o : Nat} (h : kd (GG L) o = 1) : rf (GG L) o 4 = some (o + 5) := by
  obtain ⟨h1, h2, h3⟩ := GG_in L h (by decide)
  rw [GG_rf L _ _ h2]
  have key : ∀ a, a < 119 → (kTab.getD a (0, 0)).1 = 1 → rfO opsL 1 a 4 none = some (a + 5) := by decide +kernel
  exact key o h2 h3
theorem wk_1_4 {L : Nat × Nat} {o : Nat} (h : kd (GG L) o = 1) : kd (GG L) (o + 5) = 5 := by
  obtain ⟨h1, h2, h3⟩ := GG_in L h (by decide)
  have key : ∀ a, a < 119 → (kTab.getD a (0, 0)).1 = 1 → (a + 5) < 119 ∧ 0 < (a + 5) ∧ kTab.getD (a + 5) (0, 0) = (5, 5) := by decide +kernel
  obtain ⟨k1, k2, k3⟩ := key o h2 h3
  rw [GG_kd L k2 k1, k3]
theorem wl_1_4 {L : Nat × Nat} {o : Nat} (h : kd (GG L) o = 1) : ln (GG L) (o + 5) = 5 := by
  obtain ⟨h1, h2, h3⟩ := GG_in L h (by decide)
  have key : ∀ a, a < 119 → (kTab.getD a (0, 0)).1 = 1 → (a + 5) < 119 ∧ 0 < (a + 5) ∧ kTab.getD (a + 5) (0, 0) = (5, 5) := by decide +kernel
  obtain ⟨k1, k2, k3⟩ := key o h2 h3
  rw [GG_ln L k2 k1, k3]
theorem w_2_0 {L : Nat × Nat} {o : Nat} (h : kd (GG L) o = 2) : rf (GG L) o 0 = some 10 := by
  obtain ⟨h1, h2, h3⟩ := GG_in L h (by decide)
  rw [GG_rf L _ _ h2]
  have key : ∀ a, a < 119 → (kTab.getD a (0, 0)).1 = 2 → rfO opsL 1 a 0 none = some 10 := by decide +kernel
  exact key o h2 h3
theorem wk_2_0 {L : Nat × Nat} {o : Nat} (h : kd (GG L) o = 2) : kd (GG L) 10 = 1 := by
  obtain ⟨h1, h2, h3⟩ := GG_in L h (by decide)
  have key : ∀ a, a < 119 → (kTab.getD a (0, 0)).1 = 2 → 10 < 119 ∧ 0 < 10 ∧ kTab.getD 10 (0, 0) = (1, 5) := by decide +kernel
  obtain ⟨k1, k2, k3⟩ := key o h2 h3
  rw [GG_kd L k2 k1, k3]
theorem wl_2_0 {L : Nat × Nat} {o : Nat} (h : kd (GG L) o = 2) : ln (GG L) 10 = 5 := by
  obtain ⟨h1, h2, h3⟩ := GG_in L h (by decide)
  have key : ∀ a, a < 119 → (kTab.getD a (0, 0)).1 = 2 → 10 < 119 ∧ 0 < 10 ∧ kTab.getD 10 (0, 0) = (1, 5) := by decide +kernel
  obtain ⟨k1, k2, k3⟩ := key o h2 h3
  rw [GG_ln L k2 k1, k3]
theorem w_2_1 {L : Nat × Nat} {o : Nat} (h : kd (GG L) o = 2) : rf (GG L) o 1 = some 20 := by
  obtain ⟨h1, h2, h3⟩ := GG_in L h (by decide)
  rw [GG_rf L _ _ h2]
  have key : ∀ a, a < 119 → (kTab.getD a (0, 0)).1 = 2 → rfO opsL 1 a 1 none = some 20 := by decide +kernel
  exact key o h2 h3
theorem wk_2_1 {L : Nat × Nat} {o : Nat} (h : kd (GG L) o = 2) : kd (GG L) 20 = 53 := by
  obtain ⟨h1, h2, h3⟩ := GG_in L h (by decide)
  have key : ∀ a, a < 119 → (kTab.getD a (0, 0)).1 = 2 → 20 < 119 ∧ 0 < 20 ∧ kTab.getD 20 (0, 0) = (53, 6) := by decide +kernel
  obtain ⟨k1, k2, k3⟩ := key o h2 h3
  rw [GG_kd L k2 k1, k3]
theorem wl_2_1 {L : Nat × Nat} {o : Nat} (h : kd (GG L) o = 2) : ln (GG L) 20 = 6 := by
  obtain ⟨h1, h2, h3⟩ := GG_in L h (by decide)
  have key : ∀ a, a < 119 → (kTab.getD a (0, 0)).1 = 2 → 20 < 119 ∧ 0 < 20 ∧ kTab.getD 20 (0, 0) = (53, 6) := by decide +kernel
  obtain ⟨k1, k2, k3⟩ := key o h2 h3
  rw [GG_ln L k2 k1, k3]
theorem w_3_0 {L : Nat × Nat} {o : Nat} (h : kd (GG L) o = 3) : rf (GG L) o 0 = some 3 := by
  obtain ⟨h1, h2, h3⟩ := GG_in L h (by decide)
  rw [GG_rf L _ _ h2]
  have key : ∀ a, a < 119 → (kTab.getD a (0, 0)).1 = 3 → rfO opsL 1 a 0 none = some 3 := by decide +kernel
  exact key o h2 h3
theorem wk_3_0 {L : Nat × Nat} {o : Nat} (h : kd (GG L) o = 3) : kd (GG L) 3 = 52 := by
  obtain ⟨h1, h2, h3⟩ := GG_in L h (by decide)
  have key : ∀ a, a < 119 → (kTab.getD a (0, 0)).1 = 3 → 3 < 119 ∧ 0 < 3 ∧ kTab.getD 3 (0, 0) = (52, 80) := by decide +kernel
  obtain ⟨k1, k2, k3⟩ := key o h2 h3
  rw [GG_kd L k2 k1, k3]
theorem wl_3_0 {L : Nat × Nat} {o : Nat} (h : kd (GG L) o = 3) : ln (GG L) 3 = 80 := by
  obtain ⟨h1, h2, h3⟩ := GG_in L h (by decide)
  have key : ∀ a, a < 119 → (kTab.getD a (0, 0)).1 = 3 → 3 < 119 ∧ 0 < 3 ∧ kTab.getD 3 (0, 0) = (52, 80) := by decide +kernel
  obtain ⟨k1, k2, k3⟩ := key o h2 h3
  rw [GG_ln L k2 k1, k3]
theorem w_3_1 {L : Nat × Nat} {o : Nat} (h : kd (GG L) o = 3) : rf (GG L) o 1 = some 4 := by
  obtain ⟨h1, h2, h3⟩ := GG_in L h (by decide)
  rw [GG_rf L _ _ h2]
  have key : ∀ a, a < 119 → (kTab.getD a (0, 0)).1 = 3 → rfO opsL 1 a 1 none = some 4 := by decide +kernel
  exact key o h2 h3
theorem wk_3_1 {L : Nat × Nat} {o : Nat} (h : kd (GG L) o = 3) : kd (GG L) 4 = 5 := by
  obtain ⟨h1, h2, h3⟩ := GG_in L h (by decide)
  have key : ∀ a, a < 119 → (kTab.getD a (0, 0)).1 = 3 → 4 < 119 ∧ 0 < 4 ∧ kTab.getD 4 (0, 0) = (5, 5) := by decide +kernel
  obtain ⟨k1, k2, k3⟩ := key o h2 h3
  rw [GG_kd L k2 k1, k3]
theorem wl_3_1 {L : Nat × Nat} {o : Nat} (h : kd (GG L) o = 3) : ln (GG L) 4 = 5 := by
  obtain ⟨h1, h2, h3⟩ := GG_in L h (by decide)
  have key : ∀ a, a < 119 → (kTab.getD a (0, 0)).1 = 3 → 4 < 119 ∧ 0 < 4 ∧ kTab.getD 4 (0, 0) = (5, 5) := by decide +kernel
  obtain ⟨k1, k2, k3⟩ := key o h2 h3
  rw [GG_ln L k2 k1, k3]
theorem w_4_0 {L : Nat × Nat} {o : Nat} (h : kd (GG L) o = 4) : rf (GG L) o 0 = some (o + 1) := by
  obtain ⟨h1, h2, h3⟩ := GG_in L h (by decide)
  rw [GG_rf L _ _ h2]
  have key : ∀ a, a < 119 → (kTab.getD a (0, 0)).1 = 4 → rfO opsL 1 a 0 none = some (a + 1) := by decide +kernel
  exact key o h2 h3
theorem wk_4_0 {L : Nat × Nat} {o : Nat} (h : kd (GG L) o = 4) : kd (GG L) (o + 1) = 50 := by
  obtain ⟨h1, h2, h3⟩ := GG_in L h (by decide)
  have key : ∀ a, a < 119 → (kTab.getD a (0, 0)).1 = 4 → (a + 1) < 119 ∧ 0 < (a + 1) ∧ kTab.getD (a + 1) (0, 0) = (50, 48) := by decide +kernel
  obtain ⟨k1, k2, k3⟩ := key o h2 h3
  rw [GG_kd L k2 k1, k3]
theorem wl_4_0 {L : Nat × Nat} {o : Nat} (h : kd (GG L) o = 4) : ln (GG L) (o + 1) = 48 := by
  obtain ⟨h1, h2, h3⟩ := GG_in L h (by decide)
  have key : ∀ a, a < 119 → (kTab.getD a (0, 0)).1 = 4 → (a + 1) < 119 ∧ 0 < (a + 1) ∧ kTab.getD (a + 1) (0, 0) = (50, 48) := by decide +kernel
  obtain ⟨k1, k2, k3⟩ := key o h2 h3
  rw [GG_ln L k2 k1, k3]
theorem w_5_0 {L : Nat × Nat} {o : Nat} (h : kd (GG L) o = 5) : rf (GG L) o 0 = some (o + 1) := by
  obtain ⟨h1, h2, h3⟩ := GG_in L h (by decide)
  rw [GG_rf L _ _ h2]
  have key : ∀ a, a < 119 → (kTab.getD a (0, 0)).1 = 5 → rfO opsL 1 a 0 none = some (a + 1) := by decide +kernel
  exact key o h2 h3
theorem wk_5_0 {L : Nat × Nat} {o : Nat} (h : kd (GG L) o = 5) : kd (GG L) (o + 1) = 50 := by
  obtain ⟨h1, h2, h3⟩ := GG_in L h (by decide)
  have key : ∀ a, a < 119 → (kTab.getD a (0, 0)).1 = 5 → (a + 1) < 119 ∧ 0 < (a + 1) ∧ kTab.getD (a + 1) (0, 0) = (50, 27) := by decide +kernel
  obtain ⟨k1, k2, k3⟩ := key o h2 h3
  rw [GG_kd L k2 k1, k3]
theorem wl_5_0 {L : Nat × Nat} {o : Nat} (h : kd (GG L) o = 5) : ln (GG L) (o + 1) = 27 := by
  obtain ⟨h1, h2, h3⟩ := GG_in L h (by decide)
  have key : ∀ a, a < 119 → (kTab.getD a (0, 0)).1 = 5 → (a + 1) < 119 ∧ 0 < (a + 1) ∧ kTab.getD (a + 1) (0, 0) = (50, 27) := by decide +kernel
  obtain ⟨k1, k2, k3⟩ := key o h2 h3
  rw [GG_ln L k2 k1, k3]
theorem w_5_1 {L : Nat × Nat} {o : Nat} (h : kd (GG L) o = 5) : rf (GG L) o 1 = some (o + 2) := by
  obtain ⟨h1, h2, h3⟩ := GG_in L h (by decide)
  rw [GG_rf L _ _ h2]
  have key : ∀ a, a < 119 → (kTab.getD a (0, 0)).1 = 5 → rfO opsL 1 a 1 none = some (a + 2) := by decide +kernel
  exact key o h2 h3
theorem wk_5_1 {L : Nat × Nat} {o : Nat} (h : kd (GG L) o = 5) : kd (GG L) (o + 2) = 50 := by
  obtain ⟨h1, h2, h3⟩ := GG_in L h (by decide)
  have key : ∀ a, a < 119 → (kTab.getD a (0, 0)).1 = 5 → (a + 2) < 119 ∧ 0 < (a + 2) ∧ kTab.getD (a + 2) (0, 0) = (50, 27) := by decide +kernel
  obtain ⟨k1, k2, k3⟩ := key o h2 h3
  rw [GG_kd L k2 k1, k3]
theorem wl_5_1 {L : Nat × Nat} {o : Nat} (h : kd (GG L) o = 5) : ln (GG L) (o + 2) = 27 := by
  obtain ⟨h1, h2, h3⟩ := GG_in L h (by decide)
  have key : ∀ a, a < 119 → (kTab.getD a (0, 0)).1 = 5 → (a + 2) < 119 ∧ 0 < (a + 2) ∧ kTab.getD (a + 2) (0, 0) = (50, 27) := by decide +kernel
  obtain ⟨k1, k2, k3⟩ := key o h2 h3
  rw [GG_ln L k2 k1, k3]
theorem w_5_2 {L : Nat × Nat} {o : Nat} (h : kd (GG L) o = 5) : rf (GG L) o 2 = some (o + 3) := by
  obtain ⟨h1, h2, h3⟩ := GG_in L h (by decide)
  rw [GG_rf L _ _ h2]
  have key : ∀ a, a < 119 → (kTab.getD a (0, 0)).1 = 5 → rfO opsL 1 a 2 none = some (a + 3) := by decide +kernel
  exact key o h2 h3
theorem wk_5_2 {L : Nat × Nat} {o : Nat} (h : kd (GG L) o = 5) : kd (GG L) (o + 3) = 50 := by
  obtain ⟨h1, h2, h3⟩ := GG_in L h (by decide)
  have key : ∀ a, a < 119 → (kTab.getD a (0, 0)).1 = 5 → (a + 3) < 119 ∧ 0 < (a + 3) ∧ kTab.getD (a + 3) (0, 0) = (50, 27) := by decide +kernel
  obtain ⟨k1, k2, k3⟩ := key o h2 h3
  rw [GG_kd L k2 k1, k3]
theorem wl_5_2 {L : Nat × Nat} {o : Nat} (h : kd (GG L) o = 5) : ln (GG L) (o + 3) = 27 := by
  obtain ⟨h1, h2, h3⟩ := GG_in L h (by decide)
  have key : ∀ a, a < 119 → (kTab.getD a (0, 0)).1 = 5 → (a + 3) < 119 ∧ 0 < (a + 3) ∧ kTab.getD (a + 3) (0, 0) = (50, 27) := by decide +kernel
  obtain ⟨k1, k2, k3⟩ := key o h2 h3
  rw [GG_ln L k2 k1, k3]
theorem w_5_3 {L : Nat × Nat} {o : Nat} (h : kd (GG L) o = 5) : rf (GG L) o 3 = some (o + 4) := by
  obtain ⟨h1, h2, h3⟩ := GG_in L h (by decide)
  rw [GG_rf L _ _ h2]
  have key : ∀ a, a < 119 → (kTab.getD a (0, 0)).1 = 5 → rfO opsL 1 a 3 none = some (a + 4) := by decide +kernel
  exact key o h2 h3
theorem wk_5_3 {L : Nat × Nat} {o : Nat} (h : kd (GG L) o = 5) : kd (GG L) (o + 4) = 50 := by
  obtain ⟨h1, h2, h3⟩ := GG_in L h (by decide)
  have key : ∀ a, a < 119 → (kTab.getD a (0, 0)).1 = 5 → (a + 4) < 119 ∧ 0 < (a + 4) ∧ kTab.getD (a + 4) (0, 0) = (50, 27) := by decide +kernel
  obtain ⟨k1, k2, k3⟩ := key o h2 h3
  rw [GG_kd L k2 k1, k3]
theorem wl_5_3 {L : Nat × Nat} {o : Nat} (h : kd (GG L) o = 5) : ln (GG L) (o + 4) = 27 := by
  obtain ⟨h1, h2, h3⟩ := GG_in L h (by decide)
  have key : ∀ a, a < 119 → (kTab.getD a (0, 0)).1 = 5 → (a + 4) < 119 ∧ 0 < (a + 4) ∧ kTab.getD (a + 4) (0, 0) = (50, 27) := by decide +kernel
  obtain ⟨k1, k2, k3⟩ := key o h2 h3
  rw [GG_ln L k2 k1, k3]
theorem w_6_0 {L : Nat × Nat} {o : Nat} (h : kd (GG L) o = 6) : rf (GG L) o 0 = some 2 := by
  obtain ⟨h1, h2, h3⟩ := GG_in L h (by decide)
  rw [GG_rf L _ _ h2]
  have key : ∀ a, a < 119 → (kTab.getD a (0, 0)).1 = 6 → rfO opsL 1 a 0 none = some 2 := by decide +kernel
  exact key o h2 h3
theorem wk_6_0 {L : Nat × Nat} {o : Nat} (h : kd (GG L) o = 6) : kd (GG L) 2 = 3 := by
  obtain ⟨h1, h2, h3⟩ := GG_in L h (by decide)
  have key : ∀ a, a < 119 → (kTab.getD a (0, 0)).1 = 6 → 2 < 119 ∧ 0 < 2 ∧ kTab.getD 2 (0, 0) = (3, 4) := by decide +kernel
  obtain ⟨k1, k2, k3⟩ := key o h2 h3
  rw [GG_kd L k2 k1, k3]
theorem wl_6_0 {L : Nat × Nat} {o : Nat} (h : kd (GG L) o = 6) : ln (GG L) 2 = 4 := by
  obtain ⟨h1, h2, h3⟩ := GG_in L h (by decide)
  have key : ∀ a, a < 119 → (kTab.getD a (0, 0)).1 = 6 → 2 < 119 ∧ 0 < 2 ∧ kTab.getD 2 (0, 0) = (3, 4) := by decide +kernel
  obtain ⟨k1, k2, k3⟩ := key o h2 h3
  rw [GG_ln L k2 k1, k3]
theorem w_6_1 {L : Nat × Nat} {o : Nat} (h : kd (GG L) o = 6) : rf (GG L) o 1 = some 9 := by
  obtain ⟨h1, h2, h3⟩ := GG_in L h (by decide)
  rw [GG_rf L _ _ h2]
  have key : ∀ a, a < 119 → (kTab.getD a (0, 0)).1 = 6 → rfO opsL 1 a 1 none = some 9 := by decide +kernel
  exact key o h2 h3
theorem wk_6_1 {L : Nat × Nat} {o : Nat} (h : kd (GG L) o = 6) : kd (GG L) 9 = 2 := by
  obtain ⟨h1, h2, h3⟩ := GG_in L h (by decide)
  have key : ∀ a, a < 119 → (kTab.getD a (0, 0)).1 = 6 → 9 < 119 ∧ 0 < 9 ∧ kTab.getD 9 (0, 0) = (2, 3) := by decide +kernel
  obtain ⟨k1, k2, k3⟩ := key o h2 h3
  rw [GG_kd L k2 k1, k3]
theorem wl_6_1 {L : Nat × Nat} {o : Nat} (h : kd (GG L) o = 6) : ln (GG L) 9 = 3 := by
  obtain ⟨h1, h2, h3⟩ := GG_in L h (by decide)
  have key : ∀ a, a < 119 → (kTab.getD a (0, 0)).1 = 6 → 9 < 119 ∧ 0 < 9 ∧ kTab.getD 9 (0, 0) = (2, 3) := by decide +kernel
  obtain ⟨k1, k2, k3⟩ := key o h2 h3
  rw [GG_ln L k2 k1, k3]
theorem w_6_2 {L : Nat × Nat} {o : Nat} (h : kd (GG L) o = 6) : rf (GG L) o 2 = some 81 := by
  obtain ⟨h1, h2, h3⟩ := GG_in L h (by decide)
  rw [GG_rf L _ _ h2]
  have key : ∀ a, a < 119 → (kTab.getD a (0, 0)).1 = 6 → rfO opsL 1 a 2 none = some 81 := by decide +kernel
  exact key o h2 h3
theorem wk_6_2 {L : Nat × Nat} {o : Nat} (h : kd (GG L) o = 6) : kd (GG L) 81 = 0 := by
  obtain ⟨h1, h2, h3⟩ := GG_in L h (by decide)
  have key : ∀ a, a < 119 → (kTab.getD a (0, 0)).1 = 6 → 81 < 119 ∧ 0 < 81 ∧ kTab.getD 81 (0, 0) = (0, 14) := by decide +kernel
  obtain ⟨k1, k2, k3⟩ := key o h2 h3
  rw [GG_kd L k2 k1, k3]
theorem wl_6_2 {L : Nat × Nat} {o : Nat} (h : kd (GG L) o = 6) : ln (GG L) 81 = 14 := by
  obtain ⟨h1, h2, h3⟩ := GG_in L h (by decide)
  have key : ∀ a, a < 119 → (kTab.getD a (0, 0)).1 = 6 → 81 < 119 ∧ 0 < 81 ∧ kTab.getD 81 (0, 0) = (0, 14) := by decide +kernel
  obtain ⟨k1, k2, k3⟩ := key o h2 h3
  rw [GG_ln L k2 k1, k3]
theorem w_6_3 {L : Nat × Nat} {o : Nat} (h : kd (GG L) o = 6) : rf (GG L) o 3 = some 90 := by
  obtain ⟨h1, h2, h3⟩ := GG_in L h (by decide)
  rw [GG_rf L _ _ h2]
  have key : ∀ a, a < 119 → (kTab.getD a (0, 0)).1 = 6 → rfO opsL 1 a 3 none = some 90 := by decide +kernel
  exact key o h2 h3
theorem wk_6_3 {L : Nat × Nat} {o : Nat} (h : kd (GG L) o = 6) : kd (GG L) 90 = 0 := by
  obtain ⟨h1, h2, h3⟩ := GG_in L h (by decide)
  have key : ∀ a, a < 119 → (kTab.getD a (0, 0)).1 = 6 → 90 < 119 ∧ 0 < 90 ∧ kTab.getD 90 (0, 0) = (0, 14) := by decide +kernel
  obtain ⟨k1, k2, k3⟩ := key o h2 h3
  rw [GG_kd L k2 k1, k3]
theorem wl_6_3 {L : Nat × Nat} {o : Nat} (h : kd (GG L) o = 6) : ln (GG L) 90 = 14 := by
  obtain ⟨h1, h2, h3⟩ := GG_in L h (by decide)
  have key : ∀ a, a < 119 → (kTab.getD a (0, 0)).1 = 6 → 90 < 119 ∧ 0 < 90 ∧ kTab.getD 90 (0, 0) = (0, 14) := by decide +kernel
  obtain ⟨k1, k2, k3⟩ := key o h2 h3
  rw [GG_ln L k2 k1, k3]
theorem w_6_4 {L : Nat × Nat} {o : Nat} (h : kd (GG L) o = 6) : rf (GG L) o 4 = some 99 := by
  obtain ⟨h1, h2, h3⟩ := GG_in L h (by decide)
  rw [GG_rf L _ _ h2]
  have key : ∀ a, a < 119 → (kTab.getD a (0, 0)).1 = 6 → rfO opsL 1 a 4 none = some 99 := by decide +kernel
  exact key o h2 h3
theorem wk_6_4 {L : Nat × Nat} {o : Nat} (h : kd (GG L) o = 6) : kd (GG L) 99 = 54 := by
  obtain ⟨h1, h2, h3⟩ := GG_in L h (by decide)
  have key : ∀ a, a < 119 → (kTab.getD a (0, 0)).1 = 6 → 99 < 119 ∧ 0 < 99 ∧ kTab.getD 99 (0, 0) = (54, 2) := by decide +kernel
  obtain ⟨k1, k2, k3⟩ := key o h2 h3
  rw [GG_kd L k2 k1, k3]
theorem wl_6_4 {L : Nat × Nat} {o : Nat} (h : kd (GG L) o = 6) : ln (GG L) 99 = 2 := by
  obtain ⟨h1, h2, h3⟩ := GG_in L h (by decide)
  have key : ∀ a, a < 119 → (kTab.getD a (0, 0)).1 = 6 → 99 < 119 ∧ 0 < 99 ∧ kTab.getD 99 (0, 0) = (54, 2) := by decide +kernel
  obtain ⟨k1, k2, k3⟩ := key o h2 h3
  rw [GG_ln L k2 k1, k3]
theorem w_6_5 {L : Nat × Nat} {o : Nat} (h : kd (GG L) o = 6) : rf (GG L) o 5 = some 118 := by
  obtain ⟨h1, h2, h3⟩ := GG_in L h (by decide)
  rw [GG_rf L _ _ h2]
  have key : ∀ a, a < 119 → (kTab.getD a (0, 0)).1 = 6 → rfO opsL 1 a 5 none = some 118 := by decide +kernel
  exact key o h2 h3
theorem wk_6_5 {L : Nat × Nat} {o : Nat} (h : kd (GG L) o = 6) : kd (GG L) 118 = 51 := by
  obtain ⟨h1, h2, h3⟩ := GG_in L h (by decide)
  have key : ∀ a, a < 119 → (kTab.getD a (0, 0)).1 = 6 → 118 < 119 ∧ 0 < 118 ∧ kTab.getD 118 (0, 0) = (51, 2) := by decide +kernel
  obtain ⟨k1, k2, k3⟩ := key o h2 h3
  rw [GG_kd L k2 k1, k3]
theorem wl_6_5 {L : Nat × Nat} {o : Nat} (h : kd (GG L) o = 6) : ln (GG L) 118 = 2 := by
  obtain ⟨h1, h2, h3⟩ := GG_in L h (by decide)
  have key : ∀ a, a < 119 → (kTab.getD a (0, 0)).1 = 6 → 118 < 119 ∧ 0 < 118 ∧ kTab.getD 118 (0, 0) = (51, 2) := by decide +kernel
  obtain ⟨k1, k2, k3⟩ := key o h2 h3
  rw [GG_ln L k2 k1, k3]
theorem k_1 {L : Nat × Nat} : kd (GG L) 1 = 6 := by rw [GG_kd L (by decide) (by decide)]; decide +kernel
theorem k_2 {L : Nat × Nat} : kd (GG L) 2 = 3 := by rw [GG_kd L (by decide) (by decide)]; decide +kernel
theorem k_9 {L : Nat × Nat} : kd (GG L) 9 = 2 := by rw [GG_kd L (by decide) (by decide)]; decide +kernel
theorem k_10 {L : Nat × Nat} : kd (GG L) 10 = 1 := by rw [GG_kd L (by decide) (by decide)]; decide +kernel
theorem k_21 {L : Nat × Nat} : kd (GG L) 21 = 1 := by rw [GG_kd L (by decide) (by decide)]; decide +kernel
theorem k_31 {L : Nat × Nat} : kd (GG L) 31 = 1 := by rw [GG_kd L (by decide) (by decide)]; decide +kernel
theorem k_41 {L : Nat × Nat} : kd (GG L) 41 = 1 := by rw [GG_kd L (by decide) (by decide)]; decide +kernel
theorem k_51 {L : Nat × Nat} : kd (GG L) 51 = 1 := by rw [GG_kd L (by decide) (by decide)]; decide +kernel
theorem k_61 {L : Nat × Nat} : kd (GG L) 61 = 1 := by rw [GG_kd L (by decide) (by decide)]; decide +kernel
theorem k_71 {L : Nat × Nat} : kd (GG L) 71 = 1 := by rw [GG_kd L (by decide) (by decide)]; decide +kernel
theorem k_81 {L : Nat × Nat} : kd (GG L) 81 = 0 := by rw [GG_kd L (by decide) (by decide)]; decide +kernel
theorem k_82 {L : Nat × Nat} : kd (GG L) 82 = 4 := by rw [GG_kd L (by decide) (by decide)]; decide +kernel
theorem k_84 {L : Nat × Nat} : kd (GG L) 84 = 4 := by rw [GG_kd L (by decide) (by decide)]; decide +kernel
theorem k_90 {L : Nat × Nat} : kd (GG L) 90 = 0 := by rw [GG_kd L (by decide) (by decide)]; decide +kernel
theorem k_91 {L : Nat × Nat} : kd (GG L) 91 = 4 := by rw [GG_kd L (by decide) (by decide)]; decide +kernel
theorem k_93 {L : Nat × Nat} : kd (GG L) 93 = 4 := by rw [GG_kd L (by decide) (by decide)]; decide +kernel
theorem k_100 {L : Nat × Nat} : kd (GG L) 100 = 0 := by rw [GG_kd L (by decide) (by decide)]; decide +kernel
theorem k_101 {L : Nat × Nat} : kd (GG L) 101 = 4 := by rw [GG_kd L (by decide) (by decide)]; decide +kernel
theorem k_103 {L : Nat × Nat} : kd (GG L) 103 = 4 := by rw [GG_kd L (by decide) (by decide)]; decide +kernel
theorem k_109 {L : Nat × Nat} : kd (GG L) 109 = 0 := by rw [GG_kd L (by decide) (by decide)]; decide +kernel
theorem k_110 {L : Nat × Nat} : kd (GG L) 110 = 4 := by rw [GG_kd L (by decide) (by decide)]; decide +kernel
theorem k_112 {L : Nat × Nat} : kd (GG L) 112 = 4 := by rw [GG_kd L (by decide) (by decide)]; decide +kernel
theorem inb_lt {i : Int32} {n : Nat} (h : inb i n = true) : ix i < n := by
  unfold inb at h
  simp only [Bool.and_eq_true, decide_eq_true_eq] at h
  show i.toInt.toNat < n
  omega
theorem we_53 {L : Nat × Nat} {i : Int32} (h : inb i 6 = true) : rf (GG L) 20 (ix i) = some (21 + 10 * ix i) := by
  rw [GG_rf L _ _ (by decide)]
  have key : ∀ j, j < 6 → rfO opsL 1 20 j none = some (21 + 10 * j) := by decide +kernel
  exact key _ (inb_lt h)
theorem wek_53 {L : Nat × Nat} {i : Nat} (h : i < 6) : kd (GG L) (21 + 10 * i) = 1 := by
  have key : ∀ j, j < 6 → 21 + 10 * j < 119 ∧ 0 < 21 + 10 * j ∧ (kTab.getD (21 + 10 * j) (0, 0)).1 = 1 := by decide +kernel
  obtain ⟨k1, k2, k3⟩ := key _ h
  rw [GG_kd L k2 k1, k3]

theorem we_54 {L : Nat × Nat} {i : Int32} (h : inb i 2 = true) : rf (GG L) 99 (ix i) = some (100 + 9 * ix i) := by
  rw [GG_rf L _ _ (by decide)]
  have key : ∀ j, j < 2 → rfO opsL 1 99 j none = some (100 + 9 * j) := by decide +kernel
  exact key _ (inb_lt h)
theorem wek_54 {L : Nat × Nat} {i : Nat} (h : i < 2) : kd (GG L) (100 + 9 * i) = 0 := by
  have key : ∀ j, j < 2 → 100 + 9 * j < 119 ∧ 0 < 100 + 9 * j ∧ (kTab.getD (100 + 9 * j) (0, 0)).1 = 0 := by decide +kernel
  obtain ⟨k1, k2, k3⟩ := key _ h
  rw [GG_kd L k2 k1, k3]
