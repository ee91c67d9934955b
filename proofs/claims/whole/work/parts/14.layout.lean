/-! ===== the objects behind both constructors ===== -/
def apG (G : Gt) (q : Nat × Nat × Nat × Nat) : Gt := match q.1 with
  | 0 => nG G q.2.1 q.2.2.1
  | _ => uG G q.2.1 q.2.2.1 q.2.2.2
def alcs (l : List (Nat × Nat × Nat × Nat)) : List (Nat × Nat) := l.filterMap (fun q => if q.1 = 0 then some (q.2.1, q.2.2.1) else none)
def rfO : List (Nat × Nat × Nat × Nat) → Nat → Nat → Nat → Option Nat → Option Nat
  | [], _, _, _, acc => acc
  | q :: t, n, a, j, acc => match q.1 with
    | 0 => rfO t (n + 1) a j (if a = n then none else acc)
    | _ => rfO t n a j (if a = q.2.1 then (if j = q.2.2.1 then some q.2.2.2 else acc) else acc)
theorem apG_n : ∀ (l : List (Nat × Nat × Nat × Nat)) (G : Gt), (l.foldl apG G).1 = G.1 + (alcs l).length := by
  intro l
  induction l with
  | nil => intro G; rfl
  | cons q t ih =>
    intro G
    obtain ⟨z, a, b, c⟩ := q
    rw [List.foldl_cons, ih]
    cases z with
    | zero =>
      have e : alcs ((0, a, b, c) :: t) = (a, b) :: alcs t := by simp [alcs]
      rw [e, List.length_cons]
      show G.1 + 1 + _ = _
      omega
    | succ z =>
      have e : alcs ((z + 1, a, b, c) :: t) = alcs t := by simp [alcs]
      rw [e]
      rfl
theorem apG_k : ∀ (l : List (Nat × Nat × Nat × Nat)) (G : Gt) (a : Nat) (q : Nat × Nat), G.1 ≤ a → (alcs l)[a - G.1]? = some q → (l.foldl apG G).2.2.1 a = q := by
  have keep : ∀ (l : List (Nat × Nat × Nat × Nat)) (G : Gt) (a : Nat), a < G.1 → (l.foldl apG G).2.2.1 a = G.2.2.1 a := by
    intro l
    induction l with
    | nil => intro G a h; rfl
    | cons q t ih =>
      intro G a h
      obtain ⟨z, x, y, c⟩ := q
      rw [List.foldl_cons]
      cases z with
      | zero =>
        exact (ih (nG G x y) a (show a < (nG G x y).1 from Nat.lt_succ_of_lt h)).trans (nG_kd G x y a (by omega))
      | succ z => exact (ih (uG G x y c) a (show a < (uG G x y c).1 from h)).trans rfl
  intro l
  induction l with
  | nil => intro G a q h h2; simp [alcs] at h2
  | cons q0 t ih =>
    intro G a q h h2
    obtain ⟨z, x, y, c⟩ := q0
    rw [List.foldl_cons]
    cases z with
    | zero =>
      have e : alcs ((0, x, y, c) :: t) = (x, y) :: alcs t := by simp [alcs]
      rw [e] at h2
      by_cases ha : a = G.1
      · subst ha
        rw [Nat.sub_self] at h2
        simp only [List.getElem?_cons_zero, Option.some.injEq] at h2
        subst h2
        exact (keep t (nG G x y) G.1 (show G.1 < (nG G x y).1 from Nat.lt_succ_self _)).trans (nG_new G x y)
      · refine ih (nG G x y) a q (show G.1 + 1 ≤ a by omega) ?_
        rw [show a - G.1 = (a - (G.1 + 1)) + 1 by omega, List.getElem?_cons_succ] at h2
        exact h2
    | succ z =>
      have e : alcs ((z + 1, x, y, c) :: t) = alcs t := by simp [alcs]
      rw [e] at h2
      exact ih (uG G x y c) a q h h2
theorem apG_r : ∀ (l : List (Nat × Nat × Nat × Nat)) (G : Gt) (a j : Nat), rf (l.foldl apG G) a j = rfO l G.1 a j (rf G a j) := by
  intro l
  induction l with
  | nil => intro G a j; rfl
  | cons q t ih =>
    intro G a j
    obtain ⟨z, x, y, c⟩ := q
    rw [List.foldl_cons, ih]
    cases z with
    | zero =>
      show rfO t (G.1 + 1) a j (rf (nG G x y) a j) = rfO t (G.1 + 1) a j (if a = G.1 then none else rf G a j)
      rfl
    | succ z => rfl
def opsL : List (Nat × Nat × Nat × Nat) := [(0, 6, 6, 0), (0, 3, 4, 0), (0, 52, 80, 0), (1, 2, 0, 3), (0, 5, 5, 0), (0, 50, 27, 0), (1, 4, 0, 5), (0, 50, 27, 0), (1, 4, 1, 6), (0, 50, 27, 0), (1, 4, 2, 7), (0, 50, 27, 0), (1, 4, 3, 8), (1, 2, 1, 4), (1, 1, 0, 2), (0, 2, 3, 0), (0, 1, 5, 0), (0, 51, 10, 0), (1, 10, 0, 11), (0, 50, 10, 0), (1, 10, 1, 12), (0, 50, 10, 0), (1, 10, 2, 13), (0, 50, 10, 0), (1, 10, 3, 14), (0, 5, 5, 0), (0, 50, 27, 0), (1, 15, 0, 16), (0, 50, 27, 0), (1, 15, 1, 17), (0, 50, 27, 0), (1, 15, 2, 18), (0, 50, 27, 0), (1, 15, 3, 19), (1, 10, 4, 15), (1, 9, 0, 10), (0, 53, 6, 0), (1, 9, 1, 20), (0, 1, 5, 0), (0, 51, 10, 0), (1, 21, 0, 22), (0, 50, 10, 0), (1, 21, 1, 23), (0, 50, 10, 0), (1, 21, 2, 24), (0, 50, 10, 0), (1, 21, 3, 25), (0, 5, 5, 0), (0, 50, 27, 0), (1, 26, 0, 27), (0, 50, 27, 0), (1, 26, 1, 28), (0, 50, 27, 0), (1, 26, 2, 29), (0, 50, 27, 0), (1, 26, 3, 30), (1, 21, 4, 26), (1, 20, 0, 21), (0, 1, 5, 0), (0, 51, 10, 0), (1, 31, 0, 32), (0, 50, 10, 0), (1, 31, 1, 33), (0, 50, 10, 0), (1, 31, 2, 34), (0, 50, 10, 0), (1, 31, 3, 35), (0, 5, 5, 0), (0, 50, 27, 0), (1, 36, 0, 37), (0, 50, 27, 0), (1, 36, 1, 38), (0, 50, 27, 0), (1, 36, 2, 39), (0, 50, 27, 0), (1, 36, 3, 40), (1, 31, 4, 36), (1, 20, 1, 31), (0, 1, 5, 0), (0, 51, 10, 0), (1, 41, 0, 42), (0, 50, 10, 0), (1, 41, 1, 43), (0, 50, 10, 0), (1, 41, 2, 44), (0, 50, 10, 0), (1, 41, 3, 45), (0, 5, 5, 0), (0, 50, 27, 0), (1, 46, 0, 47), (0, 50, 27, 0), (1, 46, 1, 48), (0, 50, 27, 0), (1, 46, 2, 49), (0, 50, 27, 0), (1, 46, 3, 50), (1, 41, 4, 46), (1, 20, 2, 41), (0, 1, 5, 0), (0, 51, 10, 0), (1, 51, 0, 52), (0, 50, 10, 0), (1, 51, 1, 53), (0, 50, 10, 0), (1, 51, 2, 54), (0, 50, 10, 0), (1, 51, 3, 55), (0, 5, 5, 0), (0, 50, 27, 0), (1, 56, 0, 57), (0, 50, 27, 0), (1, 56, 1, 58), (0, 50, 27, 0), (1, 56, 2, 59), (0, 50, 27, 0), (1, 56, 3, 60), (1, 51, 4, 56), (1, 20, 3, 51), (0, 1, 5, 0), (0, 51, 10, 0), (1, 61, 0, 62), (0, 50, 10, 0), (1, 61, 1, 63), (0, 50, 10, 0), (1, 61, 2, 64), (0, 50, 10, 0), (1, 61, 3, 65), (0, 5, 5, 0), (0, 50, 27, 0), (1, 66, 0, 67), (0, 50, 27, 0), (1, 66, 1, 68), (0, 50, 27, 0), (1, 66, 2, 69), (0, 50, 27, 0), (1, 66, 3, 70), (1, 61, 4, 66), (1, 20, 4, 61), (0, 1, 5, 0), (0, 51, 10, 0), (1, 71, 0, 72), (0, 50, 10, 0), (1, 71, 1, 73), (0, 50, 10, 0), (1, 71, 2, 74), (0, 50, 10, 0), (1, 71, 3, 75), (0, 5, 5, 0), (0, 50, 27, 0), (1, 76, 0, 77), (0, 50, 27, 0), (1, 76, 1, 78), (0, 50, 27, 0), (1, 76, 2, 79), (0, 50, 27, 0), (1, 76, 3, 80), (1, 71, 4, 76), (1, 20, 5, 71), (1, 1, 1, 9), (0, 0, 14, 0), (0, 4, 3, 0), (0, 50, 48, 0), (1, 82, 0, 83), (1, 81, 1, 82), (0, 4, 3, 0), (0, 50, 48, 0), (1, 84, 0, 85), (1, 81, 2, 84), (0, 50, 10, 0), (1, 81, 10, 86), (0, 50, 10, 0), (1, 81, 11, 87), (0, 50, 10, 0), (1, 81, 12, 88), (0, 50, 10, 0), (1, 81, 13, 89), (1, 81, 0, 9), (1, 1, 2, 81), (0, 0, 14, 0), (0, 4, 3, 0), (0, 50, 48, 0), (1, 91, 0, 92), (1, 90, 1, 91), (0, 4, 3, 0), (0, 50, 48, 0), (1, 93, 0, 94), (1, 90, 2, 93), (0, 50, 10, 0), (1, 90, 10, 95), (0, 50, 10, 0), (1, 90, 11, 96), (0, 50, 10, 0), (1, 90, 12, 97), (0, 50, 10, 0), (1, 90, 13, 98), (1, 90, 0, 9), (1, 1, 3, 90), (0, 54, 2, 0), (1, 1, 4, 99), (0, 0, 14, 0), (0, 4, 3, 0), (0, 50, 48, 0), (1, 101, 0, 102), (1, 100, 1, 101), (0, 4, 3, 0), (0, 50, 48, 0), (1, 103, 0, 104), (1, 100, 2, 103), (0, 50, 10, 0), (1, 100, 10, 105), (0, 50, 10, 0), (1, 100, 11, 106), (0, 50, 10, 0), (1, 100, 12, 107), (0, 50, 10, 0), (1, 100, 13, 108), (1, 100, 0, 9), (1, 99, 0, 100), (0, 0, 14, 0), (0, 4, 3, 0), (0, 50, 48, 0), (1, 110, 0, 111), (1, 109, 1, 110), (0, 4, 3, 0), (0, 50, 48, 0), (1, 112, 0, 113), (1, 109, 2, 112), (0, 50, 10, 0), (1, 109, 10, 114), (0, 50, 10, 0), (1, 109, 11, 115), (0, 50, 10, 0), (1, 109, 12, 116), (0, 50, 10, 0), (1, 109, 13, 117), (1, 109, 0, 9), (1, 99, 1, 109), (0, 51, 2, 0), (1, 1, 5, 118), (0, 7, 28, 0), (0, 50, 127, 0), (1, 119, 0, 120), (0, 50, 127, 0), (1, 119, 1, 121), (0, 50, 254, 0), (1, 119, 2, 122), (0, 51, 2, 0), (1, 119, 3, 123), (0, 50, 80, 0), (1, 119, 4, 124), (0, 51, 60, 0), (1, 119, 7, 125), (0, 50, 60, 0), (1, 119, 8, 126), (0, 50, 60, 0), (1, 119, 9, 127), (0, 50, 60, 0), (1, 119, 10, 128), (0, 50, 6, 0), (1, 119, 11, 129), (0, 50, 168, 0), (1, 119, 12, 130), (0, 50, 168, 0), (1, 119, 13, 131), (0, 50, 168, 0), (1, 119, 14, 132), (0, 50, 168, 0), (1, 119, 15, 133), (0, 50, 10, 0), (1, 119, 20, 134), (0, 50, 10, 0), (1, 119, 21, 135)]
/-- the start: the script alone, of L ints -/
def Gi (L : Nat) : Gt := (1, 0, fun _ => (60, L), fun _ _ => none)
def GG (L : Nat) : Gt := opsL.foldl apG (Gi L)
theorem GG_n (L : Nat) : (GG L).1 = 136 := by
  unfold GG
  rw [apG_n]
  have : (alcs opsL).length = 135 := by decide +kernel
  rw [this]
  rfl
def kTab : List (Nat × Nat) := [(60, 0), (6, 6), (3, 4), (52, 80), (5, 5), (50, 27), (50, 27), (50, 27), (50, 27), (2, 3), (1, 5), (51, 10), (50, 10), (50, 10), (50, 10), (5, 5), (50, 27), (50, 27), (50, 27), (50, 27), (53, 6), (1, 5), (51, 10), (50, 10), (50, 10), (50, 10), (5, 5), (50, 27), (50, 27), (50, 27), (50, 27), (1, 5), (51, 10), (50, 10), (50, 10), (50, 10), (5, 5), (50, 27), (50, 27), (50, 27), (50, 27), (1, 5), (51, 10), (50, 10), (50, 10), (50, 10), (5, 5), (50, 27), (50, 27), (50, 27), (50, 27), (1, 5), (51, 10), (50, 10), (50, 10), (50, 10), (5, 5), (50, 27), (50, 27), (50, 27), (50, 27), (1, 5), (51, 10), (50, 10), (50, 10), (50, 10), (5, 5), (50, 27), (50, 27), (50, 27), (50, 27), (1, 5), (51, 10), (50, 10), (50, 10), (50, 10), (5, 5), (50, 27), (50, 27), (50, 27), (50, 27), (0, 14), (4, 3), (50, 48), (4, 3), (50, 48), (50, 10), (50, 10), (50, 10), (50, 10), (0, 14), (4, 3), (50, 48), (4, 3), (50, 48), (50, 10), (50, 10), (50, 10), (50, 10), (54, 2), (0, 14), (4, 3), (50, 48), (4, 3), (50, 48), (50, 10), (50, 10), (50, 10), (50, 10), (0, 14), (4, 3), (50, 48), (4, 3), (50, 48), (50, 10), (50, 10), (50, 10), (50, 10), (51, 2), (7, 28), (50, 127), (50, 127), (50, 254), (51, 2), (50, 80), (51, 60), (50, 60), (50, 60), (50, 60), (50, 6), (50, 168), (50, 168), (50, 168), (50, 168), (50, 10), (50, 10)]
theorem GG_k (L : Nat) {a : Nat} (h0 : 0 < a) (h : a < 136) : (GG L).2.2.1 a = kTab.getD a (0, 0) := by
  have h1 : (List.range 136).all (fun a => a == 0 || (alcs opsL)[a - 1]? == some (kTab.getD a (0, 0))) = true := by decide +kernel
  have h2 := List.all_eq_true.mp h1 a (List.mem_range.mpr h)
  simp only [Bool.or_eq_true, beq_iff_eq] at h2
  rcases h2 with h2 | h2
  · omega
  · exact apG_k opsL (Gi L) a _ h0 h2
theorem GG_kd (L : Nat) {a : Nat} (h0 : 0 < a) (h : a < 136) : kd (GG L) a = (kTab.getD a (0, 0)).1 := by
  unfold kd
  rw [if_neg (by omega), if_pos (by rw [GG_n]; exact h), GG_k L h0 h]
theorem GG_ln (L : Nat) {a : Nat} (h0 : 0 < a) (h : a < 136) : ln (GG L) a = (kTab.getD a (0, 0)).2 := by
  unfold ln
  rw [GG_k L h0 h]
theorem GG_rf (L a j : Nat) : rf (GG L) a j = rfO opsL 1 a j none := apG_r opsL (Gi L) a j
theorem GG_in (L : Nat) {a c : Nat} (h : kd (GG L) a = c) (h1 : c ≠ 60) (h2 : c ≠ 99) : 0 < a ∧ a < 136 ∧ (kTab.getD a (0, 0)).1 = c := by
  obtain ⟨a1, a2, a3⟩ := kd_spec h h1 h2
  rw [GG_n] at a2
  refine ⟨a1, a2, ?_⟩
  rw [GG_k L a1 a2] at a3
  exact a3
theorem w_0_0 {L o : Nat} (h : kd (GG L) o = 0) : rf (GG L) o 0 = some 9 := by
  obtain ⟨h1, h2, h3⟩ := GG_in L h (by decide) (by decide)
  rw [GG_rf]
  have key : ∀ a, a < 136 → (kTab.getD a (0, 0)).1 = 0 → rfO opsL 1 a 0 none = some 9 := by decide +kernel
  exact key o h2 h3
theorem wk_0_0 {L o : Nat} (h : kd (GG L) o = 0) : kd (GG L) 9 = 2 := by
  obtain ⟨h1, h2, h3⟩ := GG_in L h (by decide) (by decide)
  have key : ∀ a, a < 136 → (kTab.getD a (0, 0)).1 = 0 → 9 < 136 ∧ 0 < 9 ∧ kTab.getD 9 (0, 0) = (2, 3) := by decide +kernel
  obtain ⟨k1, k2, k3⟩ := key o h2 h3
  rw [GG_kd L k2 k1, k3]
theorem wl_0_0 {L o : Nat} (h : kd (GG L) o = 0) : ln (GG L) 9 = 3 := by
  obtain ⟨h1, h2, h3⟩ := GG_in L h (by decide) (by decide)
  have key : ∀ a, a < 136 → (kTab.getD a (0, 0)).1 = 0 → 9 < 136 ∧ 0 < 9 ∧ kTab.getD 9 (0, 0) = (2, 3) := by decide +kernel
  obtain ⟨k1, k2, k3⟩ := key o h2 h3
  rw [GG_ln L k2 k1, k3]
theorem w_0_1 {L o : Nat} (h : kd (GG L) o = 0) : rf (GG L) o 1 = some (o + 1) := by
  obtain ⟨h1, h2, h3⟩ := GG_in L h (by decide) (by decide)
  rw [GG_rf]
  have key : ∀ a, a < 136 → (kTab.getD a (0, 0)).1 = 0 → rfO opsL 1 a 1 none = some (a + 1) := by decide +kernel
  exact key o h2 h3
theorem wk_0_1 {L o : Nat} (h : kd (GG L) o = 0) : kd (GG L) (o + 1) = 4 := by
  obtain ⟨h1, h2, h3⟩ := GG_in L h (by decide) (by decide)
  have key : ∀ a, a < 136 → (kTab.getD a (0, 0)).1 = 0 → (a + 1) < 136 ∧ 0 < (a + 1) ∧ kTab.getD (a + 1) (0, 0) = (4, 3) := by decide +kernel
  obtain ⟨k1, k2, k3⟩ := key o h2 h3
  rw [GG_kd L k2 k1, k3]
theorem wl_0_1 {L o : Nat} (h : kd (GG L) o = 0) : ln (GG L) (o + 1) = 3 := by
  obtain ⟨h1, h2, h3⟩ := GG_in L h (by decide) (by decide)
  have key : ∀ a, a < 136 → (kTab.getD a (0, 0)).1 = 0 → (a + 1) < 136 ∧ 0 < (a + 1) ∧ kTab.getD (a + 1) (0, 0) = (4, 3) := by decide +kernel
  obtain ⟨k1, k2, k3⟩ := key o h2 h3
  rw [GG_ln L k2 k1, k3]
theorem w_0_2 {L o : Nat} (h : kd (GG L) o = 0) : rf (GG L) o 2 = some (o + 3) := by
  obtain ⟨h1, h2, h3⟩ := GG_in L h (by decide) (by decide)
  rw [GG_rf]
  have key : ∀ a, a < 136 → (kTab.getD a (0, 0)).1 = 0 → rfO opsL 1 a 2 none = some (a + 3) := by decide +kernel
  exact key o h2 h3
theorem wk_0_2 {L o : Nat} (h : kd (GG L) o = 0) : kd (GG L) (o + 3) = 4 := by
  obtain ⟨h1, h2, h3⟩ := GG_in L h (by decide) (by decide)
  have key : ∀ a, a < 136 → (kTab.getD a (0, 0)).1 = 0 → (a + 3) < 136 ∧ 0 < (a + 3) ∧ kTab.getD (a + 3) (0, 0) = (4, 3) := by decide +kernel
  obtain ⟨k1, k2, k3⟩ := key o h2 h3
  rw [GG_kd L k2 k1, k3]
theorem wl_0_2 {L o : Nat} (h : kd (GG L) o = 0) : ln (GG L) (o + 3) = 3 := by
  obtain ⟨h1, h2, h3⟩ := GG_in L h (by decide) (by decide)
  have key : ∀ a, a < 136 → (kTab.getD a (0, 0)).1 = 0 → (a + 3) < 136 ∧ 0 < (a + 3) ∧ kTab.getD (a + 3) (0, 0) = (4, 3) := by decide +kernel
  obtain ⟨k1, k2, k3⟩ := key o h2 h3
  rw [GG_ln L k2 k1, k3]
theorem w_0_10 {L o : Nat} (h : kd (GG L) o = 0) : rf (GG L) o 10 = some (o + 5) := by
  obtain ⟨h1, h2, h3⟩ := GG_in L h (by decide) (by decide)
  rw [GG_rf]
  have key : ∀ a, a < 136 → (kTab.getD a (0, 0)).1 = 0 → rfO opsL 1 a 10 none = some (a + 5) := by decide +kernel
  exact key o h2 h3
theorem wk_0_10 {L o : Nat} (h : kd (GG L) o = 0) : kd (GG L) (o + 5) = 50 := by
  obtain ⟨h1, h2, h3⟩ := GG_in L h (by decide) (by decide)
  have key : ∀ a, a < 136 → (kTab.getD a (0, 0)).1 = 0 → (a + 5) < 136 ∧ 0 < (a + 5) ∧ kTab.getD (a + 5) (0, 0) = (50, 10) := by decide +kernel
  obtain ⟨k1, k2, k3⟩ := key o h2 h3
  rw [GG_kd L k2 k1, k3]
theorem wl_0_10 {L o : Nat} (h : kd (GG L) o = 0) : ln (GG L) (o + 5) = 10 := by
  obtain ⟨h1, h2, h3⟩ := GG_in L h (by decide) (by decide)
  have key : ∀ a, a < 136 → (kTab.getD a (0, 0)).1 = 0 → (a + 5) < 136 ∧ 0 < (a + 5) ∧ kTab.getD (a + 5) (0, 0) = (50, 10) := by decide +kernel
  obtain ⟨k1, k2, k3⟩ := key o h2 h3
  rw [GG_ln L k2 k1, k3]
theorem w_0_11 {L o : Nat} (h : kd (GG L) o = 0) : rf (GG L) o 11 = some (o + 6) := by
  obtain ⟨h1, h2, h3⟩ := GG_in L h (by decide) (by decide)
  rw [GG_rf]
  have key : ∀ a, a < 136 → (kTab.getD a (0, 0)).1 = 0 → rfO opsL 1 a 11 none = some (a + 6) := by decide +kernel
  exact key o h2 h3
theorem wk_0_11 {L o : Nat} (h : kd (GG L) o = 0) : kd (GG L) (o + 6) = 50 := by
  obtain ⟨h1, h2, h3⟩ := GG_in L h (by decide) (by decide)
  have key : ∀ a, a < 136 → (kTab.getD a (0, 0)).1 = 0 → (a + 6) < 136 ∧ 0 < (a + 6) ∧ kTab.getD (a + 6) (0, 0) = (50, 10) := by decide +kernel
  obtain ⟨k1, k2, k3⟩ := key o h2 h3
  rw [GG_kd L k2 k1, k3]
theorem wl_0_11 {L o : Nat} (h : kd (GG L) o = 0) : ln (GG L) (o + 6) = 10 := by
  obtain ⟨h1, h2, h3⟩ := GG_in L h (by decide) (by decide)
  have key : ∀ a, a < 136 → (kTab.getD a (0, 0)).1 = 0 → (a + 6) < 136 ∧ 0 < (a + 6) ∧ kTab.getD (a + 6) (0, 0) = (50, 10) := by decide +kernel
  obtain ⟨k1, k2, k3⟩ := key o h2 h3
  rw [GG_ln L k2 k1, k3]
theorem w_0_12 {L o : Nat} (h : kd (GG L) o = 0) : rf (GG L) o 12 = some (o + 7) := by
  obtain ⟨h1, h2, h3⟩ := GG_in L h (by decide) (by decide)
  rw [GG_rf]
  have key : ∀ a, a < 136 → (kTab.getD a (0, 0)).1 = 0 → rfO opsL 1 a 12 none = some (a + 7) := by decide +kernel
  exact key o h2 h3
theorem wk_0_12 {L o : Nat} (h : kd (GG L) o = 0) : kd (GG L) (o + 7) = 50 := by
  obtain ⟨h1, h2, h3⟩ := GG_in L h (by decide) (by decide)
  have key : ∀ a, a < 136 → (kTab.getD a (0, 0)).1 = 0 → (a + 7) < 136 ∧ 0 < (a + 7) ∧ kTab.getD (a + 7) (0, 0) = (50, 10) := by decide +kernel
  obtain ⟨k1, k2, k3⟩ := key o h2 h3
  rw [GG_kd L k2 k1, k3]
theorem wl_0_12 {L o : Nat} (h : kd (GG L) o = 0) : ln (GG L) (o + 7) = 10 := by
  obtain ⟨h1, h2, h3⟩ := GG_in L h (by decide) (by decide)
  have key : ∀ a, a < 136 → (kTab.getD a (0, 0)).1 = 0 → (a + 7) < 136 ∧ 0 < (a + 7) ∧ kTab.getD (a + 7) (0, 0) = (50, 10) := by decide +kernel
  obtain ⟨k1, k2, k3⟩ := key o h2 h3
  rw [GG_ln L k2 k1, k3]
theorem w_0_13 {L o : Nat} (h : kd (GG L) o = 0) : rf (GG L) o 13 = some (o + 8) := by
  obtain ⟨h1, h2, h3⟩ := GG_in L h (by decide) (by decide)
  rw [GG_rf]
  have key : ∀ a, a < 136 → (kTab.getD a (0, 0)).1 = 0 → rfO opsL 1 a 13 none = some (a + 8) := by decide +kernel
  exact key o h2 h3
theorem wk_0_13 {L o : Nat} (h : kd (GG L) o = 0) : kd (GG L) (o + 8) = 50 := by
  obtain ⟨h1, h2, h3⟩ := GG_in L h (by decide) (by decide)
  have key : ∀ a, a < 136 → (kTab.getD a (0, 0)).1 = 0 → (a + 8) < 136 ∧ 0 < (a + 8) ∧ kTab.getD (a + 8) (0, 0) = (50, 10) := by decide +kernel
  obtain ⟨k1, k2, k3⟩ := key o h2 h3
  rw [GG_kd L k2 k1, k3]
theorem wl_0_13 {L o : Nat} (h : kd (GG L) o = 0) : ln (GG L) (o + 8) = 10 := by
  obtain ⟨h1, h2, h3⟩ := GG_in L h (by decide) (by decide)
  have key : ∀ a, a < 136 → (kTab.getD a (0, 0)).1 = 0 → (a + 8) < 136 ∧ 0 < (a + 8) ∧ kTab.getD (a + 8) (0, 0) = (50, 10) := by decide +kernel
  obtain ⟨k1, k2, k3⟩ := key o h2 h3
  rw [GG_ln L k2 k1, k3]
theorem w_1_0 {L o : Nat} (h : kd (GG L) o = 1) : rf (GG L) o 0 = some (o + 1) := by
  obtain ⟨h1, h2, h3⟩ := GG_in L h (by decide) (by decide)
  rw [GG_rf]
  have key : ∀ a, a < 136 → (kTab.getD a (0, 0)).1 = 1 → rfO opsL 1 a 0 none = some (a + 1) := by decide +kernel
  exact key o h2 h3
theorem wk_1_0 {L o : Nat} (h : kd (GG L) o = 1) : kd (GG L) (o + 1) = 51 := by
  obtain ⟨h1, h2, h3⟩ := GG_in L h (by decide) (by decide)
  have key : ∀ a, a < 136 → (kTab.getD a (0, 0)).1 = 1 → (a + 1) < 136 ∧ 0 < (a + 1) ∧ kTab.getD (a + 1) (0, 0) = (51, 10) := by decide +kernel
  obtain ⟨k1, k2, k3⟩ := key o h2 h3
  rw [GG_kd L k2 k1, k3]
theorem wl_1_0 {L o : Nat} (h : kd (GG L) o = 1) : ln (GG L) (o + 1) = 10 := by
  obtain ⟨h1, h2, h3⟩ := GG_in L h (by decide) (by decide)
  have key : ∀ a, a < 136 → (kTab.getD a (0, 0)).1 = 1 → (a + 1) < 136 ∧ 0 < (a + 1) ∧ kTab.getD (a + 1) (0, 0) = (51, 10) := by decide +kernel
  obtain ⟨k1, k2, k3⟩ := key o h2 h3
  rw [GG_ln L k2 k1, k3]
theorem w_1_1 {L o : Nat} (h : kd (GG L) o = 1) : rf (GG L) o 1 = some (o + 2) := by
  obtain ⟨h1, h2, h3⟩ := GG_in L h (by decide) (by decide)
  rw [GG_rf]
  have key : ∀ a, a < 136 → (kTab.getD a (0, 0)).1 = 1 → rfO opsL 1 a 1 none = some (a + 2) := by decide +kernel
  exact key o h2 h3
theorem wk_1_1 {L o : Nat} (h : kd (GG L) o = 1) : kd (GG L) (o + 2) = 50 := by
  obtain ⟨h1, h2, h3⟩ := GG_in L h (by decide) (by decide)
  have key : ∀ a, a < 136 → (kTab.getD a (0, 0)).1 = 1 → (a + 2) < 136 ∧ 0 < (a + 2) ∧ kTab.getD (a + 2) (0, 0) = (50, 10) := by decide +kernel
  obtain ⟨k1, k2, k3⟩ := key o h2 h3
  rw [GG_kd L k2 k1, k3]
theorem wl_1_1 {L o : Nat} (h : kd (GG L) o = 1) : ln (GG L) (o + 2) = 10 := by
  obtain ⟨h1, h2, h3⟩ := GG_in L h (by decide) (by decide)
  have key : ∀ a, a < 136 → (kTab.getD a (0, 0)).1 = 1 → (a + 2) < 136 ∧ 0 < (a + 2) ∧ kTab.getD (a + 2) (0, 0) = (50, 10) := by decide +kernel
  obtain ⟨k1, k2, k3⟩ := key o h2 h3
  rw [GG_ln L k2 k1, k3]
theorem w_1_2 {L o : Nat} (h : kd (GG L) o = 1) : rf (GG L) o 2 = some (o + 3) := by
  obtain ⟨h1, h2, h3⟩ := GG_in L h (by decide) (by decide)
  rw [GG_rf]
  have key : ∀ a, a < 136 → (kTab.getD a (0, 0)).1 = 1 → rfO opsL 1 a 2 none = some (a + 3) := by decide +kernel
  exact key o h2 h3
theorem wk_1_2 {L o : Nat} (h : kd (GG L) o = 1) : kd (GG L) (o + 3) = 50 := by
  obtain ⟨h1, h2, h3⟩ := GG_in L h (by decide) (by decide)
  have key : ∀ a, a < 136 → (kTab.getD a (0, 0)).1 = 1 → (a + 3) < 136 ∧ 0 < (a + 3) ∧ kTab.getD (a + 3) (0, 0) = (50, 10) := by decide +kernel
  obtain ⟨k1, k2, k3⟩ := key o h2 h3
  rw [GG_kd L k2 k1, k3]
theorem wl_1_2 {L o : Nat} (h : kd (GG L) o = 1) : ln (GG L) (o + 3) = 10 := by
  obtain ⟨h1, h2, h3⟩ := GG_in L h (by decide) (by decide)
  have key : ∀ a, a < 136 → (kTab.getD a (0, 0)).1 = 1 → (a + 3) < 136 ∧ 0 < (a + 3) ∧ kTab.getD (a + 3) (0, 0) = (50, 10) := by decide +kernel
  obtain ⟨k1, k2, k3⟩ := key o h2 h3
  rw [GG_ln L k2 k1, k3]
theorem w_1_3 {L o : Nat} (h : kd (GG L) o = 1) : rf (GG L) o 3 = some (o + 4) := by
  obtain ⟨h1, h2, h3⟩ := GG_in L h (by decide) (by decide)
  rw [GG_rf]
  have key : ∀ a, a < 136 → (kTab.getD a (0, 0)).1 = 1 → rfO opsL 1 a 3 none = some (a + 4) := by decide +kernel
  exact key o h2 h3
theorem wk_1_3 {L o : Nat} (h : kd (GG L) o = 1) : kd (GG L) (o + 4) = 50 := by
  obtain ⟨h1, h2, h3⟩ := GG_in L h (by decide) (by decide)
  have key : ∀ a, a < 136 → (kTab.getD a (0, 0)).1 = 1 → (a + 4) < 136 ∧ 0 < (a + 4) ∧ kTab.getD (a + 4) (0, 0) = (50, 10) := by decide +kernel
  obtain ⟨k1, k2, k3⟩ := key o h2 h3
  rw [GG_kd L k2 k1, k3]
theorem wl_1_3 {L o : Nat} (h : kd (GG L) o = 1) : ln (GG L) (o + 4) = 10 := by
  obtain ⟨h1, h2, h3⟩ := GG_in L h (by decide) (by decide)
  have key : ∀ a, a < 136 → (kTab.getD a (0, 0)).1 = 1 → (a + 4) < 136 ∧ 0 < (a + 4) ∧ kTab.getD (a + 4) (0, 0) = (50, 10) := by decide +kernel
  obtain ⟨k1, k2, k3⟩ := key o h2 h3
  rw [GG_ln L k2 k1, k3]
theorem w_1_4 {L o : Nat} (h : kd (GG L) o = 1) : rf (GG L) o 4 = some (o + 5) := by
  obtain ⟨h1, h2, h3⟩ := GG_in L h (by decide) (by decide)
  rw [GG_rf]
  have key : ∀ a, a < 136 → (kTab.getD a (0, 0)).1 = 1 → rfO opsL 1 a 4 none = some (a + 5) := by decide +kernel
  exact key o h2 h3
theorem wk_1_4 {L o : Nat} (h : kd (GG L) o = 1) : kd (GG L) (o + 5) = 5 := by
  obtain ⟨h1, h2, h3⟩ := GG_in L h (by decide) (by decide)
  have key : ∀ a, a < 136 → (kTab.getD a (0, 0)).1 = 1 → (a + 5) < 136 ∧ 0 < (a + 5) ∧ kTab.getD (a + 5) (0, 0) = (5, 5) := by decide +kernel
  obtain ⟨k1, k2, k3⟩ := key o h2 h3
  rw [GG_kd L k2 k1, k3]
theorem wl_1_4 {L o : Nat} (h : kd (GG L) o = 1) : ln (GG L) (o + 5) = 5 := by
  obtain ⟨h1, h2, h3⟩ := GG_in L h (by decide) (by decide)
  have key : ∀ a, a < 136 → (kTab.getD a (0, 0)).1 = 1 → (a + 5) < 136 ∧ 0 < (a + 5) ∧ kTab.getD (a + 5) (0, 0) = (5, 5) := by decide +kernel
  obtain ⟨k1, k2, k3⟩ := key o h2 h3
  rw [GG_ln L k2 k1, k3]
theorem w_2_0 {L o : Nat} (h : kd (GG L) o = 2) : rf (GG L) o 0 = some 10 := by
  obtain ⟨h1, h2, h3⟩ := GG_in L h (by decide) (by decide)
  rw [GG_rf]
  have key : ∀ a, a < 136 → (kTab.getD a (0, 0)).1 = 2 → rfO opsL 1 a 0 none = some 10 := by decide +kernel
  exact key o h2 h3
theorem wk_2_0 {L o : Nat} (h : kd (GG L) o = 2) : kd (GG L) 10 = 1 := by
  obtain ⟨h1, h2, h3⟩ := GG_in L h (by decide) (by decide)
  have key : ∀ a, a < 136 → (kTab.getD a (0, 0)).1 = 2 → 10 < 136 ∧ 0 < 10 ∧ kTab.getD 10 (0, 0) = (1, 5) := by decide +kernel
  obtain ⟨k1, k2, k3⟩ := key o h2 h3
  rw [GG_kd L k2 k1, k3]
theorem wl_2_0 {L o : Nat} (h : kd (GG L) o = 2) : ln (GG L) 10 = 5 := by
  obtain ⟨h1, h2, h3⟩ := GG_in L h (by decide) (by decide)
  have key : ∀ a, a < 136 → (kTab.getD a (0, 0)).1 = 2 → 10 < 136 ∧ 0 < 10 ∧ kTab.getD 10 (0, 0) = (1, 5) := by decide +kernel
  obtain ⟨k1, k2, k3⟩ := key o h2 h3
  rw [GG_ln L k2 k1, k3]
theorem w_2_1 {L o : Nat} (h : kd (GG L) o = 2) : rf (GG L) o 1 = some 20 := by
  obtain ⟨h1, h2, h3⟩ := GG_in L h (by decide) (by decide)
  rw [GG_rf]
  have key : ∀ a, a < 136 → (kTab.getD a (0, 0)).1 = 2 → rfO opsL 1 a 1 none = some 20 := by decide +kernel
  exact key o h2 h3
theorem wk_2_1 {L o : Nat} (h : kd (GG L) o = 2) : kd (GG L) 20 = 53 := by
  obtain ⟨h1, h2, h3⟩ := GG_in L h (by decide) (by decide)
  have key : ∀ a, a < 136 → (kTab.getD a (0, 0)).1 = 2 → 20 < 136 ∧ 0 < 20 ∧ kTab.getD 20 (0, 0) = (53, 6) := by decide +kernel
  obtain ⟨k1, k2, k3⟩ := key o h2 h3
  rw [GG_kd L k2 k1, k3]
theorem wl_2_1 {L o : Nat} (h : kd (GG L) o = 2) : ln (GG L) 20 = 6 := by
  obtain ⟨h1, h2, h3⟩ := GG_in L h (by decide) (by decide)
  have key : ∀ a, a < 136 → (kTab.getD a (0, 0)).1 = 2 → 20 < 136 ∧ 0 < 20 ∧ kTab.getD 20 (0, 0) = (53, 6) := by decide +kernel
  obtain ⟨k1, k2, k3⟩ := key o h2 h3
  rw [GG_ln L k2 k1, k3]
theorem w_3_0 {L o : Nat} (h : kd (GG L) o = 3) : rf (GG L) o 0 = some 3 := by
  obtain ⟨h1, h2, h3⟩ := GG_in L h (by decide) (by decide)
  rw [GG_rf]
  have key : ∀ a, a < 136 → (kTab.getD a (0, 0)).1 = 3 → rfO opsL 1 a 0 none = some 3 := by decide +kernel
  exact key o h2 h3
theorem wk_3_0 {L o : Nat} (h : kd (GG L) o = 3) : kd (GG L) 3 = 52 := by
  obtain ⟨h1, h2, h3⟩ := GG_in L h (by decide) (by decide)
  have key : ∀ a, a < 136 → (kTab.getD a (0, 0)).1 = 3 → 3 < 136 ∧ 0 < 3 ∧ kTab.getD 3 (0, 0) = (52, 80) := by decide +kernel
  obtain ⟨k1, k2, k3⟩ := key o h2 h3
  rw [GG_kd L k2 k1, k3]
theorem wl_3_0 {L o : Nat} (h : kd (GG L) o = 3) : ln (GG L) 3 = 80 := by
  obtain ⟨h1, h2, h3⟩ := GG_in L h (by decide) (by decide)
  have key : ∀ a, a < 136 → (kTab.getD a (0, 0)).1 = 3 → 3 < 136 ∧ 0 < 3 ∧ kTab.getD 3 (0, 0) = (52, 80) := by decide +kernel
  obtain ⟨k1, k2, k3⟩ := key o h2 h3
  rw [GG_ln L k2 k1, k3]
theorem w_3_1 {L o : Nat} (h : kd (GG L) o = 3) : rf (GG L) o 1 = some 4 := by
  obtain ⟨h1, h2, h3⟩ := GG_in L h (by decide) (by decide)
  rw [GG_rf]
  have key : ∀ a, a < 136 → (kTab.getD a (0, 0)).1 = 3 → rfO opsL 1 a 1 none = some 4 := by decide +kernel
  exact key o h2 h3
theorem wk_3_1 {L o : Nat} (h : kd (GG L) o = 3) : kd (GG L) 4 = 5 := by
  obtain ⟨h1, h2, h3⟩ := GG_in L h (by decide) (by decide)
  have key : ∀ a, a < 136 → (kTab.getD a (0, 0)).1 = 3 → 4 < 136 ∧ 0 < 4 ∧ kTab.getD 4 (0, 0) = (5, 5) := by decide +kernel
  obtain ⟨k1, k2, k3⟩ := key o h2 h3
  rw [GG_kd L k2 k1, k3]
theorem wl_3_1 {L o : Nat} (h : kd (GG L) o = 3) : ln (GG L) 4 = 5 := by
  obtain ⟨h1, h2, h3⟩ := GG_in L h (by decide) (by decide)
  have key : ∀ a, a < 136 → (kTab.getD a (0, 0)).1 = 3 → 4 < 136 ∧ 0 < 4 ∧ kTab.getD 4 (0, 0) = (5, 5) := by decide +kernel
  obtain ⟨k1, k2, k3⟩ := key o h2 h3
  rw [GG_ln L k2 k1, k3]
theorem w_4_0 {L o : Nat} (h : kd (GG L) o = 4) : rf (GG L) o 0 = some (o + 1) := by
  obtain ⟨h1, h2, h3⟩ := GG_in L h (by decide) (by decide)
  rw [GG_rf]
  have key : ∀ a, a < 136 → (kTab.getD a (0, 0)).1 = 4 → rfO opsL 1 a 0 none = some (a + 1) := by decide +kernel
  exact key o h2 h3
theorem wk_4_0 {L o : Nat} (h : kd (GG L) o = 4) : kd (GG L) (o + 1) = 50 := by
  obtain ⟨h1, h2, h3⟩ := GG_in L h (by decide) (by decide)
  have key : ∀ a, a < 136 → (kTab.getD a (0, 0)).1 = 4 → (a + 1) < 136 ∧ 0 < (a + 1) ∧ kTab.getD (a + 1) (0, 0) = (50, 48) := by decide +kernel
  obtain ⟨k1, k2, k3⟩ := key o h2 h3
  rw [GG_kd L k2 k1, k3]
theorem wl_4_0 {L o : Nat} (h : kd (GG L) o = 4) : ln (GG L) (o + 1) = 48 := by
  obtain ⟨h1, h2, h3⟩ := GG_in L h (by decide) (by decide)
  have key : ∀ a, a < 136 → (kTab.getD a (0, 0)).1 = 4 → (a + 1) < 136 ∧ 0 < (a + 1) ∧ kTab.getD (a + 1) (0, 0) = (50, 48) := by decide +kernel
  obtain ⟨k1, k2, k3⟩ := key o h2 h3
  rw [GG_ln L k2 k1, k3]
theorem w_5_0 {L o : Nat} (h : kd (GG L) o = 5) : rf (GG L) o 0 = some (o + 1) := by
  obtain ⟨h1, h2, h3⟩ := GG_in L h (by decide) (by decide)
  rw [GG_rf]
  have key : ∀ a, a < 136 → (kTab.getD a (0, 0)).1 = 5 → rfO opsL 1 a 0 none = some (a + 1) := by decide +kernel
  exact key o h2 h3
theorem wk_5_0 {L o : Nat} (h : kd (GG L) o = 5) : kd (GG L) (o + 1) = 50 := by
  obtain ⟨h1, h2, h3⟩ := GG_in L h (by decide) (by decide)
  have key : ∀ a, a < 136 → (kTab.getD a (0, 0)).1 = 5 → (a + 1) < 136 ∧ 0 < (a + 1) ∧ kTab.getD (a + 1) (0, 0) = (50, 27) := by decide +kernel
  obtain ⟨k1, k2, k3⟩ := key o h2 h3
  rw [GG_kd L k2 k1, k3]
theorem wl_5_0 {L o : Nat} (h : kd (GG L) o = 5) : ln (GG L) (o + 1) = 27 := by
  obtain ⟨h1, h2, h3⟩ := GG_in L h (by decide) (by decide)
  have key : ∀ a, a < 136 → (kTab.getD a (0, 0)).1 = 5 → (a + 1) < 136 ∧ 0 < (a + 1) ∧ kTab.getD (a + 1) (0, 0) = (50, 27) := by decide +kernel
  obtain ⟨k1, k2, k3⟩ := key o h2 h3
  rw [GG_ln L k2 k1, k3]
theorem w_5_1 {L o : Nat} (h : kd (GG L) o = 5) : rf (GG L) o 1 = some (o + 2) := by
  obtain ⟨h1, h2, h3⟩ := GG_in L h (by decide) (by decide)
  rw [GG_rf]
  have key : ∀ a, a < 136 → (kTab.getD a (0, 0)).1 = 5 → rfO opsL 1 a 1 none = some (a + 2) := by decide +kernel
  exact key o h2 h3
theorem wk_5_1 {L o : Nat} (h : kd (GG L) o = 5) : kd (GG L) (o + 2) = 50 := by
  obtain ⟨h1, h2, h3⟩ := GG_in L h (by decide) (by decide)
  have key : ∀ a, a < 136 → (kTab.getD a (0, 0)).1 = 5 → (a + 2) < 136 ∧ 0 < (a + 2) ∧ kTab.getD (a + 2) (0, 0) = (50, 27) := by decide +kernel
  obtain ⟨k1, k2, k3⟩ := key o h2 h3
  rw [GG_kd L k2 k1, k3]
theorem wl_5_1 {L o : Nat} (h : kd (GG L) o = 5) : ln (GG L) (o + 2) = 27 := by
  obtain ⟨h1, h2, h3⟩ := GG_in L h (by decide) (by decide)
  have key : ∀ a, a < 136 → (kTab.getD a (0, 0)).1 = 5 → (a + 2) < 136 ∧ 0 < (a + 2) ∧ kTab.getD (a + 2) (0, 0) = (50, 27) := by decide +kernel
  obtain ⟨k1, k2, k3⟩ := key o h2 h3
  rw [GG_ln L k2 k1, k3]
theorem w_5_2 {L o : Nat} (h : kd (GG L) o = 5) : rf (GG L) o 2 = some (o + 3) := by
  obtain ⟨h1, h2, h3⟩ := GG_in L h (by decide) (by decide)
  rw [GG_rf]
  have key : ∀ a, a < 136 → (kTab.getD a (0, 0)).1 = 5 → rfO opsL 1 a 2 none = some (a + 3) := by decide +kernel
  exact key o h2 h3
theorem wk_5_2 {L o : Nat} (h : kd (GG L) o = 5) : kd (GG L) (o + 3) = 50 := by
  obtain ⟨h1, h2, h3⟩ := GG_in L h (by decide) (by decide)
  have key : ∀ a, a < 136 → (kTab.getD a (0, 0)).1 = 5 → (a + 3) < 136 ∧ 0 < (a + 3) ∧ kTab.getD (a + 3) (0, 0) = (50, 27) := by decide +kernel
  obtain ⟨k1, k2, k3⟩ := key o h2 h3
  rw [GG_kd L k2 k1, k3]
theorem wl_5_2 {L o : Nat} (h : kd (GG L) o = 5) : ln (GG L) (o + 3) = 27 := by
  obtain ⟨h1, h2, h3⟩ := GG_in L h (by decide) (by decide)
  have key : ∀ a, a < 136 → (kTab.getD a (0, 0)).1 = 5 → (a + 3) < 136 ∧ 0 < (a + 3) ∧ kTab.getD (a + 3) (0, 0) = (50, 27) := by decide +kernel
  obtain ⟨k1, k2, k3⟩ := key o h2 h3
  rw [GG_ln L k2 k1, k3]
theorem w_5_3 {L o : Nat} (h : kd (GG L) o = 5) : rf (GG L) o 3 = some (o + 4) := by
  obtain ⟨h1, h2, h3⟩ := GG_in L h (by decide) (by decide)
  rw [GG_rf]
  have key : ∀ a, a < 136 → (kTab.getD a (0, 0)).1 = 5 → rfO opsL 1 a 3 none = some (a + 4) := by decide +kernel
  exact key o h2 h3
theorem wk_5_3 {L o : Nat} (h : kd (GG L) o = 5) : kd (GG L) (o + 4) = 50 := by
  obtain ⟨h1, h2, h3⟩ := GG_in L h (by decide) (by decide)
  have key : ∀ a, a < 136 → (kTab.getD a (0, 0)).1 = 5 → (a + 4) < 136 ∧ 0 < (a + 4) ∧ kTab.getD (a + 4) (0, 0) = (50, 27) := by decide +kernel
  obtain ⟨k1, k2, k3⟩ := key o h2 h3
  rw [GG_kd L k2 k1, k3]
theorem wl_5_3 {L o : Nat} (h : kd (GG L) o = 5) : ln (GG L) (o + 4) = 27 := by
  obtain ⟨h1, h2, h3⟩ := GG_in L h (by decide) (by decide)
  have key : ∀ a, a < 136 → (kTab.getD a (0, 0)).1 = 5 → (a + 4) < 136 ∧ 0 < (a + 4) ∧ kTab.getD (a + 4) (0, 0) = (50, 27) := by decide +kernel
  obtain ⟨k1, k2, k3⟩ := key o h2 h3
  rw [GG_ln L k2 k1, k3]
theorem w_6_0 {L o : Nat} (h : kd (GG L) o = 6) : rf (GG L) o 0 = some 2 := by
  obtain ⟨h1, h2, h3⟩ := GG_in L h (by decide) (by decide)
  rw [GG_rf]
  have key : ∀ a, a < 136 → (kTab.getD a (0, 0)).1 = 6 → rfO opsL 1 a 0 none = some 2 := by decide +kernel
  exact key o h2 h3
theorem wk_6_0 {L o : Nat} (h : kd (GG L) o = 6) : kd (GG L) 2 = 3 := by
  obtain ⟨h1, h2, h3⟩ := GG_in L h (by decide) (by decide)
  have key : ∀ a, a < 136 → (kTab.getD a (0, 0)).1 = 6 → 2 < 136 ∧ 0 < 2 ∧ kTab.getD 2 (0, 0) = (3, 4) := by decide +kernel
  obtain ⟨k1, k2, k3⟩ := key o h2 h3
  rw [GG_kd L k2 k1, k3]
theorem wl_6_0 {L o : Nat} (h : kd (GG L) o = 6) : ln (GG L) 2 = 4 := by
  obtain ⟨h1, h2, h3⟩ := GG_in L h (by decide) (by decide)
  have key : ∀ a, a < 136 → (kTab.getD a (0, 0)).1 = 6 → 2 < 136 ∧ 0 < 2 ∧ kTab.getD 2 (0, 0) = (3, 4) := by decide +kernel
  obtain ⟨k1, k2, k3⟩ := key o h2 h3
  rw [GG_ln L k2 k1, k3]
theorem w_6_1 {L o : Nat} (h : kd (GG L) o = 6) : rf (GG L) o 1 = some 9 := by
  obtain ⟨h1, h2, h3⟩ := GG_in L h (by decide) (by decide)
  rw [GG_rf]
  have key : ∀ a, a < 136 → (kTab.getD a (0, 0)).1 = 6 → rfO opsL 1 a 1 none = some 9 := by decide +kernel
  exact key o h2 h3
theorem wk_6_1 {L o : Nat} (h : kd (GG L) o = 6) : kd (GG L) 9 = 2 := by
  obtain ⟨h1, h2, h3⟩ := GG_in L h (by decide) (by decide)
  have key : ∀ a, a < 136 → (kTab.getD a (0, 0)).1 = 6 → 9 < 136 ∧ 0 < 9 ∧ kTab.getD 9 (0, 0) = (2, 3) := by decide +kernel
  obtain ⟨k1, k2, k3⟩ := key o h2 h3
  rw [GG_kd L k2 k1, k3]
theorem wl_6_1 {L o : Nat} (h : kd (GG L) o = 6) : ln (GG L) 9 = 3 := by
  obtain ⟨h1, h2, h3⟩ := GG_in L h (by decide) (by decide)
  have key : ∀ a, a < 136 → (kTab.getD a (0, 0)).1 = 6 → 9 < 136 ∧ 0 < 9 ∧ kTab.getD 9 (0, 0) = (2, 3) := by decide +kernel
  obtain ⟨k1, k2, k3⟩ := key o h2 h3
  rw [GG_ln L k2 k1, k3]
theorem w_6_2 {L o : Nat} (h : kd (GG L) o = 6) : rf (GG L) o 2 = some 81 := by
  obtain ⟨h1, h2, h3⟩ := GG_in L h (by decide) (by decide)
  rw [GG_rf]
  have key : ∀ a, a < 136 → (kTab.getD a (0, 0)).1 = 6 → rfO opsL 1 a 2 none = some 81 := by decide +kernel
  exact key o h2 h3
theorem wk_6_2 {L o : Nat} (h : kd (GG L) o = 6) : kd (GG L) 81 = 0 := by
  obtain ⟨h1, h2, h3⟩ := GG_in L h (by decide) (by decide)
  have key : ∀ a, a < 136 → (kTab.getD a (0, 0)).1 = 6 → 81 < 136 ∧ 0 < 81 ∧ kTab.getD 81 (0, 0) = (0, 14) := by decide +kernel
  obtain ⟨k1, k2, k3⟩ := key o h2 h3
  rw [GG_kd L k2 k1, k3]
theorem wl_6_2 {L o : Nat} (h : kd (GG L) o = 6) : ln (GG L) 81 = 14 := by
  obtain ⟨h1, h2, h3⟩ := GG_in L h (by decide) (by decide)
  have key : ∀ a, a < 136 → (kTab.getD a (0, 0)).1 = 6 → 81 < 136 ∧ 0 < 81 ∧ kTab.getD 81 (0, 0) = (0, 14) := by decide +kernel
  obtain ⟨k1, k2, k3⟩ := key o h2 h3
  rw [GG_ln L k2 k1, k3]
theorem w_6_3 {L o : Nat} (h : kd (GG L) o = 6) : rf (GG L) o 3 = some 90 := by
  obtain ⟨h1, h2, h3⟩ := GG_in L h (by decide) (by decide)
  rw [GG_rf]
  have key : ∀ a, a < 136 → (kTab.getD a (0, 0)).1 = 6 → rfO opsL 1 a 3 none = some 90 := by decide +kernel
  exact key o h2 h3
theorem wk_6_3 {L o : Nat} (h : kd (GG L) o = 6) : kd (GG L) 90 = 0 := by
  obtain ⟨h1, h2, h3⟩ := GG_in L h (by decide) (by decide)
  have key : ∀ a, a < 136 → (kTab.getD a (0, 0)).1 = 6 → 90 < 136 ∧ 0 < 90 ∧ kTab.getD 90 (0, 0) = (0, 14) := by decide +kernel
  obtain ⟨k1, k2, k3⟩ := key o h2 h3
  rw [GG_kd L k2 k1, k3]
theorem wl_6_3 {L o : Nat} (h : kd (GG L) o = 6) : ln (GG L) 90 = 14 := by
  obtain ⟨h1, h2, h3⟩ := GG_in L h (by decide) (by decide)
  have key : ∀ a, a < 136 → (kTab.getD a (0, 0)).1 = 6 → 90 < 136 ∧ 0 < 90 ∧ kTab.getD 90 (0, 0) = (0, 14) := by decide +kernel
  obtain ⟨k1, k2, k3⟩ := key o h2 h3
  rw [GG_ln L k2 k1, k3]
theorem w_6_4 {L o : Nat} (h : kd (GG L) o = 6) : rf (GG L) o 4 = some 99 := by
  obtain ⟨h1, h2, h3⟩ := GG_in L h (by decide) (by decide)
  rw [GG_rf]
  have key : ∀ a, a < 136 → (kTab.getD a (0, 0)).1 = 6 → rfO opsL 1 a 4 none = some 99 := by decide +kernel
  exact key o h2 h3
theorem wk_6_4 {L o : Nat} (h : kd (GG L) o = 6) : kd (GG L) 99 = 54 := by
  obtain ⟨h1, h2, h3⟩ := GG_in L h (by decide) (by decide)
  have key : ∀ a, a < 136 → (kTab.getD a (0, 0)).1 = 6 → 99 < 136 ∧ 0 < 99 ∧ kTab.getD 99 (0, 0) = (54, 2) := by decide +kernel
  obtain ⟨k1, k2, k3⟩ := key o h2 h3
  rw [GG_kd L k2 k1, k3]
theorem wl_6_4 {L o : Nat} (h : kd (GG L) o = 6) : ln (GG L) 99 = 2 := by
  obtain ⟨h1, h2, h3⟩ := GG_in L h (by decide) (by decide)
  have key : ∀ a, a < 136 → (kTab.getD a (0, 0)).1 = 6 → 99 < 136 ∧ 0 < 99 ∧ kTab.getD 99 (0, 0) = (54, 2) := by decide +kernel
  obtain ⟨k1, k2, k3⟩ := key o h2 h3
  rw [GG_ln L k2 k1, k3]
theorem w_6_5 {L o : Nat} (h : kd (GG L) o = 6) : rf (GG L) o 5 = some 118 := by
  obtain ⟨h1, h2, h3⟩ := GG_in L h (by decide) (by decide)
  rw [GG_rf]
  have key : ∀ a, a < 136 → (kTab.getD a (0, 0)).1 = 6 → rfO opsL 1 a 5 none = some 118 := by decide +kernel
  exact key o h2 h3
theorem wk_6_5 {L o : Nat} (h : kd (GG L) o = 6) : kd (GG L) 118 = 51 := by
  obtain ⟨h1, h2, h3⟩ := GG_in L h (by decide) (by decide)
  have key : ∀ a, a < 136 → (kTab.getD a (0, 0)).1 = 6 → 118 < 136 ∧ 0 < 118 ∧ kTab.getD 118 (0, 0) = (51, 2) := by decide +kernel
  obtain ⟨k1, k2, k3⟩ := key o h2 h3
  rw [GG_kd L k2 k1, k3]
theorem wl_6_5 {L o : Nat} (h : kd (GG L) o = 6) : ln (GG L) 118 = 2 := by
  obtain ⟨h1, h2, h3⟩ := GG_in L h (by decide) (by decide)
  have key : ∀ a, a < 136 → (kTab.getD a (0, 0)).1 = 6 → 118 < 136 ∧ 0 < 118 ∧ kTab.getD 118 (0, 0) = (51, 2) := by decide +kernel
  obtain ⟨k1, k2, k3⟩ := key o h2 h3
  rw [GG_ln L k2 k1, k3]
theorem w_7_0 {L o : Nat} (h : kd (GG L) o = 7) : rf (GG L) o 0 = some 120 := by
  obtain ⟨h1, h2, h3⟩ := GG_in L h (by decide) (by decide)
  rw [GG_rf]
  have key : ∀ a, a < 136 → (kTab.getD a (0, 0)).1 = 7 → rfO opsL 1 a 0 none = some 120 := by decide +kernel
  exact key o h2 h3
theorem wk_7_0 {L o : Nat} (h : kd (GG L) o = 7) : kd (GG L) 120 = 50 := by
  obtain ⟨h1, h2, h3⟩ := GG_in L h (by decide) (by decide)
  have key : ∀ a, a < 136 → (kTab.getD a (0, 0)).1 = 7 → 120 < 136 ∧ 0 < 120 ∧ kTab.getD 120 (0, 0) = (50, 127) := by decide +kernel
  obtain ⟨k1, k2, k3⟩ := key o h2 h3
  rw [GG_kd L k2 k1, k3]
theorem wl_7_0 {L o : Nat} (h : kd (GG L) o = 7) : ln (GG L) 120 = 127 := by
  obtain ⟨h1, h2, h3⟩ := GG_in L h (by decide) (by decide)
  have key : ∀ a, a < 136 → (kTab.getD a (0, 0)).1 = 7 → 120 < 136 ∧ 0 < 120 ∧ kTab.getD 120 (0, 0) = (50, 127) := by decide +kernel
  obtain ⟨k1, k2, k3⟩ := key o h2 h3
  rw [GG_ln L k2 k1, k3]
theorem w_7_1 {L o : Nat} (h : kd (GG L) o = 7) : rf (GG L) o 1 = some 121 := by
  obtain ⟨h1, h2, h3⟩ := GG_in L h (by decide) (by decide)
  rw [GG_rf]
  have key : ∀ a, a < 136 → (kTab.getD a (0, 0)).1 = 7 → rfO opsL 1 a 1 none = some 121 := by decide +kernel
  exact key o h2 h3
theorem wk_7_1 {L o : Nat} (h : kd (GG L) o = 7) : kd (GG L) 121 = 50 := by
  obtain ⟨h1, h2, h3⟩ := GG_in L h (by decide) (by decide)
  have key : ∀ a, a < 136 → (kTab.getD a (0, 0)).1 = 7 → 121 < 136 ∧ 0 < 121 ∧ kTab.getD 121 (0, 0) = (50, 127) := by decide +kernel
  obtain ⟨k1, k2, k3⟩ := key o h2 h3
  rw [GG_kd L k2 k1, k3]
theorem wl_7_1 {L o : Nat} (h : kd (GG L) o = 7) : ln (GG L) 121 = 127 := by
  obtain ⟨h1, h2, h3⟩ := GG_in L h (by decide) (by decide)
  have key : ∀ a, a < 136 → (kTab.getD a (0, 0)).1 = 7 → 121 < 136 ∧ 0 < 121 ∧ kTab.getD 121 (0, 0) = (50, 127) := by decide +kernel
  obtain ⟨k1, k2, k3⟩ := key o h2 h3
  rw [GG_ln L k2 k1, k3]
theorem w_7_2 {L o : Nat} (h : kd (GG L) o = 7) : rf (GG L) o 2 = some 122 := by
  obtain ⟨h1, h2, h3⟩ := GG_in L h (by decide) (by decide)
  rw [GG_rf]
  have key : ∀ a, a < 136 → (kTab.getD a (0, 0)).1 = 7 → rfO opsL 1 a 2 none = some 122 := by decide +kernel
  exact key o h2 h3
theorem wk_7_2 {L o : Nat} (h : kd (GG L) o = 7) : kd (GG L) 122 = 50 := by
  obtain ⟨h1, h2, h3⟩ := GG_in L h (by decide) (by decide)
  have key : ∀ a, a < 136 → (kTab.getD a (0, 0)).1 = 7 → 122 < 136 ∧ 0 < 122 ∧ kTab.getD 122 (0, 0) = (50, 254) := by decide +kernel
  obtain ⟨k1, k2, k3⟩ := key o h2 h3
  rw [GG_kd L k2 k1, k3]
theorem wl_7_2 {L o : Nat} (h : kd (GG L) o = 7) : ln (GG L) 122 = 254 := by
  obtain ⟨h1, h2, h3⟩ := GG_in L h (by decide) (by decide)
  have key : ∀ a, a < 136 → (kTab.getD a (0, 0)).1 = 7 → 122 < 136 ∧ 0 < 122 ∧ kTab.getD 122 (0, 0) = (50, 254) := by decide +kernel
  obtain ⟨k1, k2, k3⟩ := key o h2 h3
  rw [GG_ln L k2 k1, k3]
theorem w_7_3 {L o : Nat} (h : kd (GG L) o = 7) : rf (GG L) o 3 = some 123 := by
  obtain ⟨h1, h2, h3⟩ := GG_in L h (by decide) (by decide)
  rw [GG_rf]
  have key : ∀ a, a < 136 → (kTab.getD a (0, 0)).1 = 7 → rfO opsL 1 a 3 none = some 123 := by decide +kernel
  exact key o h2 h3
theorem wk_7_3 {L o : Nat} (h : kd (GG L) o = 7) : kd (GG L) 123 = 51 := by
  obtain ⟨h1, h2, h3⟩ := GG_in L h (by decide) (by decide)
  have key : ∀ a, a < 136 → (kTab.getD a (0, 0)).1 = 7 → 123 < 136 ∧ 0 < 123 ∧ kTab.getD 123 (0, 0) = (51, 2) := by decide +kernel
  obtain ⟨k1, k2, k3⟩ := key o h2 h3
  rw [GG_kd L k2 k1, k3]
theorem wl_7_3 {L o : Nat} (h : kd (GG L) o = 7) : ln (GG L) 123 = 2 := by
  obtain ⟨h1, h2, h3⟩ := GG_in L h (by decide) (by decide)
  have key : ∀ a, a < 136 → (kTab.getD a (0, 0)).1 = 7 → 123 < 136 ∧ 0 < 123 ∧ kTab.getD 123 (0, 0) = (51, 2) := by decide +kernel
  obtain ⟨k1, k2, k3⟩ := key o h2 h3
  rw [GG_ln L k2 k1, k3]
theorem w_7_4 {L o : Nat} (h : kd (GG L) o = 7) : rf (GG L) o 4 = some 124 := by
  obtain ⟨h1, h2, h3⟩ := GG_in L h (by decide) (by decide)
  rw [GG_rf]
  have key : ∀ a, a < 136 → (kTab.getD a (0, 0)).1 = 7 → rfO opsL 1 a 4 none = some 124 := by decide +kernel
  exact key o h2 h3
theorem wk_7_4 {L o : Nat} (h : kd (GG L) o = 7) : kd (GG L) 124 = 50 := by
  obtain ⟨h1, h2, h3⟩ := GG_in L h (by decide) (by decide)
  have key : ∀ a, a < 136 → (kTab.getD a (0, 0)).1 = 7 → 124 < 136 ∧ 0 < 124 ∧ kTab.getD 124 (0, 0) = (50, 80) := by decide +kernel
  obtain ⟨k1, k2, k3⟩ := key o h2 h3
  rw [GG_kd L k2 k1, k3]
theorem wl_7_4 {L o : Nat} (h : kd (GG L) o = 7) : ln (GG L) 124 = 80 := by
  obtain ⟨h1, h2, h3⟩ := GG_in L h (by decide) (by decide)
  have key : ∀ a, a < 136 → (kTab.getD a (0, 0)).1 = 7 → 124 < 136 ∧ 0 < 124 ∧ kTab.getD 124 (0, 0) = (50, 80) := by decide +kernel
  obtain ⟨k1, k2, k3⟩ := key o h2 h3
  rw [GG_ln L k2 k1, k3]
theorem w_7_7 {L o : Nat} (h : kd (GG L) o = 7) : rf (GG L) o 7 = some 125 := by
  obtain ⟨h1, h2, h3⟩ := GG_in L h (by decide) (by decide)
  rw [GG_rf]
  have key : ∀ a, a < 136 → (kTab.getD a (0, 0)).1 = 7 → rfO opsL 1 a 7 none = some 125 := by decide +kernel
  exact key o h2 h3
theorem wk_7_7 {L o : Nat} (h : kd (GG L) o = 7) : kd (GG L) 125 = 51 := by
  obtain ⟨h1, h2, h3⟩ := GG_in L h (by decide) (by decide)
  have key : ∀ a, a < 136 → (kTab.getD a (0, 0)).1 = 7 → 125 < 136 ∧ 0 < 125 ∧ kTab.getD 125 (0, 0) = (51, 60) := by decide +kernel
  obtain ⟨k1, k2, k3⟩ := key o h2 h3
  rw [GG_kd L k2 k1, k3]
theorem wl_7_7 {L o : Nat} (h : kd (GG L) o = 7) : ln (GG L) 125 = 60 := by
  obtain ⟨h1, h2, h3⟩ := GG_in L h (by decide) (by decide)
  have key : ∀ a, a < 136 → (kTab.getD a (0, 0)).1 = 7 → 125 < 136 ∧ 0 < 125 ∧ kTab.getD 125 (0, 0) = (51, 60) := by decide +kernel
  obtain ⟨k1, k2, k3⟩ := key o h2 h3
  rw [GG_ln L k2 k1, k3]
theorem w_7_8 {L o : Nat} (h : kd (GG L) o = 7) : rf (GG L) o 8 = some 126 := by
  obtain ⟨h1, h2, h3⟩ := GG_in L h (by decide) (by decide)
  rw [GG_rf]
  have key : ∀ a, a < 136 → (kTab.getD a (0, 0)).1 = 7 → rfO opsL 1 a 8 none = some 126 := by decide +kernel
  exact key o h2 h3
theorem wk_7_8 {L o : Nat} (h : kd (GG L) o = 7) : kd (GG L) 126 = 50 := by
  obtain ⟨h1, h2, h3⟩ := GG_in L h (by decide) (by decide)
  have key : ∀ a, a < 136 → (kTab.getD a (0, 0)).1 = 7 → 126 < 136 ∧ 0 < 126 ∧ kTab.getD 126 (0, 0) = (50, 60) := by decide +kernel
  obtain ⟨k1, k2, k3⟩ := key o h2 h3
  rw [GG_kd L k2 k1, k3]
theorem wl_7_8 {L o : Nat} (h : kd (GG L) o = 7) : ln (GG L) 126 = 60 := by
  obtain ⟨h1, h2, h3⟩ := GG_in L h (by decide) (by decide)
  have key : ∀ a, a < 136 → (kTab.getD a (0, 0)).1 = 7 → 126 < 136 ∧ 0 < 126 ∧ kTab.getD 126 (0, 0) = (50, 60) := by decide +kernel
  obtain ⟨k1, k2, k3⟩ := key o h2 h3
  rw [GG_ln L k2 k1, k3]
theorem w_7_9 {L o : Nat} (h : kd (GG L) o = 7) : rf (GG L) o 9 = some 127 := by
  obtain ⟨h1, h2, h3⟩ := GG_in L h (by decide) (by decide)
  rw [GG_rf]
  have key : ∀ a, a < 136 → (kTab.getD a (0, 0)).1 = 7 → rfO opsL 1 a 9 none = some 127 := by decide +kernel
  exact key o h2 h3
theorem wk_7_9 {L o : Nat} (h : kd (GG L) o = 7) : kd (GG L) 127 = 50 := by
  obtain ⟨h1, h2, h3⟩ := GG_in L h (by decide) (by decide)
  have key : ∀ a, a < 136 → (kTab.getD a (0, 0)).1 = 7 → 127 < 136 ∧ 0 < 127 ∧ kTab.getD 127 (0, 0) = (50, 60) := by decide +kernel
  obtain ⟨k1, k2, k3⟩ := key o h2 h3
  rw [GG_kd L k2 k1, k3]
theorem wl_7_9 {L o : Nat} (h : kd (GG L) o = 7) : ln (GG L) 127 = 60 := by
  obtain ⟨h1, h2, h3⟩ := GG_in L h (by decide) (by decide)
  have key : ∀ a, a < 136 → (kTab.getD a (0, 0)).1 = 7 → 127 < 136 ∧ 0 < 127 ∧ kTab.getD 127 (0, 0) = (50, 60) := by decide +kernel
  obtain ⟨k1, k2, k3⟩ := key o h2 h3
  rw [GG_ln L k2 k1, k3]
theorem w_7_10 {L o : Nat} (h : kd (GG L) o = 7) : rf (GG L) o 10 = some 128 := by
  obtain ⟨h1, h2, h3⟩ := GG_in L h (by decide) (by decide)
  rw [GG_rf]
  have key : ∀ a, a < 136 → (kTab.getD a (0, 0)).1 = 7 → rfO opsL 1 a 10 none = some 128 := by decide +kernel
  exact key o h2 h3
theorem wk_7_10 {L o : Nat} (h : kd (GG L) o = 7) : kd (GG L) 128 = 50 := by
  obtain ⟨h1, h2, h3⟩ := GG_in L h (by decide) (by decide)
  have key : ∀ a, a < 136 → (kTab.getD a (0, 0)).1 = 7 → 128 < 136 ∧ 0 < 128 ∧ kTab.getD 128 (0, 0) = (50, 60) := by decide +kernel
  obtain ⟨k1, k2, k3⟩ := key o h2 h3
  rw [GG_kd L k2 k1, k3]
theorem wl_7_10 {L o : Nat} (h : kd (GG L) o = 7) : ln (GG L) 128 = 60 := by
  obtain ⟨h1, h2, h3⟩ := GG_in L h (by decide) (by decide)
  have key : ∀ a, a < 136 → (kTab.getD a (0, 0)).1 = 7 → 128 < 136 ∧ 0 < 128 ∧ kTab.getD 128 (0, 0) = (50, 60) := by decide +kernel
  obtain ⟨k1, k2, k3⟩ := key o h2 h3
  rw [GG_ln L k2 k1, k3]
theorem w_7_11 {L o : Nat} (h : kd (GG L) o = 7) : rf (GG L) o 11 = some 129 := by
  obtain ⟨h1, h2, h3⟩ := GG_in L h (by decide) (by decide)
  rw [GG_rf]
  have key : ∀ a, a < 136 → (kTab.getD a (0, 0)).1 = 7 → rfO opsL 1 a 11 none = some 129 := by decide +kernel
  exact key o h2 h3
theorem wk_7_11 {L o : Nat} (h : kd (GG L) o = 7) : kd (GG L) 129 = 50 := by
  obtain ⟨h1, h2, h3⟩ := GG_in L h (by decide) (by decide)
  have key : ∀ a, a < 136 → (kTab.getD a (0, 0)).1 = 7 → 129 < 136 ∧ 0 < 129 ∧ kTab.getD 129 (0, 0) = (50, 6) := by decide +kernel
  obtain ⟨k1, k2, k3⟩ := key o h2 h3
  rw [GG_kd L k2 k1, k3]
theorem wl_7_11 {L o : Nat} (h : kd (GG L) o = 7) : ln (GG L) 129 = 6 := by
  obtain ⟨h1, h2, h3⟩ := GG_in L h (by decide) (by decide)
  have key : ∀ a, a < 136 → (kTab.getD a (0, 0)).1 = 7 → 129 < 136 ∧ 0 < 129 ∧ kTab.getD 129 (0, 0) = (50, 6) := by decide +kernel
  obtain ⟨k1, k2, k3⟩ := key o h2 h3
  rw [GG_ln L k2 k1, k3]
theorem w_7_12 {L o : Nat} (h : kd (GG L) o = 7) : rf (GG L) o 12 = some 130 := by
  obtain ⟨h1, h2, h3⟩ := GG_in L h (by decide) (by decide)
  rw [GG_rf]
  have key : ∀ a, a < 136 → (kTab.getD a (0, 0)).1 = 7 → rfO opsL 1 a 12 none = some 130 := by decide +kernel
  exact key o h2 h3
theorem wk_7_12 {L o : Nat} (h : kd (GG L) o = 7) : kd (GG L) 130 = 50 := by
  obtain ⟨h1, h2, h3⟩ := GG_in L h (by decide) (by decide)
  have key : ∀ a, a < 136 → (kTab.getD a (0, 0)).1 = 7 → 130 < 136 ∧ 0 < 130 ∧ kTab.getD 130 (0, 0) = (50, 168) := by decide +kernel
  obtain ⟨k1, k2, k3⟩ := key o h2 h3
  rw [GG_kd L k2 k1, k3]
theorem wl_7_12 {L o : Nat} (h : kd (GG L) o = 7) : ln (GG L) 130 = 168 := by
  obtain ⟨h1, h2, h3⟩ := GG_in L h (by decide) (by decide)
  have key : ∀ a, a < 136 → (kTab.getD a (0, 0)).1 = 7 → 130 < 136 ∧ 0 < 130 ∧ kTab.getD 130 (0, 0) = (50, 168) := by decide +kernel
  obtain ⟨k1, k2, k3⟩ := key o h2 h3
  rw [GG_ln L k2 k1, k3]
theorem w_7_13 {L o : Nat} (h : kd (GG L) o = 7) : rf (GG L) o 13 = some 131 := by
  obtain ⟨h1, h2, h3⟩ := GG_in L h (by decide) (by decide)
  rw [GG_rf]
  have key : ∀ a, a < 136 → (kTab.getD a (0, 0)).1 = 7 → rfO opsL 1 a 13 none = some 131 := by decide +kernel
  exact key o h2 h3
theorem wk_7_13 {L o : Nat} (h : kd (GG L) o = 7) : kd (GG L) 131 = 50 := by
  obtain ⟨h1, h2, h3⟩ := GG_in L h (by decide) (by decide)
  have key : ∀ a, a < 136 → (kTab.getD a (0, 0)).1 = 7 → 131 < 136 ∧ 0 < 131 ∧ kTab.getD 131 (0, 0) = (50, 168) := by decide +kernel
  obtain ⟨k1, k2, k3⟩ := key o h2 h3
  rw [GG_kd L k2 k1, k3]
theorem wl_7_13 {L o : Nat} (h : kd (GG L) o = 7) : ln (GG L) 131 = 168 := by
  obtain ⟨h1, h2, h3⟩ := GG_in L h (by decide) (by decide)
  have key : ∀ a, a < 136 → (kTab.getD a (0, 0)).1 = 7 → 131 < 136 ∧ 0 < 131 ∧ kTab.getD 131 (0, 0) = (50, 168) := by decide +kernel
  obtain ⟨k1, k2, k3⟩ := key o h2 h3
  rw [GG_ln L k2 k1, k3]
theorem w_7_14 {L o : Nat} (h : kd (GG L) o = 7) : rf (GG L) o 14 = some 132 := by
  obtain ⟨h1, h2, h3⟩ := GG_in L h (by decide) (by decide)
  rw [GG_rf]
  have key : ∀ a, a < 136 → (kTab.getD a (0, 0)).1 = 7 → rfO opsL 1 a 14 none = some 132 := by decide +kernel
  exact key o h2 h3
theorem wk_7_14 {L o : Nat} (h : kd (GG L) o = 7) : kd (GG L) 132 = 50 := by
  obtain ⟨h1, h2, h3⟩ := GG_in L h (by decide) (by decide)
  have key : ∀ a, a < 136 → (kTab.getD a (0, 0)).1 = 7 → 132 < 136 ∧ 0 < 132 ∧ kTab.getD 132 (0, 0) = (50, 168) := by decide +kernel
  obtain ⟨k1, k2, k3⟩ := key o h2 h3
  rw [GG_kd L k2 k1, k3]
theorem wl_7_14 {L o : Nat} (h : kd (GG L) o = 7) : ln (GG L) 132 = 168 := by
  obtain ⟨h1, h2, h3⟩ := GG_in L h (by decide) (by decide)
  have key : ∀ a, a < 136 → (kTab.getD a (0, 0)).1 = 7 → 132 < 136 ∧ 0 < 132 ∧ kTab.getD 132 (0, 0) = (50, 168) := by decide +kernel
  obtain ⟨k1, k2, k3⟩ := key o h2 h3
  rw [GG_ln L k2 k1, k3]
theorem w_7_15 {L o : Nat} (h : kd (GG L) o = 7) : rf (GG L) o 15 = some 133 := by
  obtain ⟨h1, h2, h3⟩ := GG_in L h (by decide) (by decide)
  rw [GG_rf]
  have key : ∀ a, a < 136 → (kTab.getD a (0, 0)).1 = 7 → rfO opsL 1 a 15 none = some 133 := by decide +kernel
  exact key o h2 h3
theorem wk_7_15 {L o : Nat} (h : kd (GG L) o = 7) : kd (GG L) 133 = 50 := by
  obtain ⟨h1, h2, h3⟩ := GG_in L h (by decide) (by decide)
  have key : ∀ a, a < 136 → (kTab.getD a (0, 0)).1 = 7 → 133 < 136 ∧ 0 < 133 ∧ kTab.getD 133 (0, 0) = (50, 168) := by decide +kernel
  obtain ⟨k1, k2, k3⟩ := key o h2 h3
  rw [GG_kd L k2 k1, k3]
theorem wl_7_15 {L o : Nat} (h : kd (GG L) o = 7) : ln (GG L) 133 = 168 := by
  obtain ⟨h1, h2, h3⟩ := GG_in L h (by decide) (by decide)
  have key : ∀ a, a < 136 → (kTab.getD a (0, 0)).1 = 7 → 133 < 136 ∧ 0 < 133 ∧ kTab.getD 133 (0, 0) = (50, 168) := by decide +kernel
  obtain ⟨k1, k2, k3⟩ := key o h2 h3
  rw [GG_ln L k2 k1, k3]
theorem w_7_20 {L o : Nat} (h : kd (GG L) o = 7) : rf (GG L) o 20 = some 134 := by
  obtain ⟨h1, h2, h3⟩ := GG_in L h (by decide) (by decide)
  rw [GG_rf]
  have key : ∀ a, a < 136 → (kTab.getD a (0, 0)).1 = 7 → rfO opsL 1 a 20 none = some 134 := by decide +kernel
  exact key o h2 h3
theorem wk_7_20 {L o : Nat} (h : kd (GG L) o = 7) : kd (GG L) 134 = 50 := by
  obtain ⟨h1, h2, h3⟩ := GG_in L h (by decide) (by decide)
  have key : ∀ a, a < 136 → (kTab.getD a (0, 0)).1 = 7 → 134 < 136 ∧ 0 < 134 ∧ kTab.getD 134 (0, 0) = (50, 10) := by decide +kernel
  obtain ⟨k1, k2, k3⟩ := key o h2 h3
  rw [GG_kd L k2 k1, k3]
theorem wl_7_20 {L o : Nat} (h : kd (GG L) o = 7) : ln (GG L) 134 = 10 := by
  obtain ⟨h1, h2, h3⟩ := GG_in L h (by decide) (by decide)
  have key : ∀ a, a < 136 → (kTab.getD a (0, 0)).1 = 7 → 134 < 136 ∧ 0 < 134 ∧ kTab.getD 134 (0, 0) = (50, 10) := by decide +kernel
  obtain ⟨k1, k2, k3⟩ := key o h2 h3
  rw [GG_ln L k2 k1, k3]
theorem w_7_21 {L o : Nat} (h : kd (GG L) o = 7) : rf (GG L) o 21 = some 135 := by
  obtain ⟨h1, h2, h3⟩ := GG_in L h (by decide) (by decide)
  rw [GG_rf]
  have key : ∀ a, a < 136 → (kTab.getD a (0, 0)).1 = 7 → rfO opsL 1 a 21 none = some 135 := by decide +kernel
  exact key o h2 h3
theorem wk_7_21 {L o : Nat} (h : kd (GG L) o = 7) : kd (GG L) 135 = 50 := by
  obtain ⟨h1, h2, h3⟩ := GG_in L h (by decide) (by decide)
  have key : ∀ a, a < 136 → (kTab.getD a (0, 0)).1 = 7 → 135 < 136 ∧ 0 < 135 ∧ kTab.getD 135 (0, 0) = (50, 10) := by decide +kernel
  obtain ⟨k1, k2, k3⟩ := key o h2 h3
  rw [GG_kd L k2 k1, k3]
theorem wl_7_21 {L o : Nat} (h : kd (GG L) o = 7) : ln (GG L) 135 = 10 := by
  obtain ⟨h1, h2, h3⟩ := GG_in L h (by decide) (by decide)
  have key : ∀ a, a < 136 → (kTab.getD a (0, 0)).1 = 7 → 135 < 136 ∧ 0 < 135 ∧ kTab.getD 135 (0, 0) = (50, 10) := by decide +kernel
  obtain ⟨k1, k2, k3⟩ := key o h2 h3
  rw [GG_ln L k2 k1, k3]
theorem k_1 {L : Nat} : kd (GG L) 1 = 6 := by rw [GG_kd L (by decide) (by decide)]; decide +kernel
theorem k_2 {L : Nat} : kd (GG L) 2 = 3 := by rw [GG_kd L (by decide) (by decide)]; decide +kernel
theorem k_9 {L : Nat} : kd (GG L) 9 = 2 := by rw [GG_kd L (by decide) (by decide)]; decide +kernel
theorem k_10 {L : Nat} : kd (GG L) 10 = 1 := by rw [GG_kd L (by decide) (by decide)]; decide +kernel
theorem k_21 {L : Nat} : kd (GG L) 21 = 1 := by rw [GG_kd L (by decide) (by decide)]; decide +kernel
theorem k_31 {L : Nat} : kd (GG L) 31 = 1 := by rw [GG_kd L (by decide) (by decide)]; decide +kernel
theorem k_41 {L : Nat} : kd (GG L) 41 = 1 := by rw [GG_kd L (by decide) (by decide)]; decide +kernel
theorem k_51 {L : Nat} : kd (GG L) 51 = 1 := by rw [GG_kd L (by decide) (by decide)]; decide +kernel
theorem k_61 {L : Nat} : kd (GG L) 61 = 1 := by rw [GG_kd L (by decide) (by decide)]; decide +kernel
theorem k_71 {L : Nat} : kd (GG L) 71 = 1 := by rw [GG_kd L (by decide) (by decide)]; decide +kernel
theorem k_81 {L : Nat} : kd (GG L) 81 = 0 := by rw [GG_kd L (by decide) (by decide)]; decide +kernel
theorem k_82 {L : Nat} : kd (GG L) 82 = 4 := by rw [GG_kd L (by decide) (by decide)]; decide +kernel
theorem k_84 {L : Nat} : kd (GG L) 84 = 4 := by rw [GG_kd L (by decide) (by decide)]; decide +kernel
theorem k_90 {L : Nat} : kd (GG L) 90 = 0 := by rw [GG_kd L (by decide) (by decide)]; decide +kernel
theorem k_91 {L : Nat} : kd (GG L) 91 = 4 := by rw [GG_kd L (by decide) (by decide)]; decide +kernel
theorem k_93 {L : Nat} : kd (GG L) 93 = 4 := by rw [GG_kd L (by decide) (by decide)]; decide +kernel
theorem k_100 {L : Nat} : kd (GG L) 100 = 0 := by rw [GG_kd L (by decide) (by decide)]; decide +kernel
theorem k_101 {L : Nat} : kd (GG L) 101 = 4 := by rw [GG_kd L (by decide) (by decide)]; decide +kernel
theorem k_103 {L : Nat} : kd (GG L) 103 = 4 := by rw [GG_kd L (by decide) (by decide)]; decide +kernel
theorem k_109 {L : Nat} : kd (GG L) 109 = 0 := by rw [GG_kd L (by decide) (by decide)]; decide +kernel
theorem k_110 {L : Nat} : kd (GG L) 110 = 4 := by rw [GG_kd L (by decide) (by decide)]; decide +kernel
theorem k_112 {L : Nat} : kd (GG L) 112 = 4 := by rw [GG_kd L (by decide) (by decide)]; decide +kernel
theorem k_119 {L : Nat} : kd (GG L) 119 = 7 := by rw [GG_kd L (by decide) (by decide)]; decide +kernel
theorem inb_lt {i : Int32} {n : Nat} (h : inb i n = true) : ix i < n := by
  unfold inb at h
  simp only [Bool.and_eq_true, decide_eq_true_eq] at h
  show i.toInt.toNat < n
  omega
theorem we_53 {L : Nat} {i : Int32} (h : inb i 6 = true) : rf (GG L) 20 (ix i) = some (21 + 10 * ix i) := by
  rw [GG_rf]
  have key : ∀ j, j < 6 → rfO opsL 1 20 j none = some (21 + 10 * j) := by decide +kernel
  exact key _ (inb_lt h)
theorem wek_53 {L : Nat} {i : Nat} (h : i < 6) : kd (GG L) (21 + 10 * i) = 1 := by
  have key : ∀ j, j < 6 → 21 + 10 * j < 136 ∧ 0 < 21 + 10 * j ∧ (kTab.getD (21 + 10 * j) (0, 0)).1 = 1 := by decide +kernel
  obtain ⟨k1, k2, k3⟩ := key _ h
  rw [GG_kd L k2 k1, k3]

theorem we_54 {L : Nat} {i : Int32} (h : inb i 2 = true) : rf (GG L) 99 (ix i) = some (100 + 9 * ix i) := by
  rw [GG_rf]
  have key : ∀ j, j < 2 → rfO opsL 1 99 j none = some (100 + 9 * j) := by decide +kernel
  exact key _ (inb_lt h)
theorem wek_54 {L : Nat} {i : Nat} (h : i < 2) : kd (GG L) (100 + 9 * i) = 0 := by
  have key : ∀ j, j < 2 → 100 + 9 * j < 136 ∧ 0 < 100 + 9 * j ∧ (kTab.getD (100 + 9 * j) (0, 0)).1 = 0 := by decide +kernel
  obtain ⟨k1, k2, k3⟩ := key _ h
  rw [GG_kd L k2 k1, k3]
