/-! ===== the constructors: what they make ===== -/
abbrev Op4 : Type := Nat × Nat × Nat × Nat
theorem apG_kd1 {G : Gt} {o c : Nat} (q : Op4) (hc : c < 60) (h : kd G o = c) : kd (apG G q) o = c := by
  obtain ⟨z, x, y, r⟩ := q
  cases z with
  | zero => exact kd_nG hc h
  | succ z => exact kd_uG h
theorem apG_ln1 {G : Gt} {o c : Nat} (q : Op4) (hc : c < 60) (h : kd G o = c) : ln (apG G q) o = ln G o := by
  obtain ⟨z, x, y, r⟩ := q
  cases z with
  | zero => exact ln_nG hc h rfl
  | succ z => rfl
theorem kd_fold : ∀ (l : List Op4) {G : Gt} {o c : Nat}, c < 60 → kd G o = c → kd (l.foldl apG G) o = c := by
  intro l
  induction l with
  | nil => intro G o c _ h; exact h
  | cons q t ih => intro G o c hc h; exact ih hc (apG_kd1 q hc h)
theorem ln_fold : ∀ (l : List Op4) {G : Gt} {o c n : Nat}, c < 60 → kd G o = c → ln G o = n → ln (l.foldl apG G) o = n := by
  intro l
  induction l with
  | nil => intro G o c n _ _ h; exact h
  | cons q t ih => intro G o c n hc h hn; exact ih hc (apG_kd1 q hc h) ((apG_ln1 q hc h).trans hn)
theorem rf_fold : ∀ (l : List Op4) {G : Gt} {o c k r : Nat}, c < 60 → kd G o = c → (∀ q ∈ l, q.1 ≠ 0 → ¬ (o = q.2.1 ∧ k = q.2.2.1)) → rf G o k = some r → rf (l.foldl apG G) o k = some r := by
  intro l
  induction l with
  | nil => intro G o c k r _ _ _ h; exact h
  | cons q t ih =>
    intro G o c k r hc h hq hr
    refine ih hc (apG_kd1 q hc h) (fun q' hq' => hq q' (List.mem_cons_of_mem _ hq')) ?_
    have h0 := hq q List.mem_cons_self
    obtain ⟨z, x, y, w⟩ := q
    cases z with
    | zero => exact rf_nG' hc h hr
    | succ z =>
      have h1 := h0 (Nat.succ_ne_zero z)
      show rf (uG G x y w) o k = some r
      rw [rf_uG]
      by_cases e : o = x
      · rw [if_pos e, if_neg (fun e2 => h1 ⟨e, e2⟩)]; exact hr
      · rw [if_neg e]; exact hr
theorem n_fold (l : List Op4) (G : Gt) {k : Nat} (h : (alcs l).length = k) : (l.foldl apG G).1 = G.1 + k := by rw [apG_n, h]
theorem kd_lt {G : Gt} {o c : Nat} (hc : c < 60) (h : kd G o = c) : o < G.1 := (kd_spec h (by omega) (by omega)).2.1
/-- everything that was there stays, but this object -/
def Keep (n o : Nat) (I I' : It) : Prop := ∀ a, a < n → a ≠ o → I' a = I a
def opS (n s : Nat) : List Op4 := [(0, 50, 27, 0), (1, s, 0, n), (0, 50, 27, 0), (1, s, 1, n + 1), (0, 50, 27, 0), (1, s, 2, n + 2), (0, 50, 27, 0), (1, s, 3, n + 3)]
theorem cS {G : Gt} {s : Nat} {I : It} (hG : 1 ≤ G.1) (hs : kd G s = 5) : ∃ I', E 85 0 [some (.ref s)] [] G I = some (none, (opS G.1 s).foldl apG G, I') ∧ (∀ a, a < G.1 → I' a = I a) ∧ (∀ a j, G.1 ≤ a → a < G.1 + 4 → I' a j = 0) := by
  refine ⟨_, C85_0 hG hs, fun a h => ?_, fun a j h1 h2 => ?_⟩
  · funext j
    show (if a = G.1 + 3 then (0 : Int32) else (if a = G.1 + 2 then (0 : Int32) else (if a = G.1 + 1 then (0 : Int32) else (if a = G.1 + 0 then (0 : Int32) else (I a j))))) = I a j
    rw [if_neg (by omega), if_neg (by omega), if_neg (by omega), if_neg (by omega)]
  · show (if a = G.1 + 3 then (0 : Int32) else (if a = G.1 + 2 then (0 : Int32) else (if a = G.1 + 1 then (0 : Int32) else (if a = G.1 + 0 then (0 : Int32) else (I a j))))) = 0
    by_cases q3 : a = G.1 + 3
    · rw [if_pos q3]
    rw [if_neg q3]
    by_cases q2 : a = G.1 + 2
    · rw [if_pos q2]
    rw [if_neg q2]
    by_cases q1 : a = G.1 + 1
    · rw [if_pos q1]
    rw [if_neg q1]
    by_cases q0 : a = G.1 + 0
    · rw [if_pos q0]
    rw [if_neg q0]
    omega
def opL (n l : Nat) : List Op4 := [(0, 51, 10, 0), (1, l, 0, n), (0, 50, 10, 0), (1, l, 1, n + 1), (0, 50, 10, 0), (1, l, 2, n + 2), (0, 50, 10, 0), (1, l, 3, n + 3), (0, 5, 5, 0)] ++ (opS (n + 5) (n + 4) ++ [(1, l, 4, n + 4)])
theorem cLb {G : Gt} {y : Nat} {I : It} (hG : 1 ≤ G.1) (hy : kd G y = 1) : ∃ I', E 31 0 [some (.ref y)] [] G I = some (none, (opL G.1 y).foldl apG G, I') ∧ (∀ a, a < G.1 → I' a = I a) ∧ (∀ a j, G.1 ≤ a → a < G.1 + 9 → I' a j = 0) := by
  have e := C31_0 (I := I) hG hy
  obtain ⟨G1, hG1⟩ : ∃ G1, ([(0, 51, 10, 0), (1, y, 0, G.1), (0, 50, 10, 0), (1, y, 1, G.1 + 1), (0, 50, 10, 0), (1, y, 2, G.1 + 2), (0, 50, 10, 0), (1, y, 3, G.1 + 3)] : List Op4).foldl apG G = G1 := ⟨_, rfl⟩
  obtain ⟨I1, hI1, i1, i2⟩ : ∃ I1 : It, E 31 0 [some (.ref y)] [] G I = K2 31 44 [some (.ref y)] [.ref (G.1 + 4), .ref y] (E 85 0 [some (.ref (G.1 + 4))] [] (nG G1 5 5) I1) ∧ (∀ a, a < G.1 → I1 a = I a) ∧ (∀ a j, G.1 ≤ a → a < G.1 + 5 → I1 a j = 0) := by
    refine ⟨_, e.trans (by rw [← hG1]; rfl), fun a h => ?_, fun a j h1 h2 => ?_⟩
    · funext j
      show (if a = G.1 + 4 then (0 : Int32) else (if a = G.1 + 3 then (0 : Int32) else (if a = G.1 + 2 then (0 : Int32) else (if a = G.1 + 1 then (0 : Int32) else (if a = G.1 + 0 then (0 : Int32) else (I a j)))))) = I a j
      rw [if_neg (by omega), if_neg (by omega), if_neg (by omega), if_neg (by omega), if_neg (by omega)]
    · show (if a = G.1 + 4 then (0 : Int32) else (if a = G.1 + 3 then (0 : Int32) else (if a = G.1 + 2 then (0 : Int32) else (if a = G.1 + 1 then (0 : Int32) else (if a = G.1 + 0 then (0 : Int32) else (I a j)))))) = 0
      by_cases q4 : a = G.1 + 4
      · rw [if_pos q4]
      rw [if_neg q4]
      by_cases q3 : a = G.1 + 3
      · rw [if_pos q3]
      rw [if_neg q3]
      by_cases q2 : a = G.1 + 2
      · rw [if_pos q2]
      rw [if_neg q2]
      by_cases q1 : a = G.1 + 1
      · rw [if_pos q1]
      rw [if_neg q1]
      by_cases q0 : a = G.1 + 0
      · rw [if_pos q0]
      rw [if_neg q0]
      omega
  have hn1 : G1.1 = G.1 + 4 := by rw [← hG1]; rfl
  have hk2 : kd (nG G1 5 5) (G.1 + 4) = 5 := by rw [← hn1]; exact kd_new (by omega)
  have hn2 : (nG G1 5 5).1 = G.1 + 5 := by show G1.1 + 1 = _; omega
  obtain ⟨I2, e2, j1, j2⟩ := cS (I := I1) (show 1 ≤ (nG G1 5 5).1 by omega) hk2
  have hky : kd (nG G1 5 5) y = 1 := kd_nG (by decide) (by rw [← hG1]; exact kd_fold _ (by decide) hy)
  rw [hI1, e2, K2_v, C31_44 (by rw [n_fold _ _ (k := 4) rfl]; omega) (kd_fold _ (by decide) hky) (kd_fold _ (by decide) hk2)]
  refine ⟨I2, ?_, fun a h => ?_, fun a j h1 h2 => ?_⟩
  · unfold opL
    rw [List.foldl_append, List.foldl_append, hn2, ← hG1]
    rfl
  · rw [j1 a (by omega), i1 a h]
  · by_cases h3 : a < G.1 + 5
    · rw [j1 a (by omega)]; exact i2 a j h1 h3
    · exact j2 a j (by omega) (by omega)
def opP (n p : Nat) : List Op4 := [(0, 50, 48, 0), (1, p, 0, n)]
theorem inb_nI {k n : Nat} (h : k < n) (hn : n < 2 ^ 31) : inb (nI k) n = true := by
  unfold inb
  rw [nI_toInt (by omega)]
  simp only [Bool.and_eq_true, decide_eq_true_eq]
  omega
theorem ix_nI {k : Nat} (h : k < 2 ^ 31) : ix (nI k) = k := nI_clamp h
theorem le_lit {k n : Nat} (hk : k < 2 ^ 31) (hn : n < 2 ^ 31) {x : Int32} (e : x = nI n) : (x ≤ nI k) ↔ n ≤ k := by rw [e]; exact nI_leI hn hk
theorem cP {G : Gt} {p : Nat} {I : It} (hG : 1 ≤ G.1) (hp : kd G p = 4) : ∃ I', E 66 0 [some (.ref p), none] [] G I = some (none, (opP G.1 p).foldl apG G, I') ∧ (∀ a, a < G.1 → I' a = I a) ∧ (∀ j, j < 48 → I' G.1 j = -6) := by
  have hk : kd ((opP G.1 p).foldl apG G) p = 4 := kd_fold _ (by decide) hp
  have hr : rf ((opP G.1 p).foldl apG G) p 0 = some G.1 := rf_put
  have hf : kd ((opP G.1 p).foldl apG G) G.1 = 50 := kd_uG (kd_new hG)
  have hl : ln ((opP G.1 p).foldl apG G) G.1 = 48 := ln_uG ln_new
  have hn : 1 ≤ ((opP G.1 p).foldl apG G).1 := by rw [n_fold _ _ (k := 1) rfl]; omega
  have loop : ∀ (d k : Nat) (J : It), d + k = 48 → (∀ j, j < k → J G.1 j = -6) → ∃ I', E 66 14 [some (.ref p), some (.int (nI k))] [] ((opP G.1 p).foldl apG G) J = some (none, (opP G.1 p).foldl apG G, I') ∧ (∀ a, a ≠ G.1 → I' a = J a) ∧ (∀ j, j < 48 → I' G.1 j = -6) := by
    intro d
    induction d with
    | zero =>
      intro k J hd hJ
      have hk48 : k = 48 := by omega
      subst hk48
      refine ⟨J, ?_, fun _ _ => rfl, hJ⟩
      rw [C66_14 hn hk hr hf hl, if_pos (by decide)]
    | succ d ih =>
      intro k J hd hJ
      have hnot : ¬ (48 : Int32) ≤ nI k := by rw [show (48 : Int32) = nI 48 from rfl, nI_leI (by omega) (by omega)]; omega
      obtain ⟨I', e, h1, h2⟩ := ih (k + 1) (uI J G.1 k (-6)) (by omega) (fun j hj => by
        rw [uI_self]
        unfold upd
        by_cases hjk : j = k
        · rw [if_pos hjk]
        · rw [if_neg hjk]; exact hJ j (by omega))
      refine ⟨I', ?_, fun a ha => by rw [h1 a ha, uI_o _ _ _ _ _ ha], h2⟩
      rw [C66_14 hn hk hr hf hl, if_neg hnot, ck_of (inb_nI (by omega) (by decide)), ix_nI (by omega), nI_1]
      exact e
  obtain ⟨I', e, h1, h2⟩ := loop 48 0 (nI0 G I) rfl (fun j hj => absurd hj (Nat.not_lt_zero j))
  refine ⟨I', (C66_0 hG hp).trans e, fun a ha => ?_, h2⟩
  rw [h1 a (by omega), nI0_o _ _ _ (by omega)]
