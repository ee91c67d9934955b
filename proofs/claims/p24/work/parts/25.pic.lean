/-! ===== p24: the picture of a device, and the small methods ===== -/
theorem nI_mul (a b : Nat) : nI a * nI b = nI (a * b) := (Int32.ofNat_mul a b).symm
theorem nI_div {m k : Nat} (hm : m < 2 ^ 31) (hk : k < 2 ^ 31) : nI m / nI k = nI (m / k) := by
  have h1 : m / k ≤ m := Nat.div_le_self _ _
  apply Int32.toInt_inj.mp
  rw [Int32.toInt_div, nI_toInt hm, nI_toInt hk, nI_toInt (by omega), ← Int.ofNat_tdiv]
  obtain ⟨q, hq⟩ : ∃ q, m / k = q := ⟨_, rfl⟩
  rw [hq] at h1 ⊢
  exact Int.bmod_eq_of_le (by omega) (by omega)
theorem nI_sub {a b : Nat} (h : b ≤ a) : nI a - nI b = nI (a - b) := by
  have : nI (a - b) + nI b = nI a := by rw [nI_add, Nat.sub_add_cancel h]
  rw [← this, Int32.add_sub_cancel]
theorem nI_rem {m k : Nat} (hm : m < 2 ^ 31) (hk : k < 2 ^ 31) : nI m - nI m / nI k * nI k = nI (m % k) := by
  have h1 : m / k * k ≤ m := Nat.div_mul_le_self _ _
  rw [nI_div hm hk, nI_mul, nI_sub h1]
  congr 1
  have := Nat.div_add_mod m k
  rw [Nat.mul_comm k] at this
  omega
theorem m6_nI {v : Nat} (hv : v < 2 ^ 31) : ¬ (-6 : Int32) = nI v := fun e => nI_pos hv (e ▸ by decide)
theorem nI_m6 {v : Nat} (hv : v < 2 ^ 31) : ¬ nI v = (-6 : Int32) := fun e => m6_nI hv e.symm
theorem uI_s (I : It) (o k : Nat) (x : Int32) : uI I o k x o k = x := by unfold uI; rw [if_pos rfl, if_pos rfl]
theorem uI_k (I : It) (o k : Nat) (x : Int32) (j : Nat) (h : j ≠ k) : uI I o k x o j = I o j := by unfold uI; rw [if_pos rfl, if_neg h]
theorem uI_a (I : It) (o k : Nat) (x : Int32) (a j : Nat) (h : a ≠ o) : uI I o k x a j = I a j := by unfold uI; rw [if_neg h]
def up {α : Type} (f : Nat → α) (k : Nat) (x : α) : Nat → α := fun j => if j = k then x else f j
theorem up_s {α : Type} (f : Nat → α) (k : Nat) (x : α) : up f k x k = x := if_pos rfl
theorem up_k {α : Type} (f : Nat → α) (k : Nat) (x : α) {j : Nat} (h : j ≠ k) : up f k x j = f j := if_neg h
theorem up_up {α : Type} (f : Nat → α) (k : Nat) (x y : α) : up (up f k x) k y = up f k y := by
  funext j
  by_cases h : j = k
  · rw [h, up_s, up_s]
  · rw [up_k _ _ _ h, up_k _ _ _ h, up_k _ _ _ h]
theorem up_self {α : Type} (f : Nat → α) (k : Nat) : up f k (f k) = f := by
  funext j
  by_cases h : j = k
  · rw [h, up_s]
  · rw [up_k _ _ _ h]
/-- the power: off; on; on, and it fails behind so many writes -/
abbrev Pw : Type := Option (Option Nat)
def pwA : Pw → Int32
  | none => 0
  | some _ => 1
def pwB : Pw → Int32
  | some (some n) => nI n
  | _ => -6
def okw : Pw → Prop
  | some (some n) => n ≤ 200
  | _ => True
/-- of m cells so many are written, and the power behind that -/
def cn : Pw → Nat → Nat
  | none, _ => 0
  | some none, m => m
  | some (some n), m => min n m
def pa : Pw → Nat → Pw
  | none, _ => none
  | some none, _ => some none
  | some (some n), m => if m ≤ n then some (some (n - m)) else none
theorem cn_le (w : Pw) (m : Nat) : cn w m ≤ m := by
  rcases w with _ | _ | n <;> simp only [cn] <;> omega
theorem cn_add (w : Pw) (a b : Nat) : cn w (a + b) = cn w a + cn (pa w a) b := by
  rcases w with _ | _ | n
  · rfl
  · rfl
  · simp only [cn, pa]
    by_cases h : a ≤ n
    · rw [if_pos h]; simp only []; omega
    · rw [if_neg h]; simp only []; omega
theorem pa_add (w : Pw) (a b : Nat) : pa w (a + b) = pa (pa w a) b := by
  rcases w with _ | _ | n
  · rfl
  · rfl
  · simp only [pa]
    by_cases h : a ≤ n
    · rw [if_pos h]
      simp only []
      by_cases h2 : a + b ≤ n
      · rw [if_pos h2, if_pos (by omega), Nat.sub_sub]
      · rw [if_neg h2, if_neg (by omega)]
    · rw [if_neg h, if_neg (by omega)]
theorem pa_ok {w : Pw} (m : Nat) (h : okw w) : okw (pa w m) := by
  rcases w with _ | _ | n
  · exact trivial
  · exact trivial
  · simp only [pa]
    by_cases h2 : m ≤ n
    · rw [if_pos h2]; have : n ≤ 200 := h; show n - m ≤ 200; omega
    · rw [if_neg h2]; exact trivial
theorem pa_0 (w : Pw) : pa w 0 = w := by
  rcases w with _ | _ | n
  · rfl
  · rfl
  · simp only [pa]; rw [if_pos (Nat.zero_le _)]; rfl
theorem cn_cut {w : Pw} {a b : Nat} (h : cn w a < a) : cn (pa w a) b = 0 := by
  rcases w with _ | _ | n
  · rfl
  · simp only [cn] at h; omega
  · simp only [cn] at h
    simp only [pa]
    rw [if_neg (by omega)]
    rfl
/-- cells written one after the other -/
def wl : List (Nat × Int32) → (Nat → Int32) → (Nat → Int32)
  | [], f => f
  | q :: t, f => wl t (up f q.1 q.2)
theorem wl_app : ∀ (a b : List (Nat × Int32)) (f : Nat → Int32), wl (a ++ b) f = wl b (wl a f) := by
  intro a
  induction a with
  | nil => intro b f; rfl
  | cons q t ih => intro b f; exact ih b _
theorem wl_out : ∀ (a : List (Nat × Int32)) (f : Nat → Int32) (i : Nat), (∀ q, q ∈ a → q.1 ≠ i) → wl a f i = f i := by
  intro a
  induction a with
  | nil => intro f i _; rfl
  | cons q t ih =>
    intro f i h
    show wl t (up f q.1 q.2) i = f i
    rw [ih _ _ (fun z hz => h z (List.mem_cons_of_mem _ hz)), up_k _ _ _ (fun e => h q List.mem_cons_self e.symm)]
/-- power, registers 5 to 9, writes, erasures, cells, values, places -/
abbrev Pc : Type := Pw × (Nat → Int32) × (Nat → Int32) × (Nat → Int32) × (Nat → Nat → Int32) × (Nat → Int32) × (Nat → Int32)
def Rd (I : It) (d : Nat) (P : Pc) : Prop :=
  I d 3 = pwA P.1 ∧ I d 4 = pwB P.1 ∧ okw P.1 ∧ (∀ j, 5 ≤ j → j < 10 → I d j = P.2.1 j) ∧
  (∀ p, p < 2 → I (d + 1 + 2 * p) 1 = P.2.2.1 p ∧ I (d + 1 + 2 * p) 2 = P.2.2.2.1 p ∧ ∀ k, k < 48 → I (d + 2 + 2 * p) k = P.2.2.2.2.1 p k) ∧
  ∀ k, k < 10 → I (d + 5) k = P.2.2.2.2.2.1 k ∧ I (d + 6) k = P.2.2.2.2.2.2 k
/-- cells written to a page -/
def wS (p : Nat) (ws : List (Nat × Int32)) (P : Pc) : Pc :=
  (pa P.1 ws.length, P.2.1, up P.2.2.1 p (P.2.2.1 p + nI (cn P.1 ws.length)), P.2.2.2.1, up P.2.2.2.2.1 p (wl (ws.take (cn P.1 ws.length)) (P.2.2.2.2.1 p)), P.2.2.2.2.2)
theorem take_cn (w : Pw) (a b : List (Nat × Int32)) : (a ++ b).take (cn w (a ++ b).length) = a.take (cn w a.length) ++ b.take (cn (pa w a.length) b.length) := by
  rw [List.length_append, cn_add]
  by_cases h : cn w a.length < a.length
  · rw [cn_cut h, Nat.add_zero, List.take_zero, List.append_nil, List.take_append_of_le_length (by omega)]
  · have e : cn w a.length = a.length := Nat.le_antisymm (cn_le _ _) (by omega)
    rw [e, List.take_length_add_append, List.take_length]
theorem wS_app (p : Nat) (a b : List (Nat × Int32)) (P : Pc) : wS p b (wS p a P) = wS p (a ++ b) P := by
  obtain ⟨w, A, W, X, C, V, Q⟩ := P
  unfold wS
  simp only [up_s, up_up]
  rw [take_cn, wl_app, List.length_append, pa_add, cn_add, ← nI_add, Int32.add_assoc]
theorem wS_nil (p : Nat) (P : Pc) : wS p [] P = P := by
  obtain ⟨w, A, W, X, C, V, Q⟩ := P
  unfold wS
  have e : cn w 0 = 0 := Nat.le_zero.mp (cn_le w 0)
  simp only [List.length_nil, pa_0, e, List.take_nil, wl]
  rw [show nI 0 = 0 from rfl, Int32.add_zero, up_self, up_self]
def FI (d : Nat) (I I' : It) : Prop := ∀ a, a < d ∨ d + 4 < a → I' a = I a
theorem FI_rfl (d : Nat) (I : It) : FI d I I := fun _ _ => rfl
theorem FI_tr {d : Nat} {I1 I2 I3 : It} (h : FI d I1 I2) (h' : FI d I2 I3) : FI d I1 I3 := fun a ha => (h' a ha).trans (h a ha)
theorem S71 {L : Nat × Nat} {o k : Nat} {I : It} (ho : kd (GG L) o = 4) (hk : k < 48) : E 71 0 [some (.ref o), some (.int (nI k))] [] (GG L) I = some (some (.int (I (o + 1) k)), GG L, I) := by
  rw [B71_0 ho, if_neg (nI_pos (by omega)), if_neg (show ¬ (48 : Int32) ≤ nI k from nI_ge hk (by decide)), ck_of (inb_nI hk (by decide)), ix_nI (by omega)]
theorem S72 {L : Nat × Nat} {o k : Nat} {x : Int32} {I : It} (ho : kd (GG L) o = 4) (hk : k < 48) : E 72 0 [some (.ref o), some (.int (nI k)), some (.int x)] [] (GG L) I = some (none, GG L, uI I (o + 1) k x) := by
  rw [B72_0 ho, if_neg (nI_pos (by omega)), if_neg (show ¬ (48 : Int32) ≤ nI k from nI_ge hk (by decide)), ck_of (inb_nI hk (by decide)), ix_nI (by omega)]
/-- a cell written -/
theorem T_cell {L : Nat × Nat} {d p i : Nat} {x : Int32} {I : It} {P : Pc} (hd : kd (GG L) d = 0) (hd0 : kd (GG L) (d + 1 + 2 * p) = 4) (hp : p < 2) (hi : i < 48) (h : Rd I d P) :
    ∃ I', E 30 0 [some (.ref d), some (.ref (d + 1 + 2 * p)), some (.int (nI i)), some (.int x)] [] (GG L) I = some (some (.int (nI (cn P.1 1))), GG L, I') ∧ Rd I' d (wS p [(i, x)] P) ∧ FI d I I' := by
  obtain ⟨w, A, W, X, C, V, Q⟩ := P
  obtain ⟨h3, h4, hok, hA, hC, hV⟩ := h
  simp only at h3 h4 hok hA hC hV
  rcases w with _ | w
  · -- off
    refine ⟨I, ?_, ⟨h3, h4, trivial, hA, fun q hq => ?_, hV⟩, FI_rfl _ _⟩
    · rw [B30_0 hd hd0, if_neg (by rw [h4]; decide), B30_18 hd hd0, if_pos (show I d 3 = 0 from h3)]; rfl
    · obtain ⟨e1, e2, e3⟩ := hC q hq
      have a1 : up W p (W p + nI 0) = W := by rw [show nI 0 = 0 from rfl, Int32.add_zero, up_self]
      have a2 : up C p (C p) = C := up_self _ _
      simp only [wS, cn, List.take_zero, wl]
      rw [a1, a2]
      exact ⟨e1, e2, e3⟩
  · by_cases hz : w = some 0
    · -- the power fails here
      subst hz
      refine ⟨uI (uI I d 3 0) d 4 (-6), ?_, ⟨?_, ?_, trivial, fun j h5 h10 => ?_, fun q hq => ?_, fun k hk => ?_⟩, fun a ha => ?_⟩
      · rw [B30_0 hd hd0, if_pos (show I d 4 = 0 from h4), B30_18 hd hd0, if_pos (by rw [uI_k _ _ _ _ _ (by decide), uI_s])]; rfl
      · rw [uI_k _ _ _ _ _ (by decide), uI_s]; rfl
      · rw [uI_s]; rfl
      · rw [uI_k _ _ _ _ _ (by omega), uI_k _ _ _ _ _ (by omega)]; exact hA j h5 h10
      · obtain ⟨e1, e2, e3⟩ := hC q hq
        have a1 : up W p (W p + nI 0) = W := by rw [show nI 0 = 0 from rfl, Int32.add_zero, up_self]
        have a2 : up C p (C p) = C := up_self _ _
        have v : ∀ a j, a ≠ d → uI (uI I d 3 0) d 4 (-6) a j = I a j := fun a j ha => by rw [uI_a _ _ _ _ _ _ ha, uI_a _ _ _ _ _ _ ha]
        simp only [wS, cn, List.length_singleton, Nat.zero_min, List.take_zero, wl]
        rw [a1, a2, v _ _ (by omega), v _ _ (by omega)]
        exact ⟨e1, e2, fun k hk => by rw [v _ _ (by omega)]; exact e3 k hk⟩
      · rw [uI_a _ _ _ _ _ _ (by omega), uI_a _ _ _ _ _ _ (by omega), uI_a _ _ _ _ _ _ (by omega), uI_a _ _ _ _ _ _ (by omega)]; exact hV k hk
      · rw [uI_o _ _ _ _ _ (by omega), uI_o _ _ _ _ _ (by omega)]
    · -- written
      have hne : ¬ I d 4 = 0 := by
        rw [h4]
        rcases w with _ | n
        · decide
        · intro e
          exact hz (by rw [(nI_eq (show n < 2 ^ 31 by have : n ≤ 200 := hok; omega) (by decide)).mp (show nI n = nI 0 from e)])
      have hc1 : cn (some w) 1 = 1 := by
        rcases w with _ | n
        · rfl
        · have : n ≠ 0 := fun e => hz (by rw [e])
          simp only [cn]; omega
      obtain ⟨s, hs⟩ : ∃ s, pwB (pa (some w) 1) = s := ⟨_, rfl⟩
      have hpa : pwA (pa (some w) 1) = 1 := by
        rcases w with _ | n
        · rfl
        · have : n ≠ 0 := fun e => hz (by rw [e])
          simp only [pa]
          rw [if_pos (by omega)]; rfl
      have hI4 : (if I d 4 ≤ 0 then I else uI I d 4 (I d 4 - 1)) = uI I d 4 s := by
        rw [← hs]
        rcases w with _ | n
        · have h4' : I d 4 = -6 := h4
          rw [if_pos (by rw [h4']; decide)]
          funext a j
          unfold uI
          split
          · split
            · rename_i z1 z2; rw [z1, z2, h4']; rfl
            · rfl
          · rfl
        · have h4' : I d 4 = nI n := h4
          have hn : n ≤ 200 := hok
          match n, h4', hn, hz with
          | 0, _, _, hz => exact absurd rfl hz
          | n + 1, h4', hn, _ =>
            rw [h4', if_neg (nI_nle (by omega) (by omega)), nI_pred]
            simp only [pa]
            rw [if_pos (by omega)]
            rfl
      obtain ⟨e1, e2, e3⟩ := hC p hp
      have hrun : E 30 0 [some (.ref d), some (.ref (d + 1 + 2 * p)), some (.int (nI i)), some (.int x)] [] (GG L) I = some (some (.int 1), GG L, uI (uI (uI I d 4 s) (d + 2 + 2 * p) i x) (d + 1 + 2 * p) 1 (I (d + 1 + 2 * p) 1 + 1)) := by
        rw [B30_0 hd hd0, if_neg hne, B30_18 hd hd0, if_neg (by rw [h3]; exact (by decide : ¬ (1 : Int32) = 0))]
        have key : ∀ I0, K2 30 50 [some (.ref d), some (.ref (d + 1 + 2 * p)), some (.int (nI i)), some (.int x)] [] (E 72 0 [some (.ref (d + 1 + 2 * p)), some (.int (nI i)), some (.int x)] [] (GG L) I0) = some (some (.int 1), GG L, uI (uI I0 (d + 2 + 2 * p) i x) (d + 1 + 2 * p) 1 (uI I0 (d + 2 + 2 * p) i x (d + 1 + 2 * p) 1 + 1)) := by
          intro I0
          rw [S72 hd0 hi, K2_v, B30_50 hd0, B73_0 hd0, K2_v, B30_54, show d + 1 + 2 * p + 1 = d + 2 + 2 * p by omega]
        rw [key, key]
        have e : ∀ I0 : It, I0 (d + 1 + 2 * p) = I (d + 1 + 2 * p) → uI I0 (d + 2 + 2 * p) i x (d + 1 + 2 * p) 1 = I (d + 1 + 2 * p) 1 := fun I0 h => by rw [uI_a _ _ _ _ _ _ (by omega), h]
        rw [e I rfl, e (uI I d 4 (I d 4 - 1)) (uI_o _ _ _ _ _ (by omega)), ← hI4]
        split <;> rfl
      refine ⟨_, hrun.trans (by simp only [hc1]; rfl), ⟨?_, ?_, pa_ok 1 hok, fun j h5 h10 => ?_, fun q hq => ?_, fun k hk => ?_⟩, fun a ha => ?_⟩
      · rw [uI_a _ _ _ _ _ _ (by omega), uI_a _ _ _ _ _ _ (by omega), uI_k _ _ _ _ _ (by decide)]
        exact h3.trans hpa.symm
      · rw [uI_a _ _ _ _ _ _ (by omega), uI_a _ _ _ _ _ _ (by omega), uI_s]; exact hs.symm
      · rw [uI_a _ _ _ _ _ _ (by omega), uI_a _ _ _ _ _ _ (by omega), uI_k _ _ _ _ _ (by omega)]; exact hA j h5 h10
      · obtain ⟨f1, f2, f3⟩ := hC q hq
        simp only [wS, List.length_singleton, hc1, List.take_succ_cons, List.take_zero, wl]
        by_cases hqp : q = p
        · subst hqp
          refine ⟨?_, ?_, fun k hk => ?_⟩
          · rw [uI_s, up_s, e1]; rfl
          · rw [uI_k _ _ _ _ _ (by decide), uI_a _ _ _ _ _ _ (by omega), uI_a _ _ _ _ _ _ (by omega)]; exact f2
          · rw [uI_a _ _ _ _ _ _ (by omega), up_s]
            by_cases hki : k = i
            · subst hki; rw [uI_s, up_s]
            · rw [uI_k _ _ _ _ _ hki, uI_a _ _ _ _ _ _ (by omega), up_k _ _ _ hki]; exact f3 k hk
        · refine ⟨?_, ?_, fun k hk => ?_⟩
          · rw [uI_a _ _ _ _ _ _ (by omega), uI_a _ _ _ _ _ _ (by omega), uI_a _ _ _ _ _ _ (by omega), up_k _ _ _ hqp]; exact f1
          · rw [uI_a _ _ _ _ _ _ (by omega), uI_a _ _ _ _ _ _ (by omega), uI_a _ _ _ _ _ _ (by omega)]; exact f2
          · rw [uI_a _ _ _ _ _ _ (by omega), uI_a _ _ _ _ _ _ (by omega), uI_a _ _ _ _ _ _ (by omega), up_k _ _ _ hqp]; exact f3 k hk
      · rw [uI_a _ _ _ _ _ _ (by omega), uI_a _ _ _ _ _ _ (by omega), uI_a _ _ _ _ _ _ (by omega), uI_a _ _ _ _ _ _ (by omega), uI_a _ _ _ _ _ _ (by omega), uI_a _ _ _ _ _ _ (by omega)]; exact hV k hk
      · rw [uI_o _ _ _ _ _ (by omega), uI_o _ _ _ _ _ (by omega), uI_o _ _ _ _ _ (by omega)]
/-- three cells written -/
theorem T_three {L : Nat × Nat} {d p i : Nat} {x y z : Int32} {I : It} {P : Pc} (hd : kd (GG L) d = 0) (hd0 : kd (GG L) (d + 1 + 2 * p) = 4) (hp : p < 2) (hi : i + 2 < 48) (h : Rd I d P) :
    ∃ I', E 29 0 [some (.ref d), some (.ref (d + 1 + 2 * p)), some (.int (nI i)), some (.int x), some (.int y), some (.int z), none] [] (GG L) I = some (some (.int (nI (cn P.1 3))), GG L, I') ∧ Rd I' d (wS p [(i, x), (i + 1, y), (i + 2, z)] P) ∧ FI d I I' := by
  obtain ⟨I1, a1, h1, f1⟩ := T_cell (i := i) (x := x) hd hd0 hp (by omega) h
  obtain ⟨I2, a2, h2, f2⟩ := T_cell (i := i + 1) (x := y) hd hd0 hp (by omega) h1
  obtain ⟨I3, a3, h3, f3⟩ := T_cell (i := i + 2) (x := z) hd hd0 hp (by omega) h2
  rw [wS_app] at h2 h3
  rw [wS_app] at h3
  refine ⟨I3, ?_, h3, FI_tr (FI_tr f1 f2) f3⟩
  rw [B29_0 hd hd0, a1, K2_i, B29_7 hd hd0, nI_1, a2, K2_i, B29_21 hd hd0, show nI i + 2 = nI (i + 2) from nI_add i 2, a3, K2_i, B29_36 rfl]
  congr 3
  rw [nI_add, nI_add, show (3 : Nat) = 1 + 1 + 1 from rfl, cn_add P.1 (1 + 1) 1, cn_add P.1 1 1, pa_add]
  rfl
def rck (a b v : Int32) : Int32 := ((((7 * a) + (11 * b)) + (13 * v)) + 5) - ((((7 * a) + (11 * b)) + (13 * v)) + 5) / 251 * 251
def hck (a b : Int32) : Int32 := (((3 * a) + (5 * b)) + 1) - (((3 * a) + (5 * b)) + 1) / 251 * 251
/-- the cells of a record, of a head -/
def rcl (i n c v : Nat) : List (Nat × Int32) := [(i, nI (n + 1)), (i + 1, nI c), (i + 2, rck (nI (n + 1)) (nI c) (nI v))]
def hcl (v s : Nat) : List (Nat × Int32) := [(0, nI (200 + v)), (1, nI s), (2, hck (nI (200 + v)) (nI s))]
theorem T_rec {L : Nat × Nat} {d p i n c v : Nat} {I : It} {P : Pc} (hd : kd (GG L) d = 0) (hd0 : kd (GG L) (d + 1 + 2 * p) = 4) (hp : p < 2) (hi : i + 2 < 48) (h : Rd I d P) :
    ∃ I', E 27 0 [some (.ref d), some (.ref (d + 1 + 2 * p)), some (.int (nI i)), some (.int (nI n)), some (.int (nI c)), some (.int (nI v)), none] [] (GG L) I = some (some (.int (nI (cn P.1 3))), GG L, I') ∧ Rd I' d (wS p (rcl i n c v) P) ∧ FI d I I' := by
  obtain ⟨I', a, h', f⟩ := T_three (i := i) (x := nI (n + 1)) (y := nI c) (z := rck (nI (n + 1)) (nI c) (nI v)) hd hd0 hp hi h
  refine ⟨I', ?_, h', f⟩
  rw [B27_0 hd hd0, nI_1, B84_0, K2_i, B27_21 hd hd0]
  refine Eq.trans (congrArg _ (Eq.trans ?_ a)) ?_
  · rfl
  · rw [K2_i, B27_24]
theorem T_head {L : Nat × Nat} {d p v s : Nat} {I : It} {P : Pc} (hd : kd (GG L) d = 0) (hd0 : kd (GG L) (d + 1 + 2 * p) = 4) (hp : p < 2) (h : Rd I d P) :
    ∃ I', E 28 0 [some (.ref d), some (.ref (d + 1 + 2 * p)), some (.int (nI v)), some (.int (nI s)), none] [] (GG L) I = some (some (.int (nI (cn P.1 3))), GG L, I') ∧ Rd I' d (wS p (hcl v s) P) ∧ FI d I I' := by
  obtain ⟨I', a, h', f⟩ := T_three (i := 0) (x := nI (200 + v)) (y := nI s) (z := hck (nI (200 + v)) (nI s)) hd hd0 hp (by decide) h
  refine ⟨I', ?_, h', f⟩
  rw [B28_0 hd hd0, show 200 + nI v = nI (200 + v) from nI_add 200 v, B83_0, K2_i, B28_19 hd hd0]
  refine Eq.trans (congrArg _ (Eq.trans ?_ a)) ?_
  · rfl
  · rw [K2_i, B28_22]
theorem S70 {L : Nat × Nat} {o : Nat} (ho : kd (GG L) o = 4) : ∀ (d k : Nat) (I : It), d + k = 48 → ∃ I', E 70 2 [some (.ref o), some (.int (nI k))] [] (GG L) I = some (none, GG L, I') ∧ (∀ a, a ≠ o → a ≠ o + 1 → I' a = I a) ∧ (∀ j, j ≠ 2 → I' o j = I o j) ∧ I' o 2 = I o 2 + 1 ∧ (∀ j, j < 48 → I' (o + 1) j = if k ≤ j then -6 else I (o + 1) j) := by
  intro d
  induction d with
  | zero =>
    intro k I hd
    have hk : k = 48 := by omega
    subst hk
    refine ⟨uI I o 2 (I o 2 + 1), ?_, fun a h1 h2 => uI_o _ _ _ _ _ h1, fun j hj => uI_k _ _ _ _ _ hj, uI_s _ _ _ _, fun j hj => ?_⟩
    · rw [B70_2 ho, if_pos (by decide)]
    · rw [uI_a _ _ _ _ _ _ (by omega), if_neg (by omega)]
  | succ d ih =>
    intro k I hd
    obtain ⟨I', e, h1, h2, h3, h4⟩ := ih (k + 1) (uI I (o + 1) k (-6)) (by omega)
    refine ⟨I', ?_, fun a q1 q2 => (h1 a q1 q2).trans (uI_o _ _ _ _ _ q2), fun j hj => (h2 j hj).trans (uI_a _ _ _ _ _ _ (by omega)), ?_, fun j hj => ?_⟩
    · rw [B70_2 ho, if_neg (show ¬ (48 : Int32) ≤ nI k from nI_ge (a := k) (b := 48) (show k < 48 by omega) (by decide)), ck_of (inb_nI (by omega) (by decide)), ix_nI (by omega), nI_1, e]
    · rw [h3, uI_a _ _ _ _ _ _ (by omega)]
    · rw [h4 j hj]
      by_cases q : k + 1 ≤ j
      · rw [if_pos q, if_pos (by omega)]
      · rw [if_neg q]
        by_cases q2 : j = k
        · rw [q2, uI_s, if_pos (Nat.le_refl _)]
        · rw [uI_k _ _ _ _ _ q2, if_neg (by omega)]
/-- a page erased -/
def eS (p : Nat) (P : Pc) : Pc := (P.1, P.2.1, P.2.2.1, up P.2.2.2.1 p (P.2.2.2.1 p + 1), up P.2.2.2.2.1 p (fun _ => -6), P.2.2.2.2.2)
theorem T_erase {L : Nat × Nat} {d p : Nat} {I : It} {P : Pc} (hd0 : kd (GG L) (d + 1 + 2 * p) = 4) (hp : p < 2) (h : Rd I d P) :
    ∃ I', E 70 0 [some (.ref (d + 1 + 2 * p)), none] [] (GG L) I = some (none, GG L, I') ∧ Rd I' d (eS p P) ∧ FI d I I' := by
  obtain ⟨I', e, h1, h2, h3, h4⟩ := S70 hd0 48 0 I rfl
  obtain ⟨w3, w4, hok, hA, hC, hV⟩ := h
  refine ⟨I', ?_, ⟨?_, ?_, hok, fun j h5 h10 => ?_, fun q hq => ?_, fun k hk => ?_⟩, fun a ha => h1 a (by omega) (by omega)⟩
  · rw [B70_0 hd0]; exact e
  · rw [h1 d (by omega) (by omega)]; exact w3
  · rw [h1 d (by omega) (by omega)]; exact w4
  · rw [h1 d (by omega) (by omega)]; exact hA j h5 h10
  · obtain ⟨e1, e2, e3⟩ := hC q hq
    by_cases hqp : q = p
    · subst hqp
      refine ⟨?_, ?_, fun k hk => ?_⟩
      · rw [h2 1 (by decide)]; exact e1
      · rw [h3, e2]; exact (up_s _ _ _).symm
      · have := h4 k hk
        rw [if_pos (Nat.zero_le _)] at this
        rw [show d + 2 + 2 * q = d + 1 + 2 * q + 1 by omega, this]
        simp only [eS, up_s]
    · refine ⟨?_, ?_, fun k hk => ?_⟩
      · rw [h1 _ (by omega) (by omega)]; exact e1
      · rw [h1 _ (by omega) (by omega), e2]; exact (up_k _ _ _ hqp).symm
      · rw [h1 _ (by omega) (by omega), e3 k hk]
        simp only [eS]
        rw [up_k _ _ _ hqp]
  · rw [h1 _ (by omega) (by omega), h1 _ (by omega) (by omega)]; exact hV k hk
