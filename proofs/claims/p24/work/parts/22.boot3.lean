def Zr (n m : Nat) (I : It) : Prop := ∀ a j, n ≤ a → a < m → I a j = 0
theorem Zr_step {n m : Nat} {G : Gt} {I : It} (hm : G.1 + 1 = m) (h : Zr n G.1 I) : Zr n m (nI0 G I) := by
  intro a j h1 h2
  by_cases e : a = G.1
  · rw [e, nI0_new]
  · rw [nI0_o _ _ _ e]; exact h a j h1 (by omega)
theorem Zr_nil {n m : Nat} {I : It} (h : m ≤ n) : Zr n m I := fun a j h1 h2 => absurd h1 (by omega)
theorem lowI {n : Nat} {G : Gt} {I I0 : It} (hn : n ≤ G.1) (h : ∀ a, a < n → I a = I0 a) : ∀ a, a < n → nI0 G I a = I0 a := fun a ha => (nI0_o G I a (by omega)).trans (h a ha)
def GA (l : List Op4) (L : Nat) : Gt := l.foldl apG (Gi L)
theorem GA_app (l k : List Op4) (L : Nat) : GA (l ++ k) L = k.foldl apG (GA l L) := List.foldl_append
theorem GA_n {l : List Op4} (L : Nat) {k : Nat} (h : (alcs l).length = k) : (GA l L).1 = 1 + k := n_fold l (Gi L) h
theorem GA_kd {l : List Op4} (L : Nat) {a c : Nat} (h0 : 0 < a) (h : ((alcs l)[a - 1]?).map Prod.fst = some c) : kd (GA l L) a = c := by
  obtain ⟨⟨c', n⟩, h1, h2⟩ := Option.map_eq_some_iff.mp h
  have hl := (List.getElem?_eq_some_iff.mp h1).1
  unfold kd
  rw [if_neg (by omega), if_pos (by unfold GA; rw [apG_n]; show a < 1 + _; omega)]
  show ((l.foldl apG (Gi L)).2.2.1 a).1 = c
  rw [apG_k l (Gi L) a (c', n) h0 h1]
  exact h2
theorem GA_ln {l : List Op4} (L : Nat) {a n : Nat} (h0 : 0 < a) (h : ((alcs l)[a - 1]?).map Prod.snd = some n) : ln (GA l L) a = n := by
  obtain ⟨⟨c', n'⟩, h1, h2⟩ := Option.map_eq_some_iff.mp h
  show ((l.foldl apG (Gi L)).2.2.1 a).2 = n
  rw [apG_k l (Gi L) a (c', n') h0 h1]
  exact h2
theorem GA_rf {l : List Op4} (L : Nat) {a k r : Nat} (h : rfO l 1 a k none = some r) : rf (GA l L) a k = some r := (apG_r l (Gi L) a k).trans h
def opVs : Nat → Nat → Nat → Nat → List Op4
  | 0, _, _, _ => []
  | d + 1, m, r, i => opV m r i ++ opVs d (m + 10) r (i + 1)
theorem alc_app (a b : List Op4) : alcs (a ++ b) = alcs a ++ alcs b := List.filterMap_append
theorem alc_opV (m r i : Nat) : (alcs (opV m r i)).length = 10 := rfl
theorem cVs : ∀ (d i : Nat) {G : Gt} {y r : Nat} {I : It}, d + i = 6 → 1 ≤ G.1 → kd G y = 2 → rf G y 1 = some r → kd G r = 53 → ln G r = 6 → y ≠ r → ∃ I', E 43 26 [some (.ref y), some (.int (nI i))] [] G I = some (none, (opVs d G.1 r i).foldl apG G, I') ∧ (∀ a, a < G.1 → I' a = I a) ∧ Zr G.1 (G.1 + 10 * d) I' := by
  intro d
  induction d with
  | zero =>
    intro i G y r I hd hG hy hr hk hl hne
    have hi : i = 6 := by omega
    subst hi
    refine ⟨I, ?_, fun _ _ => rfl, Zr_nil (Nat.le_refl _)⟩
    rw [C43_26 hG hy hr hk hl, if_pos (by decide)]
    rfl
  | succ d ih =>
    intro i G y r I hd hG hy hr hk hl hne
    obtain ⟨I1, e1, h1, h2⟩ := stepV (I := I) hG hy hr hk hl (show i < 6 by omega)
    have hyl := kd_lt (by decide) hy
    have hn : ((opV G.1 r i).foldl apG G).1 = G.1 + 10 := n_fold _ _ (alc_opV _ _ _)
    obtain ⟨I2, e2, h3, h4⟩ := ih (i + 1) (G := (opV G.1 r i).foldl apG G) (y := y) (r := r) (I := I1) (by omega) (by omega) (kd_fold _ (by decide) hy)
      (rf_fold _ (by decide) hy (fun q hq h0 => by
        simp only [opV, opL, opS, List.mem_append, List.mem_cons, List.not_mem_nil, or_false] at hq
        rintro ⟨z1, z2⟩
        rcases hq with rfl | ((rfl | rfl | rfl | rfl | rfl | rfl | rfl | rfl | rfl) | (rfl | rfl | rfl | rfl | rfl | rfl | rfl | rfl) | rfl) | rfl <;> simp only at z1 z2 h0 <;> omega) hr)
      (kd_fold _ (by decide) hk) (ln_fold _ (by decide) hk hl) hne
    refine ⟨I2, ?_, fun a ha => (h3 a (by omega)).trans (h1 a ha), fun a j q1 q2 => ?_⟩
    · rw [e1, e2, hn]
      show _ = some (none, (opV G.1 r i ++ opVs d (G.1 + 10) r (i + 1)).foldl apG G, I2)
      rw [List.foldl_append]
    · by_cases q3 : a < G.1 + 10
      · rw [h3 a (by omega)]; exact h2 a j q1 q3
      · exact h4 a j (by omega) (by omega)
def opLs (n y : Nat) : List Op4 := [(0, 1, 5, 0)] ++ (opL (n + 1) n ++ ([(1, y, 0, n), (0, 53, 6, 0), (1, y, 1, n + 10)] ++ opVs 6 (n + 11) (n + 10) 0))
theorem cLs {G : Gt} {y : Nat} {I : It} (hG : 1 ≤ G.1) (hy : kd G y = 2) : ∃ I', E 43 0 [some (.ref y), none] [] G I = some (none, (opLs G.1 y).foldl apG G, I') ∧ (∀ a, a < G.1 → I' a = I a) ∧ Zr G.1 (G.1 + 71) I' := by
  have hyl := kd_lt (by decide) hy
  obtain ⟨I1, e1, i1, i2⟩ := cLb (G := nG G 1 5) (I := nI0 G I) (le_nG hG) (kd_new hG)
  have hn1 : (nG G 1 5).1 = G.1 + 1 := rfl
  rw [hn1] at e1 i1 i2
  obtain ⟨G2, hG2⟩ : ∃ G2, (opL (G.1 + 1) G.1).foldl apG (nG G 1 5) = G2 := ⟨_, rfl⟩
  have hn2 : G2.1 = G.1 + 10 := by
    rw [← hG2, n_fold _ _ (k := 9) rfl]
    show G.1 + 1 + 9 = _
    omega
  have hky : kd G2 y = 2 := by rw [← hG2]; exact kd_fold _ (by decide) (kd_nG (by decide) hy)
  have hkn : kd G2 G.1 = 1 := by rw [← hG2]; exact kd_fold _ (by decide) (kd_new hG)
  rw [hG2] at e1
  obtain ⟨G3, hG3⟩ : ∃ G3, uG (nG (uG G2 y 0 G.1) 53 6) y 1 G2.1 = G3 := ⟨_, rfl⟩
  have hn3 : G3.1 = G.1 + 11 := by rw [← hG3]; show G2.1 + 1 = _; omega
  obtain ⟨I4, e4, j1, j2⟩ := cVs 6 0 (G := G3) (y := y) (r := G2.1) (I := nI0 (uG G2 y 0 G.1) I1) rfl (by omega) (by rw [← hG3]; exact kd_uG (kd_nG (by decide) (kd_uG hky))) (by rw [← hG3]; exact rf_put) (by rw [← hG3]; exact kd_uG (kd_new (G := uG G2 y 0 G.1) (show 1 ≤ G2.1 by omega))) (by rw [← hG3]; exact ln_uG (ln_new (G := uG G2 y 0 G.1))) (by omega)
  refine ⟨I4, ?_, fun a ha => ?_, fun a j q1 q2 => ?_⟩
  · rw [C43_0 hG hy, e1, K2_v, C43_12 (by omega) hky hkn, hG3, show (0 : Int32) = nI 0 from rfl, e4]
    unfold opLs
    rw [List.foldl_append, List.foldl_append, List.foldl_append]
    have a1 : ([(0, 1, 5, 0)] : List Op4).foldl apG G = nG G 1 5 := rfl
    rw [a1, hG2, ← hn3, ← hn2]
    have a2 : ([(1, y, 0, G.1), (0, 53, 6, 0), (1, y, 1, G2.1)] : List Op4).foldl apG G2 = G3 := hG3
    rw [a2]
  · rw [j1 a (by omega), nI0_o _ _ _ (by show a ≠ G2.1; omega), i1 a (by omega), nI0_o _ _ _ (by omega)]
  · by_cases q3 : a < G.1 + 11
    · rw [j1 a (by omega)]
      by_cases q4 : a = G2.1
      · rw [q4]; exact congrFun (nI0_new (uG G2 y 0 G.1) I1) j
      · rw [nI0_o _ _ _ (show a ≠ (uG G2 y 0 G.1).1 from q4)]
        by_cases q5 : a = G.1
        · rw [q5, i1 _ (by omega), nI0_new]
        · exact i2 a j (by omega) (by omega)
    · exact j2 a j (by omega) (by omega)
theorem fold_new {G : Gt} {k n : Nat} : ([(0, k, n, 0)] : List Op4).foldl apG G = nG G k n := rfl
theorem fold_u {G : Gt} {o k r : Nat} : ([(1, o, k, r)] : List Op4).foldl apG G = uG G o k r := rfl
theorem fold_un {G : Gt} {o k r kk n w : Nat} : ([(1, o, k, r), (0, kk, n, w)] : List Op4).foldl apG G = nG (uG G o k r) kk n := rfl
theorem fold_unu {G : Gt} {o k r kk n w o2 k2 r2 : Nat} : ([(1, o, k, r), (0, kk, n, w), (1, o2, k2, r2)] : List Op4).foldl apG G = uG (nG (uG G o k r) kk n) o2 k2 r2 := rfl
theorem fold_nu {G : Gt} {kk n w o2 k2 r2 : Nat} : ([(0, kk, n, w), (1, o2, k2, r2)] : List Op4).foldl apG G = uG (nG G kk n) o2 k2 r2 := rfl
def lx2 : List Op4 := [(0, 6, 6, 0), (0, 3, 4, 0)] ++ opPad 3 2
def lx4 : List Op4 := lx2 ++ ([(1, 1, 0, 2), (0, 2, 3, 0)] ++ opLs 10 9)
def lx5 : List Op4 := lx4 ++ [(1, 1, 1, 9)]
def lx6 : List Op4 := lx5 ++ ([(0, 0, 14, 0)] ++ opD 82 81 9)
def lx7 : List Op4 := lx6 ++ [(1, 1, 2, 81)]
def lx8 : List Op4 := lx7 ++ ([(0, 0, 14, 0)] ++ opD 91 90 9)
def lx9 : List Op4 := lx8 ++ [(1, 1, 3, 90), (0, 54, 2, 0), (1, 1, 4, 99)]
def lx10 : List Op4 := lx9 ++ opI 100 99 0 9
def lx11 : List Op4 := lx10 ++ opI 109 99 1 9
def lx12 : List Op4 := lx11 ++ [(0, 51, 2, 0), (1, 1, 5, 118)]
theorem cX_fin {G0 G2 G8 G11 : Gt} {I I1 I3 I5 I7 I9 I10 : It} (n1 : G0.1 = 2) (n3' : G2.1 = 9) (n8' : G8.1 = 99) (n11 : G11.1 = 118)
    (i1 : ∀ a, a < 3 → I1 a = nI0 G0 I a) (i2 : ∀ a j, 3 ≤ a → a < 3 + 6 → I1 a j = 0) (j1 : ∀ a, a < 1 + 9 → I3 a = nI0 G2 I1 a) (j2 : Zr (1 + 9) (1 + 9 + 71) I3)
    (m1 : ∀ a, a < 81 → I5 a = I3 a) (m2 : dv0 I5 81) (o1 : ∀ a, a < 90 → I7 a = I5 a) (o2 : dv0 I7 90) (p1 : ∀ a, a < 100 → I9 a = nI0 G8 I7 a) (p2 : dv0 I9 100) (q1 : ∀ a, a < 109 → I10 a = I9 a) (q2 : dv0 I10 109) :
    nI0 G11 I10 0 = I 0 ∧ nI0 G11 I10 1 = I 1 ∧ Zr 2 81 (nI0 G11 I10) ∧ dv0 (nI0 G11 I10) 81 ∧ dv0 (nI0 G11 I10) 90 ∧ dv0 (nI0 G11 I10) 100 ∧ dv0 (nI0 G11 I10) 109 ∧ (∀ j, nI0 G11 I10 118 j = 0) := by
  have low7 : ∀ a, a < 99 → nI0 G8 I7 a = I7 a := fun a ha => nI0_o _ _ _ (by omega)
  have low11 : ∀ a, a < 118 → nI0 G11 I10 a = I10 a := fun a ha => nI0_o _ _ _ (by omega)
  -- from the end back to a cell made early
  have b10 : ∀ a, a < 100 → nI0 G11 I10 a = nI0 G8 I7 a := fun a ha => by rw [low11 a (by omega), q1 a (by omega), p1 a (by omega)]
  have b3 : ∀ a, a < 81 → nI0 G11 I10 a = I3 a := fun a ha => by rw [b10 a (by omega), low7 a (by omega), o1 a (by omega), m1 a (by omega)]
  have b0 : ∀ a, a < 2 → nI0 G11 I10 a = I a := fun a ha => by
    rw [b3 a (by omega), j1 a (by omega), nI0_o _ _ _ (by omega), i1 a (by omega), nI0_o _ _ _ (by omega)]
  refine ⟨b0 0 (by decide), b0 1 (by decide), fun a j h1 h2 => ?_, ?_, ?_, ?_, ?_, fun j => ?_⟩
  · rw [b3 a h2]
    by_cases h3 : a < 10
    · rw [j1 a h3]
      by_cases h4 : a = 9
      · rw [h4, ← n3', nI0_new]
      · rw [nI0_o _ _ _ (by omega)]
        by_cases h5 : a = 2
        · rw [h5, i1 2 (by decide), ← n1, nI0_new]
        · exact i2 a j (by omega) (by omega)
    · exact j2 a j (by omega) (by omega)
  · exact dv0_kept m2 (fun a h1 h2 => by rw [b10 a (by omega), low7 a (by omega), o1 a (by omega)])
  · exact dv0_kept o2 (fun a h1 h2 => by rw [b10 a (by omega), low7 a (by omega)])
  · exact dv0_kept p2 (fun a h1 h2 => by rw [low11 a (by omega), q1 a (by omega)])
  · exact dv0_kept q2 (fun a h1 h2 => low11 a (by omega))
  · rw [← n11, nI0_new]
theorem uG_n {G : Gt} {o k r : Nat} : (uG G o k r).1 = G.1 := rfl
set_option maxHeartbeats 4000000 in
theorem cX {L : Nat} {I : It} : ∃ I', E 93 0 [some (.ref 1), none] [] (GA [(0, 6, 6, 0)] L) I = some (none, GA lx12 L, I') ∧ I' 0 = I 0 ∧ I' 1 = I 1 ∧ Zr 2 81 I' ∧ dv0 I' 81 ∧ dv0 I' 90 ∧ dv0 I' 100 ∧ dv0 I' 109 ∧ (∀ j, I' 118 j = 0) := by
  have n1 : (GA [(0, 6, 6, 0)] L).1 = 2 := rfl
  have k1 : kd (GA [(0, 6, 6, 0)] L) 1 = 6 := GA_kd L (by decide) (by decide +kernel)
  have e0 := C93_0 (G := GA [(0, 6, 6, 0)] L) (I := I) (by rw [n1]; decide) k1
  rw [n1] at e0
  have a1 : nG (GA [(0, 6, 6, 0)] L) 3 4 = GA [(0, 6, 6, 0), (0, 3, 4, 0)] L := rfl
  rw [a1] at e0
  obtain ⟨I1, e1, i1, i2⟩ := cPad (G := GA [(0, 6, 6, 0), (0, 3, 4, 0)] L) (p := 2) (I := nI0 (GA [(0, 6, 6, 0)] L) I) (show 1 ≤ 3 by decide) (GA_kd L (by decide) (by decide +kernel))
  have n2 : (GA [(0, 6, 6, 0), (0, 3, 4, 0)] L).1 = 3 := rfl
  rw [n2, ← GA_app] at e1
  rw [n2] at i1 i2
  have n3 : (GA lx2 L).1 = 9 := GA_n (l := lx2) L (k := 8) (by decide +kernel)
  have e2 := C93_12 (G := GA lx2 L) (o0 := 1) (u1 := none) (p1 := 2) (I := I1) (by rw [n3]; decide) (GA_kd L (by decide) (by decide +kernel)) (GA_kd L (by decide) (by decide +kernel))
  rw [n3] at e2
  have a2 : nG (uG (GA lx2 L) 1 0 2) 2 3 = GA (lx2 ++ [(1, 1, 0, 2), (0, 2, 3, 0)]) L := by rw [GA_app, fold_un]
  rw [a2] at e2
  obtain ⟨I3, e3, j1, j2⟩ := cLs (G := GA (lx2 ++ [(1, 1, 0, 2), (0, 2, 3, 0)]) L) (y := 9) (I := nI0 (uG (GA lx2 L) 1 0 2) I1) (by rw [GA_n L (k := 9) (by decide +kernel)]; decide) (GA_kd L (by decide) (by decide +kernel))
  rw [GA_n L (k := 9) (by decide +kernel)] at e3 j1 j2
  rw [show (1 + 9 : Nat) = 10 from rfl, ← GA_app, List.append_assoc] at e3
  have hl4 : GA (lx2 ++ ([(1, 1, 0, 2), (0, 2, 3, 0)] ++ opLs 10 9)) L = GA lx4 L := by unfold lx4; rfl
  rw [hl4] at e3
  have n4 : (GA lx4 L).1 = 81 := GA_n (l := lx4) L (k := 80) (by decide +kernel)
  have e4 := C93_23 (G := GA lx4 L) (o0 := 1) (u1 := none) (p1 := 9) (I := I3) (by rw [n4]; decide) (GA_kd L (by decide) (by decide +kernel)) (GA_kd L (by decide) (by decide +kernel))
  have a4 : uG (GA lx4 L) 1 1 9 = GA lx5 L := by unfold lx5; rw [GA_app, fold_u]
  rw [n4, a4] at e4
  have n5 : (GA lx5 L).1 = 81 := GA_n (l := lx5) L (k := 80) (by decide +kernel)
  obtain ⟨I5, e5, m1, m2⟩ := newD (G := GA lx5 L) (y := 9) (I := I3) (by rw [n5]; decide) (GA_kd L (by decide) (by decide +kernel))
  rw [n5] at e5 m1 m2
  have a5 : (opD 82 81 9).foldl apG (nG (GA lx5 L) 0 14) = GA lx6 L := by unfold lx6; rw [GA_app, List.foldl_append, fold_new]
  simp only [Nat.reduceAdd] at e5
  rw [a5] at e5
  have n6 : (GA lx6 L).1 = 90 := GA_n (l := lx6) L (k := 89) (by decide +kernel)
  have e6 := C93_38 (G := GA lx6 L) (o0 := 1) (u1 := none) (p1 := 81) (I := I5) (by rw [n6]; decide) (GA_kd L (by decide) (by decide +kernel)) (GA_kd L (by decide) (by decide +kernel)) (f1 := 9) (GA_rf L (by decide +kernel)) (GA_kd L (by decide) (by decide +kernel)) (GA_ln L (by decide) (by decide +kernel))
  have a6 : uG (GA lx6 L) 1 2 81 = GA lx7 L := by unfold lx7; rw [GA_app, fold_u]
  rw [n6, a6] at e6
  have n7 : (GA lx7 L).1 = 90 := GA_n (l := lx7) L (k := 89) (by decide +kernel)
  obtain ⟨I7, e7, o1, o2⟩ := newD (G := GA lx7 L) (y := 9) (I := I5) (by rw [n7]; decide) (GA_kd L (by decide) (by decide +kernel))
  rw [n7] at e7 o1 o2
  have a7 : (opD 91 90 9).foldl apG (nG (GA lx7 L) 0 14) = GA lx8 L := by unfold lx8; rw [GA_app, List.foldl_append, fold_new]
  simp only [Nat.reduceAdd] at e7
  rw [a7] at e7
  have n8 : (GA lx8 L).1 = 99 := GA_n (l := lx8) L (k := 98) (by decide +kernel)
  have e8 := C93_53 (G := GA lx8 L) (o0 := 1) (u1 := none) (p1 := 90) (I := I7) (by rw [n8]; decide) (GA_kd L (by decide) (by decide +kernel)) (GA_kd L (by decide) (by decide +kernel))
  have a8 : uG (nG (uG (GA lx8 L) 1 3 90) 54 2) 1 4 99 = GA lx9 L := by unfold lx9; rw [GA_app, fold_unu]
  rw [n8, a8] at e8
  have n9 : (GA lx9 L).1 = 100 := GA_n (l := lx9) L (k := 99) (by decide +kernel)
  obtain ⟨I9, e9, p1, p2⟩ := stepI (G := GA lx9 L) (x := 1) (r := 99) (y := 9) (i := 0) (I := nI0 (uG (GA lx8 L) 1 3 90) I7) (by rw [n9]; decide) (GA_kd L (by decide) (by decide +kernel)) (GA_rf L (by decide +kernel)) (GA_kd L (by decide) (by decide +kernel)) (GA_ln L (by decide) (by decide +kernel)) (GA_rf L (by decide +kernel)) (GA_kd L (by decide) (by decide +kernel)) (GA_ln L (by decide) (by decide +kernel)) (by decide)
  rw [n9, ← GA_app] at e9
  rw [n9] at p1 p2
  have n10 : (GA (lx9 ++ opI 100 99 0 9) L).1 = 109 := GA_n (l := (lx9 ++ opI 100 99 0 9)) L (k := 108) (by decide +kernel)
  obtain ⟨I10, e10, q1, q2⟩ := stepI (G := GA (lx9 ++ opI 100 99 0 9) L) (x := 1) (r := 99) (y := 9) (i := 1) (I := I9) (by rw [n10]; decide) (GA_kd L (by decide) (by decide +kernel)) (GA_rf L (by decide +kernel)) (GA_kd L (by decide) (by decide +kernel)) (GA_ln L (by decide) (by decide +kernel)) (GA_rf L (by decide +kernel)) (GA_kd L (by decide) (by decide +kernel)) (GA_ln L (by decide) (by decide +kernel)) (by decide)
  rw [n10, ← GA_app] at e10
  rw [n10] at q1 q2
  have n11 : (GA lx11 L).1 = 118 := GA_n (l := lx11) L (k := 117) (by decide +kernel)
  have hl11 : GA (lx9 ++ opI 100 99 0 9 ++ opI 109 99 1 9) L = GA lx11 L := by unfold lx11 lx10; rfl
  rw [hl11] at e10
  have e11 := C93_66 (G := GA lx11 L) (o0 := 1) (x1 := 2) (I := I10) (by rw [n11]; decide) (GA_kd L (by decide) (by decide +kernel)) (f4 := 99) (GA_rf L (by decide +kernel)) (GA_kd L (by decide) (by decide +kernel)) (GA_ln L (by decide) (by decide +kernel)) (f1 := 9) (GA_rf L (by decide +kernel)) (GA_kd L (by decide) (by decide +kernel)) (GA_ln L (by decide) (by decide +kernel))
  rw [if_pos (by decide), n11] at e11
  have a11 : uG (nG (GA lx11 L) 51 2) 1 5 118 = GA lx12 L := by unfold lx12; rw [GA_app, fold_nu]
  rw [a11] at e11
  have hl2 : GA ([(0, 6, 6, 0), (0, 3, 4, 0)] ++ opPad 3 2) L = GA lx2 L := by unfold lx2; rfl
  rw [hl2] at e1
  have eF : E 93 0 [some (.ref 1), none] [] (GA [(0, 6, 6, 0)] L) I = some (none, GA lx12 L, nI0 (GA lx11 L) I10) := by
    rw [e0, e1, K2_v, e2, e3, K2_v, e4, e5, K2_v, e6, e7, K2_v, e8, show (0 : Int32) = nI 0 from rfl, e9, e10]
    exact e11
  exact ⟨_, eF, cX_fin (G2 := uG (GA lx2 L) 1 0 2) (G8 := uG (GA lx8 L) 1 3 90) n1 (uG_n.trans n3) (uG_n.trans n8) n11 i1 i2 j1 j2 m1 m2 o1 o2 p1 p2 q1 q2⟩
