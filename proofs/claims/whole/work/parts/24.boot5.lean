def lx13 : List Op4 := lx12 ++ [(0, 7, 28, 0)]
theorem lx_all : lx13 ++ opM 119 120 = opsL := by decide +kernel
/-- the memory that the law starts its walk from -/
def Bt (I : It) : Prop := (∀ j, I 1 j = 0) ∧ Zr 2 81 I ∧ dv0 I 81 ∧ dv0 I 90 ∧ dv0 I 100 ∧ dv0 I 109 ∧ (∀ j, I 118 j = 0) ∧ (∀ j, I 119 j = 0) ∧ (∀ j, I 120 j = if j = 0 then 1 else if j < 5 then -6 else if 21 ≤ j ∧ j < 117 then -6 else 0) ∧ Zr 121 136 I
theorem cBt {I5 I6 : It} (l1 : ∀ j, I5 1 j = 0) (l2 : Zr 2 81 I5) (l3 : dv0 I5 81) (l4 : dv0 I5 90) (l5 : dv0 I5 100) (l6 : dv0 I5 109) (l7 : ∀ j, I5 118 j = 0) (l8 : ∀ j, I5 119 j = 0)
    (m1 : ∀ a, a ≠ 120 → I6 a = uI (uI (uI (uI (uI (zi 120 16 I5) 120 0 1) 120 1 (-6)) 120 2 (-6)) 120 3 (-6)) 120 4 (-6) a)
    (m2 : ∀ j, I6 120 j = if 21 + 0 ≤ j ∧ j < 117 then -6 else uI (uI (uI (uI (uI (zi 120 16 I5) 120 0 1) 120 1 (-6)) 120 2 (-6)) 120 3 (-6)) 120 4 (-6) 120 j) : I6 0 = I5 0 ∧ Bt I6 := by
  have z : ∀ a, a ≠ 120 → I6 a = zi 120 16 I5 a := fun a h => by rw [m1 a h, uI_o _ _ _ _ _ h, uI_o _ _ _ _ _ h, uI_o _ _ _ _ _ h, uI_o _ _ _ _ _ h, uI_o _ _ _ _ _ h]
  have low : ∀ a, a < 120 → I6 a = I5 a := fun a h => by
    rw [z a (by omega)]
    funext j
    unfold zi
    rw [if_neg (by omega)]
  refine ⟨low 0 (by decide), fun j => ?_, fun a j h1 h2 => ?_, ?_, ?_, ?_, ?_, fun j => ?_, fun j => ?_, fun j => ?_, fun a j h1 h2 => ?_⟩
  · rw [low 1 (by decide)]; exact l1 j
  · rw [low a (by omega)]; exact l2 a j h1 h2
  · exact dv0_kept l3 (fun a h1 h2 => low a (by omega))
  · exact dv0_kept l4 (fun a h1 h2 => low a (by omega))
  · exact dv0_kept l5 (fun a h1 h2 => low a (by omega))
  · exact dv0_kept l6 (fun a h1 h2 => low a (by omega))
  · rw [low 118 (by decide)]; exact l7 j
  · rw [low 119 (by decide)]; exact l8 j
  · rw [m2 j]
    simp only [uI, zi, if_true]
    by_cases h : 21 ≤ j ∧ j < 117
    · rw [if_pos (by omega), if_neg (by omega), if_neg (by omega), if_pos h]
    · rw [if_neg (by omega)]
      by_cases h0 : j = 0
      · subst h0; rfl
      · by_cases h5 : j < 5
        · rw [if_neg h0, if_pos h5]
          have : j = 1 ∨ j = 2 ∨ j = 3 ∨ j = 4 := by omega
          rcases this with rfl | rfl | rfl | rfl <;> rfl
        · rw [if_neg (by omega), if_neg (by omega), if_neg (by omega), if_neg (by omega), if_neg h0, if_neg h0, if_neg h5, if_neg h]
          rfl
  · rw [z a (by omega)]
    unfold zi
    rw [if_pos (by omega)]
set_option maxHeartbeats 4000000 in
theorem boot (L : Nat) (xs : Nat → Int32) : ∃ I1, E 183 0 [some (.ref 0), none, none, none] [] (Gi L) (Ii xs) = E 183 18 [some (.ref 0), some (.ref 1), some (.ref 119), some (.int 0)] [] (GG L) I1 ∧ I1 0 = xs ∧ Bt I1 := by
  have e0 := C183_0 (G := Gi L) (o0 := 0) (I := Ii xs) (Nat.le_refl 1)
  have n0 : (Gi L).1 = 1 := rfl
  have a0 : nG (Gi L) 6 6 = GA [(0, 6, 6, 0)] L := rfl
  rw [n0, a0] at e0
  obtain ⟨I4, e1, c0, c1, c2, c3, c4, c5, c6, c7⟩ := cX (L := L) (I := nI0 (Gi L) (Ii xs))
  rw [e1, K2_v] at e0
  have n12 : (GA lx12 L).1 = 119 := GA_n (l := lx12) L (k := 118) (by decide +kernel)
  have e2 := C183_7 (G := GA lx12 L) (o0 := 0) (u1 := none) (u2 := none) (u3 := none) (p0 := 1) (I := I4) (by rw [n12]; decide) (GA_kd L (by decide) (by decide +kernel))
  have a2 : nG (GA lx12 L) 7 28 = GA lx13 L := by unfold lx13; rw [GA_app, fold_new]
  rw [n12, a2] at e2
  have n13 : (GA lx13 L).1 = 120 := GA_n (l := lx13) L (k := 119) (by decide +kernel)
  obtain ⟨I5, hI5⟩ : ∃ I5, nI0 (GA lx12 L) I4 = I5 := ⟨_, rfl⟩
  rw [hI5] at e2
  have e3 := cM0 (G := GA lx13 L) (o := 119) (I := I5) (by rw [n13]; decide) (GA_kd L (by decide) (by decide +kernel))
  rw [n13, ← GA_app, lx_all] at e3
  have hGG : GA opsL L = GG L := rfl
  rw [hGG] at e3
  obtain ⟨I6, e4, m1, m2⟩ := cM1 96 0 (G := GG L) (o := 119) (f := 120) (I := uI (uI (uI (uI (uI (zi 120 16 I5) 120 0 1) 120 1 (-6)) 120 2 (-6)) 120 3 (-6)) 120 4 (-6)) rfl (by rw [← hGG, GA_n (l := opsL) L (k := 135) (by decide +kernel)]; decide) (by rw [← hGG]; exact GA_kd L (by decide) (by decide +kernel)) (by rw [← hGG]; exact GA_rf L (by decide +kernel)) (by rw [← hGG]; exact GA_kd L (by decide) (by decide +kernel)) (by rw [← hGG]; exact GA_ln L (by decide) (by decide +kernel))
  rw [e2, e3, show (0 : Int32) = nI 0 from rfl, e4, K2_v] at e0
  have e5 := C183_15 (G := GG L) (o0 := 0) (o1 := 1) (u2 := none) (u3 := none) (p0 := 119) (I := I6) (by rw [← hGG, GA_n (l := opsL) L (k := 135) (by decide +kernel)]; decide) (by rw [← hGG]; exact GA_kd L (by decide) (by decide +kernel)) (by rw [← hGG]; exact GA_kd L (by decide) (by decide +kernel))
  rw [e5] at e0
  have low : ∀ a, a < 119 → I5 a = I4 a := fun a ha => by rw [← hI5]; exact nI0_o _ _ _ (by rw [n12]; omega)
  have h119 : ∀ j, I5 119 j = 0 := fun j => by rw [← hI5, ← n12]; exact congrFun (nI0_new _ _) j
  have i1 : I4 1 = fun _ => 0 := by rw [c1, ← n0]; exact nI0_new _ _
  have i0 : I4 0 = xs := by
    rw [c0, nI0_o _ _ _ (by rw [n0]; decide)]
    funext j
    unfold Ii
    rw [if_pos rfl]
  obtain ⟨r0, rB⟩ := cBt (I5 := I5) (I6 := I6) (fun j => by rw [low 1 (by decide), i1]) (fun a j h1 h2 => by rw [low a (by omega)]; exact c2 a j h1 h2) (dv0_kept c3 (fun a h1 h2 => low a (by omega))) (dv0_kept c4 (fun a h1 h2 => low a (by omega))) (dv0_kept c5 (fun a h1 h2 => low a (by omega))) (dv0_kept c6 (fun a h1 h2 => low a (by omega))) (fun j => by rw [low 118 (by decide)]; exact c7 j) h119 m1 m2
  exact ⟨I6, e0, by rw [r0, low 0 (by decide), i0], rB⟩
