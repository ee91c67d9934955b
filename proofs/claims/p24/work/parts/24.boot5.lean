theorem lx_all : lx12 = opsL := by decide +kernel
/-- the memory that the law starts its walk from -/
def Bt (I : It) : Prop := (∀ j, I 1 j = 0) ∧ Zr 2 81 I ∧ dv0 I 81 ∧ dv0 I 90 ∧ dv0 I 100 ∧ dv0 I 109 ∧ (∀ j, I 118 j = 0)
theorem boot (L : Nat) (xs : Nat → Int32) : ∃ I1, E 135 0 [some (.ref 0), none, none, none, none] [] (Gi L) (Ii xs) = E 135 7 [some (.ref 0), none, none, none, none] [.ref 1] (GG (L, 0)) I1 ∧ I1 0 = xs ∧ Bt I1 := by
  have e0 := C135_0 (G := Gi L) (o0 := 0) (I := Ii xs) (Nat.le_refl 1)
  have n0 : (Gi L).1 = 1 := rfl
  have a0 : nG (Gi L) 6 6 = GA [(0, 6, 6, 0)] L := rfl
  rw [n0, a0] at e0
  obtain ⟨I4, e1, c0, c1, c2, c3, c4, c5, c6, c7⟩ := cX (L := L) (I := nI0 (Gi L) (Ii xs))
  have hGG : GA lx12 L = GG (L, 0) := by rw [lx_all]; rfl
  rw [e1, K2_v, hGG] at e0
  refine ⟨I4, e0, ?_, ⟨fun j => ?_, c2, c3, c4, c5, c6, c7⟩⟩
  · rw [c0, nI0_o _ _ _ (by rw [n0]; decide)]
    funext j
    unfold Ii
    rw [if_pos rfl]
  · rw [c1, ← n0]
    exact congrFun (nI0_new _ _) j
