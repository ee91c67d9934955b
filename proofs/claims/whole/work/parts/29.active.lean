theorem Hdf_congr {n : Nat} {f g : Nat → Int32} (h : ∀ k, k < 48 → f k = g k) : Hdf n f ↔ Hdf n g := by
  unfold Hdf
  rw [h 0 (by decide), h 1 (by decide), h 2 (by decide)]
theorem Gdf_congr {J : It} {v i : Nat} {f g : Nat → Int32} (hi : i + 2 < 48) (h : ∀ k, k < 48 → f k = g k) : Gdf J v f i ↔ Gdf J v g i := by
  unfold Gdf
  rw [h i (by omega), h (i + 1) (by omega), h (i + 2) (by omega)]
def fmd (x : Int32) : Int32 := if 0 ≤ (x ^^^ 200) then x - x / 200 * 200 else if x - x / 200 * 200 = 0 then x - x / 200 * 200 else x - x / 200 * 200 + 200
theorem fmd_p : ∀ k, k < 200 → fmd (nI k) = (nI k + 200) - (nI k + 200) / 200 * 200 := by decide +kernel
theorem fmd_m : ∀ k, k < 200 → fmd (0 - nI k) = (0 - nI k + 200) - (0 - nI k + 200) / 200 * 200 := by decide +kernel
theorem fmd_d {s t : Nat} (hs : s < 200) (ht : t < 200) : fmd (nI s - nI t) = (nI s - nI t + 200) - (nI s - nI t + 200) / 200 * 200 := by
  by_cases h : t ≤ s
  · rw [nI_sub h]; exact fmd_p _ (by omega)
  · have : nI s - nI t = 0 - nI (t - s) := by
      have e : nI (t - s) = nI t - nI s := (nI_sub (by omega)).symm
      rw [e, Int32.zero_sub, Int32.neg_sub]
    rw [this]; exact fmd_m _ (by omega)
theorem S181 {L : Nat} {x : Int32} {I : It} : E 181 0 [some (.int x), some (.int 200), none] [] (GG L) I = some (some (.int (fmd x)), GG L, I) := by
  rw [B181_0, ck_of (by decide)]
  unfold fmd
  by_cases h : 0 ≤ (x ^^^ 200)
  · rw [if_pos h, if_pos h]
  · rw [if_neg h, if_neg h]
    by_cases h1 : x - x / 200 * 200 = 0
    · rw [if_pos h1, if_pos h1]
    · rw [if_neg h1, if_neg h1]
/-- which page is the active one, on both sides -/
theorem W_act {L n d : Nat} {I J : It} (hR : Ry n I J) (hd : kd (GG L) d = 0) (k1 : kd (GG L) (d + 1) = 4) (k3 : kd (GG L) (d + 3) = 4) (hc : Rc I d (J 120)) :
    ∃ r, E 18 0 [some (.ref d), none, none, none] [] (GG L) I = some (some (.int r), GG L, I) ∧ E 143 0 [some (.ref 119), none] [] (GG L) J = some (some (.int r), GG L, J) ∧ (r = -6 ∨ ∃ p, p < 2 ∧ r = nI p ∧ Hdf n (fun k => J 120 (21 + 48 * p + k))) := by
  obtain ⟨-, -, -, -, -, c6⟩ := hc
  have q0 := (c6 0 (by decide)).2.2
  have q1 := (c6 1 (by decide)).2.2
  have e0 : Hdf n (I (d + 1 + 1)) ↔ Hdf n (fun k => J 120 (21 + 48 * 0 + k)) := Hdf_congr (fun k hk => (q0 k hk).1)
  have e1 : Hdf n (I (d + 3 + 1)) ↔ Hdf n (fun k => J 120 (21 + 48 * 1 + k)) := Hdf_congr (fun k hk => (q1 k hk).1)
  have a0 := S77 (L := L) (o := d + 1) hR k1 (fun k hk => (q0 k hk).1 ▸ (q0 k hk).2)
  have a1 := S77 (L := L) (o := d + 3) hR k3 (fun k hk => (q1 k hk).1 ▸ (q1 k hk).2)
  rw [tI_iff e0] at a0
  rw [tI_iff e1] at a1
  have b0 : E 139 0 [some (.ref 119), some (.int 0), none, none] [] (GG L) J = _ := S139 (L := L) (p := 0) hR (by decide)
  have b1 : E 139 0 [some (.ref 119), some (.int 1), none, none] [] (GG L) J = _ := S139 (L := L) (p := 1) hR (by decide)
  by_cases h0 : Hdf n (fun k => J 120 (21 + 48 * 0 + k))
  · by_cases h1 : Hdf n (fun k => J 120 (21 + 48 * 1 + k))
    · rw [tI_t h0] at a0 b0
      rw [tI_t h1] at a1 b1
      obtain ⟨v, s, -, hs, -, w0, -⟩ := id h0
      obtain ⟨v', t, -, ht, -, w1, -⟩ := id h1
      have x0 : I (d + 1 + 1) 1 = nI s := (q0 1 (by decide)).1.trans w0
      have x1 : I (d + 3 + 1) 1 = nI t := (q1 1 (by decide)).1.trans w1
      have g0 : E 131 0 [some (.ref 119), some (.int 0), some (.int 1)] [] (GG L) J = some (some (.int (J 120 (21 + 48 * 0 + 1))), GG L, J) := S131 (p := 0) (i := 1) (by decide) (by decide)
      have g1 : E 131 0 [some (.ref 119), some (.int 1), some (.int 1)] [] (GG L) J = some (some (.int (J 120 (21 + 48 * 1 + 1))), GG L, J) := S131 (p := 1) (i := 1) (by decide) (by decide)
      have w0' : J 120 (21 + 48 * 0 + 1) = nI s := w0
      have w1' : J 120 (21 + 48 * 1 + 1) = nI t := w1
      rw [w0'] at g0
      rw [w1'] at g1
      refine ⟨if 1 ≤ fmd (nI t - nI s) ∧ fmd (nI t - nI s) ≤ 100 then 1 else 0, ?_, ?_, Or.inr ?_⟩
      · rw [B18_0 hd, a0, K2_i, B18_11 hd, a1, K2_i, B18_23 hd, if_neg (by decide), if_neg (by decide), S76 k3, K2_i, B18_39 hd, S76 k1, K2_i, B18_46, x0, x1, S181, K2_i, B18_53 rfl]
        obtain ⟨y, hy⟩ : ∃ y, fmd (nI t - nI s) = y := ⟨_, rfl⟩
        rw [hy]
        by_cases z1 : y < 1
        · rw [if_pos z1, if_neg (fun z => Int32.not_le.mpr z1 z.1)]
        · rw [if_neg z1]
          by_cases z2 : 100 < y
          · rw [if_pos z2, if_neg (fun z => Int32.not_le.mpr z2 z.2)]
          · rw [if_neg z2, if_pos ⟨Int32.not_lt.mp z1, Int32.not_lt.mp z2⟩]
      · rw [B143_0, b0, K2_i, B143_5, if_neg (by decide), b1, K2_i, B143_13, if_neg (by decide), g1, K2_i, B143_22, g0, K2_i, B143_28 rfl, S121, K2_i, B143_45, ← fmd_d ht hs]
        by_cases z : 1 ≤ fmd (nI t - nI s) ∧ fmd (nI t - nI s) ≤ 100
        · rw [tI_t z, if_neg (by decide), if_pos z]
        · rw [tI_f z, if_pos rfl, if_neg z]
      · by_cases z : 1 ≤ fmd (nI t - nI s) ∧ fmd (nI t - nI s) ≤ 100
        · rw [if_pos z]; exact ⟨1, by decide, rfl, h1⟩
        · rw [if_neg z]; exact ⟨0, by decide, rfl, h0⟩
    · rw [tI_t h0] at a0 b0
      rw [tI_f h1] at a1 b1
      refine ⟨0, ?_, ?_, Or.inr ⟨0, by decide, rfl, h0⟩⟩
      · rw [B18_0 hd, a0, K2_i, B18_11 hd, a1, K2_i, B18_23 hd, if_neg (by decide), if_pos rfl, B18_71, if_pos rfl, if_neg (by decide)]
      · rw [B143_0, b0, K2_i, B143_5, if_neg (by decide), b1, K2_i, B143_13, if_pos rfl, b0, K2_i, B143_59, if_neg (by decide)]
  · by_cases h1 : Hdf n (fun k => J 120 (21 + 48 * 1 + k))
    · rw [tI_f h0] at a0 b0
      rw [tI_t h1] at a1 b1
      refine ⟨1, ?_, ?_, Or.inr ⟨1, by decide, rfl, h1⟩⟩
      · rw [B18_0 hd, a0, K2_i, B18_11 hd, a1, K2_i, B18_23 hd, if_pos rfl, B18_71, if_neg (by decide)]
      · rw [B143_0, b0, K2_i, B143_5, if_pos rfl, b0, K2_i, B143_59, if_pos rfl, b1, K2_i, B143_71, if_neg (by decide)]
    · rw [tI_f h0] at a0 b0
      rw [tI_f h1] at a1 b1
      refine ⟨-6, ?_, ?_, Or.inl rfl⟩
      · rw [B18_0 hd, a0, K2_i, B18_11 hd, a1, K2_i, B18_23 hd, if_pos rfl, B18_71, if_pos rfl, if_pos rfl]
      · rw [B143_0, b0, K2_i, B143_5, if_pos rfl, b0, K2_i, B143_59, if_pos rfl, b1, K2_i, B143_71, if_pos rfl]
