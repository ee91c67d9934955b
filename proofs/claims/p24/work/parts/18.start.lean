/-! ===== the law's walk out of a run of the small machine ===== -/
def Ii (xs : Nat → Int32) : It := fun o j => if o = 0 then xs j else 0
theorem start_of_ev {p : Program} {e : Env} {s : State} {m : MethodId} {below : List Frame} {meth : Method} {c : Code} (l : Launch) {b L : Nat} {xs : Nat → Int32} (C0 : lw_At p s m meth c b L xs)
    {G' : Gt} {I' : It} (hev : E 135 0 [some (.ref 0), none, none, none, none] [] (Gi L) (Ii xs) = some (some (.int 1), G', I')) (hg1 : G'.1 ≤ 600001) (hg2 : G'.2.1 ≤ 7302250) :
    W p l e room_1 s m #[Value.ref b] below meth c s.heap [] 0 0 (lw_Z below #[Value.ref b] s) (entryFrame m ([Value.ref b] : List Value).toArray 5) := by
  obtain ⟨hx, hb, hr, hml, hown, hts, hX, hbl, hlocks, hgv⟩ := id C0
  obtain ⟨c0, iS0, hKn0⟩ := u_known (C := RX0) (T := TX0) (N := 14) (n := 14) hts (fun w h => tw_sub w (cl_lays (c := 0) (by decide) w h)) (hts _ (tw_sub _ (cl_inst (c := 0) (by decide)).1))
  obtain ⟨c1, iS1, hKn1⟩ := u_known (C := RX1) (T := TX1) (N := 5) (n := 5) hts (fun w h => tw_sub w (cl_lays (c := 1) (by decide) w h)) (hts _ (tw_sub _ (cl_inst (c := 1) (by decide)).1))
  obtain ⟨c2, iS2, hKn2⟩ := u_known (C := RX2) (T := TX2) (N := 3) (n := 3) hts (fun w h => tw_sub w (cl_lays (c := 2) (by decide) w h)) (hts _ (tw_sub _ (cl_inst (c := 2) (by decide)).1))
  obtain ⟨c3, iS3, hKn3⟩ := u_known (C := RX3) (T := TX3) (N := 4) (n := 4) hts (fun w h => tw_sub w (cl_lays (c := 3) (by decide) w h)) (hts _ (tw_sub _ (cl_inst (c := 3) (by decide)).1))
  obtain ⟨c4, iS4, hKn4⟩ := u_known (C := RX4) (T := TX4) (N := 3) (n := 3) hts (fun w h => tw_sub w (cl_lays (c := 4) (by decide) w h)) (hts _ (tw_sub _ (cl_inst (c := 4) (by decide)).1))
  obtain ⟨c5, iS5, hKn5⟩ := u_known (C := RX5) (T := TX5) (N := 5) (n := 5) hts (fun w h => tw_sub w (cl_lays (c := 5) (by decide) w h)) (hts _ (tw_sub _ (cl_inst (c := 5) (by decide)).1))
  obtain ⟨c6, iS6, hKn6⟩ := u_known (C := RX6) (T := TX6) (N := 6) (n := 6) hts (fun w h => tw_sub w (cl_lays (c := 6) (by decide) w h)) (hts _ (tw_sub _ (cl_inst (c := 6) (by decide)).1))
  obtain ⟨dC, dI, hKc⟩ : ∃ (dC : Nat → ClassId) (dI : Nat → Nat → Nat), ∀ (k : Nat) (q : vw_C), vwCl[k]? = some q → u_Kn s q.1 q.2.1 q.2.2 (dC k) (dI k) := by
    refine ⟨fun k => [c0, c1, c2, c3, c4, c5, c6].getD k 0, fun k => [iS0, iS1, iS2, iS3, iS4, iS5, iS6].getD k (fun _ => 0), ?_⟩
    intro k q hq
    match k, hq with
    | 0, hq => cases hq; exact hKn0
    | 1, hq => cases hq; exact hKn1
    | 2, hq => cases hq; exact hKn2
    | 3, hq => cases hq; exact hKn3
    | 4, hq => cases hq; exact hKn4
    | 5, hq => cases hq; exact hKn5
    | 6, hq => cases hq; exact hKn6
    | k + 7, hq => simp [vwCl] at hq
  have prim : ∀ (ty : FieldType), (∀ z, s.vm.findClass ("[" ++ ty.toString) = some z → va_RA s z ty) → (Cond.arrayClass ty).before #[Value.ref b] s = true → ∃ z, ArrOfT s z ty ∧ va_RA s z ty := by
    intro ty hra h
    obtain ⟨z, k, comp, h1, h2, h3⟩ := Cond.arrayClass_spec h
    exact ⟨z, fun n f => ⟨(fun k h => by cases h), k, h2, comp, h3⟩, hra z h1⟩
  have refs : ∀ (C : String), va_AO C s → ∃ z, ArrOfT s z (.object C) ∧ va_RA s z (.object C) := by
    intro C h
    obtain ⟨comp, z, k, h1, h2, h3, h4, h5⟩ := Cond.arrayOver_spec h
    exact ⟨z, fun n f => ⟨(fun k h => by cases h), k, h3, comp, h4⟩, k, comp, h3, h4, h1, h5⟩
  obtain ⟨r1, r2, r3, r4, r5⟩ := wd_arr
  have ao1 : va_AO RX1 s := va_AO.of (hts _ (List.mem_of_getElem? r4))
  have ao0 : va_AO RX0 s := va_AO.of (hts _ (List.mem_of_getElem? r5))
  obtain ⟨z0, y0⟩ := prim .int (fun z h => h) (hts _ (tw_sub _ (wd_in r1)))
  obtain ⟨z1, y1⟩ := prim .boolean (fun z h => h) (hts _ (tw_sub _ (wd_in r2)))
  obtain ⟨z2, y2⟩ := prim .char (fun z h => h) (hts _ (tw_sub _ (wd_in r3)))
  obtain ⟨z3, y3⟩ := refs RX1 ao1
  obtain ⟨z4, y4⟩ := refs RX0 ao0
  obtain ⟨K, hKD, hKA, hKb, hKB, hKL, hKX⟩ : ∃ K : KT, kD K = (dC, dI) ∧ kA K = (fun k => [z0, z1, z2, z3, z4].getD k 0) ∧ kb K = b ∧ kB K = s.heap.size ∧ kLn K = L ∧ kX K = xs := ⟨((dC, dI), fun k => [z0, z1, z2, z3, z4].getD k 0, b, s.heap.size, L, xs), rfl, rfl, rfl, rfl, rfl, rfl⟩
  have hXN : XN K s := by
    refine ⟨⟨by rw [hKD]; exact hKc, ?_⟩, fun q hq => ?_, ao1, ao0⟩
    · intro k q hk
      unfold tysK at hk
      rw [hKA] at hk
      match k, hk with
      | 0, hk => cases hk; exact y0
      | 1, hk => cases hk; exact y1
      | 2, hk => cases hk; exact y2
      | 3, hk => cases hk; exact y3
      | 4, hk => cases hk; exact y4
      | k + 5, hk => simp at hk
    · have h1 := List.all_eq_true.mp wd_nests q hq
      simp only [decide_eq_true_eq] at h1
      exact va_Nw.of rfl (hts _ h1)
  have hF : Fr K p s 135 m #[Value.ref b] meth c room_1 := by
    refine ⟨hx, hb, hml, hown, fun w hw => hts w (tw_sub w hw), fun h => absurd h (by decide), hXN, ?_, by decide, by decide, ?_, ?_⟩
    · rw [hKb, hKL, hKX]; exact hX
    · rw [hKb, hKB]; exact hbl
    · rw [hKB]; exact Nat.le_refl _
  have hP : HP K (Gi L) (Ii xs) s.heap := by
    refine ⟨fun k q h => ?_, ?_, Nat.le_refl _, ?_, ?_⟩
    · simp [wsO, Gi] at h
    · rw [hKB]; rfl
    · rw [hKL]; rfl
    · rw [hKX]; funext j; rfl
  obtain ⟨f, hf⟩ := ev_iff.mp hev
  have hlo := LO_entry K [.ref 0] (n := 5) (by decide)
  have e0 : ([Value.ref 0] : List Value).map (tr K) = [.ref b] := by
    show [Value.ref (ad K 0)] = _
    unfold ad
    rw [if_pos rfl, hKb]
  rw [e0] at hlo
  rw [lg_entry_eq]
  refine sim_all l K f 135 0 [some (.ref 0), none, none, none, none] [] (Gi L) (Ii xs) (some (.int 1)) G' I' hf (cells := 0) (slots := 0) hF hP va_S.rf hlo rfl rfl rfl rfl ?_ ?_ ?_
  · show 0 + (G'.1 - 1) ≤ 600000
    omega
  · show 0 + (G'.2.1 - 0) ≤ 7302250
    omega
  · intro pc' ls' H' locs' hP' hS' hret
    refine va_forget (fun q hq => by have := hS'.2.2 q hq; rw [← hKB]; exact this) ?_
    refine W.widen (k := 600000) (n := 7302250) (by show 0 + (G'.1 - 1) ≤ 600000; omega) (by show 0 + (G'.2.1 - 0) ≤ 7302250; omega) ?_
    exact lw_ret hx hb hr hlocks hret.1
