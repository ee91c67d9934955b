set_option maxRecDepth 100000 in
set_option maxHeartbeats 8000000 in
theorem st_invokestatic {l : Launch} {K : KT} {f : Nat} (hS : SIM l K f) {m pc : Nat} {als : List (Option Value)} {st : List Value} {G : Gt} {I : It} {r : Option Value} {G' : Gt} {I' : It} {p : Program} {e : Env} {s : State} {mid : MethodId} {args : Array Value} {below : List Frame} {meth : Method} {cd : Code} {H : Heap} {locs : List Loc} {R : Room} {cells slots cf sf : Nat} {Q : State → Prop} {ls : Array Slot}
    (hF : Fr K p s m mid args meth cd R) (hP : HP K G I H) (hSv : va_S (kfr K) s.heap H locs) (hL : LO K als ls) (hn : als.length = pL m) (hcz : H.size = s.heap.size + cells) (hc : cells + (G'.1 - G.1) = cf) (hsf : slots + (G'.2.1 - G.2.1) = sf) (hcf : cf ≤ R.cells) (hsf' : sf ≤ R.slots)
    (hret : ∀ (pc' : Nat) (ls' : Array Slot) (H' : Heap) (locs' : List Loc), HP K G' I' H' → va_S (kfr K) s.heap H' locs' → Ret m pc' r → W p l e R s mid args below meth cd H' locs' cf sf Q (F0 mid pc' ls' ((r.map (tr K)).toList)))
    {k : Nat} (hd : decode (pB m) pc = .ok (.invokestatic k, 3)) (hrun : rn (run f) (sdi (.invokestatic k) m pc als st G I) = some (r, G', I')) : W p l e R s mid args below meth cd H locs cells slots Q (F0 mid pc ls (st.map (tr K))) := by
  have hF0 := hF
  obtain ⟨hx, hb, hml, hown, hts, hini, hX, hXs, hfr, hwr, hb1, hb2⟩ := hF0
  have hbl : kb K < s.heap.size := Nat.lt_of_lt_of_le hb1 hb2
  have hbA : ¬ kfr K (kb K) := by show ¬ kB K ≤ kb K; omega
  have hD := wsO_D K G I
  have hA : ∀ q : Nat, s.heap.size ≤ q → kfr K q := fun q h => Nat.le_trans hb2 h
  have hLs : ls.size = pL m := by rw [← hn]; exact hL.1
  have go1 : ∀ {pc1 : Nat} {als1 : List (Option Value)} {st1 : List Value} {G1 : Gt} {I1 : It} {H1 : Heap} {locs1 : List Loc} {ls1 : Array Slot} , G1.1 = G.1 → G1.2.1 = G.2.1 → H1.size = H.size → rn (run f) (go m pc1 als1 st1 G1 I1) = some (r, G', I') → HP K G1 I1 H1 → va_S (kfr K) s.heap H1 locs1 → LO K als1 ls1 → als1.length = pL m →
      W p l e R s mid args below meth cd H1 locs1 cells slots Q (F0 mid pc1 ls1 (st1.map (tr K))) :=
    fun e1 e2 e3 h hP hS' hL hl => hS _ _ _ _ _ _ _ _ _ h hF hP hS' hL hl (by rw [e3]; exact hcz) (by rw [e1]; exact hc) (by rw [e2]; exact hsf) hcf hsf' hret
  have go0 : ∀ {pc1 : Nat} {als1 : List (Option Value)} {st1 : List Value} {ls1 : Array Slot}, rn (run f) (go m pc1 als1 st1 G I) = some (r, G', I') → LO K als1 ls1 → als1.length = pL m →
      W p l e R s mid args below meth cd H locs cells slots Q (F0 mid pc1 ls1 (st1.map (tr K))) := fun h hL hl => go1 rfl rfl rfl h hP hSv hL hl
  have fin : ∀ {pc1 : Nat} {r1 : Option Value} {rest : List Value} {G1 : Gt} {I1 : It}, run f (m, pc1, als, r1.toList ++ rest, G1, I1) = some (r, G', I') → G.1 ≤ G1.1 → G.2.1 ≤ G1.2.1 → ∀ (H1 : Heap) (locs1 : List Loc), HP K G1 I1 H1 → va_S (kfr K) s.heap H1 locs1 →
      W p l e R s mid args below meth cd H1 locs1 (cells + (G1.1 - G.1)) (slots + (G1.2.1 - G.2.1)) Q (F0 mid pc1 ls ((r1.map (tr K)).toList ++ rest.map (tr K))) := by
    intro pc1 r1 rest G1 I1 h g1 g2 H1 locs1 hP1 hS1
    have hm := run_grow _ _ _ _ _ _ _ _ _ _ h
    have e : (r1.map (tr K)).toList ++ rest.map (tr K) = (r1.toList ++ rest).map (tr K) := by cases r1 <;> rfl
    rw [e]
    have hz1 := hP.2.1
    have hz2 := hP1.2.1
    exact hS _ _ _ _ _ _ _ _ _ h hF hP1 hS1 hL hn (by omega) (by omega) (by omega) hcf hsf' hret
  simp only [sdi] at hrun
  split at hrun
  · rename_i hcp
    split at hrun
    · rename_i n' dp a1 sp a0 rest
      obtain ⟨h0, hrun⟩ := rn_gd hrun
      simp only [Bool.and_eq_true, decide_eq_true_eq] at h0
      obtain ⟨⟨⟨⟨⟨⟨⟨⟨hcat, hf1⟩, hw1⟩, hk0, hk1⟩, hsp⟩, hdp⟩, hn0⟩, hs1⟩, hs2⟩ := h0
      have hk2 : kd G a1 = 50 := by rw [← hk0]; exact hk1
      obtain ⟨q0, q1, q2⟩ := kd_spec hk1 (by decide) (by decide)
      obtain ⟨w0, w1, w2⟩ := kd_spec hk2 (by decide) (by decide)
      have he := wsO_get (K := K) (I := I) q0 q1
      rw [elt_int q2 (by decide) (by decide)] at he
      have hw := wsO_get (K := K) (I := I) w0 w1
      rw [elt_int w2 (by decide) (by decide)] at hw
      have ng : ∀ z : Int32, 0 ≤ z.toInt → ¬ z < 0 := fun z hz => by rw [Int32.lt_iff_toInt_lt, Int32.toInt_zero]; omega
      obtain ⟨c1, c2', c3⟩ := wd_copy2
      refine va_copyi hx hb (by rw [hml, hLs]) hown (hts _ (wd_copy _ hcp)) (hts _ (wd_in c1)) (hts _ (wd_in c2')) (hts _ (wd_in c3)) hX.1 hP.1 hD hSv (a0 - 1) (a1 - 1) 0 0 (ty := .int) he hw rfl rfl rfl (ng sp hsp) (ng dp hdp) (ng n' hn0) hs1 hs2 (fun _ _ => rfl) (by omega) ?_ hd (fun H1 locs1 hP1 _ hS1 => W_sz fun hz => ?_)
      · rw [cats_tr]
        have : nativeFrameWords "java/lang/System" "arraycopy" 5 = 7 := by decide
        rw [this]
        omega
      · have hP2 := HP_acp hP hk2 (by decide) (by decide) H1 (by omega) hP1
        exact go1 rfl rfl (by have := hP2.2.1; have := hP.2.1; omega) hrun hP2 hS1 hL hn
    · exact (rn_no hrun).elim
  · obtain ⟨h0, hrun⟩ := rn_gd hrun
    unfold cal at hrun
    obtain ⟨h1, hrun⟩ := rn_gd hrun
    simp only [Bool.and_eq_true, decide_eq_true_eq] at h0 h1
    obtain ⟨hmode, hlen⟩ := h0
    obtain ⟨hcat, ⟨hfr1, hwr1⟩, hal⟩ := h1
    simp only [rn] at hrun
    split at hrun
    · cases hrun
    · rename_i x hr
      obtain ⟨r1, G1, I1⟩ := x
      have gg := run_grow _ _ _ _ _ _ _ _ _ _ hr
      simp only at hrun
      have gg2 := run_grow _ _ _ _ _ _ _ _ _ _ hrun
      have hR1 : pF (mL (pC m) k).1 + 1 ≤ R.frames := Nat.le_trans hfr1 hfr
      have hR2 : 8 + (pL (mL (pC m) k).1 + 11) + pW (mL (pC m) k).1 ≤ R.locals := Nat.le_trans hwr1 hwr
      have hC1 : cells + (G1.1 - G.1) ≤ R.cells := by omega
      have hC2 : slots + (G1.2.1 - G.2.1) ≤ R.slots := by omega
      obtain ⟨pp, hlk, hm'⟩ := wd_links _ (mL_mem (c := pC m) (i := k) (by rcases hmode with z | z <;> rw [z] <;> decide))
      simp only at hm'
      obtain ⟨o1, o2, o3, o4, o5, o6, o7⟩ := meth_ok (show (mL (pC m) k).1 < 136 by omega)
      have hstk : st.map (tr K) = (((st.take (pN (mL (pC m) k).1)).reverse).map (tr K)).reverse ++ (st.drop (pN (mL (pC m) k).1)).map (tr K) := by
        rw [← List.map_reverse, List.reverse_reverse]
        conv => lhs; rw [← List.take_append_drop (pN (mL (pC m) k).1) st]
        rw [List.map_append]
      rw [hstk]
      have hasl : (((st.take (pN (mL (pC m) k).1)).reverse).map (tr K)).length = pN (mL (pC m) k).1 := by rw [List.length_map, List.length_reverse]; exact hlen
      unfold wd_link at hlk
      rcases hmode with hmode | hmode
      · rw [hmode] at hlk
        simp only [Bool.and_eq_true] at hlk
        obtain ⟨l1, l2⟩ := hlk
        refine call_done (rest := (st.drop (pN (mL (pC m) k).1)).map (tr K)) (va_runS (Ts := tw) (As := ((st.take (pN (mL (pC m) k).1)).reverse).map (tr K)) ⟨hx, hb, hml, hown, hts⟩ (met_of_sim hS hm' hr hal)
          (va_cwS (own := pO (pC m)) (index := k) (pN (mL (pC m) k).1) hts ?_ rfl rfl rfl ⟨o3, o4, o5⟩ ⟨hR1, hR2⟩)
          ⟨KU_blind K G I _, fun U hU hW => ⟨rfl, KU_at hF hP hSv U hU hW⟩⟩ rfl hasl hLs rfl (lv_room (by rw [cats_tr]; exact hcat)) hd ⟨hC1, hC2⟩) hSv (fin hrun gg.1 gg.2)
        intro w hw
        refine tw_self w ?_
        unfold va_wsS at hw
        rcases List.mem_append.mp hw with hw | hw
        · simp only [List.mem_cons, List.not_mem_nil, or_false] at hw
          rcases hw with rfl | rfl | rfl
          · exact wd_in l1
          · exact wd_in l2
          · rw [o2]; exact init_ok o7
        · rcases List.mem_cons.mp hw with rfl | hw
          · exact wd_codes _ hm'
          · exact hw
      · rw [hmode] at hlk
        simp only [Bool.and_eq_true, decide_eq_true_eq] at hlk
        obtain ⟨l1, l2⟩ := hlk
        refine call_done (rest := (st.drop (pN (mL (pC m) k).1)).map (tr K)) (va_runSN (Ts := tw) (As := ((st.take (pN (mL (pC m) k).1)).reverse).map (tr K)) ⟨hx, hb, hml, hown, hts⟩ (met_of_sim hS hm' hr hal)
          ⟨va_cnB (own := pO (pC m)) (host := "SettingsVault") (index := k) (pN (mL (pC m) k).1) hts ?_ rfl rfl rfl (hX.2.1 _ l1) (hts _ (by rw [o2]; exact init_ok o7)) ⟨o3, o4, o5⟩ ⟨hR1, hR2⟩, hts _ (wd_in l2), trivial⟩
          ⟨KU_blind K G I _, fun U hU hW => ⟨rfl, KU_at hF hP hSv U hU hW⟩⟩ rfl hasl hLs rfl (lv_room (by rw [cats_tr]; exact hcat)) hd ⟨hC1, hC2⟩) hSv (fin hrun gg.1 gg.2)
        intro w hw
        refine tw_self w ?_
        rcases List.mem_cons.mp hw with rfl | hw
        · exact wd_codes _ hm'
        · exact hw
