theorem hn_of {a n : Nat} {b : Bool} (h : (decide (a = n) || b) = true) (hb : b = false) : a = n := by
  rw [hb, Bool.or_false] at h
  exact of_decide_eq_true h
set_option maxRecDepth 100000 in
set_option maxHeartbeats 8000000 in
theorem sim_step {l : Launch} {K : KT} {f : Nat} (hS : SIM l K f) : SIM l K (f + 1) := by
  intro m pc als st G I r G' I' hrun p e s mid args below meth cd H locs R cells slots cf sf Q ls hF hP hSv hL hn hcz hc hsf hcf hsf' hret
  have hF0 := hF
  obtain ⟨hx, hb, hml, hown, hts, hini, hX, hXs, hfr, hwr, hb1, hb2⟩ := hF0
  have hbl : kb K < s.heap.size := Nat.lt_of_lt_of_le hb1 hb2
  have hbA : ¬ kfr K (kb K) := by show ¬ kB K ≤ kb K; omega
  have hD := wsO_D K G I
  have hA : ∀ q : Nat, s.heap.size ≤ q → kfr K q := fun q h => Nat.le_trans hb2 h
  have hLs : ls.size = pL m := by rw [← hn]; exact hL.1
  rw [run] at hrun
  unfold sd at hrun
  simp only at hrun
  cases hd : decode (pB m) pc with
  | error x => rw [hd] at hrun; exact (rn_no hrun).elim
  | ok q =>
    obtain ⟨i, n⟩ := q
    rw [hd] at hrun
    simp only at hrun
    have hr0 := rn_gd hrun
    clear hrun
    obtain ⟨hg, hrun⟩ := hr0
    have go1 : ∀ {pc1 : Nat} {als1 : List (Option Value)} {st1 : List Value} {G1 : Gt} {I1 : It} {H1 : Heap} {locs1 : List Loc} {ls1 : Array Slot} , G1.1 = G.1 → G1.2.1 = G.2.1 → H1.size = H.size → rn (run f) (go m pc1 als1 st1 G1 I1) = some (r, G', I') → HP K G1 I1 H1 → va_S (kfr K) s.heap H1 locs1 → LO K als1 ls1 → als1.length = pL m →
        W p l e R s mid args below meth cd H1 locs1 cells slots Q (F0 mid pc1 ls1 (st1.map (tr K))) :=
      fun e1 e2 e3 h hP hS' hL hl => hS _ _ _ _ _ _ _ _ _ h hF hP hS' hL hl (by rw [e3]; exact hcz) (by rw [e1]; exact hc) (by rw [e2]; exact hsf) hcf hsf' hret
    have go0 : ∀ {pc1 : Nat} {als1 : List (Option Value)} {st1 : List Value} {ls1 : Array Slot}, rn (run f) (go m pc1 als1 st1 G I) = some (r, G', I') → LO K als1 ls1 → als1.length = pL m →
        W p l e R s mid args below meth cd H locs cells slots Q (F0 mid pc1 ls1 (st1.map (tr K))) := fun h hL hl => go1 rfl rfl rfl h hP hSv hL hl
    have goG : ∀ {kk len pc1 : Nat} {st1 : List Value} {H1 : Heap} {locs1 : List Loc}, rn (run f) (go m pc1 als st1 (nG G kk len) (nI0 G I)) = some (r, G', I') → HP K (nG G kk len) (nI0 G I) H1 → va_S (kfr K) s.heap H1 locs1 →
        W p l e R s mid args below meth cd H1 locs1 (cells + 1) (slots + len) Q (F0 mid pc1 ls (st1.map (tr K))) := by
      intro kk len pc1 st1 H1 locs1 h hP1 hS1
      have hm := run_grow _ _ _ _ _ _ _ _ _ _ h
      have h1 : (nG G kk len).1 = G.1 + 1 := rfl
      have h2 : (nG G kk len).2.1 = G.2.1 + len := rfl
      rw [h1, h2] at hm
      have hz1 := hP.2.1
      have hz2 := hP1.2.1
      refine hS _ _ _ _ _ _ _ _ _ h hF hP1 hS1 hL hn ?_ ?_ ?_ hcf hsf' hret
      · rw [h1] at hz2; omega
      · rw [h1]; omega
      · rw [h2]; omega
    have fin : ∀ {pc1 : Nat} {r1 : Option Value} {rest : List Value} {G1 : Gt} {I1 : It}, run f (m, pc1, als, r1.toList ++ rest, G1, I1) = some (r, G', I') → G.1 ≤ G1.1 → G.2.1 ≤ G1.2.1 → ∀ (H1 : Heap) (locs1 : List Loc), HP K G1 I1 H1 → va_S (kfr K) s.heap H1 locs1 →
        W p l e R s mid args below meth cd H1 locs1 (cells + (G1.1 - G.1)) (slots + (G1.2.1 - G.2.1)) Q (F0 mid pc1 ls ((r1.map (tr K)).toList ++ rest.map (tr K))) := by
      intro pc1 r1 rest G1 I1 h g1 g2 H1 locs1 hP1 hS1
      have hm := run_grow _ _ _ _ _ _ _ _ _ _ h
      have e : (r1.map (tr K)).toList ++ rest.map (tr K) = (r1.toList ++ rest).map (tr K) := by cases r1 <;> rfl
      rw [e]
      have hz1 := hP.2.1
      have hz2 := hP1.2.1
      exact hS _ _ _ _ _ _ _ _ _ h hF hP1 hS1 hL hn (by omega) (by omega) (by omega) hcf hsf' hret
    cases i with
    | iconst n' =>
      have hn1 : 1 = n := hn_of hg rfl
      subst hn1
      exact lv_iconst hx hb hd rfl (go0 hrun hL hn)
    | bipush n' =>
      have hn1 : 2 = n := hn_of hg rfl
      subst hn1
      exact lv_bipush hx hb hd rfl (go0 hrun hL hn)
    | sipush n' =>
      have hn1 : 3 = n := hn_of hg rfl
      subst hn1
      exact lv_sipush hx hb hd rfl (go0 hrun hL hn)
    | lconst n' =>
      have hn1 : 1 = n := hn_of hg rfl
      subst hn1
      exact lv_lconst hx hb hd rfl (go0 hrun hL hn)
    | ldc2_w k =>
      have hn1 : 3 = n := hn_of hg rfl
      subst hn1
      simp only [sdi] at hrun
      split at hrun
      · rename_i v hv
        exact lv_ldc2 hx hb hown (hts _ (wd_long _ (lL_mem hv))) hd (go0 hrun hL hn)
      · exact (rn_no hrun).elim
    | ldc k =>
      have hn1 : 2 = n := hn_of hg rfl
      subst hn1
      simp only [sdi] at hrun
      split at hrun
      · rename_i v hv
        exact lv_ldc hx hb hown (hts _ (wd_cst _ (cL_mem hv))) hd (go0 hrun hL hn)
      · exact (rn_no hrun).elim
    | ishr =>
      have hn1 : 1 = n := hn_of hg rfl
      subst hn1
      simp only [sdi] at hrun
      split at hrun
      · exact lv_ishr hx hb hd (go0 hrun hL hn)
      · exact (rn_no hrun).elim
    | iload_n k =>
      have hn1 : 1 = n := hn_of hg rfl
      subst hn1
      simp only [sdi, ldI] at hrun
      split at hrun
      · rename_i x hk
        exact lv_iload_n hx hb hd rfl (LO_at hL hk) (go0 hrun hL hn)
      · exact (rn_no hrun).elim
    | iload k =>
      have hn1 : 2 = n := hn_of hg rfl
      subst hn1
      simp only [sdi, ldI] at hrun
      split at hrun
      · rename_i x hk
        exact lv_iload hx hb hd (LO_at hL hk) (go0 hrun hL hn)
      · exact (rn_no hrun).elim
    | lload_n k =>
      have hn1 : 1 = n := hn_of hg rfl
      subst hn1
      simp only [sdi, ldJ] at hrun
      split at hrun
      · rename_i x hk
        exact lv_lload_n hx hb hd rfl (LO_at hL hk) (go0 hrun hL hn)
      · exact (rn_no hrun).elim
    | lload k =>
      have hn1 : 2 = n := hn_of hg rfl
      subst hn1
      simp only [sdi, ldJ] at hrun
      split at hrun
      · rename_i x hk
        exact lv_lload hx hb hd (LO_at hL hk) (go0 hrun hL hn)
      · exact (rn_no hrun).elim
    | aload_n k =>
      have hn1 : 1 = n := hn_of hg rfl
      subst hn1
      simp only [sdi, ldA] at hrun
      split at hrun
      · rename_i x hk
        exact lv_aload_n hx hb hd rfl (LO_at hL hk) (go0 hrun hL hn)
      · exact (rn_no hrun).elim
    | aload k =>
      have hn1 : 2 = n := hn_of hg rfl
      subst hn1
      simp only [sdi, ldA] at hrun
      split at hrun
      · rename_i x hk
        exact lv_aload hx hb hd (LO_at hL hk) (go0 hrun hL hn)
      · exact (rn_no hrun).elim
    | istore_n k =>
      have hn1 : 1 = n := hn_of hg rfl
      subst hn1
      simp only [sdi, stI] at hrun
      split at hrun
      · split at hrun
        · rename_i ls' hs
          exact lv_istore_n hx hb hd rfl hL (sL_len hs).1 rfl (fun ls2 h2 => go0 hrun (LO_st hs h2) ((sL_len hs).2.trans hn))
        · exact (rn_no hrun).elim
      · exact (rn_no hrun).elim
    | istore k =>
      have hn1 : 2 = n := hn_of hg rfl
      subst hn1
      simp only [sdi, stI] at hrun
      split at hrun
      · split at hrun
        · rename_i ls' hs
          exact lv_istore hx hb hd hL (sL_len hs).1 rfl (fun ls2 h2 => go0 hrun (LO_st hs h2) ((sL_len hs).2.trans hn))
        · exact (rn_no hrun).elim
      · exact (rn_no hrun).elim
    | astore_n k =>
      have hn1 : 1 = n := hn_of hg rfl
      subst hn1
      simp only [sdi, stA] at hrun
      split at hrun
      · split at hrun
        · rename_i ls' hs
          exact lv_astore_n hx hb hd rfl hL (sL_len hs).1 rfl (fun ls2 h2 => go0 hrun (LO_st hs h2) ((sL_len hs).2.trans hn))
        · exact (rn_no hrun).elim
      · exact (rn_no hrun).elim
    | astore k =>
      have hn1 : 2 = n := hn_of hg rfl
      subst hn1
      simp only [sdi, stA] at hrun
      split at hrun
      · split at hrun
        · rename_i ls' hs
          exact lv_astore hx hb hd hL (sL_len hs).1 rfl (fun ls2 h2 => go0 hrun (LO_st hs h2) ((sL_len hs).2.trans hn))
        · exact (rn_no hrun).elim
      · exact (rn_no hrun).elim
    | lstore_n k =>
      have hn1 : 1 = n := hn_of hg rfl
      subst hn1
      simp only [sdi, stJ] at hrun
      split at hrun
      · split at hrun
        · rename_i ls' hs
          exact lv_lstore_n hx hb hd rfl hL (sL2_len hs).1 rfl (fun ls2 h2 => go0 hrun (LO_st2 hs h2) ((sL2_len hs).2.trans hn))
        · exact (rn_no hrun).elim
      · exact (rn_no hrun).elim
    | lstore k =>
      have hn1 : 2 = n := hn_of hg rfl
      subst hn1
      simp only [sdi, stJ] at hrun
      split at hrun
      · split at hrun
        · rename_i ls' hs
          exact lv_lstore hx hb hd hL (sL2_len hs).1 rfl (fun ls2 h2 => go0 hrun (LO_st2 hs h2) ((sL2_len hs).2.trans hn))
        · exact (rn_no hrun).elim
      · exact (rn_no hrun).elim
    | iinc k n' =>
      have hn1 : 3 = n := hn_of hg rfl
      subst hn1
      simp only [sdi] at hrun
      split at hrun
      · rename_i x hk
        split at hrun
        · rename_i ls' hs
          obtain ⟨kk, hkk⟩ := List.getElem?_of_mem (lp_mem.mpr ⟨_, hk, rfl⟩ : (k, tr K (.int x)) ∈ lp K als)
          exact lv_iinc hx hb hd hL hkk rfl (sL_len hs).1 rfl (fun ls2 h2 => go0 hrun (LO_st hs h2) ((sL_len hs).2.trans hn))
        · exact (rn_no hrun).elim
      · exact (rn_no hrun).elim
    | iadd =>
      have hn1 : 1 = n := hn_of hg rfl
      subst hn1
      simp only [sdi] at hrun
      split at hrun
      · exact lv_iadd hx hb hd (go0 hrun hL hn)
      · exact (rn_no hrun).elim
    | isub =>
      have hn1 : 1 = n := hn_of hg rfl
      subst hn1
      simp only [sdi] at hrun
      split at hrun
      · exact lv_isub hx hb hd (go0 hrun hL hn)
      · exact (rn_no hrun).elim
    | imul =>
      have hn1 : 1 = n := hn_of hg rfl
      subst hn1
      simp only [sdi] at hrun
      split at hrun
      · exact lv_imul hx hb hd (go0 hrun hL hn)
      · exact (rn_no hrun).elim
    | iand =>
      have hn1 : 1 = n := hn_of hg rfl
      subst hn1
      simp only [sdi] at hrun
      split at hrun
      · exact lv_iand hx hb hd (go0 hrun hL hn)
      · exact (rn_no hrun).elim
    | ixor =>
      have hn1 : 1 = n := hn_of hg rfl
      subst hn1
      simp only [sdi] at hrun
      split at hrun
      · exact lv_ixor hx hb hd (go0 hrun hL hn)
      · exact (rn_no hrun).elim
    | land =>
      have hn1 : 1 = n := hn_of hg rfl
      subst hn1
      simp only [sdi] at hrun
      split at hrun
      · exact lv_land hx hb hd (go0 hrun hL hn)
      · exact (rn_no hrun).elim
    | lor =>
      have hn1 : 1 = n := hn_of hg rfl
      subst hn1
      simp only [sdi] at hrun
      split at hrun
      · exact lv_lor hx hb hd (go0 hrun hL hn)
      · exact (rn_no hrun).elim
    | lshl =>
      have hn1 : 1 = n := hn_of hg rfl
      subst hn1
      simp only [sdi] at hrun
      split at hrun
      · exact lv_lshl hx hb hd rfl (go0 hrun hL hn)
      · exact (rn_no hrun).elim
    | lshr =>
      have hn1 : 1 = n := hn_of hg rfl
      subst hn1
      simp only [sdi] at hrun
      split at hrun
      · exact lv_lshr hx hb hd rfl (go0 hrun hL hn)
      · exact (rn_no hrun).elim
    | lushr =>
      have hn1 : 1 = n := hn_of hg rfl
      subst hn1
      simp only [sdi] at hrun
      split at hrun
      · exact lv_lushr hx hb hd rfl (go0 hrun hL hn)
      · exact (rn_no hrun).elim
    | lcmp =>
      have hn1 : 1 = n := hn_of hg rfl
      subst hn1
      simp only [sdi] at hrun
      split at hrun
      · exact W.lcmp hx hb hd (go0 hrun hL hn)
      · exact (rn_no hrun).elim
    | i2l =>
      have hn1 : 1 = n := hn_of hg rfl
      subst hn1
      simp only [sdi] at hrun
      split at hrun
      · exact lv_i2l hx hb hd rfl (go0 hrun hL hn)
      · exact (rn_no hrun).elim
    | l2i =>
      have hn1 : 1 = n := hn_of hg rfl
      subst hn1
      simp only [sdi] at hrun
      split at hrun
      · exact lv_l2i hx hb hd rfl (go0 hrun hL hn)
      · exact (rn_no hrun).elim
    | i2c =>
      have hn1 : 1 = n := hn_of hg rfl
      subst hn1
      simp only [sdi] at hrun
      split at hrun
      · exact lv_i2c hx hb hd rfl (go0 hrun hL hn)
      · exact (rn_no hrun).elim
    | idiv =>
      have hn1 : 1 = n := hn_of hg rfl
      subst hn1
      simp only [sdi] at hrun
      split at hrun
      · obtain ⟨h0, hrun⟩ := rn_gd hrun
        exact lv_idiv hx hb hd (by simpa using h0) (go0 hrun hL hn)
      · exact (rn_no hrun).elim
    | irem =>
      have hn1 : 1 = n := hn_of hg rfl
      subst hn1
      simp only [sdi] at hrun
      split at hrun
      · obtain ⟨h0, hrun⟩ := rn_gd hrun
        exact lv_irem hx hb hd (by simpa using h0) (go0 hrun hL hn)
      · exact (rn_no hrun).elim
    | dup =>
      have hn1 : 1 = n := hn_of hg rfl
      subst hn1
      simp only [sdi] at hrun
      split at hrun
      · exact lv_dup hx hb hd rfl (go0 hrun hL hn)
      · exact lv_dup hx hb hd rfl (go0 hrun hL hn)
      · exact (rn_no hrun).elim
    | dup2 =>
      have hn1 : 1 = n := hn_of hg rfl
      subst hn1
      simp only [sdi] at hrun
      split at hrun
      · exact lv_dup2_11 hx hb hd rfl rfl (go0 hrun hL hn)
      · exact (rn_no hrun).elim
    | pop =>
      have hn1 : 1 = n := hn_of hg rfl
      subst hn1
      simp only [sdi] at hrun
      split at hrun
      · exact lv_pop hx hb hd rfl (go0 hrun hL hn)
      · exact (rn_no hrun).elim
    | goto off =>
      have hn1 : 3 = n := hn_of hg rfl
      subst hn1
      simp only [sdi] at hrun
      obtain ⟨h0, hrun⟩ := rn_gd hrun
      exact lv_goto hx hb hd (tg_eq h0) (go0 hrun hL hn)
    | ifCond cc off =>
      have hn1 : 3 = n := hn_of hg rfl
      subst hn1
      simp only [sdi] at hrun
      split at hrun
      · obtain ⟨h0, h1, h2⟩ := rn_br hrun
        cases cc with
        | eq => exact lv_if_eq hx hb hd (tg_eq h0) (fun h => go0 (h1 (by simp [c0, h])) hL hn) (fun h => go0 (h2 (by simp [c0, h])) hL hn)
        | ne => exact lv_if_ne hx hb hd (tg_eq h0) (fun h => go0 (h1 (by simp [c0, h])) hL hn) (fun h => go0 (h2 (by simp [c0, h])) hL hn)
        | lt => exact lv_if_lt hx hb hd (tg_eq h0) (fun h => go0 (h1 (by simp only [c0, h, decide_true])) hL hn) (fun h => go0 (h2 (by simp only [c0, h, decide_false])) hL hn)
        | ge => exact lv_if_ge hx hb hd (tg_eq h0) (fun h => go0 (h1 (by simp only [c0, h, decide_true])) hL hn) (fun h => go0 (h2 (by simp only [c0, h, decide_false])) hL hn)
        | gt => exact lv_if_gt hx hb hd (tg_eq h0) (fun h => go0 (h1 (by simp only [c0, h, decide_true])) hL hn) (fun h => go0 (h2 (by simp only [c0, h, decide_false])) hL hn)
        | le => exact lv_if_le hx hb hd (tg_eq h0) (fun h => go0 (h1 (by simp only [c0, h, decide_true])) hL hn) (fun h => go0 (h2 (by simp only [c0, h, decide_false])) hL hn)
      · exact (rn_no hrun).elim
    | if_icmp cc off =>
      have hn1 : 3 = n := hn_of hg rfl
      subst hn1
      simp only [sdi] at hrun
      split at hrun
      · obtain ⟨h0, h1, h2⟩ := rn_br hrun
        cases cc with
        | eq => exact lv_icmp_eq hx hb hd (tg_eq h0) (fun h => go0 (h1 (by simp [c2, h])) hL hn) (fun h => go0 (h2 (by simp [c2, h])) hL hn)
        | ne => exact lv_icmp_ne hx hb hd (tg_eq h0) (fun h => go0 (h1 (by simp [c2, h])) hL hn) (fun h => go0 (h2 (by simp [c2, h])) hL hn)
        | lt => exact lv_icmp_lt hx hb hd (tg_eq h0) (fun h => go0 (h1 (by simp only [c2, h, decide_true])) hL hn) (fun h => go0 (h2 (by simp only [c2, h, decide_false])) hL hn)
        | ge => exact lv_icmp_ge hx hb hd (tg_eq h0) (fun h => go0 (h1 (by simp only [c2, h, decide_true])) hL hn) (fun h => go0 (h2 (by simp only [c2, h, decide_false])) hL hn)
        | gt => exact lv_icmp_gt hx hb hd (tg_eq h0) (fun h => go0 (h1 (by simp only [c2, h, decide_true])) hL hn) (fun h => go0 (h2 (by simp only [c2, h, decide_false])) hL hn)
        | le => exact lv_icmp_le hx hb hd (tg_eq h0) (fun h => go0 (h1 (by simp only [c2, h, decide_true])) hL hn) (fun h => go0 (h2 (by simp only [c2, h, decide_false])) hL hn)
      · exact (rn_no hrun).elim
    | tableswitch d lo hi offs =>
      simp only [sdi] at hrun
      split at hrun
      · split at hrun
        · rename_i h0
          obtain ⟨h1, hrun⟩ := rn_gd hrun
          exact lv_tableOut hx hb hd h0 (tg_eq h1) (go0 hrun hL hn)
        · rename_i h0
          split at hrun
          · rename_i off ho
            obtain ⟨h1, hrun⟩ := rn_gd hrun
            exact lv_tableIn hx hb hd (fun z => h0 (Or.inl z)) (fun z => h0 (Or.inr z)) ho (tg_eq h1) (go0 hrun hL hn)
          · exact (rn_no hrun).elim
      · exact (rn_no hrun).elim
    | arraylength =>
      have hn1 : 1 = n := hn_of hg rfl
      subst hn1
      simp only [sdi] at hrun
      split at hrun
      · rename_i a r'
        obtain ⟨h0, hrun⟩ := rn_gd hrun
        simp only [Bool.or_eq_true, Bool.and_eq_true, decide_eq_true_eq] at h0
        rcases h0 with ⟨h1, h2⟩ | h0
        · obtain ⟨q0, q1, q2⟩ := kd_spec (c := kd G a) rfl (by omega) (by omega)
          by_cases h3 : kd G a < 53
          · have he := wsO_get (K := K) (I := I) q0 q1
            rw [elt_int q2 h1 h3] at he
            refine va_alen (ty := [FieldType.int, .boolean, .char, .object RX1, .object RX0].getD (kd G a - 50) .int) hx hb hX.1 hP.1 (a - 1) (kd G a - 50) he ?_ rfl hd (go0 hrun hL hn)
            have : kd G a = 50 ∨ kd G a = 51 ∨ kd G a = 52 := by omega
            rcases this with z | z | z <;> rw [z] <;> rfl
          · have he := wsO_get (K := K) (I := I) q0 q1
            rw [elt_ref q2 (by omega)] at he
            refine va_alen (ty := [FieldType.int, .boolean, .char, .object RX1, .object RX0].getD (kd G a - 50) .int) hx hb hX.1 hP.1 (a - 1) (kd G a - 50) he ?_ rfl hd (go0 hrun hL hn)
            have : kd G a = 53 ∨ kd G a = 54 := by omega
            rcases this with z | z <;> rw [z] <;> rfl
        · subst h0
          refine va_slen hx hb hXs hbl hbA hSv hd ?_
          have := go0 hrun hL hn
          rw [show ln G 0 = kLn K by unfold ln; rw [hP.2.2.2.1]] at this
          exact this
      · exact (rn_no hrun).elim
    | iaload =>
      have hn1 : 1 = n := hn_of hg rfl
      subst hn1
      simp only [sdi] at hrun
      split at hrun
      · rename_i i' a r'
        obtain ⟨h0, hrun⟩ := rn_gd hrun
        simp only [Bool.or_eq_true, Bool.and_eq_true, decide_eq_true_eq] at h0
        obtain ⟨h0, hi⟩ := h0
        rcases h0 with h0 | h0
        · obtain ⟨q0, q1, q2⟩ := kd_spec h0 (by decide) (by decide)
          have he := wsO_get (K := K) (I := I) q0 q1
          rw [elt_int q2 (by decide) (by decide)] at he
          exact va_iald hx hb hX.1 hP.1 (a - 1) 0 he rfl (inb_spec hi) hd (go0 hrun hL hn)
        · subst h0
          have e1 : ln G 0 = kLn K := by unfold ln; rw [hP.2.2.2.1]
          rw [e1] at hi
          refine va_sld hx hb hXs hbl hbA hSv (inb_spec hi) hd ?_
          have := go0 hrun hL hn
          rw [hP.2.2.2.2] at this
          exact this
      · exact (rn_no hrun).elim
    | baload =>
      have hn1 : 1 = n := hn_of hg rfl
      subst hn1
      simp only [sdi] at hrun
      split at hrun
      · rename_i i' a r'
        obtain ⟨h0, hrun⟩ := rn_gd hrun
        simp only [Bool.and_eq_true, decide_eq_true_eq] at h0
        obtain ⟨h0, hi⟩ := h0
        obtain ⟨q0, q1, q2⟩ := kd_spec h0 (by decide) (by decide)
        have he := wsO_get (K := K) (I := I) q0 q1
        rw [elt_int q2 (by decide) (by decide)] at he
        exact va_zald hx hb hX.1 hP.1 (a - 1) 1 he rfl (inb_spec hi) hd (go0 hrun hL hn)
      · exact (rn_no hrun).elim
    | caload =>
      have hn1 : 1 = n := hn_of hg rfl
      subst hn1
      simp only [sdi] at hrun
      split at hrun
      · rename_i i' a r'
        obtain ⟨h0, hrun⟩ := rn_gd hrun
        simp only [Bool.and_eq_true, decide_eq_true_eq] at h0
        obtain ⟨h0, hi⟩ := h0
        obtain ⟨q0, q1, q2⟩ := kd_spec h0 (by decide) (by decide)
        have he := wsO_get (K := K) (I := I) q0 q1
        rw [elt_int q2 (by decide) (by decide)] at he
        exact va_cald hx hb hX.1 hP.1 (a - 1) 2 he rfl (inb_spec hi) hd (go0 hrun hL hn)
      · exact (rn_no hrun).elim
    | aaload =>
      have hn1 : 1 = n := hn_of hg rfl
      subst hn1
      simp only [sdi] at hrun
      split at hrun
      · rename_i i' a r'
        obtain ⟨h0, hrun⟩ := rn_gd hrun
        simp only [Bool.or_eq_true, Bool.and_eq_true, decide_eq_true_eq] at h0
        obtain ⟨h0, hi⟩ := h0
        have k := go0 hrun hL hn
        rw [List.map_cons, tr_rf] at k
        rcases h0 with h0 | h0
        · obtain ⟨q0, q1, q2⟩ := kd_spec h0 (by decide) (by decide)
          have he := wsO_get (K := K) (I := I) q0 q1
          rw [elt_ref q2 (by decide)] at he
          exact va_aldq hx hb hX.1 hP.1 (a - 1) 3 he rfl (inb_spec hi) hd k
        · obtain ⟨q0, q1, q2⟩ := kd_spec h0 (by decide) (by decide)
          have he := wsO_get (K := K) (I := I) q0 q1
          rw [elt_ref q2 (by decide)] at he
          exact va_aldq hx hb hX.1 hP.1 (a - 1) 4 he rfl (inb_spec hi) hd k
      · exact (rn_no hrun).elim
    | iastore =>
      have hn1 : 1 = n := hn_of hg rfl
      subst hn1
      simp only [sdi] at hrun
      split at hrun
      · rename_i x i' a r'
        obtain ⟨h0, hrun⟩ := rn_gd hrun
        simp only [Bool.and_eq_true, decide_eq_true_eq] at h0
        obtain ⟨h0, hi⟩ := h0
        obtain ⟨q0, q1, q2⟩ := kd_spec h0 (by decide) (by decide)
        have he := wsO_get (K := K) (I := I) q0 q1
        rw [elt_int q2 (by decide) (by decide)] at he
        refine va_iast hx hb hX.1 hP.1 hD hSv (a - 1) 0 he rfl (inb_spec hi) hd (fun H1 locs1 hP1 _ hS1 => W_sz fun hz => ?_)
        have hP2 := HP_ast hP h0 (by decide) (by decide) H1 (by omega) hP1
        exact go1 rfl rfl (by have := hP2.2.1; have := hP.2.1; omega) hrun hP2 hS1 hL hn
      · exact (rn_no hrun).elim
    | bastore =>
      have hn1 : 1 = n := hn_of hg rfl
      subst hn1
      simp only [sdi] at hrun
      split at hrun
      · rename_i x i' a r'
        obtain ⟨h0, hrun⟩ := rn_gd hrun
        simp only [Bool.and_eq_true, decide_eq_true_eq] at h0
        obtain ⟨⟨h0, hi⟩, hx01⟩ := h0
        obtain ⟨q0, q1, q2⟩ := kd_spec h0 (by decide) (by decide)
        have he := wsO_get (K := K) (I := I) q0 q1
        rw [elt_int q2 (by decide) (by decide)] at he
        refine va_zast hx hb hX.1 hP.1 hD hSv (a - 1) 1 he rfl (inb_spec hi) hd (fun H1 locs1 hP1 _ hS1 => W_sz fun hz => ?_)
        have hx2 : vp_nar .boolean x = x := by
          unfold b01 at hx01
          simp only [Bool.or_eq_true, decide_eq_true_eq] at hx01
          rcases hx01 with rfl | rfl <;> rfl
        rw [hx2] at hP1
        have hP2 := HP_ast hP h0 (by decide) (by decide) H1 (by omega) hP1
        exact go1 rfl rfl (by have := hP2.2.1; have := hP.2.1; omega) hrun hP2 hS1 hL hn
      · exact (rn_no hrun).elim
    | castore =>
      have hn1 : 1 = n := hn_of hg rfl
      subst hn1
      simp only [sdi] at hrun
      split at hrun
      · rename_i x i' a r'
        obtain ⟨h0, hrun⟩ := rn_gd hrun
        simp only [Bool.and_eq_true, decide_eq_true_eq] at h0
        obtain ⟨⟨h0, hi⟩, hx01⟩ := h0
        obtain ⟨q0, q1, q2⟩ := kd_spec h0 (by decide) (by decide)
        have he := wsO_get (K := K) (I := I) q0 q1
        rw [elt_int q2 (by decide) (by decide)] at he
        refine va_cast hx hb hX.1 hP.1 hD hSv (a - 1) 2 he rfl (inb_spec hi) hd (fun H1 locs1 hP1 _ hS1 => W_sz fun hz => ?_)
        have hx2 : vp_nar .char x = x := by
          obtain ⟨j, hj, e⟩ : ∃ j : Nat, j < 65536 ∧ x = nI j := by
            obtain ⟨j, hj, e⟩ := nI_of (x := x) (by rw [Int32.lt_iff_toInt_lt, Int32.toInt_zero]; omega)
            refine ⟨j, ?_, e⟩
            have := hx01.2
            rw [e, nI_toInt hj] at this
            omega
          rw [e]
          have := (pk_charN hj).1
          unfold vp_nar
          rw [this]
        rw [hx2] at hP1
        have hP2 := HP_ast hP h0 (by decide) (by decide) H1 (by omega) hP1
        exact go1 rfl rfl (by have := hP2.2.1; have := hP.2.1; omega) hrun hP2 hS1 hL hn
      · exact (rn_no hrun).elim
    | aastore =>
      have hn1 : 1 = n := hn_of hg rfl
      subst hn1
      simp only [sdi] at hrun
      split at hrun
      · rename_i x i' a r'
        obtain ⟨h0, hrun⟩ := rn_gd hrun
        simp only [Bool.or_eq_true, Bool.and_eq_true, decide_eq_true_eq] at h0
        obtain ⟨h0, hi⟩ := h0
        rcases h0 with ⟨h0, hk⟩ | ⟨h0, hk⟩
        · obtain ⟨q0, q1, q2⟩ := kd_spec h0 (by decide) (by decide)
          obtain ⟨w0, w1, w2⟩ := kd_spec hk (by decide) (by decide)
          have he := wsO_get (K := K) (I := I) q0 q1
          rw [elt_ref q2 (by decide)] at he
          have hw := wsO_get (K := K) (I := I) w0 w1
          rw [elt_obj w2 (by decide)] at hw
          refine va_astq (r := (clC 1, clT 1, clN 1)) hx hb hX.1 hP.1 hD hSv (a - 1) 3 (x - 1) 1 he rfl hw rfl (inb_spec hi) hd (fun H1 locs1 hP1 _ hS1 => W_sz fun hz => ?_)
          have hP2 : HP K (uG G a (ix i') x) I H1 := HP_ar hP h0 (by decide) (by decide) H1 (by omega) hP1
          have h8 : H1.size + 1 = kB K + G.1 := hP2.2.1
          exact go1 (G1 := uG G a (ix i') x) rfl rfl (by have h9 := hP.2.1; omega) hrun hP2 hS1 hL hn
        · obtain ⟨q0, q1, q2⟩ := kd_spec h0 (by decide) (by decide)
          obtain ⟨w0, w1, w2⟩ := kd_spec hk (by decide) (by decide)
          have he := wsO_get (K := K) (I := I) q0 q1
          rw [elt_ref q2 (by decide)] at he
          have hw := wsO_get (K := K) (I := I) w0 w1
          rw [elt_obj w2 (by decide)] at hw
          refine va_astq (r := (clC 0, clT 0, clN 0)) hx hb hX.1 hP.1 hD hSv (a - 1) 4 (x - 1) 0 he rfl hw rfl (inb_spec hi) hd (fun H1 locs1 hP1 _ hS1 => W_sz fun hz => ?_)
          have hP2 : HP K (uG G a (ix i') x) I H1 := HP_ar hP h0 (by decide) (by decide) H1 (by omega) hP1
          have h8 : H1.size + 1 = kB K + G.1 := hP2.2.1
          exact go1 (G1 := uG G a (ix i') x) rfl rfl (by have h9 := hP.2.1; omega) hrun hP2 hS1 hL hn
      · exact (rn_no hrun).elim
    | getfield k =>
      have hn1 : 3 = n := hn_of hg rfl
      subst hn1
      simp only [sdi] at hrun
      split at hrun
      · rename_i o r'
        obtain ⟨h0, hrun⟩ := rn_gd hrun
        simp only [Bool.and_eq_true, decide_eq_true_eq] at h0
        obtain ⟨h0, hk8⟩ := h0
        obtain ⟨f1, f2, -, -, f5⟩ := wd_fields _ (fL_mem hk8)
        obtain ⟨q0, q1, q2⟩ := kd_spec h0 (by omega) (by omega)
        have he := wsO_get (K := K) (I := I) q0 q1
        rw [elt_obj q2 hk8] at he
        have k := go0 hrun hL hn
        rw [List.map_cons, tr_gf] at k
        exact va_get (Ts := tw) hx hb hts (cl_lays hk8) hown hX.1 hP.1 (o - 1) he (cl_at hk8) _ f2 (hts _ f1) (fun z hz => by rw [f5] at hz; exact hz) (rmap_get _ _ _ f2) hd k
      · exact (rn_no hrun).elim
    | putfield k =>
      have hn1 : 3 = n := hn_of hg rfl
      subst hn1
      simp only [sdi] at hrun
      split at hrun
      · rename_i v o r'
        obtain ⟨h0, hrun⟩ := rn_gd hrun
        simp only [Bool.and_eq_true, Bool.or_eq_true, Bool.not_eq_true', decide_eq_true_eq] at h0
        obtain ⟨⟨h0, hk8⟩, hfin⟩ := h0
        obtain ⟨f1, f2, -, f4, f5⟩ := wd_fields _ (fL_mem hk8)
        simp only at f1 f2 f4 f5
        obtain ⟨q0, q1, q2⟩ := kd_spec h0 (by omega) (by omega)
        have he := wsO_get (K := K) (I := I) q0 q1
        rw [elt_obj q2 hk8] at he
        have hft := (cl_ft hk8 _ f2).1
        have hlen : (fL (pC m) k).2 < ((List.range (clN (fL (pC m) k).1)).map (fvl K (fL (pC m) k).1 G I o)).length := by rw [List.length_map, List.length_range]; exact f2
        have key : ∀ (v2 : Value), narrow (clY (fL (pC m) k).1 (fL (pC m) k).2) v2 = v2 → fits (clY (fL (pC m) k).1 (fL (pC m) k).2) v2 = true →
            (∀ (H1 : Heap) (locs1 : List Loc), va_P (kD K) vwCl ((wsO K G I).set (o - 1) (ad K o, .inr ((fL (pC m) k).1, ((List.range (clN (fL (pC m) k).1)).map (fvl K (fL (pC m) k).1 G I o)).set (fL (pC m) k).2 v2))) H1 → va_S (kfr K) s.heap H1 locs1 → W p l e R s mid args below meth cd H1 locs1 cells slots Q (F0 mid (pc + 3) ls (r'.map (tr K)))) →
            W p l e R s mid args below meth cd H locs cells slots Q (F0 mid pc ls (v2 :: .ref (ad K o) :: r'.map (tr K))) := by
          intro v2 hnr hft2 kk
          by_cases hfi : fF (fL (pC m) k).1 (fL (pC m) k).2 = false
          · exact va_put (Ts := tw) hx hb hts (cl_lays hk8) (clY _) (cl_ty hk8) (cl_nm hk8) hown hX.1 hP.1 hD hSv (o - 1) he (cl_at hk8) _ f2 (hts _ f1) (fun z hz => by rw [f5] at hz; exact hz) (f4.trans hfi) (cl_ty hk8 _ f2) hnr hft2 hlen hd (fun H1 locs1 h1 _ h3 => kk H1 locs1 h1 h3)
          · rcases hfin with hfin | ⟨hk2, hpc⟩
            · exact absurd hfin hfi
            · exact va_putF (Ts := tw) hx hb hts (cl_lays hk8) (clY _) (cl_ty hk8) (cl_nm hk8) hown hX.1 hP.1 hD hSv (o - 1) he (cl_at hk8) _ f2 (hts _ f1) (fun z hz => by rw [f5] at hz; exact hz) (f4.trans (by simpa using hfi)) (hini hk2) (f5.trans (by show pO (fL (pC m) k).1 = pO (pC m); rw [← hpc])) (cl_ty hk8 _ f2) hnr hft2 hlen hd (fun H1 locs1 h1 _ h3 => kk H1 locs1 h1 h3)
        simp only [pf] at hrun
        split at hrun
        · rename_i x e1 hold
          rw [e1] at hft
          refine key (.int x) ?_ ?_ (fun H1 locs1 hP1 hS1 => W_sz fun hz => ?_)
          · revert hft; cases clY (fL (pC m) k).1 (fL (pC m) k).2 <;> intro hft <;> first | rfl | cases hft
          · revert hft; cases clY (fL (pC m) k).1 (fL (pC m) k).2 <;> intro hft <;> first | rfl | cases hft
          · have hP2 := HP_pi hP h0 hk8 (by rw [e1]; decide) H1 (by omega) hP1
            exact go1 rfl rfl (by have := hP2.2.1; have := hP.2.1; omega) hrun hP2 hS1 hL hn
        · rename_i x e1 hold
          obtain ⟨hx01, hrun⟩ := rn_gd hrun
          unfold b01 at hx01
          simp only [Bool.or_eq_true, decide_eq_true_eq] at hx01
          rw [e1] at hft
          refine key (.int x) ?_ ?_ (fun H1 locs1 hP1 hS1 => W_sz fun hz => ?_)
          · revert hft; cases clY (fL (pC m) k).1 (fL (pC m) k).2 <;> intro hft <;> first | (rcases hx01 with rfl | rfl <;> rfl) | cases hft
          · revert hft; cases clY (fL (pC m) k).1 (fL (pC m) k).2 <;> intro hft <;> first | (rcases hx01 with rfl | rfl <;> rfl) | cases hft
          · have hP2 := HP_pi hP h0 hk8 (by rw [e1]; decide) H1 (by omega) hP1
            exact go1 rfl rfl (by have := hP2.2.1; have := hP.2.1; omega) hrun hP2 hS1 hL hn
        · rename_i x e1 hold
          rw [e1] at hft
          refine key (.ref (ad K x)) ?_ ?_ (fun H1 locs1 hP1 hS1 => W_sz fun hz => ?_)
          · revert hft; cases clY (fL (pC m) k).1 (fL (pC m) k).2 <;> intro hft <;> first | rfl | cases hft
          · revert hft; cases clY (fL (pC m) k).1 (fL (pC m) k).2 <;> intro hft <;> first | rfl | cases hft
          · have hP2 : HP K (uG G o (fL (pC m) k).2 x) I H1 := HP_pr hP h0 hk8 e1 H1 (by omega) hP1
            have h8 : H1.size + 1 = kB K + G.1 := hP2.2.1
            exact go1 (G1 := uG G o (fL (pC m) k).2 x) rfl rfl (by have h9 := hP.2.1; omega) hrun hP2 hS1 hL hn
        · exact (rn_no hrun).elim
      · exact (rn_no hrun).elim
    | new k =>
      have hn1 : 3 = n := hn_of hg rfl
      subst hn1
      simp only [sdi] at hrun
      obtain ⟨h0, hrun⟩ := rn_gd hrun
      have hk8 : kL (pC m) k < 7 := by simpa using h0
      have hm := run_grow _ _ _ _ _ _ _ _ _ _ hrun
      have g1 : (nG G (kL (pC m) k) (clN (kL (pC m) k))).1 = G.1 + 1 := rfl
      have g2 : (nG G (kL (pC m) k) (clN (kL (pC m) k))).2.1 = G.2.1 + clN (kL (pC m) k) := rfl
      rw [g1, g2] at hm
      obtain ⟨w1, w2⟩ := cl_inst hk8
      have he : elt K (nG G (kL (pC m) k) (clN (kL (pC m) k))) (nI0 G I) G.1 = .inr (kL (pC m) k, (List.range (clN (kL (pC m) k))).map (fvl K (kL (pC m) k) (nG G (kL (pC m) k) (clN (kL (pC m) k))) (nI0 G I) G.1)) :=
        elt_obj (by rw [nG_new]) hk8
      refine va_new (Ts := tw) (fs := (List.range (clN (kL (pC m) k))).map (fvl K (kL (pC m) k) (nG G (kL (pC m) k) (clN (kL (pC m) k))) (nI0 G I) G.1)) hx hb hts (cl_lays hk8) (clY _) (cl_ty hk8) hown (hts _ (wd_kl _ (kL_mem hk8)).1) (hts _ w1) (hts _ w2) hX.1 hP.1 hD hSv hA (cl_at hk8) ?_ (by omega) (by omega) hd (fun q H1 hP1 hD1 hS1 => W_sz fun hz => ?_)
      · intro j hj
        have e1 := (cl_ft hk8 j hj).1
        have e2 := (cl_ft hk8 j hj).2
        have e3 : vp_V ((List.range (clN (kL (pC m) k))).map (fvl K (kL (pC m) k) (nG G (kL (pC m) k) (clN (kL (pC m) k))) (nI0 G I) G.1)) j = fvl K (kL (pC m) k) (nG G (kL (pC m) k) (clN (kL (pC m) k))) (nI0 G I) G.1 j := by
          unfold vp_V
          rw [List.getD_eq_getElem?_getD, rmap_get _ _ _ hj]
          rfl
        rw [e3]
        unfold fvl
        rw [nG_rf0, nI0_new]
        revert e1 e2
        cases clY (kL (pC m) k) j <;> intro e1 e2 <;> first | (rw [e1, if_neg (by decide)]; rfl) | (rw [e1, if_pos rfl]; rfl) | (exfalso; have e4 : fT (kL (pC m) k) j = 7 := e1; omega)
      · obtain ⟨e1, hP2⟩ := HP_new hP he q H1 (by omega) hD1 hP1
        rw [e1]
        exact goG hrun hP2 hS1
    | newarray t =>
      have hn1 : 2 = n := hn_of hg rfl
      subst hn1
      simp only [sdi] at hrun
      split at hrun
      · rename_i n' r'
        obtain ⟨h0, hrun⟩ := rn_gd hrun
        simp only [Bool.and_eq_true, decide_eq_true_eq] at h0
        obtain ⟨hk, hn0, hn1⟩ := h0
        have hm := run_grow _ _ _ _ _ _ _ _ _ _ hrun
        have g1 : (nG G (akd t) (ix n')).1 = G.1 + 1 := rfl
        have g2 : (nG G (akd t) (ix n')).2.1 = G.2.1 + ix n' := rfl
        rw [g1, g2] at hm
        have hix : ix n' ≤ 1000 := by show n'.toInt.toNat ≤ 1000; omega
        have hneg : ¬ n' < 0 := by rw [Int32.lt_iff_toInt_lt, Int32.toInt_zero]; omega
        have hk2 : (t = .int ∧ akd t = 50) ∨ (t = .boolean ∧ akd t = 51) ∨ (t = .char ∧ akd t = 52) := by
          cases t <;> first | exact Or.inl ⟨rfl, rfl⟩ | exact Or.inr (Or.inl ⟨rfl, rfl⟩) | exact Or.inr (Or.inr ⟨rfl, rfl⟩) | (exfalso; revert hk; decide)
        have key : ∀ (ty : FieldType) (c : Nat), akd t = c → 50 ≤ c → c < 53 → newarray.typeOf t = ty → (tysK K)[c - 50]? = some (kA K (c - 50), ty) → defaultValue ty = .int 0 → componentBytes ty ≤ 4 → (Cond.arrayClass (newarray.typeOf t)).before args s = true → (∀ z, va_RA s z ty → s.vm.findClass ("[" ++ ty.toString) = some z) →
            W p l e R s mid args below meth cd H locs cells slots Q (F0 mid pc ls (.int n' :: r'.map (tr K))) := by
          intro ty cc ec c1 c2 ety etys edv ecb hw hra
          have he : elt K (nG G (akd t) (ix n')) (nI0 G I) G.1 = .inl (kA K (cc - 50), ix n', .inl (fun _ => 0)) := by
            rw [elt_int (c := cc) (by rw [nG_new, ec]) c1 c2, nI0_new]
            unfold ln
            rw [nG_new]
          refine va_newa (a0 := (ix n', .inl (fun _ => 0))) hx hb hw ety hX.1 hP.1 hD hSv hA ?_ hneg rfl ?_ (by omega) (by show slots + ix n' ≤ _; omega) hd (fun q cA H1 hK1 hP1 hD1 hS1 => W_sz fun hz => ?_)
          · intro z
            rw [edv]
            rfl
          · have := Nat.mul_le_mul hix ecb
            show ix n' * componentBytes ty ≤ _
            omega
          · have z1 := hK1.2 (tysK K).length (cA, ty) (by rw [List.getElem?_append_right (Nat.le_refl _), Nat.sub_self]; rfl)
            have z2 := hX.1.2 _ _ etys
            have z3 : cA = kA K (cc - 50) := Option.some.inj ((hra _ z1.2).symm.trans (hra _ z2.2))
            rw [z3] at hP1 hD1
            obtain ⟨e1, hP2⟩ := HP_new hP he q H1 (by omega) hD1 hP1
            rw [e1]
            exact goG hrun hP2 hS1
        obtain ⟨r1, r2, r3, -, -⟩ := wd_arr
        rcases hk2 with ⟨rfl, e⟩ | ⟨rfl, e⟩ | ⟨rfl, e⟩
        · exact key .int 50 e (by decide) (by decide) rfl rfl rfl (by decide) (hts _ (wd_in r1)) (fun z h => h)
        · exact key .boolean 51 e (by decide) (by decide) rfl rfl rfl (by decide) (hts _ (wd_in r2)) (fun z h => h)
        · exact key .char 52 e (by decide) (by decide) rfl rfl rfl (by decide) (hts _ (wd_in r3)) (fun z h => h)
      · exact (rn_no hrun).elim
    | anewarray k =>
      have hn1 : 3 = n := hn_of hg rfl
      subst hn1
      simp only [sdi] at hrun
      split at hrun
      · rename_i n' r'
        obtain ⟨h0, hrun⟩ := rn_gd hrun
        simp only [Bool.and_eq_true, decide_eq_true_eq] at h0
        obtain ⟨hk, hn0, hn1⟩ := h0
        have hm := run_grow _ _ _ _ _ _ _ _ _ _ hrun
        have g1 : (nG G (54 - kL (pC m) k) (ix n')).1 = G.1 + 1 := rfl
        have g2 : (nG G (54 - kL (pC m) k) (ix n')).2.1 = G.2.1 + ix n' := rfl
        rw [g1, g2] at hm
        have hix : ix n' ≤ 1000 := by show n'.toInt.toNat ≤ 1000; omega
        have hneg : ¬ n' < 0 := by rw [Int32.lt_iff_toInt_lt, Int32.toInt_zero]; omega
        have hlk := (wd_kl _ (kL_mem (show kL (pC m) k < 7 by omega))).1
        have key : ∀ (C : String) (c : Nat), 54 - kL (pC m) k = c → 53 ≤ c → clC (kL (pC m) k) = C → (tysK K)[c - 50]? = some (kA K (c - 50), .object C) → va_AO C s →
            W p l e R s mid args below meth cd H locs cells slots Q (F0 mid pc ls (.int n' :: r'.map (tr K))) := by
          intro C cc ec c1 eC etys hao
          have he : elt K (nG G (54 - kL (pC m) k) (ix n')) (nI0 G I) G.1 = .inl (kA K (cc - 50), ix n', .inr (.inr (.inr (.inr (fun _ => none))))) := by
            rw [elt_ref (c := cc) (by rw [nG_new, ec]) c1]
            simp only [nG_rf0]
            unfold ln
            rw [nG_new]
            rfl
          simp only at hlk
          rw [eC] at hlk
          refine va_newq hx hb hown (hts _ hlk) hao hX.1 hP.1 hD hSv hA hneg rfl (by show ix n' * 4 ≤ _; omega) (by omega) (by show slots + ix n' ≤ _; omega) hd (fun q cA H1 hK1 hP1 hD1 hS1 => W_sz fun hz => ?_)
          have z1 := hK1.2 (tysK K).length (cA, .object C) (by rw [List.getElem?_append_right (Nat.le_refl _), Nat.sub_self]; rfl)
          have z2 := hX.1.2 _ _ etys
          obtain ⟨_, _, _, _, _, y1⟩ := z1.2
          obtain ⟨_, _, _, _, _, y2⟩ := z2.2
          have z3 : cA = kA K (cc - 50) := Option.some.inj (y1.symm.trans y2)
          rw [z3] at hP1 hD1
          obtain ⟨e1, hP2⟩ := HP_new hP he q H1 (by omega) hD1 hP1
          rw [e1]
          exact goG hrun hP2 hS1
        have : kL (pC m) k = 0 ∨ kL (pC m) k = 1 := by omega
        rcases this with z | z
        · exact key RX0 54 (by rw [z]) (by decide) (by rw [z]; rfl) rfl hX.2.2.2
        · exact key RX1 53 (by rw [z]) (by decide) (by rw [z]; rfl) rfl hX.2.2.1
      · exact (rn_no hrun).elim
    | invokevirtual k =>
      have hn1 : 3 = n := hn_of hg rfl
      subst hn1
      exact st_invokevirtual hS hF hP hSv hL hn hcz hc hsf hcf hsf' hret hd hrun
    | invokestatic k =>
      have hn1 : 3 = n := hn_of hg rfl
      subst hn1
      exact st_invokestatic hS hF hP hSv hL hn hcz hc hsf hcf hsf' hret hd hrun
    | invokespecial k =>
      have hn1 : 3 = n := hn_of hg rfl
      subst hn1
      exact st_invokespecial hS hF hP hSv hL hn hcz hc hsf hcf hsf' hret hd hrun
    | ireturn =>
      have hn1 : 1 = n := hn_of hg rfl
      subst hn1
      simp only [sdi] at hrun
      split at hrun
      · rename_i v
        obtain ⟨h0, hrun⟩ := rn_gd hrun
        have e1 : some (some (Value.int v), G, I) = some (r, G', I') := hrun
        simp only [Option.some.injEq, Prod.mk.injEq] at e1
        obtain ⟨rfl, rfl, rfl⟩ := e1
        have e1 : cf = cells := by omega
        have e2 : sf = slots := by omega
        subst e1; subst e2
        exact hret pc ls H locs hP hSv ⟨hd, h0⟩
      · exact (rn_no hrun).elim
    | areturn =>
      have hn1 : 1 = n := hn_of hg rfl
      subst hn1
      simp only [sdi] at hrun
      split at hrun
      · rename_i v
        obtain ⟨h0, hrun⟩ := rn_gd hrun
        have e1 : some (some (Value.ref v), G, I) = some (r, G', I') := hrun
        simp only [Option.some.injEq, Prod.mk.injEq] at e1
        obtain ⟨rfl, rfl, rfl⟩ := e1
        have e1 : cf = cells := by omega
        have e2 : sf = slots := by omega
        subst e1; subst e2
        exact hret pc ls H locs hP hSv ⟨hd, h0⟩
      · exact (rn_no hrun).elim
    | return_ =>
      have hn1 : 1 = n := hn_of hg rfl
      subst hn1
      simp only [sdi] at hrun
      split at hrun
      · obtain ⟨h0, hrun⟩ := rn_gd hrun
        have e1 : some ((none : Option Value), G, I) = some (r, G', I') := hrun
        simp only [Option.some.injEq, Prod.mk.injEq] at e1
        obtain ⟨rfl, rfl, rfl⟩ := e1
        have e1 : cf = cells := by omega
        have e2 : sf = slots := by omega
        subst e1; subst e2
        exact hret pc ls H locs hP hSv ⟨hd, by simpa using h0⟩
      · exact (rn_no hrun).elim
    | _ => exact (rn_no hrun).elim
theorem sim_all (l : Launch) (K : KT) : ∀ f : Nat, SIM l K f := by
  intro f
  induction f with
  | zero => intro m pc als st G I r G' I' h; simp [run] at h
  | succ f ih => exact sim_step ih
