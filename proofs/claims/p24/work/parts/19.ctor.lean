theorem kd_uG {G : Gt} {o a k r c : Nat} (h : kd G o = c) : kd (uG G a k r) o = c := h
theorem kd_nG {G : Gt} {o kk len c : Nat} (hc : c < 60) (h : kd G o = c) : kd (nG G kk len) o = c := by
  obtain ⟨h1, h2, h3⟩ := kd_spec h (by omega) (by omega)
  unfold kd
  rw [if_neg (by omega), if_pos (show o < (nG G kk len).1 from Nat.lt_succ_of_lt h2), nG_kd _ _ _ _ (by omega)]
  exact h3
theorem le_nG {G : Gt} {kk len : Nat} (h : 1 ≤ G.1) : 1 ≤ (nG G kk len).1 := Nat.le_succ_of_le h
theorem kd_new {G : Gt} {kk len : Nat} (h : 1 ≤ G.1) : kd (nG G kk len) G.1 = kk := by
  unfold kd
  rw [if_neg (by omega), if_pos (show G.1 < (nG G kk len).1 from Nat.lt_succ_self _), nG_new]
theorem ln_new {G : Gt} {kk len : Nat} : ln (nG G kk len) G.1 = len := by unfold ln; rw [nG_new]
theorem ln_uG {G : Gt} {o a k r n : Nat} (h : ln G o = n) : ln (uG G a k r) o = n := h
theorem ln_nG {G : Gt} {o kk len n c : Nat} (hc : c < 60) (hk : kd G o = c) (h : ln G o = n) : ln (nG G kk len) o = n := by
  obtain ⟨h1, h2, h3⟩ := kd_spec hk (by omega) (by omega)
  unfold ln
  rw [nG_kd _ _ _ _ (by omega)]
  exact h
theorem rf_put {G : Gt} {o k r : Nat} : rf (uG G o k r) o k = some r := by rw [rf_uG, if_pos rfl, if_pos rfl]
theorem rf_uGk {G : Gt} {o k k' a r r' : Nat} (hk : k ≠ k') (h : rf G o k = some r) : rf (uG G a k' r') o k = some r := by
  rw [rf_uG]
  by_cases e : o = a
  · rw [if_pos e, if_neg hk]; exact h
  · rw [if_neg e]; exact h
theorem rf_nG' {G : Gt} {o kk len k c : Nat} (hc : c < 60) (hk : kd G o = c) {r : Nat} (h : rf G o k = some r) : rf (nG G kk len) o k = some r := by
  obtain ⟨h1, h2, h3⟩ := kd_spec hk (by omega) (by omega)
  rw [nG_rf _ _ _ _ _ (by omega)]
  exact h
theorem nw_2 : (decide ((0:Int) ≤ (2 : Int32).toInt ∧ (2 : Int32).toInt ≤ 1000)) = true := by decide +kernel
theorem nw_10 : (decide ((0:Int) ≤ (10 : Int32).toInt ∧ (10 : Int32).toInt ≤ 1000)) = true := by decide +kernel
theorem nw_27 : (decide ((0:Int) ≤ (27 : Int32).toInt ∧ (27 : Int32).toInt ≤ 1000)) = true := by decide +kernel
theorem nw_48 : (decide ((0:Int) ≤ (48 : Int32).toInt ∧ (48 : Int32).toInt ≤ 1000)) = true := by decide +kernel
theorem nw_80 : (decide ((0:Int) ≤ (80 : Int32).toInt ∧ (80 : Int32).toInt ≤ 1000)) = true := by decide +kernel
theorem oa_0_3 : (0, 3) ∈ oTl := by decide +kernel
theorem oa_1_3 : (1, 3) ∈ oTl := by decide +kernel
theorem oa_2_3 : (2, 3) ∈ oTl := by decide +kernel
theorem oa_3_3 : (3, 3) ∈ oTl := by decide +kernel
theorem oa_4_3 : (4, 3) ∈ oTl := by decide +kernel
theorem oa_5_3 : (5, 3) ∈ oTl := by decide +kernel
theorem oa_6_1 : (6, 1) ∈ oTl := by decide +kernel
theorem no_0_11 : (0, 11) ∉ oTl := by decide +kernel
theorem no_1_27 : (1, 27) ∉ oTl := by decide +kernel
theorem no_2_11 : (2, 11) ∉ oTl := by decide +kernel
theorem no_3_17 : (3, 17) ∉ oTl := by decide +kernel
theorem no_6_9 : (6, 9) ∉ oTl := by decide +kernel
theorem no_6_18 : (6, 18) ∉ oTl := by decide +kernel
theorem no_6_25 : (6, 25) ∉ oTl := by decide +kernel
theorem no_8_11 : (8, 11) ∉ oTl := by decide +kernel
theorem oc_0 : (decide (1 ≤ pF 0) && decide (20 ≤ pW 0)) = true := by decide +kernel
theorem oc_31 : (decide (1 ≤ pF 31) && decide (20 ≤ pW 31)) = true := by decide +kernel
theorem oc_43 : (decide (1 ≤ pF 43) && decide (20 ≤ pW 43)) = true := by decide +kernel
theorem oc_49 : (decide (1 ≤ pF 49) && decide (20 ≤ pW 49)) = true := by decide +kernel
theorem oc_66 : (decide (1 ≤ pF 66) && decide (20 ≤ pW 66)) = true := by decide +kernel
theorem oc_85 : (decide (1 ≤ pF 85) && decide (20 ≤ pW 85)) = true := by decide +kernel
theorem oc_93 : (decide (1 ≤ pF 93) && decide (20 ≤ pW 93)) = true := by decide +kernel
theorem rk_0_66 : rok 0 66 = true := by decide +kernel
theorem rk_31_85 : rok 31 85 = true := by decide +kernel
theorem rk_43_31 : rok 43 31 = true := by decide +kernel
theorem rk_49_85 : rok 49 85 = true := by decide +kernel
theorem rk_93_0 : rok 93 0 = true := by decide +kernel
theorem rk_93_43 : rok 93 43 = true := by decide +kernel
theorem rk_93_49 : rok 93 49 = true := by decide +kernel
theorem rk_135_93 : rok 135 93 = true := by decide +kernel
theorem mX0 : pL 0 = 2 := rfl
theorem mX31 : pL 31 = 1 := rfl
theorem mX43 : pL 43 = 2 := rfl
theorem mX49 : pL 49 = 1 := rfl
theorem mX66 : pL 66 = 2 := rfl
theorem mX85 : pL 85 = 1 := rfl
theorem mX93 : pL 93 = 2 := rfl
-- SV$Device.<init> @0
set_option maxRecDepth 4000 in
theorem C0_0 {G : Gt} {o0 : Nat} {o1 : Nat} {I : It} (hG : 1 ≤ G.1) (ho0 : kd G o0 = 0) (ho1 : kd G o1 = 2) : E 0 0 [some (.ref o0), some (.ref o1)] [] G I = K2 0 12 [some (.ref o0), some (.ref o1)] [.ref G.1, .ref o0] (E 66 0 [some (.ref G.1), none] [] (nG G 4 3) (nI0 G I)) :=
  Eq.trans (e_aload_n mB0 dX0_init_0 rfl) (Eq.trans (e_objI mB0 mC0 dX0_init_1 oa_0_3 rfl oc_0) (Eq.trans (e_aload_n mB0 dX0_init_4 rfl) (Eq.trans (e_new mB0 mC0 dX0_init_5 kl_0_9 rfl rfl) (Eq.trans (e_dupA mB0 dX0_init_8) (e_spec (as := []) (b := G.1) (rest := [.ref G.1, .ref o0]) mB0 mC0 dX0_init_9 no_0_11 q_0_11 (Or.inl rfl) mN66 rfl rfl mX66 rfl rk_0_66 rfl rfl)))))
-- SV$Device.<init> @12
set_option maxRecDepth 4000 in
theorem C0_12 {G : Gt} {o0 : Nat} {o1 : Nat} {p1 : Nat} {I : It} (hG : 1 ≤ G.1) (ho0 : kd G o0 = 0) (ho1 : kd G o1 = 2) (hp1 : kd G p1 = 4) : E 0 12 [some (.ref o0), some (.ref o1)] [.ref p1, .ref o0] G I = K2 0 23 [some (.ref o0), some (.ref o1)] [.ref G.1, .ref o0] (E 66 0 [some (.ref G.1), none] [] (nG (uG G o0 1 p1) 4 3) (nI0 (uG G o0 1 p1) I)) :=
  Eq.trans (e_putR mB0 mC0 mK0 dX0_init_12 f_0_12 rfl t_0_1 ho0) (Eq.trans (e_aload_n mB0 dX0_init_15 rfl) (Eq.trans (e_new mB0 mC0 dX0_init_16 kl_0_9 rfl rfl) (Eq.trans (e_dupA mB0 dX0_init_19) (e_spec (as := []) (b := G.1) (rest := [.ref G.1, .ref o0]) mB0 mC0 dX0_init_20 no_0_11 q_0_11 (Or.inl rfl) mN66 rfl rfl mX66 rfl rk_0_66 rfl rfl))))
-- SV$Device.<init> @23
set_option maxRecDepth 4000 in
theorem C0_23 {G : Gt} {o0 : Nat} {o1 : Nat} {p1 : Nat} {I : It} (hG : 1 ≤ G.1) (ho0 : kd G o0 = 0) (ho1 : kd G o1 = 2) (hp1 : kd G p1 = 4) : E 0 23 [some (.ref o0), some (.ref o1)] [.ref p1, .ref o0] G I = some (none, (uG (uG (nG (uG (nG (uG (nG (uG (nG (uG G o0 2 p1) 50 10) o0 10 G.1) 50 10) o0 11 (G.1 + 1)) 50 10) o0 12 (G.1 + 2)) 50 10) o0 13 (G.1 + 3)) o0 0 o1), (nI0 (uG (nG (uG (nG (uG (nG (uG G o0 2 p1) 50 10) o0 10 G.1) 50 10) o0 11 (G.1 + 1)) 50 10) o0 12 (G.1 + 2)) (nI0 (uG (nG (uG (nG (uG G o0 2 p1) 50 10) o0 10 G.1) 50 10) o0 11 (G.1 + 1)) (nI0 (uG (nG (uG G o0 2 p1) 50 10) o0 10 G.1) (nI0 (uG G o0 2 p1) (uI (uI (uI (uI (uI (uI I o0 3 1) o0 4 (-6)) o0 5 (-6)) o0 6 (-6)) o0 7 (-6)) o0 8 48)))))) :=
  Eq.trans (e_putR mB0 mC0 mK0 dX0_init_23 f_0_18 rfl t_0_2 ho0) (Eq.trans (e_aload_n mB0 dX0_init_26 rfl) (Eq.trans (e_iconst mB0 dX0_init_27 ki_1) (Eq.trans (e_putZ_l mB0 mC0 dX0_init_28 f_0_21 rfl t_0_3 ff_0_3 (kd_uG ho0) b1_1) (Eq.trans (e_aload_n mB0 dX0_init_31 rfl) (Eq.trans (e_bipush mB0 dX0_init_32 kb_m6) (Eq.trans (e_putI mB0 mC0 dX0_init_34 f_0_25 rfl t_0_4 ff_0_4 (kd_uG ho0)) (Eq.trans (e_aload_n mB0 dX0_init_37 rfl) (Eq.trans (e_bipush mB0 dX0_init_38 kb_m6) (Eq.trans (e_putI mB0 mC0 dX0_init_40 f_0_29 rfl t_0_5 ff_0_5 (kd_uG ho0)) (Eq.trans (e_aload_n mB0 dX0_init_43 rfl) (Eq.trans (e_bipush mB0 dX0_init_44 kb_m6) (Eq.trans (e_putI mB0 mC0 dX0_init_46 f_0_32 rfl t_0_6 ff_0_6 (kd_uG ho0)) (Eq.trans (e_aload_n mB0 dX0_init_49 rfl) (Eq.trans (e_bipush mB0 dX0_init_50 kb_m6) (Eq.trans (e_putI mB0 mC0 dX0_init_52 f_0_35 rfl t_0_7 ff_0_7 (kd_uG ho0)) (Eq.trans (e_aload_n mB0 dX0_init_55 rfl) (Eq.trans (e_bipush mB0 dX0_init_56 kb_48) (Eq.trans (e_putI mB0 mC0 dX0_init_58 f_0_38 rfl t_0_8 ff_0_8 (kd_uG ho0)) (Eq.trans (e_aload_n mB0 dX0_init_61 rfl) (Eq.trans (e_bipush mB0 dX0_init_62 kb_10) (Eq.trans (e_newa mB0 dX0_init_64 rfl nw_10 x_10) (Eq.trans (e_putR mB0 mC0 mK0 dX0_init_66 f_0_41 rfl t_0_10 (kd_nG (by decide) (kd_uG ho0))) (Eq.trans (e_aload_n mB0 dX0_init_69 rfl) (Eq.trans (e_bipush mB0 dX0_init_70 kb_10) (Eq.trans (e_newa mB0 dX0_init_72 rfl nw_10 x_10) (Eq.trans (e_putR mB0 mC0 mK0 dX0_init_74 f_0_45 rfl t_0_11 (kd_nG (by decide) (kd_uG (kd_nG (by decide) (kd_uG ho0))))) (Eq.trans (e_aload_n mB0 dX0_init_77 rfl) (Eq.trans (e_bipush mB0 dX0_init_78 kb_10) (Eq.trans (e_newa mB0 dX0_init_80 rfl nw_10 x_10) (Eq.trans (e_putR mB0 mC0 mK0 dX0_init_82 f_0_48 rfl t_0_12 (kd_nG (by decide) (kd_uG (kd_nG (by decide) (kd_uG (kd_nG (by decide) (kd_uG ho0))))))) (Eq.trans (e_aload_n mB0 dX0_init_85 rfl) (Eq.trans (e_bipush mB0 dX0_init_86 kb_10) (Eq.trans (e_newa mB0 dX0_init_88 rfl nw_10 x_10) (Eq.trans (e_putR mB0 mC0 mK0 dX0_init_90 f_0_51 rfl t_0_13 (kd_nG (by decide) (kd_uG (kd_nG (by decide) (kd_uG (kd_nG (by decide) (kd_uG (kd_nG (by decide) (kd_uG ho0))))))))) (Eq.trans (e_aload_n mB0 dX0_init_93 rfl) (Eq.trans (e_aload_n mB0 dX0_init_94 rfl) (Eq.trans (e_putR mB0 mC0 mK0 dX0_init_95 f_0_54 rfl t_0_0 (kd_uG (kd_nG (by decide) (kd_uG (kd_nG (by decide) (kd_uG (kd_nG (by decide) (kd_uG (kd_nG (by decide) (kd_uG ho0)))))))))) (e_retV mB0 dX0_init_98 mR0))))))))))))))))))))))))))))))))))))))
-- SV$Layout.<init> @0
set_option maxRecDepth 4000 in
theorem C31_0 {G : Gt} {o0 : Nat} {I : It} (hG : 1 ≤ G.1) (ho0 : kd G o0 = 1) : E 31 0 [some (.ref o0)] [] G I = K2 31 44 [some (.ref o0)] [.ref (G.1 + 4), .ref o0] (E 85 0 [some (.ref (G.1 + 4))] [] (nG (uG (nG (uG (nG (uG (nG (uG (nG G 51 10) o0 0 G.1) 50 10) o0 1 (G.1 + 1)) 50 10) o0 2 (G.1 + 2)) 50 10) o0 3 (G.1 + 3)) 5 5) (nI0 (uG (nG (uG (nG (uG (nG (uG (nG G 51 10) o0 0 G.1) 50 10) o0 1 (G.1 + 1)) 50 10) o0 2 (G.1 + 2)) 50 10) o0 3 (G.1 + 3)) (nI0 (uG (nG (uG (nG (uG (nG G 51 10) o0 0 G.1) 50 10) o0 1 (G.1 + 1)) 50 10) o0 2 (G.1 + 2)) (nI0 (uG (nG (uG (nG G 51 10) o0 0 G.1) 50 10) o0 1 (G.1 + 1)) (nI0 (uG (nG G 51 10) o0 0 G.1) (nI0 G I)))))) :=
  Eq.trans (e_aload_n mB31 dX1_init_0 rfl) (Eq.trans (e_objI mB31 mC31 dX1_init_1 oa_1_3 rfl oc_31) (Eq.trans (e_aload_n mB31 dX1_init_4 rfl) (Eq.trans (e_bipush mB31 dX1_init_5 kb_10) (Eq.trans (e_newa mB31 dX1_init_7 rfl nw_10 x_10) (Eq.trans (e_putR mB31 mC31 mK31 dX1_init_9 f_1_9 rfl t_1_0 (kd_nG (by decide) ho0)) (Eq.trans (e_aload_n mB31 dX1_init_12 rfl) (Eq.trans (e_bipush mB31 dX1_init_13 kb_10) (Eq.trans (e_newa mB31 dX1_init_15 rfl nw_10 x_10) (Eq.trans (e_putR mB31 mC31 mK31 dX1_init_17 f_1_15 rfl t_1_1 (kd_nG (by decide) (kd_uG (kd_nG (by decide) ho0)))) (Eq.trans (e_aload_n mB31 dX1_init_20 rfl) (Eq.trans (e_bipush mB31 dX1_init_21 kb_10) (Eq.trans (e_newa mB31 dX1_init_23 rfl nw_10 x_10) (Eq.trans (e_putR mB31 mC31 mK31 dX1_init_25 f_1_19 rfl t_1_2 (kd_nG (by decide) (kd_uG (kd_nG (by decide) (kd_uG (kd_nG (by decide) ho0)))))) (Eq.trans (e_aload_n mB31 dX1_init_28 rfl) (Eq.trans (e_bipush mB31 dX1_init_29 kb_10) (Eq.trans (e_newa mB31 dX1_init_31 rfl nw_10 x_10) (Eq.trans (e_putR mB31 mC31 mK31 dX1_init_33 f_1_22 rfl t_1_3 (kd_nG (by decide) (kd_uG (kd_nG (by decide) (kd_uG (kd_nG (by decide) (kd_uG (kd_nG (by decide) ho0)))))))) (Eq.trans (e_aload_n mB31 dX1_init_36 rfl) (Eq.trans (e_new mB31 mC31 dX1_init_37 kl_1_25 rfl rfl) (Eq.trans (e_dupA mB31 dX1_init_40) (e_spec (as := []) (b := (G.1 + 4)) (rest := [.ref (G.1 + 4), .ref o0]) mB31 mC31 dX1_init_41 no_1_27 q_1_27 (Or.inr rfl) mN85 rfl rfl mX85 rfl rk_31_85 rfl rfl)))))))))))))))))))))
-- SV$Layout.<init> @44
set_option maxRecDepth 4000 in
theorem C31_44 {G : Gt} {o0 : Nat} {p1 : Nat} {I : It} (hG : 1 ≤ G.1) (ho0 : kd G o0 = 1) (hp1 : kd G p1 = 5) : E 31 44 [some (.ref o0)] [.ref p1, .ref o0] G I = some (none, (uG G o0 4 p1), I) :=
  Eq.trans (e_putR mB31 mC31 mK31 dX1_init_44 f_1_28 rfl t_1_4 ho0) (e_retV mB31 dX1_init_47 mR31)
-- SV$Layouts.<init> @0
set_option maxRecDepth 4000 in
theorem C43_0 {G : Gt} {o0 : Nat} {I : It} (hG : 1 ≤ G.1) (ho0 : kd G o0 = 2) : E 43 0 [some (.ref o0), none] [] G I = K2 43 12 [some (.ref o0), none] [.ref G.1, .ref o0] (E 31 0 [some (.ref G.1)] [] (nG G 1 5) (nI0 G I)) :=
  Eq.trans (e_aload_n mB43 dX2_init_0 rfl) (Eq.trans (e_objI mB43 mC43 dX2_init_1 oa_2_3 rfl oc_43) (Eq.trans (e_aload_n mB43 dX2_init_4 rfl) (Eq.trans (e_new mB43 mC43 dX2_init_5 kl_2_9 rfl rfl) (Eq.trans (e_dupA mB43 dX2_init_8) (e_spec (as := []) (b := G.1) (rest := [.ref G.1, .ref o0]) mB43 mC43 dX2_init_9 no_2_11 q_2_11 (Or.inr rfl) mN31 rfl rfl mX31 rfl rk_43_31 rfl rfl)))))
-- SV$Layouts.<init> @12
set_option maxRecDepth 4000 in
theorem C43_12 {G : Gt} {o0 : Nat} {u1 : Option Value} {p1 : Nat} {I : It} (hG : 1 ≤ G.1) (ho0 : kd G o0 = 2) (hp1 : kd G p1 = 1) : E 43 12 [some (.ref o0), u1] [.ref p1, .ref o0] G I = E 43 26 [some (.ref o0), some (.int 0)] [] (uG (nG (uG G o0 0 p1) 53 6) o0 1 G.1) (nI0 (uG G o0 0 p1) I) :=
  Eq.trans (e_putR mB43 mC43 mK43 dX2_init_12 f_2_12 rfl t_2_0 ho0) (Eq.trans (e_aload_n mB43 dX2_init_15 rfl) (Eq.trans (e_bipush mB43 dX2_init_16 kb_6) (Eq.trans (e_anewa mB43 mC43 dX2_init_18 kl_2_9 rfl x_6 rfl) (Eq.trans (e_putR mB43 mC43 mK43 dX2_init_21 f_2_18 rfl t_2_1 (kd_nG (by decide) (kd_uG ho0))) (Eq.trans (e_iconst mB43 dX2_init_24 ki_0) (e_istore_n mB43 dX2_init_25 (sL_k rfl (Or.inr rfl) rfl)))))))
-- SV$Layouts.<init> @26
set_option maxRecDepth 4000 in
theorem C43_26 {G : Gt} {o0 : Nat} {x1 : Int32} {I : It} (hG : 1 ≤ G.1) (ho0 : kd G o0 = 2) {f1 : Nat} (rf1 : rf G o0 1 = some f1) (hf1 : kd G f1 = 53) (lf1 : ln G f1 = 6) : E 43 26 [some (.ref o0), some (.int x1)] [] G I = if 6 ≤ x1 then (some (none, G, I)) else (K2 43 44 [some (.ref o0), some (.int x1)] [.ref G.1, .int x1, .ref f1] (E 31 0 [some (.ref G.1)] [] (nG G 1 5) (nI0 G I))) :=
  Eq.trans (e_iload_n mB43 dX2_init_26 rfl) (Eq.trans (e_bipush mB43 dX2_init_27 kb_6) (Eq.trans (e_cmge mB43 dX2_init_29 rfl) (ite_h (fun g1 => e_retV mB43 dX2_init_51 mR43) (fun g2 => Eq.trans (e_aload_n mB43 dX2_init_32 rfl) (Eq.trans (e_getR mB43 mC43 dX2_init_33 f_2_18 rfl t_2_1 ho0 rf1) (Eq.trans (e_iload_n mB43 dX2_init_36 rfl) (Eq.trans (e_new mB43 mC43 dX2_init_37 kl_2_9 rfl rfl) (Eq.trans (e_dupA mB43 dX2_init_40) (e_spec (as := []) (b := G.1) (rest := [.ref G.1, .int x1, .ref f1]) mB43 mC43 dX2_init_41 no_2_11 q_2_11 (Or.inr rfl) mN31 rfl rfl mX31 rfl rk_43_31 rfl rfl)))))))))
-- SV$Layouts.<init> @44
set_option maxRecDepth 4000 in
theorem C43_44 {G : Gt} {o0 : Nat} {x1 : Int32} {p0 : Nat} {s1 : Int32} {p2 : Nat} {I : It} (hG : 1 ≤ G.1) (ho0 : kd G o0 = 2) (hp0 : kd G p0 = 53) (lp0 : ln G p0 = 6) (hp2 : kd G p2 = 1) : E 43 44 [some (.ref o0), some (.int x1)] [.ref p2, .int s1, .ref p0] G I = ck (inb s1 6) (E 43 26 [some (.ref o0), some (.int (x1 + 1))] [] (uG G p0 (ix s1) p2) I) :=
  Eq.trans (e_aast mB43 dX2_init_44 (Or.inl ⟨hp0, hp2⟩) lp0) (ck_h fun g1 => Eq.trans (e_iinc mB43 dX2_init_45 ki_1 rfl (sL_k rfl (Or.inr rfl) rfl)) (e_goto mB43 dX2_init_48 rfl))
-- SV$Pad.<init> @0
set_option maxRecDepth 4000 in
theorem C49_0 {G : Gt} {o0 : Nat} {I : It} (hG : 1 ≤ G.1) (ho0 : kd G o0 = 3) : E 49 0 [some (.ref o0)] [] G I = K2 49 20 [some (.ref o0)] [.ref (G.1 + 1), .ref o0] (E 85 0 [some (.ref (G.1 + 1))] [] (nG (uG (nG G 52 80) o0 0 G.1) 5 5) (nI0 (uG (nG G 52 80) o0 0 G.1) (nI0 G I))) :=
  Eq.trans (e_aload_n mB49 dX3_init_0 rfl) (Eq.trans (e_objI mB49 mC49 dX3_init_1 oa_3_3 rfl oc_49) (Eq.trans (e_aload_n mB49 dX3_init_4 rfl) (Eq.trans (e_bipush mB49 dX3_init_5 kb_80) (Eq.trans (e_newa mB49 dX3_init_7 rfl nw_80 x_80) (Eq.trans (e_putR mB49 mC49 mK49 dX3_init_9 f_3_9 rfl t_3_0 (kd_nG (by decide) ho0)) (Eq.trans (e_aload_n mB49 dX3_init_12 rfl) (Eq.trans (e_new mB49 mC49 dX3_init_13 kl_3_15 rfl rfl) (Eq.trans (e_dupA mB49 dX3_init_16) (e_spec (as := []) (b := (G.1 + 1)) (rest := [.ref (G.1 + 1), .ref o0]) mB49 mC49 dX3_init_17 no_3_17 q_3_17 (Or.inr rfl) mN85 rfl rfl mX85 rfl rk_49_85 rfl rfl)))))))))
-- SV$Pad.<init> @20
set_option maxRecDepth 4000 in
theorem C49_20 {G : Gt} {o0 : Nat} {p1 : Nat} {I : It} (hG : 1 ≤ G.1) (ho0 : kd G o0 = 3) (hp1 : kd G p1 = 5) : E 49 20 [some (.ref o0)] [.ref p1, .ref o0] G I = some (none, (uG G o0 1 p1), I) :=
  Eq.trans (e_putR mB49 mC49 mK49 dX3_init_20 f_3_18 rfl t_3_1 ho0) (e_retV mB49 dX3_init_23 mR49)
-- SV$Page.<init> @0
set_option maxRecDepth 4000 in
theorem C66_0 {G : Gt} {o0 : Nat} {I : It} (hG : 1 ≤ G.1) (ho0 : kd G o0 = 4) : E 66 0 [some (.ref o0), none] [] G I = E 66 14 [some (.ref o0), some (.int 0)] [] (uG (nG G 50 48) o0 0 G.1) (nI0 G I) :=
  Eq.trans (e_aload_n mB66 dX4_init_0 rfl) (Eq.trans (e_objI mB66 mC66 dX4_init_1 oa_4_3 rfl oc_66) (Eq.trans (e_aload_n mB66 dX4_init_4 rfl) (Eq.trans (e_bipush mB66 dX4_init_5 kb_48) (Eq.trans (e_newa mB66 dX4_init_7 rfl nw_48 x_48) (Eq.trans (e_putR mB66 mC66 mK66 dX4_init_9 f_4_9 rfl t_4_0 (kd_nG (by decide) ho0)) (Eq.trans (e_iconst mB66 dX4_init_12 ki_0) (e_istore_n mB66 dX4_init_13 (sL_k rfl (Or.inr rfl) rfl))))))))
-- SV$Page.<init> @14
set_option maxRecDepth 4000 in
theorem C66_14 {G : Gt} {o0 : Nat} {x1 : Int32} {I : It} (hG : 1 ≤ G.1) (ho0 : kd G o0 = 4) {f0 : Nat} (rf0 : rf G o0 0 = some f0) (hf0 : kd G f0 = 50) (lf0 : ln G f0 = 48) : E 66 14 [some (.ref o0), some (.int x1)] [] G I = if 48 ≤ x1 then (some (none, G, I)) else (ck (inb x1 48) (E 66 14 [some (.ref o0), some (.int (x1 + 1))] [] G (uI I f0 (ix x1) (-6)))) :=
  Eq.trans (e_iload_n mB66 dX4_init_14 rfl) (Eq.trans (e_bipush mB66 dX4_init_15 kb_48) (Eq.trans (e_cmge mB66 dX4_init_17 rfl) (ite_h (fun g1 => e_retV mB66 dX4_init_34 mR66) (fun g2 => Eq.trans (e_aload_n mB66 dX4_init_20 rfl) (Eq.trans (e_getR mB66 mC66 dX4_init_21 f_4_9 rfl t_4_0 ho0 rf0) (Eq.trans (e_iload_n mB66 dX4_init_24 rfl) (Eq.trans (e_bipush mB66 dX4_init_25 kb_m6) (Eq.trans (e_iast mB66 dX4_init_27 hf0 lf0) (ck_h fun g3 => Eq.trans (e_iinc mB66 dX4_init_28 ki_1 rfl (sL_k rfl (Or.inr rfl) rfl)) (e_goto mB66 dX4_init_31 rfl))))))))))
-- SV$Steps.<init> @0
set_option maxRecDepth 4000 in
theorem C85_0 {G : Gt} {o0 : Nat} {I : It} (hG : 1 ≤ G.1) (ho0 : kd G o0 = 5) : E 85 0 [some (.ref o0)] [] G I = some (none, (uG (nG (uG (nG (uG (nG (uG (nG G 50 27) o0 0 G.1) 50 27) o0 1 (G.1 + 1)) 50 27) o0 2 (G.1 + 2)) 50 27) o0 3 (G.1 + 3)), (nI0 (uG (nG (uG (nG (uG (nG G 50 27) o0 0 G.1) 50 27) o0 1 (G.1 + 1)) 50 27) o0 2 (G.1 + 2)) (nI0 (uG (nG (uG (nG G 50 27) o0 0 G.1) 50 27) o0 1 (G.1 + 1)) (nI0 (uG (nG G 50 27) o0 0 G.1) (nI0 G I))))) :=
  Eq.trans (e_aload_n mB85 dX5_init_0 rfl) (Eq.trans (e_objI mB85 mC85 dX5_init_1 oa_5_3 rfl oc_85) (Eq.trans (e_aload_n mB85 dX5_init_4 rfl) (Eq.trans (e_bipush mB85 dX5_init_5 kb_27) (Eq.trans (e_newa mB85 dX5_init_7 rfl nw_27 x_27) (Eq.trans (e_putR mB85 mC85 mK85 dX5_init_9 f_5_9 rfl t_5_0 (kd_nG (by decide) ho0)) (Eq.trans (e_aload_n mB85 dX5_init_12 rfl) (Eq.trans (e_bipush mB85 dX5_init_13 kb_27) (Eq.trans (e_newa mB85 dX5_init_15 rfl nw_27 x_27) (Eq.trans (e_putR mB85 mC85 mK85 dX5_init_17 f_5_15 rfl t_5_1 (kd_nG (by decide) (kd_uG (kd_nG (by decide) ho0)))) (Eq.trans (e_aload_n mB85 dX5_init_20 rfl) (Eq.trans (e_bipush mB85 dX5_init_21 kb_27) (Eq.trans (e_newa mB85 dX5_init_23 rfl nw_27 x_27) (Eq.trans (e_putR mB85 mC85 mK85 dX5_init_25 f_5_18 rfl t_5_2 (kd_nG (by decide) (kd_uG (kd_nG (by decide) (kd_uG (kd_nG (by decide) ho0)))))) (Eq.trans (e_aload_n mB85 dX5_init_28 rfl) (Eq.trans (e_bipush mB85 dX5_init_29 kb_27) (Eq.trans (e_newa mB85 dX5_init_31 rfl nw_27 x_27) (Eq.trans (e_putR mB85 mC85 mK85 dX5_init_33 f_5_21 rfl t_5_3 (kd_nG (by decide) (kd_uG (kd_nG (by decide) (kd_uG (kd_nG (by decide) (kd_uG (kd_nG (by decide) ho0)))))))) (e_retV mB85 dX5_init_36 mR85))))))))))))))))))
-- SV.<init> @0
set_option maxRecDepth 4000 in
theorem C93_0 {G : Gt} {o0 : Nat} {I : It} (hG : 1 ≤ G.1) (ho0 : kd G o0 = 6) : E 93 0 [some (.ref o0), none] [] G I = K2 93 12 [some (.ref o0), none] [.ref G.1, .ref o0] (E 49 0 [some (.ref G.1)] [] (nG G 3 4) (nI0 G I)) :=
  Eq.trans (e_aload_n mB93 dX6_init_0 rfl) (Eq.trans (e_objI mB93 mC93 dX6_init_1 oa_6_1 rfl oc_93) (Eq.trans (e_aload_n mB93 dX6_init_4 rfl) (Eq.trans (e_new mB93 mC93 dX6_init_5 kl_6_7 rfl rfl) (Eq.trans (e_dupA mB93 dX6_init_8) (e_spec (as := []) (b := G.1) (rest := [.ref G.1, .ref o0]) mB93 mC93 dX6_init_9 no_6_9 q_6_9 (Or.inr rfl) mN49 rfl rfl mX49 rfl rk_93_49 rfl rfl)))))
-- SV.<init> @12
set_option maxRecDepth 4000 in
theorem C93_12 {G : Gt} {o0 : Nat} {u1 : Option Value} {p1 : Nat} {I : It} (hG : 1 ≤ G.1) (ho0 : kd G o0 = 6) (hp1 : kd G p1 = 3) : E 93 12 [some (.ref o0), u1] [.ref p1, .ref o0] G I = K2 93 23 [some (.ref o0), u1] [.ref G.1, .ref o0] (E 43 0 [some (.ref G.1), none] [] (nG (uG G o0 0 p1) 2 3) (nI0 (uG G o0 0 p1) I)) :=
  Eq.trans (e_putR mB93 mC93 mK93 dX6_init_12 f_6_10 rfl t_6_0 ho0) (Eq.trans (e_aload_n mB93 dX6_init_15 rfl) (Eq.trans (e_new mB93 mC93 dX6_init_16 kl_6_16 rfl rfl) (Eq.trans (e_dupA mB93 dX6_init_19) (e_spec (as := []) (b := G.1) (rest := [.ref G.1, .ref o0]) mB93 mC93 dX6_init_20 no_6_18 q_6_18 (Or.inl rfl) mN43 rfl rfl mX43 rfl rk_93_43 rfl rfl))))
-- SV.<init> @23
set_option maxRecDepth 4000 in
theorem C93_23 {G : Gt} {o0 : Nat} {u1 : Option Value} {p1 : Nat} {I : It} (hG : 1 ≤ G.1) (ho0 : kd G o0 = 6) (hp1 : kd G p1 = 2) : E 93 23 [some (.ref o0), u1] [.ref p1, .ref o0] G I = K2 93 38 [some (.ref o0), u1] [.ref G.1, .ref o0] (E 0 0 [some (.ref G.1), some (.ref p1)] [] (nG (uG G o0 1 p1) 0 14) (nI0 (uG G o0 1 p1) I)) :=
  Eq.trans (e_putR mB93 mC93 mK93 dX6_init_23 f_6_19 rfl t_6_1 ho0) (Eq.trans (e_aload_n mB93 dX6_init_26 rfl) (Eq.trans (e_new mB93 mC93 dX6_init_27 kl_6_23 rfl rfl) (Eq.trans (e_dupA mB93 dX6_init_30) (Eq.trans (e_aload_n mB93 dX6_init_31 rfl) (Eq.trans (e_getR mB93 mC93 dX6_init_32 f_6_19 rfl t_6_1 (kd_nG (by decide) (kd_uG ho0)) (rf_nG' (by decide) (kd_uG ho0) rf_put)) (e_spec (as := [.ref p1]) (b := G.1) (rest := [.ref G.1, .ref o0]) mB93 mC93 dX6_init_35 no_6_25 q_6_25 (Or.inl rfl) mN0 rfl rfl mX0 rfl rk_93_0 rfl rfl))))))
-- SV.<init> @38
set_option maxRecDepth 4000 in
theorem C93_38 {G : Gt} {o0 : Nat} {u1 : Option Value} {p1 : Nat} {I : It} (hG : 1 ≤ G.1) (ho0 : kd G o0 = 6) (hp1 : kd G p1 = 0) {f1 : Nat} (rf1 : rf G o0 1 = some f1) (hf1 : kd G f1 = 2) (lf1 : ln G f1 = 3) : E 93 38 [some (.ref o0), u1] [.ref p1, .ref o0] G I = K2 93 53 [some (.ref o0), u1] [.ref G.1, .ref o0] (E 0 0 [some (.ref G.1), some (.ref f1)] [] (nG (uG G o0 2 p1) 0 14) (nI0 (uG G o0 2 p1) I)) :=
  Eq.trans (e_putR mB93 mC93 mK93 dX6_init_38 f_6_28 rfl t_6_2 ho0) (Eq.trans (e_aload_n mB93 dX6_init_41 rfl) (Eq.trans (e_new mB93 mC93 dX6_init_42 kl_6_23 rfl rfl) (Eq.trans (e_dupA mB93 dX6_init_45) (Eq.trans (e_aload_n mB93 dX6_init_46 rfl) (Eq.trans (e_getR mB93 mC93 dX6_init_47 f_6_19 rfl t_6_1 (kd_nG (by decide) (kd_uG ho0)) (rf_nG' (by decide) (kd_uG ho0) (rf_uGk (by decide) rf1))) (e_spec (as := [.ref f1]) (b := G.1) (rest := [.ref G.1, .ref o0]) mB93 mC93 dX6_init_50 no_6_25 q_6_25 (Or.inl rfl) mN0 rfl rfl mX0 rfl rk_93_0 rfl rfl))))))
-- SV.<init> @53
set_option maxRecDepth 4000 in
theorem C93_53 {G : Gt} {o0 : Nat} {u1 : Option Value} {p1 : Nat} {I : It} (hG : 1 ≤ G.1) (ho0 : kd G o0 = 6) (hp1 : kd G p1 = 0) : E 93 53 [some (.ref o0), u1] [.ref p1, .ref o0] G I = E 93 66 [some (.ref o0), some (.int 0)] [] (uG (nG (uG G o0 3 p1) 54 2) o0 4 G.1) (nI0 (uG G o0 3 p1) I) :=
  Eq.trans (e_putR mB93 mC93 mK93 dX6_init_53 f_6_32 rfl t_6_3 ho0) (Eq.trans (e_aload_n mB93 dX6_init_56 rfl) (Eq.trans (e_iconst mB93 dX6_init_57 ki_2) (Eq.trans (e_anewa mB93 mC93 dX6_init_58 kl_6_23 rfl x_2 rfl) (Eq.trans (e_putR mB93 mC93 mK93 dX6_init_61 f_6_35 rfl t_6_4 (kd_nG (by decide) (kd_uG ho0))) (Eq.trans (e_iconst mB93 dX6_init_64 ki_0) (e_istore_n mB93 dX6_init_65 (sL_k rfl (Or.inr rfl) rfl)))))))
-- SV.<init> @66
set_option maxRecDepth 4000 in
theorem C93_66 {G : Gt} {o0 : Nat} {x1 : Int32} {I : It} (hG : 1 ≤ G.1) (ho0 : kd G o0 = 6) {f4 : Nat} (rf4 : rf G o0 4 = some f4) (hf4 : kd G f4 = 54) (lf4 : ln G f4 = 2) {f1 : Nat} (rf1 : rf G o0 1 = some f1) (hf1 : kd G f1 = 2) (lf1 : ln G f1 = 3) : E 93 66 [some (.ref o0), some (.int x1)] [] G I = if 2 ≤ x1 then (some (none, (uG (nG G 51 2) o0 5 G.1), (nI0 G I))) else (K2 93 87 [some (.ref o0), some (.int x1)] [.ref G.1, .int x1, .ref f4] (E 0 0 [some (.ref G.1), some (.ref f1)] [] (nG G 0 14) (nI0 G I))) :=
  Eq.trans (e_iload_n mB93 dX6_init_66 rfl) (Eq.trans (e_iconst mB93 dX6_init_67 ki_2) (Eq.trans (e_cmge mB93 dX6_init_68 rfl) (ite_h (fun g1 => Eq.trans (e_aload_n mB93 dX6_init_94 rfl) (Eq.trans (e_iconst mB93 dX6_init_95 ki_2) (Eq.trans (e_newa mB93 dX6_init_96 rfl nw_2 x_2) (Eq.trans (e_putR mB93 mC93 mK93 dX6_init_98 f_6_39 rfl t_6_5 (kd_nG (by decide) ho0)) (e_retV mB93 dX6_init_101 mR93))))) (fun g2 => Eq.trans (e_aload_n mB93 dX6_init_71 rfl) (Eq.trans (e_getR mB93 mC93 dX6_init_72 f_6_35 rfl t_6_4 ho0 rf4) (Eq.trans (e_iload_n mB93 dX6_init_75 rfl) (Eq.trans (e_new mB93 mC93 dX6_init_76 kl_6_23 rfl rfl) (Eq.trans (e_dupA mB93 dX6_init_79) (Eq.trans (e_aload_n mB93 dX6_init_80 rfl) (Eq.trans (e_getR mB93 mC93 dX6_init_81 f_6_19 rfl t_6_1 (kd_nG (by decide) ho0) (rf_nG' (by decide) ho0 rf1)) (e_spec (as := [.ref f1]) (b := G.1) (rest := [.ref G.1, .int x1, .ref f4]) mB93 mC93 dX6_init_84 no_6_25 q_6_25 (Or.inl rfl) mN0 rfl rfl mX0 rfl rk_93_0 rfl rfl)))))))))))
-- SV.<init> @87
set_option maxRecDepth 4000 in
theorem C93_87 {G : Gt} {o0 : Nat} {x1 : Int32} {p0 : Nat} {s1 : Int32} {p2 : Nat} {I : It} (hG : 1 ≤ G.1) (ho0 : kd G o0 = 6) (hp0 : kd G p0 = 54) (lp0 : ln G p0 = 2) (hp2 : kd G p2 = 0) : E 93 87 [some (.ref o0), some (.int x1)] [.ref p2, .int s1, .ref p0] G I = ck (inb s1 2) (E 93 66 [some (.ref o0), some (.int (x1 + 1))] [] (uG G p0 (ix s1) p2) I) :=
  Eq.trans (e_aast mB93 dX6_init_87 (Or.inr ⟨hp0, hp2⟩) lp0) (ck_h fun g1 => Eq.trans (e_iinc mB93 dX6_init_88 ki_1 rfl (sL_k rfl (Or.inr rfl) rfl)) (e_goto mB93 dX6_init_91 rfl))
-- SVLaw.law @0
set_option maxRecDepth 4000 in
theorem C135_0 {G : Gt} {o0 : Nat} {I : It} (hG : 1 ≤ G.1)  : E 135 0 [some (.ref o0), none, none, none, none] [] G I = K2 135 7 [some (.ref o0), none, none, none, none] [.ref G.1] (E 93 0 [some (.ref G.1), none] [] (nG G 6 6) (nI0 G I)) :=
  Eq.trans (e_new mB135 mC135 dL_law_0 kl_8_9 rfl rfl) (Eq.trans (e_dupA mB135 dL_law_3) (e_spec (as := []) (b := G.1) (rest := [.ref G.1]) mB135 mC135 dL_law_4 no_8_11 q_8_11 (Or.inl rfl) mN93 rfl rfl mX93 rfl rk_135_93 rfl rfl))
