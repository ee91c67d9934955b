-- SV.define @0
set_option maxRecDepth 4000 in
theorem B94_0 {L : Nat × Nat} {I : It}  : E 94 0 [some (.ref 1)] [] (GG L) I = K2 94 7 [some (.ref 1)] [] (E 55 0 [some (.ref 2), none] [] (GG L) I) :=
  Eq.trans (e_aload_n mB94 dX6_define_0 rfl) (Eq.trans (e_getR mB94 mC94 dX6_define_1 f_6_10 rfl t_6_0 k_1 (w_6_0 k_1)) (e_virt (as := []) (b := 2) (rest := []) mB94 mC94 dX6_define_4 q_6_43 mN55 rfl rfl (wk_6_0 k_1) mC55 mX55 rfl rk_94_55 rfl rfl))
-- SV.define @7
set_option maxRecDepth 4000 in
theorem B94_7 {L : Nat × Nat} {s0 : Int32} {I : It}  : E 94 7 [some (.ref 1)] [.int s0] (GG L) I = if s0 = (-6) then (K2 94 22 [some (.ref 1)] [] (E 44 0 [some (.ref 9)] [] (GG L) I)) else (some (some (.int (-3)), GG L, I)) :=
  Eq.trans (e_bipush mB94 dX6_define_7 kb_m6) (Eq.trans (e_cmeq mB94 dX6_define_9 rfl) (ite_h (fun g1 => Eq.trans (e_aload_n mB94 dX6_define_15 rfl) (Eq.trans (e_getR mB94 mC94 dX6_define_16 f_6_19 rfl t_6_1 k_1 (w_6_1 k_1)) (e_virt (as := []) (b := 9) (rest := []) mB94 mC94 dX6_define_19 q_6_47 mN44 rfl rfl (wk_6_1 k_1) mC44 mX44 rfl rk_94_44 rfl rfl))) (fun g2 => Eq.trans (e_bipush mB94 dX6_define_12 kb_m3) (e_retI mB94 dX6_define_14 mR94))))
-- SV.define @22
set_option maxRecDepth 4000 in
theorem B94_22 {L : Nat × Nat} {s0 : Int32} {I : It}  : E 94 22 [some (.ref 1)] [.int s0] (GG L) I = if s0 < 6 then (K2 94 41 [some (.ref 1)] [.ref 9] (E 51 0 [some (.ref 2)] [] (GG L) I)) else (some (some (.int (-4)), GG L, I)) :=
  Eq.trans (e_bipush mB94 dX6_define_22 kb_6) (Eq.trans (e_cmlt mB94 dX6_define_24 rfl) (ite_h (fun g1 => Eq.trans (e_aload_n mB94 dX6_define_30 rfl) (Eq.trans (e_getR mB94 mC94 dX6_define_31 f_6_19 rfl t_6_1 k_1 (w_6_1 k_1)) (Eq.trans (e_aload_n mB94 dX6_define_34 rfl) (Eq.trans (e_getR mB94 mC94 dX6_define_35 f_6_10 rfl t_6_0 k_1 (w_6_0 k_1)) (e_virt (as := []) (b := 2) (rest := [.ref 9]) mB94 mC94 dX6_define_38 q_6_50 mN51 rfl rfl (wk_6_0 k_1) mC51 mX51 rfl rk_94_51 rfl rfl))))) (fun g2 => Eq.trans (e_bipush mB94 dX6_define_27 kb_m4) (e_retI mB94 dX6_define_29 mR94))))
-- SV.define @41
set_option maxRecDepth 4000 in
theorem B94_41 {L : Nat × Nat} {p1 : Nat} {I : It} (hp1 : kd (GG L) p1 = 5) : E 94 41 [some (.ref 1)] [.ref p1, .ref 9] (GG L) I = K2 94 44 [some (.ref 1)] [] (E 47 0 [some (.ref 9), some (.ref p1)] [] (GG L) I) :=
  e_virt (as := [.ref p1]) (b := 9) (rest := []) mB94 mC94 dX6_define_41 q_6_54 mN47 rfl rfl k_9 mC47 mX47 rfl rk_94_47 rfl rfl
-- SV.define @44
set_option maxRecDepth 4000 in
theorem B94_44 {L : Nat × Nat} {s0 : Int32} {I : It}  : E 94 44 [some (.ref 1)] [.int s0] (GG L) I = if s0 = 0 then (some (some (.int (-5)), GG L, I)) else (K2 94 57 [some (.ref 1)] [] (E 52 0 [some (.ref 2)] [] (GG L) I)) :=
  Eq.trans (e_ifne mB94 dX6_define_44 rfl) (ite_h (fun g1 => Eq.trans (e_bipush mB94 dX6_define_47 kb_m5) (e_retI mB94 dX6_define_49 mR94)) (fun g2 => Eq.trans (e_aload_n mB94 dX6_define_50 rfl) (Eq.trans (e_getR mB94 mC94 dX6_define_51 f_6_10 rfl t_6_0 k_1 (w_6_0 k_1)) (e_virt (as := []) (b := 2) (rest := []) mB94 mC94 dX6_define_54 q_6_58 mN52 rfl rfl (wk_6_0 k_1) mC52 mX52 rfl rk_94_52 rfl rfl))))
-- SV.define @57
set_option maxRecDepth 4000 in
theorem B94_57 {L : Nat × Nat} {I : It}  : E 94 57 [some (.ref 1)] [] (GG L) I = K2 94 64 [some (.ref 1)] [] (E 44 0 [some (.ref 9)] [] (GG L) I) :=
  Eq.trans (e_aload_n mB94 dX6_define_57 rfl) (Eq.trans (e_getR mB94 mC94 dX6_define_58 f_6_19 rfl t_6_1 k_1 (w_6_1 k_1)) (e_virt (as := []) (b := 9) (rest := []) mB94 mC94 dX6_define_61 q_6_47 mN44 rfl rfl (wk_6_1 k_1) mC44 mX44 rfl rk_94_44 rfl rfl))
-- SV.define @64
set_option maxRecDepth 4000 in
theorem B94_64 {L : Nat × Nat} {u0 : Option Value} {s0 : Int32} {I : It}  : E 94 64 [u0] [.int s0] (GG L) I = some (some (.int (s0 - 1)), GG L, I) :=
  Eq.trans (e_iconst mB94 dX6_define_64 ki_1) (Eq.trans (e_isub mB94 dX6_define_65) (e_retI mB94 dX6_define_66 mR94))
-- SV.layout @0
set_option maxRecDepth 4000 in
theorem B95_0 {L : Nat × Nat} {x1 : Int32} {x2 : Int32} {x3 : Int32} {I : It}  : E 95 0 [some (.ref 1), some (.int x1), some (.int x2), some (.int x3), none] [] (GG L) I = K2 95 8 [some (.ref 1), some (.int x1), some (.int x2), some (.int x3), none] [] (E 46 0 [some (.ref 9), some (.int x1)] [] (GG L) I) :=
  Eq.trans (e_aload_n mB95 dX6_layout_0 rfl) (Eq.trans (e_getR mB95 mC95 dX6_layout_1 f_6_19 rfl t_6_1 k_1 (w_6_1 k_1)) (Eq.trans (e_iload_n mB95 dX6_layout_4 rfl) (e_virt (as := [.int x1]) (b := 9) (rest := []) mB95 mC95 dX6_layout_5 q_6_61 mN46 rfl rfl (wk_6_1 k_1) mC46 mX46 rfl rk_95_46 rfl rfl)))
-- SV.layout @8
set_option maxRecDepth 4000 in
theorem B95_8 {L : Nat × Nat} {u0 : Option Value} {u1 : Option Value} {x2 : Int32} {x3 : Int32} {u4 : Option Value} {p0 : Nat} {I : It} (hp0 : kd (GG L) p0 = 1) : E 95 8 [u0, u1, some (.int x2), some (.int x3), u4] [.ref p0] (GG L) I = K2 95 16 [u0, u1, some (.int x2), some (.int x3), some (.ref p0)] [] (E 32 0 [some (.ref p0), some (.int x2)] [] (GG L) I) :=
  Eq.trans (e_astore mB95 dX6_layout_8 (sL_k rfl (Or.inr rfl) rfl)) (Eq.trans (e_aload mB95 dX6_layout_10 rfl) (Eq.trans (e_iload_n mB95 dX6_layout_12 rfl) (e_virt (as := [.int x2]) (b := p0) (rest := []) mB95 mC95 dX6_layout_13 q_6_65 mN32 rfl rfl hp0 mC32 mX32 rfl rk_95_32 rfl rfl)))
-- SV.layout @16
set_option maxRecDepth 4000 in
theorem B95_16 {L : Nat × Nat} {u0 : Option Value} {u1 : Option Value} {x2 : Int32} {x3 : Int32} {o4 : Nat} {s0 : Int32} {I : It} (ho4 : kd (GG L) o4 = 1) : E 95 16 [u0, u1, some (.int x2), some (.int x3), some (.ref o4)] [.int s0] (GG L) I = if s0 = 0 then (some (some (.int (-1)), GG L, I)) else (E 95 (swt (x3 : Int32).toInt 0 [48, 55, 62] 69) [u0, u1, some (.int x2), some (.int x3), some (.ref o4)] [] (GG L) I) :=
  Eq.trans (e_ifne mB95 dX6_layout_16 rfl) (ite_h (fun g1 => Eq.trans (e_iconst mB95 dX6_layout_19 ki_m1) (e_retI mB95 dX6_layout_20 mR95)) (fun g2 => Eq.trans (e_iload_n mB95 dX6_layout_21 rfl) (e_tsw (l := [48, 55, 62]) mB95 dX6_layout_22 rfl rfl rfl)))
-- SV.layout @48
set_option maxRecDepth 4000 in
theorem B95_48 {L : Nat × Nat} {u0 : Option Value} {u1 : Option Value} {x2 : Int32} {u3 : Option Value} {o4 : Nat} {I : It} (ho4 : kd (GG L) o4 = 1) : E 95 48 [u0, u1, some (.int x2), u3, some (.ref o4)] [] (GG L) I = K2 95 54 [u0, u1, some (.int x2), u3, some (.ref o4)] [] (E 33 0 [some (.ref o4), some (.int x2)] [] (GG L) I) :=
  Eq.trans (e_aload mB95 dX6_layout_48 rfl) (Eq.trans (e_iload_n mB95 dX6_layout_50 rfl) (e_virt (as := [.int x2]) (b := o4) (rest := []) mB95 mC95 dX6_layout_51 q_6_71 mN33 rfl rfl ho4 mC33 mX33 rfl rk_95_33 rfl rfl))
-- SV.layout @54
set_option maxRecDepth 4000 in
theorem B95_54 {L : Nat × Nat} {u0 : Option Value} {u1 : Option Value} {u2 : Option Value} {u3 : Option Value} {u4 : Option Value} {s0 : Int32} {I : It}  : E 95 54 [u0, u1, u2, u3, u4] [.int s0] (GG L) I = some (some (.int s0), GG L, I) :=
  e_retI mB95 dX6_layout_54 mR95
-- SV.layout @55
set_option maxRecDepth 4000 in
theorem B95_55 {L : Nat × Nat} {u0 : Option Value} {u1 : Option Value} {x2 : Int32} {u3 : Option Value} {o4 : Nat} {I : It} (ho4 : kd (GG L) o4 = 1) : E 95 55 [u0, u1, some (.int x2), u3, some (.ref o4)] [] (GG L) I = K2 95 61 [u0, u1, some (.int x2), u3, some (.ref o4)] [] (E 34 0 [some (.ref o4), some (.int x2)] [] (GG L) I) :=
  Eq.trans (e_aload mB95 dX6_layout_55 rfl) (Eq.trans (e_iload_n mB95 dX6_layout_57 rfl) (e_virt (as := [.int x2]) (b := o4) (rest := []) mB95 mC95 dX6_layout_58 q_6_75 mN34 rfl rfl ho4 mC34 mX34 rfl rk_95_34 rfl rfl))
-- SV.layout @61
set_option maxRecDepth 4000 in
theorem B95_61 {L : Nat × Nat} {u0 : Option Value} {u1 : Option Value} {u2 : Option Value} {u3 : Option Value} {u4 : Option Value} {s0 : Int32} {I : It}  : E 95 61 [u0, u1, u2, u3, u4] [.int s0] (GG L) I = some (some (.int s0), GG L, I) :=
  e_retI mB95 dX6_layout_61 mR95
-- SV.layout @62
set_option maxRecDepth 4000 in
theorem B95_62 {L : Nat × Nat} {u0 : Option Value} {u1 : Option Value} {x2 : Int32} {u3 : Option Value} {o4 : Nat} {I : It} (ho4 : kd (GG L) o4 = 1) : E 95 62 [u0, u1, some (.int x2), u3, some (.ref o4)] [] (GG L) I = K2 95 68 [u0, u1, some (.int x2), u3, some (.ref o4)] [] (E 35 0 [some (.ref o4), some (.int x2)] [] (GG L) I) :=
  Eq.trans (e_aload mB95 dX6_layout_62 rfl) (Eq.trans (e_iload_n mB95 dX6_layout_64 rfl) (e_virt (as := [.int x2]) (b := o4) (rest := []) mB95 mC95 dX6_layout_65 q_6_78 mN35 rfl rfl ho4 mC35 mX35 rfl rk_95_35 rfl rfl))
-- SV.layout @68
set_option maxRecDepth 4000 in
theorem B95_68 {L : Nat × Nat} {u0 : Option Value} {u1 : Option Value} {u2 : Option Value} {u3 : Option Value} {u4 : Option Value} {s0 : Int32} {I : It}  : E 95 68 [u0, u1, u2, u3, u4] [.int s0] (GG L) I = some (some (.int s0), GG L, I) :=
  e_retI mB95 dX6_layout_68 mR95
-- SV.layout @69
set_option maxRecDepth 4000 in
theorem B95_69 {L : Nat × Nat} {u0 : Option Value} {u1 : Option Value} {u2 : Option Value} {u3 : Option Value} {u4 : Option Value} {I : It}  : E 95 69 [u0, u1, u2, u3, u4] [] (GG L) I = some (some (.int (-2)), GG L, I) :=
  Eq.trans (e_bipush mB95 dX6_layout_69 kb_m2) (e_retI mB95 dX6_layout_71 mR95)
-- SV.fail @0
set_option maxRecDepth 4000 in
theorem B96_0 {L : Nat × Nat} {x1 : Int32} {I : It}  : E 96 0 [some (.ref 1), some (.int x1), none] [] (GG L) I = if x1 = (-6) then (K2 96 23 [some (.ref 1), some (.int x1), none] [] (E 2 0 [some (.ref 81)] [] (GG L) I)) else (K2 96 10 [some (.ref 1), some (.int x1), none] [] (E 118 0 [some (.int x1)] [] (GG L) I)) :=
  Eq.trans (e_iload_n mB96 dX6_fail_0 rfl) (Eq.trans (e_bipush mB96 dX6_fail_1 kb_m6) (Eq.trans (e_cmeq mB96 dX6_fail_3 rfl) (ite_h (fun g1 => Eq.trans (e_aload_n mB96 dX6_fail_16 rfl) (Eq.trans (e_getR mB96 mC96 dX6_fail_17 f_6_28 rfl t_6_2 k_1 (w_6_2 k_1)) (e_virt (as := []) (b := 81) (rest := []) mB96 mC96 dX6_fail_20 q_6_84 mN2 rfl rfl (wk_6_2 k_1) mC2 mX2 rfl rk_96_2 rfl rfl))) (fun g2 => Eq.trans (e_iload_n mB96 dX6_fail_6 rfl) (e_stat (as := [.int x1]) (rest := []) mB96 mC96 dX6_fail_7 na_6_81 q_6_81 (Or.inl rfl) mN118 rfl rfl mX118 rfl rk_96_118 rfl rfl)))))
-- SV.fail @10
set_option maxRecDepth 4000 in
theorem B96_10 {L : Nat × Nat} {x1 : Int32} {u2 : Option Value} {s0 : Int32} {I : It}  : E 96 10 [some (.ref 1), some (.int x1), u2] [.int s0] (GG L) I = if s0 = 0 then (some (some (.int (-2)), GG L, I)) else (K2 96 23 [some (.ref 1), some (.int x1), u2] [] (E 2 0 [some (.ref 81)] [] (GG L) I)) :=
  Eq.trans (e_ifne mB96 dX6_fail_10 rfl) (ite_h (fun g1 => Eq.trans (e_bipush mB96 dX6_fail_13 kb_m2) (e_retI mB96 dX6_fail_15 mR96)) (fun g2 => Eq.trans (e_aload_n mB96 dX6_fail_16 rfl) (Eq.trans (e_getR mB96 mC96 dX6_fail_17 f_6_28 rfl t_6_2 k_1 (w_6_2 k_1)) (e_virt (as := []) (b := 81) (rest := []) mB96 mC96 dX6_fail_20 q_6_84 mN2 rfl rfl (wk_6_2 k_1) mC2 mX2 rfl rk_96_2 rfl rfl))))
-- SV.fail @23
set_option maxRecDepth 4000 in
theorem B96_23 {L : Nat × Nat} {x1 : Int32} {u2 : Option Value} {s0 : Int32} {I : It}  : E 96 23 [some (.ref 1), some (.int x1), u2] [.int s0] (GG L) I = if s0 = 0 then (some (some (.int (-5)), GG L, I)) else (K2 96 36 [some (.ref 1), some (.int x1), u2] [] (E 4 0 [some (.ref 81)] [] (GG L) I)) :=
  Eq.trans (e_ifne mB96 dX6_fail_23 rfl) (ite_h (fun g1 => Eq.trans (e_bipush mB96 dX6_fail_26 kb_m5) (e_retI mB96 dX6_fail_28 mR96)) (fun g2 => Eq.trans (e_aload_n mB96 dX6_fail_29 rfl) (Eq.trans (e_getR mB96 mC96 dX6_fail_30 f_6_28 rfl t_6_2 k_1 (w_6_2 k_1)) (e_virt (as := []) (b := 81) (rest := []) mB96 mC96 dX6_fail_33 q_6_88 mN4 rfl rfl (wk_6_2 k_1) mC4 mX4 rfl rk_96_4 rfl rfl))))
-- SV.fail @36
set_option maxRecDepth 4000 in
theorem B96_36 {L : Nat × Nat} {x1 : Int32} {u2 : Option Value} {s0 : Int32} {I : It}  : E 96 36 [some (.ref 1), some (.int x1), u2] [.int s0] (GG L) I = if s0 = (-6) then (K2 96 55 [some (.ref 1), some (.int x1), some (.int 0)] [] (E 16 0 [some (.ref 81), some (.int x1)] [] (GG L) I)) else (K2 96 55 [some (.ref 1), some (.int x1), some (.int 1)] [] (E 16 0 [some (.ref 81), some (.int x1)] [] (GG L) I)) :=
  Eq.trans (e_bipush mB96 dX6_fail_36 kb_m6) (Eq.trans (e_cmne mB96 dX6_fail_38 rfl) (ite_h (fun g1 => Eq.trans (e_iconst mB96 dX6_fail_41 ki_0) (Eq.trans (e_goto mB96 dX6_fail_42 rfl) (Eq.trans (e_istore_n mB96 dX6_fail_46 (sL_k rfl (Or.inr rfl) rfl)) (Eq.trans (e_aload_n mB96 dX6_fail_47 rfl) (Eq.trans (e_getR mB96 mC96 dX6_fail_48 f_6_28 rfl t_6_2 k_1 (w_6_2 k_1)) (Eq.trans (e_iload_n mB96 dX6_fail_51 rfl) (e_virt (as := [.int x1]) (b := 81) (rest := []) mB96 mC96 dX6_fail_52 q_6_91 mN16 rfl rfl (wk_6_2 k_1) mC16 mX16 rfl rk_96_16 rfl rfl))))))) (fun g2 => Eq.trans (e_iconst mB96 dX6_fail_45 ki_1) (Eq.trans (e_istore_n mB96 dX6_fail_46 (sL_k rfl (Or.inr rfl) rfl)) (Eq.trans (e_aload_n mB96 dX6_fail_47 rfl) (Eq.trans (e_getR mB96 mC96 dX6_fail_48 f_6_28 rfl t_6_2 k_1 (w_6_2 k_1)) (Eq.trans (e_iload_n mB96 dX6_fail_51 rfl) (e_virt (as := [.int x1]) (b := 81) (rest := []) mB96 mC96 dX6_fail_52 q_6_91 mN16 rfl rfl (wk_6_2 k_1) mC16 mX16 rfl rk_96_16 rfl rfl))))))))
-- SV.fail @55
set_option maxRecDepth 4000 in
theorem B96_55 {L : Nat × Nat} {u0 : Option Value} {u1 : Option Value} {x2 : Int32} {I : It}  : E 96 55 [u0, u1, some (.int x2)] [] (GG L) I = some (some (.int x2), GG L, I) :=
  Eq.trans (e_iload_n mB96 dX6_fail_55 rfl) (e_retI mB96 dX6_fail_56 mR96)
-- SV.start @0
set_option maxRecDepth 4000 in
theorem B97_0 {L : Nat × Nat} {I : It}  : E 97 0 [some (.ref 1)] [] (GG L) I = K2 97 7 [some (.ref 1)] [] (E 17 0 [some (.ref 81)] [] (GG L) I) :=
  Eq.trans (e_aload_n mB97 dX6_start_0 rfl) (Eq.trans (e_getR mB97 mC97 dX6_start_1 f_6_28 rfl t_6_2 k_1 (w_6_2 k_1)) (e_virt (as := []) (b := 81) (rest := []) mB97 mC97 dX6_start_4 q_6_95 mN17 rfl rfl (wk_6_2 k_1) mC17 mX17 rfl rk_97_17 rfl rfl))
-- SV.start @7
set_option maxRecDepth 4000 in
theorem B97_7 {L : Nat × Nat} {I : It}  : E 97 7 [some (.ref 1)] [] (GG L) I = K2 97 14 [some (.ref 1)] [] (E 5 0 [some (.ref 81)] [] (GG L) I) :=
  Eq.trans (e_aload_n mB97 dX6_start_7 rfl) (Eq.trans (e_getR mB97 mC97 dX6_start_8 f_6_28 rfl t_6_2 k_1 (w_6_2 k_1)) (e_virt (as := []) (b := 81) (rest := []) mB97 mC97 dX6_start_11 q_6_98 mN5 rfl rfl (wk_6_2 k_1) mC5 mX5 rfl rk_97_5 rfl rfl))
-- SV.start @14
set_option maxRecDepth 4000 in
theorem B97_14 {L : Nat × Nat} {u0 : Option Value} {s0 : Int32} {I : It}  : E 97 14 [u0] [.int s0] (GG L) I = some (some (.int s0), GG L, I) :=
  e_retI mB97 dX6_start_14 mR97
-- SV.get @0
set_option maxRecDepth 4000 in
theorem B98_0 {L : Nat × Nat} {x1 : Int32} {I : It}  : E 98 0 [some (.ref 1), some (.int x1)] [] (GG L) I = K2 98 7 [some (.ref 1), some (.int x1)] [] (E 2 0 [some (.ref 81)] [] (GG L) I) :=
  Eq.trans (e_aload_n mB98 dX6_get_0 rfl) (Eq.trans (e_getR mB98 mC98 dX6_get_1 f_6_28 rfl t_6_2 k_1 (w_6_2 k_1)) (e_virt (as := []) (b := 81) (rest := []) mB98 mC98 dX6_get_4 q_6_84 mN2 rfl rfl (wk_6_2 k_1) mC2 mX2 rfl rk_98_2 rfl rfl))
-- SV.get @7
set_option maxRecDepth 4000 in
theorem B98_7 {L : Nat × Nat} {x1 : Int32} {s0 : Int32} {I : It}  : E 98 7 [some (.ref 1), some (.int x1)] [.int s0] (GG L) I = if s0 = 0 then (some (some (.int (-5)), GG L, I)) else (K2 98 20 [some (.ref 1), some (.int x1)] [] (E 10 0 [some (.ref 81)] [] (GG L) I)) :=
  Eq.trans (e_ifne mB98 dX6_get_7 rfl) (ite_h (fun g1 => Eq.trans (e_bipush mB98 dX6_get_10 kb_m5) (e_retI mB98 dX6_get_12 mR98)) (fun g2 => Eq.trans (e_aload_n mB98 dX6_get_13 rfl) (Eq.trans (e_getR mB98 mC98 dX6_get_14 f_6_28 rfl t_6_2 k_1 (w_6_2 k_1)) (e_virt (as := []) (b := 81) (rest := []) mB98 mC98 dX6_get_17 q_6_101 mN10 rfl rfl (wk_6_2 k_1) mC10 mX10 rfl rk_98_10 rfl rfl))))
-- SV.get @20
set_option maxRecDepth 4000 in
theorem B98_20 {L : Nat × Nat} {x1 : Int32} {p0 : Nat} {I : It} (hp0 : kd (GG L) p0 = 1) : E 98 20 [some (.ref 1), some (.int x1)] [.ref p0] (GG L) I = K2 98 24 [some (.ref 1), some (.int x1)] [] (E 32 0 [some (.ref p0), some (.int x1)] [] (GG L) I) :=
  Eq.trans (e_iload_n mB98 dX6_get_20 rfl) (e_virt (as := [.int x1]) (b := p0) (rest := []) mB98 mC98 dX6_get_21 q_6_65 mN32 rfl rfl hp0 mC32 mX32 rfl rk_98_32 rfl rfl)
-- SV.get @24
set_option maxRecDepth 4000 in
theorem B98_24 {L : Nat × Nat} {x1 : Int32} {s0 : Int32} {I : It}  : E 98 24 [some (.ref 1), some (.int x1)] [.int s0] (GG L) I = if s0 = 0 then (some (some (.int (-1)), GG L, I)) else (K2 98 35 [some (.ref 1), some (.int x1)] [] (E 11 0 [some (.ref 81), some (.int x1)] [] (GG L) I)) :=
  Eq.trans (e_ifeq mB98 dX6_get_24 rfl) (ite_h (fun g1 => Eq.trans (e_iconst mB98 dX6_get_38 ki_m1) (e_retI mB98 dX6_get_39 mR98)) (fun g2 => Eq.trans (e_aload_n mB98 dX6_get_27 rfl) (Eq.trans (e_getR mB98 mC98 dX6_get_28 f_6_28 rfl t_6_2 k_1 (w_6_2 k_1)) (Eq.trans (e_iload_n mB98 dX6_get_31 rfl) (e_virt (as := [.int x1]) (b := 81) (rest := []) mB98 mC98 dX6_get_32 q_6_105 mN11 rfl rfl (wk_6_2 k_1) mC11 mX11 rfl rk_98_11 rfl rfl)))))
-- SV.get @35
set_option maxRecDepth 4000 in
theorem B98_35 {L : Nat × Nat} {u0 : Option Value} {u1 : Option Value} {s0 : Int32} {I : It}  : E 98 35 [u0, u1] [.int s0] (GG L) I = some (some (.int s0), GG L, I) :=
  Eq.trans (e_goto mB98 dX6_get_35 rfl) (e_retI mB98 dX6_get_39 mR98)
-- SV.set @0
set_option maxRecDepth 4000 in
theorem B99_0 {L : Nat × Nat} {x1 : Int32} {x2 : Int32} {I : It}  : E 99 0 [some (.ref 1), some (.int x1), some (.int x2)] [] (GG L) I = K2 99 7 [some (.ref 1), some (.int x1), some (.int x2)] [] (E 2 0 [some (.ref 81)] [] (GG L) I) :=
  Eq.trans (e_aload_n mB99 dX6_set_0 rfl) (Eq.trans (e_getR mB99 mC99 dX6_set_1 f_6_28 rfl t_6_2 k_1 (w_6_2 k_1)) (e_virt (as := []) (b := 81) (rest := []) mB99 mC99 dX6_set_4 q_6_84 mN2 rfl rfl (wk_6_2 k_1) mC2 mX2 rfl rk_99_2 rfl rfl))
-- SV.set @7
set_option maxRecDepth 4000 in
theorem B99_7 {L : Nat × Nat} {x1 : Int32} {x2 : Int32} {s0 : Int32} {I : It}  : E 99 7 [some (.ref 1), some (.int x1), some (.int x2)] [.int s0] (GG L) I = if s0 = 0 then (some (some (.int (-5)), GG L, I)) else (K2 99 20 [some (.ref 1), some (.int x1), some (.int x2)] [] (E 10 0 [some (.ref 81)] [] (GG L) I)) :=
  Eq.trans (e_ifne mB99 dX6_set_7 rfl) (ite_h (fun g1 => Eq.trans (e_bipush mB99 dX6_set_10 kb_m5) (e_retI mB99 dX6_set_12 mR99)) (fun g2 => Eq.trans (e_aload_n mB99 dX6_set_13 rfl) (Eq.trans (e_getR mB99 mC99 dX6_set_14 f_6_28 rfl t_6_2 k_1 (w_6_2 k_1)) (e_virt (as := []) (b := 81) (rest := []) mB99 mC99 dX6_set_17 q_6_101 mN10 rfl rfl (wk_6_2 k_1) mC10 mX10 rfl rk_99_10 rfl rfl))))
-- SV.set @20
set_option maxRecDepth 4000 in
theorem B99_20 {L : Nat × Nat} {x1 : Int32} {x2 : Int32} {p0 : Nat} {I : It} (hp0 : kd (GG L) p0 = 1) : E 99 20 [some (.ref 1), some (.int x1), some (.int x2)] [.ref p0] (GG L) I = K2 99 24 [some (.ref 1), some (.int x1), some (.int x2)] [] (E 32 0 [some (.ref p0), some (.int x1)] [] (GG L) I) :=
  Eq.trans (e_iload_n mB99 dX6_set_20 rfl) (e_virt (as := [.int x1]) (b := p0) (rest := []) mB99 mC99 dX6_set_21 q_6_65 mN32 rfl rfl hp0 mC32 mX32 rfl rk_99_32 rfl rfl)
-- SV.set @24
set_option maxRecDepth 4000 in
theorem B99_24 {L : Nat × Nat} {x1 : Int32} {x2 : Int32} {s0 : Int32} {I : It}  : E 99 24 [some (.ref 1), some (.int x1), some (.int x2)] [.int s0] (GG L) I = if s0 = 0 then (some (some (.int (-1)), GG L, I)) else (K2 99 36 [some (.ref 1), some (.int x1), some (.int x2)] [] (E 10 0 [some (.ref 81)] [] (GG L) I)) :=
  Eq.trans (e_ifne mB99 dX6_set_24 rfl) (ite_h (fun g1 => Eq.trans (e_iconst mB99 dX6_set_27 ki_m1) (e_retI mB99 dX6_set_28 mR99)) (fun g2 => Eq.trans (e_aload_n mB99 dX6_set_29 rfl) (Eq.trans (e_getR mB99 mC99 dX6_set_30 f_6_28 rfl t_6_2 k_1 (w_6_2 k_1)) (e_virt (as := []) (b := 81) (rest := []) mB99 mC99 dX6_set_33 q_6_101 mN10 rfl rfl (wk_6_2 k_1) mC10 mX10 rfl rk_99_10 rfl rfl))))
-- SV.set @36
set_option maxRecDepth 4000 in
theorem B99_36 {L : Nat × Nat} {x1 : Int32} {x2 : Int32} {p0 : Nat} {I : It} (hp0 : kd (GG L) p0 = 1) : E 99 36 [some (.ref 1), some (.int x1), some (.int x2)] [.ref p0] (GG L) I = K2 99 41 [some (.ref 1), some (.int x1), some (.int x2)] [] (E 36 0 [some (.ref p0), some (.int x1), some (.int x2)] [] (GG L) I) :=
  Eq.trans (e_iload_n mB99 dX6_set_36 rfl) (Eq.trans (e_iload_n mB99 dX6_set_37 rfl) (e_virt (as := [.int x2, .int x1]) (b := p0) (rest := []) mB99 mC99 dX6_set_38 q_6_108 mN36 rfl rfl hp0 mC36 mX36 rfl rk_99_36 rfl rfl))
-- SV.set @41
set_option maxRecDepth 4000 in
theorem B99_41 {L : Nat × Nat} {x1 : Int32} {x2 : Int32} {s0 : Int32} {I : It}  : E 99 41 [some (.ref 1), some (.int x1), some (.int x2)] [.int s0] (GG L) I = if s0 = 0 then (some (some (.int (-2)), GG L, I)) else (K2 99 56 [some (.ref 1), some (.int x1), some (.int x2)] [] (E 21 0 [some (.ref 81), some (.int x1), some (.int x2), none] [] (GG L) I)) :=
  Eq.trans (e_ifne mB99 dX6_set_41 rfl) (ite_h (fun g1 => Eq.trans (e_bipush mB99 dX6_set_44 kb_m2) (e_retI mB99 dX6_set_46 mR99)) (fun g2 => Eq.trans (e_aload_n mB99 dX6_set_47 rfl) (Eq.trans (e_getR mB99 mC99 dX6_set_48 f_6_28 rfl t_6_2 k_1 (w_6_2 k_1)) (Eq.trans (e_iload_n mB99 dX6_set_51 rfl) (Eq.trans (e_iload_n mB99 dX6_set_52 rfl) (e_virt (as := [.int x2, .int x1]) (b := 81) (rest := []) mB99 mC99 dX6_set_53 q_6_112 mN21 rfl rfl (wk_6_2 k_1) mC21 mX21 rfl rk_99_21 rfl rfl))))))
-- SV.set @56
set_option maxRecDepth 4000 in
theorem B99_56 {L : Nat × Nat} {u0 : Option Value} {u1 : Option Value} {u2 : Option Value} {s0 : Int32} {I : It}  : E 99 56 [u0, u1, u2] [.int s0] (GG L) I = some (some (.int s0), GG L, I) :=
  e_retI mB99 dX6_set_56 mR99
-- SV.compact @0
set_option maxRecDepth 4000 in
theorem B100_0 {L : Nat × Nat} {I : It}  : E 100 0 [some (.ref 1)] [] (GG L) I = K2 100 7 [some (.ref 1)] [] (E 3 0 [some (.ref 81)] [] (GG L) I) :=
  Eq.trans (e_aload_n mB100 dX6_compact_0 rfl) (Eq.trans (e_getR mB100 mC100 dX6_compact_1 f_6_28 rfl t_6_2 k_1 (w_6_2 k_1)) (e_virt (as := []) (b := 81) (rest := []) mB100 mC100 dX6_compact_4 q_6_116 mN3 rfl rfl (wk_6_2 k_1) mC3 mX3 rfl rk_100_3 rfl rfl))
-- SV.compact @7
set_option maxRecDepth 4000 in
theorem B100_7 {L : Nat × Nat} {s0 : Int32} {I : It}  : E 100 7 [some (.ref 1)] [.int s0] (GG L) I = if s0 = 0 then (some (some (.int (-5)), GG L, I)) else (K2 100 24 [some (.ref 1)] [.ref 81] (E 6 0 [some (.ref 81)] [] (GG L) I)) :=
  Eq.trans (e_ifne mB100 dX6_compact_7 rfl) (ite_h (fun g1 => Eq.trans (e_bipush mB100 dX6_compact_10 kb_m5) (e_retI mB100 dX6_compact_12 mR100)) (fun g2 => Eq.trans (e_aload_n mB100 dX6_compact_13 rfl) (Eq.trans (e_getR mB100 mC100 dX6_compact_14 f_6_28 rfl t_6_2 k_1 (w_6_2 k_1)) (Eq.trans (e_aload_n mB100 dX6_compact_17 rfl) (Eq.trans (e_getR mB100 mC100 dX6_compact_18 f_6_28 rfl t_6_2 k_1 (w_6_2 k_1)) (e_virt (as := []) (b := 81) (rest := [.ref 81]) mB100 mC100 dX6_compact_21 q_6_119 mN6 rfl rfl (wk_6_2 k_1) mC6 mX6 rfl rk_100_6 rfl rfl))))))
-- SV.compact @24
set_option maxRecDepth 4000 in
theorem B100_24 {L : Nat × Nat} {u0 : Option Value} {p0 : Nat} {s1 : Int32} {I : It} (hp0 : kd (GG L) p0 = 0) : E 100 24 [u0] [.int s1, .ref p0] (GG L) I = K2 100 27 [u0] [] (E 22 0 [some (.ref p0), some (.int s1)] [] (GG L) I) :=
  e_virt (as := [.int s1]) (b := p0) (rest := []) mB100 mC100 dX6_compact_24 q_6_122 mN22 rfl rfl hp0 mC22 mX22 rfl rk_100_22 rfl rfl
-- SV.compact @27
set_option maxRecDepth 4000 in
theorem B100_27 {L : Nat × Nat} {u0 : Option Value} {s0 : Int32} {I : It}  : E 100 27 [u0] [.int s0] (GG L) I = some (some (.int s0), GG L, I) :=
  e_retI mB100 dX6_compact_27 mR100
-- SV.migrate @0
set_option maxRecDepth 4000 in
theorem B101_0 {L : Nat × Nat} {x1 : Int32} {I : It}  : E 101 0 [some (.ref 1), some (.int x1)] [] (GG L) I = K2 101 7 [some (.ref 1), some (.int x1)] [] (E 3 0 [some (.ref 81)] [] (GG L) I) :=
  Eq.trans (e_aload_n mB101 dX6_migrate_0 rfl) (Eq.trans (e_getR mB101 mC101 dX6_migrate_1 f_6_28 rfl t_6_2 k_1 (w_6_2 k_1)) (e_virt (as := []) (b := 81) (rest := []) mB101 mC101 dX6_migrate_4 q_6_116 mN3 rfl rfl (wk_6_2 k_1) mC3 mX3 rfl rk_101_3 rfl rfl))
-- SV.migrate @7
set_option maxRecDepth 4000 in
theorem B101_7 {L : Nat × Nat} {x1 : Int32} {s0 : Int32} {I : It}  : E 101 7 [some (.ref 1), some (.int x1)] [.int s0] (GG L) I = if s0 = 0 then (some (some (.int (-5)), GG L, I)) else (K2 101 21 [some (.ref 1), some (.int x1)] [] (E 45 0 [some (.ref 9), some (.int x1)] [] (GG L) I)) :=
  Eq.trans (e_ifne mB101 dX6_migrate_7 rfl) (ite_h (fun g1 => Eq.trans (e_bipush mB101 dX6_migrate_10 kb_m5) (e_retI mB101 dX6_migrate_12 mR101)) (fun g2 => Eq.trans (e_aload_n mB101 dX6_migrate_13 rfl) (Eq.trans (e_getR mB101 mC101 dX6_migrate_14 f_6_19 rfl t_6_1 k_1 (w_6_1 k_1)) (Eq.trans (e_iload_n mB101 dX6_migrate_17 rfl) (e_virt (as := [.int x1]) (b := 9) (rest := []) mB101 mC101 dX6_migrate_18 q_6_125 mN45 rfl rfl (wk_6_1 k_1) mC45 mX45 rfl rk_101_45 rfl rfl)))))
-- SV.migrate @21
set_option maxRecDepth 4000 in
theorem B101_21 {L : Nat × Nat} {x1 : Int32} {s0 : Int32} {I : It}  : E 101 21 [some (.ref 1), some (.int x1)] [.int s0] (GG L) I = if s0 = 0 then (some (some (.int (-1)), GG L, I)) else (K2 101 34 [some (.ref 1), some (.int x1)] [.int x1] (E 6 0 [some (.ref 81)] [] (GG L) I)) :=
  Eq.trans (e_ifne mB101 dX6_migrate_21 rfl) (ite_h (fun g1 => Eq.trans (e_iconst mB101 dX6_migrate_24 ki_m1) (e_retI mB101 dX6_migrate_25 mR101)) (fun g2 => Eq.trans (e_iload_n mB101 dX6_migrate_26 rfl) (Eq.trans (e_aload_n mB101 dX6_migrate_27 rfl) (Eq.trans (e_getR mB101 mC101 dX6_migrate_28 f_6_28 rfl t_6_2 k_1 (w_6_2 k_1)) (e_virt (as := []) (b := 81) (rest := [.int x1]) mB101 mC101 dX6_migrate_31 q_6_119 mN6 rfl rfl (wk_6_2 k_1) mC6 mX6 rfl rk_101_6 rfl rfl)))))
-- SV.migrate @34
set_option maxRecDepth 4000 in
theorem B101_34 {L : Nat × Nat} {x1 : Int32} {s0 : Int32} {s1 : Int32} {I : It}  : E 101 34 [some (.ref 1), some (.int x1)] [.int s1, .int s0] (GG L) I = if s1 < s0 then (K2 101 48 [some (.ref 1), some (.int x1)] [] (E 22 0 [some (.ref 81), some (.int x1)] [] (GG L) I)) else (some (some (.int (-2)), GG L, I)) :=
  Eq.trans (e_cmgt mB101 dX6_migrate_34 rfl) (ite_h (fun g1 => Eq.trans (e_aload_n mB101 dX6_migrate_40 rfl) (Eq.trans (e_getR mB101 mC101 dX6_migrate_41 f_6_28 rfl t_6_2 k_1 (w_6_2 k_1)) (Eq.trans (e_iload_n mB101 dX6_migrate_44 rfl) (e_virt (as := [.int x1]) (b := 81) (rest := []) mB101 mC101 dX6_migrate_45 q_6_122 mN22 rfl rfl (wk_6_2 k_1) mC22 mX22 rfl rk_101_22 rfl rfl)))) (fun g2 => Eq.trans (e_bipush mB101 dX6_migrate_37 kb_m2) (e_retI mB101 dX6_migrate_39 mR101)))
-- SV.migrate @48
set_option maxRecDepth 4000 in
theorem B101_48 {L : Nat × Nat} {u0 : Option Value} {u1 : Option Value} {s0 : Int32} {I : It}  : E 101 48 [u0, u1] [.int s0] (GG L) I = some (some (.int s0), GG L, I) :=
  e_retI mB101 dX6_migrate_48 mR101
-- SV.factory @0
set_option maxRecDepth 4000 in
theorem B102_0 {L : Nat × Nat} {x1 : Int32} {I : It}  : E 102 0 [some (.ref 1), some (.int x1)] [] (GG L) I = K2 102 7 [some (.ref 1), some (.int x1)] [] (E 2 0 [some (.ref 81)] [] (GG L) I) :=
  Eq.trans (e_aload_n mB102 dX6_factory_0 rfl) (Eq.trans (e_getR mB102 mC102 dX6_factory_1 f_6_28 rfl t_6_2 k_1 (w_6_2 k_1)) (e_virt (as := []) (b := 81) (rest := []) mB102 mC102 dX6_factory_4 q_6_84 mN2 rfl rfl (wk_6_2 k_1) mC2 mX2 rfl rk_102_2 rfl rfl))
-- SV.factory @7
set_option maxRecDepth 4000 in
theorem B102_7 {L : Nat × Nat} {x1 : Int32} {s0 : Int32} {I : It}  : E 102 7 [some (.ref 1), some (.int x1)] [.int s0] (GG L) I = if s0 = 0 then (some (some (.int (-5)), GG L, I)) else (K2 102 21 [some (.ref 1), some (.int x1)] [] (E 45 0 [some (.ref 9), some (.int x1)] [] (GG L) I)) :=
  Eq.trans (e_ifne mB102 dX6_factory_7 rfl) (ite_h (fun g1 => Eq.trans (e_bipush mB102 dX6_factory_10 kb_m5) (e_retI mB102 dX6_factory_12 mR102)) (fun g2 => Eq.trans (e_aload_n mB102 dX6_factory_13 rfl) (Eq.trans (e_getR mB102 mC102 dX6_factory_14 f_6_19 rfl t_6_1 k_1 (w_6_1 k_1)) (Eq.trans (e_iload_n mB102 dX6_factory_17 rfl) (e_virt (as := [.int x1]) (b := 9) (rest := []) mB102 mC102 dX6_factory_18 q_6_125 mN45 rfl rfl (wk_6_1 k_1) mC45 mX45 rfl rk_102_45 rfl rfl)))))
-- SV.factory @21
set_option maxRecDepth 4000 in
theorem B102_21 {L : Nat × Nat} {x1 : Int32} {s0 : Int32} {I : It}  : E 102 21 [some (.ref 1), some (.int x1)] [.int s0] (GG L) I = if s0 = 0 then (some (some (.int (-1)), GG L, I)) else (K2 102 32 [some (.ref 1), some (.int x1)] [] (E 25 0 [some (.ref 81), some (.int x1), none] [] (GG L) I)) :=
  Eq.trans (e_ifeq mB102 dX6_factory_21 rfl) (ite_h (fun g1 => Eq.trans (e_iconst mB102 dX6_factory_35 ki_m1) (e_retI mB102 dX6_factory_36 mR102)) (fun g2 => Eq.trans (e_aload_n mB102 dX6_factory_24 rfl) (Eq.trans (e_getR mB102 mC102 dX6_factory_25 f_6_28 rfl t_6_2 k_1 (w_6_2 k_1)) (Eq.trans (e_iload_n mB102 dX6_factory_28 rfl) (e_virt (as := [.int x1]) (b := 81) (rest := []) mB102 mC102 dX6_factory_29 q_6_126 mN25 rfl rfl (wk_6_2 k_1) mC25 mX25 rfl rk_102_25 rfl rfl)))))
-- SV.factory @32
set_option maxRecDepth 4000 in
theorem B102_32 {L : Nat × Nat} {u0 : Option Value} {u1 : Option Value} {s0 : Int32} {I : It}  : E 102 32 [u0, u1] [.int s0] (GG L) I = some (some (.int s0), GG L, I) :=
  Eq.trans (e_goto mB102 dX6_factory_32 rfl) (e_retI mB102 dX6_factory_36 mR102)
-- SV.cell @0
set_option maxRecDepth 4000 in
theorem B103_0 {L : Nat × Nat} {x1 : Int32} {x2 : Int32} {I : It}  : E 103 0 [some (.ref 1), some (.int x1), some (.int x2)] [] (GG L) I = K2 103 5 [some (.ref 1), some (.int x1), some (.int x2)] [] (E 116 0 [some (.int x1), some (.int x2)] [] (GG L) I) :=
  Eq.trans (e_iload_n mB103 dX6_cell_0 rfl) (Eq.trans (e_iload_n mB103 dX6_cell_1 rfl) (e_stat (as := [.int x2, .int x1]) (rest := []) mB103 mC103 dX6_cell_2 na_6_129 q_6_129 (Or.inl rfl) mN116 rfl rfl mX116 rfl rk_103_116 rfl rfl))
-- SV.cell @5
set_option maxRecDepth 4000 in
theorem B103_5 {L : Nat × Nat} {x1 : Int32} {x2 : Int32} {s0 : Int32} {I : It}  : E 103 5 [some (.ref 1), some (.int x1), some (.int x2)] [.int s0] (GG L) I = if s0 = 0 then (some (some (.int (-1)), GG L, I)) else (K2 103 16 [some (.ref 1), some (.int x1), some (.int x2)] [] (E 9 0 [some (.ref 81), some (.int x1)] [] (GG L) I)) :=
  Eq.trans (e_ifeq mB103 dX6_cell_5 rfl) (ite_h (fun g1 => Eq.trans (e_iconst mB103 dX6_cell_23 ki_m1) (e_retI mB103 dX6_cell_24 mR103)) (fun g2 => Eq.trans (e_aload_n mB103 dX6_cell_8 rfl) (Eq.trans (e_getR mB103 mC103 dX6_cell_9 f_6_28 rfl t_6_2 k_1 (w_6_2 k_1)) (Eq.trans (e_iload_n mB103 dX6_cell_12 rfl) (e_virt (as := [.int x1]) (b := 81) (rest := []) mB103 mC103 dX6_cell_13 q_6_132 mN9 rfl rfl (wk_6_2 k_1) mC9 mX9 rfl rk_103_9 rfl rfl)))))
-- SV.cell @16
set_option maxRecDepth 4000 in
theorem B103_16 {L : Nat × Nat} {u0 : Option Value} {u1 : Option Value} {x2 : Int32} {p0 : Nat} {I : It} (hp0 : kd (GG L) p0 = 4) : E 103 16 [u0, u1, some (.int x2)] [.ref p0] (GG L) I = K2 103 20 [u0, u1, some (.int x2)] [] (E 71 0 [some (.ref p0), some (.int x2)] [] (GG L) I) :=
  Eq.trans (e_iload_n mB103 dX6_cell_16 rfl) (e_virt (as := [.int x2]) (b := p0) (rest := []) mB103 mC103 dX6_cell_17 q_6_136 mN71 rfl rfl hp0 mC71 mX71 rfl rk_103_71 rfl rfl)
-- SV.cell @20
set_option maxRecDepth 4000 in
theorem B103_20 {L : Nat × Nat} {u0 : Option Value} {u1 : Option Value} {u2 : Option Value} {s0 : Int32} {I : It}  : E 103 20 [u0, u1, u2] [.int s0] (GG L) I = some (some (.int s0), GG L, I) :=
  Eq.trans (e_goto mB103 dX6_cell_20 rfl) (e_retI mB103 dX6_cell_24 mR103)
-- SV.spoil @0
set_option maxRecDepth 4000 in
theorem B104_0 {L : Nat × Nat} {x1 : Int32} {x2 : Int32} {x3 : Int32} {I : It}  : E 104 0 [some (.ref 1), some (.int x1), some (.int x2), some (.int x3), none] [] (GG L) I = K2 104 5 [some (.ref 1), some (.int x1), some (.int x2), some (.int x3), none] [] (E 116 0 [some (.int x1), some (.int x2)] [] (GG L) I) :=
  Eq.trans (e_iload_n mB104 dX6_spoil_0 rfl) (Eq.trans (e_iload_n mB104 dX6_spoil_1 rfl) (e_stat (as := [.int x2, .int x1]) (rest := []) mB104 mC104 dX6_spoil_2 na_6_129 q_6_129 (Or.inl rfl) mN116 rfl rfl mX116 rfl rk_104_116 rfl rfl))
-- SV.spoil @5
set_option maxRecDepth 4000 in
theorem B104_5 {L : Nat × Nat} {x1 : Int32} {x2 : Int32} {x3 : Int32} {u4 : Option Value} {s0 : Int32} {I : It}  : E 104 5 [some (.ref 1), some (.int x1), some (.int x2), some (.int x3), u4] [.int s0] (GG L) I = if s0 = 0 then (some (some (.int (-1)), GG L, I)) else (if x3 = (-6) then (K2 104 38 [some (.ref 1), some (.int x1), some (.int x2), some (.int x3), u4] [] (E 9 0 [some (.ref 81), some (.int x1)] [] (GG L) I)) else (if x3 < 0 then (some (some (.int (-2)), GG L, I)) else (if x3 ≤ 255 then (K2 104 38 [some (.ref 1), some (.int x1), some (.int x2), some (.int x3), u4] [] (E 9 0 [some (.ref 81), some (.int x1)] [] (GG L) I)) else (some (some (.int (-2)), GG L, I))))) :=
  Eq.trans (e_ifne mB104 dX6_spoil_5 rfl) (ite_h (fun g1 => Eq.trans (e_iconst mB104 dX6_spoil_8 ki_m1) (e_retI mB104 dX6_spoil_9 mR104)) (fun g2 => Eq.trans (e_iload_n mB104 dX6_spoil_10 rfl) (Eq.trans (e_bipush mB104 dX6_spoil_11 kb_m6) (Eq.trans (e_cmeq mB104 dX6_spoil_13 rfl) (ite_h (fun g3 => Eq.trans (e_aload_n mB104 dX6_spoil_30 rfl) (Eq.trans (e_getR mB104 mC104 dX6_spoil_31 f_6_28 rfl t_6_2 k_1 (w_6_2 k_1)) (Eq.trans (e_iload_n mB104 dX6_spoil_34 rfl) (e_virt (as := [.int x1]) (b := 81) (rest := []) mB104 mC104 dX6_spoil_35 q_6_132 mN9 rfl rfl (wk_6_2 k_1) mC9 mX9 rfl rk_104_9 rfl rfl)))) (fun g4 => Eq.trans (e_iload_n mB104 dX6_spoil_16 rfl) (Eq.trans (e_iflt mB104 dX6_spoil_17 rfl) (ite_h (fun g5 => Eq.trans (e_bipush mB104 dX6_spoil_27 kb_m2) (e_retI mB104 dX6_spoil_29 mR104)) (fun g6 => Eq.trans (e_iload_n mB104 dX6_spoil_20 rfl) (Eq.trans (e_sipush mB104 dX6_spoil_21 ks_255) (Eq.trans (e_cmle mB104 dX6_spoil_24 rfl) (ite_h (fun g7 => Eq.trans (e_aload_n mB104 dX6_spoil_30 rfl) (Eq.trans (e_getR mB104 mC104 dX6_spoil_31 f_6_28 rfl t_6_2 k_1 (w_6_2 k_1)) (Eq.trans (e_iload_n mB104 dX6_spoil_34 rfl) (e_virt (as := [.int x1]) (b := 81) (rest := []) mB104 mC104 dX6_spoil_35 q_6_132 mN9 rfl rfl (wk_6_2 k_1) mC9 mX9 rfl rk_104_9 rfl rfl)))) (fun g8 => Eq.trans (e_bipush mB104 dX6_spoil_27 kb_m2) (e_retI mB104 dX6_spoil_29 mR104))))))))))))))
-- SV.spoil @38
set_option maxRecDepth 4000 in
theorem B104_38 {L : Nat × Nat} {x1 : Int32} {x2 : Int32} {x3 : Int32} {u4 : Option Value} {p0 : Nat} {I : It} (hp0 : kd (GG L) p0 = 4) : E 104 38 [some (.ref 1), some (.int x1), some (.int x2), some (.int x3), u4] [.ref p0] (GG L) I = K2 104 42 [some (.ref 1), some (.int x1), some (.int x2), some (.int x3), u4] [] (E 71 0 [some (.ref p0), some (.int x2)] [] (GG L) I) :=
  Eq.trans (e_iload_n mB104 dX6_spoil_38 rfl) (e_virt (as := [.int x2]) (b := p0) (rest := []) mB104 mC104 dX6_spoil_39 q_6_136 mN71 rfl rfl hp0 mC71 mX71 rfl rk_104_71 rfl rfl)
-- SV.spoil @42
set_option maxRecDepth 4000 in
theorem B104_42 {L : Nat × Nat} {x1 : Int32} {x2 : Int32} {x3 : Int32} {u4 : Option Value} {s0 : Int32} {I : It}  : E 104 42 [some (.ref 1), some (.int x1), some (.int x2), some (.int x3), u4] [.int s0] (GG L) I = K2 104 52 [some (.ref 1), some (.int x1), some (.int x2), some (.int x3), some (.int s0)] [] (E 9 0 [some (.ref 81), some (.int x1)] [] (GG L) I) :=
  Eq.trans (e_istore mB104 dX6_spoil_42 (sL_k rfl (Or.inr rfl) rfl)) (Eq.trans (e_aload_n mB104 dX6_spoil_44 rfl) (Eq.trans (e_getR mB104 mC104 dX6_spoil_45 f_6_28 rfl t_6_2 k_1 (w_6_2 k_1)) (Eq.trans (e_iload_n mB104 dX6_spoil_48 rfl) (e_virt (as := [.int x1]) (b := 81) (rest := []) mB104 mC104 dX6_spoil_49 q_6_132 mN9 rfl rfl (wk_6_2 k_1) mC9 mX9 rfl rk_104_9 rfl rfl))))
-- SV.spoil @52
set_option maxRecDepth 4000 in
theorem B104_52 {L : Nat × Nat} {u0 : Option Value} {u1 : Option Value} {x2 : Int32} {x3 : Int32} {x4 : Int32} {p0 : Nat} {I : It} (hp0 : kd (GG L) p0 = 4) : E 104 52 [u0, u1, some (.int x2), some (.int x3), some (.int x4)] [.ref p0] (GG L) I = K2 104 57 [u0, u1, some (.int x2), some (.int x3), some (.int x4)] [] (E 72 0 [some (.ref p0), some (.int x2), some (.int x3)] [] (GG L) I) :=
  Eq.trans (e_iload_n mB104 dX6_spoil_52 rfl) (Eq.trans (e_iload_n mB104 dX6_spoil_53 rfl) (e_virt (as := [.int x3, .int x2]) (b := p0) (rest := []) mB104 mC104 dX6_spoil_54 q_6_141 mN72 rfl rfl hp0 mC72 mX72 rfl rk_104_72 rfl rfl))
-- SV.spoil @57
set_option maxRecDepth 4000 in
theorem B104_57 {L : Nat × Nat} {u0 : Option Value} {u1 : Option Value} {u2 : Option Value} {u3 : Option Value} {x4 : Int32} {I : It}  : E 104 57 [u0, u1, u2, u3, some (.int x4)] [] (GG L) I = some (some (.int x4), GG L, I) :=
  Eq.trans (e_iload mB104 dX6_spoil_57 rfl) (e_retI mB104 dX6_spoil_59 mR104)
-- SV.page @0
set_option maxRecDepth 4000 in
theorem B105_0 {L : Nat × Nat} {x1 : Int32} {x2 : Int32} {I : It}  : E 105 0 [some (.ref 1), some (.int x1), some (.int x2), none] [] (GG L) I = K2 105 4 [some (.ref 1), some (.int x1), some (.int x2), none] [] (E 115 0 [some (.int x1)] [] (GG L) I) :=
  Eq.trans (e_iload_n mB105 dX6_page_0 rfl) (e_stat (as := [.int x1]) (rest := []) mB105 mC105 dX6_page_1 na_6_145 q_6_145 (Or.inl rfl) mN115 rfl rfl mX115 rfl rk_105_115 rfl rfl)
-- SV.page @4
set_option maxRecDepth 4000 in
theorem B105_4 {L : Nat × Nat} {x1 : Int32} {x2 : Int32} {u3 : Option Value} {s0 : Int32} {I : It}  : E 105 4 [some (.ref 1), some (.int x1), some (.int x2), u3] [.int s0] (GG L) I = if s0 = 0 then (some (some (.int (-1)), GG L, I)) else (K2 105 17 [some (.ref 1), some (.int x1), some (.int x2), u3] [] (E 9 0 [some (.ref 81), some (.int x1)] [] (GG L) I)) :=
  Eq.trans (e_ifne mB105 dX6_page_4 rfl) (ite_h (fun g1 => Eq.trans (e_iconst mB105 dX6_page_7 ki_m1) (e_retI mB105 dX6_page_8 mR105)) (fun g2 => Eq.trans (e_aload_n mB105 dX6_page_9 rfl) (Eq.trans (e_getR mB105 mC105 dX6_page_10 f_6_28 rfl t_6_2 k_1 (w_6_2 k_1)) (Eq.trans (e_iload_n mB105 dX6_page_13 rfl) (e_virt (as := [.int x1]) (b := 81) (rest := []) mB105 mC105 dX6_page_14 q_6_132 mN9 rfl rfl (wk_6_2 k_1) mC9 mX9 rfl rk_105_9 rfl rfl)))))
-- SV.page @17
set_option maxRecDepth 4000 in
theorem B105_17 {L : Nat × Nat} {u1 : Option Value} {x2 : Int32} {u3 : Option Value} {p0 : Nat} {I : It} (hp0 : kd (GG L) p0 = 4) : E 105 17 [some (.ref 1), u1, some (.int x2), u3] [.ref p0] (GG L) I = E 105 (swt (x2 : Int32).toInt 0 [56, 61, 66, 83, 93, 103] 108) [some (.ref 1), u1, some (.int x2), some (.ref p0)] [] (GG L) I :=
  Eq.trans (e_astore_n mB105 dX6_page_17 (sL_k rfl (Or.inr rfl) rfl)) (Eq.trans (e_iload_n mB105 dX6_page_18 rfl) (e_tsw (l := [56, 61, 66, 83, 93, 103]) mB105 dX6_page_19 rfl rfl rfl))
-- SV.page @56
set_option maxRecDepth 4000 in
theorem B105_56 {L : Nat × Nat} {u0 : Option Value} {u1 : Option Value} {u2 : Option Value} {o3 : Nat} {I : It} (ho3 : kd (GG L) o3 = 4) : E 105 56 [u0, u1, u2, some (.ref o3)] [] (GG L) I = K2 105 60 [u0, u1, u2, some (.ref o3)] [] (E 67 0 [some (.ref o3)] [] (GG L) I) :=
  Eq.trans (e_aload_n mB105 dX6_page_56 rfl) (e_virt (as := []) (b := o3) (rest := []) mB105 mC105 dX6_page_57 q_6_148 mN67 rfl rfl ho3 mC67 mX67 rfl rk_105_67 rfl rfl)
-- SV.page @60
set_option maxRecDepth 4000 in
theorem B105_60 {L : Nat × Nat} {u0 : Option Value} {u1 : Option Value} {u2 : Option Value} {u3 : Option Value} {s0 : Int32} {I : It}  : E 105 60 [u0, u1, u2, u3] [.int s0] (GG L) I = some (some (.int s0), GG L, I) :=
  e_retI mB105 dX6_page_60 mR105
-- SV.page @61
set_option maxRecDepth 4000 in
theorem B105_61 {L : Nat × Nat} {u0 : Option Value} {u1 : Option Value} {u2 : Option Value} {o3 : Nat} {I : It} (ho3 : kd (GG L) o3 = 4) : E 105 61 [u0, u1, u2, some (.ref o3)] [] (GG L) I = K2 105 65 [u0, u1, u2, some (.ref o3)] [] (E 68 0 [some (.ref o3)] [] (GG L) I) :=
  Eq.trans (e_aload_n mB105 dX6_page_61 rfl) (e_virt (as := []) (b := o3) (rest := []) mB105 mC105 dX6_page_62 q_6_151 mN68 rfl rfl ho3 mC68 mX68 rfl rk_105_68 rfl rfl)
-- SV.page @65
set_option maxRecDepth 4000 in
theorem B105_65 {L : Nat × Nat} {u0 : Option Value} {u1 : Option Value} {u2 : Option Value} {u3 : Option Value} {s0 : Int32} {I : It}  : E 105 65 [u0, u1, u2, u3] [.int s0] (GG L) I = some (some (.int s0), GG L, I) :=
  e_retI mB105 dX6_page_65 mR105
-- SV.page @66
set_option maxRecDepth 4000 in
theorem B105_66 {L : Nat × Nat} {u1 : Option Value} {u2 : Option Value} {o3 : Nat} {I : It} (ho3 : kd (GG L) o3 = 4) : E 105 66 [some (.ref 1), u1, u2, some (.ref o3)] [] (GG L) I = K2 105 74 [some (.ref 1), u1, u2, some (.ref o3)] [] (E 77 0 [some (.ref o3), some (.ref 9)] [] (GG L) I) :=
  Eq.trans (e_aload_n mB105 dX6_page_66 rfl) (Eq.trans (e_aload_n mB105 dX6_page_67 rfl) (Eq.trans (e_getR mB105 mC105 dX6_page_68 f_6_19 rfl t_6_1 k_1 (w_6_1 k_1)) (e_virt (as := [.ref 9]) (b := o3) (rest := []) mB105 mC105 dX6_page_71 q_6_154 mN77 rfl rfl ho3 mC77 mX77 rfl rk_105_77 rfl rfl)))
-- SV.page @74
set_option maxRecDepth 4000 in
theorem B105_74 {L : Nat × Nat} {u0 : Option Value} {u1 : Option Value} {u2 : Option Value} {u3 : Option Value} {s0 : Int32} {I : It}  : E 105 74 [u0, u1, u2, u3] [.int s0] (GG L) I = if s0 = 0 then (some (some (.int 0), GG L, I)) else (some (some (.int 1), GG L, I)) :=
  Eq.trans (e_ifeq mB105 dX6_page_74 rfl) (ite_h (fun g1 => Eq.trans (e_iconst mB105 dX6_page_81 ki_0) (e_retI mB105 dX6_page_82 mR105)) (fun g2 => Eq.trans (e_iconst mB105 dX6_page_77 ki_1) (Eq.trans (e_goto mB105 dX6_page_78 rfl) (e_retI mB105 dX6_page_82 mR105))))
-- SV.page @83
set_option maxRecDepth 4000 in
theorem B105_83 {L : Nat × Nat} {u1 : Option Value} {u2 : Option Value} {o3 : Nat} {I : It} (ho3 : kd (GG L) o3 = 4) : E 105 83 [some (.ref 1), u1, u2, some (.ref o3)] [] (GG L) I = K2 105 92 [some (.ref 1), u1, u2, some (.ref o3)] [] (E 81 0 [some (.ref o3), some (.ref 9), some (.int 1), none, none, none] [] (GG L) I) :=
  Eq.trans (e_aload_n mB105 dX6_page_83 rfl) (Eq.trans (e_aload_n mB105 dX6_page_84 rfl) (Eq.trans (e_getR mB105 mC105 dX6_page_85 f_6_19 rfl t_6_1 k_1 (w_6_1 k_1)) (Eq.trans (e_iconst mB105 dX6_page_88 ki_1) (e_virt (as := [.int 1, .ref 9]) (b := o3) (rest := []) mB105 mC105 dX6_page_89 q_6_158 mN81 rfl rfl ho3 mC81 mX81 rfl rk_105_81 rfl rfl))))
-- SV.page @92
set_option maxRecDepth 4000 in
theorem B105_92 {L : Nat × Nat} {u0 : Option Value} {u1 : Option Value} {u2 : Option Value} {u3 : Option Value} {s0 : Int32} {I : It}  : E 105 92 [u0, u1, u2, u3] [.int s0] (GG L) I = some (some (.int s0), GG L, I) :=
  e_retI mB105 dX6_page_92 mR105
-- SV.page @93
set_option maxRecDepth 4000 in
theorem B105_93 {L : Nat × Nat} {u1 : Option Value} {u2 : Option Value} {o3 : Nat} {I : It} (ho3 : kd (GG L) o3 = 4) : E 105 93 [some (.ref 1), u1, u2, some (.ref o3)] [] (GG L) I = K2 105 102 [some (.ref 1), u1, u2, some (.ref o3)] [] (E 81 0 [some (.ref o3), some (.ref 9), some (.int 0), none, none, none] [] (GG L) I) :=
  Eq.trans (e_aload_n mB105 dX6_page_93 rfl) (Eq.trans (e_aload_n mB105 dX6_page_94 rfl) (Eq.trans (e_getR mB105 mC105 dX6_page_95 f_6_19 rfl t_6_1 k_1 (w_6_1 k_1)) (Eq.trans (e_iconst mB105 dX6_page_98 ki_0) (e_virt (as := [.int 0, .ref 9]) (b := o3) (rest := []) mB105 mC105 dX6_page_99 q_6_158 mN81 rfl rfl ho3 mC81 mX81 rfl rk_105_81 rfl rfl))))
-- SV.page @102
set_option maxRecDepth 4000 in
theorem B105_102 {L : Nat × Nat} {u0 : Option Value} {u1 : Option Value} {u2 : Option Value} {u3 : Option Value} {s0 : Int32} {I : It}  : E 105 102 [u0, u1, u2, u3] [.int s0] (GG L) I = some (some (.int s0), GG L, I) :=
  e_retI mB105 dX6_page_102 mR105
-- SV.page @103
set_option maxRecDepth 4000 in
theorem B105_103 {L : Nat × Nat} {u0 : Option Value} {u1 : Option Value} {u2 : Option Value} {o3 : Nat} {I : It} (ho3 : kd (GG L) o3 = 4) : E 105 103 [u0, u1, u2, some (.ref o3)] [] (GG L) I = K2 105 107 [u0, u1, u2, some (.ref o3)] [] (E 74 0 [some (.ref o3), none, none] [] (GG L) I) :=
  Eq.trans (e_aload_n mB105 dX6_page_103 rfl) (e_virt (as := []) (b := o3) (rest := []) mB105 mC105 dX6_page_104 q_6_162 mN74 rfl rfl ho3 mC74 mX74 rfl rk_105_74 rfl rfl)
-- SV.page @107
set_option maxRecDepth 4000 in
theorem B105_107 {L : Nat × Nat} {u0 : Option Value} {u1 : Option Value} {u2 : Option Value} {u3 : Option Value} {s0 : Int32} {I : It}  : E 105 107 [u0, u1, u2, u3] [.int s0] (GG L) I = some (some (.int s0), GG L, I) :=
  e_retI mB105 dX6_page_107 mR105
-- SV.page @108
set_option maxRecDepth 4000 in
theorem B105_108 {L : Nat × Nat} {u0 : Option Value} {u1 : Option Value} {u2 : Option Value} {u3 : Option Value} {I : It}  : E 105 108 [u0, u1, u2, u3] [] (GG L) I = some (some (.int (-2)), GG L, I) :=
  Eq.trans (e_bipush mB105 dX6_page_108 kb_m2) (e_retI mB105 dX6_page_110 mR105)
-- SV.state @0
set_option maxRecDepth 4000 in
theorem B106_0 {L : Nat × Nat} {x1 : Int32} {I : It}  : E 106 0 [some (.ref 1), some (.int x1)] [] (GG L) I = E 106 (swt (x1 : Int32).toInt 0 [68, 84, 92, 100, 108, 116, 124, 132, 140, 148, 156, 180, 204] 212) [some (.ref 1), some (.int x1)] [] (GG L) I :=
  Eq.trans (e_iload_n mB106 dX6_state_0 rfl) (e_tsw (l := [68, 84, 92, 100, 108, 116, 124, 132, 140, 148, 156, 180, 204]) mB106 dX6_state_1 rfl rfl rfl)
-- SV.state @68
set_option maxRecDepth 4000 in
theorem B106_68 {L : Nat × Nat} {u1 : Option Value} {I : It}  : E 106 68 [some (.ref 1), u1] [] (GG L) I = K2 106 75 [some (.ref 1), u1] [] (E 2 0 [some (.ref 81)] [] (GG L) I) :=
  Eq.trans (e_aload_n mB106 dX6_state_68 rfl) (Eq.trans (e_getR mB106 mC106 dX6_state_69 f_6_28 rfl t_6_2 k_1 (w_6_2 k_1)) (e_virt (as := []) (b := 81) (rest := []) mB106 mC106 dX6_state_72 q_6_84 mN2 rfl rfl (wk_6_2 k_1) mC2 mX2 rfl rk_106_2 rfl rfl))
-- SV.state @75
set_option maxRecDepth 4000 in
theorem B106_75 {L : Nat × Nat} {u0 : Option Value} {u1 : Option Value} {s0 : Int32} {I : It}  : E 106 75 [u0, u1] [.int s0] (GG L) I = if s0 = 0 then (some (some (.int 0), GG L, I)) else (some (some (.int 1), GG L, I)) :=
  Eq.trans (e_ifeq mB106 dX6_state_75 rfl) (ite_h (fun g1 => Eq.trans (e_iconst mB106 dX6_state_82 ki_0) (e_retI mB106 dX6_state_83 mR106)) (fun g2 => Eq.trans (e_iconst mB106 dX6_state_78 ki_1) (Eq.trans (e_goto mB106 dX6_state_79 rfl) (e_retI mB106 dX6_state_83 mR106))))
-- SV.state @84
set_option maxRecDepth 4000 in
theorem B106_84 {L : Nat × Nat} {u1 : Option Value} {I : It}  : E 106 84 [some (.ref 1), u1] [] (GG L) I = K2 106 91 [some (.ref 1), u1] [] (E 5 0 [some (.ref 81)] [] (GG L) I) :=
  Eq.trans (e_aload_n mB106 dX6_state_84 rfl) (Eq.trans (e_getR mB106 mC106 dX6_state_85 f_6_28 rfl t_6_2 k_1 (w_6_2 k_1)) (e_virt (as := []) (b := 81) (rest := []) mB106 mC106 dX6_state_88 q_6_98 mN5 rfl rfl (wk_6_2 k_1) mC5 mX5 rfl rk_106_5 rfl rfl))
-- SV.state @91
set_option maxRecDepth 4000 in
theorem B106_91 {L : Nat × Nat} {u0 : Option Value} {u1 : Option Value} {s0 : Int32} {I : It}  : E 106 91 [u0, u1] [.int s0] (GG L) I = some (some (.int s0), GG L, I) :=
  e_retI mB106 dX6_state_91 mR106
-- SV.state @92
set_option maxRecDepth 4000 in
theorem B106_92 {L : Nat × Nat} {u1 : Option Value} {I : It}  : E 106 92 [some (.ref 1), u1] [] (GG L) I = K2 106 99 [some (.ref 1), u1] [] (E 6 0 [some (.ref 81)] [] (GG L) I) :=
  Eq.trans (e_aload_n mB106 dX6_state_92 rfl) (Eq.trans (e_getR mB106 mC106 dX6_state_93 f_6_28 rfl t_6_2 k_1 (w_6_2 k_1)) (e_virt (as := []) (b := 81) (rest := []) mB106 mC106 dX6_state_96 q_6_119 mN6 rfl rfl (wk_6_2 k_1) mC6 mX6 rfl rk_106_6 rfl rfl))
-- SV.state @99
set_option maxRecDepth 4000 in
theorem B106_99 {L : Nat × Nat} {u0 : Option Value} {u1 : Option Value} {s0 : Int32} {I : It}  : E 106 99 [u0, u1] [.int s0] (GG L) I = some (some (.int s0), GG L, I) :=
  e_retI mB106 dX6_state_99 mR106
-- SV.state @100
set_option maxRecDepth 4000 in
theorem B106_100 {L : Nat × Nat} {u1 : Option Value} {I : It}  : E 106 100 [some (.ref 1), u1] [] (GG L) I = K2 106 107 [some (.ref 1), u1] [] (E 7 0 [some (.ref 81)] [] (GG L) I) :=
  Eq.trans (e_aload_n mB106 dX6_state_100 rfl) (Eq.trans (e_getR mB106 mC106 dX6_state_101 f_6_28 rfl t_6_2 k_1 (w_6_2 k_1)) (e_virt (as := []) (b := 81) (rest := []) mB106 mC106 dX6_state_104 q_6_165 mN7 rfl rfl (wk_6_2 k_1) mC7 mX7 rfl rk_106_7 rfl rfl))
-- SV.state @107
set_option maxRecDepth 4000 in
theorem B106_107 {L : Nat × Nat} {u0 : Option Value} {u1 : Option Value} {s0 : Int32} {I : It}  : E 106 107 [u0, u1] [.int s0] (GG L) I = some (some (.int s0), GG L, I) :=
  e_retI mB106 dX6_state_107 mR106
-- SV.state @108
set_option maxRecDepth 4000 in
theorem B106_108 {L : Nat × Nat} {u1 : Option Value} {I : It}  : E 106 108 [some (.ref 1), u1] [] (GG L) I = K2 106 115 [some (.ref 1), u1] [] (E 13 0 [some (.ref 81)] [] (GG L) I) :=
  Eq.trans (e_aload_n mB106 dX6_state_108 rfl) (Eq.trans (e_getR mB106 mC106 dX6_state_109 f_6_28 rfl t_6_2 k_1 (w_6_2 k_1)) (e_virt (as := []) (b := 81) (rest := []) mB106 mC106 dX6_state_112 q_6_168 mN13 rfl rfl (wk_6_2 k_1) mC13 mX13 rfl rk_106_13 rfl rfl))
-- SV.state @115
set_option maxRecDepth 4000 in
theorem B106_115 {L : Nat × Nat} {u0 : Option Value} {u1 : Option Value} {s0 : Int32} {I : It}  : E 106 115 [u0, u1] [.int s0] (GG L) I = some (some (.int s0), GG L, I) :=
  e_retI mB106 dX6_state_115 mR106
-- SV.state @116
set_option maxRecDepth 4000 in
theorem B106_116 {L : Nat × Nat} {u1 : Option Value} {I : It}  : E 106 116 [some (.ref 1), u1] [] (GG L) I = K2 106 123 [some (.ref 1), u1] [] (E 8 0 [some (.ref 81)] [] (GG L) I) :=
  Eq.trans (e_aload_n mB106 dX6_state_116 rfl) (Eq.trans (e_getR mB106 mC106 dX6_state_117 f_6_28 rfl t_6_2 k_1 (w_6_2 k_1)) (e_virt (as := []) (b := 81) (rest := []) mB106 mC106 dX6_state_120 q_6_171 mN8 rfl rfl (wk_6_2 k_1) mC8 mX8 rfl rk_106_8 rfl rfl))
-- SV.state @123
set_option maxRecDepth 4000 in
theorem B106_123 {L : Nat × Nat} {u0 : Option Value} {u1 : Option Value} {s0 : Int32} {I : It}  : E 106 123 [u0, u1] [.int s0] (GG L) I = some (some (.int s0), GG L, I) :=
  e_retI mB106 dX6_state_123 mR106
-- SV.state @124
set_option maxRecDepth 4000 in
theorem B106_124 {L : Nat × Nat} {u1 : Option Value} {I : It}  : E 106 124 [some (.ref 1), u1] [] (GG L) I = K2 106 131 [some (.ref 1), u1] [] (E 14 0 [some (.ref 81), none, none] [] (GG L) I) :=
  Eq.trans (e_aload_n mB106 dX6_state_124 rfl) (Eq.trans (e_getR mB106 mC106 dX6_state_125 f_6_28 rfl t_6_2 k_1 (w_6_2 k_1)) (e_virt (as := []) (b := 81) (rest := []) mB106 mC106 dX6_state_128 q_6_174 mN14 rfl rfl (wk_6_2 k_1) mC14 mX14 rfl rk_106_14 rfl rfl))
-- SV.state @131
set_option maxRecDepth 4000 in
theorem B106_131 {L : Nat × Nat} {u0 : Option Value} {u1 : Option Value} {s0 : Int32} {I : It}  : E 106 131 [u0, u1] [.int s0] (GG L) I = some (some (.int s0), GG L, I) :=
  e_retI mB106 dX6_state_131 mR106
-- SV.state @132
set_option maxRecDepth 4000 in
theorem B106_132 {L : Nat × Nat} {u1 : Option Value} {I : It}  : E 106 132 [some (.ref 1), u1] [] (GG L) I = K2 106 139 [some (.ref 1), u1] [] (E 15 0 [some (.ref 81), none, none] [] (GG L) I) :=
  Eq.trans (e_aload_n mB106 dX6_state_132 rfl) (Eq.trans (e_getR mB106 mC106 dX6_state_133 f_6_28 rfl t_6_2 k_1 (w_6_2 k_1)) (e_virt (as := []) (b := 81) (rest := []) mB106 mC106 dX6_state_136 q_6_177 mN15 rfl rfl (wk_6_2 k_1) mC15 mX15 rfl rk_106_15 rfl rfl))
-- SV.state @139
set_option maxRecDepth 4000 in
theorem B106_139 {L : Nat × Nat} {u0 : Option Value} {u1 : Option Value} {s0 : Int32} {I : It}  : E 106 139 [u0, u1] [.int s0] (GG L) I = some (some (.int s0), GG L, I) :=
  e_retI mB106 dX6_state_139 mR106
-- SV.state @140
set_option maxRecDepth 4000 in
theorem B106_140 {L : Nat × Nat} {u1 : Option Value} {I : It}  : E 106 140 [some (.ref 1), u1] [] (GG L) I = K2 106 147 [some (.ref 1), u1] [] (E 44 0 [some (.ref 9)] [] (GG L) I) :=
  Eq.trans (e_aload_n mB106 dX6_state_140 rfl) (Eq.trans (e_getR mB106 mC106 dX6_state_141 f_6_19 rfl t_6_1 k_1 (w_6_1 k_1)) (e_virt (as := []) (b := 9) (rest := []) mB106 mC106 dX6_state_144 q_6_47 mN44 rfl rfl (wk_6_1 k_1) mC44 mX44 rfl rk_106_44 rfl rfl))
-- SV.state @147
set_option maxRecDepth 4000 in
theorem B106_147 {L : Nat × Nat} {u0 : Option Value} {u1 : Option Value} {s0 : Int32} {I : It}  : E 106 147 [u0, u1] [.int s0] (GG L) I = some (some (.int s0), GG L, I) :=
  e_retI mB106 dX6_state_147 mR106
-- SV.state @148
set_option maxRecDepth 4000 in
theorem B106_148 {L : Nat × Nat} {u1 : Option Value} {I : It}  : E 106 148 [some (.ref 1), u1] [] (GG L) I = K2 106 155 [some (.ref 1), u1] [] (E 4 0 [some (.ref 81)] [] (GG L) I) :=
  Eq.trans (e_aload_n mB106 dX6_state_148 rfl) (Eq.trans (e_getR mB106 mC106 dX6_state_149 f_6_28 rfl t_6_2 k_1 (w_6_2 k_1)) (e_virt (as := []) (b := 81) (rest := []) mB106 mC106 dX6_state_152 q_6_88 mN4 rfl rfl (wk_6_2 k_1) mC4 mX4 rfl rk_106_4 rfl rfl))
-- SV.state @155
set_option maxRecDepth 4000 in
theorem B106_155 {L : Nat × Nat} {u0 : Option Value} {u1 : Option Value} {s0 : Int32} {I : It}  : E 106 155 [u0, u1] [.int s0] (GG L) I = some (some (.int s0), GG L, I) :=
  e_retI mB106 dX6_state_155 mR106
-- SV.state @156
set_option maxRecDepth 4000 in
theorem B106_156 {L : Nat × Nat} {u1 : Option Value} {I : It}  : E 106 156 [some (.ref 1), u1] [] (GG L) I = K2 106 164 [some (.ref 1), u1] [] (E 9 0 [some (.ref 81), some (.int 0)] [] (GG L) I) :=
  Eq.trans (e_aload_n mB106 dX6_state_156 rfl) (Eq.trans (e_getR mB106 mC106 dX6_state_157 f_6_28 rfl t_6_2 k_1 (w_6_2 k_1)) (Eq.trans (e_iconst mB106 dX6_state_160 ki_0) (e_virt (as := [.int 0]) (b := 81) (rest := []) mB106 mC106 dX6_state_161 q_6_132 mN9 rfl rfl (wk_6_2 k_1) mC9 mX9 rfl rk_106_9 rfl rfl)))
-- SV.state @164
set_option maxRecDepth 4000 in
theorem B106_164 {L : Nat × Nat} {u1 : Option Value} {p0 : Nat} {I : It} (hp0 : kd (GG L) p0 = 4) : E 106 164 [some (.ref 1), u1] [.ref p0] (GG L) I = K2 106 167 [some (.ref 1), u1] [] (E 67 0 [some (.ref p0)] [] (GG L) I) :=
  e_virt (as := []) (b := p0) (rest := []) mB106 mC106 dX6_state_164 q_6_148 mN67 rfl rfl hp0 mC67 mX67 rfl rk_106_67 rfl rfl
-- SV.state @167
set_option maxRecDepth 4000 in
theorem B106_167 {L : Nat × Nat} {u1 : Option Value} {s0 : Int32} {I : It}  : E 106 167 [some (.ref 1), u1] [.int s0] (GG L) I = K2 106 175 [some (.ref 1), u1] [.int s0] (E 9 0 [some (.ref 81), some (.int 1)] [] (GG L) I) :=
  Eq.trans (e_aload_n mB106 dX6_state_167 rfl) (Eq.trans (e_getR mB106 mC106 dX6_state_168 f_6_28 rfl t_6_2 k_1 (w_6_2 k_1)) (Eq.trans (e_iconst mB106 dX6_state_171 ki_1) (e_virt (as := [.int 1]) (b := 81) (rest := [.int s0]) mB106 mC106 dX6_state_172 q_6_132 mN9 rfl rfl (wk_6_2 k_1) mC9 mX9 rfl rk_106_9 rfl rfl)))
-- SV.state @175
set_option maxRecDepth 4000 in
theorem B106_175 {L : Nat × Nat} {u0 : Option Value} {u1 : Option Value} {s0 : Int32} {p1 : Nat} {I : It} (hp1 : kd (GG L) p1 = 4) : E 106 175 [u0, u1] [.ref p1, .int s0] (GG L) I = K2 106 178 [u0, u1] [.int s0] (E 67 0 [some (.ref p1)] [] (GG L) I) :=
  e_virt (as := []) (b := p1) (rest := [.int s0]) mB106 mC106 dX6_state_175 q_6_148 mN67 rfl rfl hp1 mC67 mX67 rfl rk_106_67 rfl rfl
-- SV.state @178
set_option maxRecDepth 4000 in
theorem B106_178 {L : Nat × Nat} {u0 : Option Value} {u1 : Option Value} {s0 : Int32} {s1 : Int32} {I : It}  : E 106 178 [u0, u1] [.int s1, .int s0] (GG L) I = some (some (.int (s0 + s1)), GG L, I) :=
  Eq.trans (e_iadd mB106 dX6_state_178) (e_retI mB106 dX6_state_179 mR106)
-- SV.state @180
set_option maxRecDepth 4000 in
theorem B106_180 {L : Nat × Nat} {u1 : Option Value} {I : It}  : E 106 180 [some (.ref 1), u1] [] (GG L) I = K2 106 188 [some (.ref 1), u1] [] (E 9 0 [some (.ref 81), some (.int 0)] [] (GG L) I) :=
  Eq.trans (e_aload_n mB106 dX6_state_180 rfl) (Eq.trans (e_getR mB106 mC106 dX6_state_181 f_6_28 rfl t_6_2 k_1 (w_6_2 k_1)) (Eq.trans (e_iconst mB106 dX6_state_184 ki_0) (e_virt (as := [.int 0]) (b := 81) (rest := []) mB106 mC106 dX6_state_185 q_6_132 mN9 rfl rfl (wk_6_2 k_1) mC9 mX9 rfl rk_106_9 rfl rfl)))
-- SV.state @188
set_option maxRecDepth 4000 in
theorem B106_188 {L : Nat × Nat} {u1 : Option Value} {p0 : Nat} {I : It} (hp0 : kd (GG L) p0 = 4) : E 106 188 [some (.ref 1), u1] [.ref p0] (GG L) I = K2 106 191 [some (.ref 1), u1] [] (E 68 0 [some (.ref p0)] [] (GG L) I) :=
  e_virt (as := []) (b := p0) (rest := []) mB106 mC106 dX6_state_188 q_6_151 mN68 rfl rfl hp0 mC68 mX68 rfl rk_106_68 rfl rfl
-- SV.state @191
set_option maxRecDepth 4000 in
theorem B106_191 {L : Nat × Nat} {u1 : Option Value} {s0 : Int32} {I : It}  : E 106 191 [some (.ref 1), u1] [.int s0] (GG L) I = K2 106 199 [some (.ref 1), u1] [.int s0] (E 9 0 [some (.ref 81), some (.int 1)] [] (GG L) I) :=
  Eq.trans (e_aload_n mB106 dX6_state_191 rfl) (Eq.trans (e_getR mB106 mC106 dX6_state_192 f_6_28 rfl t_6_2 k_1 (w_6_2 k_1)) (Eq.trans (e_iconst mB106 dX6_state_195 ki_1) (e_virt (as := [.int 1]) (b := 81) (rest := [.int s0]) mB106 mC106 dX6_state_196 q_6_132 mN9 rfl rfl (wk_6_2 k_1) mC9 mX9 rfl rk_106_9 rfl rfl)))
-- SV.state @199
set_option maxRecDepth 4000 in
theorem B106_199 {L : Nat × Nat} {u0 : Option Value} {u1 : Option Value} {s0 : Int32} {p1 : Nat} {I : It} (hp1 : kd (GG L) p1 = 4) : E 106 199 [u0, u1] [.ref p1, .int s0] (GG L) I = K2 106 202 [u0, u1] [.int s0] (E 68 0 [some (.ref p1)] [] (GG L) I) :=
  e_virt (as := []) (b := p1) (rest := [.int s0]) mB106 mC106 dX6_state_199 q_6_151 mN68 rfl rfl hp1 mC68 mX68 rfl rk_106_68 rfl rfl
-- SV.state @202
set_option maxRecDepth 4000 in
theorem B106_202 {L : Nat × Nat} {u0 : Option Value} {u1 : Option Value} {s0 : Int32} {s1 : Int32} {I : It}  : E 106 202 [u0, u1] [.int s1, .int s0] (GG L) I = some (some (.int (s0 + s1)), GG L, I) :=
  Eq.trans (e_iadd mB106 dX6_state_202) (e_retI mB106 dX6_state_203 mR106)
-- SV.state @204
set_option maxRecDepth 4000 in
theorem B106_204 {L : Nat × Nat} {u1 : Option Value} {I : It}  : E 106 204 [some (.ref 1), u1] [] (GG L) I = K2 106 211 [some (.ref 1), u1] [] (E 50 0 [some (.ref 2)] [] (GG L) I) :=
  Eq.trans (e_aload_n mB106 dX6_state_204 rfl) (Eq.trans (e_getR mB106 mC106 dX6_state_205 f_6_10 rfl t_6_0 k_1 (w_6_0 k_1)) (e_virt (as := []) (b := 2) (rest := []) mB106 mC106 dX6_state_208 q_6_180 mN50 rfl rfl (wk_6_0 k_1) mC50 mX50 rfl rk_106_50 rfl rfl))
-- SV.state @211
set_option maxRecDepth 4000 in
theorem B106_211 {L : Nat × Nat} {u0 : Option Value} {u1 : Option Value} {s0 : Int32} {I : It}  : E 106 211 [u0, u1] [.int s0] (GG L) I = some (some (.int s0), GG L, I) :=
  e_retI mB106 dX6_state_211 mR106
-- SV.state @212
set_option maxRecDepth 4000 in
theorem B106_212 {L : Nat × Nat} {u0 : Option Value} {u1 : Option Value} {I : It}  : E 106 212 [u0, u1] [] (GG L) I = some (some (.int (-2)), GG L, I) :=
  Eq.trans (e_bipush mB106 dX6_state_212 kb_m2) (e_retI mB106 dX6_state_214 mR106)
-- SV.record @0
set_option maxRecDepth 4000 in
theorem B107_0 {L : Nat × Nat} {x1 : Int32} {I : It}  : E 107 0 [some (.ref 1), some (.int x1)] [] (GG L) I = K2 107 7 [some (.ref 1), some (.int x1)] [] (E 2 0 [some (.ref 81)] [] (GG L) I) :=
  Eq.trans (e_aload_n mB107 dX6_record_0 rfl) (Eq.trans (e_getR mB107 mC107 dX6_record_1 f_6_28 rfl t_6_2 k_1 (w_6_2 k_1)) (e_virt (as := []) (b := 81) (rest := []) mB107 mC107 dX6_record_4 q_6_84 mN2 rfl rfl (wk_6_2 k_1) mC2 mX2 rfl rk_107_2 rfl rfl))
-- SV.record @7
set_option maxRecDepth 4000 in
theorem B107_7 {L : Nat × Nat} {x1 : Int32} {s0 : Int32} {I : It}  : E 107 7 [some (.ref 1), some (.int x1)] [.int s0] (GG L) I = if s0 = 0 then (some (some (.int (-5)), GG L, I)) else (K2 107 20 [some (.ref 1), some (.int x1)] [] (E 10 0 [some (.ref 81)] [] (GG L) I)) :=
  Eq.trans (e_ifne mB107 dX6_record_7 rfl) (ite_h (fun g1 => Eq.trans (e_bipush mB107 dX6_record_10 kb_m5) (e_retI mB107 dX6_record_12 mR107)) (fun g2 => Eq.trans (e_aload_n mB107 dX6_record_13 rfl) (Eq.trans (e_getR mB107 mC107 dX6_record_14 f_6_28 rfl t_6_2 k_1 (w_6_2 k_1)) (e_virt (as := []) (b := 81) (rest := []) mB107 mC107 dX6_record_17 q_6_101 mN10 rfl rfl (wk_6_2 k_1) mC10 mX10 rfl rk_107_10 rfl rfl))))
-- SV.record @20
set_option maxRecDepth 4000 in
theorem B107_20 {L : Nat × Nat} {x1 : Int32} {p0 : Nat} {I : It} (hp0 : kd (GG L) p0 = 1) : E 107 20 [some (.ref 1), some (.int x1)] [.ref p0] (GG L) I = K2 107 24 [some (.ref 1), some (.int x1)] [] (E 32 0 [some (.ref p0), some (.int x1)] [] (GG L) I) :=
  Eq.trans (e_iload_n mB107 dX6_record_20 rfl) (e_virt (as := [.int x1]) (b := p0) (rest := []) mB107 mC107 dX6_record_21 q_6_65 mN32 rfl rfl hp0 mC32 mX32 rfl rk_107_32 rfl rfl)
-- SV.record @24
set_option maxRecDepth 4000 in
theorem B107_24 {L : Nat × Nat} {x1 : Int32} {s0 : Int32} {I : It}  : E 107 24 [some (.ref 1), some (.int x1)] [.int s0] (GG L) I = if s0 = 0 then (some (some (.int (-1)), GG L, I)) else (K2 107 35 [some (.ref 1), some (.int x1)] [] (E 12 0 [some (.ref 81), some (.int x1)] [] (GG L) I)) :=
  Eq.trans (e_ifeq mB107 dX6_record_24 rfl) (ite_h (fun g1 => Eq.trans (e_iconst mB107 dX6_record_38 ki_m1) (e_retI mB107 dX6_record_39 mR107)) (fun g2 => Eq.trans (e_aload_n mB107 dX6_record_27 rfl) (Eq.trans (e_getR mB107 mC107 dX6_record_28 f_6_28 rfl t_6_2 k_1 (w_6_2 k_1)) (Eq.trans (e_iload_n mB107 dX6_record_31 rfl) (e_virt (as := [.int x1]) (b := 81) (rest := []) mB107 mC107 dX6_record_32 q_6_183 mN12 rfl rfl (wk_6_2 k_1) mC12 mX12 rfl rk_107_12 rfl rfl)))))
-- SV.record @35
set_option maxRecDepth 4000 in
theorem B107_35 {L : Nat × Nat} {u0 : Option Value} {u1 : Option Value} {s0 : Int32} {I : It}  : E 107 35 [u0, u1] [.int s0] (GG L) I = some (some (.int s0), GG L, I) :=
  Eq.trans (e_goto mB107 dX6_record_35 rfl) (e_retI mB107 dX6_record_39 mR107)
-- SV.ifMigrated @0
set_option maxRecDepth 4000 in
theorem B108_0 {L : Nat × Nat} {x1 : Int32} {x2 : Int32} {I : It}  : E 108 0 [some (.ref 1), some (.int x1), some (.int x2)] [] (GG L) I = K2 108 7 [some (.ref 1), some (.int x1), some (.int x2)] [] (E 3 0 [some (.ref 81)] [] (GG L) I) :=
  Eq.trans (e_aload_n mB108 dX6_ifMigrated_0 rfl) (Eq.trans (e_getR mB108 mC108 dX6_ifMigrated_1 f_6_28 rfl t_6_2 k_1 (w_6_2 k_1)) (e_virt (as := []) (b := 81) (rest := []) mB108 mC108 dX6_ifMigrated_4 q_6_116 mN3 rfl rfl (wk_6_2 k_1) mC3 mX3 rfl rk_108_3 rfl rfl))
-- SV.ifMigrated @7
set_option maxRecDepth 4000 in
theorem B108_7 {L : Nat × Nat} {x1 : Int32} {x2 : Int32} {s0 : Int32} {I : It}  : E 108 7 [some (.ref 1), some (.int x1), some (.int x2)] [.int s0] (GG L) I = if s0 = 0 then (some (some (.int (-5)), GG L, I)) else (K2 108 21 [some (.ref 1), some (.int x1), some (.int x2)] [] (E 46 0 [some (.ref 9), some (.int x1)] [] (GG L) I)) :=
  Eq.trans (e_ifne mB108 dX6_ifMigrated_7 rfl) (ite_h (fun g1 => Eq.trans (e_bipush mB108 dX6_ifMigrated_10 kb_m5) (e_retI mB108 dX6_ifMigrated_12 mR108)) (fun g2 => Eq.trans (e_aload_n mB108 dX6_ifMigrated_13 rfl) (Eq.trans (e_getR mB108 mC108 dX6_ifMigrated_14 f_6_19 rfl t_6_1 k_1 (w_6_1 k_1)) (Eq.trans (e_iload_n mB108 dX6_ifMigrated_17 rfl) (e_virt (as := [.int x1]) (b := 9) (rest := []) mB108 mC108 dX6_ifMigrated_18 q_6_61 mN46 rfl rfl (wk_6_1 k_1) mC46 mX46 rfl rk_108_46 rfl rfl)))))
-- SV.ifMigrated @21
set_option maxRecDepth 4000 in
theorem B108_21 {L : Nat × Nat} {x1 : Int32} {x2 : Int32} {p0 : Nat} {I : It} (hp0 : kd (GG L) p0 = 1) : E 108 21 [some (.ref 1), some (.int x1), some (.int x2)] [.ref p0] (GG L) I = K2 108 25 [some (.ref 1), some (.int x1), some (.int x2)] [] (E 32 0 [some (.ref p0), some (.int x2)] [] (GG L) I) :=
  Eq.trans (e_iload_n mB108 dX6_ifMigrated_21 rfl) (e_virt (as := [.int x2]) (b := p0) (rest := []) mB108 mC108 dX6_ifMigrated_22 q_6_65 mN32 rfl rfl hp0 mC32 mX32 rfl rk_108_32 rfl rfl)
-- SV.ifMigrated @25
set_option maxRecDepth 4000 in
theorem B108_25 {L : Nat × Nat} {x1 : Int32} {x2 : Int32} {s0 : Int32} {I : It}  : E 108 25 [some (.ref 1), some (.int x1), some (.int x2)] [.int s0] (GG L) I = if s0 = 0 then (some (some (.int (-1)), GG L, I)) else (K2 108 38 [some (.ref 1), some (.int x1), some (.int x2)] [.int x1] (E 6 0 [some (.ref 81)] [] (GG L) I)) :=
  Eq.trans (e_ifne mB108 dX6_ifMigrated_25 rfl) (ite_h (fun g1 => Eq.trans (e_iconst mB108 dX6_ifMigrated_28 ki_m1) (e_retI mB108 dX6_ifMigrated_29 mR108)) (fun g2 => Eq.trans (e_iload_n mB108 dX6_ifMigrated_30 rfl) (Eq.trans (e_aload_n mB108 dX6_ifMigrated_31 rfl) (Eq.trans (e_getR mB108 mC108 dX6_ifMigrated_32 f_6_28 rfl t_6_2 k_1 (w_6_2 k_1)) (e_virt (as := []) (b := 81) (rest := [.int x1]) mB108 mC108 dX6_ifMigrated_35 q_6_119 mN6 rfl rfl (wk_6_2 k_1) mC6 mX6 rfl rk_108_6 rfl rfl)))))
-- SV.ifMigrated @38
set_option maxRecDepth 4000 in
theorem B108_38 {L : Nat × Nat} {x1 : Int32} {x2 : Int32} {s0 : Int32} {s1 : Int32} {I : It}  : E 108 38 [some (.ref 1), some (.int x1), some (.int x2)] [.int s1, .int s0] (GG L) I = if s1 < s0 then (K2 108 53 [some (.ref 1), some (.int x1), some (.int x2)] [] (E 23 0 [some (.ref 81), some (.int x1), some (.int x2)] [] (GG L) I)) else (some (some (.int (-2)), GG L, I)) :=
  Eq.trans (e_cmgt mB108 dX6_ifMigrated_38 rfl) (ite_h (fun g1 => Eq.trans (e_aload_n mB108 dX6_ifMigrated_44 rfl) (Eq.trans (e_getR mB108 mC108 dX6_ifMigrated_45 f_6_28 rfl t_6_2 k_1 (w_6_2 k_1)) (Eq.trans (e_iload_n mB108 dX6_ifMigrated_48 rfl) (Eq.trans (e_iload_n mB108 dX6_ifMigrated_49 rfl) (e_virt (as := [.int x2, .int x1]) (b := 81) (rest := []) mB108 mC108 dX6_ifMigrated_50 q_6_186 mN23 rfl rfl (wk_6_2 k_1) mC23 mX23 rfl rk_108_23 rfl rfl))))) (fun g2 => Eq.trans (e_bipush mB108 dX6_ifMigrated_41 kb_m2) (e_retI mB108 dX6_ifMigrated_43 mR108)))
-- SV.ifMigrated @53
set_option maxRecDepth 4000 in
theorem B108_53 {L : Nat × Nat} {u0 : Option Value} {u1 : Option Value} {u2 : Option Value} {s0 : Int32} {I : It}  : E 108 53 [u0, u1, u2] [.int s0] (GG L) I = some (some (.int s0), GG L, I) :=
  e_retI mB108 dX6_ifMigrated_53 mR108
-- SV.ifFailed @0
set_option maxRecDepth 4000 in
theorem B109_0 {L : Nat × Nat} {x1 : Int32} {x2 : Int32} {x3 : Int32} {x4 : Int32} {I : It}  : E 109 0 [some (.ref 1), some (.int x1), some (.int x2), some (.int x3), some (.int x4), none] [] (GG L) I = K2 109 7 [some (.ref 1), some (.int x1), some (.int x2), some (.int x3), some (.int x4), none] [] (E 2 0 [some (.ref 81)] [] (GG L) I) :=
  Eq.trans (e_aload_n mB109 dX6_ifFailed_0 rfl) (Eq.trans (e_getR mB109 mC109 dX6_ifFailed_1 f_6_28 rfl t_6_2 k_1 (w_6_2 k_1)) (e_virt (as := []) (b := 81) (rest := []) mB109 mC109 dX6_ifFailed_4 q_6_84 mN2 rfl rfl (wk_6_2 k_1) mC2 mX2 rfl rk_109_2 rfl rfl))
-- SV.ifFailed @7
set_option maxRecDepth 4000 in
theorem B109_7 {L : Nat × Nat} {x1 : Int32} {x2 : Int32} {x3 : Int32} {x4 : Int32} {u5 : Option Value} {s0 : Int32} {I : It}  : E 109 7 [some (.ref 1), some (.int x1), some (.int x2), some (.int x3), some (.int x4), u5] [.int s0] (GG L) I = if s0 = 0 then (some (some (.int (-5)), GG L, I)) else (K2 109 20 [some (.ref 1), some (.int x1), some (.int x2), some (.int x3), some (.int x4), u5] [] (E 10 0 [some (.ref 81)] [] (GG L) I)) :=
  Eq.trans (e_ifne mB109 dX6_ifFailed_7 rfl) (ite_h (fun g1 => Eq.trans (e_bipush mB109 dX6_ifFailed_10 kb_m5) (e_retI mB109 dX6_ifFailed_12 mR109)) (fun g2 => Eq.trans (e_aload_n mB109 dX6_ifFailed_13 rfl) (Eq.trans (e_getR mB109 mC109 dX6_ifFailed_14 f_6_28 rfl t_6_2 k_1 (w_6_2 k_1)) (e_virt (as := []) (b := 81) (rest := []) mB109 mC109 dX6_ifFailed_17 q_6_101 mN10 rfl rfl (wk_6_2 k_1) mC10 mX10 rfl rk_109_10 rfl rfl))))
-- SV.ifFailed @20
set_option maxRecDepth 4000 in
theorem B109_20 {L : Nat × Nat} {x1 : Int32} {x2 : Int32} {x3 : Int32} {x4 : Int32} {u5 : Option Value} {p0 : Nat} {I : It} (hp0 : kd (GG L) p0 = 1) : E 109 20 [some (.ref 1), some (.int x1), some (.int x2), some (.int x3), some (.int x4), u5] [.ref p0] (GG L) I = K2 109 28 [some (.ref 1), some (.int x1), some (.int x2), some (.int x3), some (.int x4), some (.ref p0)] [] (E 32 0 [some (.ref p0), some (.int x1)] [] (GG L) I) :=
  Eq.trans (e_astore mB109 dX6_ifFailed_20 (sL_k rfl (Or.inr rfl) rfl)) (Eq.trans (e_aload mB109 dX6_ifFailed_22 rfl) (Eq.trans (e_iload_n mB109 dX6_ifFailed_24 rfl) (e_virt (as := [.int x1]) (b := p0) (rest := []) mB109 mC109 dX6_ifFailed_25 q_6_65 mN32 rfl rfl hp0 mC32 mX32 rfl rk_109_32 rfl rfl)))
-- SV.ifFailed @28
set_option maxRecDepth 4000 in
theorem B109_28 {L : Nat × Nat} {x1 : Int32} {x2 : Int32} {x3 : Int32} {x4 : Int32} {o5 : Nat} {s0 : Int32} {I : It} (ho5 : kd (GG L) o5 = 1) : E 109 28 [some (.ref 1), some (.int x1), some (.int x2), some (.int x3), some (.int x4), some (.ref o5)] [.int s0] (GG L) I = if s0 = 0 then (some (some (.int (-1)), GG L, I)) else (K2 109 38 [some (.ref 1), some (.int x1), some (.int x2), some (.int x3), some (.int x4), some (.ref o5)] [] (E 32 0 [some (.ref o5), some (.int x4)] [] (GG L) I)) :=
  Eq.trans (e_ifeq mB109 dX6_ifFailed_28 rfl) (ite_h (fun g1 => Eq.trans (e_iconst mB109 dX6_ifFailed_41 ki_m1) (e_retI mB109 dX6_ifFailed_42 mR109)) (fun g2 => Eq.trans (e_aload mB109 dX6_ifFailed_31 rfl) (Eq.trans (e_iload mB109 dX6_ifFailed_33 rfl) (e_virt (as := [.int x4]) (b := o5) (rest := []) mB109 mC109 dX6_ifFailed_35 q_6_65 mN32 rfl rfl ho5 mC32 mX32 rfl rk_109_32 rfl rfl))))
-- SV.ifFailed @38
set_option maxRecDepth 4000 in
theorem B109_38 {L : Nat × Nat} {x1 : Int32} {x2 : Int32} {x3 : Int32} {x4 : Int32} {o5 : Nat} {s0 : Int32} {I : It} (ho5 : kd (GG L) o5 = 1) : E 109 38 [some (.ref 1), some (.int x1), some (.int x2), some (.int x3), some (.int x4), some (.ref o5)] [.int s0] (GG L) I = if s0 = 0 then (some (some (.int (-1)), GG L, I)) else (K2 109 50 [some (.ref 1), some (.int x1), some (.int x2), some (.int x3), some (.int x4), some (.ref o5)] [] (E 36 0 [some (.ref o5), some (.int x1), some (.int x2)] [] (GG L) I)) :=
  Eq.trans (e_ifne mB109 dX6_ifFailed_38 rfl) (ite_h (fun g1 => Eq.trans (e_iconst mB109 dX6_ifFailed_41 ki_m1) (e_retI mB109 dX6_ifFailed_42 mR109)) (fun g2 => Eq.trans (e_aload mB109 dX6_ifFailed_43 rfl) (Eq.trans (e_iload_n mB109 dX6_ifFailed_45 rfl) (Eq.trans (e_iload_n mB109 dX6_ifFailed_46 rfl) (e_virt (as := [.int x2, .int x1]) (b := o5) (rest := []) mB109 mC109 dX6_ifFailed_47 q_6_108 mN36 rfl rfl ho5 mC36 mX36 rfl rk_109_36 rfl rfl)))))
-- SV.ifFailed @50
set_option maxRecDepth 4000 in
theorem B109_50 {L : Nat × Nat} {x1 : Int32} {x2 : Int32} {x3 : Int32} {x4 : Int32} {u5 : Option Value} {s0 : Int32} {I : It}  : E 109 50 [some (.ref 1), some (.int x1), some (.int x2), some (.int x3), some (.int x4), u5] [.int s0] (GG L) I = if s0 = 0 then (some (some (.int (-2)), GG L, I)) else (K2 109 57 [some (.ref 1), some (.int x1), some (.int x2), some (.int x3), some (.int x4), u5] [] (E 118 0 [some (.int x3)] [] (GG L) I)) :=
  Eq.trans (e_ifeq mB109 dX6_ifFailed_50 rfl) (ite_h (fun g1 => Eq.trans (e_bipush mB109 dX6_ifFailed_60 kb_m2) (e_retI mB109 dX6_ifFailed_62 mR109)) (fun g2 => Eq.trans (e_iload_n mB109 dX6_ifFailed_53 rfl) (e_stat (as := [.int x3]) (rest := []) mB109 mC109 dX6_ifFailed_54 na_6_81 q_6_81 (Or.inl rfl) mN118 rfl rfl mX118 rfl rk_109_118 rfl rfl)))
-- SV.ifFailed @57
set_option maxRecDepth 4000 in
theorem B109_57 {L : Nat × Nat} {x1 : Int32} {x2 : Int32} {x3 : Int32} {x4 : Int32} {u5 : Option Value} {s0 : Int32} {I : It}  : E 109 57 [some (.ref 1), some (.int x1), some (.int x2), some (.int x3), some (.int x4), u5] [.int s0] (GG L) I = if s0 = 0 then (some (some (.int (-2)), GG L, I)) else (K2 109 74 [some (.ref 1), some (.int x1), some (.int x2), some (.int x3), some (.int x4), u5] [] (E 1 0 [some (.ref 90), some (.ref 81)] [] (GG L) I)) :=
  Eq.trans (e_ifne mB109 dX6_ifFailed_57 rfl) (ite_h (fun g1 => Eq.trans (e_bipush mB109 dX6_ifFailed_60 kb_m2) (e_retI mB109 dX6_ifFailed_62 mR109)) (fun g2 => Eq.trans (e_aload_n mB109 dX6_ifFailed_63 rfl) (Eq.trans (e_getR mB109 mC109 dX6_ifFailed_64 f_6_32 rfl t_6_3 k_1 (w_6_3 k_1)) (Eq.trans (e_aload_n mB109 dX6_ifFailed_67 rfl) (Eq.trans (e_getR mB109 mC109 dX6_ifFailed_68 f_6_28 rfl t_6_2 k_1 (w_6_2 k_1)) (e_virt (as := [.ref 81]) (b := 90) (rest := []) mB109 mC109 dX6_ifFailed_71 q_6_189 mN1 rfl rfl (wk_6_3 k_1) mC1 mX1 rfl rk_109_1 rfl rfl))))))
-- SV.ifFailed @74
set_option maxRecDepth 4000 in
theorem B109_74 {L : Nat × Nat} {x1 : Int32} {x2 : Int32} {x3 : Int32} {x4 : Int32} {u5 : Option Value} {I : It}  : E 109 74 [some (.ref 1), some (.int x1), some (.int x2), some (.int x3), some (.int x4), u5] [] (GG L) I = K2 109 82 [some (.ref 1), some (.int x1), some (.int x2), some (.int x3), some (.int x4), u5] [] (E 16 0 [some (.ref 90), some (.int x3)] [] (GG L) I) :=
  Eq.trans (e_aload_n mB109 dX6_ifFailed_74 rfl) (Eq.trans (e_getR mB109 mC109 dX6_ifFailed_75 f_6_32 rfl t_6_3 k_1 (w_6_3 k_1)) (Eq.trans (e_iload_n mB109 dX6_ifFailed_78 rfl) (e_virt (as := [.int x3]) (b := 90) (rest := []) mB109 mC109 dX6_ifFailed_79 q_6_91 mN16 rfl rfl (wk_6_3 k_1) mC16 mX16 rfl rk_109_16 rfl rfl)))
-- SV.ifFailed @82
set_option maxRecDepth 4000 in
theorem B109_82 {L : Nat × Nat} {x1 : Int32} {x2 : Int32} {u3 : Option Value} {x4 : Int32} {u5 : Option Value} {I : It}  : E 109 82 [some (.ref 1), some (.int x1), some (.int x2), u3, some (.int x4), u5] [] (GG L) I = K2 109 91 [some (.ref 1), some (.int x1), some (.int x2), u3, some (.int x4), u5] [] (E 21 0 [some (.ref 90), some (.int x1), some (.int x2), none] [] (GG L) I) :=
  Eq.trans (e_aload_n mB109 dX6_ifFailed_82 rfl) (Eq.trans (e_getR mB109 mC109 dX6_ifFailed_83 f_6_32 rfl t_6_3 k_1 (w_6_3 k_1)) (Eq.trans (e_iload_n mB109 dX6_ifFailed_86 rfl) (Eq.trans (e_iload_n mB109 dX6_ifFailed_87 rfl) (e_virt (as := [.int x2, .int x1]) (b := 90) (rest := []) mB109 mC109 dX6_ifFailed_88 q_6_112 mN21 rfl rfl (wk_6_3 k_1) mC21 mX21 rfl rk_109_21 rfl rfl))))
-- SV.ifFailed @91
set_option maxRecDepth 4000 in
theorem B109_91 {L : Nat × Nat} {u1 : Option Value} {u2 : Option Value} {u3 : Option Value} {x4 : Int32} {u5 : Option Value} {s0 : Int32} {I : It}  : E 109 91 [some (.ref 1), u1, u2, u3, some (.int x4), u5] [.int s0] (GG L) I = K2 109 99 [some (.ref 1), u1, u2, u3, some (.int x4), u5] [] (E 17 0 [some (.ref 90)] [] (GG L) I) :=
  Eq.trans (e_pop mB109 dX6_ifFailed_91) (Eq.trans (e_aload_n mB109 dX6_ifFailed_92 rfl) (Eq.trans (e_getR mB109 mC109 dX6_ifFailed_93 f_6_32 rfl t_6_3 k_1 (w_6_3 k_1)) (e_virt (as := []) (b := 90) (rest := []) mB109 mC109 dX6_ifFailed_96 q_6_95 mN17 rfl rfl (wk_6_3 k_1) mC17 mX17 rfl rk_109_17 rfl rfl)))
-- SV.ifFailed @99
set_option maxRecDepth 4000 in
theorem B109_99 {L : Nat × Nat} {u1 : Option Value} {u2 : Option Value} {u3 : Option Value} {x4 : Int32} {u5 : Option Value} {I : It}  : E 109 99 [some (.ref 1), u1, u2, u3, some (.int x4), u5] [] (GG L) I = K2 109 106 [some (.ref 1), u1, u2, u3, some (.int x4), u5] [] (E 10 0 [some (.ref 90)] [] (GG L) I) :=
  Eq.trans (e_aload_n mB109 dX6_ifFailed_99 rfl) (Eq.trans (e_getR mB109 mC109 dX6_ifFailed_100 f_6_32 rfl t_6_3 k_1 (w_6_3 k_1)) (e_virt (as := []) (b := 90) (rest := []) mB109 mC109 dX6_ifFailed_103 q_6_101 mN10 rfl rfl (wk_6_3 k_1) mC10 mX10 rfl rk_109_10 rfl rfl))
-- SV.ifFailed @106
set_option maxRecDepth 4000 in
theorem B109_106 {L : Nat × Nat} {u1 : Option Value} {u2 : Option Value} {u3 : Option Value} {x4 : Int32} {u5 : Option Value} {p0 : Nat} {I : It} (hp0 : kd (GG L) p0 = 1) : E 109 106 [some (.ref 1), u1, u2, u3, some (.int x4), u5] [.ref p0] (GG L) I = K2 109 111 [some (.ref 1), u1, u2, u3, some (.int x4), u5] [] (E 32 0 [some (.ref p0), some (.int x4)] [] (GG L) I) :=
  Eq.trans (e_iload mB109 dX6_ifFailed_106 rfl) (e_virt (as := [.int x4]) (b := p0) (rest := []) mB109 mC109 dX6_ifFailed_108 q_6_65 mN32 rfl rfl hp0 mC32 mX32 rfl rk_109_32 rfl rfl)
-- SV.ifFailed @111
set_option maxRecDepth 4000 in
theorem B109_111 {L : Nat × Nat} {u1 : Option Value} {u2 : Option Value} {u3 : Option Value} {x4 : Int32} {u5 : Option Value} {s0 : Int32} {I : It}  : E 109 111 [some (.ref 1), u1, u2, u3, some (.int x4), u5] [.int s0] (GG L) I = if s0 = 0 then (some (some (.int (-6)), GG L, I)) else (K2 109 123 [some (.ref 1), u1, u2, u3, some (.int x4), u5] [] (E 11 0 [some (.ref 90), some (.int x4)] [] (GG L) I)) :=
  Eq.trans (e_ifeq mB109 dX6_ifFailed_111 rfl) (ite_h (fun g1 => Eq.trans (e_bipush mB109 dX6_ifFailed_126 kb_m6) (e_retI mB109 dX6_ifFailed_128 mR109)) (fun g2 => Eq.trans (e_aload_n mB109 dX6_ifFailed_114 rfl) (Eq.trans (e_getR mB109 mC109 dX6_ifFailed_115 f_6_32 rfl t_6_3 k_1 (w_6_3 k_1)) (Eq.trans (e_iload mB109 dX6_ifFailed_118 rfl) (e_virt (as := [.int x4]) (b := 90) (rest := []) mB109 mC109 dX6_ifFailed_120 q_6_105 mN11 rfl rfl (wk_6_3 k_1) mC11 mX11 rfl rk_109_11 rfl rfl)))))
-- SV.ifFailed @123
set_option maxRecDepth 4000 in
theorem B109_123 {L : Nat × Nat} {u0 : Option Value} {u1 : Option Value} {u2 : Option Value} {u3 : Option Value} {u4 : Option Value} {u5 : Option Value} {s0 : Int32} {I : It}  : E 109 123 [u0, u1, u2, u3, u4, u5] [.int s0] (GG L) I = some (some (.int s0), GG L, I) :=
  Eq.trans (e_goto mB109 dX6_ifFailed_123 rfl) (e_retI mB109 dX6_ifFailed_128 mR109)
-- SV.put @0
set_option maxRecDepth 4000 in
theorem B110_0 {L : Nat × Nat} {x1 : Int64} {I : It}  : E 110 0 [some (.ref 1), some (.long x1), none] [] (GG L) I = K2 110 8 [some (.ref 1), some (.long x1), none] [] (E 53 0 [some (.ref 2), some (.long x1), none, none, none] [] (GG L) I) :=
  Eq.trans (e_aload_n mB110 dX6_put_0 rfl) (Eq.trans (e_getR mB110 mC110 dX6_put_1 f_6_10 rfl t_6_0 k_1 (w_6_0 k_1)) (Eq.trans (e_lload_n mB110 dX6_put_4 rfl) (e_virt (as := [.long x1]) (b := 2) (rest := []) mB110 mC110 dX6_put_5 q_6_193 mN53 rfl rfl (wk_6_0 k_1) mC53 mX53 rfl rk_110_53 rfl rfl)))
-- SV.put @8
set_option maxRecDepth 4000 in
theorem B110_8 {L : Nat × Nat} {u0 : Option Value} {u1 : Option Value} {u2 : Option Value} {s0 : Int32} {I : It}  : E 110 8 [u0, u1, u2] [.int s0] (GG L) I = some (some (.int s0), GG L, I) :=
  e_retI mB110 dX6_put_8 mR110
-- SV.wipe @0
set_option maxRecDepth 4000 in
theorem B111_0 {L : Nat × Nat} {I : It}  : E 111 0 [some (.ref 1), none] [] (GG L) I = K2 111 7 [some (.ref 1), none] [] (E 50 0 [some (.ref 2)] [] (GG L) I) :=
  Eq.trans (e_aload_n mB111 dX6_wipe_0 rfl) (Eq.trans (e_getR mB111 mC111 dX6_wipe_1 f_6_10 rfl t_6_0 k_1 (w_6_0 k_1)) (e_virt (as := []) (b := 2) (rest := []) mB111 mC111 dX6_wipe_4 q_6_180 mN50 rfl rfl (wk_6_0 k_1) mC50 mX50 rfl rk_111_50 rfl rfl))
-- SV.wipe @7
set_option maxRecDepth 4000 in
theorem B111_7 {L : Nat × Nat} {u1 : Option Value} {s0 : Int32} {I : It}  : E 111 7 [some (.ref 1), u1] [.int s0] (GG L) I = K2 111 15 [some (.ref 1), some (.int s0)] [] (E 52 0 [some (.ref 2)] [] (GG L) I) :=
  Eq.trans (e_istore_n mB111 dX6_wipe_7 (sL_k rfl (Or.inr rfl) rfl)) (Eq.trans (e_aload_n mB111 dX6_wipe_8 rfl) (Eq.trans (e_getR mB111 mC111 dX6_wipe_9 f_6_10 rfl t_6_0 k_1 (w_6_0 k_1)) (e_virt (as := []) (b := 2) (rest := []) mB111 mC111 dX6_wipe_12 q_6_58 mN52 rfl rfl (wk_6_0 k_1) mC52 mX52 rfl rk_111_52 rfl rfl)))
-- SV.wipe @15
set_option maxRecDepth 4000 in
theorem B111_15 {L : Nat × Nat} {u0 : Option Value} {x1 : Int32} {I : It}  : E 111 15 [u0, some (.int x1)] [] (GG L) I = some (some (.int x1), GG L, I) :=
  Eq.trans (e_iload_n mB111 dX6_wipe_15 rfl) (e_retI mB111 dX6_wipe_16 mR111)
-- SV.fault @0
set_option maxRecDepth 4000 in
theorem B112_0 {L : Nat × Nat} {I : It}  : E 112 0 [some (.ref 1)] [] (GG L) I = K2 112 7 [some (.ref 1)] [] (E 55 0 [some (.ref 2), none] [] (GG L) I) :=
  Eq.trans (e_aload_n mB112 dX6_fault_0 rfl) (Eq.trans (e_getR mB112 mC112 dX6_fault_1 f_6_10 rfl t_6_0 k_1 (w_6_0 k_1)) (e_virt (as := []) (b := 2) (rest := []) mB112 mC112 dX6_fault_4 q_6_43 mN55 rfl rfl (wk_6_0 k_1) mC55 mX55 rfl rk_112_55 rfl rfl))
-- SV.fault @7
set_option maxRecDepth 4000 in
theorem B112_7 {L : Nat × Nat} {u0 : Option Value} {s0 : Int32} {I : It}  : E 112 7 [u0] [.int s0] (GG L) I = some (some (.int s0), GG L, I) :=
  e_retI mB112 dX6_fault_7 mR112
-- SV.keep @0
set_option maxRecDepth 4000 in
theorem B113_0 {L : Nat × Nat} {x1 : Int32} {I : It}  : E 113 0 [some (.ref 1), some (.int x1)] [] (GG L) I = K2 113 4 [some (.ref 1), some (.int x1)] [] (E 117 0 [some (.int x1)] [] (GG L) I) :=
  Eq.trans (e_iload_n mB113 dX6_keep_0 rfl) (e_stat (as := [.int x1]) (rest := []) mB113 mC113 dX6_keep_1 na_6_197 q_6_197 (Or.inl rfl) mN117 rfl rfl mX117 rfl rk_113_117 rfl rfl)
-- SV.keep @4
set_option maxRecDepth 4000 in
theorem B113_4 {L : Nat × Nat} {x1 : Int32} {s0 : Int32} {I : It}  : E 113 4 [some (.ref 1), some (.int x1)] [.int s0] (GG L) I = if s0 = 0 then (some (some (.int (-2)), GG L, I)) else (ck (inb x1 2) (K2 113 23 [some (.ref 1), some (.int x1)] [] (E 1 0 [some (.ref (100 + 9 * ix x1)), some (.ref 81)] [] (GG L) I))) :=
  Eq.trans (e_ifne mB113 dX6_keep_4 rfl) (ite_h (fun g1 => Eq.trans (e_bipush mB113 dX6_keep_7 kb_m2) (e_retI mB113 dX6_keep_9 mR113)) (fun g2 => Eq.trans (e_aload_n mB113 dX6_keep_10 rfl) (Eq.trans (e_getR mB113 mC113 dX6_keep_11 f_6_35 rfl t_6_4 k_1 (w_6_4 k_1)) (Eq.trans (e_iload_n mB113 dX6_keep_14 rfl) (Eq.trans (e_aald mB113 dX6_keep_15 (Or.inr (wk_6_4 k_1)) (wl_6_4 k_1) we_54) (ck_h fun g3 => Eq.trans (e_aload_n mB113 dX6_keep_16 rfl) (Eq.trans (e_getR mB113 mC113 dX6_keep_17 f_6_28 rfl t_6_2 k_1 (w_6_2 k_1)) (e_virt (as := [.ref 81]) (b := (100 + 9 * ix x1)) (rest := []) mB113 mC113 dX6_keep_20 q_6_189 mN1 rfl rfl (wek_54 (inb_lt g3)) mC1 mX1 rfl rk_113_1 rfl rfl))))))))
-- SV.keep @23
set_option maxRecDepth 4000 in
theorem B113_23 {L : Nat × Nat} {x1 : Int32} {I : It}  : E 113 23 [some (.ref 1), some (.int x1)] [] (GG L) I = ck (inb x1 2) (K2 113 37 [some (.ref 1), some (.int x1)] [] (E 5 0 [some (.ref 81)] [] (GG L) (uI I 118 (ix x1) 1))) :=
  Eq.trans (e_aload_n mB113 dX6_keep_23 rfl) (Eq.trans (e_getR mB113 mC113 dX6_keep_24 f_6_39 rfl t_6_5 k_1 (w_6_5 k_1)) (Eq.trans (e_iload_n mB113 dX6_keep_27 rfl) (Eq.trans (e_iconst mB113 dX6_keep_28 ki_1) (Eq.trans (e_bast_l mB113 dX6_keep_29 (wk_6_5 k_1) (wl_6_5 k_1) b1_1) (ck_h fun g1 => Eq.trans (e_aload_n mB113 dX6_keep_30 rfl) (Eq.trans (e_getR mB113 mC113 dX6_keep_31 f_6_28 rfl t_6_2 k_1 (w_6_2 k_1)) (e_virt (as := []) (b := 81) (rest := []) mB113 mC113 dX6_keep_34 q_6_98 mN5 rfl rfl (wk_6_2 k_1) mC5 mX5 rfl rk_113_5 rfl rfl)))))))
-- SV.keep @37
set_option maxRecDepth 4000 in
theorem B113_37 {L : Nat × Nat} {u0 : Option Value} {u1 : Option Value} {s0 : Int32} {I : It}  : E 113 37 [u0, u1] [.int s0] (GG L) I = some (some (.int s0), GG L, I) :=
  e_retI mB113 dX6_keep_37 mR113
-- SV.back @0
set_option maxRecDepth 4000 in
theorem B114_0 {L : Nat × Nat} {x1 : Int32} {I : It}  : E 114 0 [some (.ref 1), some (.int x1)] [] (GG L) I = K2 114 4 [some (.ref 1), some (.int x1)] [] (E 117 0 [some (.int x1)] [] (GG L) I) :=
  Eq.trans (e_iload_n mB114 dX6_back_0 rfl) (e_stat (as := [.int x1]) (rest := []) mB114 mC114 dX6_back_1 na_6_197 q_6_197 (Or.inl rfl) mN117 rfl rfl mX117 rfl rk_114_117 rfl rfl)
-- SV.back @4
set_option maxRecDepth 4000 in
theorem B114_4 {L : Nat × Nat} {x1 : Int32} {s0 : Int32} {I : It}  : E 114 4 [some (.ref 1), some (.int x1)] [.int s0] (GG L) I = if s0 = 0 then (some (some (.int (-2)), GG L, I)) else (ck (inb x1 2) (if (I 118 (ix x1)) = 0 then (some (some (.int (-5)), GG L, I)) else (ck (inb x1 2) (K2 114 35 [some (.ref 1), some (.int x1)] [] (E 1 0 [some (.ref 81), some (.ref (100 + 9 * ix x1))] [] (GG L) I))))) :=
  Eq.trans (e_ifne mB114 dX6_back_4 rfl) (ite_h (fun g1 => Eq.trans (e_bipush mB114 dX6_back_7 kb_m2) (e_retI mB114 dX6_back_9 mR114)) (fun g2 => Eq.trans (e_aload_n mB114 dX6_back_10 rfl) (Eq.trans (e_getR mB114 mC114 dX6_back_11 f_6_39 rfl t_6_5 k_1 (w_6_5 k_1)) (Eq.trans (e_iload_n mB114 dX6_back_14 rfl) (Eq.trans (e_bald mB114 dX6_back_15 (wk_6_5 k_1) (wl_6_5 k_1)) (ck_h fun g3 => Eq.trans (e_ifne mB114 dX6_back_16 rfl) (ite_h (fun g4 => Eq.trans (e_bipush mB114 dX6_back_19 kb_m5) (e_retI mB114 dX6_back_21 mR114)) (fun g5 => Eq.trans (e_aload_n mB114 dX6_back_22 rfl) (Eq.trans (e_getR mB114 mC114 dX6_back_23 f_6_28 rfl t_6_2 k_1 (w_6_2 k_1)) (Eq.trans (e_aload_n mB114 dX6_back_26 rfl) (Eq.trans (e_getR mB114 mC114 dX6_back_27 f_6_35 rfl t_6_4 k_1 (w_6_4 k_1)) (Eq.trans (e_iload_n mB114 dX6_back_30 rfl) (Eq.trans (e_aald mB114 dX6_back_31 (Or.inr (wk_6_4 k_1)) (wl_6_4 k_1) we_54) (ck_h fun g6 => e_virt (as := [.ref (100 + 9 * ix x1)]) (b := 81) (rest := []) mB114 mC114 dX6_back_32 q_6_189 mN1 rfl rfl (wk_6_2 k_1) mC1 mX1 rfl rk_114_1 rfl rfl))))))))))))))
-- SV.back @35
set_option maxRecDepth 4000 in
theorem B114_35 {L : Nat × Nat} {u1 : Option Value} {I : It}  : E 114 35 [some (.ref 1), u1] [] (GG L) I = K2 114 42 [some (.ref 1), u1] [] (E 5 0 [some (.ref 81)] [] (GG L) I) :=
  Eq.trans (e_aload_n mB114 dX6_back_35 rfl) (Eq.trans (e_getR mB114 mC114 dX6_back_36 f_6_28 rfl t_6_2 k_1 (w_6_2 k_1)) (e_virt (as := []) (b := 81) (rest := []) mB114 mC114 dX6_back_39 q_6_98 mN5 rfl rfl (wk_6_2 k_1) mC5 mX5 rfl rk_114_5 rfl rfl))
-- SV.back @42
set_option maxRecDepth 4000 in
theorem B114_42 {L : Nat × Nat} {u0 : Option Value} {u1 : Option Value} {s0 : Int32} {I : It}  : E 114 42 [u0, u1] [.int s0] (GG L) I = some (some (.int s0), GG L, I) :=
  e_retI mB114 dX6_back_42 mR114
-- SV.isPage @0
set_option maxRecDepth 4000 in
theorem B115_0 {L : Nat × Nat} {x0 : Int32} {I : It}  : E 115 0 [some (.int x0)] [] (GG L) I = if x0 < 0 then (some (some (.int 0), GG L, I)) else (if 2 ≤ x0 then (some (some (.int 0), GG L, I)) else (some (some (.int 1), GG L, I))) :=
  Eq.trans (e_iload_n mB115 dX6_isPage_0 rfl) (Eq.trans (e_iflt mB115 dX6_isPage_1 rfl) (ite_h (fun g1 => Eq.trans (e_iconst mB115 dX6_isPage_13 ki_0) (e_retZ_l mB115 dX6_isPage_14 mR115 b1_0)) (fun g2 => Eq.trans (e_iload_n mB115 dX6_isPage_4 rfl) (Eq.trans (e_iconst mB115 dX6_isPage_5 ki_2) (Eq.trans (e_cmge mB115 dX6_isPage_6 rfl) (ite_h (fun g3 => Eq.trans (e_iconst mB115 dX6_isPage_13 ki_0) (e_retZ_l mB115 dX6_isPage_14 mR115 b1_0)) (fun g4 => Eq.trans (e_iconst mB115 dX6_isPage_9 ki_1) (Eq.trans (e_goto mB115 dX6_isPage_10 rfl) (e_retZ_l mB115 dX6_isPage_14 mR115 b1_1)))))))))
-- SV.isCell @0
set_option maxRecDepth 4000 in
theorem B116_0 {L : Nat × Nat} {x0 : Int32} {x1 : Int32} {I : It}  : E 116 0 [some (.int x0), some (.int x1)] [] (GG L) I = K2 116 4 [some (.int x0), some (.int x1)] [] (E 115 0 [some (.int x0)] [] (GG L) I) :=
  Eq.trans (e_iload_n mB116 dX6_isCell_0 rfl) (e_stat (as := [.int x0]) (rest := []) mB116 mC116 dX6_isCell_1 na_6_145 q_6_145 (Or.inl rfl) mN115 rfl rfl mX115 rfl rk_116_115 rfl rfl)
-- SV.isCell @4
set_option maxRecDepth 4000 in
theorem B116_4 {L : Nat × Nat} {u0 : Option Value} {x1 : Int32} {s0 : Int32} {I : It}  : E 116 4 [u0, some (.int x1)] [.int s0] (GG L) I = if s0 = 0 then (some (some (.int 0), GG L, I)) else (if x1 < 0 then (some (some (.int 0), GG L, I)) else (if 48 ≤ x1 then (some (some (.int 0), GG L, I)) else (some (some (.int 1), GG L, I)))) :=
  Eq.trans (e_ifeq mB116 dX6_isCell_4 rfl) (ite_h (fun g1 => Eq.trans (e_iconst mB116 dX6_isCell_21 ki_0) (e_retZ_l mB116 dX6_isCell_22 mR116 b1_0)) (fun g2 => Eq.trans (e_iload_n mB116 dX6_isCell_7 rfl) (Eq.trans (e_iflt mB116 dX6_isCell_8 rfl) (ite_h (fun g3 => Eq.trans (e_iconst mB116 dX6_isCell_21 ki_0) (e_retZ_l mB116 dX6_isCell_22 mR116 b1_0)) (fun g4 => Eq.trans (e_iload_n mB116 dX6_isCell_11 rfl) (Eq.trans (e_bipush mB116 dX6_isCell_12 kb_48) (Eq.trans (e_cmge mB116 dX6_isCell_14 rfl) (ite_h (fun g5 => Eq.trans (e_iconst mB116 dX6_isCell_21 ki_0) (e_retZ_l mB116 dX6_isCell_22 mR116 b1_0)) (fun g6 => Eq.trans (e_iconst mB116 dX6_isCell_17 ki_1) (Eq.trans (e_goto mB116 dX6_isCell_18 rfl) (e_retZ_l mB116 dX6_isCell_22 mR116 b1_1)))))))))))
-- SV.isImage @0
set_option maxRecDepth 4000 in
theorem B117_0 {L : Nat × Nat} {x0 : Int32} {I : It}  : E 117 0 [some (.int x0)] [] (GG L) I = if x0 < 0 then (some (some (.int 0), GG L, I)) else (if 2 ≤ x0 then (some (some (.int 0), GG L, I)) else (some (some (.int 1), GG L, I))) :=
  Eq.trans (e_iload_n mB117 dX6_isImage_0 rfl) (Eq.trans (e_iflt mB117 dX6_isImage_1 rfl) (ite_h (fun g1 => Eq.trans (e_iconst mB117 dX6_isImage_13 ki_0) (e_retZ_l mB117 dX6_isImage_14 mR117 b1_0)) (fun g2 => Eq.trans (e_iload_n mB117 dX6_isImage_4 rfl) (Eq.trans (e_iconst mB117 dX6_isImage_5 ki_2) (Eq.trans (e_cmge mB117 dX6_isImage_6 rfl) (ite_h (fun g3 => Eq.trans (e_iconst mB117 dX6_isImage_13 ki_0) (e_retZ_l mB117 dX6_isImage_14 mR117 b1_0)) (fun g4 => Eq.trans (e_iconst mB117 dX6_isImage_9 ki_1) (Eq.trans (e_goto mB117 dX6_isImage_10 rfl) (e_retZ_l mB117 dX6_isImage_14 mR117 b1_1)))))))))
-- SV.isCountOfWrites @0
set_option maxRecDepth 4000 in
theorem B118_0 {L : Nat × Nat} {x0 : Int32} {I : It}  : E 118 0 [some (.int x0)] [] (GG L) I = if x0 < 0 then (some (some (.int 0), GG L, I)) else (if 200 < x0 then (some (some (.int 0), GG L, I)) else (some (some (.int 1), GG L, I))) :=
  Eq.trans (e_iload_n mB118 dX6_isCountOfWrites_0 rfl) (Eq.trans (e_iflt mB118 dX6_isCountOfWrites_1 rfl) (ite_h (fun g1 => Eq.trans (e_iconst mB118 dX6_isCountOfWrites_15 ki_0) (e_retZ_l mB118 dX6_isCountOfWrites_16 mR118 b1_0)) (fun g2 => Eq.trans (e_iload_n mB118 dX6_isCountOfWrites_4 rfl) (Eq.trans (e_sipush mB118 dX6_isCountOfWrites_5 ks_200) (Eq.trans (e_cmgt mB118 dX6_isCountOfWrites_8 rfl) (ite_h (fun g3 => Eq.trans (e_iconst mB118 dX6_isCountOfWrites_15 ki_0) (e_retZ_l mB118 dX6_isCountOfWrites_16 mR118 b1_0)) (fun g4 => Eq.trans (e_iconst mB118 dX6_isCountOfWrites_11 ki_1) (Eq.trans (e_goto mB118 dX6_isCountOfWrites_12 rfl) (e_retZ_l mB118 dX6_isCountOfWrites_16 mR118 b1_1)))))))))
-- SV.isName @0
set_option maxRecDepth 4000 in
theorem B119_0 {L : Nat × Nat} {x0 : Int32} {I : It}  : E 119 0 [some (.int x0)] [] (GG L) I = if x0 < 0 then (some (some (.int 0), GG L, I)) else (if 10 ≤ x0 then (some (some (.int 0), GG L, I)) else (some (some (.int 1), GG L, I))) :=
  Eq.trans (e_iload_n mB119 dX6_isName_0 rfl) (Eq.trans (e_iflt mB119 dX6_isName_1 rfl) (ite_h (fun g1 => Eq.trans (e_iconst mB119 dX6_isName_14 ki_0) (e_retZ_l mB119 dX6_isName_15 mR119 b1_0)) (fun g2 => Eq.trans (e_iload_n mB119 dX6_isName_4 rfl) (Eq.trans (e_bipush mB119 dX6_isName_5 kb_10) (Eq.trans (e_cmge mB119 dX6_isName_7 rfl) (ite_h (fun g3 => Eq.trans (e_iconst mB119 dX6_isName_14 ki_0) (e_retZ_l mB119 dX6_isName_15 mR119 b1_0)) (fun g4 => Eq.trans (e_iconst mB119 dX6_isName_10 ki_1) (Eq.trans (e_goto mB119 dX6_isName_11 rfl) (e_retZ_l mB119 dX6_isName_15 mR119 b1_1)))))))))
