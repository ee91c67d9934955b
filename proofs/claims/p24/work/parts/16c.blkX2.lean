-- SV$Layouts.count @0
set_option maxRecDepth 4000 in
theorem B44_0 {L : Nat × Nat} {I : It}  : E 44 0 [some (.ref 9)] [] (GG L) I = some (some (.int (I 9 2)), GG L, I) :=
  Eq.trans (e_aload_n mB44 dX2_count_0 rfl) (Eq.trans (e_getI mB44 mC44 dX2_count_1 f_2_22 rfl tn_2_2 k_9) (e_retI mB44 dX2_count_4 mR44))
-- SV$Layouts.has @0
set_option maxRecDepth 4000 in
theorem B45_0 {L : Nat × Nat} {x1 : Int32} {I : It}  : E 45 0 [some (.ref 9), some (.int x1)] [] (GG L) I = if x1 < 0 then (some (some (.int 0), GG L, I)) else (if (I 9 2) ≤ x1 then (some (some (.int 0), GG L, I)) else (if 6 ≤ x1 then (some (some (.int 0), GG L, I)) else (some (some (.int 1), GG L, I)))) :=
  Eq.trans (e_iload_n mB45 dX2_has_0 rfl) (Eq.trans (e_iflt mB45 dX2_has_1 rfl) (ite_h (fun g1 => Eq.trans (e_iconst mB45 dX2_has_22 ki_0) (e_retZ_l mB45 dX2_has_23 mR45 b1_0)) (fun g2 => Eq.trans (e_iload_n mB45 dX2_has_4 rfl) (Eq.trans (e_aload_n mB45 dX2_has_5 rfl) (Eq.trans (e_getI mB45 mC45 dX2_has_6 f_2_22 rfl tn_2_2 k_9) (Eq.trans (e_cmge mB45 dX2_has_9 rfl) (ite_h (fun g3 => Eq.trans (e_iconst mB45 dX2_has_22 ki_0) (e_retZ_l mB45 dX2_has_23 mR45 b1_0)) (fun g4 => Eq.trans (e_iload_n mB45 dX2_has_12 rfl) (Eq.trans (e_bipush mB45 dX2_has_13 kb_6) (Eq.trans (e_cmge mB45 dX2_has_15 rfl) (ite_h (fun g5 => Eq.trans (e_iconst mB45 dX2_has_22 ki_0) (e_retZ_l mB45 dX2_has_23 mR45 b1_0)) (fun g6 => Eq.trans (e_iconst mB45 dX2_has_18 ki_1) (Eq.trans (e_goto mB45 dX2_has_19 rfl) (e_retZ_l mB45 dX2_has_23 mR45 b1_1))))))))))))))
-- SV$Layouts.of @0
set_option maxRecDepth 4000 in
theorem B46_0 {L : Nat × Nat} {x1 : Int32} {I : It}  : E 46 0 [some (.ref 9), some (.int x1)] [] (GG L) I = K2 46 5 [some (.ref 9), some (.int x1)] [] (E 45 0 [some (.ref 9), some (.int x1)] [] (GG L) I) :=
  Eq.trans (e_aload_n mB46 dX2_of_0 rfl) (Eq.trans (e_iload_n mB46 dX2_of_1 rfl) (e_virt (as := [.int x1]) (b := 9) (rest := []) mB46 mC46 dX2_of_2 q_2_26 mN45 rfl rfl k_9 mC45 mX45 rfl rk_46_45 rfl rfl))
-- SV$Layouts.of @5
set_option maxRecDepth 4000 in
theorem B46_5 {L : Nat × Nat} {x1 : Int32} {s0 : Int32} {I : It}  : E 46 5 [some (.ref 9), some (.int x1)] [.int s0] (GG L) I = if s0 = 0 then (some (some (.ref 10), GG L, I)) else (ck (inb x1 6) (some (some (.ref (21 + 10 * ix x1)), GG L, I))) :=
  Eq.trans (e_ifeq mB46 dX2_of_5 rfl) (ite_h (fun g1 => Eq.trans (e_aload_n mB46 dX2_of_17 rfl) (Eq.trans (e_getR mB46 mC46 dX2_of_18 f_2_12 rfl t_2_0 k_9 (w_2_0 k_9)) (e_retA mB46 dX2_of_21 ra_46))) (fun g2 => Eq.trans (e_aload_n mB46 dX2_of_8 rfl) (Eq.trans (e_getR mB46 mC46 dX2_of_9 f_2_18 rfl t_2_1 k_9 (w_2_1 k_9)) (Eq.trans (e_iload_n mB46 dX2_of_12 rfl) (Eq.trans (e_aald mB46 dX2_of_13 (Or.inl (wk_2_1 k_9)) (wl_2_1 k_9) we_53) (ck_h fun g3 => Eq.trans (e_goto mB46 dX2_of_14 rfl) (e_retA mB46 dX2_of_21 ra_46)))))))
-- SV$Layouts.extend @0
set_option maxRecDepth 4000 in
theorem B47_0 {L : Nat × Nat} {o1 : Nat} {I : It} (ho1 : kd (GG L) o1 = 5) : E 47 0 [some (.ref 9), some (.ref o1)] [] (GG L) I = if 6 ≤ (I 9 2) then (some (some (.int 0), GG L, I)) else (ck (inb (I 9 2) 6) (K2 47 28 [some (.ref 9), some (.ref o1)] [.ref (21 + 10 * ix (I 9 2))] (E 46 0 [some (.ref 9), some (.int ((I 9 2) - 1))] [] (GG L) I))) :=
  Eq.trans (e_aload_n mB47 dX2_extend_0 rfl) (Eq.trans (e_getI mB47 mC47 dX2_extend_1 f_2_22 rfl tn_2_2 k_9) (Eq.trans (e_bipush mB47 dX2_extend_4 kb_6) (Eq.trans (e_cmge mB47 dX2_extend_6 rfl) (ite_h (fun g1 => Eq.trans (e_iconst mB47 dX2_extend_35 ki_0) (e_retZ_l mB47 dX2_extend_36 mR47 b1_0)) (fun g2 => Eq.trans (e_aload_n mB47 dX2_extend_9 rfl) (Eq.trans (e_getR mB47 mC47 dX2_extend_10 f_2_18 rfl t_2_1 k_9 (w_2_1 k_9)) (Eq.trans (e_aload_n mB47 dX2_extend_13 rfl) (Eq.trans (e_getI mB47 mC47 dX2_extend_14 f_2_22 rfl tn_2_2 k_9) (Eq.trans (e_aald mB47 dX2_extend_17 (Or.inl (wk_2_1 k_9)) (wl_2_1 k_9) we_53) (ck_h fun g3 => Eq.trans (e_aload_n mB47 dX2_extend_18 rfl) (Eq.trans (e_aload_n mB47 dX2_extend_19 rfl) (Eq.trans (e_getI mB47 mC47 dX2_extend_20 f_2_22 rfl tn_2_2 k_9) (Eq.trans (e_iconst mB47 dX2_extend_23 ki_1) (Eq.trans (e_isub mB47 dX2_extend_24) (e_virt (as := [.int ((I 9 2) - 1)]) (b := 9) (rest := [.ref (21 + 10 * ix (I 9 2))]) mB47 mC47 dX2_extend_25 q_2_30 mN46 rfl rfl k_9 mC46 mX46 rfl rk_47_46 rfl rfl)))))))))))))))
-- SV$Layouts.extend @28
set_option maxRecDepth 4000 in
theorem B47_28 {L : Nat × Nat} {o1 : Nat} {p0 : Nat} {p1 : Nat} {I : It} (ho1 : kd (GG L) o1 = 5) (hp0 : kd (GG L) p0 = 1) (hp1 : kd (GG L) p1 = 1) : E 47 28 [some (.ref 9), some (.ref o1)] [.ref p1, .ref p0] (GG L) I = K2 47 32 [some (.ref 9), some (.ref o1)] [] (E 37 0 [some (.ref p0), some (.ref p1), some (.ref o1), none] [] (GG L) I) :=
  Eq.trans (e_aload_n mB47 dX2_extend_28 rfl) (e_virt (as := [.ref o1, .ref p1]) (b := p0) (rest := []) mB47 mC47 dX2_extend_29 q_2_34 mN37 rfl rfl hp0 mC37 mX37 rfl rk_47_37 rfl rfl)
-- SV$Layouts.extend @32
set_option maxRecDepth 4000 in
theorem B47_32 {L : Nat × Nat} {u1 : Option Value} {s0 : Int32} {I : It}  : E 47 32 [some (.ref 9), u1] [.int s0] (GG L) I = if s0 = 0 then (some (some (.int 0), GG L, I)) else (some (some (.int 1), GG L, (uI I 9 2 ((I 9 2) + 1)))) :=
  Eq.trans (e_ifne mB47 dX2_extend_32 rfl) (ite_h (fun g1 => Eq.trans (e_iconst mB47 dX2_extend_35 ki_0) (e_retZ_l mB47 dX2_extend_36 mR47 b1_0)) (fun g2 => Eq.trans (e_aload_n mB47 dX2_extend_37 rfl) (Eq.trans (e_dupA mB47 dX2_extend_38) (Eq.trans (e_getI mB47 mC47 dX2_extend_39 f_2_22 rfl tn_2_2 k_9) (Eq.trans (e_iconst mB47 dX2_extend_42 ki_1) (Eq.trans (e_iadd mB47 dX2_extend_43) (Eq.trans (e_putI mB47 mC47 dX2_extend_44 f_2_22 rfl t_2_2 ff_2_2 k_9) (Eq.trans (e_iconst mB47 dX2_extend_47 ki_1) (e_retZ_l mB47 dX2_extend_48 mR47 b1_1)))))))))
-- SV$Layouts.carryOver @0
set_option maxRecDepth 4000 in
theorem B48_0 {L : Nat × Nat} {o1 : Nat} {x2 : Int32} {x3 : Int32} {I : It} (ho1 : kd (GG L) o1 = 50) (lo1 : ln (GG L) o1 = 10) : E 48 0 [some (.ref 9), some (.ref o1), some (.int x2), some (.int x3), none] [] (GG L) I = E 48 5 [some (.ref 9), some (.ref o1), some (.int x2), some (.int x3), some (.int (x2 + 1))] [] (GG L) I :=
  Eq.trans (e_iload_n mB48 dX2_carryOver_0 rfl) (Eq.trans (e_iconst mB48 dX2_carryOver_1 ki_1) (Eq.trans (e_iadd mB48 dX2_carryOver_2) (e_istore mB48 dX2_carryOver_3 (sL_k rfl (Or.inr rfl) rfl))))
-- SV$Layouts.carryOver @5
set_option maxRecDepth 4000 in
theorem B48_5 {L : Nat × Nat} {o1 : Nat} {u2 : Option Value} {x3 : Int32} {x4 : Int32} {I : It} (ho1 : kd (GG L) o1 = 50) (lo1 : ln (GG L) o1 = 10) : E 48 5 [some (.ref 9), some (.ref o1), u2, some (.int x3), some (.int x4)] [] (GG L) I = if x3 < x4 then (some (none, GG L, I)) else (if 6 ≤ x4 then (some (none, GG L, I)) else (K2 48 24 [some (.ref 9), some (.ref o1), u2, some (.int x3), some (.int x4)] [] (E 46 0 [some (.ref 9), some (.int x4)] [] (GG L) I))) :=
  Eq.trans (e_iload mB48 dX2_carryOver_5 rfl) (Eq.trans (e_iload_n mB48 dX2_carryOver_7 rfl) (Eq.trans (e_cmgt mB48 dX2_carryOver_8 rfl) (ite_h (fun g1 => e_retV mB48 dX2_carryOver_34 mR48) (fun g2 => Eq.trans (e_iload mB48 dX2_carryOver_11 rfl) (Eq.trans (e_bipush mB48 dX2_carryOver_13 kb_6) (Eq.trans (e_cmge mB48 dX2_carryOver_15 rfl) (ite_h (fun g3 => e_retV mB48 dX2_carryOver_34 mR48) (fun g4 => Eq.trans (e_aload_n mB48 dX2_carryOver_18 rfl) (Eq.trans (e_iload mB48 dX2_carryOver_19 rfl) (e_virt (as := [.int x4]) (b := 9) (rest := []) mB48 mC48 dX2_carryOver_21 q_2_30 mN46 rfl rfl k_9 mC46 mX46 rfl rk_48_46 rfl rfl))))))))))
-- SV$Layouts.carryOver @24
set_option maxRecDepth 4000 in
theorem B48_24 {L : Nat × Nat} {o1 : Nat} {u2 : Option Value} {x3 : Int32} {x4 : Int32} {p0 : Nat} {I : It} (ho1 : kd (GG L) o1 = 50) (lo1 : ln (GG L) o1 = 10) (hp0 : kd (GG L) p0 = 1) : E 48 24 [some (.ref 9), some (.ref o1), u2, some (.int x3), some (.int x4)] [.ref p0] (GG L) I = K2 48 28 [some (.ref 9), some (.ref o1), u2, some (.int x3), some (.int x4)] [] (E 42 0 [some (.ref p0), some (.ref o1)] [] (GG L) I) :=
  Eq.trans (e_aload_n mB48 dX2_carryOver_24 rfl) (e_virt (as := [.ref o1]) (b := p0) (rest := []) mB48 mC48 dX2_carryOver_25 q_2_38 mN42 rfl rfl hp0 mC42 mX42 rfl rk_48_42 rfl rfl)
-- SV$Layouts.carryOver @28
set_option maxRecDepth 4000 in
theorem B48_28 {L : Nat × Nat} {o1 : Nat} {u2 : Option Value} {x3 : Int32} {x4 : Int32} {I : It} (ho1 : kd (GG L) o1 = 50) (lo1 : ln (GG L) o1 = 10) : E 48 28 [some (.ref 9), some (.ref o1), u2, some (.int x3), some (.int x4)] [] (GG L) I = E 48 5 [some (.ref 9), some (.ref o1), u2, some (.int x3), some (.int (x4 + 1))] [] (GG L) I :=
  Eq.trans (e_iinc mB48 dX2_carryOver_28 ki_1 rfl (sL_k rfl (Or.inr rfl) rfl)) (e_goto mB48 dX2_carryOver_31 rfl)
