-- SV$Pad.length @0
set_option maxRecDepth 4000 in
theorem B50_0 {L : Nat × Nat} {I : It}  : E 50 0 [some (.ref 2)] [] (GG L) I = some (some (.int (I 2 2)), GG L, I) :=
  Eq.trans (e_aload_n mB50 dX3_length_0 rfl) (Eq.trans (e_getI mB50 mC50 dX3_length_1 f_3_22 rfl tn_3_2 k_2) (e_retI mB50 dX3_length_4 mR50))
-- SV$Pad.steps @0
set_option maxRecDepth 4000 in
theorem B51_0 {L : Nat × Nat} {I : It}  : E 51 0 [some (.ref 2)] [] (GG L) I = some (some (.ref 4), GG L, I) :=
  Eq.trans (e_aload_n mB51 dX3_steps_0 rfl) (Eq.trans (e_getR mB51 mC51 dX3_steps_1 f_3_18 rfl t_3_1 k_2 (w_3_1 k_2)) (e_retA mB51 dX3_steps_4 ra_51))
-- SV$Pad.clear @0
set_option maxRecDepth 4000 in
theorem B52_0 {L : Nat × Nat} {I : It}  : E 52 0 [some (.ref 2)] [] (GG L) I = some (none, GG L, (uI I 2 2 0)) :=
  Eq.trans (e_aload_n mB52 dX3_clear_0 rfl) (Eq.trans (e_iconst mB52 dX3_clear_1 ki_0) (Eq.trans (e_putI mB52 mC52 dX3_clear_2 f_3_22 rfl t_3_2 ff_3_2 k_2) (e_retV mB52 dX3_clear_5 mR52)))
-- SV$Pad.append @0
set_option maxRecDepth 4000 in
theorem B53_0 {L : Nat × Nat} {x1 : Int64} {I : It}  : E 53 0 [some (.ref 2), some (.long x1), none, none, none] [] (GG L) I = K2 53 4 [some (.ref 2), some (.long x1), none, none, none] [] (E 54 0 [some (.long x1), none, none, none, none, none, none] [] (GG L) I) :=
  Eq.trans (e_lload_n mB53 dX3_append_0 rfl) (e_stat (as := [.long x1]) (rest := []) mB53 mC53 dX3_append_1 na_3_26 q_3_26 (Or.inl rfl) mN54 rfl rfl mX54 rfl rk_53_54 rfl rfl)
-- SV$Pad.append @4
set_option maxRecDepth 4000 in
theorem B53_4 {L : Nat × Nat} {x1 : Int64} {u3 : Option Value} {u4 : Option Value} {s0 : Int32} {I : It}  : E 53 4 [some (.ref 2), some (.long x1), none, u3, u4] [.int s0] (GG L) I = if s0 = 0 then (some (some (.int (-2)), GG L, I)) else (if ((I 2 2) + s0) ≤ 80 then (E 53 31 [some (.ref 2), some (.long x1), none, some (.int s0), some (.int (s0 - 1))] [] (GG L) I) else (some (some (.int (-4)), GG L, I))) :=
  Eq.trans (e_istore_n mB53 dX3_append_4 (sL_k rfl (Or.inr rfl) rfl)) (Eq.trans (e_iload_n mB53 dX3_append_5 rfl) (Eq.trans (e_ifne mB53 dX3_append_6 rfl) (ite_h (fun g1 => Eq.trans (e_bipush mB53 dX3_append_9 kb_m2) (e_retI mB53 dX3_append_11 mR53)) (fun g2 => Eq.trans (e_aload_n mB53 dX3_append_12 rfl) (Eq.trans (e_getI mB53 mC53 dX3_append_13 f_3_22 rfl tn_3_2 k_2) (Eq.trans (e_iload_n mB53 dX3_append_16 rfl) (Eq.trans (e_iadd mB53 dX3_append_17) (Eq.trans (e_bipush mB53 dX3_append_18 kb_80) (Eq.trans (e_cmle mB53 dX3_append_20 rfl) (ite_h (fun g3 => Eq.trans (e_iload_n mB53 dX3_append_26 rfl) (Eq.trans (e_iconst mB53 dX3_append_27 ki_1) (Eq.trans (e_isub mB53 dX3_append_28) (e_istore mB53 dX3_append_29 (sL_k rfl (Or.inr rfl) rfl))))) (fun g4 => Eq.trans (e_bipush mB53 dX3_append_23 kb_m4) (e_retI mB53 dX3_append_25 mR53))))))))))))
-- SV$Pad.append @31
set_option maxRecDepth 4000 in
theorem B53_31 {L : Nat × Nat} {x1 : Int64} {u3 : Option Value} {x4 : Int32} {I : It} (hu3 : isJ (some u3) = false) : E 53 31 [some (.ref 2), some (.long x1), none, u3, some (.int x4)] [] (GG L) I = if x4 < 0 then (some (some (.int (I 2 2)), GG L, I)) else (if 80 ≤ (I 2 2) then (some (some (.int (I 2 2)), GG L, I)) else (ck (inb (I 2 2) 80 && decide (0 ≤ (((((((x1).toUInt64 >>> (((8 * x4) : Int32).toInt64.toUInt64 &&& Int64.toUInt64 63)).toInt64 &&& 255) : Int64).toInt32).toUInt32 % 65536).toInt32 : Int32).toInt ∧ (((((((x1).toUInt64 >>> (((8 * x4) : Int32).toInt64.toUInt64 &&& Int64.toUInt64 63)).toInt64 &&& 255) : Int64).toInt32).toUInt32 % 65536).toInt32 : Int32).toInt ≤ 65535)) (E 53 31 [some (.ref 2), some (.long x1), none, u3, some (.int (x4 + (-1)))] [] (GG L) (uI (uI I 3 (ix (I 2 2)) ((((((x1).toUInt64 >>> (((8 * x4) : Int32).toInt64.toUInt64 &&& Int64.toUInt64 63)).toInt64 &&& 255) : Int64).toInt32).toUInt32 % 65536).toInt32) 2 2 (((uI I 3 (ix (I 2 2)) ((((((x1).toUInt64 >>> (((8 * x4) : Int32).toInt64.toUInt64 &&& Int64.toUInt64 63)).toInt64 &&& 255) : Int64).toInt32).toUInt32 % 65536).toInt32) 2 2) + 1))))) :=
  Eq.trans (e_iload mB53 dX3_append_31 rfl) (Eq.trans (e_iflt mB53 dX3_append_33 rfl) (ite_h (fun g1 => Eq.trans (e_aload_n mB53 dX3_append_83 rfl) (Eq.trans (e_getI mB53 mC53 dX3_append_84 f_3_22 rfl tn_3_2 k_2) (e_retI mB53 dX3_append_87 mR53))) (fun g2 => Eq.trans (e_aload_n mB53 dX3_append_36 rfl) (Eq.trans (e_getI mB53 mC53 dX3_append_37 f_3_22 rfl tn_3_2 k_2) (Eq.trans (e_bipush mB53 dX3_append_40 kb_80) (Eq.trans (e_cmge mB53 dX3_append_42 rfl) (ite_h (fun g3 => Eq.trans (e_aload_n mB53 dX3_append_83 rfl) (Eq.trans (e_getI mB53 mC53 dX3_append_84 f_3_22 rfl tn_3_2 k_2) (e_retI mB53 dX3_append_87 mR53))) (fun g4 => Eq.trans (e_aload_n mB53 dX3_append_45 rfl) (Eq.trans (e_getR mB53 mC53 dX3_append_46 f_3_9 rfl t_3_0 k_2 (w_3_0 k_2)) (Eq.trans (e_aload_n mB53 dX3_append_49 rfl) (Eq.trans (e_getI mB53 mC53 dX3_append_50 f_3_22 rfl tn_3_2 k_2) (Eq.trans (e_lload_n mB53 dX3_append_53 rfl) (Eq.trans (e_bipush mB53 dX3_append_54 kb_8) (Eq.trans (e_iload mB53 dX3_append_56 rfl) (Eq.trans (e_imul mB53 dX3_append_58) (Eq.trans (e_lushr mB53 dX3_append_59) (Eq.trans (e_ldc2 mB53 mC53 dX3_append_60 ll_3_30) (Eq.trans (e_land mB53 dX3_append_63) (Eq.trans (e_l2i mB53 dX3_append_64) (Eq.trans (e_i2c mB53 dX3_append_65) (Eq.trans (e_cast mB53 dX3_append_66 (wk_3_0 k_2) (wl_3_0 k_2)) (ck_h fun g5 => Eq.trans (e_aload_n mB53 dX3_append_67 rfl) (Eq.trans (e_dupA mB53 dX3_append_68) (Eq.trans (e_getI mB53 mC53 dX3_append_69 f_3_22 rfl tn_3_2 k_2) (Eq.trans (e_iconst mB53 dX3_append_72 ki_1) (Eq.trans (e_iadd mB53 dX3_append_73) (Eq.trans (e_putI mB53 mC53 dX3_append_74 f_3_22 rfl t_3_2 ff_3_2 k_2) (Eq.trans (e_iinc mB53 dX3_append_77 ki_m1 rfl (sL_k rfl (Or.inr hu3) rfl)) (e_goto mB53 dX3_append_80 rfl)))))))))))))))))))))))))))))
-- SV$Pad.countCharacters @0
set_option maxRecDepth 4000 in
theorem B54_0 {L : Nat × Nat} {x0 : Int64} {I : It}  : E 54 0 [some (.long x0), none, none, none, none, none, none] [] (GG L) I = E 54 5 [some (.long x0), none, some (.long x0), none, some (.int 0), none, none] [] (GG L) I :=
  Eq.trans (e_lload_n mB54 dX3_countCharacters_0 rfl) (Eq.trans (e_lstore_n mB54 dX3_countCharacters_1 (sL2_k rfl (Or.inr rfl) rfl rfl)) (Eq.trans (e_iconst mB54 dX3_countCharacters_2 ki_0) (e_istore mB54 dX3_countCharacters_3 (sL_k rfl (Or.inr rfl) rfl))))
-- SV$Pad.countCharacters @5
set_option maxRecDepth 4000 in
theorem B54_5 {L : Nat × Nat} {u0 : Option Value} {u1 : Option Value} {x2 : Int64} {x4 : Int32} {u5 : Option Value} {u6 : Option Value} {I : It} (hu1 : isJ (some u1) = false) (hu6 : isJ (some u6) = false) : E 54 5 [u0, u1, some (.long x2), none, some (.int x4), u5, u6] [] (GG L) I = if (lg_cmp x2 (0)) = 0 then (some (some (.int x4), GG L, I)) else (if 8 ≤ x4 then (some (some (.int x4), GG L, I)) else (if (lg_cmp (x2 &&& 255) 33) < 0 then (some (some (.int 0), GG L, I)) else (if (lg_cmp (x2 &&& 255) 126) ≤ 0 then (E 54 5 [u0, u1, some (.long ((x2).toUInt64 >>> ((8 : Int32).toInt64.toUInt64 &&& Int64.toUInt64 63)).toInt64), none, some (.int (x4 + 1)), some (.long (x2 &&& 255)), none] [] (GG L) I) else (some (some (.int 0), GG L, I))))) :=
  Eq.trans (e_lload_n mB54 dX3_countCharacters_5 rfl) (Eq.trans (e_lconst mB54 dX3_countCharacters_6 kl_0L) (Eq.trans (e_lcmp mB54 dX3_countCharacters_7) (Eq.trans (e_ifeq mB54 dX3_countCharacters_8 rfl) (ite_h (fun g1 => Eq.trans (e_iload mB54 dX3_countCharacters_56 rfl) (e_retI mB54 dX3_countCharacters_58 mR54)) (fun g2 => Eq.trans (e_iload mB54 dX3_countCharacters_11 rfl) (Eq.trans (e_bipush mB54 dX3_countCharacters_13 kb_8) (Eq.trans (e_cmge mB54 dX3_countCharacters_15 rfl) (ite_h (fun g3 => Eq.trans (e_iload mB54 dX3_countCharacters_56 rfl) (e_retI mB54 dX3_countCharacters_58 mR54)) (fun g4 => Eq.trans (e_lload_n mB54 dX3_countCharacters_18 rfl) (Eq.trans (e_ldc2 mB54 mC54 dX3_countCharacters_19 ll_3_30) (Eq.trans (e_land mB54 dX3_countCharacters_22) (Eq.trans (e_lstore mB54 dX3_countCharacters_23 (sL2_k rfl (Or.inr rfl) hu6 rfl)) (Eq.trans (e_lload mB54 dX3_countCharacters_25 rfl) (Eq.trans (e_ldc2 mB54 mC54 dX3_countCharacters_27 ll_3_32) (Eq.trans (e_lcmp mB54 dX3_countCharacters_30) (Eq.trans (e_iflt mB54 dX3_countCharacters_31 rfl) (ite_h (fun g5 => Eq.trans (e_iconst mB54 dX3_countCharacters_43 ki_0) (e_retI mB54 dX3_countCharacters_44 mR54)) (fun g6 => Eq.trans (e_lload mB54 dX3_countCharacters_34 rfl) (Eq.trans (e_ldc2 mB54 mC54 dX3_countCharacters_36 ll_3_34) (Eq.trans (e_lcmp mB54 dX3_countCharacters_39) (Eq.trans (e_ifle mB54 dX3_countCharacters_40 rfl) (ite_h (fun g7 => Eq.trans (e_lload_n mB54 dX3_countCharacters_45 rfl) (Eq.trans (e_bipush mB54 dX3_countCharacters_46 kb_8) (Eq.trans (e_lushr mB54 dX3_countCharacters_48) (Eq.trans (e_lstore_n mB54 dX3_countCharacters_49 (sL2_k rfl (Or.inr hu1) rfl rfl)) (Eq.trans (e_iinc mB54 dX3_countCharacters_50 ki_1 rfl (sL_k rfl (Or.inr rfl) rfl)) (e_goto mB54 dX3_countCharacters_53 rfl)))))) (fun g8 => Eq.trans (e_iconst mB54 dX3_countCharacters_43 ki_0) (e_retI mB54 dX3_countCharacters_44 mR54))))))))))))))))))))))))
-- SV$Pad.read @0
set_option maxRecDepth 4000 in
theorem B55_0 {L : Nat × Nat} {I : It}  : E 55 0 [some (.ref 2), none] [] (GG L) I = K2 55 12 [some (.ref 2), none] [] (E 86 0 [some (.ref 4)] [] (GG L) (uI I 2 3 0)) :=
  Eq.trans (e_aload_n mB55 dX3_read_0 rfl) (Eq.trans (e_iconst mB55 dX3_read_1 ki_0) (Eq.trans (e_putI mB55 mC55 dX3_read_2 f_3_36 rfl t_3_3 ff_3_3 k_2) (Eq.trans (e_aload_n mB55 dX3_read_5 rfl) (Eq.trans (e_getR mB55 mC55 dX3_read_6 f_3_18 rfl t_3_1 k_2 (w_3_1 k_2)) (e_virt (as := []) (b := 4) (rest := []) mB55 mC55 dX3_read_9 q_3_39 mN86 rfl rfl (wk_3_1 k_2) mC86 mX86 rfl rk_55_86 rfl rfl)))))
-- SV$Pad.read @12
set_option maxRecDepth 4000 in
theorem B55_12 {L : Nat × Nat} {u1 : Option Value} {I : It}  : E 55 12 [some (.ref 2), u1] [] (GG L) I = E 55 14 [some (.ref 2), some (.int 0)] [] (GG L) I :=
  Eq.trans (e_iconst mB55 dX3_read_12 ki_0) (e_istore_n mB55 dX3_read_13 (sL_k rfl (Or.inr rfl) rfl))
-- SV$Pad.read @14
set_option maxRecDepth 4000 in
theorem B55_14 {L : Nat × Nat} {x1 : Int32} {I : It}  : E 55 14 [some (.ref 2), some (.int x1)] [] (GG L) I = if 27 ≤ x1 then (some (some (.int (I 2 3)), GG L, I)) else (K2 55 24 [some (.ref 2), some (.int x1)] [] (E 56 0 [some (.ref 2), none] [] (GG L) I)) :=
  Eq.trans (e_iload_n mB55 dX3_read_14 rfl) (Eq.trans (e_bipush mB55 dX3_read_15 kb_27) (Eq.trans (e_cmge mB55 dX3_read_17 rfl) (ite_h (fun g1 => Eq.trans (e_aload_n mB55 dX3_read_66 rfl) (Eq.trans (e_getI mB55 mC55 dX3_read_67 f_3_36 rfl tn_3_3 k_2) (e_retI mB55 dX3_read_70 mR55))) (fun g2 => Eq.trans (e_aload_n mB55 dX3_read_20 rfl) (e_virt (as := []) (b := 2) (rest := []) mB55 mC55 dX3_read_21 q_3_42 mN56 rfl rfl k_2 mC56 mX56 rfl rk_55_56 rfl rfl)))))
-- SV$Pad.read @24
set_option maxRecDepth 4000 in
theorem B55_24 {L : Nat × Nat} {x1 : Int32} {s0 : Int32} {I : It}  : E 55 24 [some (.ref 2), some (.int x1)] [.int s0] (GG L) I = if s0 = 0 then (some (some (.int (I 2 3)), GG L, I)) else (if (I 2 3) < (I 2 2) then (K2 55 52 [some (.ref 2), some (.int x1)] [] (E 64 0 [some (.ref 2), some (.int 44)] [] (GG L) I)) else (some (some (.int (-6)), GG L, I))) :=
  Eq.trans (e_ifne mB55 dX3_read_24 rfl) (ite_h (fun g1 => Eq.trans (e_aload_n mB55 dX3_read_27 rfl) (Eq.trans (e_getI mB55 mC55 dX3_read_28 f_3_36 rfl tn_3_3 k_2) (e_retI mB55 dX3_read_31 mR55))) (fun g2 => Eq.trans (e_aload_n mB55 dX3_read_32 rfl) (Eq.trans (e_getI mB55 mC55 dX3_read_33 f_3_36 rfl tn_3_3 k_2) (Eq.trans (e_aload_n mB55 dX3_read_36 rfl) (Eq.trans (e_getI mB55 mC55 dX3_read_37 f_3_22 rfl tn_3_2 k_2) (Eq.trans (e_cmlt mB55 dX3_read_40 rfl) (ite_h (fun g3 => Eq.trans (e_aload_n mB55 dX3_read_46 rfl) (Eq.trans (e_bipush mB55 dX3_read_47 kb_44) (e_virt (as := [.int 44]) (b := 2) (rest := []) mB55 mC55 dX3_read_49 q_3_46 mN64 rfl rfl k_2 mC64 mX64 rfl rk_55_64 rfl rfl))) (fun g4 => Eq.trans (e_bipush mB55 dX3_read_43 kb_m6) (e_retI mB55 dX3_read_45 mR55)))))))))
-- SV$Pad.read @52
set_option maxRecDepth 4000 in
theorem B55_52 {L : Nat × Nat} {x1 : Int32} {s0 : Int32} {I : It}  : E 55 52 [some (.ref 2), some (.int x1)] [.int s0] (GG L) I = if s0 = 0 then (some (some (.int (I 2 3)), GG L, I)) else (E 55 14 [some (.ref 2), some (.int (x1 + 1))] [] (GG L) I) :=
  Eq.trans (e_ifne mB55 dX3_read_52 rfl) (ite_h (fun g1 => Eq.trans (e_aload_n mB55 dX3_read_55 rfl) (Eq.trans (e_getI mB55 mC55 dX3_read_56 f_3_36 rfl tn_3_3 k_2) (e_retI mB55 dX3_read_59 mR55))) (fun g2 => Eq.trans (e_iinc mB55 dX3_read_60 ki_1 rfl (sL_k rfl (Or.inr rfl) rfl)) (e_goto mB55 dX3_read_63 rfl)))
-- SV$Pad.readStep @0
set_option maxRecDepth 4000 in
theorem B56_0 {L : Nat × Nat} {I : It}  : E 56 0 [some (.ref 2), none] [] (GG L) I = K2 56 6 [some (.ref 2), none] [] (E 64 0 [some (.ref 2), some (.int 43)] [] (GG L) I) :=
  Eq.trans (e_aload_n mB56 dX3_readStep_0 rfl) (Eq.trans (e_bipush mB56 dX3_readStep_1 kb_43) (e_virt (as := [.int 43]) (b := 2) (rest := []) mB56 mC56 dX3_readStep_3 q_3_46 mN64 rfl rfl k_2 mC64 mX64 rfl rk_56_64 rfl rfl))
-- SV$Pad.readStep @6
set_option maxRecDepth 4000 in
theorem B56_6 {L : Nat × Nat} {u1 : Option Value} {s0 : Int32} {I : It}  : E 56 6 [some (.ref 2), u1] [.int s0] (GG L) I = if s0 = 0 then (K2 56 20 [some (.ref 2), u1] [] (E 64 0 [some (.ref 2), some (.int 45)] [] (GG L) I)) else (K2 56 13 [some (.ref 2), u1] [] (E 57 0 [some (.ref 2), none, none, none] [] (GG L) I)) :=
  Eq.trans (e_ifeq mB56 dX3_readStep_6 rfl) (ite_h (fun g1 => Eq.trans (e_aload_n mB56 dX3_readStep_14 rfl) (Eq.trans (e_bipush mB56 dX3_readStep_15 kb_45) (e_virt (as := [.int 45]) (b := 2) (rest := []) mB56 mC56 dX3_readStep_17 q_3_46 mN64 rfl rfl k_2 mC64 mX64 rfl rk_56_64 rfl rfl))) (fun g2 => Eq.trans (e_aload_n mB56 dX3_readStep_9 rfl) (e_virt (as := []) (b := 2) (rest := []) mB56 mC56 dX3_readStep_10 q_3_50 mN57 rfl rfl k_2 mC57 mX57 rfl rk_56_57 rfl rfl)))
-- SV$Pad.readStep @13
set_option maxRecDepth 4000 in
theorem B56_13 {L : Nat × Nat} {u0 : Option Value} {u1 : Option Value} {s0 : Int32} {I : It}  : E 56 13 [u0, u1] [.int s0] (GG L) I = ck (b01 s0) (some (some (.int s0), GG L, I)) :=
  e_retZ mB56 dX3_readStep_13 mR56
-- SV$Pad.readStep @20
set_option maxRecDepth 4000 in
theorem B56_20 {L : Nat × Nat} {u1 : Option Value} {s0 : Int32} {I : It}  : E 56 20 [some (.ref 2), u1] [.int s0] (GG L) I = if s0 = 0 then (K2 56 35 [some (.ref 2), u1] [] (E 62 0 [some (.ref 2)] [] (GG L) I)) else (K2 56 30 [some (.ref 2), u1] [] (E 58 0 [some (.ref 2), some (.int 1), some (.int (-6)), none] [] (GG L) I)) :=
  Eq.trans (e_ifeq mB56 dX3_readStep_20 rfl) (ite_h (fun g1 => Eq.trans (e_aload_n mB56 dX3_readStep_31 rfl) (e_virt (as := []) (b := 2) (rest := []) mB56 mC56 dX3_readStep_32 q_3_57 mN62 rfl rfl k_2 mC62 mX62 rfl rk_56_62 rfl rfl)) (fun g2 => Eq.trans (e_aload_n mB56 dX3_readStep_23 rfl) (Eq.trans (e_iconst mB56 dX3_readStep_24 ki_1) (Eq.trans (e_bipush mB56 dX3_readStep_25 kb_m6) (e_virt (as := [.int (-6), .int 1]) (b := 2) (rest := []) mB56 mC56 dX3_readStep_27 q_3_53 mN58 rfl rfl k_2 mC58 mX58 rfl rk_56_58 rfl rfl)))))
-- SV$Pad.readStep @30
set_option maxRecDepth 4000 in
theorem B56_30 {L : Nat × Nat} {u0 : Option Value} {u1 : Option Value} {s0 : Int32} {I : It}  : E 56 30 [u0, u1] [.int s0] (GG L) I = ck (b01 s0) (some (some (.int s0), GG L, I)) :=
  e_retZ mB56 dX3_readStep_30 mR56
-- SV$Pad.readStep @35
set_option maxRecDepth 4000 in
theorem B56_35 {L : Nat × Nat} {u1 : Option Value} {s0 : Int32} {I : It}  : E 56 35 [some (.ref 2), u1] [.int s0] (GG L) I = if s0 = (-6) then (some (some (.int 0), GG L, I)) else (K2 56 50 [some (.ref 2), some (.int s0)] [] (E 64 0 [some (.ref 2), some (.int 62)] [] (GG L) I)) :=
  Eq.trans (e_istore_n mB56 dX3_readStep_35 (sL_k rfl (Or.inr rfl) rfl)) (Eq.trans (e_iload_n mB56 dX3_readStep_36 rfl) (Eq.trans (e_bipush mB56 dX3_readStep_37 kb_m6) (Eq.trans (e_cmne mB56 dX3_readStep_39 rfl) (ite_h (fun g1 => Eq.trans (e_iconst mB56 dX3_readStep_42 ki_0) (e_retZ_l mB56 dX3_readStep_43 mR56 b1_0)) (fun g2 => Eq.trans (e_aload_n mB56 dX3_readStep_44 rfl) (Eq.trans (e_bipush mB56 dX3_readStep_45 kb_62) (e_virt (as := [.int 62]) (b := 2) (rest := []) mB56 mC56 dX3_readStep_47 q_3_46 mN64 rfl rfl k_2 mC64 mX64 rfl rk_56_64 rfl rfl)))))))
-- SV$Pad.readStep @50
set_option maxRecDepth 4000 in
theorem B56_50 {L : Nat × Nat} {x1 : Int32} {s0 : Int32} {I : It}  : E 56 50 [some (.ref 2), some (.int x1)] [.int s0] (GG L) I = if s0 = 0 then (K2 56 66 [some (.ref 2), some (.int x1)] [] (E 64 0 [some (.ref 2), some (.int 42)] [] (GG L) I)) else (K2 56 59 [some (.ref 2), some (.int x1)] [] (E 58 0 [some (.ref 2), some (.int 2), some (.int x1), none] [] (GG L) I)) :=
  Eq.trans (e_ifeq mB56 dX3_readStep_50 rfl) (ite_h (fun g1 => Eq.trans (e_aload_n mB56 dX3_readStep_60 rfl) (Eq.trans (e_bipush mB56 dX3_readStep_61 kb_42) (e_virt (as := [.int 42]) (b := 2) (rest := []) mB56 mC56 dX3_readStep_63 q_3_46 mN64 rfl rfl k_2 mC64 mX64 rfl rk_56_64 rfl rfl))) (fun g2 => Eq.trans (e_aload_n mB56 dX3_readStep_53 rfl) (Eq.trans (e_iconst mB56 dX3_readStep_54 ki_2) (Eq.trans (e_iload_n mB56 dX3_readStep_55 rfl) (e_virt (as := [.int x1, .int 2]) (b := 2) (rest := []) mB56 mC56 dX3_readStep_56 q_3_53 mN58 rfl rfl k_2 mC58 mX58 rfl rk_56_58 rfl rfl)))))
-- SV$Pad.readStep @59
set_option maxRecDepth 4000 in
theorem B56_59 {L : Nat × Nat} {u0 : Option Value} {u1 : Option Value} {s0 : Int32} {I : It}  : E 56 59 [u0, u1] [.int s0] (GG L) I = ck (b01 s0) (some (some (.int s0), GG L, I)) :=
  e_retZ mB56 dX3_readStep_59 mR56
-- SV$Pad.readStep @66
set_option maxRecDepth 4000 in
theorem B56_66 {L : Nat × Nat} {x1 : Int32} {s0 : Int32} {I : It}  : E 56 66 [some (.ref 2), some (.int x1)] [.int s0] (GG L) I = if s0 = 0 then (K2 56 82 [some (.ref 2), some (.int x1)] [] (E 64 0 [some (.ref 2), some (.int 47)] [] (GG L) I)) else (K2 56 75 [some (.ref 2), some (.int x1)] [] (E 59 0 [some (.ref 2), some (.int 3), some (.int x1), none] [] (GG L) I)) :=
  Eq.trans (e_ifeq mB56 dX3_readStep_66 rfl) (ite_h (fun g1 => Eq.trans (e_aload_n mB56 dX3_readStep_76 rfl) (Eq.trans (e_bipush mB56 dX3_readStep_77 kb_47) (e_virt (as := [.int 47]) (b := 2) (rest := []) mB56 mC56 dX3_readStep_79 q_3_46 mN64 rfl rfl k_2 mC64 mX64 rfl rk_56_64 rfl rfl))) (fun g2 => Eq.trans (e_aload_n mB56 dX3_readStep_69 rfl) (Eq.trans (e_iconst mB56 dX3_readStep_70 ki_3) (Eq.trans (e_iload_n mB56 dX3_readStep_71 rfl) (e_virt (as := [.int x1, .int 3]) (b := 2) (rest := []) mB56 mC56 dX3_readStep_72 q_3_61 mN59 rfl rfl k_2 mC59 mX59 rfl rk_56_59 rfl rfl)))))
-- SV$Pad.readStep @75
set_option maxRecDepth 4000 in
theorem B56_75 {L : Nat × Nat} {u0 : Option Value} {u1 : Option Value} {s0 : Int32} {I : It}  : E 56 75 [u0, u1] [.int s0] (GG L) I = ck (b01 s0) (some (some (.int s0), GG L, I)) :=
  e_retZ mB56 dX3_readStep_75 mR56
-- SV$Pad.readStep @82
set_option maxRecDepth 4000 in
theorem B56_82 {L : Nat × Nat} {x1 : Int32} {s0 : Int32} {I : It}  : E 56 82 [some (.ref 2), some (.int x1)] [.int s0] (GG L) I = if s0 = 0 then (K2 56 98 [some (.ref 2), some (.int x1)] [] (E 64 0 [some (.ref 2), some (.int 60)] [] (GG L) I)) else (K2 56 91 [some (.ref 2), some (.int x1)] [] (E 59 0 [some (.ref 2), some (.int 4), some (.int x1), none] [] (GG L) I)) :=
  Eq.trans (e_ifeq mB56 dX3_readStep_82 rfl) (ite_h (fun g1 => Eq.trans (e_aload_n mB56 dX3_readStep_92 rfl) (Eq.trans (e_bipush mB56 dX3_readStep_93 kb_60) (e_virt (as := [.int 60]) (b := 2) (rest := []) mB56 mC56 dX3_readStep_95 q_3_46 mN64 rfl rfl k_2 mC64 mX64 rfl rk_56_64 rfl rfl))) (fun g2 => Eq.trans (e_aload_n mB56 dX3_readStep_85 rfl) (Eq.trans (e_iconst mB56 dX3_readStep_86 ki_4) (Eq.trans (e_iload_n mB56 dX3_readStep_87 rfl) (e_virt (as := [.int x1, .int 4]) (b := 2) (rest := []) mB56 mC56 dX3_readStep_88 q_3_61 mN59 rfl rfl k_2 mC59 mX59 rfl rk_56_59 rfl rfl)))))
-- SV$Pad.readStep @91
set_option maxRecDepth 4000 in
theorem B56_91 {L : Nat × Nat} {u0 : Option Value} {u1 : Option Value} {s0 : Int32} {I : It}  : E 56 91 [u0, u1] [.int s0] (GG L) I = ck (b01 s0) (some (some (.int s0), GG L, I)) :=
  e_retZ mB56 dX3_readStep_91 mR56
-- SV$Pad.readStep @98
set_option maxRecDepth 4000 in
theorem B56_98 {L : Nat × Nat} {x1 : Int32} {s0 : Int32} {I : It}  : E 56 98 [some (.ref 2), some (.int x1)] [.int s0] (GG L) I = if s0 = 0 then (some (some (.int 0), GG L, I)) else (K2 56 106 [some (.ref 2), some (.int x1)] [] (E 60 0 [some (.ref 2), some (.int x1), none] [] (GG L) I)) :=
  Eq.trans (e_ifeq mB56 dX3_readStep_98 rfl) (ite_h (fun g1 => Eq.trans (e_iconst mB56 dX3_readStep_113 ki_0) (e_retZ_l mB56 dX3_readStep_114 mR56 b1_0)) (fun g2 => Eq.trans (e_aload_n mB56 dX3_readStep_101 rfl) (Eq.trans (e_iload_n mB56 dX3_readStep_102 rfl) (e_virt (as := [.int x1]) (b := 2) (rest := []) mB56 mC56 dX3_readStep_103 q_3_64 mN60 rfl rfl k_2 mC60 mX60 rfl rk_56_60 rfl rfl))))
-- SV$Pad.readStep @106
set_option maxRecDepth 4000 in
theorem B56_106 {L : Nat × Nat} {u0 : Option Value} {u1 : Option Value} {s0 : Int32} {I : It}  : E 56 106 [u0, u1] [.int s0] (GG L) I = if s0 = 0 then (some (some (.int 0), GG L, I)) else (some (some (.int 1), GG L, I)) :=
  Eq.trans (e_ifeq mB56 dX3_readStep_106 rfl) (ite_h (fun g1 => Eq.trans (e_iconst mB56 dX3_readStep_113 ki_0) (e_retZ_l mB56 dX3_readStep_114 mR56 b1_0)) (fun g2 => Eq.trans (e_iconst mB56 dX3_readStep_109 ki_1) (Eq.trans (e_goto mB56 dX3_readStep_110 rfl) (e_retZ_l mB56 dX3_readStep_114 mR56 b1_1))))
-- SV$Pad.readAdding @0
set_option maxRecDepth 4000 in
theorem B57_0 {L : Nat × Nat} {I : It}  : E 57 0 [some (.ref 2), none, none, none] [] (GG L) I = K2 57 4 [some (.ref 2), none, none, none] [] (E 62 0 [some (.ref 2)] [] (GG L) I) :=
  Eq.trans (e_aload_n mB57 dX3_readAdding_0 rfl) (e_virt (as := []) (b := 2) (rest := []) mB57 mC57 dX3_readAdding_1 q_3_57 mN62 rfl rfl k_2 mC62 mX62 rfl rk_57_62 rfl rfl)
-- SV$Pad.readAdding @4
set_option maxRecDepth 4000 in
theorem B57_4 {L : Nat × Nat} {u1 : Option Value} {u2 : Option Value} {u3 : Option Value} {s0 : Int32} {I : It}  : E 57 4 [some (.ref 2), u1, u2, u3] [.int s0] (GG L) I = if s0 = (-6) then (some (some (.int 0), GG L, I)) else (K2 57 17 [some (.ref 2), some (.int s0), u2, u3] [] (E 61 0 [some (.ref 2), none, none, none] [] (GG L) I)) :=
  Eq.trans (e_istore_n mB57 dX3_readAdding_4 (sL_k rfl (Or.inr rfl) rfl)) (Eq.trans (e_iload_n mB57 dX3_readAdding_5 rfl) (Eq.trans (e_bipush mB57 dX3_readAdding_6 kb_m6) (Eq.trans (e_cmne mB57 dX3_readAdding_8 rfl) (ite_h (fun g1 => Eq.trans (e_iconst mB57 dX3_readAdding_11 ki_0) (e_retZ_l mB57 dX3_readAdding_12 mR57 b1_0)) (fun g2 => Eq.trans (e_aload_n mB57 dX3_readAdding_13 rfl) (e_virt (as := []) (b := 2) (rest := []) mB57 mC57 dX3_readAdding_14 q_3_68 mN61 rfl rfl k_2 mC61 mX61 rfl rk_57_61 rfl rfl))))))
-- SV$Pad.readAdding @17
set_option maxRecDepth 4000 in
theorem B57_17 {L : Nat × Nat} {x1 : Int32} {u2 : Option Value} {u3 : Option Value} {s0 : Int32} {I : It}  : E 57 17 [some (.ref 2), some (.int x1), u2, u3] [.int s0] (GG L) I = if s0 = (-6) then (some (some (.int 0), GG L, I)) else (K2 57 30 [some (.ref 2), some (.int x1), some (.int s0), u3] [] (E 64 0 [some (.ref 2), some (.int 61)] [] (GG L) I)) :=
  Eq.trans (e_istore_n mB57 dX3_readAdding_17 (sL_k rfl (Or.inr rfl) rfl)) (Eq.trans (e_iload_n mB57 dX3_readAdding_18 rfl) (Eq.trans (e_bipush mB57 dX3_readAdding_19 kb_m6) (Eq.trans (e_cmeq mB57 dX3_readAdding_21 rfl) (ite_h (fun g1 => Eq.trans (e_iconst mB57 dX3_readAdding_33 ki_0) (e_retZ_l mB57 dX3_readAdding_34 mR57 b1_0)) (fun g2 => Eq.trans (e_aload_n mB57 dX3_readAdding_24 rfl) (Eq.trans (e_bipush mB57 dX3_readAdding_25 kb_61) (e_virt (as := [.int 61]) (b := 2) (rest := []) mB57 mC57 dX3_readAdding_27 q_3_46 mN64 rfl rfl k_2 mC64 mX64 rfl rk_57_64 rfl rfl)))))))
-- SV$Pad.readAdding @30
set_option maxRecDepth 4000 in
theorem B57_30 {L : Nat × Nat} {x1 : Int32} {x2 : Int32} {u3 : Option Value} {s0 : Int32} {I : It}  : E 57 30 [some (.ref 2), some (.int x1), some (.int x2), u3] [.int s0] (GG L) I = if s0 = 0 then (some (some (.int 0), GG L, I)) else (K2 57 39 [some (.ref 2), some (.int x1), some (.int x2), u3] [] (E 61 0 [some (.ref 2), none, none, none] [] (GG L) I)) :=
  Eq.trans (e_ifne mB57 dX3_readAdding_30 rfl) (ite_h (fun g1 => Eq.trans (e_iconst mB57 dX3_readAdding_33 ki_0) (e_retZ_l mB57 dX3_readAdding_34 mR57 b1_0)) (fun g2 => Eq.trans (e_aload_n mB57 dX3_readAdding_35 rfl) (e_virt (as := []) (b := 2) (rest := []) mB57 mC57 dX3_readAdding_36 q_3_68 mN61 rfl rfl k_2 mC61 mX61 rfl rk_57_61 rfl rfl)))
-- SV$Pad.readAdding @39
set_option maxRecDepth 4000 in
theorem B57_39 {L : Nat × Nat} {x1 : Int32} {x2 : Int32} {u3 : Option Value} {s0 : Int32} {I : It}  : E 57 39 [some (.ref 2), some (.int x1), some (.int x2), u3] [.int s0] (GG L) I = if s0 = (-6) then (some (some (.int 0), GG L, I)) else (K2 57 59 [some (.ref 2), some (.int x1), some (.int x2), some (.int s0)] [] (E 87 0 [some (.ref 4), some (.int 0), some (.int x1), some (.int x2), some (.int s0)] [] (GG L) I)) :=
  Eq.trans (e_istore_n mB57 dX3_readAdding_39 (sL_k rfl (Or.inr rfl) rfl)) (Eq.trans (e_iload_n mB57 dX3_readAdding_40 rfl) (Eq.trans (e_bipush mB57 dX3_readAdding_41 kb_m6) (Eq.trans (e_cmne mB57 dX3_readAdding_43 rfl) (ite_h (fun g1 => Eq.trans (e_iconst mB57 dX3_readAdding_46 ki_0) (e_retZ_l mB57 dX3_readAdding_47 mR57 b1_0)) (fun g2 => Eq.trans (e_aload_n mB57 dX3_readAdding_48 rfl) (Eq.trans (e_getR mB57 mC57 dX3_readAdding_49 f_3_18 rfl t_3_1 k_2 (w_3_1 k_2)) (Eq.trans (e_iconst mB57 dX3_readAdding_52 ki_0) (Eq.trans (e_iload_n mB57 dX3_readAdding_53 rfl) (Eq.trans (e_iload_n mB57 dX3_readAdding_54 rfl) (Eq.trans (e_iload_n mB57 dX3_readAdding_55 rfl) (e_virt (as := [.int s0, .int x2, .int x1, .int 0]) (b := 4) (rest := []) mB57 mC57 dX3_readAdding_56 q_3_71 mN87 rfl rfl (wk_3_1 k_2) mC87 mX87 rfl rk_57_87 rfl rfl)))))))))))
-- SV$Pad.readAdding @59
set_option maxRecDepth 4000 in
theorem B57_59 {L : Nat × Nat} {u0 : Option Value} {u1 : Option Value} {u2 : Option Value} {u3 : Option Value} {I : It}  : E 57 59 [u0, u1, u2, u3] [] (GG L) I = some (some (.int 1), GG L, I) :=
  Eq.trans (e_iconst mB57 dX3_readAdding_59 ki_1) (e_retZ_l mB57 dX3_readAdding_60 mR57 b1_1)
-- SV$Pad.readNewName @0
set_option maxRecDepth 4000 in
theorem B58_0 {L : Nat × Nat} {x1 : Int32} {x2 : Int32} {I : It}  : E 58 0 [some (.ref 2), some (.int x1), some (.int x2), none] [] (GG L) I = K2 58 4 [some (.ref 2), some (.int x1), some (.int x2), none] [] (E 62 0 [some (.ref 2)] [] (GG L) I) :=
  Eq.trans (e_aload_n mB58 dX3_readNewName_0 rfl) (e_virt (as := []) (b := 2) (rest := []) mB58 mC58 dX3_readNewName_1 q_3_57 mN62 rfl rfl k_2 mC62 mX62 rfl rk_58_62 rfl rfl)
-- SV$Pad.readNewName @4
set_option maxRecDepth 4000 in
theorem B58_4 {L : Nat × Nat} {x1 : Int32} {x2 : Int32} {u3 : Option Value} {s0 : Int32} {I : It}  : E 58 4 [some (.ref 2), some (.int x1), some (.int x2), u3] [.int s0] (GG L) I = if s0 = (-6) then (some (some (.int 0), GG L, I)) else (if x1 = 1 then (K2 58 29 [some (.ref 2), some (.int x1), some (.int x2), some (.int s0)] [] (E 87 0 [some (.ref 4), some (.int 1), some (.int s0), some (.int 0), some (.int 0)] [] (GG L) I)) else (K2 58 43 [some (.ref 2), some (.int x1), some (.int x2), some (.int s0)] [] (E 87 0 [some (.ref 4), some (.int 2), some (.int x2), some (.int s0), some (.int 0)] [] (GG L) I))) :=
  Eq.trans (e_istore_n mB58 dX3_readNewName_4 (sL_k rfl (Or.inr rfl) rfl)) (Eq.trans (e_iload_n mB58 dX3_readNewName_5 rfl) (Eq.trans (e_bipush mB58 dX3_readNewName_6 kb_m6) (Eq.trans (e_cmne mB58 dX3_readNewName_8 rfl) (ite_h (fun g1 => Eq.trans (e_iconst mB58 dX3_readNewName_11 ki_0) (e_retZ_l mB58 dX3_readNewName_12 mR58 b1_0)) (fun g2 => Eq.trans (e_iload_n mB58 dX3_readNewName_13 rfl) (Eq.trans (e_iconst mB58 dX3_readNewName_14 ki_1) (Eq.trans (e_cmne mB58 dX3_readNewName_15 rfl) (ite_h (fun g3 => Eq.trans (e_aload_n mB58 dX3_readNewName_18 rfl) (Eq.trans (e_getR mB58 mC58 dX3_readNewName_19 f_3_18 rfl t_3_1 k_2 (w_3_1 k_2)) (Eq.trans (e_iconst mB58 dX3_readNewName_22 ki_1) (Eq.trans (e_iload_n mB58 dX3_readNewName_23 rfl) (Eq.trans (e_iconst mB58 dX3_readNewName_24 ki_0) (Eq.trans (e_iconst mB58 dX3_readNewName_25 ki_0) (e_virt (as := [.int 0, .int 0, .int s0, .int 1]) (b := 4) (rest := []) mB58 mC58 dX3_readNewName_26 q_3_71 mN87 rfl rfl (wk_3_1 k_2) mC87 mX87 rfl rk_58_87 rfl rfl))))))) (fun g4 => Eq.trans (e_aload_n mB58 dX3_readNewName_32 rfl) (Eq.trans (e_getR mB58 mC58 dX3_readNewName_33 f_3_18 rfl t_3_1 k_2 (w_3_1 k_2)) (Eq.trans (e_iconst mB58 dX3_readNewName_36 ki_2) (Eq.trans (e_iload_n mB58 dX3_readNewName_37 rfl) (Eq.trans (e_iload_n mB58 dX3_readNewName_38 rfl) (Eq.trans (e_iconst mB58 dX3_readNewName_39 ki_0) (e_virt (as := [.int 0, .int s0, .int x2, .int 2]) (b := 4) (rest := []) mB58 mC58 dX3_readNewName_40 q_3_71 mN87 rfl rfl (wk_3_1 k_2) mC87 mX87 rfl rk_58_87 rfl rfl)))))))))))))))
-- SV$Pad.readNewName @29
set_option maxRecDepth 4000 in
theorem B58_29 {L : Nat × Nat} {u0 : Option Value} {u1 : Option Value} {u2 : Option Value} {u3 : Option Value} {I : It}  : E 58 29 [u0, u1, u2, u3] [] (GG L) I = E 58 43 [u0, u1, u2, u3] [] (GG L) I :=
  e_goto mB58 dX3_readNewName_29 rfl
-- SV$Pad.readNewName @43
set_option maxRecDepth 4000 in
theorem B58_43 {L : Nat × Nat} {u0 : Option Value} {u1 : Option Value} {u2 : Option Value} {u3 : Option Value} {I : It}  : E 58 43 [u0, u1, u2, u3] [] (GG L) I = some (some (.int 1), GG L, I) :=
  Eq.trans (e_iconst mB58 dX3_readNewName_43 ki_1) (e_retZ_l mB58 dX3_readNewName_44 mR58 b1_1)
-- SV$Pad.readFactor @0
set_option maxRecDepth 4000 in
theorem B59_0 {L : Nat × Nat} {x1 : Int32} {x2 : Int32} {I : It}  : E 59 0 [some (.ref 2), some (.int x1), some (.int x2), none] [] (GG L) I = K2 59 7 [some (.ref 2), some (.int x1), some (.int x2), none] [] (E 63 0 [some (.ref 2), some (.int 2), some (.int 9)] [] (GG L) I) :=
  Eq.trans (e_aload_n mB59 dX3_readFactor_0 rfl) (Eq.trans (e_iconst mB59 dX3_readFactor_1 ki_2) (Eq.trans (e_bipush mB59 dX3_readFactor_2 kb_9) (e_virt (as := [.int 9, .int 2]) (b := 2) (rest := []) mB59 mC59 dX3_readFactor_4 q_3_75 mN63 rfl rfl k_2 mC63 mX63 rfl rk_59_63 rfl rfl)))
-- SV$Pad.readFactor @7
set_option maxRecDepth 4000 in
theorem B59_7 {L : Nat × Nat} {x1 : Int32} {x2 : Int32} {u3 : Option Value} {s0 : Int32} {I : It}  : E 59 7 [some (.ref 2), some (.int x1), some (.int x2), u3] [.int s0] (GG L) I = if s0 = (-6) then (some (some (.int 0), GG L, I)) else (K2 59 27 [some (.ref 2), some (.int x1), some (.int x2), some (.int s0)] [] (E 87 0 [some (.ref 4), some (.int x1), some (.int x2), some (.int s0), some (.int 0)] [] (GG L) I)) :=
  Eq.trans (e_istore_n mB59 dX3_readFactor_7 (sL_k rfl (Or.inr rfl) rfl)) (Eq.trans (e_iload_n mB59 dX3_readFactor_8 rfl) (Eq.trans (e_bipush mB59 dX3_readFactor_9 kb_m6) (Eq.trans (e_cmne mB59 dX3_readFactor_11 rfl) (ite_h (fun g1 => Eq.trans (e_iconst mB59 dX3_readFactor_14 ki_0) (e_retZ_l mB59 dX3_readFactor_15 mR59 b1_0)) (fun g2 => Eq.trans (e_aload_n mB59 dX3_readFactor_16 rfl) (Eq.trans (e_getR mB59 mC59 dX3_readFactor_17 f_3_18 rfl t_3_1 k_2 (w_3_1 k_2)) (Eq.trans (e_iload_n mB59 dX3_readFactor_20 rfl) (Eq.trans (e_iload_n mB59 dX3_readFactor_21 rfl) (Eq.trans (e_iload_n mB59 dX3_readFactor_22 rfl) (Eq.trans (e_iconst mB59 dX3_readFactor_23 ki_0) (e_virt (as := [.int 0, .int s0, .int x2, .int x1]) (b := 4) (rest := []) mB59 mC59 dX3_readFactor_24 q_3_71 mN87 rfl rfl (wk_3_1 k_2) mC87 mX87 rfl rk_59_87 rfl rfl)))))))))))
-- SV$Pad.readFactor @27
set_option maxRecDepth 4000 in
theorem B59_27 {L : Nat × Nat} {u0 : Option Value} {u1 : Option Value} {u2 : Option Value} {u3 : Option Value} {I : It}  : E 59 27 [u0, u1, u2, u3] [] (GG L) I = some (some (.int 1), GG L, I) :=
  Eq.trans (e_iconst mB59 dX3_readFactor_27 ki_1) (e_retZ_l mB59 dX3_readFactor_28 mR59 b1_1)
-- SV$Pad.readLimit @0
set_option maxRecDepth 4000 in
theorem B60_0 {L : Nat × Nat} {x1 : Int32} {I : It}  : E 60 0 [some (.ref 2), some (.int x1), none] [] (GG L) I = K2 60 4 [some (.ref 2), some (.int x1), none] [] (E 61 0 [some (.ref 2), none, none, none] [] (GG L) I) :=
  Eq.trans (e_aload_n mB60 dX3_readLimit_0 rfl) (e_virt (as := []) (b := 2) (rest := []) mB60 mC60 dX3_readLimit_1 q_3_68 mN61 rfl rfl k_2 mC61 mX61 rfl rk_60_61 rfl rfl)
-- SV$Pad.readLimit @4
set_option maxRecDepth 4000 in
theorem B60_4 {L : Nat × Nat} {x1 : Int32} {u2 : Option Value} {s0 : Int32} {I : It}  : E 60 4 [some (.ref 2), some (.int x1), u2] [.int s0] (GG L) I = if s0 = (-6) then (some (some (.int 0), GG L, I)) else (K2 60 24 [some (.ref 2), some (.int x1), some (.int s0)] [] (E 87 0 [some (.ref 4), some (.int 5), some (.int x1), some (.int s0), some (.int 0)] [] (GG L) I)) :=
  Eq.trans (e_istore_n mB60 dX3_readLimit_4 (sL_k rfl (Or.inr rfl) rfl)) (Eq.trans (e_iload_n mB60 dX3_readLimit_5 rfl) (Eq.trans (e_bipush mB60 dX3_readLimit_6 kb_m6) (Eq.trans (e_cmne mB60 dX3_readLimit_8 rfl) (ite_h (fun g1 => Eq.trans (e_iconst mB60 dX3_readLimit_11 ki_0) (e_retZ_l mB60 dX3_readLimit_12 mR60 b1_0)) (fun g2 => Eq.trans (e_aload_n mB60 dX3_readLimit_13 rfl) (Eq.trans (e_getR mB60 mC60 dX3_readLimit_14 f_3_18 rfl t_3_1 k_2 (w_3_1 k_2)) (Eq.trans (e_iconst mB60 dX3_readLimit_17 ki_5) (Eq.trans (e_iload_n mB60 dX3_readLimit_18 rfl) (Eq.trans (e_iload_n mB60 dX3_readLimit_19 rfl) (Eq.trans (e_iconst mB60 dX3_readLimit_20 ki_0) (e_virt (as := [.int 0, .int s0, .int x1, .int 5]) (b := 4) (rest := []) mB60 mC60 dX3_readLimit_21 q_3_71 mN87 rfl rfl (wk_3_1 k_2) mC87 mX87 rfl rk_60_87 rfl rfl)))))))))))
-- SV$Pad.readLimit @24
set_option maxRecDepth 4000 in
theorem B60_24 {L : Nat × Nat} {u0 : Option Value} {u1 : Option Value} {u2 : Option Value} {I : It}  : E 60 24 [u0, u1, u2] [] (GG L) I = some (some (.int 1), GG L, I) :=
  Eq.trans (e_iconst mB60 dX3_readLimit_24 ki_1) (e_retZ_l mB60 dX3_readLimit_25 mR60 b1_1)
-- SV$Pad.readNumber @0
set_option maxRecDepth 4000 in
theorem B61_0 {L : Nat × Nat} {I : It}  : E 61 0 [some (.ref 2), none, none, none] [] (GG L) I = K2 61 7 [some (.ref 2), none, none, none] [] (E 63 0 [some (.ref 2), some (.int 0), some (.int 9)] [] (GG L) I) :=
  Eq.trans (e_aload_n mB61 dX3_readNumber_0 rfl) (Eq.trans (e_iconst mB61 dX3_readNumber_1 ki_0) (Eq.trans (e_bipush mB61 dX3_readNumber_2 kb_9) (e_virt (as := [.int 9, .int 0]) (b := 2) (rest := []) mB61 mC61 dX3_readNumber_4 q_3_75 mN63 rfl rfl k_2 mC63 mX63 rfl rk_61_63 rfl rfl)))
-- SV$Pad.readNumber @7
set_option maxRecDepth 4000 in
theorem B61_7 {L : Nat × Nat} {u1 : Option Value} {u2 : Option Value} {u3 : Option Value} {s0 : Int32} {I : It}  : E 61 7 [some (.ref 2), u1, u2, u3] [.int s0] (GG L) I = E 61 10 [some (.ref 2), some (.int s0), some (.int 0), u3] [] (GG L) I :=
  Eq.trans (e_istore_n mB61 dX3_readNumber_7 (sL_k rfl (Or.inr rfl) rfl)) (Eq.trans (e_iconst mB61 dX3_readNumber_8 ki_0) (e_istore_n mB61 dX3_readNumber_9 (sL_k rfl (Or.inr rfl) rfl)))
-- SV$Pad.readNumber @10
set_option maxRecDepth 4000 in
theorem B61_10 {L : Nat × Nat} {x1 : Int32} {x2 : Int32} {u3 : Option Value} {I : It}  : E 61 10 [some (.ref 2), some (.int x1), some (.int x2), u3] [] (GG L) I = if 2 ≤ x2 then (some (some (.int x1), GG L, I)) else (if x1 ≤ 0 then (some (some (.int x1), GG L, I)) else (K2 61 34 [some (.ref 2), some (.int x1), some (.int x2), u3] [.int 0, .ref 2] (E 121 0 [some (.int 9), some (.int (255 - (10 * x1)))] [] (GG L) I))) :=
  Eq.trans (e_iload_n mB61 dX3_readNumber_10 rfl) (Eq.trans (e_iconst mB61 dX3_readNumber_11 ki_2) (Eq.trans (e_cmge mB61 dX3_readNumber_12 rfl) (ite_h (fun g1 => Eq.trans (e_iload_n mB61 dX3_readNumber_59 rfl) (e_retI mB61 dX3_readNumber_60 mR61)) (fun g2 => Eq.trans (e_iload_n mB61 dX3_readNumber_15 rfl) (Eq.trans (e_ifle mB61 dX3_readNumber_16 rfl) (ite_h (fun g3 => Eq.trans (e_iload_n mB61 dX3_readNumber_59 rfl) (e_retI mB61 dX3_readNumber_60 mR61)) (fun g4 => Eq.trans (e_aload_n mB61 dX3_readNumber_19 rfl) (Eq.trans (e_iconst mB61 dX3_readNumber_20 ki_0) (Eq.trans (e_bipush mB61 dX3_readNumber_21 kb_9) (Eq.trans (e_sipush mB61 dX3_readNumber_23 ks_255) (Eq.trans (e_bipush mB61 dX3_readNumber_26 kb_10) (Eq.trans (e_iload_n mB61 dX3_readNumber_28 rfl) (Eq.trans (e_imul mB61 dX3_readNumber_29) (Eq.trans (e_isub mB61 dX3_readNumber_30) (e_stat (as := [.int (255 - (10 * x1)), .int 9]) (rest := [.int 0, .ref 2]) mB61 mC61 dX3_readNumber_31 na_3_79 q_3_79 (Or.inl rfl) mN121 rfl rfl mX121 rfl rk_61_121 rfl rfl)))))))))))))))
-- SV$Pad.readNumber @34
set_option maxRecDepth 4000 in
theorem B61_34 {L : Nat × Nat} {x1 : Int32} {x2 : Int32} {u3 : Option Value} {s1 : Int32} {s2 : Int32} {I : It}  : E 61 34 [some (.ref 2), some (.int x1), some (.int x2), u3] [.int s2, .int s1, .ref 2] (GG L) I = K2 61 37 [some (.ref 2), some (.int x1), some (.int x2), u3] [] (E 63 0 [some (.ref 2), some (.int s1), some (.int s2)] [] (GG L) I) :=
  e_virt (as := [.int s2, .int s1]) (b := 2) (rest := []) mB61 mC61 dX3_readNumber_34 q_3_75 mN63 rfl rfl k_2 mC63 mX63 rfl rk_61_63 rfl rfl
-- SV$Pad.readNumber @37
set_option maxRecDepth 4000 in
theorem B61_37 {L : Nat × Nat} {x1 : Int32} {x2 : Int32} {u3 : Option Value} {s0 : Int32} {I : It}  : E 61 37 [some (.ref 2), some (.int x1), some (.int x2), u3] [.int s0] (GG L) I = if s0 = (-6) then (some (some (.int x1), GG L, I)) else (E 61 10 [some (.ref 2), some (.int ((10 * x1) + s0)), some (.int (x2 + 1)), some (.int s0)] [] (GG L) I) :=
  Eq.trans (e_istore_n mB61 dX3_readNumber_37 (sL_k rfl (Or.inr rfl) rfl)) (Eq.trans (e_iload_n mB61 dX3_readNumber_38 rfl) (Eq.trans (e_bipush mB61 dX3_readNumber_39 kb_m6) (Eq.trans (e_cmne mB61 dX3_readNumber_41 rfl) (ite_h (fun g1 => Eq.trans (e_iload_n mB61 dX3_readNumber_44 rfl) (e_retI mB61 dX3_readNumber_45 mR61)) (fun g2 => Eq.trans (e_bipush mB61 dX3_readNumber_46 kb_10) (Eq.trans (e_iload_n mB61 dX3_readNumber_48 rfl) (Eq.trans (e_imul mB61 dX3_readNumber_49) (Eq.trans (e_iload_n mB61 dX3_readNumber_50 rfl) (Eq.trans (e_iadd mB61 dX3_readNumber_51) (Eq.trans (e_istore_n mB61 dX3_readNumber_52 (sL_k rfl (Or.inr rfl) rfl)) (Eq.trans (e_iinc mB61 dX3_readNumber_53 ki_1 rfl (sL_k rfl (Or.inr rfl) rfl)) (e_goto mB61 dX3_readNumber_56 rfl))))))))))))
-- SV$Pad.readName @0
set_option maxRecDepth 4000 in
theorem B62_0 {L : Nat × Nat} {I : It}  : E 62 0 [some (.ref 2)] [] (GG L) I = K2 62 9 [some (.ref 2)] [] (E 65 0 [some (.ref 2), some (.int 97), some (.int 0), some (.int 9), none] [] (GG L) I) :=
  Eq.trans (e_aload_n mB62 dX3_readName_0 rfl) (Eq.trans (e_bipush mB62 dX3_readName_1 kb_97) (Eq.trans (e_iconst mB62 dX3_readName_3 ki_0) (Eq.trans (e_bipush mB62 dX3_readName_4 kb_9) (e_virt (as := [.int 9, .int 0, .int 97]) (b := 2) (rest := []) mB62 mC62 dX3_readName_6 q_3_84 mN65 rfl rfl k_2 mC65 mX65 rfl rk_62_65 rfl rfl))))
-- SV$Pad.readName @9
set_option maxRecDepth 4000 in
theorem B62_9 {L : Nat × Nat} {u0 : Option Value} {s0 : Int32} {I : It}  : E 62 9 [u0] [.int s0] (GG L) I = some (some (.int s0), GG L, I) :=
  e_retI mB62 dX3_readName_9 mR62
-- SV$Pad.readDigit @0
set_option maxRecDepth 4000 in
theorem B63_0 {L : Nat × Nat} {x1 : Int32} {x2 : Int32} {I : It}  : E 63 0 [some (.ref 2), some (.int x1), some (.int x2)] [] (GG L) I = K2 63 8 [some (.ref 2), some (.int x1), some (.int x2)] [] (E 65 0 [some (.ref 2), some (.int 48), some (.int x1), some (.int x2), none] [] (GG L) I) :=
  Eq.trans (e_aload_n mB63 dX3_readDigit_0 rfl) (Eq.trans (e_bipush mB63 dX3_readDigit_1 kb_48) (Eq.trans (e_iload_n mB63 dX3_readDigit_3 rfl) (Eq.trans (e_iload_n mB63 dX3_readDigit_4 rfl) (e_virt (as := [.int x2, .int x1, .int 48]) (b := 2) (rest := []) mB63 mC63 dX3_readDigit_5 q_3_84 mN65 rfl rfl k_2 mC65 mX65 rfl rk_63_65 rfl rfl))))
-- SV$Pad.readDigit @8
set_option maxRecDepth 4000 in
theorem B63_8 {L : Nat × Nat} {u0 : Option Value} {u1 : Option Value} {u2 : Option Value} {s0 : Int32} {I : It}  : E 63 8 [u0, u1, u2] [.int s0] (GG L) I = some (some (.int s0), GG L, I) :=
  e_retI mB63 dX3_readDigit_8 mR63
-- SV$Pad.readSign @0
set_option maxRecDepth 4000 in
theorem B64_0 {L : Nat × Nat} {x1 : Int32} {I : It}  : E 64 0 [some (.ref 2), some (.int x1)] [] (GG L) I = K2 64 7 [some (.ref 2), some (.int x1)] [] (E 65 0 [some (.ref 2), some (.int x1), some (.int 0), some (.int 0), none] [] (GG L) I) :=
  Eq.trans (e_aload_n mB64 dX3_readSign_0 rfl) (Eq.trans (e_iload_n mB64 dX3_readSign_1 rfl) (Eq.trans (e_iconst mB64 dX3_readSign_2 ki_0) (Eq.trans (e_iconst mB64 dX3_readSign_3 ki_0) (e_virt (as := [.int 0, .int 0, .int x1]) (b := 2) (rest := []) mB64 mC64 dX3_readSign_4 q_3_84 mN65 rfl rfl k_2 mC65 mX65 rfl rk_64_65 rfl rfl))))
-- SV$Pad.readSign @7
set_option maxRecDepth 4000 in
theorem B64_7 {L : Nat × Nat} {u0 : Option Value} {u1 : Option Value} {s0 : Int32} {I : It}  : E 64 7 [u0, u1] [.int s0] (GG L) I = if s0 = (-6) then (some (some (.int 0), GG L, I)) else (some (some (.int 1), GG L, I)) :=
  Eq.trans (e_bipush mB64 dX3_readSign_7 kb_m6) (Eq.trans (e_cmeq mB64 dX3_readSign_9 rfl) (ite_h (fun g1 => Eq.trans (e_iconst mB64 dX3_readSign_16 ki_0) (e_retZ_l mB64 dX3_readSign_17 mR64 b1_0)) (fun g2 => Eq.trans (e_iconst mB64 dX3_readSign_12 ki_1) (Eq.trans (e_goto mB64 dX3_readSign_13 rfl) (e_retZ_l mB64 dX3_readSign_17 mR64 b1_1)))))
-- SV$Pad.readOffset @0
set_option maxRecDepth 4000 in
theorem B65_0 {L : Nat × Nat} {x1 : Int32} {x2 : Int32} {x3 : Int32} {I : It}  : E 65 0 [some (.ref 2), some (.int x1), some (.int x2), some (.int x3), none] [] (GG L) I = if (I 2 2) ≤ (I 2 3) then (some (some (.int (-6)), GG L, I)) else (if (I 2 3) < 80 then (ck (inb (I 2 3) 80) (if ((I 3 (ix (I 2 3))) - x1) < x2 then (some (some (.int (-6)), GG L, I)) else (if ((I 3 (ix (I 2 3))) - x1) ≤ x3 then (some (some (.int ((I 3 (ix (I 2 3))) - x1)), GG L, (uI I 2 3 ((I 2 3) + 1)))) else (some (some (.int (-6)), GG L, I))))) else (some (some (.int (-6)), GG L, I))) :=
  Eq.trans (e_aload_n mB65 dX3_readOffset_0 rfl) (Eq.trans (e_getI mB65 mC65 dX3_readOffset_1 f_3_36 rfl tn_3_3 k_2) (Eq.trans (e_aload_n mB65 dX3_readOffset_4 rfl) (Eq.trans (e_getI mB65 mC65 dX3_readOffset_5 f_3_22 rfl tn_3_2 k_2) (Eq.trans (e_cmge mB65 dX3_readOffset_8 rfl) (ite_h (fun g1 => Eq.trans (e_bipush mB65 dX3_readOffset_20 kb_m6) (e_retI mB65 dX3_readOffset_22 mR65)) (fun g2 => Eq.trans (e_aload_n mB65 dX3_readOffset_11 rfl) (Eq.trans (e_getI mB65 mC65 dX3_readOffset_12 f_3_36 rfl tn_3_3 k_2) (Eq.trans (e_bipush mB65 dX3_readOffset_15 kb_80) (Eq.trans (e_cmlt mB65 dX3_readOffset_17 rfl) (ite_h (fun g3 => Eq.trans (e_aload_n mB65 dX3_readOffset_23 rfl) (Eq.trans (e_getR mB65 mC65 dX3_readOffset_24 f_3_9 rfl t_3_0 k_2 (w_3_0 k_2)) (Eq.trans (e_aload_n mB65 dX3_readOffset_27 rfl) (Eq.trans (e_getI mB65 mC65 dX3_readOffset_28 f_3_36 rfl tn_3_3 k_2) (Eq.trans (e_cald mB65 dX3_readOffset_31 (wk_3_0 k_2) (wl_3_0 k_2)) (ck_h fun g5 => Eq.trans (e_iload_n mB65 dX3_readOffset_32 rfl) (Eq.trans (e_isub mB65 dX3_readOffset_33) (Eq.trans (e_istore mB65 dX3_readOffset_34 (sL_k rfl (Or.inr rfl) rfl)) (Eq.trans (e_iload mB65 dX3_readOffset_36 rfl) (Eq.trans (e_iload_n mB65 dX3_readOffset_38 rfl) (Eq.trans (e_cmlt mB65 dX3_readOffset_39 rfl) (ite_h (fun g6 => Eq.trans (e_bipush mB65 dX3_readOffset_48 kb_m6) (e_retI mB65 dX3_readOffset_50 mR65)) (fun g7 => Eq.trans (e_iload mB65 dX3_readOffset_42 rfl) (Eq.trans (e_iload_n mB65 dX3_readOffset_44 rfl) (Eq.trans (e_cmle mB65 dX3_readOffset_45 rfl) (ite_h (fun g8 => Eq.trans (e_aload_n mB65 dX3_readOffset_51 rfl) (Eq.trans (e_dupA mB65 dX3_readOffset_52) (Eq.trans (e_getI mB65 mC65 dX3_readOffset_53 f_3_36 rfl tn_3_3 k_2) (Eq.trans (e_iconst mB65 dX3_readOffset_56 ki_1) (Eq.trans (e_iadd mB65 dX3_readOffset_57) (Eq.trans (e_putI mB65 mC65 dX3_readOffset_58 f_3_36 rfl t_3_3 ff_3_3 k_2) (Eq.trans (e_iload mB65 dX3_readOffset_61 rfl) (e_retI mB65 dX3_readOffset_63 mR65)))))))) (fun g9 => Eq.trans (e_bipush mB65 dX3_readOffset_48 kb_m6) (e_retI mB65 dX3_readOffset_50 mR65)))))))))))))))))) (fun g4 => Eq.trans (e_bipush mB65 dX3_readOffset_20 kb_m6) (e_retI mB65 dX3_readOffset_22 mR65))))))))))))
