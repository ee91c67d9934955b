-- SV$Page.writes @0
set_option maxRecDepth 4000 in
theorem B67_0 {L : Nat × Nat} {o0 : Nat} {I : It} (ho0 : kd (GG L) o0 = 4) : E 67 0 [some (.ref o0)] [] (GG L) I = some (some (.int (I o0 1)), GG L, I) :=
  Eq.trans (e_aload_n mB67 dX4_writes_0 rfl) (Eq.trans (e_getI mB67 mC67 dX4_writes_1 f_4_15 rfl tn_4_1 ho0) (e_retI mB67 dX4_writes_4 mR67))
-- SV$Page.erasures @0
set_option maxRecDepth 4000 in
theorem B68_0 {L : Nat × Nat} {o0 : Nat} {I : It} (ho0 : kd (GG L) o0 = 4) : E 68 0 [some (.ref o0)] [] (GG L) I = some (some (.int (I o0 2)), GG L, I) :=
  Eq.trans (e_aload_n mB68 dX4_erasures_0 rfl) (Eq.trans (e_getI mB68 mC68 dX4_erasures_1 f_4_19 rfl tn_4_2 ho0) (e_retI mB68 dX4_erasures_4 mR68))
-- SV$Page.copyFrom @0
set_option maxRecDepth 4000 in
theorem B69_0 {L : Nat × Nat} {o0 : Nat} {o1 : Nat} {I : It} (ho0 : kd (GG L) o0 = 4) (ho1 : kd (GG L) o1 = 4) : E 69 0 [some (.ref o0), some (.ref o1)] [] (GG L) I = some (none, GG L, (uI (uI (cpI I (o1 + 1) (o0 + 1) 0 0 48) o0 1 ((cpI I (o1 + 1) (o0 + 1) 0 0 48) o1 1)) o0 2 ((uI (cpI I (o1 + 1) (o0 + 1) 0 0 48) o0 1 ((cpI I (o1 + 1) (o0 + 1) 0 0 48) o1 1)) o1 2))) :=
  Eq.trans (e_aload_n mB69 dX4_copyFrom_0 rfl) (Eq.trans (e_getR mB69 mC69 dX4_copyFrom_1 f_4_9 rfl t_4_0 ho1 (w_4_0 ho1)) (Eq.trans (e_iconst mB69 dX4_copyFrom_4 ki_0) (Eq.trans (e_aload_n mB69 dX4_copyFrom_5 rfl) (Eq.trans (e_getR mB69 mC69 dX4_copyFrom_6 f_4_9 rfl t_4_0 ho0 (w_4_0 ho0)) (Eq.trans (e_iconst mB69 dX4_copyFrom_9 ki_0) (Eq.trans (e_bipush mB69 dX4_copyFrom_10 kb_48) (Eq.trans (e_acopy_l mB69 mC69 dX4_copyFrom_12 ca_4_22 rfl ac_69 (wk_4_0 ho1) (wk_4_0 ho0) rfl (wl_4_0 ho1) (wl_4_0 ho0) x_0 x_0 x_48 rfl) (Eq.trans (e_aload_n mB69 dX4_copyFrom_15 rfl) (Eq.trans (e_aload_n mB69 dX4_copyFrom_16 rfl) (Eq.trans (e_getI mB69 mC69 dX4_copyFrom_17 f_4_15 rfl tn_4_1 ho1) (Eq.trans (e_putI mB69 mC69 dX4_copyFrom_20 f_4_15 rfl t_4_1 ff_4_1 ho0) (Eq.trans (e_aload_n mB69 dX4_copyFrom_23 rfl) (Eq.trans (e_aload_n mB69 dX4_copyFrom_24 rfl) (Eq.trans (e_getI mB69 mC69 dX4_copyFrom_25 f_4_19 rfl tn_4_2 ho1) (Eq.trans (e_putI mB69 mC69 dX4_copyFrom_28 f_4_19 rfl t_4_2 ff_4_2 ho0) (e_retV mB69 dX4_copyFrom_31 mR69))))))))))))))))
-- SV$Page.erase @0
set_option maxRecDepth 4000 in
theorem B70_0 {L : Nat × Nat} {o0 : Nat} {I : It} (ho0 : kd (GG L) o0 = 4) : E 70 0 [some (.ref o0), none] [] (GG L) I = E 70 2 [some (.ref o0), some (.int 0)] [] (GG L) I :=
  Eq.trans (e_iconst mB70 dX4_erase_0 ki_0) (e_istore_n mB70 dX4_erase_1 (sL_k rfl (Or.inr rfl) rfl))
-- SV$Page.erase @2
set_option maxRecDepth 4000 in
theorem B70_2 {L : Nat × Nat} {o0 : Nat} {x1 : Int32} {I : It} (ho0 : kd (GG L) o0 = 4) : E 70 2 [some (.ref o0), some (.int x1)] [] (GG L) I = if 48 ≤ x1 then (some (none, GG L, (uI I o0 2 ((I o0 2) + 1)))) else (ck (inb x1 48) (E 70 2 [some (.ref o0), some (.int (x1 + 1))] [] (GG L) (uI I (o0 + 1) (ix x1) (-6)))) :=
  Eq.trans (e_iload_n mB70 dX4_erase_2 rfl) (Eq.trans (e_bipush mB70 dX4_erase_3 kb_48) (Eq.trans (e_cmge mB70 dX4_erase_5 rfl) (ite_h (fun g1 => Eq.trans (e_aload_n mB70 dX4_erase_22 rfl) (Eq.trans (e_dupA mB70 dX4_erase_23) (Eq.trans (e_getI mB70 mC70 dX4_erase_24 f_4_19 rfl tn_4_2 ho0) (Eq.trans (e_iconst mB70 dX4_erase_27 ki_1) (Eq.trans (e_iadd mB70 dX4_erase_28) (Eq.trans (e_putI mB70 mC70 dX4_erase_29 f_4_19 rfl t_4_2 ff_4_2 ho0) (e_retV mB70 dX4_erase_32 mR70))))))) (fun g2 => Eq.trans (e_aload_n mB70 dX4_erase_8 rfl) (Eq.trans (e_getR mB70 mC70 dX4_erase_9 f_4_9 rfl t_4_0 ho0 (w_4_0 ho0)) (Eq.trans (e_iload_n mB70 dX4_erase_12 rfl) (Eq.trans (e_bipush mB70 dX4_erase_13 kb_m6) (Eq.trans (e_iast mB70 dX4_erase_15 (wk_4_0 ho0) (wl_4_0 ho0)) (ck_h fun g3 => Eq.trans (e_iinc mB70 dX4_erase_16 ki_1 rfl (sL_k rfl (Or.inr rfl) rfl)) (e_goto mB70 dX4_erase_19 rfl))))))))))
-- SV$Page.valueAt @0
set_option maxRecDepth 4000 in
theorem B71_0 {L : Nat × Nat} {o0 : Nat} {x1 : Int32} {I : It} (ho0 : kd (GG L) o0 = 4) : E 71 0 [some (.ref o0), some (.int x1)] [] (GG L) I = if x1 < 0 then (some (some (.int (-6)), GG L, I)) else (if 48 ≤ x1 then (some (some (.int (-6)), GG L, I)) else (ck (inb x1 48) (some (some (.int (I (o0 + 1) (ix x1))), GG L, I)))) :=
  Eq.trans (e_iload_n mB71 dX4_valueAt_0 rfl) (Eq.trans (e_iflt mB71 dX4_valueAt_1 rfl) (ite_h (fun g1 => Eq.trans (e_bipush mB71 dX4_valueAt_19 kb_m6) (e_retI mB71 dX4_valueAt_21 mR71)) (fun g2 => Eq.trans (e_iload_n mB71 dX4_valueAt_4 rfl) (Eq.trans (e_bipush mB71 dX4_valueAt_5 kb_48) (Eq.trans (e_cmge mB71 dX4_valueAt_7 rfl) (ite_h (fun g3 => Eq.trans (e_bipush mB71 dX4_valueAt_19 kb_m6) (e_retI mB71 dX4_valueAt_21 mR71)) (fun g4 => Eq.trans (e_aload_n mB71 dX4_valueAt_10 rfl) (Eq.trans (e_getR mB71 mC71 dX4_valueAt_11 f_4_9 rfl t_4_0 ho0 (w_4_0 ho0)) (Eq.trans (e_iload_n mB71 dX4_valueAt_14 rfl) (Eq.trans (e_iald mB71 dX4_valueAt_15 (Or.inl (wk_4_0 ho0)) (wl_4_0 ho0)) (ck_h fun g5 => Eq.trans (e_goto mB71 dX4_valueAt_16 rfl) (e_retI mB71 dX4_valueAt_21 mR71))))))))))))
-- SV$Page.replace @0
set_option maxRecDepth 4000 in
theorem B72_0 {L : Nat × Nat} {o0 : Nat} {x1 : Int32} {x2 : Int32} {I : It} (ho0 : kd (GG L) o0 = 4) : E 72 0 [some (.ref o0), some (.int x1), some (.int x2)] [] (GG L) I = if x1 < 0 then (some (none, GG L, I)) else (if 48 ≤ x1 then (some (none, GG L, I)) else (ck (inb x1 48) (some (none, GG L, (uI I (o0 + 1) (ix x1) x2))))) :=
  Eq.trans (e_iload_n mB72 dX4_replace_0 rfl) (Eq.trans (e_iflt mB72 dX4_replace_1 rfl) (ite_h (fun g1 => e_retV mB72 dX4_replace_17 mR72) (fun g2 => Eq.trans (e_iload_n mB72 dX4_replace_4 rfl) (Eq.trans (e_bipush mB72 dX4_replace_5 kb_48) (Eq.trans (e_cmge mB72 dX4_replace_7 rfl) (ite_h (fun g3 => e_retV mB72 dX4_replace_17 mR72) (fun g4 => Eq.trans (e_aload_n mB72 dX4_replace_10 rfl) (Eq.trans (e_getR mB72 mC72 dX4_replace_11 f_4_9 rfl t_4_0 ho0 (w_4_0 ho0)) (Eq.trans (e_iload_n mB72 dX4_replace_14 rfl) (Eq.trans (e_iload_n mB72 dX4_replace_15 rfl) (Eq.trans (e_iast mB72 dX4_replace_16 (wk_4_0 ho0) (wl_4_0 ho0)) (ck_h fun g5 => e_retV mB72 dX4_replace_17 mR72))))))))))))
-- SV$Page.countWrite @0
set_option maxRecDepth 4000 in
theorem B73_0 {L : Nat × Nat} {o0 : Nat} {I : It} (ho0 : kd (GG L) o0 = 4) : E 73 0 [some (.ref o0)] [] (GG L) I = some (none, GG L, (uI I o0 1 ((I o0 1) + 1))) :=
  Eq.trans (e_aload_n mB73 dX4_countWrite_0 rfl) (Eq.trans (e_dupA mB73 dX4_countWrite_1) (Eq.trans (e_getI mB73 mC73 dX4_countWrite_2 f_4_15 rfl tn_4_1 ho0) (Eq.trans (e_iconst mB73 dX4_countWrite_5 ki_1) (Eq.trans (e_iadd mB73 dX4_countWrite_6) (Eq.trans (e_putI mB73 mC73 dX4_countWrite_7 f_4_15 rfl t_4_1 ff_4_1 ho0) (e_retV mB73 dX4_countWrite_10 mR73))))))
-- SV$Page.countFilledCells @0
set_option maxRecDepth 4000 in
theorem B74_0 {L : Nat × Nat} {o0 : Nat} {I : It} (ho0 : kd (GG L) o0 = 4) : E 74 0 [some (.ref o0), none, none] [] (GG L) I = E 74 4 [some (.ref o0), some (.int 0), some (.int 0)] [] (GG L) I :=
  Eq.trans (e_iconst mB74 dX4_countFilledCells_0 ki_0) (Eq.trans (e_istore_n mB74 dX4_countFilledCells_1 (sL_k rfl (Or.inr rfl) rfl)) (Eq.trans (e_iconst mB74 dX4_countFilledCells_2 ki_0) (e_istore_n mB74 dX4_countFilledCells_3 (sL_k rfl (Or.inr rfl) rfl))))
-- SV$Page.countFilledCells @4
set_option maxRecDepth 4000 in
theorem B74_4 {L : Nat × Nat} {o0 : Nat} {x1 : Int32} {x2 : Int32} {I : It} (ho0 : kd (GG L) o0 = 4) : E 74 4 [some (.ref o0), some (.int x1), some (.int x2)] [] (GG L) I = if 48 ≤ x2 then (some (some (.int x1), GG L, I)) else (ck (inb x2 48) (if (I (o0 + 1) (ix x2)) = (-6) then (E 74 4 [some (.ref o0), some (.int x1), some (.int (x2 + 1))] [] (GG L) I) else (E 74 4 [some (.ref o0), some (.int (x1 + 1)), some (.int (x2 + 1))] [] (GG L) I))) :=
  Eq.trans (e_iload_n mB74 dX4_countFilledCells_4 rfl) (Eq.trans (e_bipush mB74 dX4_countFilledCells_5 kb_48) (Eq.trans (e_cmge mB74 dX4_countFilledCells_7 rfl) (ite_h (fun g1 => Eq.trans (e_iload_n mB74 dX4_countFilledCells_30 rfl) (e_retI mB74 dX4_countFilledCells_31 mR74)) (fun g2 => Eq.trans (e_aload_n mB74 dX4_countFilledCells_10 rfl) (Eq.trans (e_getR mB74 mC74 dX4_countFilledCells_11 f_4_9 rfl t_4_0 ho0 (w_4_0 ho0)) (Eq.trans (e_iload_n mB74 dX4_countFilledCells_14 rfl) (Eq.trans (e_iald mB74 dX4_countFilledCells_15 (Or.inl (wk_4_0 ho0)) (wl_4_0 ho0)) (ck_h fun g3 => Eq.trans (e_bipush mB74 dX4_countFilledCells_16 kb_m6) (Eq.trans (e_cmeq mB74 dX4_countFilledCells_18 rfl) (ite_h (fun g4 => Eq.trans (e_iinc mB74 dX4_countFilledCells_24 ki_1 rfl (sL_k rfl (Or.inr rfl) rfl)) (e_goto mB74 dX4_countFilledCells_27 rfl)) (fun g5 => Eq.trans (e_iinc mB74 dX4_countFilledCells_21 ki_1 rfl (sL_k rfl (Or.inr rfl) rfl)) (Eq.trans (e_iinc mB74 dX4_countFilledCells_24 ki_1 rfl (sL_k rfl (Or.inr rfl) rfl)) (e_goto mB74 dX4_countFilledCells_27 rfl)))))))))))))
-- SV$Page.version @0
set_option maxRecDepth 4000 in
theorem B75_0 {L : Nat × Nat} {o0 : Nat} {I : It} (ho0 : kd (GG L) o0 = 4) : E 75 0 [some (.ref o0)] [] (GG L) I = K2 75 5 [some (.ref o0)] [] (E 71 0 [some (.ref o0), some (.int 0)] [] (GG L) I) :=
  Eq.trans (e_aload_n mB75 dX4_version_0 rfl) (Eq.trans (e_iconst mB75 dX4_version_1 ki_0) (e_virt (as := [.int 0]) (b := o0) (rest := []) mB75 mC75 dX4_version_2 q_4_28 mN71 rfl rfl ho0 mC71 mX71 rfl rk_75_71 rfl rfl))
-- SV$Page.version @5
set_option maxRecDepth 4000 in
theorem B75_5 {L : Nat × Nat} {u0 : Option Value} {s0 : Int32} {I : It}  : E 75 5 [u0] [.int s0] (GG L) I = some (some (.int (s0 - 200)), GG L, I) :=
  Eq.trans (e_sipush mB75 dX4_version_5 ks_200) (Eq.trans (e_isub mB75 dX4_version_8) (e_retI mB75 dX4_version_9 mR75))
-- SV$Page.sequence @0
set_option maxRecDepth 4000 in
theorem B76_0 {L : Nat × Nat} {o0 : Nat} {I : It} (ho0 : kd (GG L) o0 = 4) : E 76 0 [some (.ref o0)] [] (GG L) I = K2 76 5 [some (.ref o0)] [] (E 71 0 [some (.ref o0), some (.int 1)] [] (GG L) I) :=
  Eq.trans (e_aload_n mB76 dX4_sequence_0 rfl) (Eq.trans (e_iconst mB76 dX4_sequence_1 ki_1) (e_virt (as := [.int 1]) (b := o0) (rest := []) mB76 mC76 dX4_sequence_2 q_4_28 mN71 rfl rfl ho0 mC71 mX71 rfl rk_76_71 rfl rfl))
-- SV$Page.sequence @5
set_option maxRecDepth 4000 in
theorem B76_5 {L : Nat × Nat} {u0 : Option Value} {s0 : Int32} {I : It}  : E 76 5 [u0] [.int s0] (GG L) I = some (some (.int s0), GG L, I) :=
  e_retI mB76 dX4_sequence_5 mR76
-- SV$Page.hasGoodHead @0
set_option maxRecDepth 4000 in
theorem B77_0 {L : Nat × Nat} {o0 : Nat} {I : It} (ho0 : kd (GG L) o0 = 4) : E 77 0 [some (.ref o0), some (.ref 9)] [] (GG L) I = K2 77 5 [some (.ref o0), some (.ref 9)] [] (E 82 0 [some (.ref o0), some (.int 0)] [] (GG L) I) :=
  Eq.trans (e_aload_n mB77 dX4_hasGoodHead_0 rfl) (Eq.trans (e_iconst mB77 dX4_hasGoodHead_1 ki_0) (e_virt (as := [.int 0]) (b := o0) (rest := []) mB77 mC77 dX4_hasGoodHead_2 q_4_32 mN82 rfl rfl ho0 mC82 mX82 rfl rk_77_82 rfl rfl))
-- SV$Page.hasGoodHead @5
set_option maxRecDepth 4000 in
theorem B77_5 {L : Nat × Nat} {o0 : Nat} {s0 : Int32} {I : It} (ho0 : kd (GG L) o0 = 4) : E 77 5 [some (.ref o0), some (.ref 9)] [.int s0] (GG L) I = if s0 = 0 then (some (some (.int 0), GG L, I)) else (K2 77 13 [some (.ref o0), some (.ref 9)] [.ref 9] (E 75 0 [some (.ref o0)] [] (GG L) I)) :=
  Eq.trans (e_ifeq mB77 dX4_hasGoodHead_5 rfl) (ite_h (fun g1 => Eq.trans (e_iconst mB77 dX4_hasGoodHead_54 ki_0) (e_retZ_l mB77 dX4_hasGoodHead_55 mR77 b1_0)) (fun g2 => Eq.trans (e_aload_n mB77 dX4_hasGoodHead_8 rfl) (Eq.trans (e_aload_n mB77 dX4_hasGoodHead_9 rfl) (e_virt (as := []) (b := o0) (rest := [.ref 9]) mB77 mC77 dX4_hasGoodHead_10 q_4_36 mN75 rfl rfl ho0 mC75 mX75 rfl rk_77_75 rfl rfl))))
-- SV$Page.hasGoodHead @13
set_option maxRecDepth 4000 in
theorem B77_13 {L : Nat × Nat} {o0 : Nat} {u1 : Option Value} {s1 : Int32} {I : It} (ho0 : kd (GG L) o0 = 4) : E 77 13 [some (.ref o0), u1] [.int s1, .ref 9] (GG L) I = K2 77 16 [some (.ref o0), u1] [] (E 45 0 [some (.ref 9), some (.int s1)] [] (GG L) I) :=
  e_virt (as := [.int s1]) (b := 9) (rest := []) mB77 mC77 dX4_hasGoodHead_13 q_4_40 mN45 rfl rfl k_9 mC45 mX45 rfl rk_77_45 rfl rfl
-- SV$Page.hasGoodHead @16
set_option maxRecDepth 4000 in
theorem B77_16 {L : Nat × Nat} {o0 : Nat} {u1 : Option Value} {s0 : Int32} {I : It} (ho0 : kd (GG L) o0 = 4) : E 77 16 [some (.ref o0), u1] [.int s0] (GG L) I = if s0 = 0 then (some (some (.int 0), GG L, I)) else (K2 77 23 [some (.ref o0), u1] [] (E 76 0 [some (.ref o0)] [] (GG L) I)) :=
  Eq.trans (e_ifeq mB77 dX4_hasGoodHead_16 rfl) (ite_h (fun g1 => Eq.trans (e_iconst mB77 dX4_hasGoodHead_54 ki_0) (e_retZ_l mB77 dX4_hasGoodHead_55 mR77 b1_0)) (fun g2 => Eq.trans (e_aload_n mB77 dX4_hasGoodHead_19 rfl) (e_virt (as := []) (b := o0) (rest := []) mB77 mC77 dX4_hasGoodHead_20 q_4_45 mN76 rfl rfl ho0 mC76 mX76 rfl rk_77_76 rfl rfl)))
-- SV$Page.hasGoodHead @23
set_option maxRecDepth 4000 in
theorem B77_23 {L : Nat × Nat} {o0 : Nat} {u1 : Option Value} {s0 : Int32} {I : It} (ho0 : kd (GG L) o0 = 4) : E 77 23 [some (.ref o0), u1] [.int s0] (GG L) I = if 200 ≤ s0 then (some (some (.int 0), GG L, I)) else (K2 77 34 [some (.ref o0), u1] [] (E 71 0 [some (.ref o0), some (.int 2)] [] (GG L) I)) :=
  Eq.trans (e_sipush mB77 dX4_hasGoodHead_23 ks_200) (Eq.trans (e_cmge mB77 dX4_hasGoodHead_26 rfl) (ite_h (fun g1 => Eq.trans (e_iconst mB77 dX4_hasGoodHead_54 ki_0) (e_retZ_l mB77 dX4_hasGoodHead_55 mR77 b1_0)) (fun g2 => Eq.trans (e_aload_n mB77 dX4_hasGoodHead_29 rfl) (Eq.trans (e_iconst mB77 dX4_hasGoodHead_30 ki_2) (e_virt (as := [.int 2]) (b := o0) (rest := []) mB77 mC77 dX4_hasGoodHead_31 q_4_28 mN71 rfl rfl ho0 mC71 mX71 rfl rk_77_71 rfl rfl)))))
-- SV$Page.hasGoodHead @34
set_option maxRecDepth 4000 in
theorem B77_34 {L : Nat × Nat} {o0 : Nat} {u1 : Option Value} {s0 : Int32} {I : It} (ho0 : kd (GG L) o0 = 4) : E 77 34 [some (.ref o0), u1] [.int s0] (GG L) I = K2 77 39 [some (.ref o0), u1] [.int s0] (E 71 0 [some (.ref o0), some (.int 0)] [] (GG L) I) :=
  Eq.trans (e_aload_n mB77 dX4_hasGoodHead_34 rfl) (Eq.trans (e_iconst mB77 dX4_hasGoodHead_35 ki_0) (e_virt (as := [.int 0]) (b := o0) (rest := [.int s0]) mB77 mC77 dX4_hasGoodHead_36 q_4_28 mN71 rfl rfl ho0 mC71 mX71 rfl rk_77_71 rfl rfl))
-- SV$Page.hasGoodHead @39
set_option maxRecDepth 4000 in
theorem B77_39 {L : Nat × Nat} {o0 : Nat} {u1 : Option Value} {s0 : Int32} {s1 : Int32} {I : It} (ho0 : kd (GG L) o0 = 4) : E 77 39 [some (.ref o0), u1] [.int s1, .int s0] (GG L) I = K2 77 44 [some (.ref o0), u1] [.int s1, .int s0] (E 71 0 [some (.ref o0), some (.int 1)] [] (GG L) I) :=
  Eq.trans (e_aload_n mB77 dX4_hasGoodHead_39 rfl) (Eq.trans (e_iconst mB77 dX4_hasGoodHead_40 ki_1) (e_virt (as := [.int 1]) (b := o0) (rest := [.int s1, .int s0]) mB77 mC77 dX4_hasGoodHead_41 q_4_28 mN71 rfl rfl ho0 mC71 mX71 rfl rk_77_71 rfl rfl))
-- SV$Page.hasGoodHead @44
set_option maxRecDepth 4000 in
theorem B77_44 {L : Nat × Nat} {u0 : Option Value} {u1 : Option Value} {s0 : Int32} {s1 : Int32} {s2 : Int32} {I : It}  : E 77 44 [u0, u1] [.int s2, .int s1, .int s0] (GG L) I = K2 77 47 [u0, u1] [.int s0] (E 83 0 [some (.int s1), some (.int s2)] [] (GG L) I) :=
  e_stat (as := [.int s2, .int s1]) (rest := [.int s0]) mB77 mC77 dX4_hasGoodHead_44 na_4_48 q_4_48 (Or.inl rfl) mN83 rfl rfl mX83 rfl rk_77_83 rfl rfl
-- SV$Page.hasGoodHead @47
set_option maxRecDepth 4000 in
theorem B77_47 {L : Nat × Nat} {u0 : Option Value} {u1 : Option Value} {s0 : Int32} {s1 : Int32} {I : It}  : E 77 47 [u0, u1] [.int s1, .int s0] (GG L) I = if s0 = s1 then (some (some (.int 1), GG L, I)) else (some (some (.int 0), GG L, I)) :=
  Eq.trans (e_cmne mB77 dX4_hasGoodHead_47 rfl) (ite_h (fun g1 => Eq.trans (e_iconst mB77 dX4_hasGoodHead_50 ki_1) (Eq.trans (e_goto mB77 dX4_hasGoodHead_51 rfl) (e_retZ_l mB77 dX4_hasGoodHead_55 mR77 b1_1))) (fun g2 => Eq.trans (e_iconst mB77 dX4_hasGoodHead_54 ki_0) (e_retZ_l mB77 dX4_hasGoodHead_55 mR77 b1_0)))
-- SV$Page.hasRecordAt @0
set_option maxRecDepth 4000 in
theorem B78_0 {L : Nat × Nat} {o0 : Nat} {x1 : Int32} {I : It} (ho0 : kd (GG L) o0 = 4) : E 78 0 [some (.ref o0), some (.int x1)] [] (GG L) I = if x1 < 3 then (some (some (.int 0), GG L, I)) else (if 48 < (x1 + 3) then (some (some (.int 0), GG L, I)) else (ck (inb x1 48) (if (I (o0 + 1) (ix x1)) = (-6) then (some (some (.int 0), GG L, I)) else (some (some (.int 1), GG L, I))))) :=
  Eq.trans (e_iload_n mB78 dX4_hasRecordAt_0 rfl) (Eq.trans (e_iconst mB78 dX4_hasRecordAt_1 ki_3) (Eq.trans (e_cmlt mB78 dX4_hasRecordAt_2 rfl) (ite_h (fun g1 => Eq.trans (e_iconst mB78 dX4_hasRecordAt_28 ki_0) (e_retZ_l mB78 dX4_hasRecordAt_29 mR78 b1_0)) (fun g2 => Eq.trans (e_iload_n mB78 dX4_hasRecordAt_5 rfl) (Eq.trans (e_iconst mB78 dX4_hasRecordAt_6 ki_3) (Eq.trans (e_iadd mB78 dX4_hasRecordAt_7) (Eq.trans (e_bipush mB78 dX4_hasRecordAt_8 kb_48) (Eq.trans (e_cmgt mB78 dX4_hasRecordAt_10 rfl) (ite_h (fun g3 => Eq.trans (e_iconst mB78 dX4_hasRecordAt_28 ki_0) (e_retZ_l mB78 dX4_hasRecordAt_29 mR78 b1_0)) (fun g4 => Eq.trans (e_aload_n mB78 dX4_hasRecordAt_13 rfl) (Eq.trans (e_getR mB78 mC78 dX4_hasRecordAt_14 f_4_9 rfl t_4_0 ho0 (w_4_0 ho0)) (Eq.trans (e_iload_n mB78 dX4_hasRecordAt_17 rfl) (Eq.trans (e_iald mB78 dX4_hasRecordAt_18 (Or.inl (wk_4_0 ho0)) (wl_4_0 ho0)) (ck_h fun g5 => Eq.trans (e_bipush mB78 dX4_hasRecordAt_19 kb_m6) (Eq.trans (e_cmeq mB78 dX4_hasRecordAt_21 rfl) (ite_h (fun g6 => Eq.trans (e_iconst mB78 dX4_hasRecordAt_28 ki_0) (e_retZ_l mB78 dX4_hasRecordAt_29 mR78 b1_0)) (fun g7 => Eq.trans (e_iconst mB78 dX4_hasRecordAt_24 ki_1) (Eq.trans (e_goto mB78 dX4_hasRecordAt_25 rfl) (e_retZ_l mB78 dX4_hasRecordAt_29 mR78 b1_1)))))))))))))))))))
-- SV$Page.hasGoodRecordAt @0
set_option maxRecDepth 4000 in
theorem B79_0 {L : Nat × Nat} {o0 : Nat} {x1 : Int32} {o2 : Nat} {x3 : Int32} {I : It} (ho0 : kd (GG L) o0 = 4) (ho2 : kd (GG L) o2 = 1) : E 79 0 [some (.ref o0), some (.int x1), some (.ref o2), some (.int x3)] [] (GG L) I = K2 79 5 [some (.ref o0), some (.int x1), some (.ref o2), some (.int x3)] [] (E 82 0 [some (.ref o0), some (.int x1)] [] (GG L) I) :=
  Eq.trans (e_aload_n mB79 dX4_hasGoodRecordAt_0 rfl) (Eq.trans (e_iload_n mB79 dX4_hasGoodRecordAt_1 rfl) (e_virt (as := [.int x1]) (b := o0) (rest := []) mB79 mC79 dX4_hasGoodRecordAt_2 q_4_32 mN82 rfl rfl ho0 mC82 mX82 rfl rk_79_82 rfl rfl))
-- SV$Page.hasGoodRecordAt @5
set_option maxRecDepth 4000 in
theorem B79_5 {L : Nat × Nat} {o0 : Nat} {x1 : Int32} {o2 : Nat} {x3 : Int32} {s0 : Int32} {I : It} (ho0 : kd (GG L) o0 = 4) (ho2 : kd (GG L) o2 = 1) : E 79 5 [some (.ref o0), some (.int x1), some (.ref o2), some (.int x3)] [.int s0] (GG L) I = if s0 = 0 then (some (some (.int 0), GG L, I)) else (K2 79 14 [some (.ref o0), some (.int x1), some (.ref o2), some (.int x3)] [.ref o2] (E 80 0 [some (.ref o0), some (.int x1)] [] (GG L) I)) :=
  Eq.trans (e_ifeq mB79 dX4_hasGoodRecordAt_5 rfl) (ite_h (fun g1 => Eq.trans (e_iconst mB79 dX4_hasGoodRecordAt_57 ki_0) (e_retZ_l mB79 dX4_hasGoodRecordAt_58 mR79 b1_0)) (fun g2 => Eq.trans (e_aload_n mB79 dX4_hasGoodRecordAt_8 rfl) (Eq.trans (e_aload_n mB79 dX4_hasGoodRecordAt_9 rfl) (Eq.trans (e_iload_n mB79 dX4_hasGoodRecordAt_10 rfl) (e_virt (as := [.int x1]) (b := o0) (rest := [.ref o2]) mB79 mC79 dX4_hasGoodRecordAt_11 q_4_52 mN80 rfl rfl ho0 mC80 mX80 rfl rk_79_80 rfl rfl)))))
-- SV$Page.hasGoodRecordAt @14
set_option maxRecDepth 4000 in
theorem B79_14 {L : Nat × Nat} {o0 : Nat} {x1 : Int32} {u2 : Option Value} {x3 : Int32} {p0 : Nat} {s1 : Int32} {I : It} (ho0 : kd (GG L) o0 = 4) (hp0 : kd (GG L) p0 = 1) : E 79 14 [some (.ref o0), some (.int x1), u2, some (.int x3)] [.int s1, .ref p0] (GG L) I = K2 79 21 [some (.ref o0), some (.int x1), u2, some (.int x3)] [.int s1, .ref p0] (E 71 0 [some (.ref o0), some (.int (x1 + 1))] [] (GG L) I) :=
  Eq.trans (e_aload_n mB79 dX4_hasGoodRecordAt_14 rfl) (Eq.trans (e_iload_n mB79 dX4_hasGoodRecordAt_15 rfl) (Eq.trans (e_iconst mB79 dX4_hasGoodRecordAt_16 ki_1) (Eq.trans (e_iadd mB79 dX4_hasGoodRecordAt_17) (e_virt (as := [.int (x1 + 1)]) (b := o0) (rest := [.int s1, .ref p0]) mB79 mC79 dX4_hasGoodRecordAt_18 q_4_28 mN71 rfl rfl ho0 mC71 mX71 rfl rk_79_71 rfl rfl))))
-- SV$Page.hasGoodRecordAt @21
set_option maxRecDepth 4000 in
theorem B79_21 {L : Nat × Nat} {o0 : Nat} {x1 : Int32} {u2 : Option Value} {x3 : Int32} {p0 : Nat} {s1 : Int32} {s2 : Int32} {I : It} (ho0 : kd (GG L) o0 = 4) (hp0 : kd (GG L) p0 = 1) : E 79 21 [some (.ref o0), some (.int x1), u2, some (.int x3)] [.int s2, .int s1, .ref p0] (GG L) I = K2 79 24 [some (.ref o0), some (.int x1), u2, some (.int x3)] [] (E 36 0 [some (.ref p0), some (.int s1), some (.int s2)] [] (GG L) I) :=
  e_virt (as := [.int s2, .int s1]) (b := p0) (rest := []) mB79 mC79 dX4_hasGoodRecordAt_21 q_4_55 mN36 rfl rfl hp0 mC36 mX36 rfl rk_79_36 rfl rfl
-- SV$Page.hasGoodRecordAt @24
set_option maxRecDepth 4000 in
theorem B79_24 {L : Nat × Nat} {o0 : Nat} {x1 : Int32} {u2 : Option Value} {x3 : Int32} {s0 : Int32} {I : It} (ho0 : kd (GG L) o0 = 4) : E 79 24 [some (.ref o0), some (.int x1), u2, some (.int x3)] [.int s0] (GG L) I = if s0 = 0 then (some (some (.int 0), GG L, I)) else (K2 79 34 [some (.ref o0), some (.int x1), u2, some (.int x3)] [] (E 71 0 [some (.ref o0), some (.int (x1 + 2))] [] (GG L) I)) :=
  Eq.trans (e_ifeq mB79 dX4_hasGoodRecordAt_24 rfl) (ite_h (fun g1 => Eq.trans (e_iconst mB79 dX4_hasGoodRecordAt_57 ki_0) (e_retZ_l mB79 dX4_hasGoodRecordAt_58 mR79 b1_0)) (fun g2 => Eq.trans (e_aload_n mB79 dX4_hasGoodRecordAt_27 rfl) (Eq.trans (e_iload_n mB79 dX4_hasGoodRecordAt_28 rfl) (Eq.trans (e_iconst mB79 dX4_hasGoodRecordAt_29 ki_2) (Eq.trans (e_iadd mB79 dX4_hasGoodRecordAt_30) (e_virt (as := [.int (x1 + 2)]) (b := o0) (rest := []) mB79 mC79 dX4_hasGoodRecordAt_31 q_4_28 mN71 rfl rfl ho0 mC71 mX71 rfl rk_79_71 rfl rfl))))))
-- SV$Page.hasGoodRecordAt @34
set_option maxRecDepth 4000 in
theorem B79_34 {L : Nat × Nat} {o0 : Nat} {x1 : Int32} {u2 : Option Value} {x3 : Int32} {s0 : Int32} {I : It} (ho0 : kd (GG L) o0 = 4) : E 79 34 [some (.ref o0), some (.int x1), u2, some (.int x3)] [.int s0] (GG L) I = K2 79 39 [some (.ref o0), some (.int x1), u2, some (.int x3)] [.int s0] (E 71 0 [some (.ref o0), some (.int x1)] [] (GG L) I) :=
  Eq.trans (e_aload_n mB79 dX4_hasGoodRecordAt_34 rfl) (Eq.trans (e_iload_n mB79 dX4_hasGoodRecordAt_35 rfl) (e_virt (as := [.int x1]) (b := o0) (rest := [.int s0]) mB79 mC79 dX4_hasGoodRecordAt_36 q_4_28 mN71 rfl rfl ho0 mC71 mX71 rfl rk_79_71 rfl rfl))
-- SV$Page.hasGoodRecordAt @39
set_option maxRecDepth 4000 in
theorem B79_39 {L : Nat × Nat} {o0 : Nat} {x1 : Int32} {u2 : Option Value} {x3 : Int32} {s0 : Int32} {s1 : Int32} {I : It} (ho0 : kd (GG L) o0 = 4) : E 79 39 [some (.ref o0), some (.int x1), u2, some (.int x3)] [.int s1, .int s0] (GG L) I = K2 79 46 [some (.ref o0), some (.int x1), u2, some (.int x3)] [.int s1, .int s0] (E 71 0 [some (.ref o0), some (.int (x1 + 1))] [] (GG L) I) :=
  Eq.trans (e_aload_n mB79 dX4_hasGoodRecordAt_39 rfl) (Eq.trans (e_iload_n mB79 dX4_hasGoodRecordAt_40 rfl) (Eq.trans (e_iconst mB79 dX4_hasGoodRecordAt_41 ki_1) (Eq.trans (e_iadd mB79 dX4_hasGoodRecordAt_42) (e_virt (as := [.int (x1 + 1)]) (b := o0) (rest := [.int s1, .int s0]) mB79 mC79 dX4_hasGoodRecordAt_43 q_4_28 mN71 rfl rfl ho0 mC71 mX71 rfl rk_79_71 rfl rfl))))
-- SV$Page.hasGoodRecordAt @46
set_option maxRecDepth 4000 in
theorem B79_46 {L : Nat × Nat} {u0 : Option Value} {u1 : Option Value} {u2 : Option Value} {x3 : Int32} {s0 : Int32} {s1 : Int32} {s2 : Int32} {I : It}  : E 79 46 [u0, u1, u2, some (.int x3)] [.int s2, .int s1, .int s0] (GG L) I = K2 79 50 [u0, u1, u2, some (.int x3)] [.int s0] (E 84 0 [some (.int s1), some (.int s2), some (.int x3)] [] (GG L) I) :=
  Eq.trans (e_iload_n mB79 dX4_hasGoodRecordAt_46 rfl) (e_stat (as := [.int x3, .int s2, .int s1]) (rest := [.int s0]) mB79 mC79 dX4_hasGoodRecordAt_47 na_4_61 q_4_61 (Or.inl rfl) mN84 rfl rfl mX84 rfl rk_79_84 rfl rfl)
-- SV$Page.hasGoodRecordAt @50
set_option maxRecDepth 4000 in
theorem B79_50 {L : Nat × Nat} {u0 : Option Value} {u1 : Option Value} {u2 : Option Value} {u3 : Option Value} {s0 : Int32} {s1 : Int32} {I : It}  : E 79 50 [u0, u1, u2, u3] [.int s1, .int s0] (GG L) I = if s0 = s1 then (some (some (.int 1), GG L, I)) else (some (some (.int 0), GG L, I)) :=
  Eq.trans (e_cmne mB79 dX4_hasGoodRecordAt_50 rfl) (ite_h (fun g1 => Eq.trans (e_iconst mB79 dX4_hasGoodRecordAt_53 ki_1) (Eq.trans (e_goto mB79 dX4_hasGoodRecordAt_54 rfl) (e_retZ_l mB79 dX4_hasGoodRecordAt_58 mR79 b1_1))) (fun g2 => Eq.trans (e_iconst mB79 dX4_hasGoodRecordAt_57 ki_0) (e_retZ_l mB79 dX4_hasGoodRecordAt_58 mR79 b1_0)))
-- SV$Page.nameAt @0
set_option maxRecDepth 4000 in
theorem B80_0 {L : Nat × Nat} {o0 : Nat} {x1 : Int32} {I : It} (ho0 : kd (GG L) o0 = 4) : E 80 0 [some (.ref o0), some (.int x1)] [] (GG L) I = K2 80 5 [some (.ref o0), some (.int x1)] [] (E 71 0 [some (.ref o0), some (.int x1)] [] (GG L) I) :=
  Eq.trans (e_aload_n mB80 dX4_nameAt_0 rfl) (Eq.trans (e_iload_n mB80 dX4_nameAt_1 rfl) (e_virt (as := [.int x1]) (b := o0) (rest := []) mB80 mC80 dX4_nameAt_2 q_4_28 mN71 rfl rfl ho0 mC71 mX71 rfl rk_80_71 rfl rfl))
-- SV$Page.nameAt @5
set_option maxRecDepth 4000 in
theorem B80_5 {L : Nat × Nat} {u0 : Option Value} {u1 : Option Value} {s0 : Int32} {I : It}  : E 80 5 [u0, u1] [.int s0] (GG L) I = some (some (.int (s0 - 1)), GG L, I) :=
  Eq.trans (e_iconst mB80 dX4_nameAt_5 ki_1) (Eq.trans (e_isub mB80 dX4_nameAt_6) (e_retI mB80 dX4_nameAt_7 mR80))
-- SV$Page.countRecords @0
set_option maxRecDepth 4000 in
theorem B81_0 {L : Nat × Nat} {o0 : Nat} {x2 : Int32} {I : It} (ho0 : kd (GG L) o0 = 4) : E 81 0 [some (.ref o0), some (.ref 9), some (.int x2), none, none, none] [] (GG L) I = K2 81 5 [some (.ref o0), some (.ref 9), some (.int x2), none, none, none] [] (E 77 0 [some (.ref o0), some (.ref 9)] [] (GG L) I) :=
  Eq.trans (e_aload_n mB81 dX4_countRecords_0 rfl) (Eq.trans (e_aload_n mB81 dX4_countRecords_1 rfl) (e_virt (as := [.ref 9]) (b := o0) (rest := []) mB81 mC81 dX4_countRecords_2 q_4_65 mN77 rfl rfl ho0 mC77 mX77 rfl rk_81_77 rfl rfl))
-- SV$Page.countRecords @5
set_option maxRecDepth 4000 in
theorem B81_5 {L : Nat × Nat} {o0 : Nat} {x2 : Int32} {u3 : Option Value} {u4 : Option Value} {u5 : Option Value} {s0 : Int32} {I : It} (ho0 : kd (GG L) o0 = 4) : E 81 5 [some (.ref o0), some (.ref 9), some (.int x2), u3, u4, u5] [.int s0] (GG L) I = if s0 = 0 then (some (some (.int 0), GG L, I)) else (K2 81 15 [some (.ref o0), some (.ref 9), some (.int x2), u3, u4, u5] [.ref 9] (E 75 0 [some (.ref o0)] [] (GG L) I)) :=
  Eq.trans (e_ifne mB81 dX4_countRecords_5 rfl) (ite_h (fun g1 => Eq.trans (e_iconst mB81 dX4_countRecords_8 ki_0) (e_retI mB81 dX4_countRecords_9 mR81)) (fun g2 => Eq.trans (e_aload_n mB81 dX4_countRecords_10 rfl) (Eq.trans (e_aload_n mB81 dX4_countRecords_11 rfl) (e_virt (as := []) (b := o0) (rest := [.ref 9]) mB81 mC81 dX4_countRecords_12 q_4_36 mN75 rfl rfl ho0 mC75 mX75 rfl rk_81_75 rfl rfl))))
-- SV$Page.countRecords @15
set_option maxRecDepth 4000 in
theorem B81_15 {L : Nat × Nat} {o0 : Nat} {u1 : Option Value} {x2 : Int32} {u3 : Option Value} {u4 : Option Value} {u5 : Option Value} {s1 : Int32} {I : It} (ho0 : kd (GG L) o0 = 4) : E 81 15 [some (.ref o0), u1, some (.int x2), u3, u4, u5] [.int s1, .ref 9] (GG L) I = K2 81 18 [some (.ref o0), u1, some (.int x2), u3, u4, u5] [] (E 46 0 [some (.ref 9), some (.int s1)] [] (GG L) I) :=
  e_virt (as := [.int s1]) (b := 9) (rest := []) mB81 mC81 dX4_countRecords_15 q_4_69 mN46 rfl rfl k_9 mC46 mX46 rfl rk_81_46 rfl rfl
-- SV$Page.countRecords @18
set_option maxRecDepth 4000 in
theorem B81_18 {L : Nat × Nat} {o0 : Nat} {u1 : Option Value} {x2 : Int32} {u3 : Option Value} {u4 : Option Value} {u5 : Option Value} {p0 : Nat} {I : It} (ho0 : kd (GG L) o0 = 4) (hp0 : kd (GG L) p0 = 1) : E 81 18 [some (.ref o0), u1, some (.int x2), u3, u4, u5] [.ref p0] (GG L) I = E 81 25 [some (.ref o0), u1, some (.int x2), some (.ref p0), some (.int 0), some (.int 3)] [] (GG L) I :=
  Eq.trans (e_astore_n mB81 dX4_countRecords_18 (sL_k rfl (Or.inr rfl) rfl)) (Eq.trans (e_iconst mB81 dX4_countRecords_19 ki_0) (Eq.trans (e_istore mB81 dX4_countRecords_20 (sL_k rfl (Or.inr rfl) rfl)) (Eq.trans (e_iconst mB81 dX4_countRecords_22 ki_3) (e_istore mB81 dX4_countRecords_23 (sL_k rfl (Or.inr rfl) rfl)))))
-- SV$Page.countRecords @25
set_option maxRecDepth 4000 in
theorem B81_25 {L : Nat × Nat} {o0 : Nat} {u1 : Option Value} {x2 : Int32} {o3 : Nat} {x4 : Int32} {x5 : Int32} {I : It} (ho0 : kd (GG L) o0 = 4) (ho3 : kd (GG L) o3 = 1) : E 81 25 [some (.ref o0), u1, some (.int x2), some (.ref o3), some (.int x4), some (.int x5)] [] (GG L) I = if 48 ≤ x5 then (some (some (.int x4), GG L, I)) else (K2 81 38 [some (.ref o0), u1, some (.int x2), some (.ref o3), some (.int x4), some (.int x5)] [] (E 78 0 [some (.ref o0), some (.int x5)] [] (GG L) I)) :=
  Eq.trans (e_iload mB81 dX4_countRecords_25 rfl) (Eq.trans (e_bipush mB81 dX4_countRecords_27 kb_48) (Eq.trans (e_cmge mB81 dX4_countRecords_29 rfl) (ite_h (fun g1 => Eq.trans (e_iload mB81 dX4_countRecords_65 rfl) (e_retI mB81 dX4_countRecords_67 mR81)) (fun g2 => Eq.trans (e_aload_n mB81 dX4_countRecords_32 rfl) (Eq.trans (e_iload mB81 dX4_countRecords_33 rfl) (e_virt (as := [.int x5]) (b := o0) (rest := []) mB81 mC81 dX4_countRecords_35 q_4_73 mN78 rfl rfl ho0 mC78 mX78 rfl rk_81_78 rfl rfl))))))
-- SV$Page.countRecords @38
set_option maxRecDepth 4000 in
theorem B81_38 {L : Nat × Nat} {o0 : Nat} {u1 : Option Value} {x2 : Int32} {o3 : Nat} {x4 : Int32} {x5 : Int32} {s0 : Int32} {I : It} (ho0 : kd (GG L) o0 = 4) (ho3 : kd (GG L) o3 = 1) : E 81 38 [some (.ref o0), u1, some (.int x2), some (.ref o3), some (.int x4), some (.int x5)] [.int s0] (GG L) I = if s0 = 0 then (some (some (.int x4), GG L, I)) else (K2 81 49 [some (.ref o0), u1, some (.int x2), some (.ref o3), some (.int x4), some (.int x5)] [.ref o3, .int x5, .ref o0] (E 75 0 [some (.ref o0)] [] (GG L) I)) :=
  Eq.trans (e_ifeq mB81 dX4_countRecords_38 rfl) (ite_h (fun g1 => Eq.trans (e_iload mB81 dX4_countRecords_65 rfl) (e_retI mB81 dX4_countRecords_67 mR81)) (fun g2 => Eq.trans (e_aload_n mB81 dX4_countRecords_41 rfl) (Eq.trans (e_iload mB81 dX4_countRecords_42 rfl) (Eq.trans (e_aload_n mB81 dX4_countRecords_44 rfl) (Eq.trans (e_aload_n mB81 dX4_countRecords_45 rfl) (e_virt (as := []) (b := o0) (rest := [.ref o3, .int x5, .ref o0]) mB81 mC81 dX4_countRecords_46 q_4_36 mN75 rfl rfl ho0 mC75 mX75 rfl rk_81_75 rfl rfl))))))
-- SV$Page.countRecords @49
set_option maxRecDepth 4000 in
theorem B81_49 {L : Nat × Nat} {o0 : Nat} {u1 : Option Value} {x2 : Int32} {o3 : Nat} {x4 : Int32} {x5 : Int32} {p0 : Nat} {s1 : Int32} {p2 : Nat} {s3 : Int32} {I : It} (ho0 : kd (GG L) o0 = 4) (ho3 : kd (GG L) o3 = 1) (hp0 : kd (GG L) p0 = 4) (hp2 : kd (GG L) p2 = 1) : E 81 49 [some (.ref o0), u1, some (.int x2), some (.ref o3), some (.int x4), some (.int x5)] [.int s3, .ref p2, .int s1, .ref p0] (GG L) I = K2 81 52 [some (.ref o0), u1, some (.int x2), some (.ref o3), some (.int x4), some (.int x5)] [] (E 79 0 [some (.ref p0), some (.int s1), some (.ref p2), some (.int s3)] [] (GG L) I) :=
  e_virt (as := [.int s3, .ref p2, .int s1]) (b := p0) (rest := []) mB81 mC81 dX4_countRecords_49 q_4_76 mN79 rfl rfl hp0 mC79 mX79 rfl rk_81_79 rfl rfl
-- SV$Page.countRecords @52
set_option maxRecDepth 4000 in
theorem B81_52 {L : Nat × Nat} {o0 : Nat} {u1 : Option Value} {x2 : Int32} {o3 : Nat} {x4 : Int32} {x5 : Int32} {s0 : Int32} {I : It} (ho0 : kd (GG L) o0 = 4) (ho3 : kd (GG L) o3 = 1) : E 81 52 [some (.ref o0), u1, some (.int x2), some (.ref o3), some (.int x4), some (.int x5)] [.int s0] (GG L) I = if s0 = x2 then (E 81 25 [some (.ref o0), u1, some (.int x2), some (.ref o3), some (.int (x4 + 1)), some (.int (x5 + 3))] [] (GG L) I) else (E 81 25 [some (.ref o0), u1, some (.int x2), some (.ref o3), some (.int x4), some (.int (x5 + 3))] [] (GG L) I) :=
  Eq.trans (e_iload_n mB81 dX4_countRecords_52 rfl) (Eq.trans (e_cmne mB81 dX4_countRecords_53 rfl) (ite_h (fun g1 => Eq.trans (e_iinc mB81 dX4_countRecords_56 ki_1 rfl (sL_k rfl (Or.inr rfl) rfl)) (Eq.trans (e_iinc mB81 dX4_countRecords_59 ki_3 rfl (sL_k rfl (Or.inr rfl) rfl)) (e_goto mB81 dX4_countRecords_62 rfl))) (fun g2 => Eq.trans (e_iinc mB81 dX4_countRecords_59 ki_3 rfl (sL_k rfl (Or.inr rfl) rfl)) (e_goto mB81 dX4_countRecords_62 rfl))))
-- SV$Page.hasThreeAt @0
set_option maxRecDepth 4000 in
theorem B82_0 {L : Nat × Nat} {o0 : Nat} {x1 : Int32} {I : It} (ho0 : kd (GG L) o0 = 4) : E 82 0 [some (.ref o0), some (.int x1)] [] (GG L) I = K2 82 5 [some (.ref o0), some (.int x1)] [] (E 71 0 [some (.ref o0), some (.int x1)] [] (GG L) I) :=
  Eq.trans (e_aload_n mB82 dX4_hasThreeAt_0 rfl) (Eq.trans (e_iload_n mB82 dX4_hasThreeAt_1 rfl) (e_virt (as := [.int x1]) (b := o0) (rest := []) mB82 mC82 dX4_hasThreeAt_2 q_4_28 mN71 rfl rfl ho0 mC71 mX71 rfl rk_82_71 rfl rfl))
-- SV$Page.hasThreeAt @5
set_option maxRecDepth 4000 in
theorem B82_5 {L : Nat × Nat} {o0 : Nat} {x1 : Int32} {s0 : Int32} {I : It} (ho0 : kd (GG L) o0 = 4) : E 82 5 [some (.ref o0), some (.int x1)] [.int s0] (GG L) I = if s0 = (-6) then (some (some (.int 0), GG L, I)) else (K2 82 17 [some (.ref o0), some (.int x1)] [] (E 71 0 [some (.ref o0), some (.int (x1 + 1))] [] (GG L) I)) :=
  Eq.trans (e_bipush mB82 dX4_hasThreeAt_5 kb_m6) (Eq.trans (e_cmeq mB82 dX4_hasThreeAt_7 rfl) (ite_h (fun g1 => Eq.trans (e_iconst mB82 dX4_hasThreeAt_38 ki_0) (e_retZ_l mB82 dX4_hasThreeAt_39 mR82 b1_0)) (fun g2 => Eq.trans (e_aload_n mB82 dX4_hasThreeAt_10 rfl) (Eq.trans (e_iload_n mB82 dX4_hasThreeAt_11 rfl) (Eq.trans (e_iconst mB82 dX4_hasThreeAt_12 ki_1) (Eq.trans (e_iadd mB82 dX4_hasThreeAt_13) (e_virt (as := [.int (x1 + 1)]) (b := o0) (rest := []) mB82 mC82 dX4_hasThreeAt_14 q_4_28 mN71 rfl rfl ho0 mC71 mX71 rfl rk_82_71 rfl rfl)))))))
-- SV$Page.hasThreeAt @17
set_option maxRecDepth 4000 in
theorem B82_17 {L : Nat × Nat} {o0 : Nat} {x1 : Int32} {s0 : Int32} {I : It} (ho0 : kd (GG L) o0 = 4) : E 82 17 [some (.ref o0), some (.int x1)] [.int s0] (GG L) I = if s0 = (-6) then (some (some (.int 0), GG L, I)) else (K2 82 29 [some (.ref o0), some (.int x1)] [] (E 71 0 [some (.ref o0), some (.int (x1 + 2))] [] (GG L) I)) :=
  Eq.trans (e_bipush mB82 dX4_hasThreeAt_17 kb_m6) (Eq.trans (e_cmeq mB82 dX4_hasThreeAt_19 rfl) (ite_h (fun g1 => Eq.trans (e_iconst mB82 dX4_hasThreeAt_38 ki_0) (e_retZ_l mB82 dX4_hasThreeAt_39 mR82 b1_0)) (fun g2 => Eq.trans (e_aload_n mB82 dX4_hasThreeAt_22 rfl) (Eq.trans (e_iload_n mB82 dX4_hasThreeAt_23 rfl) (Eq.trans (e_iconst mB82 dX4_hasThreeAt_24 ki_2) (Eq.trans (e_iadd mB82 dX4_hasThreeAt_25) (e_virt (as := [.int (x1 + 2)]) (b := o0) (rest := []) mB82 mC82 dX4_hasThreeAt_26 q_4_28 mN71 rfl rfl ho0 mC71 mX71 rfl rk_82_71 rfl rfl)))))))
-- SV$Page.hasThreeAt @29
set_option maxRecDepth 4000 in
theorem B82_29 {L : Nat × Nat} {u0 : Option Value} {u1 : Option Value} {s0 : Int32} {I : It}  : E 82 29 [u0, u1] [.int s0] (GG L) I = if s0 = (-6) then (some (some (.int 0), GG L, I)) else (some (some (.int 1), GG L, I)) :=
  Eq.trans (e_bipush mB82 dX4_hasThreeAt_29 kb_m6) (Eq.trans (e_cmeq mB82 dX4_hasThreeAt_31 rfl) (ite_h (fun g1 => Eq.trans (e_iconst mB82 dX4_hasThreeAt_38 ki_0) (e_retZ_l mB82 dX4_hasThreeAt_39 mR82 b1_0)) (fun g2 => Eq.trans (e_iconst mB82 dX4_hasThreeAt_34 ki_1) (Eq.trans (e_goto mB82 dX4_hasThreeAt_35 rfl) (e_retZ_l mB82 dX4_hasThreeAt_39 mR82 b1_1)))))
-- SV$Page.headCheck @0
set_option maxRecDepth 4000 in
theorem B83_0 {L : Nat × Nat} {x0 : Int32} {x1 : Int32} {I : It}  : E 83 0 [some (.int x0), some (.int x1)] [] (GG L) I = some (some (.int ((((3 * x0) + (5 * x1)) + 1) - (((3 * x0) + (5 * x1)) + 1) / 251 * 251)), GG L, I) :=
  Eq.trans (e_iconst mB83 dX4_headCheck_0 ki_3) (Eq.trans (e_iload_n mB83 dX4_headCheck_1 rfl) (Eq.trans (e_imul mB83 dX4_headCheck_2) (Eq.trans (e_iconst mB83 dX4_headCheck_3 ki_5) (Eq.trans (e_iload_n mB83 dX4_headCheck_4 rfl) (Eq.trans (e_imul mB83 dX4_headCheck_5) (Eq.trans (e_iadd mB83 dX4_headCheck_6) (Eq.trans (e_iconst mB83 dX4_headCheck_7 ki_1) (Eq.trans (e_iadd mB83 dX4_headCheck_8) (Eq.trans (e_sipush mB83 dX4_headCheck_9 ks_251) (Eq.trans (e_irem_l mB83 dX4_headCheck_12 (by decide)) (e_retI mB83 dX4_headCheck_13 mR83)))))))))))
-- SV$Page.recordCheck @0
set_option maxRecDepth 4000 in
theorem B84_0 {L : Nat × Nat} {x0 : Int32} {x1 : Int32} {x2 : Int32} {I : It}  : E 84 0 [some (.int x0), some (.int x1), some (.int x2)] [] (GG L) I = some (some (.int (((((7 * x0) + (11 * x1)) + (13 * x2)) + 5) - ((((7 * x0) + (11 * x1)) + (13 * x2)) + 5) / 251 * 251)), GG L, I) :=
  Eq.trans (e_bipush mB84 dX4_recordCheck_0 kb_7) (Eq.trans (e_iload_n mB84 dX4_recordCheck_2 rfl) (Eq.trans (e_imul mB84 dX4_recordCheck_3) (Eq.trans (e_bipush mB84 dX4_recordCheck_4 kb_11) (Eq.trans (e_iload_n mB84 dX4_recordCheck_6 rfl) (Eq.trans (e_imul mB84 dX4_recordCheck_7) (Eq.trans (e_iadd mB84 dX4_recordCheck_8) (Eq.trans (e_bipush mB84 dX4_recordCheck_9 kb_13) (Eq.trans (e_iload_n mB84 dX4_recordCheck_11 rfl) (Eq.trans (e_imul mB84 dX4_recordCheck_12) (Eq.trans (e_iadd mB84 dX4_recordCheck_13) (Eq.trans (e_iconst mB84 dX4_recordCheck_14 ki_5) (Eq.trans (e_iadd mB84 dX4_recordCheck_15) (Eq.trans (e_sipush mB84 dX4_recordCheck_16 ks_251) (Eq.trans (e_irem_l mB84 dX4_recordCheck_19 (by decide)) (e_retI mB84 dX4_recordCheck_20 mR84)))))))))))))))
