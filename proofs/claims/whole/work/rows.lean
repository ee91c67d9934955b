section
-- ===== PART A: goes FIRST, ahead of the names: the tables' words, and 'selects' of the private methods out of them =====
/-- a private method of a class that the tables say can be made, by its rows of tables_1 -/
def lw_okq (q : MethodName × Nat) : Prop := (q.1.cls ≠ "java/lang/invoke/MethodHandle" ∧ q.1.cls ≠ "java/lang/invoke/VarHandle") ∧ Cond.instantiable q.1.cls q.2 ∈ tables_1 ∧ Cond.privateMethod q.1 ∈ tables_1 ∧ Cond.instanceMethod q.1 ∈ tables_1
theorem lw_p0 : lw_okq (⟨"SettingsVault$Pad", "readStep", "()Z"⟩, 4) := ⟨⟨by decide +kernel, by decide +kernel⟩, List.mem_of_getElem? (i := 20) (by decide +kernel), List.mem_of_getElem? (i := 202) (by decide +kernel), List.mem_of_getElem? (i := 203) (by decide +kernel)⟩
theorem lw_p1 : lw_okq (⟨"SettingsVault$Pad", "readSign", "(C)Z"⟩, 4) := ⟨⟨by decide +kernel, by decide +kernel⟩, List.mem_of_getElem? (i := 20) (by decide +kernel), List.mem_of_getElem? (i := 206) (by decide +kernel), List.mem_of_getElem? (i := 207) (by decide +kernel)⟩
theorem lw_p2 : lw_okq (⟨"SettingsVault$Pad", "readOffset", "(CII)I"⟩, 4) := ⟨⟨by decide +kernel, by decide +kernel⟩, List.mem_of_getElem? (i := 20) (by decide +kernel), List.mem_of_getElem? (i := 210) (by decide +kernel), List.mem_of_getElem? (i := 211) (by decide +kernel)⟩
theorem lw_p3 : lw_okq (⟨"SettingsVault$Pad", "readAdding", "()Z"⟩, 4) := ⟨⟨by decide +kernel, by decide +kernel⟩, List.mem_of_getElem? (i := 20) (by decide +kernel), List.mem_of_getElem? (i := 214) (by decide +kernel), List.mem_of_getElem? (i := 215) (by decide +kernel)⟩
theorem lw_p4 : lw_okq (⟨"SettingsVault$Pad", "readName", "()I"⟩, 4) := ⟨⟨by decide +kernel, by decide +kernel⟩, List.mem_of_getElem? (i := 20) (by decide +kernel), List.mem_of_getElem? (i := 218) (by decide +kernel), List.mem_of_getElem? (i := 219) (by decide +kernel)⟩
theorem lw_p5 : lw_okq (⟨"SettingsVault$Pad", "readNumber", "()I"⟩, 4) := ⟨⟨by decide +kernel, by decide +kernel⟩, List.mem_of_getElem? (i := 20) (by decide +kernel), List.mem_of_getElem? (i := 222) (by decide +kernel), List.mem_of_getElem? (i := 223) (by decide +kernel)⟩
theorem lw_p6 : lw_okq (⟨"SettingsVault$Pad", "readDigit", "(II)I"⟩, 4) := ⟨⟨by decide +kernel, by decide +kernel⟩, List.mem_of_getElem? (i := 20) (by decide +kernel), List.mem_of_getElem? (i := 226) (by decide +kernel), List.mem_of_getElem? (i := 227) (by decide +kernel)⟩
theorem lw_p7 : lw_okq (⟨"SettingsVault$Pad", "readNewName", "(II)Z"⟩, 4) := ⟨⟨by decide +kernel, by decide +kernel⟩, List.mem_of_getElem? (i := 20) (by decide +kernel), List.mem_of_getElem? (i := 237) (by decide +kernel), List.mem_of_getElem? (i := 238) (by decide +kernel)⟩
theorem lw_p8 : lw_okq (⟨"SettingsVault$Pad", "readFactor", "(II)Z"⟩, 4) := ⟨⟨by decide +kernel, by decide +kernel⟩, List.mem_of_getElem? (i := 20) (by decide +kernel), List.mem_of_getElem? (i := 241) (by decide +kernel), List.mem_of_getElem? (i := 242) (by decide +kernel)⟩
theorem lw_p9 : lw_okq (⟨"SettingsVault$Pad", "readLimit", "(I)Z"⟩, 4) := ⟨⟨by decide +kernel, by decide +kernel⟩, List.mem_of_getElem? (i := 20) (by decide +kernel), List.mem_of_getElem? (i := 245) (by decide +kernel), List.mem_of_getElem? (i := 246) (by decide +kernel)⟩
theorem lw_p10 : lw_okq (⟨"SettingsVault$Device", "findActive", "()I"⟩, 14) := ⟨⟨by decide +kernel, by decide +kernel⟩, List.mem_of_getElem? (i := 105) (by decide +kernel), List.mem_of_getElem? (i := 363) (by decide +kernel), List.mem_of_getElem? (i := 364) (by decide +kernel)⟩
theorem lw_p11 : lw_okq (⟨"SettingsVault$Page", "hasThreeAt", "(I)Z"⟩, 3) := ⟨⟨by decide +kernel, by decide +kernel⟩, List.mem_of_getElem? (i := 111) (by decide +kernel), List.mem_of_getElem? (i := 371) (by decide +kernel), List.mem_of_getElem? (i := 372) (by decide +kernel)⟩
theorem lw_p12 : lw_okq (⟨"SettingsVault$Device", "takeDefaults", "()V"⟩, 14) := ⟨⟨by decide +kernel, by decide +kernel⟩, List.mem_of_getElem? (i := 105) (by decide +kernel), List.mem_of_getElem? (i := 400) (by decide +kernel), List.mem_of_getElem? (i := 401) (by decide +kernel)⟩
theorem lw_p13 : lw_okq (⟨"SettingsVault$Device", "readRecords", "(LSettingsVault$Page;)V"⟩, 14) := ⟨⟨by decide +kernel, by decide +kernel⟩, List.mem_of_getElem? (i := 105) (by decide +kernel), List.mem_of_getElem? (i := 410) (by decide +kernel), List.mem_of_getElem? (i := 411) (by decide +kernel)⟩
theorem lw_p14 : lw_okq (⟨"SettingsVault$Device", "fillOther", "(I)I"⟩, 14) := ⟨⟨by decide +kernel, by decide +kernel⟩, List.mem_of_getElem? (i := 105) (by decide +kernel), List.mem_of_getElem? (i := 459) (by decide +kernel), List.mem_of_getElem? (i := 460) (by decide +kernel)⟩
theorem lw_p15 : lw_okq (⟨"SettingsVault$Device", "writeRecord", "(LSettingsVault$Page;IIII)I"⟩, 14) := ⟨⟨by decide +kernel, by decide +kernel⟩, List.mem_of_getElem? (i := 105) (by decide +kernel), List.mem_of_getElem? (i := 468) (by decide +kernel), List.mem_of_getElem? (i := 469) (by decide +kernel)⟩
def lw_privs_1 : List (MethodName × Nat) := [(⟨"SettingsVault$Pad", "readStep", "()Z"⟩, 4), (⟨"SettingsVault$Pad", "readSign", "(C)Z"⟩, 4), (⟨"SettingsVault$Pad", "readOffset", "(CII)I"⟩, 4), (⟨"SettingsVault$Pad", "readAdding", "()Z"⟩, 4), (⟨"SettingsVault$Pad", "readName", "()I"⟩, 4), (⟨"SettingsVault$Pad", "readNumber", "()I"⟩, 4), (⟨"SettingsVault$Pad", "readDigit", "(II)I"⟩, 4), (⟨"SettingsVault$Pad", "readNewName", "(II)Z"⟩, 4), (⟨"SettingsVault$Pad", "readFactor", "(II)Z"⟩, 4), (⟨"SettingsVault$Pad", "readLimit", "(I)Z"⟩, 4), (⟨"SettingsVault$Device", "findActive", "()I"⟩, 14), (⟨"SettingsVault$Page", "hasThreeAt", "(I)Z"⟩, 3), (⟨"SettingsVault$Device", "takeDefaults", "()V"⟩, 14), (⟨"SettingsVault$Device", "readRecords", "(LSettingsVault$Page;)V"⟩, 14), (⟨"SettingsVault$Device", "fillOther", "(I)I"⟩, 14), (⟨"SettingsVault$Device", "writeRecord", "(LSettingsVault$Page;IIII)I"⟩, 14)]
theorem lw_r1 : ∀ q ∈ lw_privs_1, lw_okq q := List.forall_mem_cons.mpr ⟨lw_p0, List.forall_mem_cons.mpr ⟨lw_p1, List.forall_mem_cons.mpr ⟨lw_p2, List.forall_mem_cons.mpr ⟨lw_p3, List.forall_mem_cons.mpr ⟨lw_p4, List.forall_mem_cons.mpr ⟨lw_p5, List.forall_mem_cons.mpr ⟨lw_p6, List.forall_mem_cons.mpr ⟨lw_p7, List.forall_mem_cons.mpr ⟨lw_p8, List.forall_mem_cons.mpr ⟨lw_p9, List.forall_mem_cons.mpr ⟨lw_p10, List.forall_mem_cons.mpr ⟨lw_p11, List.forall_mem_cons.mpr ⟨lw_p12, List.forall_mem_cons.mpr ⟨lw_p13, List.forall_mem_cons.mpr ⟨lw_p14, List.forall_mem_cons.mpr ⟨lw_p15, fun _ h => absurd h List.not_mem_nil⟩⟩⟩⟩⟩⟩⟩⟩⟩⟩⟩⟩⟩⟩⟩⟩
theorem lw_p16 : lw_okq (⟨"SettingsVault$Device", "writeThree", "(LSettingsVault$Page;IIII)I"⟩, 14) := ⟨⟨by decide +kernel, by decide +kernel⟩, List.mem_of_getElem? (i := 105) (by decide +kernel), List.mem_of_getElem? (i := 473) (by decide +kernel), List.mem_of_getElem? (i := 474) (by decide +kernel)⟩
theorem lw_p17 : lw_okq (⟨"SettingsVault$Device", "writeCell", "(LSettingsVault$Page;II)I"⟩, 14) := ⟨⟨by decide +kernel, by decide +kernel⟩, List.mem_of_getElem? (i := 105) (by decide +kernel), List.mem_of_getElem? (i := 477) (by decide +kernel), List.mem_of_getElem? (i := 478) (by decide +kernel)⟩
theorem lw_p18 : lw_okq (⟨"SettingsVault$Device", "writeHead", "(LSettingsVault$Page;II)I"⟩, 14) := ⟨⟨by decide +kernel, by decide +kernel⟩, List.mem_of_getElem? (i := 105) (by decide +kernel), List.mem_of_getElem? (i := 489) (by decide +kernel), List.mem_of_getElem? (i := 490) (by decide +kernel)⟩
theorem lw_p19 : lw_okq (⟨"SettingsVault$Device", "migrateValues", "(I)V"⟩, 14) := ⟨⟨by decide +kernel, by decide +kernel⟩, List.mem_of_getElem? (i := 105) (by decide +kernel), List.mem_of_getElem? (i := 510) (by decide +kernel), List.mem_of_getElem? (i := 511) (by decide +kernel)⟩
theorem lw_p20 : lw_okq (⟨"SettingsVaultModel", "read", "(I)I"⟩, 28) := ⟨⟨by decide +kernel, by decide +kernel⟩, List.mem_of_getElem? (i := 673) (by decide +kernel), List.mem_of_getElem? (i := 768) (by decide +kernel), List.mem_of_getElem? (i := 769) (by decide +kernel)⟩
theorem lw_p21 : lw_okq (⟨"SettingsVaultModel", "takeStep", "()V"⟩, 28) := ⟨⟨by decide +kernel, by decide +kernel⟩, List.mem_of_getElem? (i := 673) (by decide +kernel), List.mem_of_getElem? (i := 772) (by decide +kernel), List.mem_of_getElem? (i := 773) (by decide +kernel)⟩
theorem lw_p22 : lw_okq (⟨"SettingsVaultModel", "next", "()I"⟩, 28) := ⟨⟨by decide +kernel, by decide +kernel⟩, List.mem_of_getElem? (i := 673) (by decide +kernel), List.mem_of_getElem? (i := 776) (by decide +kernel), List.mem_of_getElem? (i := 777) (by decide +kernel)⟩
theorem lw_p23 : lw_okq (⟨"SettingsVaultModel", "takeChange", "()V"⟩, 28) := ⟨⟨by decide +kernel, by decide +kernel⟩, List.mem_of_getElem? (i := 673) (by decide +kernel), List.mem_of_getElem? (i := 780) (by decide +kernel), List.mem_of_getElem? (i := 781) (by decide +kernel)⟩
theorem lw_p24 : lw_okq (⟨"SettingsVaultModel", "takeOne", "(II)I"⟩, 28) := ⟨⟨by decide +kernel, by decide +kernel⟩, List.mem_of_getElem? (i := 673) (by decide +kernel), List.mem_of_getElem? (i := 784) (by decide +kernel), List.mem_of_getElem? (i := 785) (by decide +kernel)⟩
theorem lw_p25 : lw_okq (⟨"SettingsVaultModel", "takeNumber", "()I"⟩, 28) := ⟨⟨by decide +kernel, by decide +kernel⟩, List.mem_of_getElem? (i := 673) (by decide +kernel), List.mem_of_getElem? (i := 791) (by decide +kernel), List.mem_of_getElem? (i := 792) (by decide +kernel)⟩
theorem lw_p26 : lw_okq (⟨"SettingsVaultModel", "layStep", "(I)V"⟩, 28) := ⟨⟨by decide +kernel, by decide +kernel⟩, List.mem_of_getElem? (i := 673) (by decide +kernel), List.mem_of_getElem? (i := 795) (by decide +kernel), List.mem_of_getElem? (i := 796) (by decide +kernel)⟩
theorem lw_p27 : lw_okq (⟨"SettingsVaultModel", "copyLayout", "(I)V"⟩, 28) := ⟨⟨by decide +kernel, by decide +kernel⟩, List.mem_of_getElem? (i := 673) (by decide +kernel), List.mem_of_getElem? (i := 799) (by decide +kernel), List.mem_of_getElem? (i := 800) (by decide +kernel)⟩
theorem lw_p28 : lw_okq (⟨"SettingsVaultModel", "canDo", "(II)Z"⟩, 28) := ⟨⟨by decide +kernel, by decide +kernel⟩, List.mem_of_getElem? (i := 673) (by decide +kernel), List.mem_of_getElem? (i := 803) (by decide +kernel), List.mem_of_getElem? (i := 804) (by decide +kernel)⟩
theorem lw_p29 : lw_okq (⟨"SettingsVaultModel", "hasSetting", "(II)Z"⟩, 28) := ⟨⟨by decide +kernel, by decide +kernel⟩, List.mem_of_getElem? (i := 673) (by decide +kernel), List.mem_of_getElem? (i := 807) (by decide +kernel), List.mem_of_getElem? (i := 808) (by decide +kernel)⟩
theorem lw_p30 : lw_okq (⟨"SettingsVaultModel", "doTo", "(II)V"⟩, 28) := ⟨⟨by decide +kernel, by decide +kernel⟩, List.mem_of_getElem? (i := 673) (by decide +kernel), List.mem_of_getElem? (i := 811) (by decide +kernel), List.mem_of_getElem? (i := 812) (by decide +kernel)⟩
theorem lw_p31 : lw_okq (⟨"SettingsVaultModel", "isVersion", "(I)Z"⟩, 28) := ⟨⟨by decide +kernel, by decide +kernel⟩, List.mem_of_getElem? (i := 673) (by decide +kernel), List.mem_of_getElem? (i := 825) (by decide +kernel), List.mem_of_getElem? (i := 826) (by decide +kernel)⟩
def lw_privs_2 : List (MethodName × Nat) := [(⟨"SettingsVault$Device", "writeThree", "(LSettingsVault$Page;IIII)I"⟩, 14), (⟨"SettingsVault$Device", "writeCell", "(LSettingsVault$Page;II)I"⟩, 14), (⟨"SettingsVault$Device", "writeHead", "(LSettingsVault$Page;II)I"⟩, 14), (⟨"SettingsVault$Device", "migrateValues", "(I)V"⟩, 14), (⟨"SettingsVaultModel", "read", "(I)I"⟩, 28), (⟨"SettingsVaultModel", "takeStep", "()V"⟩, 28), (⟨"SettingsVaultModel", "next", "()I"⟩, 28), (⟨"SettingsVaultModel", "takeChange", "()V"⟩, 28), (⟨"SettingsVaultModel", "takeOne", "(II)I"⟩, 28), (⟨"SettingsVaultModel", "takeNumber", "()I"⟩, 28), (⟨"SettingsVaultModel", "layStep", "(I)V"⟩, 28), (⟨"SettingsVaultModel", "copyLayout", "(I)V"⟩, 28), (⟨"SettingsVaultModel", "canDo", "(II)Z"⟩, 28), (⟨"SettingsVaultModel", "hasSetting", "(II)Z"⟩, 28), (⟨"SettingsVaultModel", "doTo", "(II)V"⟩, 28), (⟨"SettingsVaultModel", "isVersion", "(I)Z"⟩, 28)]
theorem lw_r2 : ∀ q ∈ lw_privs_2, lw_okq q := List.forall_mem_cons.mpr ⟨lw_p16, List.forall_mem_cons.mpr ⟨lw_p17, List.forall_mem_cons.mpr ⟨lw_p18, List.forall_mem_cons.mpr ⟨lw_p19, List.forall_mem_cons.mpr ⟨lw_p20, List.forall_mem_cons.mpr ⟨lw_p21, List.forall_mem_cons.mpr ⟨lw_p22, List.forall_mem_cons.mpr ⟨lw_p23, List.forall_mem_cons.mpr ⟨lw_p24, List.forall_mem_cons.mpr ⟨lw_p25, List.forall_mem_cons.mpr ⟨lw_p26, List.forall_mem_cons.mpr ⟨lw_p27, List.forall_mem_cons.mpr ⟨lw_p28, List.forall_mem_cons.mpr ⟨lw_p29, List.forall_mem_cons.mpr ⟨lw_p30, List.forall_mem_cons.mpr ⟨lw_p31, fun _ h => absurd h List.not_mem_nil⟩⟩⟩⟩⟩⟩⟩⟩⟩⟩⟩⟩⟩⟩⟩⟩
theorem lw_p32 : lw_okq (⟨"SettingsVaultModel", "activeByHeads", "()I"⟩, 28) := ⟨⟨by decide +kernel, by decide +kernel⟩, List.mem_of_getElem? (i := 673) (by decide +kernel), List.mem_of_getElem? (i := 837) (by decide +kernel), List.mem_of_getElem? (i := 838) (by decide +kernel)⟩
theorem lw_p33 : lw_okq (⟨"SettingsVaultModel", "isHead", "(I)Z"⟩, 28) := ⟨⟨by decide +kernel, by decide +kernel⟩, List.mem_of_getElem? (i := 673) (by decide +kernel), List.mem_of_getElem? (i := 841) (by decide +kernel), List.mem_of_getElem? (i := 842) (by decide +kernel)⟩
theorem lw_p34 : lw_okq (⟨"SettingsVaultModel", "cellOf", "(II)I"⟩, 28) := ⟨⟨by decide +kernel, by decide +kernel⟩, List.mem_of_getElem? (i := 673) (by decide +kernel), List.mem_of_getElem? (i := 845) (by decide +kernel), List.mem_of_getElem? (i := 846) (by decide +kernel)⟩
theorem lw_p35 : lw_okq (⟨"SettingsVaultModel", "layUsual", "(I)V"⟩, 28) := ⟨⟨by decide +kernel, by decide +kernel⟩, List.mem_of_getElem? (i := 673) (by decide +kernel), List.mem_of_getElem? (i := 852) (by decide +kernel), List.mem_of_getElem? (i := 853) (by decide +kernel)⟩
theorem lw_p36 : lw_okq (⟨"SettingsVaultModel", "goThrough", "(IIZ)V"⟩, 28) := ⟨⟨by decide +kernel, by decide +kernel⟩, List.mem_of_getElem? (i := 673) (by decide +kernel), List.mem_of_getElem? (i := 856) (by decide +kernel), List.mem_of_getElem? (i := 857) (by decide +kernel)⟩
theorem lw_p37 : lw_okq (⟨"SettingsVaultModel", "isRecord", "(III)Z"⟩, 28) := ⟨⟨by decide +kernel, by decide +kernel⟩, List.mem_of_getElem? (i := 673) (by decide +kernel), List.mem_of_getElem? (i := 860) (by decide +kernel), List.mem_of_getElem? (i := 861) (by decide +kernel)⟩
theorem lw_p38 : lw_okq (⟨"SettingsVaultModel", "isSetting", "(I)Z"⟩, 28) := ⟨⟨by decide +kernel, by decide +kernel⟩, List.mem_of_getElem? (i := 673) (by decide +kernel), List.mem_of_getElem? (i := 871) (by decide +kernel), List.mem_of_getElem? (i := 872) (by decide +kernel)⟩
theorem lw_p39 : lw_okq (⟨"SettingsVaultModel", "isValue", "(II)Z"⟩, 28) := ⟨⟨by decide +kernel, by decide +kernel⟩, List.mem_of_getElem? (i := 673) (by decide +kernel), List.mem_of_getElem? (i := 879) (by decide +kernel), List.mem_of_getElem? (i := 880) (by decide +kernel)⟩
theorem lw_p40 : lw_okq (⟨"SettingsVaultModel", "makeSet", "(II)V"⟩, 28) := ⟨⟨by decide +kernel, by decide +kernel⟩, List.mem_of_getElem? (i := 673) (by decide +kernel), List.mem_of_getElem? (i := 883) (by decide +kernel), List.mem_of_getElem? (i := 884) (by decide +kernel)⟩
theorem lw_p41 : lw_okq (⟨"SettingsVaultModel", "layThen", "()V"⟩, 28) := ⟨⟨by decide +kernel, by decide +kernel⟩, List.mem_of_getElem? (i := 673) (by decide +kernel), List.mem_of_getElem? (i := 887) (by decide +kernel), List.mem_of_getElem? (i := 888) (by decide +kernel)⟩
theorem lw_p42 : lw_okq (⟨"SettingsVaultModel", "fill", "(I)V"⟩, 28) := ⟨⟨by decide +kernel, by decide +kernel⟩, List.mem_of_getElem? (i := 673) (by decide +kernel), List.mem_of_getElem? (i := 891) (by decide +kernel), List.mem_of_getElem? (i := 892) (by decide +kernel)⟩
theorem lw_p43 : lw_okq (⟨"SettingsVaultModel", "erase", "(I)V"⟩, 28) := ⟨⟨by decide +kernel, by decide +kernel⟩, List.mem_of_getElem? (i := 673) (by decide +kernel), List.mem_of_getElem? (i := 895) (by decide +kernel), List.mem_of_getElem? (i := 896) (by decide +kernel)⟩
theorem lw_p44 : lw_okq (⟨"SettingsVaultModel", "writeRecord", "(IIIII)V"⟩, 28) := ⟨⟨by decide +kernel, by decide +kernel⟩, List.mem_of_getElem? (i := 673) (by decide +kernel), List.mem_of_getElem? (i := 899) (by decide +kernel), List.mem_of_getElem? (i := 900) (by decide +kernel)⟩
theorem lw_p45 : lw_okq (⟨"SettingsVaultModel", "write", "(III)V"⟩, 28) := ⟨⟨by decide +kernel, by decide +kernel⟩, List.mem_of_getElem? (i := 673) (by decide +kernel), List.mem_of_getElem? (i := 903) (by decide +kernel), List.mem_of_getElem? (i := 904) (by decide +kernel)⟩
theorem lw_p46 : lw_okq (⟨"SettingsVaultModel", "writeHead", "(III)V"⟩, 28) := ⟨⟨by decide +kernel, by decide +kernel⟩, List.mem_of_getElem? (i := 673) (by decide +kernel), List.mem_of_getElem? (i := 907) (by decide +kernel), List.mem_of_getElem? (i := 908) (by decide +kernel)⟩
theorem lw_p47 : lw_okq (⟨"SettingsVaultModel", "isIdle", "()Z"⟩, 28) := ⟨⟨by decide +kernel, by decide +kernel⟩, List.mem_of_getElem? (i := 673) (by decide +kernel), List.mem_of_getElem? (i := 915) (by decide +kernel), List.mem_of_getElem? (i := 916) (by decide +kernel)⟩
def lw_privs_3 : List (MethodName × Nat) := [(⟨"SettingsVaultModel", "activeByHeads", "()I"⟩, 28), (⟨"SettingsVaultModel", "isHead", "(I)Z"⟩, 28), (⟨"SettingsVaultModel", "cellOf", "(II)I"⟩, 28), (⟨"SettingsVaultModel", "layUsual", "(I)V"⟩, 28), (⟨"SettingsVaultModel", "goThrough", "(IIZ)V"⟩, 28), (⟨"SettingsVaultModel", "isRecord", "(III)Z"⟩, 28), (⟨"SettingsVaultModel", "isSetting", "(I)Z"⟩, 28), (⟨"SettingsVaultModel", "isValue", "(II)Z"⟩, 28), (⟨"SettingsVaultModel", "makeSet", "(II)V"⟩, 28), (⟨"SettingsVaultModel", "layThen", "()V"⟩, 28), (⟨"SettingsVaultModel", "fill", "(I)V"⟩, 28), (⟨"SettingsVaultModel", "erase", "(I)V"⟩, 28), (⟨"SettingsVaultModel", "writeRecord", "(IIIII)V"⟩, 28), (⟨"SettingsVaultModel", "write", "(III)V"⟩, 28), (⟨"SettingsVaultModel", "writeHead", "(III)V"⟩, 28), (⟨"SettingsVaultModel", "isIdle", "()Z"⟩, 28)]
theorem lw_r3 : ∀ q ∈ lw_privs_3, lw_okq q := List.forall_mem_cons.mpr ⟨lw_p32, List.forall_mem_cons.mpr ⟨lw_p33, List.forall_mem_cons.mpr ⟨lw_p34, List.forall_mem_cons.mpr ⟨lw_p35, List.forall_mem_cons.mpr ⟨lw_p36, List.forall_mem_cons.mpr ⟨lw_p37, List.forall_mem_cons.mpr ⟨lw_p38, List.forall_mem_cons.mpr ⟨lw_p39, List.forall_mem_cons.mpr ⟨lw_p40, List.forall_mem_cons.mpr ⟨lw_p41, List.forall_mem_cons.mpr ⟨lw_p42, List.forall_mem_cons.mpr ⟨lw_p43, List.forall_mem_cons.mpr ⟨lw_p44, List.forall_mem_cons.mpr ⟨lw_p45, List.forall_mem_cons.mpr ⟨lw_p46, List.forall_mem_cons.mpr ⟨lw_p47, fun _ h => absurd h List.not_mem_nil⟩⟩⟩⟩⟩⟩⟩⟩⟩⟩⟩⟩⟩⟩⟩⟩
theorem lw_p48 : lw_okq (⟨"SettingsVaultModel", "migrateTo", "(I)V"⟩, 28) := ⟨⟨by decide +kernel, by decide +kernel⟩, List.mem_of_getElem? (i := 673) (by decide +kernel), List.mem_of_getElem? (i := 923) (by decide +kernel), List.mem_of_getElem? (i := 924) (by decide +kernel)⟩
theorem lw_p49 : lw_okq (⟨"SettingsVaultModel", "doToValues", "(I)V"⟩, 28) := ⟨⟨by decide +kernel, by decide +kernel⟩, List.mem_of_getElem? (i := 673) (by decide +kernel), List.mem_of_getElem? (i := 927) (by decide +kernel), List.mem_of_getElem? (i := 928) (by decide +kernel)⟩
theorem lw_p50 : lw_okq (⟨"SettingsVaultModel", "recordsOf", "(IZ)I"⟩, 28) := ⟨⟨by decide +kernel, by decide +kernel⟩, List.mem_of_getElem? (i := 673) (by decide +kernel), List.mem_of_getElem? (i := 950) (by decide +kernel), List.mem_of_getElem? (i := 951) (by decide +kernel)⟩
theorem lw_p51 : lw_okq (⟨"SettingsVaultModel", "cellsOf", "(I)I"⟩, 28) := ⟨⟨by decide +kernel, by decide +kernel⟩, List.mem_of_getElem? (i := 673) (by decide +kernel), List.mem_of_getElem? (i := 954) (by decide +kernel), List.mem_of_getElem? (i := 955) (by decide +kernel)⟩
theorem lw_p52 : lw_okq (⟨"SettingsVaultModel", "settings", "(Z)I"⟩, 28) := ⟨⟨by decide +kernel, by decide +kernel⟩, List.mem_of_getElem? (i := 673) (by decide +kernel), List.mem_of_getElem? (i := 962) (by decide +kernel), List.mem_of_getElem? (i := 963) (by decide +kernel)⟩
def lw_privs_4 : List (MethodName × Nat) := [(⟨"SettingsVaultModel", "migrateTo", "(I)V"⟩, 28), (⟨"SettingsVaultModel", "doToValues", "(I)V"⟩, 28), (⟨"SettingsVaultModel", "recordsOf", "(IZ)I"⟩, 28), (⟨"SettingsVaultModel", "cellsOf", "(I)I"⟩, 28), (⟨"SettingsVaultModel", "settings", "(Z)I"⟩, 28)]
theorem lw_r4 : ∀ q ∈ lw_privs_4, lw_okq q := List.forall_mem_cons.mpr ⟨lw_p48, List.forall_mem_cons.mpr ⟨lw_p49, List.forall_mem_cons.mpr ⟨lw_p50, List.forall_mem_cons.mpr ⟨lw_p51, List.forall_mem_cons.mpr ⟨lw_p52, fun _ h => absurd h List.not_mem_nil⟩⟩⟩⟩⟩
def lw_privs : List (MethodName × Nat) := lw_privs_1 ++ (lw_privs_2 ++ (lw_privs_3 ++ (lw_privs_4)))
def lw_tbl : List Cond := k2_sels lw_privs ++ tables_1
theorem lw_privs_ok : ∀ q ∈ lw_privs, lw_okq q := by
  show ∀ q ∈ lw_privs_1 ++ (lw_privs_2 ++ (lw_privs_3 ++ (lw_privs_4))), lw_okq q
  exact List.forall_mem_append.mpr ⟨lw_r1, List.forall_mem_append.mpr ⟨lw_r2, List.forall_mem_append.mpr ⟨lw_r3, lw_r4⟩⟩⟩
end
section
def RX0 : String := "SettingsVault$Device"
def TX0 : u_T := fun k => match k with
  | 0 => ("SettingsVault$Device", "layouts", "LSettingsVault$Layouts;", true)
  | 1 => ("SettingsVault$Device", "first", "LSettingsVault$Page;", true)
  | 2 => ("SettingsVault$Device", "second", "LSettingsVault$Page;", true)
  | 3 => ("SettingsVault$Device", "powered", "Z", false)
  | 4 => ("SettingsVault$Device", "writesLeft", "I", false)
  | 5 => ("SettingsVault$Device", "active", "I", false)
  | 6 => ("SettingsVault$Device", "version", "I", false)
  | 7 => ("SettingsVault$Device", "sequence", "I", false)
  | 8 => ("SettingsVault$Device", "next", "I", false)
  | 9 => ("SettingsVault$Device", "badRecords", "I", false)
  | 10 => ("SettingsVault$Device", "values", "[I", true)
  | 11 => ("SettingsVault$Device", "places", "[I", true)
  | 12 => ("SettingsVault$Device", "newValues", "[I", true)
  | _ => ("SettingsVault$Device", "newPlaces", "[I", true)
def tyX0 : Nat → FieldType := fun k => match k with
  | 0 => .object "SettingsVault$Layouts"
  | 1 => .object "SettingsVault$Page"
  | 2 => .object "SettingsVault$Page"
  | 3 => .boolean
  | 4 => .int
  | 5 => .int
  | 6 => .int
  | 7 => .int
  | 8 => .int
  | 9 => .int
  | 10 => .array .int
  | 11 => .array .int
  | 12 => .array .int
  | _ => .array .int
theorem nmX0 : ∀ a, a < 14 → ∀ b, b < 14 → a ≠ b → (TX0 a).2.1 ≠ (TX0 b).2.1 := by decide +kernel
theorem tyX0_ok : ∀ k, k < 14 → parseFieldDescriptor (TX0 k).2.2.1 = some (tyX0 k) := by decide +kernel
abbrev cX0_init : ByteArray := prog_2_method_1_code
def yX0_init : MethodName := ⟨RX0, "<init>", "(LSettingsVault$Layouts;)V"⟩
abbrev cX0_copyFrom : ByteArray := prog_2_method_2_code
def yX0_copyFrom : MethodName := ⟨RX0, "copyFrom", "(LSettingsVault$Device;)V"⟩
abbrev cX0_isPowered : ByteArray := prog_2_method_3_code
def yX0_isPowered : MethodName := ⟨RX0, "isPowered", "()Z"⟩
abbrev cX0_isReady : ByteArray := prog_2_method_4_code
def yX0_isReady : MethodName := ⟨RX0, "isReady", "()Z"⟩
abbrev cX0_writesLeft : ByteArray := prog_2_method_5_code
def yX0_writesLeft : MethodName := ⟨RX0, "writesLeft", "()I"⟩
abbrev cX0_active : ByteArray := prog_2_method_6_code
def yX0_active : MethodName := ⟨RX0, "active", "()I"⟩
abbrev cX0_version : ByteArray := prog_2_method_7_code
def yX0_version : MethodName := ⟨RX0, "version", "()I"⟩
abbrev cX0_sequence : ByteArray := prog_2_method_8_code
def yX0_sequence : MethodName := ⟨RX0, "sequence", "()I"⟩
abbrev cX0_badRecords : ByteArray := prog_2_method_9_code
def yX0_badRecords : MethodName := ⟨RX0, "badRecords", "()I"⟩
abbrev cX0_pageOf : ByteArray := prog_2_method_10_code
def yX0_pageOf : MethodName := ⟨RX0, "pageOf", "(I)LSettingsVault$Page;"⟩
abbrev cX0_presentLayout : ByteArray := prog_2_method_11_code
def yX0_presentLayout : MethodName := ⟨RX0, "presentLayout", "()LSettingsVault$Layout;"⟩
abbrev cX0_valueOf : ByteArray := prog_2_method_12_code
def yX0_valueOf : MethodName := ⟨RX0, "valueOf", "(I)I"⟩
abbrev cX0_placeOf : ByteArray := prog_2_method_13_code
def yX0_placeOf : MethodName := ⟨RX0, "placeOf", "(I)I"⟩
abbrev cX0_countRoom : ByteArray := prog_2_method_14_code
def yX0_countRoom : MethodName := ⟨RX0, "countRoom", "()I"⟩
abbrev cX0_countSettings : ByteArray := prog_2_method_15_code
def yX0_countSettings : MethodName := ⟨RX0, "countSettings", "()I"⟩
abbrev cX0_countChangedSettings : ByteArray := prog_2_method_16_code
def yX0_countChangedSettings : MethodName := ⟨RX0, "countChangedSettings", "()I"⟩
abbrev cX0_failBehind : ByteArray := prog_2_method_17_code
def yX0_failBehind : MethodName := ⟨RX0, "failBehind", "(I)V"⟩
abbrev cX0_restart : ByteArray := prog_2_method_18_code
def yX0_restart : MethodName := ⟨RX0, "restart", "()V"⟩
abbrev cX0_findActive : ByteArray := prog_2_method_19_code
def yX0_findActive : MethodName := ⟨RX0, "findActive", "()I"⟩
abbrev cX0_takeDefaults : ByteArray := prog_2_method_20_code
def yX0_takeDefaults : MethodName := ⟨RX0, "takeDefaults", "()V"⟩
abbrev cX0_readRecords : ByteArray := prog_2_method_21_code
def yX0_readRecords : MethodName := ⟨RX0, "readRecords", "(LSettingsVault$Page;)V"⟩
abbrev cX0_change : ByteArray := prog_2_method_22_code
def yX0_change : MethodName := ⟨RX0, "change", "(II)I"⟩
abbrev cX0_moveTo : ByteArray := prog_2_method_23_code
def yX0_moveTo : MethodName := ⟨RX0, "moveTo", "(I)I"⟩
abbrev cX0_migratedValueOf : ByteArray := prog_2_method_24_code
def yX0_migratedValueOf : MethodName := ⟨RX0, "migratedValueOf", "(II)I"⟩
abbrev cX0_migrateValues : ByteArray := prog_2_method_25_code
def yX0_migrateValues : MethodName := ⟨RX0, "migrateValues", "(I)V"⟩
abbrev cX0_reset : ByteArray := prog_2_method_26_code
def yX0_reset : MethodName := ⟨RX0, "reset", "(I)I"⟩
abbrev cX0_fillOther : ByteArray := prog_2_method_27_code
def yX0_fillOther : MethodName := ⟨RX0, "fillOther", "(I)I"⟩
abbrev cX0_writeRecord : ByteArray := prog_2_method_28_code
def yX0_writeRecord : MethodName := ⟨RX0, "writeRecord", "(LSettingsVault$Page;IIII)I"⟩
abbrev cX0_writeHead : ByteArray := prog_2_method_29_code
def yX0_writeHead : MethodName := ⟨RX0, "writeHead", "(LSettingsVault$Page;II)I"⟩
abbrev cX0_writeThree : ByteArray := prog_2_method_30_code
def yX0_writeThree : MethodName := ⟨RX0, "writeThree", "(LSettingsVault$Page;IIII)I"⟩
abbrev cX0_writeCell : ByteArray := prog_2_method_31_code
def yX0_writeCell : MethodName := ⟨RX0, "writeCell", "(LSettingsVault$Page;II)I"⟩
def RX1 : String := "SettingsVault$Layout"
def TX1 : u_T := fun k => match k with
  | 0 => ("SettingsVault$Layout", "there", "[Z", true)
  | 1 => ("SettingsVault$Layout", "greatest", "[I", true)
  | 2 => ("SettingsVault$Layout", "defaults", "[I", true)
  | 3 => ("SettingsVault$Layout", "before", "[I", true)
  | _ => ("SettingsVault$Layout", "steps", "LSettingsVault$Steps;", true)
def tyX1 : Nat → FieldType := fun k => match k with
  | 0 => .array .boolean
  | 1 => .array .int
  | 2 => .array .int
  | 3 => .array .int
  | _ => .object "SettingsVault$Steps"
theorem nmX1 : ∀ a, a < 5 → ∀ b, b < 5 → a ≠ b → (TX1 a).2.1 ≠ (TX1 b).2.1 := by decide +kernel
theorem tyX1_ok : ∀ k, k < 5 → parseFieldDescriptor (TX1 k).2.2.1 = some (tyX1 k) := by decide +kernel
abbrev cX1_init : ByteArray := prog_3_method_1_code
def yX1_init : MethodName := ⟨RX1, "<init>", "()V"⟩
abbrev cX1_has : ByteArray := prog_3_method_2_code
def yX1_has : MethodName := ⟨RX1, "has", "(I)Z"⟩
abbrev cX1_greatestOf : ByteArray := prog_3_method_3_code
def yX1_greatestOf : MethodName := ⟨RX1, "greatestOf", "(I)I"⟩
abbrev cX1_defaultOf : ByteArray := prog_3_method_4_code
def yX1_defaultOf : MethodName := ⟨RX1, "defaultOf", "(I)I"⟩
abbrev cX1_nameBefore : ByteArray := prog_3_method_5_code
def yX1_nameBefore : MethodName := ⟨RX1, "nameBefore", "(I)I"⟩
abbrev cX1_takes : ByteArray := prog_3_method_6_code
def yX1_takes : MethodName := ⟨RX1, "takes", "(II)Z"⟩
abbrev cX1_makeFrom : ByteArray := prog_3_method_7_code
def yX1_makeFrom : MethodName := ⟨RX1, "makeFrom", "(LSettingsVault$Layout;LSettingsVault$Steps;)Z"⟩
abbrev cX1_addSetting : ByteArray := prog_3_method_8_code
def yX1_addSetting : MethodName := ⟨RX1, "addSetting", "(III)Z"⟩
abbrev cX1_dropSetting : ByteArray := prog_3_method_9_code
def yX1_dropSetting : MethodName := ⟨RX1, "dropSetting", "(I)Z"⟩
abbrev cX1_renameSetting : ByteArray := prog_3_method_10_code
def yX1_renameSetting : MethodName := ⟨RX1, "renameSetting", "(II)Z"⟩
abbrev cX1_scaleSetting : ByteArray := prog_3_method_11_code
def yX1_scaleSetting : MethodName := ⟨RX1, "scaleSetting", "(III)Z"⟩
abbrev cX1_carryOver : ByteArray := prog_3_method_12_code
def yX1_carryOver : MethodName := ⟨RX1, "carryOver", "([I)V"⟩
def RX2 : String := "SettingsVault$Layouts"
def TX2 : u_T := fun k => match k with
  | 0 => ("SettingsVault$Layouts", "empty", "LSettingsVault$Layout;", true)
  | 1 => ("SettingsVault$Layouts", "versions", "[LSettingsVault$Layout;", true)
  | _ => ("SettingsVault$Layouts", "count", "I", false)
def tyX2 : Nat → FieldType := fun k => match k with
  | 0 => .object "SettingsVault$Layout"
  | 1 => .array (.object "SettingsVault$Layout")
  | _ => .int
theorem nmX2 : ∀ a, a < 3 → ∀ b, b < 3 → a ≠ b → (TX2 a).2.1 ≠ (TX2 b).2.1 := by decide +kernel
theorem tyX2_ok : ∀ k, k < 3 → parseFieldDescriptor (TX2 k).2.2.1 = some (tyX2 k) := by decide +kernel
abbrev cX2_init : ByteArray := prog_4_method_1_code
def yX2_init : MethodName := ⟨RX2, "<init>", "()V"⟩
abbrev cX2_count : ByteArray := prog_4_method_2_code
def yX2_count : MethodName := ⟨RX2, "count", "()I"⟩
abbrev cX2_has : ByteArray := prog_4_method_3_code
def yX2_has : MethodName := ⟨RX2, "has", "(I)Z"⟩
abbrev cX2_of : ByteArray := prog_4_method_4_code
def yX2_of : MethodName := ⟨RX2, "of", "(I)LSettingsVault$Layout;"⟩
abbrev cX2_extend : ByteArray := prog_4_method_5_code
def yX2_extend : MethodName := ⟨RX2, "extend", "(LSettingsVault$Steps;)Z"⟩
abbrev cX2_carryOver : ByteArray := prog_4_method_6_code
def yX2_carryOver : MethodName := ⟨RX2, "carryOver", "([III)V"⟩
def RX3 : String := "SettingsVault$Pad"
def TX3 : u_T := fun k => match k with
  | 0 => ("SettingsVault$Pad", "signs", "[C", true)
  | 1 => ("SettingsVault$Pad", "steps", "LSettingsVault$Steps;", true)
  | 2 => ("SettingsVault$Pad", "length", "I", false)
  | _ => ("SettingsVault$Pad", "at", "I", false)
def tyX3 : Nat → FieldType := fun k => match k with
  | 0 => .array .char
  | 1 => .object "SettingsVault$Steps"
  | 2 => .int
  | _ => .int
theorem nmX3 : ∀ a, a < 4 → ∀ b, b < 4 → a ≠ b → (TX3 a).2.1 ≠ (TX3 b).2.1 := by decide +kernel
theorem tyX3_ok : ∀ k, k < 4 → parseFieldDescriptor (TX3 k).2.2.1 = some (tyX3 k) := by decide +kernel
abbrev cX3_init : ByteArray := prog_5_method_1_code
def yX3_init : MethodName := ⟨RX3, "<init>", "()V"⟩
abbrev cX3_length : ByteArray := prog_5_method_2_code
def yX3_length : MethodName := ⟨RX3, "length", "()I"⟩
abbrev cX3_steps : ByteArray := prog_5_method_3_code
def yX3_steps : MethodName := ⟨RX3, "steps", "()LSettingsVault$Steps;"⟩
abbrev cX3_clear : ByteArray := prog_5_method_4_code
def yX3_clear : MethodName := ⟨RX3, "clear", "()V"⟩
abbrev cX3_append : ByteArray := prog_5_method_5_code
def yX3_append : MethodName := ⟨RX3, "append", "(J)I"⟩
abbrev cX3_countCharacters : ByteArray := prog_5_method_6_code
def yX3_countCharacters : MethodName := ⟨RX3, "countCharacters", "(J)I"⟩
abbrev cX3_read : ByteArray := prog_5_method_7_code
def yX3_read : MethodName := ⟨RX3, "read", "()I"⟩
abbrev cX3_readStep : ByteArray := prog_5_method_8_code
def yX3_readStep : MethodName := ⟨RX3, "readStep", "()Z"⟩
abbrev cX3_readAdding : ByteArray := prog_5_method_9_code
def yX3_readAdding : MethodName := ⟨RX3, "readAdding", "()Z"⟩
abbrev cX3_readNewName : ByteArray := prog_5_method_10_code
def yX3_readNewName : MethodName := ⟨RX3, "readNewName", "(II)Z"⟩
abbrev cX3_readFactor : ByteArray := prog_5_method_11_code
def yX3_readFactor : MethodName := ⟨RX3, "readFactor", "(II)Z"⟩
abbrev cX3_readLimit : ByteArray := prog_5_method_12_code
def yX3_readLimit : MethodName := ⟨RX3, "readLimit", "(I)Z"⟩
abbrev cX3_readNumber : ByteArray := prog_5_method_13_code
def yX3_readNumber : MethodName := ⟨RX3, "readNumber", "()I"⟩
abbrev cX3_readName : ByteArray := prog_5_method_14_code
def yX3_readName : MethodName := ⟨RX3, "readName", "()I"⟩
abbrev cX3_readDigit : ByteArray := prog_5_method_15_code
def yX3_readDigit : MethodName := ⟨RX3, "readDigit", "(II)I"⟩
abbrev cX3_readSign : ByteArray := prog_5_method_16_code
def yX3_readSign : MethodName := ⟨RX3, "readSign", "(C)Z"⟩
abbrev cX3_readOffset : ByteArray := prog_5_method_17_code
def yX3_readOffset : MethodName := ⟨RX3, "readOffset", "(CII)I"⟩
def RX4 : String := "SettingsVault$Page"
def TX4 : u_T := fun k => match k with
  | 0 => ("SettingsVault$Page", "cells", "[I", true)
  | 1 => ("SettingsVault$Page", "writes", "I", false)
  | _ => ("SettingsVault$Page", "erasures", "I", false)
def tyX4 : Nat → FieldType := fun k => match k with
  | 0 => .array .int
  | 1 => .int
  | _ => .int
theorem nmX4 : ∀ a, a < 3 → ∀ b, b < 3 → a ≠ b → (TX4 a).2.1 ≠ (TX4 b).2.1 := by decide +kernel
theorem tyX4_ok : ∀ k, k < 3 → parseFieldDescriptor (TX4 k).2.2.1 = some (tyX4 k) := by decide +kernel
abbrev cX4_init : ByteArray := prog_6_method_1_code
def yX4_init : MethodName := ⟨RX4, "<init>", "()V"⟩
abbrev cX4_writes : ByteArray := prog_6_method_2_code
def yX4_writes : MethodName := ⟨RX4, "writes", "()I"⟩
abbrev cX4_erasures : ByteArray := prog_6_method_3_code
def yX4_erasures : MethodName := ⟨RX4, "erasures", "()I"⟩
abbrev cX4_copyFrom : ByteArray := prog_6_method_4_code
def yX4_copyFrom : MethodName := ⟨RX4, "copyFrom", "(LSettingsVault$Page;)V"⟩
abbrev cX4_erase : ByteArray := prog_6_method_5_code
def yX4_erase : MethodName := ⟨RX4, "erase", "()V"⟩
abbrev cX4_valueAt : ByteArray := prog_6_method_6_code
def yX4_valueAt : MethodName := ⟨RX4, "valueAt", "(I)I"⟩
abbrev cX4_replace : ByteArray := prog_6_method_7_code
def yX4_replace : MethodName := ⟨RX4, "replace", "(II)V"⟩
abbrev cX4_countWrite : ByteArray := prog_6_method_8_code
def yX4_countWrite : MethodName := ⟨RX4, "countWrite", "()V"⟩
abbrev cX4_countFilledCells : ByteArray := prog_6_method_9_code
def yX4_countFilledCells : MethodName := ⟨RX4, "countFilledCells", "()I"⟩
abbrev cX4_version : ByteArray := prog_6_method_10_code
def yX4_version : MethodName := ⟨RX4, "version", "()I"⟩
abbrev cX4_sequence : ByteArray := prog_6_method_11_code
def yX4_sequence : MethodName := ⟨RX4, "sequence", "()I"⟩
abbrev cX4_hasGoodHead : ByteArray := prog_6_method_12_code
def yX4_hasGoodHead : MethodName := ⟨RX4, "hasGoodHead", "(LSettingsVault$Layouts;)Z"⟩
abbrev cX4_hasRecordAt : ByteArray := prog_6_method_13_code
def yX4_hasRecordAt : MethodName := ⟨RX4, "hasRecordAt", "(I)Z"⟩
abbrev cX4_hasGoodRecordAt : ByteArray := prog_6_method_14_code
def yX4_hasGoodRecordAt : MethodName := ⟨RX4, "hasGoodRecordAt", "(ILSettingsVault$Layout;I)Z"⟩
abbrev cX4_nameAt : ByteArray := prog_6_method_15_code
def yX4_nameAt : MethodName := ⟨RX4, "nameAt", "(I)I"⟩
abbrev cX4_countRecords : ByteArray := prog_6_method_16_code
def yX4_countRecords : MethodName := ⟨RX4, "countRecords", "(LSettingsVault$Layouts;Z)I"⟩
abbrev cX4_hasThreeAt : ByteArray := prog_6_method_17_code
def yX4_hasThreeAt : MethodName := ⟨RX4, "hasThreeAt", "(I)Z"⟩
abbrev cX4_headCheck : ByteArray := prog_6_method_18_code
def yX4_headCheck : MethodName := ⟨RX4, "headCheck", "(II)I"⟩
abbrev cX4_recordCheck : ByteArray := prog_6_method_19_code
def yX4_recordCheck : MethodName := ⟨RX4, "recordCheck", "(III)I"⟩
def RX5 : String := "SettingsVault$Steps"
def TX5 : u_T := fun k => match k with
  | 0 => ("SettingsVault$Steps", "kinds", "[I", true)
  | 1 => ("SettingsVault$Steps", "names", "[I", true)
  | 2 => ("SettingsVault$Steps", "numbers", "[I", true)
  | 3 => ("SettingsVault$Steps", "defaults", "[I", true)
  | _ => ("SettingsVault$Steps", "count", "I", false)
def tyX5 : Nat → FieldType := fun k => match k with
  | 0 => .array .int
  | 1 => .array .int
  | 2 => .array .int
  | 3 => .array .int
  | _ => .int
theorem nmX5 : ∀ a, a < 5 → ∀ b, b < 5 → a ≠ b → (TX5 a).2.1 ≠ (TX5 b).2.1 := by decide +kernel
theorem tyX5_ok : ∀ k, k < 5 → parseFieldDescriptor (TX5 k).2.2.1 = some (tyX5 k) := by decide +kernel
abbrev cX5_init : ByteArray := prog_7_method_1_code
def yX5_init : MethodName := ⟨RX5, "<init>", "()V"⟩
abbrev cX5_clear : ByteArray := prog_7_method_2_code
def yX5_clear : MethodName := ⟨RX5, "clear", "()V"⟩
abbrev cX5_append : ByteArray := prog_7_method_3_code
def yX5_append : MethodName := ⟨RX5, "append", "(IIII)V"⟩
abbrev cX5_copyFrom : ByteArray := prog_7_method_4_code
def yX5_copyFrom : MethodName := ⟨RX5, "copyFrom", "(LSettingsVault$Steps;)V"⟩
abbrev cX5_applyTo : ByteArray := prog_7_method_5_code
def yX5_applyTo : MethodName := ⟨RX5, "applyTo", "(LSettingsVault$Layout;)Z"⟩
abbrev cX5_applyStep : ByteArray := prog_7_method_6_code
def yX5_applyStep : MethodName := ⟨RX5, "applyStep", "(LSettingsVault$Layout;IIII)Z"⟩
abbrev cX5_carryOver : ByteArray := prog_7_method_7_code
def yX5_carryOver : MethodName := ⟨RX5, "carryOver", "([I)V"⟩
abbrev cX5_scaled : ByteArray := prog_7_method_8_code
def yX5_scaled : MethodName := ⟨RX5, "scaled", "(III)I"⟩
def RX6 : String := "SettingsVault"
def TX6 : u_T := fun k => match k with
  | 0 => ("SettingsVault", "pad", "LSettingsVault$Pad;", true)
  | 1 => ("SettingsVault", "layouts", "LSettingsVault$Layouts;", true)
  | 2 => ("SettingsVault", "device", "LSettingsVault$Device;", true)
  | 3 => ("SettingsVault", "trial", "LSettingsVault$Device;", true)
  | 4 => ("SettingsVault", "images", "[LSettingsVault$Device;", true)
  | _ => ("SettingsVault", "kept", "[Z", true)
def tyX6 : Nat → FieldType := fun k => match k with
  | 0 => .object "SettingsVault$Pad"
  | 1 => .object "SettingsVault$Layouts"
  | 2 => .object "SettingsVault$Device"
  | 3 => .object "SettingsVault$Device"
  | 4 => .array (.object "SettingsVault$Device")
  | _ => .array .boolean
theorem nmX6 : ∀ a, a < 6 → ∀ b, b < 6 → a ≠ b → (TX6 a).2.1 ≠ (TX6 b).2.1 := by decide +kernel
theorem tyX6_ok : ∀ k, k < 6 → parseFieldDescriptor (TX6 k).2.2.1 = some (tyX6 k) := by decide +kernel
abbrev cX6_init : ByteArray := prog_1_method_1_code
def yX6_init : MethodName := ⟨RX6, "<init>", "()V"⟩
abbrev cX6_define : ByteArray := prog_1_method_2_code
def yX6_define : MethodName := ⟨RX6, "define", "()I"⟩
abbrev cX6_layout : ByteArray := prog_1_method_3_code
def yX6_layout : MethodName := ⟨RX6, "layout", "(III)I"⟩
abbrev cX6_fail : ByteArray := prog_1_method_4_code
def yX6_fail : MethodName := ⟨RX6, "fail", "(I)I"⟩
abbrev cX6_start : ByteArray := prog_1_method_5_code
def yX6_start : MethodName := ⟨RX6, "start", "()I"⟩
abbrev cX6_get : ByteArray := prog_1_method_6_code
def yX6_get : MethodName := ⟨RX6, "get", "(I)I"⟩
abbrev cX6_set : ByteArray := prog_1_method_7_code
def yX6_set : MethodName := ⟨RX6, "set", "(II)I"⟩
abbrev cX6_compact : ByteArray := prog_1_method_8_code
def yX6_compact : MethodName := ⟨RX6, "compact", "()I"⟩
abbrev cX6_migrate : ByteArray := prog_1_method_9_code
def yX6_migrate : MethodName := ⟨RX6, "migrate", "(I)I"⟩
abbrev cX6_factory : ByteArray := prog_1_method_10_code
def yX6_factory : MethodName := ⟨RX6, "factory", "(I)I"⟩
abbrev cX6_cell : ByteArray := prog_1_method_11_code
def yX6_cell : MethodName := ⟨RX6, "cell", "(II)I"⟩
abbrev cX6_spoil : ByteArray := prog_1_method_12_code
def yX6_spoil : MethodName := ⟨RX6, "spoil", "(III)I"⟩
abbrev cX6_page : ByteArray := prog_1_method_13_code
def yX6_page : MethodName := ⟨RX6, "page", "(II)I"⟩
abbrev cX6_state : ByteArray := prog_1_method_14_code
def yX6_state : MethodName := ⟨RX6, "state", "(I)I"⟩
abbrev cX6_record : ByteArray := prog_1_method_15_code
def yX6_record : MethodName := ⟨RX6, "record", "(I)I"⟩
abbrev cX6_ifMigrated : ByteArray := prog_1_method_16_code
def yX6_ifMigrated : MethodName := ⟨RX6, "ifMigrated", "(II)I"⟩
abbrev cX6_ifFailed : ByteArray := prog_1_method_17_code
def yX6_ifFailed : MethodName := ⟨RX6, "ifFailed", "(IIII)I"⟩
abbrev cX6_put : ByteArray := prog_1_method_18_code
def yX6_put : MethodName := ⟨RX6, "put", "(J)I"⟩
abbrev cX6_wipe : ByteArray := prog_1_method_19_code
def yX6_wipe : MethodName := ⟨RX6, "wipe", "()I"⟩
abbrev cX6_fault : ByteArray := prog_1_method_20_code
def yX6_fault : MethodName := ⟨RX6, "fault", "()I"⟩
abbrev cX6_keep : ByteArray := prog_1_method_21_code
def yX6_keep : MethodName := ⟨RX6, "keep", "(I)I"⟩
abbrev cX6_back : ByteArray := prog_1_method_22_code
def yX6_back : MethodName := ⟨RX6, "back", "(I)I"⟩
abbrev cX6_isPage : ByteArray := prog_1_method_23_code
def yX6_isPage : MethodName := ⟨RX6, "isPage", "(I)Z"⟩
abbrev cX6_isCell : ByteArray := prog_1_method_24_code
def yX6_isCell : MethodName := ⟨RX6, "isCell", "(II)Z"⟩
abbrev cX6_isImage : ByteArray := prog_1_method_25_code
def yX6_isImage : MethodName := ⟨RX6, "isImage", "(I)Z"⟩
abbrev cX6_isCountOfWrites : ByteArray := prog_1_method_26_code
def yX6_isCountOfWrites : MethodName := ⟨RX6, "isCountOfWrites", "(I)Z"⟩
abbrev cX6_isName : ByteArray := prog_1_method_27_code
def yX6_isName : MethodName := ⟨RX6, "isName", "(I)Z"⟩
def RX7 : String := "SettingsVaultModel"
def TX7 : u_T := fun k => match k with
  | 0 => ("SettingsVaultModel", "at", "[I", true)
  | 1 => ("SettingsVaultModel", "aside", "[I", true)
  | 2 => ("SettingsVaultModel", "images", "[I", true)
  | 3 => ("SettingsVaultModel", "isKept", "[Z", true)
  | 4 => ("SettingsVaultModel", "pad", "[I", true)
  | 5 => ("SettingsVaultModel", "padMany", "I", false)
  | 6 => ("SettingsVaultModel", "versions", "I", false)
  | 7 => ("SettingsVaultModel", "isThere", "[Z", true)
  | 8 => ("SettingsVaultModel", "greatest", "[I", true)
  | 9 => ("SettingsVaultModel", "usual", "[I", true)
  | 10 => ("SettingsVaultModel", "before", "[I", true)
  | 11 => ("SettingsVaultModel", "stepMany", "[I", true)
  | 12 => ("SettingsVaultModel", "stepKind", "[I", true)
  | 13 => ("SettingsVaultModel", "stepName", "[I", true)
  | 14 => ("SettingsVaultModel", "stepA", "[I", true)
  | 15 => ("SettingsVaultModel", "stepB", "[I", true)
  | 16 => ("SettingsVaultModel", "written", "I", false)
  | 17 => ("SettingsVaultModel", "goodMany", "I", false)
  | 18 => ("SettingsVaultModel", "badMany", "I", false)
  | 19 => ("SettingsVaultModel", "stopped", "I", false)
  | 20 => ("SettingsVaultModel", "then", "[I", true)
  | 21 => ("SettingsVaultModel", "recordOf", "[I", true)
  | 22 => ("SettingsVaultModel", "spot", "I", false)
  | 23 => ("SettingsVaultModel", "isWrong", "Z", false)
  | 24 => ("SettingsVaultModel", "readKind", "I", false)
  | 25 => ("SettingsVaultModel", "readName", "I", false)
  | 26 => ("SettingsVaultModel", "readA", "I", false)
  | _ => ("SettingsVaultModel", "readB", "I", false)
def tyX7 : Nat → FieldType := fun k => match k with
  | 0 => .array .int
  | 1 => .array .int
  | 2 => .array .int
  | 3 => .array .boolean
  | 4 => .array .int
  | 5 => .int
  | 6 => .int
  | 7 => .array .boolean
  | 8 => .array .int
  | 9 => .array .int
  | 10 => .array .int
  | 11 => .array .int
  | 12 => .array .int
  | 13 => .array .int
  | 14 => .array .int
  | 15 => .array .int
  | 16 => .int
  | 17 => .int
  | 18 => .int
  | 19 => .int
  | 20 => .array .int
  | 21 => .array .int
  | 22 => .int
  | 23 => .boolean
  | 24 => .int
  | 25 => .int
  | 26 => .int
  | _ => .int
theorem nmX7 : ∀ a, a < 28 → ∀ b, b < 28 → a ≠ b → (TX7 a).2.1 ≠ (TX7 b).2.1 := by decide +kernel
theorem tyX7_ok : ∀ k, k < 28 → parseFieldDescriptor (TX7 k).2.2.1 = some (tyX7 k) := by decide +kernel
abbrev cX7_init : ByteArray := prog_9_method_1_code
def yX7_init : MethodName := ⟨RX7, "<init>", "()V"⟩
abbrev cX7_in : ByteArray := prog_9_method_3_code
def yX7_in : MethodName := ⟨RX7, "in", "(III)Z"⟩
abbrev cX7_less : ByteArray := prog_9_method_4_code
def yX7_less : MethodName := ⟨RX7, "less", "(II)I"⟩
abbrev cX7_isVersion : ByteArray := prog_9_method_5_code
def yX7_isVersion : MethodName := ⟨RX7, "isVersion", "(I)Z"⟩
abbrev cX7_hasSetting : ByteArray := prog_9_method_6_code
def yX7_hasSetting : MethodName := ⟨RX7, "hasSetting", "(II)Z"⟩
abbrev cX7_changed : ByteArray := prog_9_method_7_code
def yX7_changed : MethodName := ⟨RX7, "changed", "(III)I"⟩
abbrev cX7_canDo : ByteArray := prog_9_method_8_code
def yX7_canDo : MethodName := ⟨RX7, "canDo", "(II)Z"⟩
abbrev cX7_doTo : ByteArray := prog_9_method_9_code
def yX7_doTo : MethodName := ⟨RX7, "doTo", "(II)V"⟩
abbrev cX7_copyLayout : ByteArray := prog_9_method_10_code
def yX7_copyLayout : MethodName := ⟨RX7, "copyLayout", "(I)V"⟩
abbrev cX7_define : ByteArray := prog_9_method_11_code
def yX7_define : MethodName := ⟨RX7, "define", "()I"⟩
abbrev cX7_layout : ByteArray := prog_9_method_12_code
def yX7_layout : MethodName := ⟨RX7, "layout", "(III)I"⟩
abbrev cX7_cellOf : ByteArray := prog_9_method_13_code
def yX7_cellOf : MethodName := ⟨RX7, "cellOf", "(II)I"⟩
abbrev cX7_write : ByteArray := prog_9_method_14_code
def yX7_write : MethodName := ⟨RX7, "write", "(III)V"⟩
abbrev cX7_erase : ByteArray := prog_9_method_15_code
def yX7_erase : MethodName := ⟨RX7, "erase", "(I)V"⟩
abbrev cX7_checkOfHead : ByteArray := prog_9_method_16_code
def yX7_checkOfHead : MethodName := ⟨RX7, "checkOfHead", "(II)I"⟩
abbrev cX7_checkOfRecord : ByteArray := prog_9_method_17_code
def yX7_checkOfRecord : MethodName := ⟨RX7, "checkOfRecord", "(III)I"⟩
abbrev cX7_writeRecord : ByteArray := prog_9_method_18_code
def yX7_writeRecord : MethodName := ⟨RX7, "writeRecord", "(IIIII)V"⟩
abbrev cX7_writeHead : ByteArray := prog_9_method_19_code
def yX7_writeHead : MethodName := ⟨RX7, "writeHead", "(III)V"⟩
abbrev cX7_fail : ByteArray := prog_9_method_20_code
def yX7_fail : MethodName := ⟨RX7, "fail", "(I)I"⟩
abbrev cX7_isHead : ByteArray := prog_9_method_21_code
def yX7_isHead : MethodName := ⟨RX7, "isHead", "(I)Z"⟩
abbrev cX7_isRecord : ByteArray := prog_9_method_22_code
def yX7_isRecord : MethodName := ⟨RX7, "isRecord", "(III)Z"⟩
abbrev cX7_goThrough : ByteArray := prog_9_method_23_code
def yX7_goThrough : MethodName := ⟨RX7, "goThrough", "(IIZ)V"⟩
abbrev cX7_layUsual : ByteArray := prog_9_method_24_code
def yX7_layUsual : MethodName := ⟨RX7, "layUsual", "(I)V"⟩
abbrev cX7_activeByHeads : ByteArray := prog_9_method_25_code
def yX7_activeByHeads : MethodName := ⟨RX7, "activeByHeads", "()I"⟩
abbrev cX7_start : ByteArray := prog_9_method_26_code
def yX7_start : MethodName := ⟨RX7, "start", "()I"⟩
abbrev cX7_isSetting : ByteArray := prog_9_method_27_code
def yX7_isSetting : MethodName := ⟨RX7, "isSetting", "(I)Z"⟩
abbrev cX7_get : ByteArray := prog_9_method_28_code
def yX7_get : MethodName := ⟨RX7, "get", "(I)I"⟩
abbrev cX7_layThen : ByteArray := prog_9_method_29_code
def yX7_layThen : MethodName := ⟨RX7, "layThen", "()V"⟩
abbrev cX7_fill : ByteArray := prog_9_method_30_code
def yX7_fill : MethodName := ⟨RX7, "fill", "(I)V"⟩
abbrev cX7_makeSet : ByteArray := prog_9_method_31_code
def yX7_makeSet : MethodName := ⟨RX7, "makeSet", "(II)V"⟩
abbrev cX7_isValue : ByteArray := prog_9_method_32_code
def yX7_isValue : MethodName := ⟨RX7, "isValue", "(II)Z"⟩
abbrev cX7_set : ByteArray := prog_9_method_33_code
def yX7_set : MethodName := ⟨RX7, "set", "(II)I"⟩
abbrev cX7_isIdle : ByteArray := prog_9_method_34_code
def yX7_isIdle : MethodName := ⟨RX7, "isIdle", "()Z"⟩
abbrev cX7_compact : ByteArray := prog_9_method_35_code
def yX7_compact : MethodName := ⟨RX7, "compact", "()I"⟩
abbrev cX7_doToValues : ByteArray := prog_9_method_36_code
def yX7_doToValues : MethodName := ⟨RX7, "doToValues", "(I)V"⟩
abbrev cX7_migrateTo : ByteArray := prog_9_method_37_code
def yX7_migrateTo : MethodName := ⟨RX7, "migrateTo", "(I)V"⟩
abbrev cX7_migrate : ByteArray := prog_9_method_38_code
def yX7_migrate : MethodName := ⟨RX7, "migrate", "(I)I"⟩
abbrev cX7_factory : ByteArray := prog_9_method_39_code
def yX7_factory : MethodName := ⟨RX7, "factory", "(I)I"⟩
abbrev cX7_isCell : ByteArray := prog_9_method_40_code
def yX7_isCell : MethodName := ⟨RX7, "isCell", "(II)Z"⟩
abbrev cX7_cell : ByteArray := prog_9_method_41_code
def yX7_cell : MethodName := ⟨RX7, "cell", "(II)I"⟩
abbrev cX7_spoil : ByteArray := prog_9_method_42_code
def yX7_spoil : MethodName := ⟨RX7, "spoil", "(III)I"⟩
abbrev cX7_cellsOf : ByteArray := prog_9_method_43_code
def yX7_cellsOf : MethodName := ⟨RX7, "cellsOf", "(I)I"⟩
abbrev cX7_recordsOf : ByteArray := prog_9_method_44_code
def yX7_recordsOf : MethodName := ⟨RX7, "recordsOf", "(IZ)I"⟩
abbrev cX7_page : ByteArray := prog_9_method_45_code
def yX7_page : MethodName := ⟨RX7, "page", "(II)I"⟩
abbrev cX7_settings : ByteArray := prog_9_method_46_code
def yX7_settings : MethodName := ⟨RX7, "settings", "(Z)I"⟩
abbrev cX7_state : ByteArray := prog_9_method_47_code
def yX7_state : MethodName := ⟨RX7, "state", "(I)I"⟩
abbrev cX7_record : ByteArray := prog_9_method_48_code
def yX7_record : MethodName := ⟨RX7, "record", "(I)I"⟩
abbrev cX7_ifMigrated : ByteArray := prog_9_method_49_code
def yX7_ifMigrated : MethodName := ⟨RX7, "ifMigrated", "(II)I"⟩
abbrev cX7_ifFailed : ByteArray := prog_9_method_50_code
def yX7_ifFailed : MethodName := ⟨RX7, "ifFailed", "(IIII)I"⟩
abbrev cX7_put : ByteArray := prog_9_method_51_code
def yX7_put : MethodName := ⟨RX7, "put", "(J)I"⟩
abbrev cX7_wipe : ByteArray := prog_9_method_52_code
def yX7_wipe : MethodName := ⟨RX7, "wipe", "()I"⟩
abbrev cX7_next : ByteArray := prog_9_method_53_code
def yX7_next : MethodName := ⟨RX7, "next", "()I"⟩
abbrev cX7_takeNumber : ByteArray := prog_9_method_54_code
def yX7_takeNumber : MethodName := ⟨RX7, "takeNumber", "()I"⟩
abbrev cX7_takeOne : ByteArray := prog_9_method_55_code
def yX7_takeOne : MethodName := ⟨RX7, "takeOne", "(II)I"⟩
abbrev cX7_takeChange : ByteArray := prog_9_method_56_code
def yX7_takeChange : MethodName := ⟨RX7, "takeChange", "()V"⟩
abbrev cX7_takeStep : ByteArray := prog_9_method_57_code
def yX7_takeStep : MethodName := ⟨RX7, "takeStep", "()V"⟩
abbrev cX7_layStep : ByteArray := prog_9_method_58_code
def yX7_layStep : MethodName := ⟨RX7, "layStep", "(I)V"⟩
abbrev cX7_read : ByteArray := prog_9_method_59_code
def yX7_read : MethodName := ⟨RX7, "read", "(I)I"⟩
abbrev cX7_fault : ByteArray := prog_9_method_60_code
def yX7_fault : MethodName := ⟨RX7, "fault", "()I"⟩
abbrev cX7_keep : ByteArray := prog_9_method_61_code
def yX7_keep : MethodName := ⟨RX7, "keep", "(I)I"⟩
abbrev cX7_back : ByteArray := prog_9_method_62_code
def yX7_back : MethodName := ⟨RX7, "back", "(I)I"⟩
def RJ9 : String := "java/lang/Math"
abbrev cJ9_floorMod_7cf53 : ByteArray := prog_10_method_50_code
def yJ9_floorMod_7cf53 : MethodName := ⟨RJ9, "floorMod", "(II)I"⟩
abbrev cJ9_min_7cf53 : ByteArray := prog_10_method_69_code
def yJ9_min_7cf53 : MethodName := ⟨RJ9, "min", "(II)I"⟩
def RJ10 : String := "java/lang/System"
def RL : String := "SettingsVaultLaw"
abbrev cL_law : ByteArray := code
def yL_law : MethodName := ⟨RL, "law", "([I)Z"⟩
abbrev vwCl : List vw_C := [(RX0, TX0, 14), (RX1, TX1, 5), (RX2, TX2, 3), (RX3, TX3, 4), (RX4, TX4, 3), (RX5, TX5, 5), (RX6, TX6, 6), (RX7, TX7, 28)]
end
section
-- the classes by their numbers: 0 .. 7 as in vwCl, 8 the law's, 9 Math
def pOl : List String := [RX0, RX1, RX2, RX3, RX4, RX5, RX6, RX7, RL, RJ9]
def pO (c : Nat) : String := pOl.getD c ""
-- the methods: bytes, locals, name, answer, class, kind (0 static, 1 of an object, 2 <init>), parameters, frames below, words below
abbrev pTy : Type := ByteArray × Nat × MethodName × Option FieldType × Nat × Nat × Nat × Nat × Nat
def pT0 : List pTy := [(cX0_init, 2, yX0_init, none, 0, 2, 1, 2, 41),
  (cX0_copyFrom, 2, yX0_copyFrom, none, 0, 1, 1, 2, 47),
  (cX0_isPowered, 1, yX0_isPowered, (some .boolean), 0, 1, 0, 0, 0),
  (cX0_isReady, 1, yX0_isReady, (some .boolean), 0, 1, 0, 0, 0),
  (cX0_writesLeft, 1, yX0_writesLeft, (some .int), 0, 1, 0, 0, 0),
  (cX0_active, 1, yX0_active, (some .int), 0, 1, 0, 0, 0),
  (cX0_version, 1, yX0_version, (some .int), 0, 1, 0, 0, 0),
  (cX0_sequence, 1, yX0_sequence, (some .int), 0, 1, 0, 0, 0),
  (cX0_badRecords, 1, yX0_badRecords, (some .int), 0, 1, 0, 0, 0),
  (cX0_pageOf, 2, yX0_pageOf, (some (.object "SettingsVault$Page")), 0, 1, 1, 0, 0),
  (cX0_presentLayout, 1, yX0_presentLayout, (some (.object "SettingsVault$Layout")), 0, 1, 0, 2, 42),
  (cX0_valueOf, 2, yX0_valueOf, (some .int), 0, 1, 1, 1, 20),
  (cX0_placeOf, 2, yX0_placeOf, (some .int), 0, 1, 1, 1, 20),
  (cX0_countRoom, 1, yX0_countRoom, (some .int), 0, 1, 0, 0, 0),
  (cX0_countSettings, 3, yX0_countSettings, (some .int), 0, 1, 0, 3, 62),
  (cX0_countChangedSettings, 3, yX0_countChangedSettings, (some .int), 0, 1, 0, 3, 62),
  (cX0_failBehind, 2, yX0_failBehind, none, 0, 1, 1, 0, 0),
  (cX0_restart, 1, yX0_restart, none, 0, 1, 0, 4, 89),
  (cX0_findActive, 4, yX0_findActive, (some .int), 0, 1, 0, 3, 63),
  (cX0_takeDefaults, 2, yX0_takeDefaults, none, 0, 1, 0, 3, 62),
  (cX0_readRecords, 4, yX0_readRecords, none, 0, 1, 1, 3, 66),
  (cX0_change, 4, yX0_change, (some .int), 0, 1, 2, 5, 125),
  (cX0_moveTo, 2, yX0_moveTo, (some .int), 0, 1, 1, 6, 133),
  (cX0_migratedValueOf, 3, yX0_migratedValueOf, (some .int), 0, 1, 2, 6, 133),
  (cX0_migrateValues, 2, yX0_migrateValues, none, 0, 1, 1, 5, 112),
  (cX0_reset, 3, yX0_reset, (some .int), 0, 1, 1, 4, 95),
  (cX0_fillOther, 9, yX0_fillOther, (some .int), 0, 1, 1, 4, 97),
  (cX0_writeRecord, 7, yX0_writeRecord, (some .int), 0, 1, 5, 3, 71),
  (cX0_writeHead, 5, yX0_writeHead, (some .int), 0, 1, 3, 3, 71),
  (cX0_writeThree, 7, yX0_writeThree, (some .int), 0, 1, 5, 2, 45),
  (cX0_writeCell, 4, yX0_writeCell, (some .int), 0, 1, 3, 1, 22),
  (cX1_init, 1, yX1_init, none, 1, 2, 0, 2, 40),
  (cX1_has, 2, yX1_has, (some .boolean), 1, 1, 1, 0, 0),
  (cX1_greatestOf, 2, yX1_greatestOf, (some .int), 1, 1, 1, 1, 21),
  (cX1_defaultOf, 2, yX1_defaultOf, (some .int), 1, 1, 1, 1, 21),
  (cX1_nameBefore, 2, yX1_nameBefore, (some .int), 1, 1, 1, 1, 21),
  (cX1_takes, 3, yX1_takes, (some .boolean), 1, 1, 2, 1, 21),
  (cX1_makeFrom, 4, yX1_makeFrom, (some .boolean), 1, 1, 2, 5, 112),
  (cX1_addSetting, 4, yX1_addSetting, (some .boolean), 1, 1, 3, 1, 20),
  (cX1_dropSetting, 2, yX1_dropSetting, (some .boolean), 1, 1, 1, 1, 21),
  (cX1_renameSetting, 3, yX1_renameSetting, (some .boolean), 1, 1, 2, 1, 21),
  (cX1_scaleSetting, 4, yX1_scaleSetting, (some .boolean), 1, 1, 3, 2, 43),
  (cX1_carryOver, 2, yX1_carryOver, none, 1, 1, 1, 3, 67),
  (cX2_init, 2, yX2_init, none, 2, 2, 0, 3, 60),
  (cX2_count, 1, yX2_count, (some .int), 2, 1, 0, 0, 0),
  (cX2_has, 2, yX2_has, (some .boolean), 2, 1, 1, 0, 0)]
def pT1 : List pTy := [(cX2_of, 2, yX2_of, (some (.object "SettingsVault$Layout")), 2, 1, 1, 1, 21),
  (cX2_extend, 2, yX2_extend, (some .boolean), 2, 1, 1, 6, 135),
  (cX2_carryOver, 5, yX2_carryOver, none, 2, 1, 3, 4, 88),
  (cX3_init, 1, yX3_init, none, 3, 2, 0, 2, 40),
  (cX3_length, 1, yX3_length, (some .int), 3, 1, 0, 0, 0),
  (cX3_steps, 1, yX3_steps, (some (.object "SettingsVault$Steps")), 3, 1, 0, 0, 0),
  (cX3_clear, 1, yX3_clear, none, 3, 1, 0, 0, 0),
  (cX3_append, 5, yX3_append, (some .int), 3, 1, 1, 1, 26),
  (cX3_countCharacters, 7, yX3_countCharacters, (some .int), 3, 0, 1, 0, 0),
  (cX3_read, 2, yX3_read, (some .int), 3, 1, 0, 5, 113),
  (cX3_readStep, 2, yX3_readStep, (some .boolean), 3, 1, 0, 4, 92),
  (cX3_readAdding, 4, yX3_readAdding, (some .boolean), 3, 1, 0, 3, 69),
  (cX3_readNewName, 4, yX3_readNewName, (some .boolean), 3, 1, 2, 2, 44),
  (cX3_readFactor, 4, yX3_readFactor, (some .boolean), 3, 1, 2, 2, 46),
  (cX3_readLimit, 3, yX3_readLimit, (some .boolean), 3, 1, 1, 3, 69),
  (cX3_readNumber, 4, yX3_readNumber, (some .int), 3, 1, 0, 2, 46),
  (cX3_readName, 1, yX3_readName, (some .int), 3, 1, 0, 1, 24),
  (cX3_readDigit, 3, yX3_readDigit, (some .int), 3, 1, 2, 1, 24),
  (cX3_readSign, 2, yX3_readSign, (some .boolean), 3, 1, 1, 1, 24),
  (cX3_readOffset, 5, yX3_readOffset, (some .int), 3, 1, 3, 0, 0),
  (cX4_init, 2, yX4_init, none, 4, 2, 0, 1, 20),
  (cX4_writes, 1, yX4_writes, (some .int), 4, 1, 0, 0, 0),
  (cX4_erasures, 1, yX4_erasures, (some .int), 4, 1, 0, 0, 0),
  (cX4_copyFrom, 2, yX4_copyFrom, none, 4, 1, 1, 1, 26),
  (cX4_erase, 2, yX4_erase, none, 4, 1, 0, 0, 0),
  (cX4_valueAt, 2, yX4_valueAt, (some .int), 4, 1, 1, 0, 0),
  (cX4_replace, 3, yX4_replace, none, 4, 1, 2, 0, 0),
  (cX4_countWrite, 1, yX4_countWrite, none, 4, 1, 0, 0, 0),
  (cX4_countFilledCells, 3, yX4_countFilledCells, (some .int), 4, 1, 0, 0, 0),
  (cX4_version, 1, yX4_version, (some .int), 4, 1, 0, 1, 21),
  (cX4_sequence, 1, yX4_sequence, (some .int), 4, 1, 0, 1, 21),
  (cX4_hasGoodHead, 2, yX4_hasGoodHead, (some .boolean), 4, 1, 1, 2, 42),
  (cX4_hasRecordAt, 2, yX4_hasRecordAt, (some .boolean), 4, 1, 1, 0, 0),
  (cX4_hasGoodRecordAt, 4, yX4_hasGoodRecordAt, (some .boolean), 4, 1, 3, 2, 43),
  (cX4_nameAt, 2, yX4_nameAt, (some .int), 4, 1, 1, 1, 21),
  (cX4_countRecords, 6, yX4_countRecords, (some .int), 4, 1, 2, 3, 66),
  (cX4_hasThreeAt, 2, yX4_hasThreeAt, (some .boolean), 4, 1, 1, 1, 21),
  (cX4_headCheck, 2, yX4_headCheck, (some .int), 4, 0, 2, 0, 0),
  (cX4_recordCheck, 3, yX4_recordCheck, (some .int), 4, 0, 3, 0, 0),
  (cX5_init, 1, yX5_init, none, 5, 2, 0, 1, 20),
  (cX5_clear, 1, yX5_clear, none, 5, 1, 0, 0, 0),
  (cX5_append, 5, yX5_append, none, 5, 1, 4, 0, 0),
  (cX5_copyFrom, 2, yX5_copyFrom, none, 5, 1, 1, 1, 26),
  (cX5_applyTo, 3, yX5_applyTo, (some .boolean), 5, 1, 1, 4, 90),
  (cX5_applyStep, 5, yX5_applyStep, (some .boolean), 5, 0, 5, 3, 66),
  (cX5_carryOver, 5, yX5_carryOver, none, 5, 1, 1, 2, 43)]
def pT2 : List pTy := [(cX5_scaled, 3, yX5_scaled, (some .int), 5, 0, 3, 1, 21),
  (cX6_init, 2, yX6_init, none, 6, 2, 0, 4, 81),
  (cX6_define, 1, yX6_define, (some .int), 6, 1, 0, 7, 156),
  (cX6_layout, 5, yX6_layout, (some .int), 6, 1, 3, 2, 42),
  (cX6_fail, 3, yX6_fail, (some .int), 6, 1, 1, 1, 21),
  (cX6_start, 1, yX6_start, (some .int), 6, 1, 0, 5, 109),
  (cX6_get, 2, yX6_get, (some .int), 6, 1, 1, 3, 62),
  (cX6_set, 3, yX6_set, (some .int), 6, 1, 2, 6, 148),
  (cX6_compact, 1, yX6_compact, (some .int), 6, 1, 0, 7, 154),
  (cX6_migrate, 2, yX6_migrate, (some .int), 6, 1, 1, 7, 154),
  (cX6_factory, 2, yX6_factory, (some .int), 6, 1, 1, 5, 117),
  (cX6_cell, 3, yX6_cell, (some .int), 6, 1, 2, 2, 41),
  (cX6_spoil, 5, yX6_spoil, (some .int), 6, 1, 3, 2, 41),
  (cX6_page, 4, yX6_page, (some .int), 6, 1, 2, 4, 91),
  (cX6_state, 2, yX6_state, (some .int), 6, 1, 1, 4, 84),
  (cX6_record, 2, yX6_record, (some .int), 6, 1, 1, 3, 62),
  (cX6_ifMigrated, 3, yX6_ifMigrated, (some .int), 6, 1, 2, 7, 155),
  (cX6_ifFailed, 6, yX6_ifFailed, (some .int), 6, 1, 4, 6, 148),
  (cX6_put, 3, yX6_put, (some .int), 6, 1, 1, 2, 50),
  (cX6_wipe, 2, yX6_wipe, (some .int), 6, 1, 0, 1, 20),
  (cX6_fault, 1, yX6_fault, (some .int), 6, 1, 0, 6, 134),
  (cX6_keep, 2, yX6_keep, (some .int), 6, 1, 1, 3, 68),
  (cX6_back, 2, yX6_back, (some .int), 6, 1, 1, 3, 68),
  (cX6_isPage, 1, yX6_isPage, (some .boolean), 6, 0, 1, 0, 0),
  (cX6_isCell, 2, yX6_isCell, (some .boolean), 6, 0, 2, 1, 20),
  (cX6_isImage, 1, yX6_isImage, (some .boolean), 6, 0, 1, 0, 0),
  (cX6_isCountOfWrites, 1, yX6_isCountOfWrites, (some .boolean), 6, 0, 1, 0, 0),
  (cX6_isName, 1, yX6_isName, (some .boolean), 6, 0, 1, 0, 0),
  (cX7_init, 2, yX7_init, none, 7, 2, 0, 1, 20),
  (cX7_in, 3, yX7_in, (some .boolean), 7, 0, 3, 0, 0),
  (cX7_less, 2, yX7_less, (some .int), 7, 0, 2, 0, 0),
  (cX7_isVersion, 2, yX7_isVersion, (some .boolean), 7, 1, 1, 0, 0),
  (cX7_hasSetting, 3, yX7_hasSetting, (some .boolean), 7, 1, 2, 1, 22),
  (cX7_changed, 3, yX7_changed, (some .int), 7, 0, 3, 1, 21),
  (cX7_canDo, 4, yX7_canDo, (some .boolean), 7, 1, 2, 2, 44),
  (cX7_doTo, 5, yX7_doTo, none, 7, 1, 2, 2, 43),
  (cX7_copyLayout, 4, yX7_copyLayout, none, 7, 1, 1, 0, 0),
  (cX7_define, 3, yX7_define, (some .int), 7, 1, 0, 5, 107),
  (cX7_layout, 5, yX7_layout, (some .int), 7, 1, 3, 2, 44),
  (cX7_cellOf, 3, yX7_cellOf, (some .int), 7, 1, 2, 0, 0),
  (cX7_write, 4, yX7_write, none, 7, 1, 3, 0, 0),
  (cX7_erase, 3, yX7_erase, none, 7, 1, 1, 0, 0),
  (cX7_checkOfHead, 2, yX7_checkOfHead, (some .int), 7, 0, 2, 0, 0),
  (cX7_checkOfRecord, 3, yX7_checkOfRecord, (some .int), 7, 0, 3, 0, 0),
  (cX7_writeRecord, 6, yX7_writeRecord, none, 7, 1, 5, 1, 23),
  (cX7_writeHead, 4, yX7_writeHead, none, 7, 1, 3, 1, 23)]
def pT3 : List pTy := [(cX7_fail, 3, yX7_fail, (some .int), 7, 1, 1, 1, 22),
  (cX7_isHead, 4, yX7_isHead, (some .boolean), 7, 1, 1, 1, 22),
  (cX7_isRecord, 7, yX7_isRecord, (some .boolean), 7, 1, 3, 2, 44),
  (cX7_goThrough, 4, yX7_goThrough, none, 7, 1, 3, 3, 70),
  (cX7_layUsual, 3, yX7_layUsual, none, 7, 1, 1, 0, 0),
  (cX7_activeByHeads, 2, yX7_activeByHeads, (some .int), 7, 1, 0, 2, 45),
  (cX7_start, 1, yX7_start, (some .int), 7, 1, 0, 4, 93),
  (cX7_isSetting, 2, yX7_isSetting, (some .boolean), 7, 1, 1, 2, 44),
  (cX7_get, 2, yX7_get, (some .int), 7, 1, 1, 3, 65),
  (cX7_layThen, 2, yX7_layThen, none, 7, 1, 0, 0, 0),
  (cX7_fill, 6, yX7_fill, none, 7, 1, 1, 2, 48),
  (cX7_makeSet, 3, yX7_makeSet, none, 7, 1, 2, 3, 73),
  (cX7_isValue, 3, yX7_isValue, (some .boolean), 7, 1, 2, 1, 22),
  (cX7_set, 3, yX7_set, (some .int), 7, 1, 2, 4, 95),
  (cX7_isIdle, 1, yX7_isIdle, (some .boolean), 7, 1, 0, 0, 0),
  (cX7_compact, 1, yX7_compact, (some .int), 7, 1, 0, 3, 73),
  (cX7_doToValues, 3, yX7_doToValues, none, 7, 1, 1, 2, 43),
  (cX7_migrateTo, 4, yX7_migrateTo, none, 7, 1, 1, 3, 65),
  (cX7_migrate, 2, yX7_migrate, (some .int), 7, 1, 1, 4, 88),
  (cX7_factory, 2, yX7_factory, (some .int), 7, 1, 1, 2, 46),
  (cX7_isCell, 2, yX7_isCell, (some .boolean), 7, 0, 2, 1, 22),
  (cX7_cell, 3, yX7_cell, (some .int), 7, 1, 2, 2, 43),
  (cX7_spoil, 5, yX7_spoil, (some .int), 7, 1, 3, 2, 43),
  (cX7_cellsOf, 4, yX7_cellsOf, (some .int), 7, 1, 1, 1, 22),
  (cX7_recordsOf, 3, yX7_recordsOf, (some .int), 7, 1, 2, 4, 93),
  (cX7_page, 3, yX7_page, (some .int), 7, 1, 2, 5, 115),
  (cX7_settings, 5, yX7_settings, (some .int), 7, 1, 1, 3, 65),
  (cX7_state, 2, yX7_state, (some .int), 7, 1, 1, 4, 89),
  (cX7_record, 2, yX7_record, (some .int), 7, 1, 1, 3, 65),
  (cX7_ifMigrated, 3, yX7_ifMigrated, (some .int), 7, 1, 2, 4, 88),
  (cX7_ifFailed, 8, yX7_ifFailed, (some .int), 7, 1, 4, 5, 113),
  (cX7_put, 7, yX7_put, (some .int), 7, 1, 1, 1, 22),
  (cX7_wipe, 2, yX7_wipe, (some .int), 7, 1, 0, 0, 0),
  (cX7_next, 1, yX7_next, (some .int), 7, 1, 0, 0, 0),
  (cX7_takeNumber, 2, yX7_takeNumber, (some .int), 7, 1, 0, 1, 22),
  (cX7_takeOne, 3, yX7_takeOne, (some .int), 7, 1, 2, 1, 22),
  (cX7_takeChange, 2, yX7_takeChange, none, 7, 1, 0, 2, 44),
  (cX7_takeStep, 2, yX7_takeStep, none, 7, 1, 0, 3, 65),
  (cX7_layStep, 3, yX7_layStep, none, 7, 1, 1, 0, 0),
  (cX7_read, 2, yX7_read, (some .int), 7, 1, 1, 4, 86),
  (cX7_fault, 1, yX7_fault, (some .int), 7, 1, 0, 5, 107),
  (cX7_keep, 3, yX7_keep, (some .int), 7, 1, 1, 1, 22),
  (cX7_back, 3, yX7_back, (some .int), 7, 1, 1, 1, 22),
  (cJ9_floorMod_7cf53, 3, yJ9_floorMod_7cf53, (some .int), 9, 0, 2, 0, 0),
  (cJ9_min_7cf53, 2, yJ9_min_7cf53, (some .int), 9, 0, 2, 0, 0),
  (cL_law, 4, yL_law, (some .boolean), 8, 0, 1, 8, 177)]
def pT : List pTy := pT0 ++ (pT1 ++ (pT2 ++ (pT3)))
def pD : pTy := (⟨#[]⟩, 0, ⟨"", "", ""⟩, none, 99, 0, 0, 0, 0)
def pB (m : Nat) : ByteArray := (pT.getD m pD).1
def pL (m : Nat) : Nat := (pT.getD m pD).2.1
def pY (m : Nat) : MethodName := (pT.getD m pD).2.2.1
def pR (m : Nat) : Option FieldType := (pT.getD m pD).2.2.2.1
def pC (m : Nat) : Nat := (pT.getD m pD).2.2.2.2.1
def pK (m : Nat) : Nat := (pT.getD m pD).2.2.2.2.2.1
def pN (m : Nat) : Nat := (pT.getD m pD).2.2.2.2.2.2.1
def pF (m : Nat) : Nat := (pT.getD m pD).2.2.2.2.2.2.2.1
def pW (m : Nat) : Nat := (pT.getD m pD).2.2.2.2.2.2.2.2
-- fields that an entry of a class links: (class, entry, the field's class, its place)
def fTl : List (Nat × Nat × Nat × Nat) := [(5, 9, 5, 0), (5, 15, 5, 1), (5, 18, 5, 2), (5, 21, 5, 3), (5, 24, 5, 4), (3, 9, 3, 0), (3, 18, 3, 1), (3, 22, 3, 2), (3, 36, 3, 3), (1, 9, 1, 0), (1, 15, 1, 1), (1, 19, 1, 2), (1, 22, 1, 3), (1, 28, 1, 4), (2, 12, 2, 0), (2, 18, 2, 1), (2, 22, 2, 2), (4, 9, 4, 0), (4, 15, 4, 1), (4, 19, 4, 2), (0, 54, 0, 0), (0, 12, 0, 1), (0, 18, 0, 2), (0, 21, 0, 3), (0, 25, 0, 4), (0, 29, 0, 5), (0, 32, 0, 6), (0, 35, 0, 7), (0, 38, 0, 8), (0, 62, 0, 9), (0, 41, 0, 10), (0, 45, 0, 11), (0, 48, 0, 12), (0, 51, 0, 13), (6, 10, 6, 0), (6, 19, 6, 1), (6, 28, 6, 2), (6, 32, 6, 3), (6, 35, 6, 4), (6, 39, 6, 5), (7, 7, 7, 0), (7, 13, 7, 1), (7, 16, 7, 2), (7, 19, 7, 3), (7, 23, 7, 4), (7, 94, 7, 5), (7, 59, 7, 6), (7, 26, 7, 7), (7, 29, 7, 8), (7, 32, 7, 9), (7, 35, 7, 10), (7, 38, 7, 11), (7, 41, 7, 12), (7, 44, 7, 13), (7, 47, 7, 14), (7, 50, 7, 15), (7, 101, 7, 16), (7, 117, 7, 17), (7, 120, 7, 18), (7, 123, 7, 19), (7, 53, 7, 20), (7, 56, 7, 21), (7, 197, 7, 22), (7, 200, 7, 23), (7, 213, 7, 24), (7, 210, 7, 25), (7, 219, 7, 26), (7, 222, 7, 27)]
def fL (c i : Nat) : Nat × Nat := match fTl.find? (fun q => q.1 == c && q.2.1 == i) with
  | some q => q.2.2
  | none => (99, 0)
-- methods that an entry of a class links: (class, entry, method, how: 0 virtual, 1 static, 2 <init>, 3 static of a nest mate, 4 <init> of a nest mate)
def mTl : List (Nat × Nat × Nat × Nat) := [(8, 9, 93, 2), (6, 9, 49, 4), (3, 17, 85, 4), (6, 18, 43, 2), (2, 11, 31, 4), (1, 27, 85, 4), (6, 25, 0, 2), (0, 11, 66, 2), (8, 13, 94, 0), (6, 43, 55, 0), (3, 39, 86, 0), (3, 42, 56, 0), (3, 46, 64, 0), (3, 84, 65, 0), (3, 50, 57, 0), (3, 57, 62, 0), (3, 68, 61, 0), (3, 75, 63, 0), (3, 79, 182, 1), (3, 71, 87, 0), (3, 53, 58, 0), (3, 61, 59, 0), (3, 64, 60, 0), (6, 47, 44, 0), (6, 50, 51, 0), (6, 54, 47, 0), (2, 30, 46, 0), (2, 26, 45, 0), (2, 34, 37, 0), (1, 36, 88, 0), (1, 40, 89, 0), (5, 34, 90, 1), (5, 38, 38, 0), (1, 44, 119, 3), (5, 44, 39, 0), (1, 32, 32, 0), (5, 48, 40, 0), (5, 52, 41, 0), (1, 47, 92, 1), (5, 62, 182, 1), (6, 58, 52, 0), (8, 18, 95, 0), (6, 61, 46, 0), (6, 65, 32, 0), (6, 71, 33, 0), (6, 75, 34, 0), (6, 78, 35, 0), (8, 23, 96, 0), (6, 81, 118, 1), (6, 84, 2, 0), (6, 88, 4, 0), (6, 91, 16, 0), (8, 28, 97, 0), (6, 95, 17, 0), (0, 94, 18, 0), (0, 112, 77, 0), (4, 32, 82, 0), (4, 28, 71, 0), (4, 36, 75, 0), (4, 40, 45, 0), (4, 45, 76, 0), (4, 48, 83, 1), (0, 104, 76, 0), (0, 116, 181, 1), (0, 98, 9, 0), (0, 102, 75, 0), (0, 106, 19, 0), (0, 81, 10, 0), (0, 71, 46, 0), (0, 90, 34, 0), (0, 109, 20, 0), (0, 122, 78, 0), (0, 125, 80, 0), (0, 77, 119, 3), (0, 128, 79, 0), (4, 52, 80, 0), (4, 55, 36, 0), (4, 61, 84, 1), (0, 132, 71, 0), (6, 98, 5, 0), (8, 32, 98, 0), (6, 101, 10, 0), (6, 105, 11, 0), (8, 36, 99, 0), (6, 108, 36, 0), (6, 112, 21, 0), (0, 135, 26, 0), (0, 150, 70, 0), (0, 85, 32, 0), (0, 138, 27, 0), (0, 157, 84, 1), (0, 161, 29, 0), (0, 167, 30, 0), (0, 170, 72, 0), (0, 174, 73, 0), (0, 153, 28, 0), (0, 164, 83, 1), (8, 41, 100, 0), (6, 116, 3, 0), (6, 119, 6, 0), (6, 122, 22, 0), (0, 142, 24, 0), (0, 146, 48, 0), (2, 38, 42, 0), (1, 51, 91, 0), (5, 55, 119, 3), (5, 58, 92, 1), (8, 45, 101, 0), (6, 125, 45, 0), (8, 49, 102, 0), (6, 126, 25, 0), (8, 53, 103, 0), (6, 129, 116, 1), (6, 145, 115, 1), (6, 132, 9, 0), (6, 136, 71, 0), (8, 57, 104, 0), (6, 141, 72, 0), (8, 61, 105, 0), (6, 148, 67, 0), (6, 151, 68, 0), (6, 154, 77, 0), (6, 158, 81, 0), (4, 65, 77, 0), (4, 69, 46, 0), (4, 73, 78, 0), (4, 76, 79, 0), (6, 162, 74, 0), (8, 65, 106, 0), (6, 165, 7, 0), (6, 168, 13, 0), (6, 171, 8, 0), (6, 174, 14, 0), (6, 177, 15, 0), (6, 180, 50, 0), (8, 69, 107, 0), (6, 183, 12, 0), (8, 73, 108, 0), (6, 186, 23, 0), (8, 77, 109, 0), (6, 189, 1, 0), (0, 58, 69, 0), (8, 84, 110, 0), (6, 193, 53, 0), (3, 26, 54, 1), (8, 89, 111, 0), (8, 93, 112, 0), (8, 97, 113, 0), (6, 197, 117, 1), (8, 101, 114, 0), (8, 12, 120, 2), (8, 17, 129, 0), (7, 79, 177, 0), (7, 228, 175, 0), (7, 204, 171, 0), (7, 225, 174, 0), (7, 207, 173, 0), (7, 63, 121, 1), (7, 216, 172, 0), (7, 231, 176, 0), (7, 83, 128, 0), (7, 87, 126, 0), (7, 71, 124, 0), (7, 90, 127, 0), (7, 75, 125, 1), (7, 67, 122, 1), (8, 22, 130, 0), (7, 97, 123, 0), (8, 27, 138, 0), (8, 31, 144, 0), (7, 132, 143, 0), (7, 129, 139, 0), (7, 114, 131, 0), (7, 111, 134, 1), (7, 136, 142, 0), (7, 139, 141, 0), (7, 126, 140, 0), (7, 108, 135, 1), (8, 35, 146, 0), (7, 143, 145, 0), (8, 40, 151, 0), (7, 162, 150, 0), (7, 165, 149, 0), (7, 156, 147, 0), (7, 159, 148, 0), (7, 146, 133, 0), (7, 149, 136, 0), (7, 104, 132, 0), (7, 153, 137, 0), (8, 44, 153, 0), (7, 168, 152, 0), (8, 48, 156, 0), (7, 175, 155, 0), (7, 172, 154, 0), (8, 52, 157, 0), (8, 56, 159, 0), (7, 178, 158, 1), (8, 60, 160, 0), (8, 64, 163, 0), (7, 181, 162, 0), (7, 185, 161, 0), (8, 68, 165, 0), (7, 188, 164, 0), (8, 72, 166, 0), (8, 76, 167, 0), (8, 81, 168, 0), (7, 192, 144, 0), (8, 88, 169, 0), (8, 92, 170, 0), (8, 96, 178, 0), (8, 100, 179, 0), (8, 104, 180, 0)]
def mL (c i : Nat) : Nat × Nat := match mTl.find? (fun q => q.1 == c && q.2.1 == i) with
  | some q => q.2.2
  | none => (999, 99)
-- entries that link Object.<init>, System.arraycopy, classes, long constants
def oTl : List (Nat × Nat) := [(6, 1), (3, 3), (5, 3), (2, 3), (1, 3), (0, 3), (4, 3), (7, 1)]
def aTl : List (Nat × Nat) := [(5, 28), (0, 65), (4, 22)]
def kTl : List (Nat × Nat × Nat) := [(8, 7, 6), (6, 7, 3), (3, 15, 5), (6, 16, 2), (2, 9, 1), (1, 25, 5), (6, 23, 0), (0, 9, 4), (8, 10, 7)]
def kL (c i : Nat) : Nat := match kTl.find? (fun q => q.1 == c && q.2.1 == i) with
  | some q => q.2.2
  | none => 99
def lTl : List (Nat × Nat × Int64) := [(3, 30, 255), (3, 32, 33), (3, 34, 126), (7, 195, 255), (8, 82, 4294967295)]
def lL (c i : Nat) : Option Int64 := match lTl.find? (fun q => q.1 == c && q.2.1 == i) with
  | some q => some q.2.2
  | none => none
def nTl : List (Nat × Nat × Nat) := [(6, 9, 49), (3, 17, 85), (2, 11, 31), (1, 27, 85), (1, 44, 119), (0, 77, 119), (5, 55, 119)]
def clC (c : Nat) : String := pO c
def clT (c : Nat) : u_T := match c with
  | 0 => TX0
  | 1 => TX1
  | 2 => TX2
  | 3 => TX3
  | 4 => TX4
  | 5 => TX5
  | 6 => TX6
  | _ => TX7
def clY (c : Nat) : Nat → FieldType := match c with
  | 0 => tyX0
  | 1 => tyX1
  | 2 => tyX2
  | 3 => tyX3
  | 4 => tyX4
  | 5 => tyX5
  | 6 => tyX6
  | _ => tyX7
def clN (c : Nat) : Nat := [14, 5, 3, 4, 3, 5, 6, 28].getD c 0
-- what a field holds: 0 an int, 1 a boolean, 2 a reference; whether it is final
def fTt : List (List Nat) := [[2, 2, 2, 1, 0, 0, 0, 0, 0, 0, 2, 2, 2, 2], [2, 2, 2, 2, 2], [2, 2, 0], [2, 2, 0, 0], [2, 0, 0], [2, 2, 2, 2, 0], [2, 2, 2, 2, 2, 2], [2, 2, 2, 2, 2, 0, 0, 2, 2, 2, 2, 2, 2, 2, 2, 2, 0, 0, 0, 0, 2, 2, 0, 1, 0, 0, 0, 0]]
def fFt : List (List Bool) := [[true, true, true, false, false, false, false, false, false, false, true, true, true, true], [true, true, true, true, true], [true, true, false], [true, true, false, false], [true, false, false], [true, true, true, true, false], [true, true, true, true, true, true], [true, true, true, true, true, false, false, true, true, true, true, true, true, true, true, true, false, false, false, false, true, true, false, false, false, false, false, false]]
def fT (c k : Nat) : Nat := (fTt.getD c []).getD k 9
def fF (c k : Nat) : Bool := (fFt.getD c []).getD k true
end
section
-- what the tables' words say of the program's tables: each by one decision over a list, by places
def tw : List Cond := lw_tbl.filter goodWord
theorem tw_sub : ∀ w ∈ tw, w ∈ lw_tbl := fun w h => (List.mem_filter.mp h).1
theorem tw_good : GoodIn lw_tbl tw := fun w h => ⟨(List.mem_filter.mp h).1, good_of_word (List.mem_filter.mp h).2⟩
theorem tw_self : GoodIn tw tw := fun w h => ⟨h, good_of_word (List.mem_filter.mp h).2⟩
/-- the word at a place of the tables, good -/
def wd_at (i : Nat) (w : Cond) : Bool := decide (lw_tbl[i]? = some w) && goodWord w
theorem wd_in {i : Nat} {w : Cond} (h : wd_at i w = true) : w ∈ tw := by
  unfold wd_at at h
  simp only [Bool.and_eq_true, decide_eq_true_eq] at h
  exact List.mem_filter.mpr ⟨List.mem_of_getElem? h.1, h.2⟩
def cPl : List Nat := [161, 686, 398, 553, 402, 491, 557, 642, 650, 450, 459, 500, 670, 646, 654, 658, 406, 414, 418, 455, 465, 509, 561, 678, 565, 592, 514, 523, 544, 528, 532, 125, 353, 379, 383, 387, 483, 324, 342, 349, 357, 361, 573, 119, 304, 320, 316, 312, 569, 76, 662, 308, 369, 699, 702, 249, 257, 269, 292, 296, 300, 277, 273, 281, 261, 265, 167, 617, 621, 690, 518, 430, 536, 540, 634, 434, 439, 422, 469, 478, 473, 626, 426, 442, 486, 82, 253, 288, 328, 335, 338, 577, 364, 68, 245, 373, 391, 410, 495, 504, 549, 583, 588, 596, 608, 613, 638, 666, 674, 682, 695, 709, 713, 717, 724, 602, 599, 720, 394, 345, 729, 842, 872, 880, 862, 869, 858, 866, 854, 819, 876, 900, 958, 950, 903, 918, 954, 962, 884, 896, 915, 911, 907, 892, 888, 926, 922, 942, 946, 938, 934, 930, 970, 966, 982, 978, 974, 986, 993, 990, 997, 1009, 1005, 1001, 1017, 1013, 1021, 1025, 1029, 1034, 1039, 831, 846, 839, 835, 827, 850, 823, 1043, 1047, 1051, 446, 284]
theorem wd_c0 : (List.range' 0 31).all (fun m => wd_at (cPl.getD m 0) (Cond.code (pY m) (pB m) (pL m) (pR m))) = true := by decide +kernel
theorem wd_c1 : (List.range' 31 31).all (fun m => wd_at (cPl.getD m 0) (Cond.code (pY m) (pB m) (pL m) (pR m))) = true := by decide +kernel
theorem wd_c2 : (List.range' 62 31).all (fun m => wd_at (cPl.getD m 0) (Cond.code (pY m) (pB m) (pL m) (pR m))) = true := by decide +kernel
theorem wd_c3 : (List.range' 93 31).all (fun m => wd_at (cPl.getD m 0) (Cond.code (pY m) (pB m) (pL m) (pR m))) = true := by decide +kernel
theorem wd_c4 : (List.range' 124 31).all (fun m => wd_at (cPl.getD m 0) (Cond.code (pY m) (pB m) (pL m) (pR m))) = true := by decide +kernel
theorem wd_c5 : (List.range' 155 28).all (fun m => wd_at (cPl.getD m 0) (Cond.code (pY m) (pB m) (pL m) (pR m))) = true := by decide +kernel
theorem wd_codes (m : Nat) (h : m < 183) : Cond.code (pY m) (pB m) (pL m) (pR m) ∈ tw := by
  by_cases h0 : m < 31
  · exact wd_in (List.all_eq_true.mp wd_c0 m (List.mem_range'_1.mpr ⟨by omega, by omega⟩))
  by_cases h31 : m < 62
  · exact wd_in (List.all_eq_true.mp wd_c1 m (List.mem_range'_1.mpr ⟨by omega, by omega⟩))
  by_cases h62 : m < 93
  · exact wd_in (List.all_eq_true.mp wd_c2 m (List.mem_range'_1.mpr ⟨by omega, by omega⟩))
  by_cases h93 : m < 124
  · exact wd_in (List.all_eq_true.mp wd_c3 m (List.mem_range'_1.mpr ⟨by omega, by omega⟩))
  by_cases h124 : m < 155
  · exact wd_in (List.all_eq_true.mp wd_c4 m (List.mem_range'_1.mpr ⟨by omega, by omega⟩))
  by_cases h155 : m < 183
  · exact wd_in (List.all_eq_true.mp wd_c5 m (List.mem_range'_1.mpr ⟨by omega, by omega⟩))
  omega
def wd_meth (q : pTy) : Bool := plainFor q.2.2.1 && decide (q.2.2.1.cls = pO q.2.2.2.2.1) && decide (q.2.2.1.cls ≠ "java/lang/invoke/MethodHandle") && decide (q.2.2.1.cls ≠ "java/lang/invoke/VarHandle") && decide ((parseMethodDescriptor q.2.2.1.desc).map (fun d => d.parameters.length) = some q.2.2.2.2.2.2.1) && decide (q.2.2.2.2.2.1 = 2 → q.2.2.1.name = "<init>" ∧ q.2.2.2.1 = none) && decide (q.2.2.2.2.1 < 10)
theorem wd_meths : pT.all wd_meth = true := by decide +kernel
def wd_ip : List (Nat × Nat) := [(0, 59), (1, 58), (2, 57), (3, 55), (4, 60), (5, 56), (6, 54), (7, 61), (8, 53), (9, 62)]
theorem wd_inits : wd_ip.all (fun q => wd_at q.2 (Cond.initialized (pO q.1))) = true := by decide +kernel
def wd_link (q : Nat × Nat × Nat × Nat) (p : Nat × Nat × Nat) : Bool := match q.2.2.2 with
  | 0 => wd_at p.1 (Cond.methodLink (pO q.1) q.2.1 (pY q.2.2.1)) && wd_at p.2.1 (Cond.instanceMethod (pY q.2.2.1)) && wd_at p.2.2 (Cond.selects (pY q.2.2.1).cls (pY q.2.2.1) (pY q.2.2.1)) && decide (pC q.2.2.1 < 8)
  | 1 => wd_at p.1 (Cond.methodLink (pO q.1) q.2.1 (pY q.2.2.1)) && wd_at p.2.1 (Cond.static (pY q.2.2.1))
  | 2 => wd_at p.1 (Cond.methodLink (pO q.1) q.2.1 (pY q.2.2.1)) && wd_at p.2.1 (Cond.instanceMethod (pY q.2.2.1)) && decide (pK q.2.2.1 = 2)
  | 3 => decide ((q.1, q.2.1, q.2.2.1) ∈ nTl) && wd_at p.2.1 (Cond.static (pY q.2.2.1))
  | 4 => decide ((q.1, q.2.1, q.2.2.1) ∈ nTl) && wd_at p.2.1 (Cond.instanceMethod (pY q.2.2.1)) && decide (pK q.2.2.1 = 2)
  | _ => false
def wd_pl : List (Nat × Nat × Nat) := [(66, 67, 0), (0, 75, 0), (0, 81, 0), (117, 118, 0), (0, 124, 0), (0, 81, 0), (159, 160, 0), (165, 166, 0), (242, 243, 244), (246, 247, 248), (250, 251, 252), (254, 256, 0), (258, 260, 1), (262, 264, 2), (266, 268, 3), (270, 272, 4), (274, 276, 5), (278, 280, 6), (282, 283, 0), (285, 286, 287), (289, 291, 7), (293, 295, 8), (297, 299, 9), (301, 302, 303), (305, 306, 307), (309, 310, 311), (313, 314, 315), (317, 318, 319), (321, 322, 323), (325, 326, 327), (332, 333, 334), (336, 337, 0), (339, 340, 341), (0, 344, 0), (346, 347, 348), (350, 351, 352), (354, 355, 356), (358, 359, 360), (362, 363, 0), (365, 283, 0), (366, 367, 368), (370, 371, 372), (374, 314, 315), (375, 351, 352), (376, 377, 378), (380, 381, 382), (384, 385, 386), (388, 389, 390), (392, 393, 0), (395, 396, 397), (399, 400, 401), (403, 404, 405), (407, 408, 409), (411, 412, 413), (415, 417, 10), (419, 420, 421), (423, 425, 11), (427, 428, 429), (431, 432, 433), (435, 318, 319), (436, 437, 438), (440, 441, 0), (443, 437, 438), (444, 445, 0), (447, 448, 449), (451, 432, 433), (452, 454, 12), (456, 457, 458), (460, 314, 315), (461, 381, 382), (462, 464, 13), (466, 467, 468), (470, 471, 472), (0, 344, 0), (475, 476, 477), (479, 471, 472), (480, 481, 482), (484, 485, 0), (487, 428, 429), (488, 489, 490), (492, 493, 494), (496, 457, 458), (497, 498, 499), (501, 502, 503), (505, 481, 482), (506, 507, 508), (511, 513, 14), (515, 516, 517), (519, 351, 352), (520, 522, 15), (524, 485, 0), (525, 527, 16), (529, 531, 17), (533, 534, 535), (537, 538, 539), (541, 543, 18), (545, 441, 0), (546, 547, 548), (550, 551, 552), (554, 555, 556), (558, 559, 560), (562, 564, 19), (566, 567, 568), (570, 571, 572), (574, 575, 576), (0, 344, 0), (579, 363, 0), (580, 581, 582), (584, 318, 319), (585, 586, 587), (589, 590, 591), (593, 594, 595), (597, 598, 0), (600, 601, 0), (603, 448, 449), (604, 428, 429), (605, 606, 607), (609, 534, 535), (610, 611, 612), (614, 615, 616), (618, 619, 620), (622, 420, 421), (623, 624, 625), (627, 420, 421), (628, 314, 315), (629, 467, 468), (630, 476, 477), (631, 632, 633), (635, 636, 637), (639, 640, 641), (643, 644, 645), (647, 648, 649), (651, 652, 653), (655, 656, 657), (659, 660, 661), (663, 664, 665), (667, 668, 669), (671, 672, 673), (675, 676, 677), (679, 680, 681), (683, 684, 685), (687, 688, 689), (692, 693, 694), (696, 697, 698), (700, 701, 0), (706, 707, 708), (710, 711, 712), (714, 715, 716), (718, 719, 0), (721, 722, 723), (727, 728, 0), (816, 817, 818), (820, 822, 20), (824, 826, 21), (828, 830, 22), (832, 834, 23), (836, 838, 24), (840, 841, 0), (843, 845, 25), (847, 849, 26), (851, 853, 27), (855, 857, 28), (859, 861, 29), (863, 865, 30), (867, 868, 0), (870, 871, 0), (873, 874, 875), (877, 879, 31), (881, 882, 883), (885, 886, 887), (889, 891, 32), (893, 895, 33), (897, 899, 34), (901, 902, 0), (904, 906, 35), (908, 910, 36), (912, 914, 37), (916, 917, 0), (919, 920, 921), (923, 925, 38), (927, 928, 929), (931, 933, 39), (935, 937, 40), (939, 941, 41), (943, 945, 42), (947, 949, 43), (951, 953, 44), (955, 957, 45), (959, 961, 46), (963, 964, 965), (967, 969, 47), (971, 972, 973), (975, 977, 48), (979, 981, 49), (983, 984, 985), (987, 988, 989), (991, 992, 0), (994, 995, 996), (998, 999, 1000), (1002, 1004, 50), (1006, 1008, 51), (1010, 1011, 1012), (1014, 1016, 52), (1018, 1019, 1020), (1022, 1023, 1024), (1026, 1027, 1028), (1030, 886, 887), (1031, 1032, 1033), (1036, 1037, 1038), (1040, 1041, 1042), (1044, 1045, 1046), (1048, 1049, 1050)]
theorem wd_l0 : ((mTl.zip wd_pl).drop 0 |>.take 40).all (fun q => wd_link q.1 q.2 && decide (q.1.2.2.1 < 183)) = true := by decide +kernel
theorem wd_l1 : ((mTl.zip wd_pl).drop 40 |>.take 40).all (fun q => wd_link q.1 q.2 && decide (q.1.2.2.1 < 183)) = true := by decide +kernel
theorem wd_l2 : ((mTl.zip wd_pl).drop 80 |>.take 40).all (fun q => wd_link q.1 q.2 && decide (q.1.2.2.1 < 183)) = true := by decide +kernel
theorem wd_l3 : ((mTl.zip wd_pl).drop 120 |>.take 40).all (fun q => wd_link q.1 q.2 && decide (q.1.2.2.1 < 183)) = true := by decide +kernel
theorem wd_l4 : ((mTl.zip wd_pl).drop 160 |>.take 40).all (fun q => wd_link q.1 q.2 && decide (q.1.2.2.1 < 183)) = true := by decide +kernel
theorem wd_l5 : ((mTl.zip wd_pl).drop 200 |>.take 40).all (fun q => wd_link q.1 q.2 && decide (q.1.2.2.1 < 183)) = true := by decide +kernel
theorem wd_links (q : Nat × Nat × Nat × Nat) (hq : q ∈ mTl) : ∃ p, wd_link q p = true ∧ q.2.2.1 < 183 := by
  obtain ⟨i, hi⟩ := List.getElem?_of_mem hq
  have hl : i < 212 := by 
    have := (List.getElem?_eq_some_iff.mp hi).1
    have e : mTl.length = 212 := by decide +kernel
    omega
  have hz : ∃ p, (mTl.zip wd_pl)[i]? = some (q, p) := by
    have e : wd_pl.length = 212 := by decide +kernel
    obtain ⟨p, hp⟩ : ∃ p, wd_pl[i]? = some p := ⟨wd_pl[i]'(by omega), List.getElem?_eq_getElem (by omega)⟩
    exact ⟨p, by rw [List.getElem?_zip_eq_some]; exact ⟨hi, hp⟩⟩
  obtain ⟨p, hp⟩ := hz
  have key : ∀ k, ((mTl.zip wd_pl).drop k |>.take 40).all (fun q => wd_link q.1 q.2 && decide (q.1.2.2.1 < 183)) = true → k ≤ i → i < k + 40 → wd_link q p = true ∧ q.2.2.1 < 183 := by
    intro k hk h1 h2
    have hm : (q, p) ∈ ((mTl.zip wd_pl).drop k |>.take 40) := by
      refine List.mem_of_getElem? (i := i - k) ?_
      rw [List.getElem?_take_of_lt (by omega), List.getElem?_drop, show k + (i - k) = i by omega]
      exact hp
    have h3 := List.all_eq_true.mp hk _ hm
    simp only [Bool.and_eq_true, decide_eq_true_eq] at h3
    exact h3
  refine ⟨p, ?_⟩
  by_cases h0 : i < 40
  · exact key 0 wd_l0 (by omega) h0
  by_cases h40 : i < 80
  · exact key 40 wd_l1 (by omega) h40
  by_cases h80 : i < 120
  · exact key 80 wd_l2 (by omega) h80
  by_cases h120 : i < 160
  · exact key 120 wd_l3 (by omega) h120
  by_cases h160 : i < 200
  · exact key 160 wd_l4 (by omega) h160
  by_cases h200 : i < 240
  · exact key 200 wd_l5 (by omega) h200
  omega
theorem wd_nests : nTl.all (fun q => decide (Cond.methodLinkNest (pO q.1) q.2.1 (pY q.2.2) "SettingsVault" ∈ lw_tbl)) = true := by decide +kernel
def wd_fp : List Nat := [84, 85, 86, 87, 88, 102, 103, 104, 105, 129, 130, 131, 132, 133, 147, 148, 149, 169, 170, 171, 179, 180, 181, 182, 183, 184, 185, 186, 187, 188, 189, 190, 191, 192, 223, 224, 225, 226, 227, 228, 731, 732, 733, 734, 735, 736, 737, 738, 739, 740, 741, 742, 743, 744, 745, 746, 747, 748, 749, 750, 751, 752, 753, 754, 755, 756, 757, 758]
theorem wd_fs : (fTl.zip wd_fp).all (fun z => match z with | (q, p) => wd_at p (Cond.fieldLink (pO q.1) q.2.1 (clC q.2.2.1) (clT q.2.2.1 q.2.2.2).2.1 (clT q.2.2.1 q.2.2.2).2.2.1) && decide (q.2.2.2 < clN q.2.2.1) && decide (q.2.2.1 < 8) && decide ((clT q.2.2.1 q.2.2.2).2.2.2 = fF q.2.2.1 q.2.2.2) && decide ((clT q.2.2.1 q.2.2.2).1 = clC q.2.2.1)) = true := by decide +kernel
theorem wd_fields (q : Nat × Nat × Nat × Nat) (hq : q ∈ fTl) : Cond.fieldLink (pO q.1) q.2.1 (clC q.2.2.1) (clT q.2.2.1 q.2.2.2).2.1 (clT q.2.2.1 q.2.2.2).2.2.1 ∈ tw ∧ q.2.2.2 < clN q.2.2.1 ∧ q.2.2.1 < 8 ∧ (clT q.2.2.1 q.2.2.2).2.2.2 = fF q.2.2.1 q.2.2.2 ∧ (clT q.2.2.1 q.2.2.2).1 = clC q.2.2.1 := by
  obtain ⟨i, hi⟩ := List.getElem?_of_mem hq
  have hl := (List.getElem?_eq_some_iff.mp hi).1
  have e1 : fTl.length = 68 := by decide +kernel
  have e2 : wd_fp.length = 68 := by decide +kernel
  obtain ⟨p, hp⟩ : ∃ p, wd_fp[i]? = some p := ⟨wd_fp[i]'(by omega), List.getElem?_eq_getElem (by omega)⟩
  have hm : (q, p) ∈ fTl.zip wd_fp := List.mem_of_getElem? (i := i) (by rw [List.getElem?_zip_eq_some]; exact ⟨hi, hp⟩)
  have h := List.all_eq_true.mp wd_fs _ hm
  simp only [Bool.and_eq_true, decide_eq_true_eq] at h
  exact ⟨wd_in h.1.1.1.1, h.1.1.1.2, h.1.1.2, h.1.2, h.2⟩
theorem wd_fieldT : (List.range 8).all (fun c => (List.range (clN c)).all fun k => decide (fT c k = (match clY c k with | .int => 0 | .boolean => 1 | .object _ => 2 | .array _ => 2 | _ => 7)) && decide (parseFieldDescriptor (clT c k).2.2.1 = some (clY c k)) && decide (fT c k < 3)) = true := by decide +kernel
theorem wd_names : (List.range 8).all (fun c => (List.range (clN c)).all fun a => (List.range (clN c)).all fun b => decide (a ≠ b → (clT c a).2.1 ≠ (clT c b).2.1)) = true := by decide +kernel
theorem wd_lays : (List.range 8).all (fun c => (u_ws (clC c) (clT c) (clN c)).all fun w => decide (w ∈ lw_tbl) && goodWord w) = true := by decide +kernel
theorem wd_class : (List.range 8).all (fun c => decide (Cond.instantiable (clC c) (clN c) ∈ lw_tbl) && goodWord (Cond.instantiable (clC c) (clN c)) && decide (Cond.initialized (clC c) ∈ lw_tbl) && goodWord (Cond.initialized (clC c))) = true := by decide +kernel
def wd_obj_p : List Nat := [69, 77, 83, 120, 126, 162, 168, 730]
theorem wd_obj_z : (oTl.zip wd_obj_p).all (fun z => match z with | (q, p) => wd_at p (Cond.methodLink (pO q.1) q.2 objectInit)) = true := by decide +kernel
theorem zip_all {α β : Type} {l : List α} {k : List β} {f : α × β → Bool} (h : (l.zip k).all f = true) (hl : l.length = k.length) (a : α) (ha : a ∈ l) : ∃ b, f (a, b) = true := by
  obtain ⟨i, hi⟩ := List.getElem?_of_mem ha
  have h1 := (List.getElem?_eq_some_iff.mp hi).1
  obtain ⟨p, hp⟩ : ∃ p, k[i]? = some p := ⟨k[i]'(by omega), List.getElem?_eq_getElem (by omega)⟩
  exact ⟨p, List.all_eq_true.mp h _ (List.mem_of_getElem? (i := i) (by rw [List.getElem?_zip_eq_some]; exact ⟨hi, hp⟩))⟩
theorem wd_obj (q : Nat × Nat) (h : q ∈ oTl) : Cond.methodLink (pO q.1) q.2 objectInit ∈ tw := by
  obtain ⟨p, hp⟩ := zip_all wd_obj_z (by decide +kernel) q h
  exact wd_in hp
theorem wd_obj2 : wd_at 70 (Cond.instanceMethod objectInit) = true ∧ wd_at 71 (Cond.code objectInit ⟨#[0xb1]⟩ 1 none) = true := by decide +kernel
def wd_copy_p : List Nat := [329, 510, 691]
theorem wd_copy_z : (aTl.zip wd_copy_p).all (fun z => match z with | (q, p) => wd_at p (Cond.methodLink (pO q.1) q.2 arraycopyName)) = true := by decide +kernel
theorem wd_copy (q : Nat × Nat) (h : q ∈ aTl) : Cond.methodLink (pO q.1) q.2 arraycopyName ∈ tw := by
  obtain ⟨p, hp⟩ := zip_all wd_copy_z (by decide +kernel) q h
  exact wd_in hp
theorem wd_copy2 : wd_at 331 (Cond.native arraycopyName) = true ∧ wd_at 330 (Cond.static arraycopyName) = true ∧ wd_at 63 (Cond.initialized "java/lang/System") = true := by decide +kernel
def wd_kl_p : List Nat := [64, 72, 78, 115, 121, 127, 157, 163, 725]
theorem wd_kl_z : (kTl.zip wd_kl_p).all (fun z => match z with | (q, p) => wd_at p (Cond.classLink (pO q.1) q.2.1 (clC q.2.2)) && decide (q.2.2 < 8)) = true := by decide +kernel
theorem wd_kl (q : Nat × Nat × Nat) (h : q ∈ kTl) : Cond.classLink (pO q.1) q.2.1 (clC q.2.2) ∈ tw ∧ q.2.2 < 8 := by
  obtain ⟨p, hp⟩ := zip_all wd_kl_z (by decide +kernel) q h
  simp only [Bool.and_eq_true, decide_eq_true_eq] at hp
  exact ⟨wd_in hp.1, hp.2⟩
theorem wd_arr : wd_at 101 (Cond.arrayClass .int) = true ∧ wd_at 145 (Cond.arrayClass .boolean) = true ∧ wd_at 100 (Cond.arrayClass .char) = true ∧ lw_tbl[146]? = some (Cond.arrayOver (.object RX1)) ∧ lw_tbl[222]? = some (Cond.arrayOver (.object RX0)) := by decide +kernel
def wd_long_p : List Nat := [703, 704, 705, 1035, 1052]
theorem wd_long_z : (lTl.zip wd_long_p).all (fun z => match z with | (q, p) => wd_at p (Cond.constantLong (pO q.1) q.2.1 q.2.2)) = true := by decide +kernel
theorem wd_long (q : Nat × Nat × Int64) (h : q ∈ lTl) : Cond.constantLong (pO q.1) q.2.1 q.2.2 ∈ tw := by
  obtain ⟨p, hp⟩ := zip_all wd_long_z (by decide +kernel) q h
  exact wd_in hp
end
section
/-! ===== a small machine over plain numbers: locals, stack, and a heap of ints and references by numbers of objects ===== -/
/-- the objects: how many there are (the script is the object 0), how many slots were made, each one's kind and length, its references -/
abbrev Gt : Type := Nat × Nat × (Nat → Nat × Nat) × (Nat → Nat → Option Nat)
/-- what the objects hold of ints -/
abbrev It : Type := Nat → Nat → Int32
/-- method, pc, locals, stack, objects, ints -/
abbrev Cf : Type := Nat × Nat × List (Option Value) × List Value × Gt × It
abbrev Rs : Type := Option Value × Gt × It
/-- an end (or nothing), one step on, or a call and where it goes on -/
abbrev Sr : Type := Option Rs ⊕ (Cf ⊕ (Cf × Nat × Nat × List (Option Value) × List Value))
/-- kinds: a class's number; 50 int[], 51 boolean[], 52 char[], 53 Layout[], 54 Device[], 60 the script, 99 nothing -/
def kd (G : Gt) (o : Nat) : Nat := if o = 0 then 60 else if o < G.1 then (G.2.2.1 o).1 else 99
def ln (G : Gt) (o : Nat) : Nat := (G.2.2.1 o).2
def rf (G : Gt) (o k : Nat) : Option Nat := G.2.2.2 o k
def uI (I : It) (o k : Nat) (x : Int32) : It := fun a j => if a = o then (if j = k then x else I a j) else I a j
def uG (G : Gt) (o k r : Nat) : Gt := (G.1, G.2.1, G.2.2.1, fun a j => if a = o then (if j = k then some r else G.2.2.2 a j) else G.2.2.2 a j)
def nG (G : Gt) (kk len : Nat) : Gt := (G.1 + 1, G.2.1 + len, fun a => if a = G.1 then (kk, len) else G.2.2.1 a, fun a j => if a = G.1 then none else G.2.2.2 a j)
def nI0 (G : Gt) (I : It) : It := fun a j => if a = G.1 then 0 else I a j
def cpI (I : It) (a0 a1 sp dp n : Nat) : It := fun a j => if a = a1 then va_cpy (I a0) (I a1) sp dp n j else I a j
def inb (i : Int32) (n : Nat) : Bool := decide (0 ≤ i.toInt) && decide (i.toInt < (n : Int))
def ix (i : Int32) : Nat := i.toNatClampNeg
def b01 (x : Int32) : Bool := decide (x = 0) || decide (x = 1)
def cats (st : List Value) : Nat := (st.map fun v => v.category).sum
/-- locals: nothing is stored behind a long's first half -/
def isJ (x : Option (Option Value)) : Bool := match x with
  | some (some v) => decide (v.category = 2)
  | _ => false
def sL (ls : List (Option Value)) (i : Nat) (v : Value) : Option (List (Option Value)) :=
  match decide (i < ls.length) && (decide (i = 0) || !isJ ls[i - 1]?) with
  | true => some (ls.set i (some v))
  | false => none
def sL2 (ls : List (Option Value)) (i : Nat) (v : Value) : Option (List (Option Value)) :=
  match decide (i + 1 < ls.length) && (decide (i = 0) || !isJ ls[i - 1]?) && !isJ ls[i + 1]? with
  | true => some ((ls.set i (some v)).set (i + 1) none)
  | false => none
def aL : List Value → List (Option Value)
  | [] => []
  | .long x :: vs => some (.long x) :: none :: aL vs
  | .double x :: vs => some (.double x) :: none :: aL vs
  | v :: vs => some v :: aL vs
def eL (n : Nat) (vs : List Value) : List (Option Value) := aL vs ++ List.replicate (n - (aL vs).length) none
/-- lengths of the instructions that this machine knows -/
def ilen (i : Instr) : Nat := match i with
  | .aaload | .aastore | .aload_n _ | .areturn | .arraylength | .astore_n _ | .baload | .bastore | .caload | .castore | .dup | .dup2 | .i2c | .i2l | .iadd | .iaload | .iand | .iastore | .iconst _ | .idiv | .iload_n _ | .imul | .irem | .ireturn | .istore_n _ | .isub | .ixor | .l2i | .land | .lcmp | .lconst _ | .lload_n _ | .lor | .lshl | .lshr | .lstore_n _ | .lushr | .pop | .return_ => 1
  | .aload _ | .astore _ | .bipush _ | .iload _ | .istore _ | .lload _ | .lstore _ | .newarray _ => 2
  | .anewarray _ | .getfield _ | .goto _ | .if_icmp _ _ | .ifCond _ _ | .iinc _ _ | .invokespecial _ | .invokestatic _ | .invokevirtual _ | .ldc2_w _ | .new _ | .putfield _ | .sipush _ => 3
  | _ => 0
def go (m pc : Nat) (ls : List (Option Value)) (st : List Value) (G : Gt) (I : It) : Sr := .inr (.inl (m, pc, ls, st, G, I))
def no : Sr := .inl none
def gd (c : Bool) (s : Sr) : Sr := match c with | true => s | false => no
def ldI (o : Option (Option Value)) (m pc : Nat) (ls : List (Option Value)) (st : List Value) (G : Gt) (I : It) : Sr := match o with
  | some (some (.int x)) => go m pc ls (.int x :: st) G I
  | _ => no
def ldJ (o : Option (Option Value)) (m pc : Nat) (ls : List (Option Value)) (st : List Value) (G : Gt) (I : It) : Sr := match o with
  | some (some (.long x)) => go m pc ls (.long x :: st) G I
  | _ => no
def ldA (o : Option (Option Value)) (m pc : Nat) (ls : List (Option Value)) (st : List Value) (G : Gt) (I : It) : Sr := match o with
  | some (some (.ref x)) => go m pc ls (.ref x :: st) G I
  | _ => no
def stI (i m pc : Nat) (ls : List (Option Value)) (st : List Value) (G : Gt) (I : It) : Sr := match st with
  | .int x :: rest => match sL ls i (.int x) with
    | some ls' => go m pc ls' rest G I
    | none => no
  | _ => no
def stA (i m pc : Nat) (ls : List (Option Value)) (st : List Value) (G : Gt) (I : It) : Sr := match st with
  | .ref x :: rest => match sL ls i (.ref x) with
    | some ls' => go m pc ls' rest G I
    | none => no
  | _ => no
def stJ (i m pc : Nat) (ls : List (Option Value)) (st : List Value) (G : Gt) (I : It) : Sr := match st with
  | .long x :: rest => match sL2 ls i (.long x) with
    | some ls' => go m pc ls' rest G I
    | none => no
  | _ => no
def tg (pc : Nat) (off : Int) : Nat := ((pc : Int) + off).toNat
def tgok (pc : Nat) (off : Int) : Bool := decide (0 ≤ (pc : Int) + off)
def c0 (c : Jvm.ClassFile.Cond) (x : Int32) : Bool := match c with
  | .eq => decide (x = 0) | .ne => !decide (x = 0) | .lt => decide (x < 0) | .ge => decide (0 ≤ x) | .gt => decide (0 < x) | .le => decide (x ≤ 0)
def c2 (c : Jvm.ClassFile.Cond) (x y : Int32) : Bool := match c with
  | .eq => decide (x = y) | .ne => !decide (x = y) | .lt => decide (x < y) | .ge => decide (y ≤ x) | .gt => decide (y < x) | .le => decide (x ≤ y)
def br (c : Bool) (m pc : Nat) (off : Int) (ls : List (Option Value)) (st : List Value) (G : Gt) (I : It) : Sr :=
  gd (tgok pc off) (match c with | true => go m (tg pc off) ls st G I | false => go m (pc + 3) ls st G I)
/-- what a field's kind takes -/
def pf (m o ci k : Nat) (pc : Nat) (ls : List (Option Value)) (v : Value) (st : List Value) (G : Gt) (I : It) : Sr := match fT ci k, v with
  | 0, .int x => go m pc ls st G (uI I o k x)
  | 1, .int x => gd (b01 x) (go m pc ls st G (uI I o k x))
  | 2, .ref r => go m pc ls st (uG G o k r) I
  | _, _ => no
def gf (G : Gt) (I : It) (ci o k : Nat) : Value := if fT ci k = 2 then va_rf (rf G o k) else .int (I o k)
def akd (a : ArrayType) : Nat := match a with | .int => 50 | .boolean => 51 | .char => 52 | _ => 99
/-- a call: the arguments are taken off, the rest is small, the room is there -/
def cal (m m' pc : Nat) (vs : List Value) (ls : List (Option Value)) (rest : List Value) (G : Gt) (I : It) : Sr :=
  gd (decide (cats rest ≤ 8) && (decide (pF m' + 1 ≤ pF m) && decide (8 + (pL m' + 11) + pW m' ≤ pW m) && decide ((aL vs).length ≤ pL m'))) (.inr (.inr ((m', 0, eL (pL m') vs, [], G, I), m, pc + 3, ls, rest)))
def rtI (m : Nat) (v : Int32) : Bool := decide (pR m = some .int) || (decide (pR m = some .boolean) && b01 v)
def rtA (m : Nat) : Bool := match pR m with | some (.object _) => true | some (.array _) => true | _ => false
def opc : List (Nat × Nat) := oTl
def sdi (i : Instr) (m pc : Nat) (ls : List (Option Value)) (st : List Value) (G : Gt) (I : It) : Sr := match i with
  | .iconst n => go m (pc + 1) ls (.int (Int32.ofInt n) :: st) G I
  | .bipush n => go m (pc + 2) ls (.int ((Int8.ofInt n).toInt32) :: st) G I
  | .sipush n => go m (pc + 3) ls (.int ((Int16.ofInt n).toInt32) :: st) G I
  | .lconst n => go m (pc + 1) ls (.long (Int64.ofNat (n : Nat)) :: st) G I
  | .ldc2_w k => match lL (pC m) k with
    | some v => go m (pc + 3) ls (.long v :: st) G I
    | none => no
  | .iload_n k => ldI ls[(k : Nat)]? m (pc + 1) ls st G I
  | .iload k => ldI ls[k]? m (pc + 2) ls st G I
  | .lload_n k => ldJ ls[(k : Nat)]? m (pc + 1) ls st G I
  | .lload k => ldJ ls[k]? m (pc + 2) ls st G I
  | .aload_n k => ldA ls[(k : Nat)]? m (pc + 1) ls st G I
  | .aload k => ldA ls[k]? m (pc + 2) ls st G I
  | .istore_n k => stI k m (pc + 1) ls st G I
  | .istore k => stI k m (pc + 2) ls st G I
  | .lstore_n k => stJ k m (pc + 1) ls st G I
  | .lstore k => stJ k m (pc + 2) ls st G I
  | .astore_n k => stA k m (pc + 1) ls st G I
  | .astore k => stA k m (pc + 2) ls st G I
  | .iinc k n => match ls[k]? with
    | some (some (.int x)) => match sL ls k (.int (x + Int32.ofInt n)) with
      | some ls' => go m (pc + 3) ls' st G I
      | none => no
    | _ => no
  | .iadd => match st with | .int y :: .int x :: r => go m (pc + 1) ls (.int (x + y) :: r) G I | _ => no
  | .isub => match st with | .int y :: .int x :: r => go m (pc + 1) ls (.int (x - y) :: r) G I | _ => no
  | .imul => match st with | .int y :: .int x :: r => go m (pc + 1) ls (.int (x * y) :: r) G I | _ => no
  | .iand => match st with | .int y :: .int x :: r => go m (pc + 1) ls (.int (x &&& y) :: r) G I | _ => no
  | .ixor => match st with | .int y :: .int x :: r => go m (pc + 1) ls (.int (x ^^^ y) :: r) G I | _ => no
  | .idiv => match st with | .int y :: .int x :: r => gd (!decide (y = 0)) (go m (pc + 1) ls (.int (x / y) :: r) G I) | _ => no
  | .irem => match st with | .int y :: .int x :: r => gd (!decide (y = 0)) (go m (pc + 1) ls (.int (x - x / y * y) :: r) G I) | _ => no
  | .land => match st with | .long y :: .long x :: r => go m (pc + 1) ls (.long (x &&& y) :: r) G I | _ => no
  | .lor => match st with | .long y :: .long x :: r => go m (pc + 1) ls (.long (x ||| y) :: r) G I | _ => no
  | .lshl => match st with | .int y :: .long x :: r => go m (pc + 1) ls (.long (x <<< (y.toInt64 &&& 63)) :: r) G I | _ => no
  | .lshr => match st with | .int y :: .long x :: r => go m (pc + 1) ls (.long (x >>> (y.toInt64 &&& 63)) :: r) G I | _ => no
  | .lushr => match st with | .int y :: .long x :: r => go m (pc + 1) ls (.long ((x.toUInt64 >>> (y.toInt64.toUInt64 &&& Int64.toUInt64 63)).toInt64) :: r) G I | _ => no
  | .lcmp => match st with | .long y :: .long x :: r => go m (pc + 1) ls (.int (lg_cmp x y) :: r) G I | _ => no
  | .i2l => match st with | .int x :: r => go m (pc + 1) ls (.long x.toInt64 :: r) G I | _ => no
  | .l2i => match st with | .long x :: r => go m (pc + 1) ls (.int x.toInt32 :: r) G I | _ => no
  | .i2c => match st with | .int x :: r => go m (pc + 1) ls (.int (x.toUInt32 % 65536).toInt32 :: r) G I | _ => no
  | .dup => match st with | .int x :: r => go m (pc + 1) ls (.int x :: .int x :: r) G I | .ref x :: r => go m (pc + 1) ls (.ref x :: .ref x :: r) G I | _ => no
  | .dup2 => match st with | .int x :: .ref y :: r => go m (pc + 1) ls (.int x :: .ref y :: .int x :: .ref y :: r) G I | _ => no
  | .pop => match st with | .int _ :: r => go m (pc + 1) ls r G I | _ => no
  | .goto off => gd (tgok pc off) (go m (tg pc off) ls st G I)
  | .ifCond c off => match st with | .int x :: r => br (c0 c x) m pc off ls r G I | _ => no
  | .if_icmp c off => match st with | .int y :: .int x :: r => br (c2 c x y) m pc off ls r G I | _ => no
  | .tableswitch d lo hi offs => match st with
    | .int x :: r => if x.toInt < lo ∨ hi < x.toInt then gd (tgok pc d) (go m (tg pc d) ls r G I) else match offs[(x.toInt - lo).toNat]? with
      | some off => gd (tgok pc off) (go m (tg pc off) ls r G I)
      | none => no
    | _ => no
  | .arraylength => match st with
    | .ref a :: r => gd ((decide (50 ≤ kd G a) && decide (kd G a ≤ 54)) || decide (a = 0)) (go m (pc + 1) ls (.int (Int32.ofNat (ln G a)) :: r) G I)
    | _ => no
  | .iaload => match st with
    | .int i :: .ref a :: r => gd ((decide (kd G a = 50) || decide (a = 0)) && inb i (ln G a)) (go m (pc + 1) ls (.int (I a (ix i)) :: r) G I)
    | _ => no
  | .baload => match st with
    | .int i :: .ref a :: r => gd (decide (kd G a = 51) && inb i (ln G a)) (go m (pc + 1) ls (.int (I a (ix i)) :: r) G I)
    | _ => no
  | .caload => match st with
    | .int i :: .ref a :: r => gd (decide (kd G a = 52) && inb i (ln G a)) (go m (pc + 1) ls (.int (I a (ix i)) :: r) G I)
    | _ => no
  | .aaload => match st with
    | .int i :: .ref a :: r => gd ((decide (kd G a = 53) || decide (kd G a = 54)) && inb i (ln G a)) (go m (pc + 1) ls (va_rf (rf G a (ix i)) :: r) G I)
    | _ => no
  | .iastore => match st with
    | .int x :: .int i :: .ref a :: r => gd (decide (kd G a = 50) && inb i (ln G a)) (go m (pc + 1) ls r G (uI I a (ix i) x))
    | _ => no
  | .bastore => match st with
    | .int x :: .int i :: .ref a :: r => gd (decide (kd G a = 51) && inb i (ln G a) && b01 x) (go m (pc + 1) ls r G (uI I a (ix i) x))
    | _ => no
  | .castore => match st with
    | .int x :: .int i :: .ref a :: r => gd (decide (kd G a = 52) && inb i (ln G a) && decide (0 ≤ x.toInt ∧ x.toInt ≤ 65535)) (go m (pc + 1) ls r G (uI I a (ix i) x))
    | _ => no
  | .aastore => match st with
    | .ref x :: .int i :: .ref a :: r => gd (((decide (kd G a = 53) && decide (kd G x = 1)) || (decide (kd G a = 54) && decide (kd G x = 0))) && inb i (ln G a)) (go m (pc + 1) ls r (uG G a (ix i) x) I)
    | _ => no
  | .getfield k => match st with
    | .ref o :: r => gd (decide (kd G o = (fL (pC m) k).1) && decide ((fL (pC m) k).1 < 8)) (go m (pc + 3) ls (gf G I (fL (pC m) k).1 o (fL (pC m) k).2 :: r) G I)
    | _ => no
  | .putfield k => match st with
    | v :: .ref o :: r => gd (decide (kd G o = (fL (pC m) k).1) && decide ((fL (pC m) k).1 < 8) && (!fF (fL (pC m) k).1 (fL (pC m) k).2 || (decide (pK m = 2) && decide (pC m = (fL (pC m) k).1)))) (pf m o (fL (pC m) k).1 (fL (pC m) k).2 (pc + 3) ls v r G I)
    | _ => no
  | .new k => gd (decide (kL (pC m) k < 8)) (go m (pc + 3) ls (.ref G.1 :: st) (nG G (kL (pC m) k) (clN (kL (pC m) k))) (nI0 G I))
  | .newarray t => match st with
    | .int n :: r => gd (decide (akd t < 60) && decide (0 ≤ n.toInt ∧ n.toInt ≤ 1000)) (go m (pc + 2) ls (.ref G.1 :: r) (nG G (akd t) (ix n)) (nI0 G I))
    | _ => no
  | .anewarray k => match st with
    | .int n :: r => gd (decide (kL (pC m) k ≤ 1) && decide (0 ≤ n.toInt ∧ n.toInt ≤ 1000)) (go m (pc + 3) ls (.ref G.1 :: r) (nG G (54 - kL (pC m) k) (ix n)) (nI0 G I))
    | _ => no
  | .invokevirtual k => match (mL (pC m) k).2, st.drop (pN (mL (pC m) k).1) with
    | 0, .ref b :: rest => gd (decide (kd G b = pC (mL (pC m) k).1) && decide ((st.take (pN (mL (pC m) k).1)).length = pN (mL (pC m) k).1)) (cal m (mL (pC m) k).1 pc (.ref b :: (st.take (pN (mL (pC m) k).1)).reverse) ls rest G I)
    | _, _ => no
  | .invokestatic k =>
    if (pC m, k) ∈ aTl then match st with
      | .int n :: .int dp :: .ref a1 :: .int sp :: .ref a0 :: rest => gd (decide (cats rest ≤ 8) && decide (1 ≤ pF m) && decide (26 ≤ pW m) && (decide (kd G a0 = kd G a1) && decide (kd G a0 = 50)) && decide (0 ≤ sp.toInt) && decide (0 ≤ dp.toInt) && decide (0 ≤ n.toInt) && decide (ix sp + ix n ≤ ln G a0) && decide (ix dp + ix n ≤ ln G a1)) (go m (pc + 3) ls rest G (cpI I a0 a1 (ix sp) (ix dp) (ix n)))
      | _ => no
    else gd (decide ((mL (pC m) k).2 = 1 ∨ (mL (pC m) k).2 = 3) && decide ((st.take (pN (mL (pC m) k).1)).length = pN (mL (pC m) k).1)) (cal m (mL (pC m) k).1 pc ((st.take (pN (mL (pC m) k).1)).reverse) ls (st.drop (pN (mL (pC m) k).1)) G I)
  | .invokespecial k =>
    if (pC m, k) ∈ oTl then match st with
      | .ref _ :: rest => gd (decide (cats rest ≤ 8) && decide (1 ≤ pF m) && decide (20 ≤ pW m)) (go m (pc + 3) ls rest G I)
      | _ => no
    else match st.drop (pN (mL (pC m) k).1) with
      | .ref b :: rest => gd (decide ((mL (pC m) k).2 = 2 ∨ (mL (pC m) k).2 = 4) && decide ((st.take (pN (mL (pC m) k).1)).length = pN (mL (pC m) k).1)) (cal m (mL (pC m) k).1 pc (.ref b :: (st.take (pN (mL (pC m) k).1)).reverse) ls rest G I)
      | _ => no
  | .ireturn => match st with | [.int v] => gd (rtI m v) (.inl (some (some (.int v), G, I))) | _ => no
  | .areturn => match st with | [.ref v] => gd (rtA m) (.inl (some (some (.ref v), G, I))) | _ => no
  | .return_ => match st with | [] => gd (decide (pR m = none)) (.inl (some (none, G, I))) | _ => no
  | _ => no
def sd (c : Cf) : Sr := match decode (pB c.1) c.2.1 with
  | .ok (i, n) => gd (decide (ilen i = n) || (match i with | .tableswitch _ _ _ _ => true | _ => false)) (sdi i c.1 c.2.1 c.2.2.1 c.2.2.2.1 c.2.2.2.2.1 c.2.2.2.2.2)
  | _ => no
def rn (g : Cf → Option Rs) (s : Sr) : Option Rs := match s with
  | .inl r => r
  | .inr (.inl c') => g c'
  | .inr (.inr (c', m, pc, ls, rest)) => match g c' with
    | none => none
    | some x => g (m, pc, ls, x.1.toList ++ rest, x.2.1, x.2.2)
def run : Nat → Cf → Option Rs
  | 0, _ => none
  | f + 1, c => rn (run f) (sd c)
theorem run_mono : ∀ (f : Nat) (c : Cf) (x : Rs), run f c = some x → run (f + 1) c = some x := by
  intro f
  induction f with
  | zero => intro c x h; simp [run] at h
  | succ f ih =>
    intro c x h
    rw [run] at h ⊢
    cases hs : sd c with
    | inl r => rw [hs] at h; exact h
    | inr q =>
      cases q with
      | inl c' => rw [hs] at h; exact ih c' x h
      | inr q =>
        obtain ⟨c', m, pc, ls, rest⟩ := q
        rw [hs] at h
        simp only [rn] at h ⊢
        cases hr : run f c' with
        | none => rw [hr] at h; cases h
        | some y =>
          rw [hr] at h
          rw [ih c' y hr]
          exact ih _ x h
theorem run_le {f g : Nat} (h : f ≤ g) {c : Cf} {x : Rs} (hr : run f c = some x) : run g c = some x := by
  induction h with
  | refl => exact hr
  | step _ ih => exact run_mono _ _ _ ih
theorem run_det {f g : Nat} {c : Cf} {x y : Rs} (h1 : run f c = some x) (h2 : run g c = some y) : x = y := by
  have a := run_le (Nat.le_max_left f g) h1
  have b := run_le (Nat.le_max_right f g) h2
  rw [a] at b
  exact Option.some.inj b
/-- what a run comes to, however long it takes -/
noncomputable def ev (c : Cf) : Option Rs := @dite _ (∃ x, ∃ f, run f c = some x) (Classical.propDecidable _) (fun h => some (Classical.choose h)) (fun _ => none)
theorem ev_iff {c : Cf} {x : Rs} : ev c = some x ↔ ∃ f, run f c = some x := by
  unfold ev
  by_cases h : ∃ x, ∃ f, run f c = some x
  · rw [dif_pos h]
    have hc := Classical.choose_spec h
    constructor
    · intro e
      rw [← Option.some.inj e]
      exact hc
    · rintro ⟨f, hf⟩
      obtain ⟨g, hg⟩ := hc
      rw [run_det hg hf]
  · rw [dif_neg h]
    constructor
    · intro e; cases e
    · intro e; exact absurd ⟨x, e⟩ h
theorem opt_ext {α : Type} {a b : Option α} (h : ∀ x, a = some x ↔ b = some x) : a = b := by
  cases a with
  | none =>
    cases b with
    | none => rfl
    | some y => exact absurd ((h y).mpr rfl) (by simp)
  | some x => exact ((h x).mp rfl).symm
theorem ev_ret {c : Cf} {r : Option Rs} (h : sd c = .inl r) : ev c = r := by
  refine opt_ext fun x => ?_
  rw [ev_iff]
  constructor
  · rintro ⟨f, hf⟩
    cases f with
    | zero => simp [run] at hf
    | succ f => rw [run, h] at hf; exact hf
  · intro e
    exact ⟨1, by rw [run, h]; exact e⟩
theorem ev_go {c c' : Cf} (h : sd c = .inr (.inl c')) : ev c = ev c' := by
  refine opt_ext fun x => ?_
  rw [ev_iff, ev_iff]
  constructor
  · rintro ⟨f, hf⟩
    cases f with
    | zero => simp [run] at hf
    | succ f => rw [run, h] at hf; exact ⟨f, hf⟩
  · rintro ⟨f, hf⟩
    exact ⟨f + 1, by rw [run, h]; exact hf⟩
theorem ev_call {c c' : Cf} {m pc : Nat} {ls : List (Option Value)} {rest : List Value} (h : sd c = .inr (.inr (c', m, pc, ls, rest))) : ev c = (ev c').bind (fun x => ev (m, pc, ls, x.1.toList ++ rest, x.2.1, x.2.2)) := by
  refine opt_ext fun x => ?_
  rw [ev_iff, Option.bind_eq_some_iff]
  constructor
  · rintro ⟨f, hf⟩
    cases f with
    | zero => simp [run] at hf
    | succ f =>
      rw [run, h] at hf
      simp only [rn] at hf
      cases hr : run f c' with
      | none => rw [hr] at hf; cases hf
      | some y =>
        rw [hr] at hf
        exact ⟨y, ev_iff.mpr ⟨f, hr⟩, ev_iff.mpr ⟨f, hf⟩⟩
  · rintro ⟨y, h1, h2⟩
    obtain ⟨f, hf⟩ := ev_iff.mp h1
    obtain ⟨g, hg⟩ := ev_iff.mp h2
    refine ⟨max f g + 1, ?_⟩
    rw [run, h]
    simp only [rn]
    rw [run_le (Nat.le_max_left f g) hf]
    exact run_le (Nat.le_max_right f g) hg
end
section
/-! ===== the machine's heap as the small machine's: addresses, cells ===== -/
/-- what is known of the launch: the classes' numbers and slots, the array classes' numbers, the script's cell, the first cell of ours, the script's length and contents -/
abbrev KT : Type := va_G × (Nat → ClassId) × Nat × Nat × Nat × (Nat → Int32)
def kD (K : KT) : va_G := K.1
def kA (K : KT) : Nat → ClassId := K.2.1
def kb (K : KT) : Nat := K.2.2.1
def kB (K : KT) : Nat := K.2.2.2.1
def kLn (K : KT) : Nat := K.2.2.2.2.1
def kX (K : KT) : Nat → Int32 := K.2.2.2.2.2
def tysK (K : KT) : List (ClassId × FieldType) := [(kA K 0, .int), (kA K 1, .boolean), (kA K 2, .char), (kA K 3, .object RX1), (kA K 4, .object RX0)]
def ad (K : KT) (o : Nat) : Nat := if o = 0 then kb K else kB K + (o - 1)
def tr (K : KT) : Value → Value
  | .ref a => .ref (ad K a)
  | v => v
def kfr (K : KT) : Nat → Prop := fun q => kB K ≤ q
def fvl (K : KT) (c : Nat) (G : Gt) (I : It) (o k : Nat) : Value := if fT c k = 2 then va_rf ((rf G o k).map (ad K)) else .int (I o k)
def elt (K : KT) (G : Gt) (I : It) (o : Nat) : va_E :=
  if (G.2.2.1 o).1 < 50 then .inr ((G.2.2.1 o).1, (List.range (clN (G.2.2.1 o).1)).map (fvl K (G.2.2.1 o).1 G I o))
  else if (G.2.2.1 o).1 < 53 then .inl (kA K ((G.2.2.1 o).1 - 50), (G.2.2.1 o).2, .inl (I o))
  else .inl (kA K ((G.2.2.1 o).1 - 50), (G.2.2.1 o).2, .inr (.inr (.inr (.inr (fun j => (rf G o j).map (ad K))))))
def wsO (K : KT) (G : Gt) (I : It) : va_W := (List.range (G.1 - 1)).map (fun k => (ad K (k + 1), elt K G I (k + 1)))
def HP (K : KT) (G : Gt) (I : It) (H : Heap) : Prop := va_P (kD K) vwCl (wsO K G I) H ∧ H.size + 1 = kB K + G.1 ∧ 1 ≤ G.1 ∧ G.2.2.1 0 = (60, kLn K) ∧ I 0 = kX K
theorem rmap_get {α : Type} (N k : Nat) (f : Nat → α) (h : k < N) : ((List.range N).map f)[k]? = some (f k) := by
  rw [List.getElem?_map, List.getElem?_range h]; rfl
theorem rmap_set {α : Type} (N k : Nat) (f f' : Nat → α) (v : α) (h1 : f' k = v) (h2 : ∀ j, j ≠ k → f' j = f j) : ((List.range N).map f).set k v = (List.range N).map f' := by
  apply List.ext_getElem?
  intro i
  rw [List.getElem?_set]
  by_cases hi : k = i
  · subst hi
    rw [if_pos rfl]
    by_cases hl : k < N
    · rw [if_pos (by simpa using hl), rmap_get N k f' hl, h1]
    · rw [if_neg (by simpa using hl), List.getElem?_eq_none (by simpa using hl)]
  · rw [if_neg hi]
    by_cases hl : i < N
    · rw [rmap_get N i f hl, rmap_get N i f' hl, h2 i (Ne.symm hi)]
    · rw [List.getElem?_eq_none (by simpa using hl), List.getElem?_eq_none (by simpa using hl)]
theorem ad_pos {K : KT} {o : Nat} (h : 0 < o) : ad K o = kB K + (o - 1) := by unfold ad; rw [if_neg (by omega)]
theorem wsO_D (K : KT) (G : Gt) (I : It) : va_D (kfr K) (wsO K G I) := by
  have key : ∀ (k : Nat) (q : Nat × va_E), (wsO K G I)[k]? = some q → q.1 = kB K + k := by
    intro k q h
    have hl : k < G.1 - 1 := by
      have := (List.getElem?_eq_some_iff.mp h).1
      simpa [wsO] using this
    unfold wsO at h
    rw [rmap_get _ _ _ hl] at h
    rw [← Option.some.inj h]
    show ad K (k + 1) = _
    rw [ad_pos (Nat.succ_pos k)]
    simp
  refine ⟨fun i j p q h1 h2 h3 => ?_, fun k q h => ?_⟩
  · have a1 := key i p h1
    have a2 := key j q h2
    omega
  · show kB K ≤ q.1
    rw [key k q h]
    omega
theorem kd_spec {G : Gt} {o c : Nat} (h : kd G o = c) (h0 : c ≠ 60) (h9 : c ≠ 99) : 0 < o ∧ o < G.1 ∧ (G.2.2.1 o).1 = c := by
  unfold kd at h
  by_cases a : o = 0
  · rw [if_pos a] at h; exact absurd h.symm h0
  · rw [if_neg a] at h
    by_cases e : o < G.1
    · rw [if_pos e] at h; exact ⟨by omega, e, h⟩
    · rw [if_neg e] at h; exact absurd h.symm h9
theorem wsO_get {K : KT} {G : Gt} {I : It} {o : Nat} (h0 : 0 < o) (h : o < G.1) : (wsO K G I)[o - 1]? = some (ad K o, elt K G I o) := by
  unfold wsO
  rw [rmap_get _ _ _ (by omega)]
  simp only [Nat.sub_add_cancel h0]
theorem wsO_set {K : KT} {G G' : Gt} {I I' : It} {o : Nat} {e : va_E} (h0 : 0 < o) (hn : G'.1 = G.1) (he : elt K G' I' o = e) (hne : ∀ j, j ≠ o → elt K G' I' j = elt K G I j) : (wsO K G I).set (o - 1) (ad K o, e) = wsO K G' I' := by
  unfold wsO
  rw [hn]
  refine rmap_set _ _ _ _ _ ?_ fun j hj => ?_
  · simp only [Nat.sub_add_cancel h0, he]
  · rw [hne (j + 1) (by omega)]
theorem wsO_push {K : KT} {G G' : Gt} {I I' : It} {e : va_E} (h1 : 1 ≤ G.1) (hn : G'.1 = G.1 + 1) (he : elt K G' I' G.1 = e) (hne : ∀ j, j ≠ G.1 → elt K G' I' j = elt K G I j) : wsO K G' I' = wsO K G I ++ [(ad K G.1, e)] := by
  unfold wsO
  rw [hn, show G.1 + 1 - 1 = (G.1 - 1) + 1 by omega, List.range_succ, List.map_append]
  congr 1
  · apply List.map_congr_left
    intro k hk
    have := List.mem_range.mp hk
    rw [hne (k + 1) (by omega)]
  · simp only [List.map_cons, List.map_nil, Nat.sub_add_cancel h1, he]
theorem elt_obj {K : KT} {G : Gt} {I : It} {o c : Nat} (h : (G.2.2.1 o).1 = c) (hc : c < 8) : elt K G I o = .inr (c, (List.range (clN c)).map (fvl K c G I o)) := by
  unfold elt; rw [h, if_pos (by omega)]
theorem elt_int {K : KT} {G : Gt} {I : It} {o c : Nat} (h : (G.2.2.1 o).1 = c) (h1 : 50 ≤ c) (h2 : c < 53) : elt K G I o = .inl (kA K (c - 50), ln G o, .inl (I o)) := by
  unfold elt; rw [h, if_neg (by omega), if_pos h2]; rfl
theorem elt_ref {K : KT} {G : Gt} {I : It} {o c : Nat} (h : (G.2.2.1 o).1 = c) (h1 : 53 ≤ c) : elt K G I o = .inl (kA K (c - 50), ln G o, .inr (.inr (.inr (.inr (fun j => (rf G o j).map (ad K)))))) := by
  unfold elt; rw [h, if_neg (by omega), if_neg (by omega)]; rfl
/-- what is not written stays -/
theorem elt_same {K : KT} {G G' : Gt} {I I' : It} {o : Nat} (hk : G'.2.2.1 o = G.2.2.1 o) (hr : ∀ k, rf G' o k = rf G o k) (hI : I' o = I o) : elt K G' I' o = elt K G I o := by
  have e : fvl K (G.2.2.1 o).1 G' I' o = fvl K (G.2.2.1 o).1 G I o := by
    funext k
    unfold fvl
    rw [hr k, hI]
  unfold elt
  rw [hk, hI, e]
  simp only [hr]
theorem uI_o (I : It) (o k : Nat) (x : Int32) (a : Nat) (h : a ≠ o) : uI I o k x a = I a := by funext j; unfold uI; rw [if_neg h]
theorem uI_self (I : It) (o k : Nat) (x : Int32) : uI I o k x o = upd (I o) k x := by funext j; unfold uI upd; rw [if_pos rfl]
theorem wsP_lt {K : KT} {G : Gt} {I : It} {H : Heap} (h : va_P (kD K) vwCl (wsO K G I) H) (h2 : 2 ≤ G.1) : kB K + G.1 ≤ H.size + 1 := by
  have h1 := (h _ _ (wsO_get (o := G.1 - 1) (by omega) (by omega))).lt
  have h3 : ad K (G.1 - 1) < H.size := h1
  rw [ad_pos (by omega)] at h3
  omega
theorem HP_mk {K : KT} {G G' : Gt} {I I' : It} {H H1 : Heap} (h : HP K G I H) (hn : G'.1 = G.1) (h2 : 2 ≤ G.1) (hz : H1.size ≤ H.size) (h0 : G'.2.2.1 0 = G.2.2.1 0) (hI : I' 0 = I 0) (hp : va_P (kD K) vwCl (wsO K G' I') H1) : HP K G' I' H1 := by
  have := wsP_lt hp (by omega)
  have := h.2.1
  exact ⟨hp, by omega, by omega, h0.trans h.2.2.2.1, hI.trans h.2.2.2.2⟩
/-- an int array's store -/
theorem HP_ast {K : KT} {G : Gt} {I : It} {H : Heap} {a c k : Nat} {x : Int32} (h : HP K G I H) (ha : kd G a = c) (h1 : 50 ≤ c) (h2 : c < 53) :
    ∀ H1 : Heap, H1.size ≤ H.size → va_P (kD K) vwCl ((wsO K G I).set (a - 1) (ad K a, .inl (kA K (c - 50), ln G a, .inl (upd (I a) k x)))) H1 → HP K G (uI I a k x) H1 := by
  obtain ⟨p0, p1, p2⟩ := kd_spec ha (by omega) (by omega)
  intro H1 hz hp
  refine HP_mk (G' := G) h rfl (by omega) hz rfl (uI_o I a k x 0 (by omega)) ?_
  · rw [← wsO_set (G' := G) (I' := uI I a k x) p0 rfl (e := .inl (kA K (c - 50), ln G a, .inl (upd (I a) k x))) (by rw [elt_int p2 h1 h2, uI_self]) (fun j hj => elt_same rfl (fun _ => rfl) (uI_o I a k x j hj))]
    exact hp
theorem HP_acp {K : KT} {G : Gt} {I : It} {H : Heap} {a0 a c sp dp n : Nat} (h : HP K G I H) (ha : kd G a = c) (h1 : 50 ≤ c) (h2 : c < 53) :
    ∀ H1 : Heap, H1.size ≤ H.size → va_P (kD K) vwCl ((wsO K G I).set (a - 1) (ad K a, .inl (kA K (c - 50), ln G a, .inl (va_cpy (I a0) (I a) sp dp n)))) H1 → HP K G (cpI I a0 a sp dp n) H1 := by
  obtain ⟨p0, p1, p2⟩ := kd_spec ha (by omega) (by omega)
  have hs : cpI I a0 a sp dp n a = va_cpy (I a0) (I a) sp dp n := by funext j; unfold cpI; rw [if_pos rfl]
  have ho : ∀ z, z ≠ a → cpI I a0 a sp dp n z = I z := fun z hz => by funext j; unfold cpI; rw [if_neg hz]
  intro H1 hz hp
  refine HP_mk (G' := G) h rfl (by omega) hz rfl (ho 0 (by omega)) ?_
  · rw [← wsO_set (G' := G) (I' := cpI I a0 a sp dp n) p0 rfl (e := .inl (kA K (c - 50), ln G a, .inl (va_cpy (I a0) (I a) sp dp n))) (by rw [elt_int p2 h1 h2, hs]) (fun j hj => elt_same rfl (fun _ => rfl) (ho j hj))]
    exact hp
/-- a field's store: an int -/
theorem HP_pi {K : KT} {G : Gt} {I : It} {H : Heap} {o c k : Nat} {x : Int32} (h : HP K G I H) (ho : kd G o = c) (hc : c < 8) (ht : fT c k ≠ 2) :
    ∀ H1 : Heap, H1.size ≤ H.size → va_P (kD K) vwCl ((wsO K G I).set (o - 1) (ad K o, .inr (c, ((List.range (clN c)).map (fvl K c G I o)).set k (.int x)))) H1 → HP K G (uI I o k x) H1 := by
  obtain ⟨p0, p1, p2⟩ := kd_spec ho (by omega) (by omega)
  intro H1 hz hp
  refine HP_mk (G' := G) h rfl (by omega) hz rfl (uI_o I o k x 0 (by omega)) ?_
  · rw [rmap_set (clN c) k _ (fvl K c G (uI I o k x) o) (.int x) (by unfold fvl; rw [if_neg ht]; unfold uI; rw [if_pos rfl, if_pos rfl]) (fun j hj => by unfold fvl uI; rw [if_pos rfl, if_neg hj])] at hp
    rw [← wsO_set (G' := G) (I' := uI I o k x) p0 rfl (elt_obj p2 hc) (fun j hj => elt_same rfl (fun _ => rfl) (uI_o I o k x j hj))]
    exact hp
theorem rf_uG (G : Gt) (o k r a j : Nat) : rf (uG G o k r) a j = if a = o then (if j = k then some r else rf G a j) else rf G a j := rfl
/-- a field's store: a reference -/
theorem HP_pr {K : KT} {G : Gt} {I : It} {H : Heap} {o c k r : Nat} (h : HP K G I H) (ho : kd G o = c) (hc : c < 8) (ht : fT c k = 2) :
    ∀ H1 : Heap, H1.size ≤ H.size → va_P (kD K) vwCl ((wsO K G I).set (o - 1) (ad K o, .inr (c, ((List.range (clN c)).map (fvl K c G I o)).set k (.ref (ad K r))))) H1 → HP K (uG G o k r) I H1 := by
  obtain ⟨p0, p1, p2⟩ := kd_spec ho (by omega) (by omega)
  intro H1 hz hp
  refine HP_mk (G' := uG G o k r) h rfl (by omega) hz rfl rfl ?_
  rw [rmap_set (clN c) k _ (fvl K c (uG G o k r) I o) (.ref (ad K r)) (by unfold fvl; rw [if_pos ht, rf_uG, if_pos rfl, if_pos rfl]; rfl) (fun j hj => by unfold fvl; rw [rf_uG, if_pos rfl, if_neg hj])] at hp
  rw [← wsO_set (G := G) (I := I) (G' := uG G o k r) (I' := I) p0 rfl (elt_obj (G := uG G o k r) p2 hc) (fun j hj => elt_same rfl (fun z => by rw [rf_uG, if_neg hj]) rfl)]
  exact hp
/-- an array's store: a reference -/
theorem HP_ar {K : KT} {G : Gt} {I : It} {H : Heap} {o c k r : Nat} (h : HP K G I H) (ho : kd G o = c) (h1 : 53 ≤ c) (h2 : c ≤ 54) :
    ∀ H1 : Heap, H1.size ≤ H.size → va_P (kD K) vwCl ((wsO K G I).set (o - 1) (ad K o, .inl (kA K (c - 50), ln G o, .inr (.inr (.inr (.inr (va_up (fun j => (rf G o j).map (ad K)) k (some (ad K r))))))))) H1 → HP K (uG G o k r) I H1 := by
  obtain ⟨p0, p1, p2⟩ := kd_spec ho (by omega) (by omega)
  intro H1 hz hp
  refine HP_mk (G' := uG G o k r) h rfl (by omega) hz rfl rfl ?_
  have e : (fun j => (rf (uG G o k r) o j).map (ad K)) = va_up (fun j => (rf G o j).map (ad K)) k (some (ad K r)) := by
    funext j
    rw [rf_uG, if_pos rfl]
    unfold va_up
    by_cases hj : j = k
    · rw [if_pos hj, if_pos hj]; rfl
    · rw [if_neg hj, if_neg hj]
  rw [← wsO_set (G := G) (I := I) (G' := uG G o k r) (I' := I) (e := .inl (kA K (c - 50), ln G o, .inr (.inr (.inr (.inr (va_up (fun j => (rf G o j).map (ad K)) k (some (ad K r)))))))) p0 rfl (by rw [elt_ref (G := uG G o k r) p2 h1, e]; rfl) (fun j hj => elt_same rfl (fun z => by rw [rf_uG, if_neg hj]) rfl)]
  exact hp
theorem nG_kd (G : Gt) (kk len a : Nat) (h : a ≠ G.1) : (nG G kk len).2.2.1 a = G.2.2.1 a := by unfold nG; simp only [if_neg h]
theorem nG_rf (G : Gt) (kk len a j : Nat) (h : a ≠ G.1) : rf (nG G kk len) a j = rf G a j := by unfold nG rf; simp only [if_neg h]
theorem nG_new (G : Gt) (kk len : Nat) : (nG G kk len).2.2.1 G.1 = (kk, len) := by unfold nG; simp only [if_true]
theorem nG_rf0 (G : Gt) (kk len j : Nat) : rf (nG G kk len) G.1 j = none := by unfold nG rf; simp only [if_true]
theorem nI0_o (G : Gt) (I : It) (a : Nat) (h : a ≠ G.1) : nI0 G I a = I a := by funext j; unfold nI0; rw [if_neg h]
theorem nI0_new (G : Gt) (I : It) : nI0 G I G.1 = fun _ => 0 := by funext j; unfold nI0; rw [if_pos rfl]
theorem HP_new {K : KT} {G : Gt} {I : It} {H : Heap} {kk len : Nat} {e : va_E} (h : HP K G I H) (he : elt K (nG G kk len) (nI0 G I) G.1 = e) :
    ∀ (q : Nat) (H1 : Heap), H1.size ≤ H.size + 1 → va_D (kfr K) (wsO K G I ++ [(q, e)]) → va_P (kD K) vwCl (wsO K G I ++ [(q, e)]) H1 → q = ad K G.1 ∧ HP K (nG G kk len) (nI0 G I) H1 := by
  intro q H1 hz hd hp
  have h21 := h.2.1
  have h31 := h.2.2.1
  have hlen : (wsO K G I).length = G.1 - 1 := by unfold wsO; rw [List.length_map, List.length_range]
  have hq1 : (wsO K G I ++ [(q, e)])[G.1 - 1]? = some (q, e) := by rw [List.getElem?_append_right (by omega), hlen, Nat.sub_self]; rfl
  have hq : q = ad K G.1 := by
    rw [ad_pos (by omega)]
    have g1 : kB K ≤ q := hd.2 _ _ hq1
    have g2 : q < H1.size := (hp _ _ hq1).lt
    rcases Nat.lt_or_ge q (kB K + (G.1 - 1)) with g3 | g3
    · have hk : (wsO K G I ++ [(q, e)])[q - kB K]? = some (ad K (q - kB K + 1), elt K G I (q - kB K + 1)) := by
        rw [List.getElem?_append_left (by omega)]
        exact wsO_get (o := q - kB K + 1) (by omega) (by omega)
      have := hd.1 _ _ _ _ hk hq1 (by show ad K (q - kB K + 1) = q; rw [ad_pos (by omega)]; omega)
      omega
    · omega
  subst hq
  have hpp : va_P (kD K) vwCl (wsO K (nG G kk len) (nI0 G I)) H1 := by
    rw [wsO_push (G' := nG G kk len) (I' := nI0 G I) h.2.2.1 rfl he (fun j hj => elt_same (nG_kd G kk len j hj) (fun z => nG_rf G kk len j z hj) (nI0_o G I j hj))]
    exact hp
  have hl := wsP_lt hpp (show 2 ≤ G.1 + 1 by omega)
  have hl : kB K + (G.1 + 1) ≤ H1.size + 1 := hl
  refine ⟨rfl, hpp, ?_, ?_, ?_, ?_⟩
  · show H1.size + 1 = kB K + (G.1 + 1)
    omega
  · show 1 ≤ G.1 + 1
    omega
  · rw [nG_kd G kk len 0 (by omega)]; exact h.2.2.2.1
  · rw [nI0_o G I 0 (by omega)]; exact h.2.2.2.2
theorem HP_ad {K : KT} {G : Gt} {I : It} {H : Heap} (h : HP K G I H) : ad K G.1 = H.size := by
  rw [ad_pos (by have := h.2.2.1; omega)]
  have := h.2.1
  have := h.2.2.1
  omega
/-! the locals -/
def lp (K : KT) (als : List (Option Value)) : List (Nat × Value) := (List.range als.length).filterMap (fun i => match als[i]? with
  | some (some v) => some (i, tr K v)
  | _ => none)
theorem lp_mem {K : KT} {als : List (Option Value)} {q : Nat × Value} : q ∈ lp K als ↔ ∃ v, als[q.1]? = some (some v) ∧ q.2 = tr K v := by
  unfold lp
  rw [List.mem_filterMap]
  constructor
  · rintro ⟨i, -, h⟩
    cases hv : als[i]? with
    | none => rw [hv] at h; cases h
    | some o =>
      cases o with
      | none => rw [hv] at h; cases h
      | some v =>
        rw [hv] at h
        rw [← Option.some.inj h]
        exact ⟨v, hv, rfl⟩
  · rintro ⟨v, h1, h2⟩
    refine ⟨q.1, List.mem_range.mpr (List.getElem?_eq_some_iff.mp h1).1, ?_⟩
    rw [h1]
    show some (q.1, tr K v) = some q
    rw [← h2]
def LO (K : KT) (als : List (Option Value)) (ls : Array Slot) : Prop := lv_has ls als.length (lp K als)
theorem LO_at {K : KT} {als : List (Option Value)} {ls : Array Slot} (h : LO K als ls) {i : Nat} {v : Value} (hv : als[i]? = some (some v)) : ls[i]? = some (.val (tr K v)) := by
  obtain ⟨k, hk⟩ := List.getElem?_of_mem (lp_mem.mpr ⟨v, hv, rfl⟩ : (i, tr K v) ∈ lp K als)
  exact lv_at h k hk
theorem tr_cat (K : KT) (v : Value) : (tr K v).category = v.category := by cases v <;> rfl
theorem LO_st {K : KT} {als : List (Option Value)} {ls : Array Slot} {i : Nat} {v : Value} {als' : List (Option Value)} (hs : sL als i v = some als') (h : lv_has ls als.length ((i, tr K v) :: (lp K als).filter (fun q => !(q.1 == i) && !(q.1 + 1 == i && q.2.category == 2)))) : LO K als' ls := by
  unfold sL at hs
  split at hs
  · rename_i hc
    simp only [Bool.and_eq_true, decide_eq_true_eq, Bool.or_eq_true, Bool.not_eq_true'] at hc
    have hs := Option.some.inj hs
    subst hs
    obtain ⟨h1, h2, h3⟩ := h
    refine ⟨by rw [List.length_set]; exact h1, h2, fun q hq => ?_⟩
    obtain ⟨w, hw, e⟩ := lp_mem.mp hq
    by_cases hqi : q.1 = i
    · rw [hqi, List.getElem?_set_self hc.1] at hw
      have hw := Option.some.inj (Option.some.inj hw)
      subst hw
      have hqe : q = (i, tr K v) := by rw [← hqi, ← e]
      exact h3 q (hqe ▸ List.mem_cons_self)
    · rw [List.getElem?_set_ne (Ne.symm hqi)] at hw
      refine h3 q (List.mem_cons_of_mem _ (List.mem_filter.mpr ⟨lp_mem.mpr ⟨w, hw, e⟩, ?_⟩))
      simp only [Bool.and_eq_true, Bool.not_eq_true', beq_eq_false_iff_ne, ne_eq, Bool.and_eq_false_iff]
      refine ⟨hqi, ?_⟩
      by_cases hq1 : q.1 + 1 = i
      · right
        intro hcat
        rw [e, tr_cat] at hcat
        rcases hc.2 with hz | hz
        · omega
        · have : als[i - 1]? = some (some w) := by rw [← hq1, Nat.add_sub_cancel]; exact hw
          rw [this] at hz
          simp [isJ, hcat] at hz
      · left; exact hq1
  · cases hs
theorem LO_st2 {K : KT} {als : List (Option Value)} {ls : Array Slot} {i : Nat} {v : Value} {als' : List (Option Value)} (hs : sL2 als i v = some als') (h : lv_has ls als.length ((i, tr K v) :: (lp K als).filter (fun q => !(q.1 == i) && (!(q.1 == i + 1) && !(q.1 + 1 == i && q.2.category == 2))))) : LO K als' ls := by
  unfold sL2 at hs
  split at hs
  · rename_i hc
    simp only [Bool.and_eq_true, decide_eq_true_eq, Bool.or_eq_true, Bool.not_eq_true'] at hc
    have hs := Option.some.inj hs
    subst hs
    obtain ⟨h1, h2, h3⟩ := h
    refine ⟨by rw [List.length_set, List.length_set]; exact h1, h2, fun q hq => ?_⟩
    obtain ⟨w, hw, e⟩ := lp_mem.mp hq
    by_cases hqj : q.1 = i + 1
    · rw [hqj, List.getElem?_set_self (by rw [List.length_set]; exact hc.1.1)] at hw
      cases hw
    rw [List.getElem?_set_ne (Ne.symm hqj)] at hw
    by_cases hqi : q.1 = i
    · rw [hqi, List.getElem?_set_self (by omega)] at hw
      have hw := Option.some.inj (Option.some.inj hw)
      subst hw
      have hqe : q = (i, tr K v) := by rw [← hqi, ← e]
      exact h3 q (hqe ▸ List.mem_cons_self)
    · rw [List.getElem?_set_ne (Ne.symm hqi)] at hw
      refine h3 q (List.mem_cons_of_mem _ (List.mem_filter.mpr ⟨lp_mem.mpr ⟨w, hw, e⟩, ?_⟩))
      simp only [Bool.and_eq_true, Bool.not_eq_true', beq_eq_false_iff_ne, ne_eq, Bool.and_eq_false_iff]
      refine ⟨hqi, hqj, ?_⟩
      by_cases hq1 : q.1 + 1 = i
      · right
        intro hcat
        rw [e, tr_cat] at hcat
        rcases hc.1.2 with hz | hz
        · omega
        · have : als[i - 1]? = some (some w) := by rw [← hq1, Nat.add_sub_cancel]; exact hw
          rw [this] at hz
          simp [isJ, hcat] at hz
      · left; exact hq1
  · cases hs
theorem aL_sl (K : KT) (vs : List Value) : (aL vs).length = (lg_sl (vs.map (tr K))).length := by
  induction vs with
  | nil => rfl
  | cons v vs ih => cases v <;> simp [aL, lg_sl, tr, Value.category] at ih ⊢ <;> omega
theorem aL_in (K : KT) (vs : List Value) : ∀ (o i : Nat) (v : Value), (aL vs)[i]? = some (some v) → (o + i, tr K v) ∈ lv_args o (vs.map (tr K)) := by
  induction vs with
  | nil => intro o i v h; simp [aL] at h
  | cons w vs ih =>
    intro o i v h
    have one : ∀ (hw : w.category ≠ 2), (some w :: aL vs)[i]? = some (some v) → (o + i, tr K v) ∈ lv_args o ((w :: vs).map (tr K)) := by
      intro hw h
      rw [List.map_cons, lv_args, if_neg (by rw [tr_cat]; exact hw)]
      cases i with
      | zero => simp at h; rw [← h]; exact List.mem_cons_self
      | succ i =>
        rw [List.getElem?_cons_succ] at h
        have := ih (o + 1) i v h
        rw [show o + (i + 1) = o + 1 + i by omega]
        exact List.mem_cons_of_mem _ this
    have two : ∀ (hw : w.category = 2), (some w :: none :: aL vs)[i]? = some (some v) → (o + i, tr K v) ∈ lv_args o ((w :: vs).map (tr K)) := by
      intro hw h
      rw [List.map_cons, lv_args, if_pos (by rw [tr_cat]; exact hw)]
      cases i with
      | zero => simp at h; rw [← h]; exact List.mem_cons_self
      | succ i =>
        rw [List.getElem?_cons_succ] at h
        cases i with
        | zero => simp at h
        | succ i =>
          rw [List.getElem?_cons_succ] at h
          have := ih (o + 2) i v h
          rw [show o + (i + 1 + 1) = o + 2 + i by omega]
          exact List.mem_cons_of_mem _ this
    cases w with
    | long x => exact two rfl h
    | double x => exact two rfl h
    | int x => exact one (by simp [Value.category]) h
    | float x => exact one (by simp [Value.category]) h
    | null => exact one (by simp [Value.category]) h
    | ref x => exact one (by simp [Value.category]) h
    | retAddr x => exact one (by simp [Value.category]) h
theorem LO_entry (K : KT) (vs : List Value) {n : Nat} (h : (aL vs).length ≤ n) : LO K (eL n vs) ((lg_sl (vs.map (tr K)) ++ List.replicate (n - (lg_sl (vs.map (tr K))).length) Slot.unset).toArray) := by
  have hn : (eL n vs).length = n := by unfold eL; rw [List.length_append, List.length_replicate]; omega
  have h1 := lv_entry (vs.map (tr K)) (n := n) (by rw [← aL_sl]; exact h)
  unfold LO
  rw [hn]
  refine ⟨h1.1, h1.2.1, fun q hq => ?_⟩
  obtain ⟨v, hv, e⟩ := lp_mem.mp hq
  have hv' : (aL vs)[q.1]? = some (some v) := by
    unfold eL at hv
    by_cases hl : q.1 < (aL vs).length
    · rw [List.getElem?_append_left hl] at hv; exact hv
    · rw [List.getElem?_append_right (by omega)] at hv
      have := List.eq_of_mem_replicate (List.mem_of_getElem? hv)
      cases this
  have := aL_in K vs 0 q.1 v hv'
  rw [Nat.zero_add, ← e] at this
  exact h1.2.2 q this
theorem cats_tr (K : KT) (st : List Value) : ((st.map (tr K)).map fun v => v.category).sum = cats st := by
  unfold cats
  rw [List.map_map]
  congr 1
  apply List.map_congr_left
  intro v _
  exact tr_cat K v
end
section
/-! ===== what a run of the small machine says of the machine: statement, room, calls ===== -/
def okS (G : Gt) (s : Sr) : Prop := match s with
  | .inl none => True
  | .inl (some x) => G.1 ≤ x.2.1.1 ∧ G.2.1 ≤ x.2.1.2.1
  | .inr (.inl c) => G.1 ≤ c.2.2.2.2.1.1 ∧ G.2.1 ≤ c.2.2.2.2.1.2.1
  | .inr (.inr (c, _)) => G.1 ≤ c.2.2.2.2.1.1 ∧ G.2.1 ≤ c.2.2.2.2.1.2.1
theorem okS_no (G : Gt) : okS G no := trivial
theorem okS_go (G : Gt) (m pc : Nat) (ls : List (Option Value)) (st : List Value) (I : It) : okS G (go m pc ls st G I) := ⟨Nat.le_refl _, Nat.le_refl _⟩
theorem okS_gd {G : Gt} {c : Bool} {s : Sr} (h : okS G s) : okS G (gd c s) := by cases c <;> first | exact trivial | exact h
theorem okS_ldI (G : Gt) (o : Option (Option Value)) (m pc : Nat) (ls : List (Option Value)) (st : List Value) (I : It) : okS G (ldI o m pc ls st G I) := by unfold ldI; split <;> first | exact okS_go .. | exact trivial
theorem okS_ldJ (G : Gt) (o : Option (Option Value)) (m pc : Nat) (ls : List (Option Value)) (st : List Value) (I : It) : okS G (ldJ o m pc ls st G I) := by unfold ldJ; split <;> first | exact okS_go .. | exact trivial
theorem okS_ldA (G : Gt) (o : Option (Option Value)) (m pc : Nat) (ls : List (Option Value)) (st : List Value) (I : It) : okS G (ldA o m pc ls st G I) := by unfold ldA; split <;> first | exact okS_go .. | exact trivial
theorem okS_stI (G : Gt) (i m pc : Nat) (ls : List (Option Value)) (st : List Value) (I : It) : okS G (stI i m pc ls st G I) := by unfold stI; split <;> first | (split <;> first | exact okS_go .. | exact trivial) | exact trivial
theorem okS_stJ (G : Gt) (i m pc : Nat) (ls : List (Option Value)) (st : List Value) (I : It) : okS G (stJ i m pc ls st G I) := by unfold stJ; split <;> first | (split <;> first | exact okS_go .. | exact trivial) | exact trivial
theorem okS_stA (G : Gt) (i m pc : Nat) (ls : List (Option Value)) (st : List Value) (I : It) : okS G (stA i m pc ls st G I) := by unfold stA; split <;> first | (split <;> first | exact okS_go .. | exact trivial) | exact trivial
theorem okS_br (G : Gt) (c : Bool) (m pc : Nat) (off : Int) (ls : List (Option Value)) (st : List Value) (I : It) : okS G (br c m pc off ls st G I) := by unfold br; refine okS_gd ?_; split <;> exact okS_go ..
theorem okS_pf (G : Gt) (m o ci k pc : Nat) (ls : List (Option Value)) (v : Value) (st : List Value) (I : It) : okS G (pf m o ci k pc ls v st G I) := by
  unfold pf
  split
  · exact okS_go ..
  · exact okS_gd (okS_go ..)
  · exact ⟨Nat.le_refl _, Nat.le_refl _⟩
  · exact trivial
theorem okS_cal (G : Gt) (m m' pc : Nat) (vs : List Value) (ls : List (Option Value)) (rest : List Value) (I : It) : okS G (cal m m' pc vs ls rest G I) := by unfold cal; exact okS_gd ⟨Nat.le_refl _, Nat.le_refl _⟩
theorem okS_nG (G : Gt) (kk len m pc : Nat) (ls : List (Option Value)) (st : List Value) (I : It) : okS G (go m pc ls st (nG G kk len) I) := ⟨Nat.le_succ _, Nat.le_add_right _ _⟩
theorem okS_sdi (i : Instr) (m pc : Nat) (ls : List (Option Value)) (st : List Value) (G : Gt) (I : It) : okS G (sdi i m pc ls st G I) := by
  cases i <;> first
    | exact trivial
    | exact okS_go ..
    | exact okS_ldI ..
    | exact okS_ldJ ..
    | exact okS_ldA ..
    | exact okS_stI ..
    | exact okS_stJ ..
    | exact okS_stA ..
    | exact okS_gd (okS_nG ..)
    | exact okS_gd (okS_go ..)
    | (simp only [sdi]; repeat' (first | exact trivial | exact okS_go .. | exact okS_gd (okS_go ..) | exact okS_br .. | exact okS_gd (okS_pf ..) | exact okS_gd (okS_nG ..) | exact okS_gd (okS_cal ..) | exact okS_gd ⟨Nat.le_refl _, Nat.le_refl _⟩ | exact okS_gd trivial | split))
theorem okS_sd (m pc : Nat) (ls : List (Option Value)) (st : List Value) (G : Gt) (I : It) : okS G (sd (m, pc, ls, st, G, I)) := by
  unfold sd
  split
  · exact okS_gd (okS_sdi ..)
  · exact trivial
theorem run_grow : ∀ (f m pc : Nat) (ls : List (Option Value)) (st : List Value) (G : Gt) (I : It) (r : Option Value) (G' : Gt) (I' : It), run f (m, pc, ls, st, G, I) = some (r, G', I') → G.1 ≤ G'.1 ∧ G.2.1 ≤ G'.2.1 := by
  intro f
  induction f with
  | zero => intro m pc ls st G I r G' I' h; simp [run] at h
  | succ f ih =>
    intro m pc ls st G I r G' I' h
    have ok := okS_sd m pc ls st G I
    rw [run] at h
    cases hs : sd (m, pc, ls, st, G, I) with
    | inl x =>
      rw [hs] at h ok
      have h : x = some (r, G', I') := h
      subst h
      exact ok
    | inr q =>
      cases q with
      | inl c =>
        obtain ⟨m1, pc1, ls1, st1, G1, I1⟩ := c
        rw [hs] at h ok
        have h2 := ih _ _ _ _ _ _ _ _ _ h
        exact ⟨Nat.le_trans ok.1 h2.1, Nat.le_trans ok.2 h2.2⟩
      | inr q =>
        obtain ⟨⟨m1, pc1, ls1, st1, G1, I1⟩, m2, pc2, ls2, rest⟩ := q
        rw [hs] at h ok
        simp only [rn] at h
        cases hr : run f (m1, pc1, ls1, st1, G1, I1) with
        | none => rw [hr] at h; cases h
        | some y =>
          obtain ⟨r2, G2, I2⟩ := y
          rw [hr] at h
          have h1 := ih _ _ _ _ _ _ _ _ _ hr
          have h2 := ih _ _ _ _ _ _ _ _ _ h
          exact ⟨Nat.le_trans ok.1 (Nat.le_trans h1.1 h2.1), Nat.le_trans ok.2 (Nat.le_trans h1.2 h2.2)⟩
def XN (K : KT) (U : State) : Prop := va_K (kD K) vwCl (tysK K) U ∧ (∀ q ∈ nTl, va_Nw (.methodLinkNest (pO q.1) q.2.1 (pY q.2.2) "SettingsVault") U) ∧ va_AO RX1 U ∧ va_AO RX0 U
def KU (K : KT) (G : Gt) (I : It) (U : State) : Prop := HP K G I U.heap ∧ XN K U ∧ va_X (kb K) (kLn K) (kX K) U U.heap ∧ kb K < kB K ∧ kB K ≤ U.heap.size
/-- the frame of the method m, at its place in the machine -/
def Fr (K : KT) (p : Program) (s : State) (m : Nat) (mid : MethodId) (args : Array Value) (meth : Method) (c : Code) (R : Room) : Prop :=
  p.tables.exec = Jvm.exec ∧ c.code = pB m ∧ c.maxLocals = pL m ∧ s.vm.findClass (pO (pC m)) = some mid.cls ∧ (∀ w ∈ tw, w.before args s = true) ∧ (pK m = 2 → meth.name = "<init>") ∧ XN K s ∧ va_X (kb K) (kLn K) (kX K) s s.heap ∧ pF m ≤ R.frames ∧ pW m ≤ R.locals ∧ kb K < kB K ∧ kB K ≤ s.heap.size
def Ret (m pc : Nat) (r : Option Value) : Prop := match r with
  | none => decode (pB m) pc = .ok (.return_, 1) ∧ pR m = none
  | some (.int v) => decode (pB m) pc = .ok (.ireturn, 1) ∧ rtI m v = true
  | some (.ref _) => decode (pB m) pc = .ok (.areturn, 1) ∧ rtA m = true
  | _ => False
def SIM (l : Launch) (K : KT) (f : Nat) : Prop := ∀ (m pc : Nat) (als : List (Option Value)) (st : List Value) (G : Gt) (I : It) (r : Option Value) (G' : Gt) (I' : It), run f (m, pc, als, st, G, I) = some (r, G', I') →
  ∀ {p : Program} {e : Env} {s : State} {mid : MethodId} {args : Array Value} {below : List Frame} {meth : Method} {c : Code} {H : Heap} {locs : List Loc} {R : Room} {cells slots cf sf : Nat} {Q : State → Prop} {ls : Array Slot},
    Fr K p s m mid args meth c R → HP K G I H → va_S (kfr K) s.heap H locs → LO K als ls → als.length = pL m → H.size = s.heap.size + cells → cells + (G'.1 - G.1) = cf → slots + (G'.2.1 - G.2.1) = sf → cf ≤ R.cells → sf ≤ R.slots →
    (∀ (pc' : Nat) (ls' : Array Slot) (H' : Heap) (locs' : List Loc), HP K G' I' H' → va_S (kfr K) s.heap H' locs' → Ret m pc' r → W p l e R s mid args below meth c H' locs' cf sf Q (F0 mid pc' ls' ((r.map (tr K)).toList))) →
    W p l e R s mid args below meth c H locs cells slots Q (F0 mid pc ls (st.map (tr K)))
def Qx (K : KT) (G' : Gt) (I' : It) (r : Option Value) : Array Value → State → Outcome → State → Prop := match r with
  | none => va_Qv (S := Unit) (fun _ => True) (fun _ t => HP K G' I' t.heap) (kfr K)
  | some (.int v) => va_Qi (S := Unit) (fun x _ => x = v) (fun _ t => HP K G' I' t.heap) (kfr K)
  | some (.ref v) => va_Qr (S := Unit) (fun _ => True) (fun _ a t => a = ad K v ∧ HP K G' I' t.heap) (kfr K)
  | _ => fun _ _ _ _ => False
theorem pT_at {m : Nat} (h : m < 184) : pT[m]? = some (pT.getD m pD) := by
  have hl : pT.length = 184 := by decide +kernel
  rw [List.getD_eq_getElem?_getD, List.getElem?_eq_getElem (by omega)]
  rfl
theorem meth_ok {m : Nat} (h : m < 184) : plainFor (pY m) = true ∧ (pY m).cls = pO (pC m) ∧ (pY m).cls ≠ "java/lang/invoke/MethodHandle" ∧ (pY m).cls ≠ "java/lang/invoke/VarHandle" ∧ (parseMethodDescriptor (pY m).desc).map (fun d => d.parameters.length) = some (pN m) ∧ (pK m = 2 → (pY m).name = "<init>" ∧ pR m = none) ∧ pC m < 10 := by
  have h1 := List.all_eq_true.mp wd_meths _ (List.mem_of_getElem? (pT_at h))
  unfold wd_meth at h1
  simp only [Bool.and_eq_true, decide_eq_true_eq] at h1
  obtain ⟨⟨⟨⟨⟨⟨a1, a2⟩, a3⟩, a4⟩, a5⟩, a6⟩, a7⟩ := h1
  exact ⟨a1, a2, a3, a4, a5, a6, a7⟩
theorem init_ok {c : Nat} (h : c < 10) : Cond.initialized (pO c) ∈ tw := by
  have h1 := List.all_eq_true.mp wd_inits
  have : ∀ c, c < 10 → wd_ip[c]? = some (c, (wd_ip.getD c (0, 0)).2) := by decide +kernel
  exact wd_in (h1 _ (List.mem_of_getElem? (this c h)))
theorem XN_moved {K : KT} {s U : State} (hW : s.WarmedH U.vm) (h : XN K s) : XN K U :=
  ⟨va_K.moved hW.alike h.1, fun q hq => va_Nw.warmM hW (h.2.1 q hq), va_AO.moved hW.alike h.2.2.1, va_AO.moved hW.alike h.2.2.2⟩
theorem XN_vm {K : KT} {s U : State} (e : s.vm = U.vm) (h : XN K s) : XN K U :=
  ⟨va_K.moved (by rw [e]; exact Vm.Alike.refl _) h.1, fun q hq => va_Nw.same rfl e (h.2.1 q hq), va_AO.moved (by rw [e]; exact Vm.Alike.refl _) h.2.2.1, va_AO.moved (by rw [e]; exact Vm.Alike.refl _) h.2.2.2⟩
theorem KU_blind (K : KT) (G : Gt) (I : It) (vs : List Value) : FrameBlind (va_Pc vs (KU K G I)) := by
  intro a U g mk h
  obtain ⟨h0, h1, h2, h3, h4⟩ := h
  exact ⟨h0, h1, XN_vm (s := U) (U := U.calling g mk a) rfl h2, va_X.moved (u := U) (U := U.calling g mk a) (Vm.Alike.refl U.vm) h3, h4⟩
theorem KU_at {K : KT} {p : Program} {s : State} {m : Nat} {mid : MethodId} {args : Array Value} {meth : Method} {c : Code} {R : Room} {G : Gt} {I : It} {H : Heap} {locs : List Loc} (hF : Fr K p s m mid args meth c R) (hP : HP K G I H) (hS : va_S (kfr K) s.heap H locs) : ∀ U : State, U.heap = H → s.WarmedH U.vm → KU K G I U := by
  intro U hU hW
  obtain ⟨-, -, -, -, -, -, h7, h8, -, -, h11, h12⟩ := hF
  have hbl : kb K < s.heap.size := Nat.lt_of_lt_of_le h11 h12
  refine ⟨by rw [hU]; exact hP, XN_moved hW h7, ?_, h11, by rw [hU]; exact Nat.le_trans h12 hS.1⟩
  rw [hU]
  exact (va_X.moved hW.alike h8).kept (hS.2.1 _ hbl (by show ¬ kB K ≤ kb K; omega))
theorem met_of_sim {l : Launch} {K : KT} {f : Nat} (hS : SIM l K f) {m : Nat} {vs : List Value} {G : Gt} {I : It} {r : Option Value} {G' : Gt} {I' : It} (hm : m < 183) (hr : run f (m, 0, eL (pL m) vs, [], G, I) = some (r, G', I')) (hl : (aL vs).length ≤ pL m) :
    Met l (pY m) (.code (pY m) (pB m) (pL m) (pR m) :: tw) { frames := pF m, cells := G'.1 - G.1, slots := G'.2.1 - G.2.1, locals := pW m } (va_Pc (vs.map (tr K)) (KU K G I)) (Qx K G' I' r) (G'.1 - G.1) (G'.2.1 - G.2.1) (kfr K) := by
  obtain ⟨ok1, ok2, -, -, -, ok6, -⟩ := meth_ok (show m < 184 by omega)
  refine va_MetF (cc := pB m) (maxL := pL m) (ret := pR m) ok1 rfl ?_
  intro p e s mid args below meth c s₁ B hml hv
  obtain ⟨rfl, hP, hX, hXs, hb1, hb2⟩ := hv
  have hts := atoms_spec (ws := .code (pY m) (pB m) (pL m) (pR m) :: tw) B.pre
  have hown : s.vm.findClass (pO (pC m)) = some mid.cls := by rw [← ok2]; exact findClass_of_methodNamed B.named
  have hF : Fr K p s m mid (vs.map (tr K)).toArray meth c { frames := pF m, cells := G'.1 - G.1, slots := G'.2.1 - G.2.1, locals := pW m } :=
    ⟨B.exec, B.bytes, hml, hown, fun w hw => hts w (List.mem_cons_of_mem _ hw), fun hk => by rw [(name_of_methodNamed B.named B.method).1]; exact (ok6 hk).1, hX, hXs, Nat.le_refl _, Nat.le_refl _, hb1, hb2⟩
  have hll : (eL (pL m) vs).length = pL m := by unfold eL; rw [List.length_append, List.length_replicate]; omega
  rw [lg_entry_eq]
  refine hS m 0 (eL (pL m) vs) [] G I r G' I' hr hF hP va_S.rf (LO_entry K vs hl) hll rfl rfl rfl (Nat.le_of_eq (Nat.zero_add _)) (Nat.le_of_eq (Nat.zero_add _)) ?_
  intro pc' ls' H' locs' hP' hS' hret
  have hx := B.exec
  have hb := B.bytes
  have hlocks := B.notSynchronized
  rw [Nat.zero_add, Nat.zero_add]
  cases r with
  | none =>
    obtain ⟨d, hn⟩ := hret
    refine W.vret hx hb (by rw [B.returns, hn]) (fun t ht hW => ⟨⟨(), rfl, trivial, by show HP K G' I' t.heap; rw [ht]; exact hP'⟩, hS'.F ht⟩) hS'.2.2 d hlocks
  | some v =>
    cases v with
    | int v =>
      obtain ⟨d, hn⟩ := hret
      unfold rtI at hn
      simp only [Bool.or_eq_true, Bool.and_eq_true, decide_eq_true_eq] at hn
      have hq : ∀ t : State, t.heap = H' → s.WarmedH t.vm → Qx K G' I' (some (.int v)) (vs.map (tr K)).toArray s (.returned (some (.int v))) t := fun t ht hW => ⟨⟨v, (), rfl, rfl, by show HP K G' I' t.heap; rw [ht]; exact hP'⟩, hS'.F ht⟩
      rcases hn with hn | ⟨hn, hv⟩
      · exact W.zret (ty := .int) hx hb (by rw [B.returns, hn]) rfl hq hS'.2.2 d hlocks
      · refine W.zret (ty := .boolean) hx hb (by rw [B.returns, hn]) ?_ hq hS'.2.2 d hlocks
        unfold b01 at hv
        simp only [Bool.or_eq_true, decide_eq_true_eq] at hv
        rcases hv with rfl | rfl <;> rfl
    | ref v =>
      obtain ⟨d, hn⟩ := hret
      have hq : ∀ t : State, t.heap = H' → s.WarmedH t.vm → Qx K G' I' (some (.ref v)) (vs.map (tr K)).toArray s (.returned (some (.ref (ad K v)))) t := fun t ht hW => ⟨⟨(), ad K v, rfl, trivial, rfl, by show HP K G' I' t.heap; rw [ht]; exact hP'⟩, hS'.F ht⟩
      unfold rtA at hn
      have hrt : ∃ rt, pR m = some rt ∧ ((∃ n, rt = .object n) ∨ ∃ t, rt = .array t) := by
        split at hn
        · exact ⟨_, by assumption, Or.inl ⟨_, rfl⟩⟩
        · exact ⟨_, by assumption, Or.inr ⟨_, rfl⟩⟩
        · cases hn
      obtain ⟨rt, h1, h2⟩ := hrt
      exact W.aret (rt := rt) hx hb (by rw [B.returns, h1]) h2 (Or.inr ⟨_, rfl⟩) hq hS'.2.2 d hlocks
    | _ => exact hret.elim
end
section
/-! ===== one step of the small machine is a step of the machine ===== -/
theorem rn_no {g : Cf → Option Rs} {x : Rs} (h : rn g no = some x) : False := by cases (show (none : Option Rs) = some x from h)
theorem rn_gd {g : Cf → Option Rs} {c : Bool} {s : Sr} {x : Rs} (h : rn g (gd c s) = some x) : c = true ∧ rn g s = some x := by
  cases c with
  | false => exact (rn_no h).elim
  | true => exact ⟨rfl, h⟩
theorem rn_br {g : Cf → Option Rs} {c : Bool} {m pc : Nat} {off : Int} {ls : List (Option Value)} {st : List Value} {G : Gt} {I : It} {x : Rs} (h : rn g (br c m pc off ls st G I) = some x) :
    tgok pc off = true ∧ (c = true → rn g (go m (tg pc off) ls st G I) = some x) ∧ (c = false → rn g (go m (pc + 3) ls st G I) = some x) := by
  obtain ⟨h1, h2⟩ := rn_gd h
  exact ⟨h1, fun e => by rw [e] at h2; exact h2, fun e => by rw [e] at h2; exact h2⟩
theorem tg_eq {pc : Nat} {off : Int} (h : tgok pc off = true) : (pc : Int) + off = (tg pc off : Int) := by
  unfold tgok at h
  simp only [decide_eq_true_eq] at h
  unfold tg
  omega
theorem sL_len {ls ls' : List (Option Value)} {i : Nat} {v : Value} (h : sL ls i v = some ls') : i < ls.length ∧ ls'.length = ls.length := by
  unfold sL at h
  split at h
  · rename_i hc
    simp only [Bool.and_eq_true, decide_eq_true_eq] at hc
    rw [← Option.some.inj h, List.length_set]
    exact ⟨hc.1, rfl⟩
  · cases h
theorem sL2_len {ls ls' : List (Option Value)} {i : Nat} {v : Value} (h : sL2 ls i v = some ls') : i + 1 < ls.length ∧ ls'.length = ls.length := by
  unfold sL2 at h
  split at h
  · rename_i hc
    simp only [Bool.and_eq_true, decide_eq_true_eq] at hc
    rw [← Option.some.inj h, List.length_set, List.length_set]
    exact ⟨hc.1.1, rfl⟩
  · cases h
theorem inb_spec {i : Int32} {n : Nat} (h : inb i n = true) : vp_in i n := by
  unfold inb at h
  simp only [Bool.and_eq_true, decide_eq_true_eq] at h
  exact vp_in_iff.mpr h
theorem fL_mem {c i : Nat} (h : (fL c i).1 < 8) : (c, i, (fL c i).1, (fL c i).2) ∈ fTl := by
  unfold fL at h ⊢
  split at h
  · rename_i q hq
    have h1 := List.find?_some hq
    simp only [Bool.and_eq_true, beq_iff_eq] at h1
    have h2 := List.mem_of_find?_eq_some hq
    obtain ⟨a, b, c', d⟩ := q
    obtain ⟨e1, e2⟩ := h1
    simp only at e1 e2
    subst e1; subst e2
    exact h2
  · simp at h
theorem mL_mem {c i : Nat} (h : (mL c i).2 < 9) : (c, i, (mL c i).1, (mL c i).2) ∈ mTl := by
  unfold mL at h ⊢
  split at h
  · rename_i q hq
    have h1 := List.find?_some hq
    simp only [Bool.and_eq_true, beq_iff_eq] at h1
    have h2 := List.mem_of_find?_eq_some hq
    obtain ⟨a, b, c', d⟩ := q
    obtain ⟨e1, e2⟩ := h1
    simp only at e1 e2
    subst e1; subst e2
    exact h2
  · simp at h
theorem kL_mem {c i : Nat} (h : kL c i < 8) : (c, i, kL c i) ∈ kTl := by
  unfold kL at h ⊢
  split at h
  · rename_i q hq
    have h1 := List.find?_some hq
    simp only [Bool.and_eq_true, beq_iff_eq] at h1
    have h2 := List.mem_of_find?_eq_some hq
    obtain ⟨a, b, c'⟩ := q
    obtain ⟨e1, e2⟩ := h1
    simp only at e1 e2
    subst e1; subst e2
    exact h2
  · simp at h
theorem lL_mem {c i : Nat} {v : Int64} (h : lL c i = some v) : (c, i, v) ∈ lTl := by
  unfold lL at h
  split at h
  · rename_i q hq
    have h1 := List.find?_some hq
    simp only [Bool.and_eq_true, beq_iff_eq] at h1
    have h2 := List.mem_of_find?_eq_some hq
    obtain ⟨a, b, c'⟩ := q
    obtain ⟨e1, e2⟩ := h1
    simp only at e1 e2
    subst e1; subst e2
    have h3 : c' = v := Option.some.inj h
    rw [← h3]
    exact h2
  · cases h
theorem cl_at {c : Nat} (h : c < 8) : vwCl[c]? = some (clC c, clT c, clN c) := by
  have : c = 0 ∨ c = 1 ∨ c = 2 ∨ c = 3 ∨ c = 4 ∨ c = 5 ∨ c = 6 ∨ c = 7 := by omega
  rcases this with rfl | rfl | rfl | rfl | rfl | rfl | rfl | rfl <;> rfl
theorem cl_lays {c : Nat} (h : c < 8) : ∀ w ∈ u_ws (clC c) (clT c) (clN c), w ∈ tw := by
  intro w hw
  have h1 := List.all_eq_true.mp (List.all_eq_true.mp wd_lays c (List.mem_range.mpr h)) w hw
  simp only [Bool.and_eq_true, decide_eq_true_eq] at h1
  exact List.mem_filter.mpr h1
theorem cl_inst {c : Nat} (h : c < 8) : Cond.instantiable (clC c) (clN c) ∈ tw ∧ Cond.initialized (clC c) ∈ tw := by
  have h1 := List.all_eq_true.mp wd_class c (List.mem_range.mpr h)
  simp only [Bool.and_eq_true, decide_eq_true_eq] at h1
  exact ⟨List.mem_filter.mpr ⟨h1.1.1.1, h1.1.1.2⟩, List.mem_filter.mpr ⟨h1.1.2, h1.2⟩⟩
theorem cl_ty {c : Nat} (h : c < 8) : ∀ k, k < clN c → parseFieldDescriptor (clT c k).2.2.1 = some (clY c k) := by
  intro k hk
  have h1 := List.all_eq_true.mp (List.all_eq_true.mp wd_fieldT c (List.mem_range.mpr h)) k (List.mem_range.mpr hk)
  simp only [Bool.and_eq_true, decide_eq_true_eq] at h1
  exact h1.1.2
theorem cl_ft {c : Nat} (h : c < 8) : ∀ k, k < clN c → fT c k = (match clY c k with | .int => 0 | .boolean => 1 | .object _ => 2 | .array _ => 2 | _ => 7) ∧ fT c k < 3 := by
  intro k hk
  have h1 := List.all_eq_true.mp (List.all_eq_true.mp wd_fieldT c (List.mem_range.mpr h)) k (List.mem_range.mpr hk)
  simp only [Bool.and_eq_true, decide_eq_true_eq] at h1
  exact ⟨h1.1.1, h1.2⟩
theorem cl_nm {c : Nat} (h : c < 8) : ∀ a, a < clN c → ∀ b, b < clN c → a ≠ b → (clT c a).2.1 ≠ (clT c b).2.1 := by
  intro a ha b hb
  have h1 := List.all_eq_true.mp (List.all_eq_true.mp (List.all_eq_true.mp wd_names c (List.mem_range.mpr h)) a (List.mem_range.mpr ha)) b (List.mem_range.mpr hb)
  simp only [decide_eq_true_eq] at h1
  exact h1
theorem tr_rf (K : KT) (x : Option Nat) : tr K (va_rf x) = va_rf (x.map (ad K)) := by cases x <;> rfl
theorem tr_gf (K : KT) (G : Gt) (I : It) (c o k : Nat) : tr K (gf G I c o k) = fvl K c G I o k := by
  unfold gf fvl
  split
  · exact tr_rf K _
  · rfl
section SIMS
variable {p : Program} {l : Launch} {e : Env} {R : Room} {s : State} {m : MethodId} {args : Array Value} {below : List Frame} {meth : Method} {c : Code} {H : Heap} {locs : List Loc} {cells slots : Nat} {Q : State → Prop}
theorem W_sz {g : JFrame} (h : H.size ≤ s.heap.size + cells → W p l e R s m args below meth c H locs cells slots Q g) : W p l e R s m args below meth c H locs cells slots Q g := by
  intro T hT X
  have h1 := X.heapSize
  rw [hT] at h1
  exact h h1 T hT X
theorem call_done {K : KT} {G1 : Gt} {I1 : It} {r1 : Option Value} {aa : Array Value} {mc ms pc : Nat} {ls : Array Slot} {st0 rest : List Value} (hr : va_Run p l e R s m args below meth c H locs cells slots mc ms (F0 m pc ls st0) rest (Qx K G1 I1 r1 aa) (kfr K)) (hS : va_S (kfr K) s.heap H locs)
    (kk : ∀ (H1 : Heap) (locs1 : List Loc), HP K G1 I1 H1 → va_S (kfr K) s.heap H1 locs1 → W p l e R s m args below meth c H1 locs1 (cells + mc) (slots + ms) Q (F0 m (pc + 3) ls ((r1.map (tr K)).toList ++ rest))) : W p l e R s m args below meth c H locs cells slots Q (F0 m pc ls st0) := by
  cases r1 with
  | none => exact va_callv (a := aa) hr hS (fun _ _ h => h) (fun _ h => h) (fun u t H1 locs1 ht _ _ hB _ _ hS1 => kk H1 locs1 (ht ▸ hB) hS1)
  | some v =>
    cases v with
    | int v => exact va_calli (a := aa) hr hS (fun _ _ h => h) (fun _ h => h) (fun x u t H1 locs1 ht _ hp hB _ _ hS1 => by have := kk H1 locs1 (ht ▸ hB) hS1; rw [show x = v from hp]; exact this)
    | ref v => exact va_callr (a := aa) hr hS (fun _ _ h => h) (fun _ h => h) (fun u a t H1 locs1 ht _ _ hB _ _ hS1 => by have := kk H1 locs1 (ht ▸ hB.2) hS1; rw [hB.1]; exact this)
    | _ => intro T hT X; obtain ⟨_, _, _, _, _, _, _, _, _, _, hq, _⟩ := hr T hT X; exact hq.elim
end SIMS
end
section
set_option maxRecDepth 100000 in
set_option maxHeartbeats 8000000 in
theorem st_invokevirtual {l : Launch} {K : KT} {f : Nat} (hS : SIM l K f) {m pc : Nat} {als : List (Option Value)} {st : List Value} {G : Gt} {I : It} {r : Option Value} {G' : Gt} {I' : It} {p : Program} {e : Env} {s : State} {mid : MethodId} {args : Array Value} {below : List Frame} {meth : Method} {cd : Code} {H : Heap} {locs : List Loc} {R : Room} {cells slots cf sf : Nat} {Q : State → Prop} {ls : Array Slot}
    (hF : Fr K p s m mid args meth cd R) (hP : HP K G I H) (hSv : va_S (kfr K) s.heap H locs) (hL : LO K als ls) (hn : als.length = pL m) (hcz : H.size = s.heap.size + cells) (hc : cells + (G'.1 - G.1) = cf) (hsf : slots + (G'.2.1 - G.2.1) = sf) (hcf : cf ≤ R.cells) (hsf' : sf ≤ R.slots)
    (hret : ∀ (pc' : Nat) (ls' : Array Slot) (H' : Heap) (locs' : List Loc), HP K G' I' H' → va_S (kfr K) s.heap H' locs' → Ret m pc' r → W p l e R s mid args below meth cd H' locs' cf sf Q (F0 mid pc' ls' ((r.map (tr K)).toList)))
    {k : Nat} (hd : decode (pB m) pc = .ok (.invokevirtual k, 3)) (hrun : rn (run f) (sdi (.invokevirtual k) m pc als st G I) = some (r, G', I')) : W p l e R s mid args below meth cd H locs cells slots Q (F0 mid pc ls (st.map (tr K))) := by
  have hF0 := hF
  obtain ⟨hx, hb, hml, hown, hts, hini, hX, hXs, hfr, hwr, hb1, hb2⟩ := hF0
  have hbl : kb K < s.heap.size := Nat.lt_of_lt_of_le hb1 hb2
  have hbA : ¬ kfr K (kb K) := by show ¬ kB K ≤ kb K; omega
  have hD := wsO_D K G I
  have hA : ∀ q : Nat, s.heap.size ≤ q → kfr K q := fun q h => Nat.le_trans hb2 h
  have hLs : ls.size = pL m := by rw [← hn]; exact hL.1
  have go1 : ∀ {pc1 : Nat} {als1 : List (Option Value)} {st1 : List Value} {G1 : Gt} {I1 : It} {H1 : Heap} {locs1 : List Loc} {ls1 : Array Slot} , G1.1 = G.1 → G1.2.1 = G.2.1 → H1.size = H.size → rn (run f) (go m pc1 als1 st1 G1 I1) = some (r, G', I') → HP K G1 I1 H1 → va_S (kfr K) s.heap H1 locs1 → LO K als1 ls1 → als1.length = pL m →
      W p l e R s mid args below meth cd H1 locs1 cells slots Q (F0 mid pc1 ls1 (st1.map (tr K))) :=
    fun e1 e2 e3 h hP hS' hL hl => hS _ _ _ _ _ _ _ _ _ h hF hP hS' hL hl (by rw [e3]; exact hcz) (by rw [e1]; exact hc) (by rw [e2]; exact hsf) hcf hsf' hret
  have go0 : ∀ {pc1 : Nat} {als1 : List (Option Value)} {st1 : List Value} {ls1 : Array Slot}, rn (run f) (go m pc1 als1 st1 G I) = some (r, G', I') → LO K als1 ls1 → als1.length = pL m →
      W p l e R s mid args below meth cd H locs cells slots Q (F0 mid pc1 ls1 (st1.map (tr K))) := fun h hL hl => go1 rfl rfl rfl h hP hSv hL hl
  have fin : ∀ {pc1 : Nat} {r1 : Option Value} {rest : List Value} {G1 : Gt} {I1 : It}, run f (m, pc1, als, r1.toList ++ rest, G1, I1) = some (r, G', I') → G.1 ≤ G1.1 → G.2.1 ≤ G1.2.1 → ∀ (H1 : Heap) (locs1 : List Loc), HP K G1 I1 H1 → va_S (kfr K) s.heap H1 locs1 →
      W p l e R s mid args below meth cd H1 locs1 (cells + (G1.1 - G.1)) (slots + (G1.2.1 - G.2.1)) Q (F0 mid pc1 ls ((r1.map (tr K)).toList ++ rest.map (tr K))) := by
    intro pc1 r1 rest G1 I1 h g1 g2 H1 locs1 hP1 hS1
    have hm := run_grow _ _ _ _ _ _ _ _ _ _ h
    have e : (r1.map (tr K)).toList ++ rest.map (tr K) = (r1.toList ++ rest).map (tr K) := by cases r1 <;> rfl
    rw [e]
    have hz1 := hP.2.1
    have hz2 := hP1.2.1
    exact hS _ _ _ _ _ _ _ _ _ h hF hP1 hS1 hL hn (by omega) (by omega) (by omega) hcf hsf' hret
  simp only [sdi] at hrun
  split at hrun
  · rename_i b rest hmode hdrop
    obtain ⟨h0, hrun⟩ := rn_gd hrun
    unfold cal at hrun
    obtain ⟨h1, hrun⟩ := rn_gd hrun
    simp only [Bool.and_eq_true, decide_eq_true_eq] at h0 h1
    obtain ⟨hkb, hlen⟩ := h0
    obtain ⟨hcat, ⟨hfr1, hwr1⟩, hal⟩ := h1
    simp only [rn] at hrun
    split at hrun
    · cases hrun
    · rename_i x hr
      obtain ⟨r1, G1, I1⟩ := x
      have gg := run_grow _ _ _ _ _ _ _ _ _ _ hr
      simp only at hrun
      have gg2 := run_grow _ _ _ _ _ _ _ _ _ _ hrun
      have hR1 : pF (mL (pC m) k).1 + 1 ≤ R.frames := Nat.le_trans hfr1 hfr
      have hR2 : 8 + (pL (mL (pC m) k).1 + 11) + pW (mL (pC m) k).1 ≤ R.locals := Nat.le_trans hwr1 hwr
      have hC1 : cells + (G1.1 - G.1) ≤ R.cells := by omega
      have hC2 : slots + (G1.2.1 - G.2.1) ≤ R.slots := by omega
      obtain ⟨pp, hlk, hm'⟩ := wd_links _ (mL_mem (c := pC m) (i := k) (by rw [hmode]; decide))
      simp only at hm'
      unfold wd_link at hlk
      rw [hmode] at hlk
      simp only [Bool.and_eq_true, decide_eq_true_eq] at hlk
      obtain ⟨⟨⟨l1, l2⟩, l3⟩, l4⟩ := hlk
      obtain ⟨o1, o2, o3, o4, o5, o6, o7⟩ := meth_ok (show (mL (pC m) k).1 < 184 by omega)
      have hstk : st.map (tr K) = (((st.take (pN (mL (pC m) k).1)).reverse).map (tr K)).reverse ++ .ref (ad K b) :: rest.map (tr K) := by
        rw [← List.map_reverse, List.reverse_reverse]
        conv => lhs; rw [← List.take_append_drop (pN (mL (pC m) k).1) st, hdrop]
        rw [List.map_append, List.map_cons]
        rfl
      rw [hstk]
      obtain ⟨q0, q1, q2⟩ := kd_spec hkb (by omega) (by omega)
      have he := wsO_get (K := K) (I := I) q0 q1
      rw [elt_obj q2 l4] at he
      refine call_done (rest := rest.map (tr K)) (va_runV (Ts := tw) (As := ((st.take (pN (mL (pC m) k).1)).reverse).map (tr K)) (b := ad K b) ⟨hx, hb, hml, hown, hts⟩ (met_of_sim hS hm' hr hal)
        (cwV (own := pO (pC m)) (index := k) (C := (pY (mL (pC m) k).1).cls) (pN (mL (pC m) k).1) hts ?_ rfl rfl rfl ⟨rfl, o3, o4, o5⟩ ⟨hR1, hR2⟩)
        ⟨KU_blind K G I _, ?_, fun U hU hW => ⟨rfl, KU_at hF hP hSv U hU hW⟩⟩ rfl ?_ hLs rfl (lv_room (by rw [cats_tr]; exact hcat)) hd ⟨hC1, hC2⟩) hSv (fin hrun gg.1 gg.2)
      · intro w hw
        refine tw_self w ?_
        unfold wsV at hw
        rcases List.mem_append.mp hw with hw | hw
        · simp only [List.mem_cons, List.not_mem_nil, or_false] at hw
          rcases hw with rfl | rfl | rfl | rfl
          · exact wd_in l1
          · exact wd_in l2
          · exact wd_in l3
          · rw [o2]; exact init_ok o7
        · rcases List.mem_cons.mp hw with rfl | hw
          · exact wd_codes _ hm'
          · exact hw
      · rw [o2]
        exact va_recv hX.1 hP.1 (cl_at l4) he
      · rw [List.length_map, List.length_reverse]; exact hlen
  · exact (rn_no hrun).elim
end
section
set_option maxRecDepth 100000 in
set_option maxHeartbeats 8000000 in
theorem st_invokestatic {l : Launch} {K : KT} {f : Nat} (hS : SIM l K f) {m pc : Nat} {als : List (Option Value)} {st : List Value} {G : Gt} {I : It} {r : Option Value} {G' : Gt} {I' : It} {p : Program} {e : Env} {s : State} {mid : MethodId} {args : Array Value} {below : List Frame} {meth : Method} {cd : Code} {H : Heap} {locs : List Loc} {R : Room} {cells slots cf sf : Nat} {Q : State → Prop} {ls : Array Slot}
    (hF : Fr K p s m mid args meth cd R) (hP : HP K G I H) (hSv : va_S (kfr K) s.heap H locs) (hL : LO K als ls) (hn : als.length = pL m) (hcz : H.size = s.heap.size + cells) (hc : cells + (G'.1 - G.1) = cf) (hsf : slots + (G'.2.1 - G.2.1) = sf) (hcf : cf ≤ R.cells) (hsf' : sf ≤ R.slots)
    (hret : ∀ (pc' : Nat) (ls' : Array Slot) (H' : Heap) (locs' : List Loc), HP K G' I' H' → va_S (kfr K) s.heap H' locs' → Ret m pc' r → W p l e R s mid args below meth cd H' locs' cf sf Q (F0 mid pc' ls' ((r.map (tr K)).toList)))
    {k : Nat} (hd : decode (pB m) pc = .ok (.invokestatic k, 3)) (hrun : rn (run f) (sdi (.invokestatic k) m pc als st G I) = some (r, G', I')) : W p l e R s mid args below meth cd H locs cells slots Q (F0 mid pc ls (st.map (tr K))) := by
  have hF0 := hF
  obtain ⟨hx, hb, hml, hown, hts, hini, hX, hXs, hfr, hwr, hb1, hb2⟩ := hF0
  have hbl : kb K < s.heap.size := Nat.lt_of_lt_of_le hb1 hb2
  have hbA : ¬ kfr K (kb K) := by show ¬ kB K ≤ kb K; omega
  have hD := wsO_D K G I
  have hA : ∀ q : Nat, s.heap.size ≤ q → kfr K q := fun q h => Nat.le_trans hb2 h
  have hLs : ls.size = pL m := by rw [← hn]; exact hL.1
  have go1 : ∀ {pc1 : Nat} {als1 : List (Option Value)} {st1 : List Value} {G1 : Gt} {I1 : It} {H1 : Heap} {locs1 : List Loc} {ls1 : Array Slot} , G1.1 = G.1 → G1.2.1 = G.2.1 → H1.size = H.size → rn (run f) (go m pc1 als1 st1 G1 I1) = some (r, G', I') → HP K G1 I1 H1 → va_S (kfr K) s.heap H1 locs1 → LO K als1 ls1 → als1.length = pL m →
      W p l e R s mid args below meth cd H1 locs1 cells slots Q (F0 mid pc1 ls1 (st1.map (tr K))) :=
    fun e1 e2 e3 h hP hS' hL hl => hS _ _ _ _ _ _ _ _ _ h hF hP hS' hL hl (by rw [e3]; exact hcz) (by rw [e1]; exact hc) (by rw [e2]; exact hsf) hcf hsf' hret
  have go0 : ∀ {pc1 : Nat} {als1 : List (Option Value)} {st1 : List Value} {ls1 : Array Slot}, rn (run f) (go m pc1 als1 st1 G I) = some (r, G', I') → LO K als1 ls1 → als1.length = pL m →
      W p l e R s mid args below meth cd H locs cells slots Q (F0 mid pc1 ls1 (st1.map (tr K))) := fun h hL hl => go1 rfl rfl rfl h hP hSv hL hl
  have fin : ∀ {pc1 : Nat} {r1 : Option Value} {rest : List Value} {G1 : Gt} {I1 : It}, run f (m, pc1, als, r1.toList ++ rest, G1, I1) = some (r, G', I') → G.1 ≤ G1.1 → G.2.1 ≤ G1.2.1 → ∀ (H1 : Heap) (locs1 : List Loc), HP K G1 I1 H1 → va_S (kfr K) s.heap H1 locs1 →
      W p l e R s mid args below meth cd H1 locs1 (cells + (G1.1 - G.1)) (slots + (G1.2.1 - G.2.1)) Q (F0 mid pc1 ls ((r1.map (tr K)).toList ++ rest.map (tr K))) := by
    intro pc1 r1 rest G1 I1 h g1 g2 H1 locs1 hP1 hS1
    have hm := run_grow _ _ _ _ _ _ _ _ _ _ h
    have e : (r1.map (tr K)).toList ++ rest.map (tr K) = (r1.toList ++ rest).map (tr K) := by cases r1 <;> rfl
    rw [e]
    have hz1 := hP.2.1
    have hz2 := hP1.2.1
    exact hS _ _ _ _ _ _ _ _ _ h hF hP1 hS1 hL hn (by omega) (by omega) (by omega) hcf hsf' hret
  simp only [sdi] at hrun
  split at hrun
  · rename_i hcp
    split at hrun
    · rename_i n' dp a1 sp a0 rest
      obtain ⟨h0, hrun⟩ := rn_gd hrun
      simp only [Bool.and_eq_true, decide_eq_true_eq] at h0
      obtain ⟨⟨⟨⟨⟨⟨⟨⟨hcat, hf1⟩, hw1⟩, hk0, hk1⟩, hsp⟩, hdp⟩, hn0⟩, hs1⟩, hs2⟩ := h0
      have hk2 : kd G a1 = 50 := by rw [← hk0]; exact hk1
      obtain ⟨q0, q1, q2⟩ := kd_spec hk1 (by decide) (by decide)
      obtain ⟨w0, w1, w2⟩ := kd_spec hk2 (by decide) (by decide)
      have he := wsO_get (K := K) (I := I) q0 q1
      rw [elt_int q2 (by decide) (by decide)] at he
      have hw := wsO_get (K := K) (I := I) w0 w1
      rw [elt_int w2 (by decide) (by decide)] at hw
      have ng : ∀ z : Int32, 0 ≤ z.toInt → ¬ z < 0 := fun z hz => by rw [Int32.lt_iff_toInt_lt, Int32.toInt_zero]; omega
      obtain ⟨c1, c2', c3⟩ := wd_copy2
      refine va_copyi hx hb (by rw [hml, hLs]) hown (hts _ (wd_copy _ hcp)) (hts _ (wd_in c1)) (hts _ (wd_in c2')) (hts _ (wd_in c3)) hX.1 hP.1 hD hSv (a0 - 1) (a1 - 1) 0 0 (ty := .int) he hw rfl rfl rfl (ng sp hsp) (ng dp hdp) (ng n' hn0) hs1 hs2 (fun _ _ => rfl) (by omega) ?_ hd (fun H1 locs1 hP1 _ hS1 => W_sz fun hz => ?_)
      · rw [cats_tr]
        have : nativeFrameWords "java/lang/System" "arraycopy" 5 = 7 := by decide
        rw [this]
        omega
      · have hP2 := HP_acp hP hk2 (by decide) (by decide) H1 (by omega) hP1
        exact go1 rfl rfl (by have := hP2.2.1; have := hP.2.1; omega) hrun hP2 hS1 hL hn
    · exact (rn_no hrun).elim
  · obtain ⟨h0, hrun⟩ := rn_gd hrun
    unfold cal at hrun
    obtain ⟨h1, hrun⟩ := rn_gd hrun
    simp only [Bool.and_eq_true, decide_eq_true_eq] at h0 h1
    obtain ⟨hmode, hlen⟩ := h0
    obtain ⟨hcat, ⟨hfr1, hwr1⟩, hal⟩ := h1
    simp only [rn] at hrun
    split at hrun
    · cases hrun
    · rename_i x hr
      obtain ⟨r1, G1, I1⟩ := x
      have gg := run_grow _ _ _ _ _ _ _ _ _ _ hr
      simp only at hrun
      have gg2 := run_grow _ _ _ _ _ _ _ _ _ _ hrun
      have hR1 : pF (mL (pC m) k).1 + 1 ≤ R.frames := Nat.le_trans hfr1 hfr
      have hR2 : 8 + (pL (mL (pC m) k).1 + 11) + pW (mL (pC m) k).1 ≤ R.locals := Nat.le_trans hwr1 hwr
      have hC1 : cells + (G1.1 - G.1) ≤ R.cells := by omega
      have hC2 : slots + (G1.2.1 - G.2.1) ≤ R.slots := by omega
      obtain ⟨pp, hlk, hm'⟩ := wd_links _ (mL_mem (c := pC m) (i := k) (by rcases hmode with z | z <;> rw [z] <;> decide))
      simp only at hm'
      obtain ⟨o1, o2, o3, o4, o5, o6, o7⟩ := meth_ok (show (mL (pC m) k).1 < 184 by omega)
      have hstk : st.map (tr K) = (((st.take (pN (mL (pC m) k).1)).reverse).map (tr K)).reverse ++ (st.drop (pN (mL (pC m) k).1)).map (tr K) := by
        rw [← List.map_reverse, List.reverse_reverse]
        conv => lhs; rw [← List.take_append_drop (pN (mL (pC m) k).1) st]
        rw [List.map_append]
      rw [hstk]
      have hasl : (((st.take (pN (mL (pC m) k).1)).reverse).map (tr K)).length = pN (mL (pC m) k).1 := by rw [List.length_map, List.length_reverse]; exact hlen
      unfold wd_link at hlk
      rcases hmode with hmode | hmode
      · rw [hmode] at hlk
        simp only [Bool.and_eq_true] at hlk
        obtain ⟨l1, l2⟩ := hlk
        refine call_done (rest := (st.drop (pN (mL (pC m) k).1)).map (tr K)) (va_runS (Ts := tw) (As := ((st.take (pN (mL (pC m) k).1)).reverse).map (tr K)) ⟨hx, hb, hml, hown, hts⟩ (met_of_sim hS hm' hr hal)
          (va_cwS (own := pO (pC m)) (index := k) (pN (mL (pC m) k).1) hts ?_ rfl rfl rfl ⟨o3, o4, o5⟩ ⟨hR1, hR2⟩)
          ⟨KU_blind K G I _, fun U hU hW => ⟨rfl, KU_at hF hP hSv U hU hW⟩⟩ rfl hasl hLs rfl (lv_room (by rw [cats_tr]; exact hcat)) hd ⟨hC1, hC2⟩) hSv (fin hrun gg.1 gg.2)
        intro w hw
        refine tw_self w ?_
        unfold va_wsS at hw
        rcases List.mem_append.mp hw with hw | hw
        · simp only [List.mem_cons, List.not_mem_nil, or_false] at hw
          rcases hw with rfl | rfl | rfl
          · exact wd_in l1
          · exact wd_in l2
          · rw [o2]; exact init_ok o7
        · rcases List.mem_cons.mp hw with rfl | hw
          · exact wd_codes _ hm'
          · exact hw
      · rw [hmode] at hlk
        simp only [Bool.and_eq_true, decide_eq_true_eq] at hlk
        obtain ⟨l1, l2⟩ := hlk
        refine call_done (rest := (st.drop (pN (mL (pC m) k).1)).map (tr K)) (va_runSN (Ts := tw) (As := ((st.take (pN (mL (pC m) k).1)).reverse).map (tr K)) ⟨hx, hb, hml, hown, hts⟩ (met_of_sim hS hm' hr hal)
          ⟨va_cnB (own := pO (pC m)) (host := "SettingsVault") (index := k) (pN (mL (pC m) k).1) hts ?_ rfl rfl rfl (hX.2.1 _ l1) (hts _ (by rw [o2]; exact init_ok o7)) ⟨o3, o4, o5⟩ ⟨hR1, hR2⟩, hts _ (wd_in l2), trivial⟩
          ⟨KU_blind K G I _, fun U hU hW => ⟨rfl, KU_at hF hP hSv U hU hW⟩⟩ rfl hasl hLs rfl (lv_room (by rw [cats_tr]; exact hcat)) hd ⟨hC1, hC2⟩) hSv (fin hrun gg.1 gg.2)
        intro w hw
        refine tw_self w ?_
        rcases List.mem_cons.mp hw with rfl | hw
        · exact wd_codes _ hm'
        · exact hw
end
section
set_option maxRecDepth 100000 in
set_option maxHeartbeats 8000000 in
theorem st_invokespecial {l : Launch} {K : KT} {f : Nat} (hS : SIM l K f) {m pc : Nat} {als : List (Option Value)} {st : List Value} {G : Gt} {I : It} {r : Option Value} {G' : Gt} {I' : It} {p : Program} {e : Env} {s : State} {mid : MethodId} {args : Array Value} {below : List Frame} {meth : Method} {cd : Code} {H : Heap} {locs : List Loc} {R : Room} {cells slots cf sf : Nat} {Q : State → Prop} {ls : Array Slot}
    (hF : Fr K p s m mid args meth cd R) (hP : HP K G I H) (hSv : va_S (kfr K) s.heap H locs) (hL : LO K als ls) (hn : als.length = pL m) (hcz : H.size = s.heap.size + cells) (hc : cells + (G'.1 - G.1) = cf) (hsf : slots + (G'.2.1 - G.2.1) = sf) (hcf : cf ≤ R.cells) (hsf' : sf ≤ R.slots)
    (hret : ∀ (pc' : Nat) (ls' : Array Slot) (H' : Heap) (locs' : List Loc), HP K G' I' H' → va_S (kfr K) s.heap H' locs' → Ret m pc' r → W p l e R s mid args below meth cd H' locs' cf sf Q (F0 mid pc' ls' ((r.map (tr K)).toList)))
    {k : Nat} (hd : decode (pB m) pc = .ok (.invokespecial k, 3)) (hrun : rn (run f) (sdi (.invokespecial k) m pc als st G I) = some (r, G', I')) : W p l e R s mid args below meth cd H locs cells slots Q (F0 mid pc ls (st.map (tr K))) := by
  have hF0 := hF
  obtain ⟨hx, hb, hml, hown, hts, hini, hX, hXs, hfr, hwr, hb1, hb2⟩ := hF0
  have hbl : kb K < s.heap.size := Nat.lt_of_lt_of_le hb1 hb2
  have hbA : ¬ kfr K (kb K) := by show ¬ kB K ≤ kb K; omega
  have hD := wsO_D K G I
  have hA : ∀ q : Nat, s.heap.size ≤ q → kfr K q := fun q h => Nat.le_trans hb2 h
  have hLs : ls.size = pL m := by rw [← hn]; exact hL.1
  have go1 : ∀ {pc1 : Nat} {als1 : List (Option Value)} {st1 : List Value} {G1 : Gt} {I1 : It} {H1 : Heap} {locs1 : List Loc} {ls1 : Array Slot} , G1.1 = G.1 → G1.2.1 = G.2.1 → H1.size = H.size → rn (run f) (go m pc1 als1 st1 G1 I1) = some (r, G', I') → HP K G1 I1 H1 → va_S (kfr K) s.heap H1 locs1 → LO K als1 ls1 → als1.length = pL m →
      W p l e R s mid args below meth cd H1 locs1 cells slots Q (F0 mid pc1 ls1 (st1.map (tr K))) :=
    fun e1 e2 e3 h hP hS' hL hl => hS _ _ _ _ _ _ _ _ _ h hF hP hS' hL hl (by rw [e3]; exact hcz) (by rw [e1]; exact hc) (by rw [e2]; exact hsf) hcf hsf' hret
  have go0 : ∀ {pc1 : Nat} {als1 : List (Option Value)} {st1 : List Value} {ls1 : Array Slot}, rn (run f) (go m pc1 als1 st1 G I) = some (r, G', I') → LO K als1 ls1 → als1.length = pL m →
      W p l e R s mid args below meth cd H locs cells slots Q (F0 mid pc1 ls1 (st1.map (tr K))) := fun h hL hl => go1 rfl rfl rfl h hP hSv hL hl
  have fin : ∀ {pc1 : Nat} {r1 : Option Value} {rest : List Value} {G1 : Gt} {I1 : It}, run f (m, pc1, als, r1.toList ++ rest, G1, I1) = some (r, G', I') → G.1 ≤ G1.1 → G.2.1 ≤ G1.2.1 → ∀ (H1 : Heap) (locs1 : List Loc), HP K G1 I1 H1 → va_S (kfr K) s.heap H1 locs1 →
      W p l e R s mid args below meth cd H1 locs1 (cells + (G1.1 - G.1)) (slots + (G1.2.1 - G.2.1)) Q (F0 mid pc1 ls ((r1.map (tr K)).toList ++ rest.map (tr K))) := by
    intro pc1 r1 rest G1 I1 h g1 g2 H1 locs1 hP1 hS1
    have hm := run_grow _ _ _ _ _ _ _ _ _ _ h
    have e : (r1.map (tr K)).toList ++ rest.map (tr K) = (r1.toList ++ rest).map (tr K) := by cases r1 <;> rfl
    rw [e]
    have hz1 := hP.2.1
    have hz2 := hP1.2.1
    exact hS _ _ _ _ _ _ _ _ _ h hF hP1 hS1 hL hn (by omega) (by omega) (by omega) hcf hsf' hret
  simp only [sdi] at hrun
  split at hrun
  · rename_i hcp
    split at hrun
    · rename_i a rest
      obtain ⟨h0, hrun⟩ := rn_gd hrun
      simp only [Bool.and_eq_true, decide_eq_true_eq] at h0
      obtain ⟨⟨hcat, hf1⟩, hw1⟩ := h0
      obtain ⟨c1, c2'⟩ := wd_obj2
      refine W.objInit hx hb hown (hts _ (wd_obj _ hcp)) (hts _ (wd_in c1)) (hts _ (wd_in c2')) rfl (by rw [hml]; exact hLs) rfl hd (by omega) ?_ (go0 hrun hL hn)
      show 2 * 0 + _ + 12 ≤ _
      rw [cats_tr]
      omega
    · exact (rn_no hrun).elim
  · split at hrun
    · rename_i b rest hdrop
      obtain ⟨h0, hrun⟩ := rn_gd hrun
      unfold cal at hrun
      obtain ⟨h1, hrun⟩ := rn_gd hrun
      simp only [Bool.and_eq_true, decide_eq_true_eq] at h0 h1
      obtain ⟨hmode, hlen⟩ := h0
      obtain ⟨hcat, ⟨hfr1, hwr1⟩, hal⟩ := h1
      simp only [rn] at hrun
      split at hrun
      · cases hrun
      · rename_i x hr
        obtain ⟨r1, G1, I1⟩ := x
        have gg := run_grow _ _ _ _ _ _ _ _ _ _ hr
        simp only at hrun
        have gg2 := run_grow _ _ _ _ _ _ _ _ _ _ hrun
        have hR1 : pF (mL (pC m) k).1 + 1 ≤ R.frames := Nat.le_trans hfr1 hfr
        have hR2 : 8 + (pL (mL (pC m) k).1 + 11) + pW (mL (pC m) k).1 ≤ R.locals := Nat.le_trans hwr1 hwr
        have hC1 : cells + (G1.1 - G.1) ≤ R.cells := by omega
        have hC2 : slots + (G1.2.1 - G.2.1) ≤ R.slots := by omega
        obtain ⟨pp, hlk, hm'⟩ := wd_links _ (mL_mem (c := pC m) (i := k) (by rcases hmode with z | z <;> rw [z] <;> decide))
        simp only at hm'
        obtain ⟨o1, o2, o3, o4, o5, o6, o7⟩ := meth_ok (show (mL (pC m) k).1 < 184 by omega)
        have hstk : st.map (tr K) = (((st.take (pN (mL (pC m) k).1)).reverse).map (tr K)).reverse ++ .ref (ad K b) :: rest.map (tr K) := by
          rw [← List.map_reverse, List.reverse_reverse]
          conv => lhs; rw [← List.take_append_drop (pN (mL (pC m) k).1) st, hdrop]
          rw [List.map_append, List.map_cons]
          rfl
        rw [hstk]
        have hasl : (((st.take (pN (mL (pC m) k).1)).reverse).map (tr K)).length = pN (mL (pC m) k).1 := by rw [List.length_map, List.length_reverse]; exact hlen
        have hgi : GoodIn tw (Cond.code (pY (mL (pC m) k).1) (pB (mL (pC m) k).1) (pL (mL (pC m) k).1) none :: tw) := by
          intro w hw
          refine tw_self w ?_
          rcases List.mem_cons.mp hw with rfl | hw
          · have := wd_codes _ hm'
            rw [(o6 ?_).2] at this
            · exact this
            · unfold wd_link at hlk
              rcases hmode with hmode | hmode <;> rw [hmode] at hlk <;> simp only [Bool.and_eq_true, decide_eq_true_eq] at hlk <;> exact hlk.2
          · exact hw
        have hk2 : pK (mL (pC m) k).1 = 2 := by
          unfold wd_link at hlk
          rcases hmode with hmode | hmode <;> rw [hmode] at hlk <;> simp only [Bool.and_eq_true, decide_eq_true_eq] at hlk <;> exact hlk.2
        have hM := met_of_sim hS hm' hr hal
        rw [(o6 hk2).2] at hM
        unfold wd_link at hlk
        rcases hmode with hmode | hmode
        · rw [hmode] at hlk
          simp only [Bool.and_eq_true, decide_eq_true_eq] at hlk
          obtain ⟨⟨l1, l2⟩, l3⟩ := hlk
          exact call_done (rest := rest.map (tr K)) (va_runI (Ts := tw) (As := ((st.take (pN (mL (pC m) k).1)).reverse).map (tr K)) (b := ad K b) ⟨hx, hb, hml, hown, hts⟩ hM
            (cwI (own := pO (pC m)) (index := k) (pN (mL (pC m) k).1) hts hgi rfl rfl rfl (hts _ (by rw [o2]; exact init_ok o7)) (hts _ (wd_in l1)) (hts _ (wd_in l2)) (o6 hk2).1 ⟨o3, o4, o5⟩ ⟨hR1, hR2⟩)
            ⟨KU_blind K G I _, fun U hU hW => ⟨rfl, KU_at hF hP hSv U hU hW⟩⟩ rfl hasl hLs rfl (lv_room (by rw [cats_tr]; exact hcat)) hd ⟨hC1, hC2⟩) hSv (fin hrun gg.1 gg.2)
        · rw [hmode] at hlk
          simp only [Bool.and_eq_true, decide_eq_true_eq] at hlk
          obtain ⟨⟨l1, l2⟩, l3⟩ := hlk
          exact call_done (rest := rest.map (tr K)) (va_runIN (Ts := tw) (As := ((st.take (pN (mL (pC m) k).1)).reverse).map (tr K)) (b := ad K b) ⟨hx, hb, hml, hown, hts⟩ hM
            ⟨va_cnB (own := pO (pC m)) (host := "SettingsVault") (index := k) (pN (mL (pC m) k).1) hts hgi rfl rfl rfl (hX.2.1 _ l1) (hts _ (by rw [o2]; exact init_ok o7)) ⟨o3, o4, o5⟩ ⟨hR1, hR2⟩, (o6 hk2).1, hts _ (wd_in l2)⟩
            ⟨KU_blind K G I _, fun U hU hW => ⟨rfl, KU_at hF hP hSv U hU hW⟩⟩ rfl hasl hLs rfl (lv_room (by rw [cats_tr]; exact hcat)) hd ⟨hC1, hC2⟩) hSv (fin hrun gg.1 gg.2)
    · exact (rn_no hrun).elim
end
section
theorem hn_of {a n : Nat} {b : Bool} (h : (decide (a = n) || b) = true) (hb : b = false) : a = n := by
  rw [hb, Bool.or_false] at h
  exact of_decide_eq_true h
set_option maxRecDepth 100000 in
set_option maxHeartbeats 8000000 in
theorem sim_step {l : Launch} {K : KT} {f : Nat} (hS : SIM l K f) : SIM l K (f + 1) := by
  intro m pc als st G I r G' I' hrun p e s mid args below meth cd H locs R cells slots cf sf Q ls hF hP hSv hL hn hcz hc hsf hcf hsf' hret
  have hF0 := hF
  obtain ⟨hx, hb, hml, hown, hts, hini, hX, hXs, hfr, hwr, hb1, hb2⟩ := hF0
  have hbl : kb K < s.heap.size := Nat.lt_of_lt_of_le hb1 hb2
  have hbA : ¬ kfr K (kb K) := by show ¬ kB K ≤ kb K; omega
  have hD := wsO_D K G I
  have hA : ∀ q : Nat, s.heap.size ≤ q → kfr K q := fun q h => Nat.le_trans hb2 h
  have hLs : ls.size = pL m := by rw [← hn]; exact hL.1
  rw [run] at hrun
  unfold sd at hrun
  simp only at hrun
  cases hd : decode (pB m) pc with
  | error x => rw [hd] at hrun; exact (rn_no hrun).elim
  | ok q =>
    obtain ⟨i, n⟩ := q
    rw [hd] at hrun
    simp only at hrun
    have hr0 := rn_gd hrun
    clear hrun
    obtain ⟨hg, hrun⟩ := hr0
    have go1 : ∀ {pc1 : Nat} {als1 : List (Option Value)} {st1 : List Value} {G1 : Gt} {I1 : It} {H1 : Heap} {locs1 : List Loc} {ls1 : Array Slot} , G1.1 = G.1 → G1.2.1 = G.2.1 → H1.size = H.size → rn (run f) (go m pc1 als1 st1 G1 I1) = some (r, G', I') → HP K G1 I1 H1 → va_S (kfr K) s.heap H1 locs1 → LO K als1 ls1 → als1.length = pL m →
        W p l e R s mid args below meth cd H1 locs1 cells slots Q (F0 mid pc1 ls1 (st1.map (tr K))) :=
      fun e1 e2 e3 h hP hS' hL hl => hS _ _ _ _ _ _ _ _ _ h hF hP hS' hL hl (by rw [e3]; exact hcz) (by rw [e1]; exact hc) (by rw [e2]; exact hsf) hcf hsf' hret
    have go0 : ∀ {pc1 : Nat} {als1 : List (Option Value)} {st1 : List Value} {ls1 : Array Slot}, rn (run f) (go m pc1 als1 st1 G I) = some (r, G', I') → LO K als1 ls1 → als1.length = pL m →
        W p l e R s mid args below meth cd H locs cells slots Q (F0 mid pc1 ls1 (st1.map (tr K))) := fun h hL hl => go1 rfl rfl rfl h hP hSv hL hl
    have goG : ∀ {kk len pc1 : Nat} {st1 : List Value} {H1 : Heap} {locs1 : List Loc}, rn (run f) (go m pc1 als st1 (nG G kk len) (nI0 G I)) = some (r, G', I') → HP K (nG G kk len) (nI0 G I) H1 → va_S (kfr K) s.heap H1 locs1 →
        W p l e R s mid args below meth cd H1 locs1 (cells + 1) (slots + len) Q (F0 mid pc1 ls (st1.map (tr K))) := by
      intro kk len pc1 st1 H1 locs1 h hP1 hS1
      have hm := run_grow _ _ _ _ _ _ _ _ _ _ h
      have h1 : (nG G kk len).1 = G.1 + 1 := rfl
      have h2 : (nG G kk len).2.1 = G.2.1 + len := rfl
      rw [h1, h2] at hm
      have hz1 := hP.2.1
      have hz2 := hP1.2.1
      refine hS _ _ _ _ _ _ _ _ _ h hF hP1 hS1 hL hn ?_ ?_ ?_ hcf hsf' hret
      · rw [h1] at hz2; omega
      · rw [h1]; omega
      · rw [h2]; omega
    have fin : ∀ {pc1 : Nat} {r1 : Option Value} {rest : List Value} {G1 : Gt} {I1 : It}, run f (m, pc1, als, r1.toList ++ rest, G1, I1) = some (r, G', I') → G.1 ≤ G1.1 → G.2.1 ≤ G1.2.1 → ∀ (H1 : Heap) (locs1 : List Loc), HP K G1 I1 H1 → va_S (kfr K) s.heap H1 locs1 →
        W p l e R s mid args below meth cd H1 locs1 (cells + (G1.1 - G.1)) (slots + (G1.2.1 - G.2.1)) Q (F0 mid pc1 ls ((r1.map (tr K)).toList ++ rest.map (tr K))) := by
      intro pc1 r1 rest G1 I1 h g1 g2 H1 locs1 hP1 hS1
      have hm := run_grow _ _ _ _ _ _ _ _ _ _ h
      have e : (r1.map (tr K)).toList ++ rest.map (tr K) = (r1.toList ++ rest).map (tr K) := by cases r1 <;> rfl
      rw [e]
      have hz1 := hP.2.1
      have hz2 := hP1.2.1
      exact hS _ _ _ _ _ _ _ _ _ h hF hP1 hS1 hL hn (by omega) (by omega) (by omega) hcf hsf' hret
    cases i with
    | iconst n' =>
      have hn1 : 1 = n := hn_of hg rfl
      subst hn1
      exact lv_iconst hx hb hd rfl (go0 hrun hL hn)
    | bipush n' =>
      have hn1 : 2 = n := hn_of hg rfl
      subst hn1
      exact lv_bipush hx hb hd rfl (go0 hrun hL hn)
    | sipush n' =>
      have hn1 : 3 = n := hn_of hg rfl
      subst hn1
      exact lv_sipush hx hb hd rfl (go0 hrun hL hn)
    | lconst n' =>
      have hn1 : 1 = n := hn_of hg rfl
      subst hn1
      exact lv_lconst hx hb hd rfl (go0 hrun hL hn)
    | ldc2_w k =>
      have hn1 : 3 = n := hn_of hg rfl
      subst hn1
      simp only [sdi] at hrun
      split at hrun
      · rename_i v hv
        exact lv_ldc2 hx hb hown (hts _ (wd_long _ (lL_mem hv))) hd (go0 hrun hL hn)
      · exact (rn_no hrun).elim
    | iload_n k =>
      have hn1 : 1 = n := hn_of hg rfl
      subst hn1
      simp only [sdi, ldI] at hrun
      split at hrun
      · rename_i x hk
        exact lv_iload_n hx hb hd rfl (LO_at hL hk) (go0 hrun hL hn)
      · exact (rn_no hrun).elim
    | iload k =>
      have hn1 : 2 = n := hn_of hg rfl
      subst hn1
      simp only [sdi, ldI] at hrun
      split at hrun
      · rename_i x hk
        exact lv_iload hx hb hd (LO_at hL hk) (go0 hrun hL hn)
      · exact (rn_no hrun).elim
    | lload_n k =>
      have hn1 : 1 = n := hn_of hg rfl
      subst hn1
      simp only [sdi, ldJ] at hrun
      split at hrun
      · rename_i x hk
        exact lv_lload_n hx hb hd rfl (LO_at hL hk) (go0 hrun hL hn)
      · exact (rn_no hrun).elim
    | lload k =>
      have hn1 : 2 = n := hn_of hg rfl
      subst hn1
      simp only [sdi, ldJ] at hrun
      split at hrun
      · rename_i x hk
        exact lv_lload hx hb hd (LO_at hL hk) (go0 hrun hL hn)
      · exact (rn_no hrun).elim
    | aload_n k =>
      have hn1 : 1 = n := hn_of hg rfl
      subst hn1
      simp only [sdi, ldA] at hrun
      split at hrun
      · rename_i x hk
        exact lv_aload_n hx hb hd rfl (LO_at hL hk) (go0 hrun hL hn)
      · exact (rn_no hrun).elim
    | aload k =>
      have hn1 : 2 = n := hn_of hg rfl
      subst hn1
      simp only [sdi, ldA] at hrun
      split at hrun
      · rename_i x hk
        exact lv_aload hx hb hd (LO_at hL hk) (go0 hrun hL hn)
      · exact (rn_no hrun).elim
    | istore_n k =>
      have hn1 : 1 = n := hn_of hg rfl
      subst hn1
      simp only [sdi, stI] at hrun
      split at hrun
      · split at hrun
        · rename_i ls' hs
          exact lv_istore_n hx hb hd rfl hL (sL_len hs).1 rfl (fun ls2 h2 => go0 hrun (LO_st hs h2) ((sL_len hs).2.trans hn))
        · exact (rn_no hrun).elim
      · exact (rn_no hrun).elim
    | istore k =>
      have hn1 : 2 = n := hn_of hg rfl
      subst hn1
      simp only [sdi, stI] at hrun
      split at hrun
      · split at hrun
        · rename_i ls' hs
          exact lv_istore hx hb hd hL (sL_len hs).1 rfl (fun ls2 h2 => go0 hrun (LO_st hs h2) ((sL_len hs).2.trans hn))
        · exact (rn_no hrun).elim
      · exact (rn_no hrun).elim
    | astore_n k =>
      have hn1 : 1 = n := hn_of hg rfl
      subst hn1
      simp only [sdi, stA] at hrun
      split at hrun
      · split at hrun
        · rename_i ls' hs
          exact lv_astore_n hx hb hd rfl hL (sL_len hs).1 rfl (fun ls2 h2 => go0 hrun (LO_st hs h2) ((sL_len hs).2.trans hn))
        · exact (rn_no hrun).elim
      · exact (rn_no hrun).elim
    | astore k =>
      have hn1 : 2 = n := hn_of hg rfl
      subst hn1
      simp only [sdi, stA] at hrun
      split at hrun
      · split at hrun
        · rename_i ls' hs
          exact lv_astore hx hb hd hL (sL_len hs).1 rfl (fun ls2 h2 => go0 hrun (LO_st hs h2) ((sL_len hs).2.trans hn))
        · exact (rn_no hrun).elim
      · exact (rn_no hrun).elim
    | lstore_n k =>
      have hn1 : 1 = n := hn_of hg rfl
      subst hn1
      simp only [sdi, stJ] at hrun
      split at hrun
      · split at hrun
        · rename_i ls' hs
          exact lv_lstore_n hx hb hd rfl hL (sL2_len hs).1 rfl (fun ls2 h2 => go0 hrun (LO_st2 hs h2) ((sL2_len hs).2.trans hn))
        · exact (rn_no hrun).elim
      · exact (rn_no hrun).elim
    | lstore k =>
      have hn1 : 2 = n := hn_of hg rfl
      subst hn1
      simp only [sdi, stJ] at hrun
      split at hrun
      · split at hrun
        · rename_i ls' hs
          exact lv_lstore hx hb hd hL (sL2_len hs).1 rfl (fun ls2 h2 => go0 hrun (LO_st2 hs h2) ((sL2_len hs).2.trans hn))
        · exact (rn_no hrun).elim
      · exact (rn_no hrun).elim
    | iinc k n' =>
      have hn1 : 3 = n := hn_of hg rfl
      subst hn1
      simp only [sdi] at hrun
      split at hrun
      · rename_i x hk
        split at hrun
        · rename_i ls' hs
          obtain ⟨kk, hkk⟩ := List.getElem?_of_mem (lp_mem.mpr ⟨_, hk, rfl⟩ : (k, tr K (.int x)) ∈ lp K als)
          exact lv_iinc hx hb hd hL hkk rfl (sL_len hs).1 rfl (fun ls2 h2 => go0 hrun (LO_st hs h2) ((sL_len hs).2.trans hn))
        · exact (rn_no hrun).elim
      · exact (rn_no hrun).elim
    | iadd =>
      have hn1 : 1 = n := hn_of hg rfl
      subst hn1
      simp only [sdi] at hrun
      split at hrun
      · exact lv_iadd hx hb hd (go0 hrun hL hn)
      · exact (rn_no hrun).elim
    | isub =>
      have hn1 : 1 = n := hn_of hg rfl
      subst hn1
      simp only [sdi] at hrun
      split at hrun
      · exact lv_isub hx hb hd (go0 hrun hL hn)
      · exact (rn_no hrun).elim
    | imul =>
      have hn1 : 1 = n := hn_of hg rfl
      subst hn1
      simp only [sdi] at hrun
      split at hrun
      · exact lv_imul hx hb hd (go0 hrun hL hn)
      · exact (rn_no hrun).elim
    | iand =>
      have hn1 : 1 = n := hn_of hg rfl
      subst hn1
      simp only [sdi] at hrun
      split at hrun
      · exact lv_iand hx hb hd (go0 hrun hL hn)
      · exact (rn_no hrun).elim
    | ixor =>
      have hn1 : 1 = n := hn_of hg rfl
      subst hn1
      simp only [sdi] at hrun
      split at hrun
      · exact lv_ixor hx hb hd (go0 hrun hL hn)
      · exact (rn_no hrun).elim
    | land =>
      have hn1 : 1 = n := hn_of hg rfl
      subst hn1
      simp only [sdi] at hrun
      split at hrun
      · exact lv_land hx hb hd (go0 hrun hL hn)
      · exact (rn_no hrun).elim
    | lor =>
      have hn1 : 1 = n := hn_of hg rfl
      subst hn1
      simp only [sdi] at hrun
      split at hrun
      · exact lv_lor hx hb hd (go0 hrun hL hn)
      · exact (rn_no hrun).elim
    | lshl =>
      have hn1 : 1 = n := hn_of hg rfl
      subst hn1
      simp only [sdi] at hrun
      split at hrun
      · exact lv_lshl hx hb hd rfl (go0 hrun hL hn)
      · exact (rn_no hrun).elim
    | lshr =>
      have hn1 : 1 = n := hn_of hg rfl
      subst hn1
      simp only [sdi] at hrun
      split at hrun
      · exact lv_lshr hx hb hd rfl (go0 hrun hL hn)
      · exact (rn_no hrun).elim
    | lushr =>
      have hn1 : 1 = n := hn_of hg rfl
      subst hn1
      simp only [sdi] at hrun
      split at hrun
      · exact lv_lushr hx hb hd rfl (go0 hrun hL hn)
      · exact (rn_no hrun).elim
    | lcmp =>
      have hn1 : 1 = n := hn_of hg rfl
      subst hn1
      simp only [sdi] at hrun
      split at hrun
      · exact W.lcmp hx hb hd (go0 hrun hL hn)
      · exact (rn_no hrun).elim
    | i2l =>
      have hn1 : 1 = n := hn_of hg rfl
      subst hn1
      simp only [sdi] at hrun
      split at hrun
      · exact lv_i2l hx hb hd rfl (go0 hrun hL hn)
      · exact (rn_no hrun).elim
    | l2i =>
      have hn1 : 1 = n := hn_of hg rfl
      subst hn1
      simp only [sdi] at hrun
      split at hrun
      · exact lv_l2i hx hb hd rfl (go0 hrun hL hn)
      · exact (rn_no hrun).elim
    | i2c =>
      have hn1 : 1 = n := hn_of hg rfl
      subst hn1
      simp only [sdi] at hrun
      split at hrun
      · exact lv_i2c hx hb hd rfl (go0 hrun hL hn)
      · exact (rn_no hrun).elim
    | idiv =>
      have hn1 : 1 = n := hn_of hg rfl
      subst hn1
      simp only [sdi] at hrun
      split at hrun
      · obtain ⟨h0, hrun⟩ := rn_gd hrun
        exact lv_idiv hx hb hd (by simpa using h0) (go0 hrun hL hn)
      · exact (rn_no hrun).elim
    | irem =>
      have hn1 : 1 = n := hn_of hg rfl
      subst hn1
      simp only [sdi] at hrun
      split at hrun
      · obtain ⟨h0, hrun⟩ := rn_gd hrun
        exact lv_irem hx hb hd (by simpa using h0) (go0 hrun hL hn)
      · exact (rn_no hrun).elim
    | dup =>
      have hn1 : 1 = n := hn_of hg rfl
      subst hn1
      simp only [sdi] at hrun
      split at hrun
      · exact lv_dup hx hb hd rfl (go0 hrun hL hn)
      · exact lv_dup hx hb hd rfl (go0 hrun hL hn)
      · exact (rn_no hrun).elim
    | dup2 =>
      have hn1 : 1 = n := hn_of hg rfl
      subst hn1
      simp only [sdi] at hrun
      split at hrun
      · exact lv_dup2_11 hx hb hd rfl rfl (go0 hrun hL hn)
      · exact (rn_no hrun).elim
    | pop =>
      have hn1 : 1 = n := hn_of hg rfl
      subst hn1
      simp only [sdi] at hrun
      split at hrun
      · exact lv_pop hx hb hd rfl (go0 hrun hL hn)
      · exact (rn_no hrun).elim
    | goto off =>
      have hn1 : 3 = n := hn_of hg rfl
      subst hn1
      simp only [sdi] at hrun
      obtain ⟨h0, hrun⟩ := rn_gd hrun
      exact lv_goto hx hb hd (tg_eq h0) (go0 hrun hL hn)
    | ifCond cc off =>
      have hn1 : 3 = n := hn_of hg rfl
      subst hn1
      simp only [sdi] at hrun
      split at hrun
      · obtain ⟨h0, h1, h2⟩ := rn_br hrun
        cases cc with
        | eq => exact lv_if_eq hx hb hd (tg_eq h0) (fun h => go0 (h1 (by simp [c0, h])) hL hn) (fun h => go0 (h2 (by simp [c0, h])) hL hn)
        | ne => exact lv_if_ne hx hb hd (tg_eq h0) (fun h => go0 (h1 (by simp [c0, h])) hL hn) (fun h => go0 (h2 (by simp [c0, h])) hL hn)
        | lt => exact lv_if_lt hx hb hd (tg_eq h0) (fun h => go0 (h1 (by simp only [c0, h, decide_true])) hL hn) (fun h => go0 (h2 (by simp only [c0, h, decide_false])) hL hn)
        | ge => exact lv_if_ge hx hb hd (tg_eq h0) (fun h => go0 (h1 (by simp only [c0, h, decide_true])) hL hn) (fun h => go0 (h2 (by simp only [c0, h, decide_false])) hL hn)
        | gt => exact lv_if_gt hx hb hd (tg_eq h0) (fun h => go0 (h1 (by simp only [c0, h, decide_true])) hL hn) (fun h => go0 (h2 (by simp only [c0, h, decide_false])) hL hn)
        | le => exact lv_if_le hx hb hd (tg_eq h0) (fun h => go0 (h1 (by simp only [c0, h, decide_true])) hL hn) (fun h => go0 (h2 (by simp only [c0, h, decide_false])) hL hn)
      · exact (rn_no hrun).elim
    | if_icmp cc off =>
      have hn1 : 3 = n := hn_of hg rfl
      subst hn1
      simp only [sdi] at hrun
      split at hrun
      · obtain ⟨h0, h1, h2⟩ := rn_br hrun
        cases cc with
        | eq => exact lv_icmp_eq hx hb hd (tg_eq h0) (fun h => go0 (h1 (by simp [c2, h])) hL hn) (fun h => go0 (h2 (by simp [c2, h])) hL hn)
        | ne => exact lv_icmp_ne hx hb hd (tg_eq h0) (fun h => go0 (h1 (by simp [c2, h])) hL hn) (fun h => go0 (h2 (by simp [c2, h])) hL hn)
        | lt => exact lv_icmp_lt hx hb hd (tg_eq h0) (fun h => go0 (h1 (by simp only [c2, h, decide_true])) hL hn) (fun h => go0 (h2 (by simp only [c2, h, decide_false])) hL hn)
        | ge => exact lv_icmp_ge hx hb hd (tg_eq h0) (fun h => go0 (h1 (by simp only [c2, h, decide_true])) hL hn) (fun h => go0 (h2 (by simp only [c2, h, decide_false])) hL hn)
        | gt => exact lv_icmp_gt hx hb hd (tg_eq h0) (fun h => go0 (h1 (by simp only [c2, h, decide_true])) hL hn) (fun h => go0 (h2 (by simp only [c2, h, decide_false])) hL hn)
        | le => exact lv_icmp_le hx hb hd (tg_eq h0) (fun h => go0 (h1 (by simp only [c2, h, decide_true])) hL hn) (fun h => go0 (h2 (by simp only [c2, h, decide_false])) hL hn)
      · exact (rn_no hrun).elim
    | tableswitch d lo hi offs =>
      simp only [sdi] at hrun
      split at hrun
      · split at hrun
        · rename_i h0
          obtain ⟨h1, hrun⟩ := rn_gd hrun
          exact lv_tableOut hx hb hd h0 (tg_eq h1) (go0 hrun hL hn)
        · rename_i h0
          split at hrun
          · rename_i off ho
            obtain ⟨h1, hrun⟩ := rn_gd hrun
            exact lv_tableIn hx hb hd (fun z => h0 (Or.inl z)) (fun z => h0 (Or.inr z)) ho (tg_eq h1) (go0 hrun hL hn)
          · exact (rn_no hrun).elim
      · exact (rn_no hrun).elim
    | arraylength =>
      have hn1 : 1 = n := hn_of hg rfl
      subst hn1
      simp only [sdi] at hrun
      split at hrun
      · rename_i a r'
        obtain ⟨h0, hrun⟩ := rn_gd hrun
        simp only [Bool.or_eq_true, Bool.and_eq_true, decide_eq_true_eq] at h0
        rcases h0 with ⟨h1, h2⟩ | h0
        · obtain ⟨q0, q1, q2⟩ := kd_spec (c := kd G a) rfl (by omega) (by omega)
          by_cases h3 : kd G a < 53
          · have he := wsO_get (K := K) (I := I) q0 q1
            rw [elt_int q2 h1 h3] at he
            refine va_alen (ty := [FieldType.int, .boolean, .char, .object RX1, .object RX0].getD (kd G a - 50) .int) hx hb hX.1 hP.1 (a - 1) (kd G a - 50) he ?_ rfl hd (go0 hrun hL hn)
            have : kd G a = 50 ∨ kd G a = 51 ∨ kd G a = 52 := by omega
            rcases this with z | z | z <;> rw [z] <;> rfl
          · have he := wsO_get (K := K) (I := I) q0 q1
            rw [elt_ref q2 (by omega)] at he
            refine va_alen (ty := [FieldType.int, .boolean, .char, .object RX1, .object RX0].getD (kd G a - 50) .int) hx hb hX.1 hP.1 (a - 1) (kd G a - 50) he ?_ rfl hd (go0 hrun hL hn)
            have : kd G a = 53 ∨ kd G a = 54 := by omega
            rcases this with z | z <;> rw [z] <;> rfl
        · subst h0
          refine va_slen hx hb hXs hbl hbA hSv hd ?_
          have := go0 hrun hL hn
          rw [show ln G 0 = kLn K by unfold ln; rw [hP.2.2.2.1]] at this
          exact this
      · exact (rn_no hrun).elim
    | iaload =>
      have hn1 : 1 = n := hn_of hg rfl
      subst hn1
      simp only [sdi] at hrun
      split at hrun
      · rename_i i' a r'
        obtain ⟨h0, hrun⟩ := rn_gd hrun
        simp only [Bool.or_eq_true, Bool.and_eq_true, decide_eq_true_eq] at h0
        obtain ⟨h0, hi⟩ := h0
        rcases h0 with h0 | h0
        · obtain ⟨q0, q1, q2⟩ := kd_spec h0 (by decide) (by decide)
          have he := wsO_get (K := K) (I := I) q0 q1
          rw [elt_int q2 (by decide) (by decide)] at he
          exact va_iald hx hb hX.1 hP.1 (a - 1) 0 he rfl (inb_spec hi) hd (go0 hrun hL hn)
        · subst h0
          have e1 : ln G 0 = kLn K := by unfold ln; rw [hP.2.2.2.1]
          rw [e1] at hi
          refine va_sld hx hb hXs hbl hbA hSv (inb_spec hi) hd ?_
          have := go0 hrun hL hn
          rw [hP.2.2.2.2] at this
          exact this
      · exact (rn_no hrun).elim
    | baload =>
      have hn1 : 1 = n := hn_of hg rfl
      subst hn1
      simp only [sdi] at hrun
      split at hrun
      · rename_i i' a r'
        obtain ⟨h0, hrun⟩ := rn_gd hrun
        simp only [Bool.and_eq_true, decide_eq_true_eq] at h0
        obtain ⟨h0, hi⟩ := h0
        obtain ⟨q0, q1, q2⟩ := kd_spec h0 (by decide) (by decide)
        have he := wsO_get (K := K) (I := I) q0 q1
        rw [elt_int q2 (by decide) (by decide)] at he
        exact va_zald hx hb hX.1 hP.1 (a - 1) 1 he rfl (inb_spec hi) hd (go0 hrun hL hn)
      · exact (rn_no hrun).elim
    | caload =>
      have hn1 : 1 = n := hn_of hg rfl
      subst hn1
      simp only [sdi] at hrun
      split at hrun
      · rename_i i' a r'
        obtain ⟨h0, hrun⟩ := rn_gd hrun
        simp only [Bool.and_eq_true, decide_eq_true_eq] at h0
        obtain ⟨h0, hi⟩ := h0
        obtain ⟨q0, q1, q2⟩ := kd_spec h0 (by decide) (by decide)
        have he := wsO_get (K := K) (I := I) q0 q1
        rw [elt_int q2 (by decide) (by decide)] at he
        exact va_cald hx hb hX.1 hP.1 (a - 1) 2 he rfl (inb_spec hi) hd (go0 hrun hL hn)
      · exact (rn_no hrun).elim
    | aaload =>
      have hn1 : 1 = n := hn_of hg rfl
      subst hn1
      simp only [sdi] at hrun
      split at hrun
      · rename_i i' a r'
        obtain ⟨h0, hrun⟩ := rn_gd hrun
        simp only [Bool.or_eq_true, Bool.and_eq_true, decide_eq_true_eq] at h0
        obtain ⟨h0, hi⟩ := h0
        have k := go0 hrun hL hn
        rw [List.map_cons, tr_rf] at k
        rcases h0 with h0 | h0
        · obtain ⟨q0, q1, q2⟩ := kd_spec h0 (by decide) (by decide)
          have he := wsO_get (K := K) (I := I) q0 q1
          rw [elt_ref q2 (by decide)] at he
          exact va_aldq hx hb hX.1 hP.1 (a - 1) 3 he rfl (inb_spec hi) hd k
        · obtain ⟨q0, q1, q2⟩ := kd_spec h0 (by decide) (by decide)
          have he := wsO_get (K := K) (I := I) q0 q1
          rw [elt_ref q2 (by decide)] at he
          exact va_aldq hx hb hX.1 hP.1 (a - 1) 4 he rfl (inb_spec hi) hd k
      · exact (rn_no hrun).elim
    | iastore =>
      have hn1 : 1 = n := hn_of hg rfl
      subst hn1
      simp only [sdi] at hrun
      split at hrun
      · rename_i x i' a r'
        obtain ⟨h0, hrun⟩ := rn_gd hrun
        simp only [Bool.and_eq_true, decide_eq_true_eq] at h0
        obtain ⟨h0, hi⟩ := h0
        obtain ⟨q0, q1, q2⟩ := kd_spec h0 (by decide) (by decide)
        have he := wsO_get (K := K) (I := I) q0 q1
        rw [elt_int q2 (by decide) (by decide)] at he
        refine va_iast hx hb hX.1 hP.1 hD hSv (a - 1) 0 he rfl (inb_spec hi) hd (fun H1 locs1 hP1 _ hS1 => W_sz fun hz => ?_)
        have hP2 := HP_ast hP h0 (by decide) (by decide) H1 (by omega) hP1
        exact go1 rfl rfl (by have := hP2.2.1; have := hP.2.1; omega) hrun hP2 hS1 hL hn
      · exact (rn_no hrun).elim
    | bastore =>
      have hn1 : 1 = n := hn_of hg rfl
      subst hn1
      simp only [sdi] at hrun
      split at hrun
      · rename_i x i' a r'
        obtain ⟨h0, hrun⟩ := rn_gd hrun
        simp only [Bool.and_eq_true, decide_eq_true_eq] at h0
        obtain ⟨⟨h0, hi⟩, hx01⟩ := h0
        obtain ⟨q0, q1, q2⟩ := kd_spec h0 (by decide) (by decide)
        have he := wsO_get (K := K) (I := I) q0 q1
        rw [elt_int q2 (by decide) (by decide)] at he
        refine va_zast hx hb hX.1 hP.1 hD hSv (a - 1) 1 he rfl (inb_spec hi) hd (fun H1 locs1 hP1 _ hS1 => W_sz fun hz => ?_)
        have hx2 : vp_nar .boolean x = x := by
          unfold b01 at hx01
          simp only [Bool.or_eq_true, decide_eq_true_eq] at hx01
          rcases hx01 with rfl | rfl <;> rfl
        rw [hx2] at hP1
        have hP2 := HP_ast hP h0 (by decide) (by decide) H1 (by omega) hP1
        exact go1 rfl rfl (by have := hP2.2.1; have := hP.2.1; omega) hrun hP2 hS1 hL hn
      · exact (rn_no hrun).elim
    | castore =>
      have hn1 : 1 = n := hn_of hg rfl
      subst hn1
      simp only [sdi] at hrun
      split at hrun
      · rename_i x i' a r'
        obtain ⟨h0, hrun⟩ := rn_gd hrun
        simp only [Bool.and_eq_true, decide_eq_true_eq] at h0
        obtain ⟨⟨h0, hi⟩, hx01⟩ := h0
        obtain ⟨q0, q1, q2⟩ := kd_spec h0 (by decide) (by decide)
        have he := wsO_get (K := K) (I := I) q0 q1
        rw [elt_int q2 (by decide) (by decide)] at he
        refine va_cast hx hb hX.1 hP.1 hD hSv (a - 1) 2 he rfl (inb_spec hi) hd (fun H1 locs1 hP1 _ hS1 => W_sz fun hz => ?_)
        have hx2 : vp_nar .char x = x := by
          obtain ⟨j, hj, e⟩ : ∃ j : Nat, j < 65536 ∧ x = nI j := by
            obtain ⟨j, hj, e⟩ := nI_of (x := x) (by rw [Int32.lt_iff_toInt_lt, Int32.toInt_zero]; omega)
            refine ⟨j, ?_, e⟩
            have := hx01.2
            rw [e, nI_toInt hj] at this
            omega
          rw [e]
          have := (pk_charN hj).1
          unfold vp_nar
          rw [this]
        rw [hx2] at hP1
        have hP2 := HP_ast hP h0 (by decide) (by decide) H1 (by omega) hP1
        exact go1 rfl rfl (by have := hP2.2.1; have := hP.2.1; omega) hrun hP2 hS1 hL hn
      · exact (rn_no hrun).elim
    | aastore =>
      have hn1 : 1 = n := hn_of hg rfl
      subst hn1
      simp only [sdi] at hrun
      split at hrun
      · rename_i x i' a r'
        obtain ⟨h0, hrun⟩ := rn_gd hrun
        simp only [Bool.or_eq_true, Bool.and_eq_true, decide_eq_true_eq] at h0
        obtain ⟨h0, hi⟩ := h0
        rcases h0 with ⟨h0, hk⟩ | ⟨h0, hk⟩
        · obtain ⟨q0, q1, q2⟩ := kd_spec h0 (by decide) (by decide)
          obtain ⟨w0, w1, w2⟩ := kd_spec hk (by decide) (by decide)
          have he := wsO_get (K := K) (I := I) q0 q1
          rw [elt_ref q2 (by decide)] at he
          have hw := wsO_get (K := K) (I := I) w0 w1
          rw [elt_obj w2 (by decide)] at hw
          refine va_astq (r := (clC 1, clT 1, clN 1)) hx hb hX.1 hP.1 hD hSv (a - 1) 3 (x - 1) 1 he rfl hw rfl (inb_spec hi) hd (fun H1 locs1 hP1 _ hS1 => W_sz fun hz => ?_)
          have hP2 : HP K (uG G a (ix i') x) I H1 := HP_ar hP h0 (by decide) (by decide) H1 (by omega) hP1
          have h8 : H1.size + 1 = kB K + G.1 := hP2.2.1
          exact go1 (G1 := uG G a (ix i') x) rfl rfl (by have h9 := hP.2.1; omega) hrun hP2 hS1 hL hn
        · obtain ⟨q0, q1, q2⟩ := kd_spec h0 (by decide) (by decide)
          obtain ⟨w0, w1, w2⟩ := kd_spec hk (by decide) (by decide)
          have he := wsO_get (K := K) (I := I) q0 q1
          rw [elt_ref q2 (by decide)] at he
          have hw := wsO_get (K := K) (I := I) w0 w1
          rw [elt_obj w2 (by decide)] at hw
          refine va_astq (r := (clC 0, clT 0, clN 0)) hx hb hX.1 hP.1 hD hSv (a - 1) 4 (x - 1) 0 he rfl hw rfl (inb_spec hi) hd (fun H1 locs1 hP1 _ hS1 => W_sz fun hz => ?_)
          have hP2 : HP K (uG G a (ix i') x) I H1 := HP_ar hP h0 (by decide) (by decide) H1 (by omega) hP1
          have h8 : H1.size + 1 = kB K + G.1 := hP2.2.1
          exact go1 (G1 := uG G a (ix i') x) rfl rfl (by have h9 := hP.2.1; omega) hrun hP2 hS1 hL hn
      · exact (rn_no hrun).elim
    | getfield k =>
      have hn1 : 3 = n := hn_of hg rfl
      subst hn1
      simp only [sdi] at hrun
      split at hrun
      · rename_i o r'
        obtain ⟨h0, hrun⟩ := rn_gd hrun
        simp only [Bool.and_eq_true, decide_eq_true_eq] at h0
        obtain ⟨h0, hk8⟩ := h0
        obtain ⟨f1, f2, -, -, f5⟩ := wd_fields _ (fL_mem hk8)
        obtain ⟨q0, q1, q2⟩ := kd_spec h0 (by omega) (by omega)
        have he := wsO_get (K := K) (I := I) q0 q1
        rw [elt_obj q2 hk8] at he
        have k := go0 hrun hL hn
        rw [List.map_cons, tr_gf] at k
        exact va_get (Ts := tw) hx hb hts (cl_lays hk8) hown hX.1 hP.1 (o - 1) he (cl_at hk8) _ f2 (hts _ f1) (fun z hz => by rw [f5] at hz; exact hz) (rmap_get _ _ _ f2) hd k
      · exact (rn_no hrun).elim
    | putfield k =>
      have hn1 : 3 = n := hn_of hg rfl
      subst hn1
      simp only [sdi] at hrun
      split at hrun
      · rename_i v o r'
        obtain ⟨h0, hrun⟩ := rn_gd hrun
        simp only [Bool.and_eq_true, Bool.or_eq_true, Bool.not_eq_true', decide_eq_true_eq] at h0
        obtain ⟨⟨h0, hk8⟩, hfin⟩ := h0
        obtain ⟨f1, f2, -, f4, f5⟩ := wd_fields _ (fL_mem hk8)
        simp only at f1 f2 f4 f5
        obtain ⟨q0, q1, q2⟩ := kd_spec h0 (by omega) (by omega)
        have he := wsO_get (K := K) (I := I) q0 q1
        rw [elt_obj q2 hk8] at he
        have hft := (cl_ft hk8 _ f2).1
        have hlen : (fL (pC m) k).2 < ((List.range (clN (fL (pC m) k).1)).map (fvl K (fL (pC m) k).1 G I o)).length := by rw [List.length_map, List.length_range]; exact f2
        have key : ∀ (v2 : Value), narrow (clY (fL (pC m) k).1 (fL (pC m) k).2) v2 = v2 → fits (clY (fL (pC m) k).1 (fL (pC m) k).2) v2 = true →
            (∀ (H1 : Heap) (locs1 : List Loc), va_P (kD K) vwCl ((wsO K G I).set (o - 1) (ad K o, .inr ((fL (pC m) k).1, ((List.range (clN (fL (pC m) k).1)).map (fvl K (fL (pC m) k).1 G I o)).set (fL (pC m) k).2 v2))) H1 → va_S (kfr K) s.heap H1 locs1 → W p l e R s mid args below meth cd H1 locs1 cells slots Q (F0 mid (pc + 3) ls (r'.map (tr K)))) →
            W p l e R s mid args below meth cd H locs cells slots Q (F0 mid pc ls (v2 :: .ref (ad K o) :: r'.map (tr K))) := by
          intro v2 hnr hft2 kk
          by_cases hfi : fF (fL (pC m) k).1 (fL (pC m) k).2 = false
          · exact va_put (Ts := tw) hx hb hts (cl_lays hk8) (clY _) (cl_ty hk8) (cl_nm hk8) hown hX.1 hP.1 hD hSv (o - 1) he (cl_at hk8) _ f2 (hts _ f1) (fun z hz => by rw [f5] at hz; exact hz) (f4.trans hfi) (cl_ty hk8 _ f2) hnr hft2 hlen hd (fun H1 locs1 h1 _ h3 => kk H1 locs1 h1 h3)
          · rcases hfin with hfin | ⟨hk2, hpc⟩
            · exact absurd hfin hfi
            · exact va_putF (Ts := tw) hx hb hts (cl_lays hk8) (clY _) (cl_ty hk8) (cl_nm hk8) hown hX.1 hP.1 hD hSv (o - 1) he (cl_at hk8) _ f2 (hts _ f1) (fun z hz => by rw [f5] at hz; exact hz) (f4.trans (by simpa using hfi)) (hini hk2) (f5.trans (by show pO (fL (pC m) k).1 = pO (pC m); rw [← hpc])) (cl_ty hk8 _ f2) hnr hft2 hlen hd (fun H1 locs1 h1 _ h3 => kk H1 locs1 h1 h3)
        simp only [pf] at hrun
        split at hrun
        · rename_i x e1 hold
          rw [e1] at hft
          refine key (.int x) ?_ ?_ (fun H1 locs1 hP1 hS1 => W_sz fun hz => ?_)
          · revert hft; cases clY (fL (pC m) k).1 (fL (pC m) k).2 <;> intro hft <;> first | rfl | cases hft
          · revert hft; cases clY (fL (pC m) k).1 (fL (pC m) k).2 <;> intro hft <;> first | rfl | cases hft
          · have hP2 := HP_pi hP h0 hk8 (by rw [e1]; decide) H1 (by omega) hP1
            exact go1 rfl rfl (by have := hP2.2.1; have := hP.2.1; omega) hrun hP2 hS1 hL hn
        · rename_i x e1 hold
          obtain ⟨hx01, hrun⟩ := rn_gd hrun
          unfold b01 at hx01
          simp only [Bool.or_eq_true, decide_eq_true_eq] at hx01
          rw [e1] at hft
          refine key (.int x) ?_ ?_ (fun H1 locs1 hP1 hS1 => W_sz fun hz => ?_)
          · revert hft; cases clY (fL (pC m) k).1 (fL (pC m) k).2 <;> intro hft <;> first | (rcases hx01 with rfl | rfl <;> rfl) | cases hft
          · revert hft; cases clY (fL (pC m) k).1 (fL (pC m) k).2 <;> intro hft <;> first | (rcases hx01 with rfl | rfl <;> rfl) | cases hft
          · have hP2 := HP_pi hP h0 hk8 (by rw [e1]; decide) H1 (by omega) hP1
            exact go1 rfl rfl (by have := hP2.2.1; have := hP.2.1; omega) hrun hP2 hS1 hL hn
        · rename_i x e1 hold
          rw [e1] at hft
          refine key (.ref (ad K x)) ?_ ?_ (fun H1 locs1 hP1 hS1 => W_sz fun hz => ?_)
          · revert hft; cases clY (fL (pC m) k).1 (fL (pC m) k).2 <;> intro hft <;> first | rfl | cases hft
          · revert hft; cases clY (fL (pC m) k).1 (fL (pC m) k).2 <;> intro hft <;> first | rfl | cases hft
          · have hP2 : HP K (uG G o (fL (pC m) k).2 x) I H1 := HP_pr hP h0 hk8 e1 H1 (by omega) hP1
            have h8 : H1.size + 1 = kB K + G.1 := hP2.2.1
            exact go1 (G1 := uG G o (fL (pC m) k).2 x) rfl rfl (by have h9 := hP.2.1; omega) hrun hP2 hS1 hL hn
        · exact (rn_no hrun).elim
      · exact (rn_no hrun).elim
    | new k =>
      have hn1 : 3 = n := hn_of hg rfl
      subst hn1
      simp only [sdi] at hrun
      obtain ⟨h0, hrun⟩ := rn_gd hrun
      have hk8 : kL (pC m) k < 8 := by simpa using h0
      have hm := run_grow _ _ _ _ _ _ _ _ _ _ hrun
      have g1 : (nG G (kL (pC m) k) (clN (kL (pC m) k))).1 = G.1 + 1 := rfl
      have g2 : (nG G (kL (pC m) k) (clN (kL (pC m) k))).2.1 = G.2.1 + clN (kL (pC m) k) := rfl
      rw [g1, g2] at hm
      obtain ⟨w1, w2⟩ := cl_inst hk8
      have he : elt K (nG G (kL (pC m) k) (clN (kL (pC m) k))) (nI0 G I) G.1 = .inr (kL (pC m) k, (List.range (clN (kL (pC m) k))).map (fvl K (kL (pC m) k) (nG G (kL (pC m) k) (clN (kL (pC m) k))) (nI0 G I) G.1)) :=
        elt_obj (by rw [nG_new]) hk8
      refine va_new (Ts := tw) (fs := (List.range (clN (kL (pC m) k))).map (fvl K (kL (pC m) k) (nG G (kL (pC m) k) (clN (kL (pC m) k))) (nI0 G I) G.1)) hx hb hts (cl_lays hk8) (clY _) (cl_ty hk8) hown (hts _ (wd_kl _ (kL_mem hk8)).1) (hts _ w1) (hts _ w2) hX.1 hP.1 hD hSv hA (cl_at hk8) ?_ (by omega) (by omega) hd (fun q H1 hP1 hD1 hS1 => W_sz fun hz => ?_)
      · intro j hj
        have e1 := (cl_ft hk8 j hj).1
        have e2 := (cl_ft hk8 j hj).2
        have e3 : vp_V ((List.range (clN (kL (pC m) k))).map (fvl K (kL (pC m) k) (nG G (kL (pC m) k) (clN (kL (pC m) k))) (nI0 G I) G.1)) j = fvl K (kL (pC m) k) (nG G (kL (pC m) k) (clN (kL (pC m) k))) (nI0 G I) G.1 j := by
          unfold vp_V
          rw [List.getD_eq_getElem?_getD, rmap_get _ _ _ hj]
          rfl
        rw [e3]
        unfold fvl
        rw [nG_rf0, nI0_new]
        revert e1 e2
        cases clY (kL (pC m) k) j <;> intro e1 e2 <;> first | (rw [e1, if_neg (by decide)]; rfl) | (rw [e1, if_pos rfl]; rfl) | (exfalso; have e4 : fT (kL (pC m) k) j = 7 := e1; omega)
      · obtain ⟨e1, hP2⟩ := HP_new hP he q H1 (by omega) hD1 hP1
        rw [e1]
        exact goG hrun hP2 hS1
    | newarray t =>
      have hn1 : 2 = n := hn_of hg rfl
      subst hn1
      simp only [sdi] at hrun
      split at hrun
      · rename_i n' r'
        obtain ⟨h0, hrun⟩ := rn_gd hrun
        simp only [Bool.and_eq_true, decide_eq_true_eq] at h0
        obtain ⟨hk, hn0, hn1⟩ := h0
        have hm := run_grow _ _ _ _ _ _ _ _ _ _ hrun
        have g1 : (nG G (akd t) (ix n')).1 = G.1 + 1 := rfl
        have g2 : (nG G (akd t) (ix n')).2.1 = G.2.1 + ix n' := rfl
        rw [g1, g2] at hm
        have hix : ix n' ≤ 1000 := by show n'.toInt.toNat ≤ 1000; omega
        have hneg : ¬ n' < 0 := by rw [Int32.lt_iff_toInt_lt, Int32.toInt_zero]; omega
        have hk2 : (t = .int ∧ akd t = 50) ∨ (t = .boolean ∧ akd t = 51) ∨ (t = .char ∧ akd t = 52) := by
          cases t <;> first | exact Or.inl ⟨rfl, rfl⟩ | exact Or.inr (Or.inl ⟨rfl, rfl⟩) | exact Or.inr (Or.inr ⟨rfl, rfl⟩) | (exfalso; revert hk; decide)
        have key : ∀ (ty : FieldType) (c : Nat), akd t = c → 50 ≤ c → c < 53 → newarray.typeOf t = ty → (tysK K)[c - 50]? = some (kA K (c - 50), ty) → defaultValue ty = .int 0 → componentBytes ty ≤ 4 → (Cond.arrayClass (newarray.typeOf t)).before args s = true → (∀ z, va_RA s z ty → s.vm.findClass ("[" ++ ty.toString) = some z) →
            W p l e R s mid args below meth cd H locs cells slots Q (F0 mid pc ls (.int n' :: r'.map (tr K))) := by
          intro ty cc ec c1 c2 ety etys edv ecb hw hra
          have he : elt K (nG G (akd t) (ix n')) (nI0 G I) G.1 = .inl (kA K (cc - 50), ix n', .inl (fun _ => 0)) := by
            rw [elt_int (c := cc) (by rw [nG_new, ec]) c1 c2, nI0_new]
            unfold ln
            rw [nG_new]
          refine va_newa (a0 := (ix n', .inl (fun _ => 0))) hx hb hw ety hX.1 hP.1 hD hSv hA ?_ hneg rfl ?_ (by omega) (by show slots + ix n' ≤ _; omega) hd (fun q cA H1 hK1 hP1 hD1 hS1 => W_sz fun hz => ?_)
          · intro z
            rw [edv]
            rfl
          · have := Nat.mul_le_mul hix ecb
            show ix n' * componentBytes ty ≤ _
            omega
          · have z1 := hK1.2 (tysK K).length (cA, ty) (by rw [List.getElem?_append_right (Nat.le_refl _), Nat.sub_self]; rfl)
            have z2 := hX.1.2 _ _ etys
            have z3 : cA = kA K (cc - 50) := Option.some.inj ((hra _ z1.2).symm.trans (hra _ z2.2))
            rw [z3] at hP1 hD1
            obtain ⟨e1, hP2⟩ := HP_new hP he q H1 (by omega) hD1 hP1
            rw [e1]
            exact goG hrun hP2 hS1
        obtain ⟨r1, r2, r3, -, -⟩ := wd_arr
        rcases hk2 with ⟨rfl, e⟩ | ⟨rfl, e⟩ | ⟨rfl, e⟩
        · exact key .int 50 e (by decide) (by decide) rfl rfl rfl (by decide) (hts _ (wd_in r1)) (fun z h => h)
        · exact key .boolean 51 e (by decide) (by decide) rfl rfl rfl (by decide) (hts _ (wd_in r2)) (fun z h => h)
        · exact key .char 52 e (by decide) (by decide) rfl rfl rfl (by decide) (hts _ (wd_in r3)) (fun z h => h)
      · exact (rn_no hrun).elim
    | anewarray k =>
      have hn1 : 3 = n := hn_of hg rfl
      subst hn1
      simp only [sdi] at hrun
      split at hrun
      · rename_i n' r'
        obtain ⟨h0, hrun⟩ := rn_gd hrun
        simp only [Bool.and_eq_true, decide_eq_true_eq] at h0
        obtain ⟨hk, hn0, hn1⟩ := h0
        have hm := run_grow _ _ _ _ _ _ _ _ _ _ hrun
        have g1 : (nG G (54 - kL (pC m) k) (ix n')).1 = G.1 + 1 := rfl
        have g2 : (nG G (54 - kL (pC m) k) (ix n')).2.1 = G.2.1 + ix n' := rfl
        rw [g1, g2] at hm
        have hix : ix n' ≤ 1000 := by show n'.toInt.toNat ≤ 1000; omega
        have hneg : ¬ n' < 0 := by rw [Int32.lt_iff_toInt_lt, Int32.toInt_zero]; omega
        have hlk := (wd_kl _ (kL_mem (show kL (pC m) k < 8 by omega))).1
        have key : ∀ (C : String) (c : Nat), 54 - kL (pC m) k = c → 53 ≤ c → clC (kL (pC m) k) = C → (tysK K)[c - 50]? = some (kA K (c - 50), .object C) → va_AO C s →
            W p l e R s mid args below meth cd H locs cells slots Q (F0 mid pc ls (.int n' :: r'.map (tr K))) := by
          intro C cc ec c1 eC etys hao
          have he : elt K (nG G (54 - kL (pC m) k) (ix n')) (nI0 G I) G.1 = .inl (kA K (cc - 50), ix n', .inr (.inr (.inr (.inr (fun _ => none))))) := by
            rw [elt_ref (c := cc) (by rw [nG_new, ec]) c1]
            simp only [nG_rf0]
            unfold ln
            rw [nG_new]
            rfl
          simp only at hlk
          rw [eC] at hlk
          refine va_newq hx hb hown (hts _ hlk) hao hX.1 hP.1 hD hSv hA hneg rfl (by show ix n' * 4 ≤ _; omega) (by omega) (by show slots + ix n' ≤ _; omega) hd (fun q cA H1 hK1 hP1 hD1 hS1 => W_sz fun hz => ?_)
          have z1 := hK1.2 (tysK K).length (cA, .object C) (by rw [List.getElem?_append_right (Nat.le_refl _), Nat.sub_self]; rfl)
          have z2 := hX.1.2 _ _ etys
          obtain ⟨_, _, _, _, _, y1⟩ := z1.2
          obtain ⟨_, _, _, _, _, y2⟩ := z2.2
          have z3 : cA = kA K (cc - 50) := Option.some.inj (y1.symm.trans y2)
          rw [z3] at hP1 hD1
          obtain ⟨e1, hP2⟩ := HP_new hP he q H1 (by omega) hD1 hP1
          rw [e1]
          exact goG hrun hP2 hS1
        have : kL (pC m) k = 0 ∨ kL (pC m) k = 1 := by omega
        rcases this with z | z
        · exact key RX0 54 (by rw [z]) (by decide) (by rw [z]; rfl) rfl hX.2.2.2
        · exact key RX1 53 (by rw [z]) (by decide) (by rw [z]; rfl) rfl hX.2.2.1
      · exact (rn_no hrun).elim
    | invokevirtual k =>
      have hn1 : 3 = n := hn_of hg rfl
      subst hn1
      exact st_invokevirtual hS hF hP hSv hL hn hcz hc hsf hcf hsf' hret hd hrun
    | invokestatic k =>
      have hn1 : 3 = n := hn_of hg rfl
      subst hn1
      exact st_invokestatic hS hF hP hSv hL hn hcz hc hsf hcf hsf' hret hd hrun
    | invokespecial k =>
      have hn1 : 3 = n := hn_of hg rfl
      subst hn1
      exact st_invokespecial hS hF hP hSv hL hn hcz hc hsf hcf hsf' hret hd hrun
    | ireturn =>
      have hn1 : 1 = n := hn_of hg rfl
      subst hn1
      simp only [sdi] at hrun
      split at hrun
      · rename_i v
        obtain ⟨h0, hrun⟩ := rn_gd hrun
        have e1 : some (some (Value.int v), G, I) = some (r, G', I') := hrun
        simp only [Option.some.injEq, Prod.mk.injEq] at e1
        obtain ⟨rfl, rfl, rfl⟩ := e1
        have e1 : cf = cells := by omega
        have e2 : sf = slots := by omega
        subst e1; subst e2
        exact hret pc ls H locs hP hSv ⟨hd, h0⟩
      · exact (rn_no hrun).elim
    | areturn =>
      have hn1 : 1 = n := hn_of hg rfl
      subst hn1
      simp only [sdi] at hrun
      split at hrun
      · rename_i v
        obtain ⟨h0, hrun⟩ := rn_gd hrun
        have e1 : some (some (Value.ref v), G, I) = some (r, G', I') := hrun
        simp only [Option.some.injEq, Prod.mk.injEq] at e1
        obtain ⟨rfl, rfl, rfl⟩ := e1
        have e1 : cf = cells := by omega
        have e2 : sf = slots := by omega
        subst e1; subst e2
        exact hret pc ls H locs hP hSv ⟨hd, h0⟩
      · exact (rn_no hrun).elim
    | return_ =>
      have hn1 : 1 = n := hn_of hg rfl
      subst hn1
      simp only [sdi] at hrun
      split at hrun
      · obtain ⟨h0, hrun⟩ := rn_gd hrun
        have e1 : some ((none : Option Value), G, I) = some (r, G', I') := hrun
        simp only [Option.some.injEq, Prod.mk.injEq] at e1
        obtain ⟨rfl, rfl, rfl⟩ := e1
        have e1 : cf = cells := by omega
        have e2 : sf = slots := by omega
        subst e1; subst e2
        exact hret pc ls H locs hP hSv ⟨hd, by simpa using h0⟩
      · exact (rn_no hrun).elim
    | _ => exact (rn_no hrun).elim
theorem sim_all (l : Launch) (K : KT) : ∀ f : Nat, SIM l K f := by
  intro f
  induction f with
  | zero => intro m pc als st G I r G' I' h; simp [run] at h
  | succ f ih => exact sim_step ih
end
section
theorem dX0_init_0 : decode cX0_init 0 = .ok (.aload_n 0, 1) := by decide +kernel
theorem dX0_init_1 : decode cX0_init 1 = .ok (.invokespecial 3, 3) := by decide +kernel
theorem dX0_init_4 : decode cX0_init 4 = .ok (.aload_n 0, 1) := by decide +kernel
theorem dX0_init_5 : decode cX0_init 5 = .ok (.new 9, 3) := by decide +kernel
theorem dX0_init_8 : decode cX0_init 8 = .ok (.dup, 1) := by decide +kernel
theorem dX0_init_9 : decode cX0_init 9 = .ok (.invokespecial 11, 3) := by decide +kernel
theorem dX0_init_12 : decode cX0_init 12 = .ok (.putfield 12, 3) := by decide +kernel
theorem dX0_init_15 : decode cX0_init 15 = .ok (.aload_n 0, 1) := by decide +kernel
theorem dX0_init_16 : decode cX0_init 16 = .ok (.new 9, 3) := by decide +kernel
theorem dX0_init_19 : decode cX0_init 19 = .ok (.dup, 1) := by decide +kernel
theorem dX0_init_20 : decode cX0_init 20 = .ok (.invokespecial 11, 3) := by decide +kernel
theorem dX0_init_23 : decode cX0_init 23 = .ok (.putfield 18, 3) := by decide +kernel
theorem dX0_init_26 : decode cX0_init 26 = .ok (.aload_n 0, 1) := by decide +kernel
theorem dX0_init_27 : decode cX0_init 27 = .ok (.iconst 1, 1) := by decide +kernel
theorem dX0_init_28 : decode cX0_init 28 = .ok (.putfield 21, 3) := by decide +kernel
theorem dX0_init_31 : decode cX0_init 31 = .ok (.aload_n 0, 1) := by decide +kernel
theorem dX0_init_32 : decode cX0_init 32 = .ok (.bipush (-6), 2) := by decide +kernel
theorem dX0_init_34 : decode cX0_init 34 = .ok (.putfield 25, 3) := by decide +kernel
theorem dX0_init_37 : decode cX0_init 37 = .ok (.aload_n 0, 1) := by decide +kernel
theorem dX0_init_38 : decode cX0_init 38 = .ok (.bipush (-6), 2) := by decide +kernel
theorem dX0_init_40 : decode cX0_init 40 = .ok (.putfield 29, 3) := by decide +kernel
theorem dX0_init_43 : decode cX0_init 43 = .ok (.aload_n 0, 1) := by decide +kernel
theorem dX0_init_44 : decode cX0_init 44 = .ok (.bipush (-6), 2) := by decide +kernel
theorem dX0_init_46 : decode cX0_init 46 = .ok (.putfield 32, 3) := by decide +kernel
theorem dX0_init_49 : decode cX0_init 49 = .ok (.aload_n 0, 1) := by decide +kernel
theorem dX0_init_50 : decode cX0_init 50 = .ok (.bipush (-6), 2) := by decide +kernel
theorem dX0_init_52 : decode cX0_init 52 = .ok (.putfield 35, 3) := by decide +kernel
theorem dX0_init_55 : decode cX0_init 55 = .ok (.aload_n 0, 1) := by decide +kernel
theorem dX0_init_56 : decode cX0_init 56 = .ok (.bipush 48, 2) := by decide +kernel
theorem dX0_init_58 : decode cX0_init 58 = .ok (.putfield 38, 3) := by decide +kernel
theorem dX0_init_61 : decode cX0_init 61 = .ok (.aload_n 0, 1) := by decide +kernel
theorem dX0_init_62 : decode cX0_init 62 = .ok (.bipush 10, 2) := by decide +kernel
theorem dX0_init_64 : decode cX0_init 64 = .ok (.newarray .int, 2) := by decide +kernel
theorem dX0_init_66 : decode cX0_init 66 = .ok (.putfield 41, 3) := by decide +kernel
theorem dX0_init_69 : decode cX0_init 69 = .ok (.aload_n 0, 1) := by decide +kernel
theorem dX0_init_70 : decode cX0_init 70 = .ok (.bipush 10, 2) := by decide +kernel
theorem dX0_init_72 : decode cX0_init 72 = .ok (.newarray .int, 2) := by decide +kernel
theorem dX0_init_74 : decode cX0_init 74 = .ok (.putfield 45, 3) := by decide +kernel
theorem dX0_init_77 : decode cX0_init 77 = .ok (.aload_n 0, 1) := by decide +kernel
theorem dX0_init_78 : decode cX0_init 78 = .ok (.bipush 10, 2) := by decide +kernel
theorem dX0_init_80 : decode cX0_init 80 = .ok (.newarray .int, 2) := by decide +kernel
theorem dX0_init_82 : decode cX0_init 82 = .ok (.putfield 48, 3) := by decide +kernel
theorem dX0_init_85 : decode cX0_init 85 = .ok (.aload_n 0, 1) := by decide +kernel
theorem dX0_init_86 : decode cX0_init 86 = .ok (.bipush 10, 2) := by decide +kernel
theorem dX0_init_88 : decode cX0_init 88 = .ok (.newarray .int, 2) := by decide +kernel
theorem dX0_init_90 : decode cX0_init 90 = .ok (.putfield 51, 3) := by decide +kernel
theorem dX0_init_93 : decode cX0_init 93 = .ok (.aload_n 0, 1) := by decide +kernel
theorem dX0_init_94 : decode cX0_init 94 = .ok (.aload_n 1, 1) := by decide +kernel
theorem dX0_init_95 : decode cX0_init 95 = .ok (.putfield 54, 3) := by decide +kernel
theorem dX0_init_98 : decode cX0_init 98 = .ok (.return_, 1) := by decide +kernel
theorem dX0_copyFrom_0 : decode cX0_copyFrom 0 = .ok (.aload_n 0, 1) := by decide +kernel
theorem dX0_copyFrom_1 : decode cX0_copyFrom 1 = .ok (.getfield 12, 3) := by decide +kernel
theorem dX0_copyFrom_4 : decode cX0_copyFrom 4 = .ok (.aload_n 1, 1) := by decide +kernel
theorem dX0_copyFrom_5 : decode cX0_copyFrom 5 = .ok (.getfield 12, 3) := by decide +kernel
theorem dX0_copyFrom_8 : decode cX0_copyFrom 8 = .ok (.invokevirtual 58, 3) := by decide +kernel
theorem dX0_copyFrom_11 : decode cX0_copyFrom 11 = .ok (.aload_n 0, 1) := by decide +kernel
theorem dX0_copyFrom_12 : decode cX0_copyFrom 12 = .ok (.getfield 18, 3) := by decide +kernel
theorem dX0_copyFrom_15 : decode cX0_copyFrom 15 = .ok (.aload_n 1, 1) := by decide +kernel
theorem dX0_copyFrom_16 : decode cX0_copyFrom 16 = .ok (.getfield 18, 3) := by decide +kernel
theorem dX0_copyFrom_19 : decode cX0_copyFrom 19 = .ok (.invokevirtual 58, 3) := by decide +kernel
theorem dX0_copyFrom_22 : decode cX0_copyFrom 22 = .ok (.aload_n 0, 1) := by decide +kernel
theorem dX0_copyFrom_23 : decode cX0_copyFrom 23 = .ok (.aload_n 1, 1) := by decide +kernel
theorem dX0_copyFrom_24 : decode cX0_copyFrom 24 = .ok (.getfield 21, 3) := by decide +kernel
theorem dX0_copyFrom_27 : decode cX0_copyFrom 27 = .ok (.putfield 21, 3) := by decide +kernel
theorem dX0_copyFrom_30 : decode cX0_copyFrom 30 = .ok (.aload_n 0, 1) := by decide +kernel
theorem dX0_copyFrom_31 : decode cX0_copyFrom 31 = .ok (.aload_n 1, 1) := by decide +kernel
theorem dX0_copyFrom_32 : decode cX0_copyFrom 32 = .ok (.getfield 25, 3) := by decide +kernel
theorem dX0_copyFrom_35 : decode cX0_copyFrom 35 = .ok (.putfield 25, 3) := by decide +kernel
theorem dX0_copyFrom_38 : decode cX0_copyFrom 38 = .ok (.aload_n 0, 1) := by decide +kernel
theorem dX0_copyFrom_39 : decode cX0_copyFrom 39 = .ok (.aload_n 1, 1) := by decide +kernel
theorem dX0_copyFrom_40 : decode cX0_copyFrom 40 = .ok (.getfield 29, 3) := by decide +kernel
theorem dX0_copyFrom_43 : decode cX0_copyFrom 43 = .ok (.putfield 29, 3) := by decide +kernel
theorem dX0_copyFrom_46 : decode cX0_copyFrom 46 = .ok (.aload_n 0, 1) := by decide +kernel
theorem dX0_copyFrom_47 : decode cX0_copyFrom 47 = .ok (.aload_n 1, 1) := by decide +kernel
theorem dX0_copyFrom_48 : decode cX0_copyFrom 48 = .ok (.getfield 32, 3) := by decide +kernel
theorem dX0_copyFrom_51 : decode cX0_copyFrom 51 = .ok (.putfield 32, 3) := by decide +kernel
theorem dX0_copyFrom_54 : decode cX0_copyFrom 54 = .ok (.aload_n 0, 1) := by decide +kernel
theorem dX0_copyFrom_55 : decode cX0_copyFrom 55 = .ok (.aload_n 1, 1) := by decide +kernel
theorem dX0_copyFrom_56 : decode cX0_copyFrom 56 = .ok (.getfield 35, 3) := by decide +kernel
theorem dX0_copyFrom_59 : decode cX0_copyFrom 59 = .ok (.putfield 35, 3) := by decide +kernel
theorem dX0_copyFrom_62 : decode cX0_copyFrom 62 = .ok (.aload_n 0, 1) := by decide +kernel
theorem dX0_copyFrom_63 : decode cX0_copyFrom 63 = .ok (.aload_n 1, 1) := by decide +kernel
theorem dX0_copyFrom_64 : decode cX0_copyFrom 64 = .ok (.getfield 38, 3) := by decide +kernel
theorem dX0_copyFrom_67 : decode cX0_copyFrom 67 = .ok (.putfield 38, 3) := by decide +kernel
theorem dX0_copyFrom_70 : decode cX0_copyFrom 70 = .ok (.aload_n 0, 1) := by decide +kernel
theorem dX0_copyFrom_71 : decode cX0_copyFrom 71 = .ok (.aload_n 1, 1) := by decide +kernel
theorem dX0_copyFrom_72 : decode cX0_copyFrom 72 = .ok (.getfield 62, 3) := by decide +kernel
theorem dX0_copyFrom_75 : decode cX0_copyFrom 75 = .ok (.putfield 62, 3) := by decide +kernel
theorem dX0_copyFrom_78 : decode cX0_copyFrom 78 = .ok (.aload_n 1, 1) := by decide +kernel
theorem dX0_copyFrom_79 : decode cX0_copyFrom 79 = .ok (.getfield 41, 3) := by decide +kernel
theorem dX0_copyFrom_82 : decode cX0_copyFrom 82 = .ok (.iconst 0, 1) := by decide +kernel
theorem dX0_copyFrom_83 : decode cX0_copyFrom 83 = .ok (.aload_n 0, 1) := by decide +kernel
theorem dX0_copyFrom_84 : decode cX0_copyFrom 84 = .ok (.getfield 41, 3) := by decide +kernel
theorem dX0_copyFrom_87 : decode cX0_copyFrom 87 = .ok (.iconst 0, 1) := by decide +kernel
theorem dX0_copyFrom_88 : decode cX0_copyFrom 88 = .ok (.bipush 10, 2) := by decide +kernel
theorem dX0_copyFrom_90 : decode cX0_copyFrom 90 = .ok (.invokestatic 65, 3) := by decide +kernel
theorem dX0_copyFrom_93 : decode cX0_copyFrom 93 = .ok (.aload_n 1, 1) := by decide +kernel
theorem dX0_copyFrom_94 : decode cX0_copyFrom 94 = .ok (.getfield 45, 3) := by decide +kernel
theorem dX0_copyFrom_97 : decode cX0_copyFrom 97 = .ok (.iconst 0, 1) := by decide +kernel
theorem dX0_copyFrom_98 : decode cX0_copyFrom 98 = .ok (.aload_n 0, 1) := by decide +kernel
theorem dX0_copyFrom_99 : decode cX0_copyFrom 99 = .ok (.getfield 45, 3) := by decide +kernel
theorem dX0_copyFrom_102 : decode cX0_copyFrom 102 = .ok (.iconst 0, 1) := by decide +kernel
theorem dX0_copyFrom_103 : decode cX0_copyFrom 103 = .ok (.bipush 10, 2) := by decide +kernel
theorem dX0_copyFrom_105 : decode cX0_copyFrom 105 = .ok (.invokestatic 65, 3) := by decide +kernel
theorem dX0_copyFrom_108 : decode cX0_copyFrom 108 = .ok (.return_, 1) := by decide +kernel
theorem dX0_isPowered_0 : decode cX0_isPowered 0 = .ok (.aload_n 0, 1) := by decide +kernel
theorem dX0_isPowered_1 : decode cX0_isPowered 1 = .ok (.getfield 21, 3) := by decide +kernel
theorem dX0_isPowered_4 : decode cX0_isPowered 4 = .ok (.ireturn, 1) := by decide +kernel
theorem dX0_isReady_0 : decode cX0_isReady 0 = .ok (.aload_n 0, 1) := by decide +kernel
theorem dX0_isReady_1 : decode cX0_isReady 1 = .ok (.getfield 21, 3) := by decide +kernel
theorem dX0_isReady_4 : decode cX0_isReady 4 = .ok (.ifCond .eq 16, 3) := by decide +kernel
theorem dX0_isReady_7 : decode cX0_isReady 7 = .ok (.aload_n 0, 1) := by decide +kernel
theorem dX0_isReady_8 : decode cX0_isReady 8 = .ok (.getfield 29, 3) := by decide +kernel
theorem dX0_isReady_11 : decode cX0_isReady 11 = .ok (.bipush (-6), 2) := by decide +kernel
theorem dX0_isReady_13 : decode cX0_isReady 13 = .ok (.if_icmp .eq 7, 3) := by decide +kernel
theorem dX0_isReady_16 : decode cX0_isReady 16 = .ok (.iconst 1, 1) := by decide +kernel
theorem dX0_isReady_17 : decode cX0_isReady 17 = .ok (.goto 4, 3) := by decide +kernel
theorem dX0_isReady_20 : decode cX0_isReady 20 = .ok (.iconst 0, 1) := by decide +kernel
theorem dX0_isReady_21 : decode cX0_isReady 21 = .ok (.ireturn, 1) := by decide +kernel
theorem dX0_writesLeft_0 : decode cX0_writesLeft 0 = .ok (.aload_n 0, 1) := by decide +kernel
theorem dX0_writesLeft_1 : decode cX0_writesLeft 1 = .ok (.getfield 25, 3) := by decide +kernel
theorem dX0_writesLeft_4 : decode cX0_writesLeft 4 = .ok (.ireturn, 1) := by decide +kernel
theorem dX0_active_0 : decode cX0_active 0 = .ok (.aload_n 0, 1) := by decide +kernel
theorem dX0_active_1 : decode cX0_active 1 = .ok (.getfield 29, 3) := by decide +kernel
theorem dX0_active_4 : decode cX0_active 4 = .ok (.ireturn, 1) := by decide +kernel
theorem dX0_version_0 : decode cX0_version 0 = .ok (.aload_n 0, 1) := by decide +kernel
theorem dX0_version_1 : decode cX0_version 1 = .ok (.getfield 32, 3) := by decide +kernel
theorem dX0_version_4 : decode cX0_version 4 = .ok (.ireturn, 1) := by decide +kernel
theorem dX0_sequence_0 : decode cX0_sequence 0 = .ok (.aload_n 0, 1) := by decide +kernel
theorem dX0_sequence_1 : decode cX0_sequence 1 = .ok (.getfield 35, 3) := by decide +kernel
theorem dX0_sequence_4 : decode cX0_sequence 4 = .ok (.ireturn, 1) := by decide +kernel
theorem dX0_badRecords_0 : decode cX0_badRecords 0 = .ok (.aload_n 0, 1) := by decide +kernel
theorem dX0_badRecords_1 : decode cX0_badRecords 1 = .ok (.getfield 62, 3) := by decide +kernel
theorem dX0_badRecords_4 : decode cX0_badRecords 4 = .ok (.ireturn, 1) := by decide +kernel
theorem dX0_pageOf_0 : decode cX0_pageOf 0 = .ok (.iload_n 1, 1) := by decide +kernel
theorem dX0_pageOf_1 : decode cX0_pageOf 1 = .ok (.iconst 1, 1) := by decide +kernel
theorem dX0_pageOf_2 : decode cX0_pageOf 2 = .ok (.if_icmp .ne 10, 3) := by decide +kernel
theorem dX0_pageOf_5 : decode cX0_pageOf 5 = .ok (.aload_n 0, 1) := by decide +kernel
theorem dX0_pageOf_6 : decode cX0_pageOf 6 = .ok (.getfield 18, 3) := by decide +kernel
theorem dX0_pageOf_9 : decode cX0_pageOf 9 = .ok (.goto 7, 3) := by decide +kernel
theorem dX0_pageOf_12 : decode cX0_pageOf 12 = .ok (.aload_n 0, 1) := by decide +kernel
theorem dX0_pageOf_13 : decode cX0_pageOf 13 = .ok (.getfield 12, 3) := by decide +kernel
theorem dX0_pageOf_16 : decode cX0_pageOf 16 = .ok (.areturn, 1) := by decide +kernel
theorem dX0_presentLayout_0 : decode cX0_presentLayout 0 = .ok (.aload_n 0, 1) := by decide +kernel
theorem dX0_presentLayout_1 : decode cX0_presentLayout 1 = .ok (.getfield 54, 3) := by decide +kernel
theorem dX0_presentLayout_4 : decode cX0_presentLayout 4 = .ok (.aload_n 0, 1) := by decide +kernel
theorem dX0_presentLayout_5 : decode cX0_presentLayout 5 = .ok (.getfield 32, 3) := by decide +kernel
theorem dX0_presentLayout_8 : decode cX0_presentLayout 8 = .ok (.invokevirtual 71, 3) := by decide +kernel
theorem dX0_presentLayout_11 : decode cX0_presentLayout 11 = .ok (.areturn, 1) := by decide +kernel
theorem dX0_valueOf_0 : decode cX0_valueOf 0 = .ok (.iload_n 1, 1) := by decide +kernel
theorem dX0_valueOf_1 : decode cX0_valueOf 1 = .ok (.invokestatic 77, 3) := by decide +kernel
theorem dX0_valueOf_4 : decode cX0_valueOf 4 = .ok (.ifCond .eq 12, 3) := by decide +kernel
theorem dX0_valueOf_7 : decode cX0_valueOf 7 = .ok (.aload_n 0, 1) := by decide +kernel
theorem dX0_valueOf_8 : decode cX0_valueOf 8 = .ok (.getfield 41, 3) := by decide +kernel
theorem dX0_valueOf_11 : decode cX0_valueOf 11 = .ok (.iload_n 1, 1) := by decide +kernel
theorem dX0_valueOf_12 : decode cX0_valueOf 12 = .ok (.iaload, 1) := by decide +kernel
theorem dX0_valueOf_13 : decode cX0_valueOf 13 = .ok (.goto 5, 3) := by decide +kernel
theorem dX0_valueOf_16 : decode cX0_valueOf 16 = .ok (.bipush (-6), 2) := by decide +kernel
theorem dX0_valueOf_18 : decode cX0_valueOf 18 = .ok (.ireturn, 1) := by decide +kernel
theorem dX0_placeOf_0 : decode cX0_placeOf 0 = .ok (.iload_n 1, 1) := by decide +kernel
theorem dX0_placeOf_1 : decode cX0_placeOf 1 = .ok (.invokestatic 77, 3) := by decide +kernel
theorem dX0_placeOf_4 : decode cX0_placeOf 4 = .ok (.ifCond .eq 12, 3) := by decide +kernel
theorem dX0_placeOf_7 : decode cX0_placeOf 7 = .ok (.aload_n 0, 1) := by decide +kernel
theorem dX0_placeOf_8 : decode cX0_placeOf 8 = .ok (.getfield 45, 3) := by decide +kernel
theorem dX0_placeOf_11 : decode cX0_placeOf 11 = .ok (.iload_n 1, 1) := by decide +kernel
theorem dX0_placeOf_12 : decode cX0_placeOf 12 = .ok (.iaload, 1) := by decide +kernel
theorem dX0_placeOf_13 : decode cX0_placeOf 13 = .ok (.goto 5, 3) := by decide +kernel
theorem dX0_placeOf_16 : decode cX0_placeOf 16 = .ok (.bipush (-6), 2) := by decide +kernel
theorem dX0_placeOf_18 : decode cX0_placeOf 18 = .ok (.ireturn, 1) := by decide +kernel
theorem dX0_countRoom_0 : decode cX0_countRoom 0 = .ok (.bipush 48, 2) := by decide +kernel
theorem dX0_countRoom_2 : decode cX0_countRoom 2 = .ok (.aload_n 0, 1) := by decide +kernel
theorem dX0_countRoom_3 : decode cX0_countRoom 3 = .ok (.getfield 38, 3) := by decide +kernel
theorem dX0_countRoom_6 : decode cX0_countRoom 6 = .ok (.isub, 1) := by decide +kernel
theorem dX0_countRoom_7 : decode cX0_countRoom 7 = .ok (.iconst 3, 1) := by decide +kernel
theorem dX0_countRoom_8 : decode cX0_countRoom 8 = .ok (.idiv, 1) := by decide +kernel
theorem dX0_countRoom_9 : decode cX0_countRoom 9 = .ok (.ireturn, 1) := by decide +kernel
theorem dX0_countSettings_0 : decode cX0_countSettings 0 = .ok (.iconst 0, 1) := by decide +kernel
theorem dX0_countSettings_1 : decode cX0_countSettings 1 = .ok (.istore_n 1, 1) := by decide +kernel
theorem dX0_countSettings_2 : decode cX0_countSettings 2 = .ok (.iconst 0, 1) := by decide +kernel
theorem dX0_countSettings_3 : decode cX0_countSettings 3 = .ok (.istore_n 2, 1) := by decide +kernel
theorem dX0_countSettings_4 : decode cX0_countSettings 4 = .ok (.iload_n 2, 1) := by decide +kernel
theorem dX0_countSettings_5 : decode cX0_countSettings 5 = .ok (.bipush 10, 2) := by decide +kernel
theorem dX0_countSettings_7 : decode cX0_countSettings 7 = .ok (.if_icmp .ge 23, 3) := by decide +kernel
theorem dX0_countSettings_10 : decode cX0_countSettings 10 = .ok (.aload_n 0, 1) := by decide +kernel
theorem dX0_countSettings_11 : decode cX0_countSettings 11 = .ok (.invokevirtual 81, 3) := by decide +kernel
theorem dX0_countSettings_14 : decode cX0_countSettings 14 = .ok (.iload_n 2, 1) := by decide +kernel
theorem dX0_countSettings_15 : decode cX0_countSettings 15 = .ok (.invokevirtual 85, 3) := by decide +kernel
theorem dX0_countSettings_18 : decode cX0_countSettings 18 = .ok (.ifCond .eq 6, 3) := by decide +kernel
theorem dX0_countSettings_21 : decode cX0_countSettings 21 = .ok (.iinc 1 1, 3) := by decide +kernel
theorem dX0_countSettings_24 : decode cX0_countSettings 24 = .ok (.iinc 2 1, 3) := by decide +kernel
theorem dX0_countSettings_27 : decode cX0_countSettings 27 = .ok (.goto (-23), 3) := by decide +kernel
theorem dX0_countSettings_30 : decode cX0_countSettings 30 = .ok (.iload_n 1, 1) := by decide +kernel
theorem dX0_countSettings_31 : decode cX0_countSettings 31 = .ok (.ireturn, 1) := by decide +kernel
theorem dX0_countChangedSettings_0 : decode cX0_countChangedSettings 0 = .ok (.iconst 0, 1) := by decide +kernel
theorem dX0_countChangedSettings_1 : decode cX0_countChangedSettings 1 = .ok (.istore_n 1, 1) := by decide +kernel
theorem dX0_countChangedSettings_2 : decode cX0_countChangedSettings 2 = .ok (.iconst 0, 1) := by decide +kernel
theorem dX0_countChangedSettings_3 : decode cX0_countChangedSettings 3 = .ok (.istore_n 2, 1) := by decide +kernel
theorem dX0_countChangedSettings_4 : decode cX0_countChangedSettings 4 = .ok (.iload_n 2, 1) := by decide +kernel
theorem dX0_countChangedSettings_5 : decode cX0_countChangedSettings 5 = .ok (.bipush 10, 2) := by decide +kernel
theorem dX0_countChangedSettings_7 : decode cX0_countChangedSettings 7 = .ok (.if_icmp .ge 40, 3) := by decide +kernel
theorem dX0_countChangedSettings_10 : decode cX0_countChangedSettings 10 = .ok (.aload_n 0, 1) := by decide +kernel
theorem dX0_countChangedSettings_11 : decode cX0_countChangedSettings 11 = .ok (.invokevirtual 81, 3) := by decide +kernel
theorem dX0_countChangedSettings_14 : decode cX0_countChangedSettings 14 = .ok (.iload_n 2, 1) := by decide +kernel
theorem dX0_countChangedSettings_15 : decode cX0_countChangedSettings 15 = .ok (.invokevirtual 85, 3) := by decide +kernel
theorem dX0_countChangedSettings_18 : decode cX0_countChangedSettings 18 = .ok (.ifCond .eq 23, 3) := by decide +kernel
theorem dX0_countChangedSettings_21 : decode cX0_countChangedSettings 21 = .ok (.aload_n 0, 1) := by decide +kernel
theorem dX0_countChangedSettings_22 : decode cX0_countChangedSettings 22 = .ok (.getfield 41, 3) := by decide +kernel
theorem dX0_countChangedSettings_25 : decode cX0_countChangedSettings 25 = .ok (.iload_n 2, 1) := by decide +kernel
theorem dX0_countChangedSettings_26 : decode cX0_countChangedSettings 26 = .ok (.iaload, 1) := by decide +kernel
theorem dX0_countChangedSettings_27 : decode cX0_countChangedSettings 27 = .ok (.aload_n 0, 1) := by decide +kernel
theorem dX0_countChangedSettings_28 : decode cX0_countChangedSettings 28 = .ok (.invokevirtual 81, 3) := by decide +kernel
theorem dX0_countChangedSettings_31 : decode cX0_countChangedSettings 31 = .ok (.iload_n 2, 1) := by decide +kernel
theorem dX0_countChangedSettings_32 : decode cX0_countChangedSettings 32 = .ok (.invokevirtual 90, 3) := by decide +kernel
theorem dX0_countChangedSettings_35 : decode cX0_countChangedSettings 35 = .ok (.if_icmp .eq 6, 3) := by decide +kernel
theorem dX0_countChangedSettings_38 : decode cX0_countChangedSettings 38 = .ok (.iinc 1 1, 3) := by decide +kernel
theorem dX0_countChangedSettings_41 : decode cX0_countChangedSettings 41 = .ok (.iinc 2 1, 3) := by decide +kernel
theorem dX0_countChangedSettings_44 : decode cX0_countChangedSettings 44 = .ok (.goto (-40), 3) := by decide +kernel
theorem dX0_countChangedSettings_47 : decode cX0_countChangedSettings 47 = .ok (.iload_n 1, 1) := by decide +kernel
theorem dX0_countChangedSettings_48 : decode cX0_countChangedSettings 48 = .ok (.ireturn, 1) := by decide +kernel
theorem dX0_failBehind_0 : decode cX0_failBehind 0 = .ok (.aload_n 0, 1) := by decide +kernel
theorem dX0_failBehind_1 : decode cX0_failBehind 1 = .ok (.iload_n 1, 1) := by decide +kernel
theorem dX0_failBehind_2 : decode cX0_failBehind 2 = .ok (.putfield 25, 3) := by decide +kernel
theorem dX0_failBehind_5 : decode cX0_failBehind 5 = .ok (.return_, 1) := by decide +kernel
theorem dX0_restart_0 : decode cX0_restart 0 = .ok (.aload_n 0, 1) := by decide +kernel
theorem dX0_restart_1 : decode cX0_restart 1 = .ok (.iconst 1, 1) := by decide +kernel
theorem dX0_restart_2 : decode cX0_restart 2 = .ok (.putfield 21, 3) := by decide +kernel
theorem dX0_restart_5 : decode cX0_restart 5 = .ok (.aload_n 0, 1) := by decide +kernel
theorem dX0_restart_6 : decode cX0_restart 6 = .ok (.bipush (-6), 2) := by decide +kernel
theorem dX0_restart_8 : decode cX0_restart 8 = .ok (.putfield 25, 3) := by decide +kernel
theorem dX0_restart_11 : decode cX0_restart 11 = .ok (.aload_n 0, 1) := by decide +kernel
theorem dX0_restart_12 : decode cX0_restart 12 = .ok (.aload_n 0, 1) := by decide +kernel
theorem dX0_restart_13 : decode cX0_restart 13 = .ok (.invokevirtual 94, 3) := by decide +kernel
theorem dX0_restart_16 : decode cX0_restart 16 = .ok (.putfield 29, 3) := by decide +kernel
theorem dX0_restart_19 : decode cX0_restart 19 = .ok (.aload_n 0, 1) := by decide +kernel
theorem dX0_restart_20 : decode cX0_restart 20 = .ok (.aload_n 0, 1) := by decide +kernel
theorem dX0_restart_21 : decode cX0_restart 21 = .ok (.getfield 29, 3) := by decide +kernel
theorem dX0_restart_24 : decode cX0_restart 24 = .ok (.bipush (-6), 2) := by decide +kernel
theorem dX0_restart_26 : decode cX0_restart 26 = .ok (.if_icmp .ne 8, 3) := by decide +kernel
theorem dX0_restart_29 : decode cX0_restart 29 = .ok (.bipush (-6), 2) := by decide +kernel
theorem dX0_restart_31 : decode cX0_restart 31 = .ok (.goto 14, 3) := by decide +kernel
theorem dX0_restart_34 : decode cX0_restart 34 = .ok (.aload_n 0, 1) := by decide +kernel
theorem dX0_restart_35 : decode cX0_restart 35 = .ok (.aload_n 0, 1) := by decide +kernel
theorem dX0_restart_36 : decode cX0_restart 36 = .ok (.getfield 29, 3) := by decide +kernel
theorem dX0_restart_39 : decode cX0_restart 39 = .ok (.invokevirtual 98, 3) := by decide +kernel
theorem dX0_restart_42 : decode cX0_restart 42 = .ok (.invokevirtual 102, 3) := by decide +kernel
theorem dX0_restart_45 : decode cX0_restart 45 = .ok (.putfield 32, 3) := by decide +kernel
theorem dX0_restart_48 : decode cX0_restart 48 = .ok (.aload_n 0, 1) := by decide +kernel
theorem dX0_restart_49 : decode cX0_restart 49 = .ok (.aload_n 0, 1) := by decide +kernel
theorem dX0_restart_50 : decode cX0_restart 50 = .ok (.getfield 29, 3) := by decide +kernel
theorem dX0_restart_53 : decode cX0_restart 53 = .ok (.bipush (-6), 2) := by decide +kernel
theorem dX0_restart_55 : decode cX0_restart 55 = .ok (.if_icmp .ne 8, 3) := by decide +kernel
theorem dX0_restart_58 : decode cX0_restart 58 = .ok (.bipush (-6), 2) := by decide +kernel
theorem dX0_restart_60 : decode cX0_restart 60 = .ok (.goto 14, 3) := by decide +kernel
theorem dX0_restart_63 : decode cX0_restart 63 = .ok (.aload_n 0, 1) := by decide +kernel
theorem dX0_restart_64 : decode cX0_restart 64 = .ok (.aload_n 0, 1) := by decide +kernel
theorem dX0_restart_65 : decode cX0_restart 65 = .ok (.getfield 29, 3) := by decide +kernel
theorem dX0_restart_68 : decode cX0_restart 68 = .ok (.invokevirtual 98, 3) := by decide +kernel
theorem dX0_restart_71 : decode cX0_restart 71 = .ok (.invokevirtual 104, 3) := by decide +kernel
theorem dX0_restart_74 : decode cX0_restart 74 = .ok (.putfield 35, 3) := by decide +kernel
theorem dX0_restart_77 : decode cX0_restart 77 = .ok (.aload_n 0, 1) := by decide +kernel
theorem dX0_restart_78 : decode cX0_restart 78 = .ok (.invokevirtual 106, 3) := by decide +kernel
theorem dX0_restart_81 : decode cX0_restart 81 = .ok (.aload_n 0, 1) := by decide +kernel
theorem dX0_restart_82 : decode cX0_restart 82 = .ok (.iconst 0, 1) := by decide +kernel
theorem dX0_restart_83 : decode cX0_restart 83 = .ok (.putfield 62, 3) := by decide +kernel
theorem dX0_restart_86 : decode cX0_restart 86 = .ok (.aload_n 0, 1) := by decide +kernel
theorem dX0_restart_87 : decode cX0_restart 87 = .ok (.getfield 29, 3) := by decide +kernel
theorem dX0_restart_90 : decode cX0_restart 90 = .ok (.bipush (-6), 2) := by decide +kernel
theorem dX0_restart_92 : decode cX0_restart 92 = .ok (.if_icmp .ne 12, 3) := by decide +kernel
theorem dX0_restart_95 : decode cX0_restart 95 = .ok (.aload_n 0, 1) := by decide +kernel
theorem dX0_restart_96 : decode cX0_restart 96 = .ok (.bipush 48, 2) := by decide +kernel
theorem dX0_restart_98 : decode cX0_restart 98 = .ok (.putfield 38, 3) := by decide +kernel
theorem dX0_restart_101 : decode cX0_restart 101 = .ok (.goto 15, 3) := by decide +kernel
theorem dX0_restart_104 : decode cX0_restart 104 = .ok (.aload_n 0, 1) := by decide +kernel
theorem dX0_restart_105 : decode cX0_restart 105 = .ok (.aload_n 0, 1) := by decide +kernel
theorem dX0_restart_106 : decode cX0_restart 106 = .ok (.aload_n 0, 1) := by decide +kernel
theorem dX0_restart_107 : decode cX0_restart 107 = .ok (.getfield 29, 3) := by decide +kernel
theorem dX0_restart_110 : decode cX0_restart 110 = .ok (.invokevirtual 98, 3) := by decide +kernel
theorem dX0_restart_113 : decode cX0_restart 113 = .ok (.invokevirtual 109, 3) := by decide +kernel
theorem dX0_restart_116 : decode cX0_restart 116 = .ok (.return_, 1) := by decide +kernel
theorem dX0_findActive_0 : decode cX0_findActive 0 = .ok (.aload_n 0, 1) := by decide +kernel
theorem dX0_findActive_1 : decode cX0_findActive 1 = .ok (.getfield 12, 3) := by decide +kernel
theorem dX0_findActive_4 : decode cX0_findActive 4 = .ok (.aload_n 0, 1) := by decide +kernel
theorem dX0_findActive_5 : decode cX0_findActive 5 = .ok (.getfield 54, 3) := by decide +kernel
theorem dX0_findActive_8 : decode cX0_findActive 8 = .ok (.invokevirtual 112, 3) := by decide +kernel
theorem dX0_findActive_11 : decode cX0_findActive 11 = .ok (.istore_n 1, 1) := by decide +kernel
theorem dX0_findActive_12 : decode cX0_findActive 12 = .ok (.aload_n 0, 1) := by decide +kernel
theorem dX0_findActive_13 : decode cX0_findActive 13 = .ok (.getfield 18, 3) := by decide +kernel
theorem dX0_findActive_16 : decode cX0_findActive 16 = .ok (.aload_n 0, 1) := by decide +kernel
theorem dX0_findActive_17 : decode cX0_findActive 17 = .ok (.getfield 54, 3) := by decide +kernel
theorem dX0_findActive_20 : decode cX0_findActive 20 = .ok (.invokevirtual 112, 3) := by decide +kernel
theorem dX0_findActive_23 : decode cX0_findActive 23 = .ok (.istore_n 2, 1) := by decide +kernel
theorem dX0_findActive_24 : decode cX0_findActive 24 = .ok (.iload_n 1, 1) := by decide +kernel
theorem dX0_findActive_25 : decode cX0_findActive 25 = .ok (.ifCond .eq 46, 3) := by decide +kernel
theorem dX0_findActive_28 : decode cX0_findActive 28 = .ok (.iload_n 2, 1) := by decide +kernel
theorem dX0_findActive_29 : decode cX0_findActive 29 = .ok (.ifCond .eq 42, 3) := by decide +kernel
theorem dX0_findActive_32 : decode cX0_findActive 32 = .ok (.aload_n 0, 1) := by decide +kernel
theorem dX0_findActive_33 : decode cX0_findActive 33 = .ok (.getfield 18, 3) := by decide +kernel
theorem dX0_findActive_36 : decode cX0_findActive 36 = .ok (.invokevirtual 104, 3) := by decide +kernel
theorem dX0_findActive_39 : decode cX0_findActive 39 = .ok (.aload_n 0, 1) := by decide +kernel
theorem dX0_findActive_40 : decode cX0_findActive 40 = .ok (.getfield 12, 3) := by decide +kernel
theorem dX0_findActive_43 : decode cX0_findActive 43 = .ok (.invokevirtual 104, 3) := by decide +kernel
theorem dX0_findActive_46 : decode cX0_findActive 46 = .ok (.isub, 1) := by decide +kernel
theorem dX0_findActive_47 : decode cX0_findActive 47 = .ok (.sipush 200, 3) := by decide +kernel
theorem dX0_findActive_50 : decode cX0_findActive 50 = .ok (.invokestatic 116, 3) := by decide +kernel
theorem dX0_findActive_53 : decode cX0_findActive 53 = .ok (.istore_n 3, 1) := by decide +kernel
theorem dX0_findActive_54 : decode cX0_findActive 54 = .ok (.iload_n 3, 1) := by decide +kernel
theorem dX0_findActive_55 : decode cX0_findActive 55 = .ok (.iconst 1, 1) := by decide +kernel
theorem dX0_findActive_56 : decode cX0_findActive 56 = .ok (.if_icmp .lt 13, 3) := by decide +kernel
theorem dX0_findActive_59 : decode cX0_findActive 59 = .ok (.iload_n 3, 1) := by decide +kernel
theorem dX0_findActive_60 : decode cX0_findActive 60 = .ok (.bipush 100, 2) := by decide +kernel
theorem dX0_findActive_62 : decode cX0_findActive 62 = .ok (.if_icmp .gt 7, 3) := by decide +kernel
theorem dX0_findActive_65 : decode cX0_findActive 65 = .ok (.iconst 1, 1) := by decide +kernel
theorem dX0_findActive_66 : decode cX0_findActive 66 = .ok (.goto 4, 3) := by decide +kernel
theorem dX0_findActive_69 : decode cX0_findActive 69 = .ok (.iconst 0, 1) := by decide +kernel
theorem dX0_findActive_70 : decode cX0_findActive 70 = .ok (.ireturn, 1) := by decide +kernel
theorem dX0_findActive_71 : decode cX0_findActive 71 = .ok (.iload_n 2, 1) := by decide +kernel
theorem dX0_findActive_72 : decode cX0_findActive 72 = .ok (.ifCond .eq 5, 3) := by decide +kernel
theorem dX0_findActive_75 : decode cX0_findActive 75 = .ok (.iconst 1, 1) := by decide +kernel
theorem dX0_findActive_76 : decode cX0_findActive 76 = .ok (.ireturn, 1) := by decide +kernel
theorem dX0_findActive_77 : decode cX0_findActive 77 = .ok (.iload_n 1, 1) := by decide +kernel
theorem dX0_findActive_78 : decode cX0_findActive 78 = .ok (.ifCond .eq 7, 3) := by decide +kernel
theorem dX0_findActive_81 : decode cX0_findActive 81 = .ok (.iconst 0, 1) := by decide +kernel
theorem dX0_findActive_82 : decode cX0_findActive 82 = .ok (.goto 5, 3) := by decide +kernel
theorem dX0_findActive_85 : decode cX0_findActive 85 = .ok (.bipush (-6), 2) := by decide +kernel
theorem dX0_findActive_87 : decode cX0_findActive 87 = .ok (.ireturn, 1) := by decide +kernel
theorem dX0_takeDefaults_0 : decode cX0_takeDefaults 0 = .ok (.iconst 0, 1) := by decide +kernel
theorem dX0_takeDefaults_1 : decode cX0_takeDefaults 1 = .ok (.istore_n 1, 1) := by decide +kernel
theorem dX0_takeDefaults_2 : decode cX0_takeDefaults 2 = .ok (.iload_n 1, 1) := by decide +kernel
theorem dX0_takeDefaults_3 : decode cX0_takeDefaults 3 = .ok (.bipush 10, 2) := by decide +kernel
theorem dX0_takeDefaults_5 : decode cX0_takeDefaults 5 = .ok (.if_icmp .ge 31, 3) := by decide +kernel
theorem dX0_takeDefaults_8 : decode cX0_takeDefaults 8 = .ok (.aload_n 0, 1) := by decide +kernel
theorem dX0_takeDefaults_9 : decode cX0_takeDefaults 9 = .ok (.getfield 41, 3) := by decide +kernel
theorem dX0_takeDefaults_12 : decode cX0_takeDefaults 12 = .ok (.iload_n 1, 1) := by decide +kernel
theorem dX0_takeDefaults_13 : decode cX0_takeDefaults 13 = .ok (.aload_n 0, 1) := by decide +kernel
theorem dX0_takeDefaults_14 : decode cX0_takeDefaults 14 = .ok (.invokevirtual 81, 3) := by decide +kernel
theorem dX0_takeDefaults_17 : decode cX0_takeDefaults 17 = .ok (.iload_n 1, 1) := by decide +kernel
theorem dX0_takeDefaults_18 : decode cX0_takeDefaults 18 = .ok (.invokevirtual 90, 3) := by decide +kernel
theorem dX0_takeDefaults_21 : decode cX0_takeDefaults 21 = .ok (.iastore, 1) := by decide +kernel
theorem dX0_takeDefaults_22 : decode cX0_takeDefaults 22 = .ok (.aload_n 0, 1) := by decide +kernel
theorem dX0_takeDefaults_23 : decode cX0_takeDefaults 23 = .ok (.getfield 45, 3) := by decide +kernel
theorem dX0_takeDefaults_26 : decode cX0_takeDefaults 26 = .ok (.iload_n 1, 1) := by decide +kernel
theorem dX0_takeDefaults_27 : decode cX0_takeDefaults 27 = .ok (.bipush (-6), 2) := by decide +kernel
theorem dX0_takeDefaults_29 : decode cX0_takeDefaults 29 = .ok (.iastore, 1) := by decide +kernel
theorem dX0_takeDefaults_30 : decode cX0_takeDefaults 30 = .ok (.iinc 1 1, 3) := by decide +kernel
theorem dX0_takeDefaults_33 : decode cX0_takeDefaults 33 = .ok (.goto (-31), 3) := by decide +kernel
theorem dX0_takeDefaults_36 : decode cX0_takeDefaults 36 = .ok (.return_, 1) := by decide +kernel
theorem dX0_readRecords_0 : decode cX0_readRecords 0 = .ok (.iconst 3, 1) := by decide +kernel
theorem dX0_readRecords_1 : decode cX0_readRecords 1 = .ok (.istore_n 2, 1) := by decide +kernel
theorem dX0_readRecords_2 : decode cX0_readRecords 2 = .ok (.iload_n 2, 1) := by decide +kernel
theorem dX0_readRecords_3 : decode cX0_readRecords 3 = .ok (.bipush 48, 2) := by decide +kernel
theorem dX0_readRecords_5 : decode cX0_readRecords 5 = .ok (.if_icmp .ge 79, 3) := by decide +kernel
theorem dX0_readRecords_8 : decode cX0_readRecords 8 = .ok (.aload_n 1, 1) := by decide +kernel
theorem dX0_readRecords_9 : decode cX0_readRecords 9 = .ok (.iload_n 2, 1) := by decide +kernel
theorem dX0_readRecords_10 : decode cX0_readRecords 10 = .ok (.invokevirtual 122, 3) := by decide +kernel
theorem dX0_readRecords_13 : decode cX0_readRecords 13 = .ok (.ifCond .eq 71, 3) := by decide +kernel
theorem dX0_readRecords_16 : decode cX0_readRecords 16 = .ok (.aload_n 1, 1) := by decide +kernel
theorem dX0_readRecords_17 : decode cX0_readRecords 17 = .ok (.iload_n 2, 1) := by decide +kernel
theorem dX0_readRecords_18 : decode cX0_readRecords 18 = .ok (.invokevirtual 125, 3) := by decide +kernel
theorem dX0_readRecords_21 : decode cX0_readRecords 21 = .ok (.istore_n 3, 1) := by decide +kernel
theorem dX0_readRecords_22 : decode cX0_readRecords 22 = .ok (.iload_n 3, 1) := by decide +kernel
theorem dX0_readRecords_23 : decode cX0_readRecords 23 = .ok (.invokestatic 77, 3) := by decide +kernel
theorem dX0_readRecords_26 : decode cX0_readRecords 26 = .ok (.ifCond .eq 42, 3) := by decide +kernel
theorem dX0_readRecords_29 : decode cX0_readRecords 29 = .ok (.aload_n 1, 1) := by decide +kernel
theorem dX0_readRecords_30 : decode cX0_readRecords 30 = .ok (.iload_n 2, 1) := by decide +kernel
theorem dX0_readRecords_31 : decode cX0_readRecords 31 = .ok (.aload_n 0, 1) := by decide +kernel
theorem dX0_readRecords_32 : decode cX0_readRecords 32 = .ok (.invokevirtual 81, 3) := by decide +kernel
theorem dX0_readRecords_35 : decode cX0_readRecords 35 = .ok (.aload_n 0, 1) := by decide +kernel
theorem dX0_readRecords_36 : decode cX0_readRecords 36 = .ok (.getfield 32, 3) := by decide +kernel
theorem dX0_readRecords_39 : decode cX0_readRecords 39 = .ok (.invokevirtual 128, 3) := by decide +kernel
theorem dX0_readRecords_42 : decode cX0_readRecords 42 = .ok (.ifCond .eq 26, 3) := by decide +kernel
theorem dX0_readRecords_45 : decode cX0_readRecords 45 = .ok (.aload_n 0, 1) := by decide +kernel
theorem dX0_readRecords_46 : decode cX0_readRecords 46 = .ok (.getfield 41, 3) := by decide +kernel
theorem dX0_readRecords_49 : decode cX0_readRecords 49 = .ok (.iload_n 3, 1) := by decide +kernel
theorem dX0_readRecords_50 : decode cX0_readRecords 50 = .ok (.aload_n 1, 1) := by decide +kernel
theorem dX0_readRecords_51 : decode cX0_readRecords 51 = .ok (.iload_n 2, 1) := by decide +kernel
theorem dX0_readRecords_52 : decode cX0_readRecords 52 = .ok (.iconst 1, 1) := by decide +kernel
theorem dX0_readRecords_53 : decode cX0_readRecords 53 = .ok (.iadd, 1) := by decide +kernel
theorem dX0_readRecords_54 : decode cX0_readRecords 54 = .ok (.invokevirtual 132, 3) := by decide +kernel
theorem dX0_readRecords_57 : decode cX0_readRecords 57 = .ok (.iastore, 1) := by decide +kernel
theorem dX0_readRecords_58 : decode cX0_readRecords 58 = .ok (.aload_n 0, 1) := by decide +kernel
theorem dX0_readRecords_59 : decode cX0_readRecords 59 = .ok (.getfield 45, 3) := by decide +kernel
theorem dX0_readRecords_62 : decode cX0_readRecords 62 = .ok (.iload_n 3, 1) := by decide +kernel
theorem dX0_readRecords_63 : decode cX0_readRecords 63 = .ok (.iload_n 2, 1) := by decide +kernel
theorem dX0_readRecords_64 : decode cX0_readRecords 64 = .ok (.iastore, 1) := by decide +kernel
theorem dX0_readRecords_65 : decode cX0_readRecords 65 = .ok (.goto 13, 3) := by decide +kernel
theorem dX0_readRecords_68 : decode cX0_readRecords 68 = .ok (.aload_n 0, 1) := by decide +kernel
theorem dX0_readRecords_69 : decode cX0_readRecords 69 = .ok (.dup, 1) := by decide +kernel
theorem dX0_readRecords_70 : decode cX0_readRecords 70 = .ok (.getfield 62, 3) := by decide +kernel
theorem dX0_readRecords_73 : decode cX0_readRecords 73 = .ok (.iconst 1, 1) := by decide +kernel
theorem dX0_readRecords_74 : decode cX0_readRecords 74 = .ok (.iadd, 1) := by decide +kernel
theorem dX0_readRecords_75 : decode cX0_readRecords 75 = .ok (.putfield 62, 3) := by decide +kernel
theorem dX0_readRecords_78 : decode cX0_readRecords 78 = .ok (.iinc 2 3, 3) := by decide +kernel
theorem dX0_readRecords_81 : decode cX0_readRecords 81 = .ok (.goto (-79), 3) := by decide +kernel
theorem dX0_readRecords_84 : decode cX0_readRecords 84 = .ok (.aload_n 0, 1) := by decide +kernel
theorem dX0_readRecords_85 : decode cX0_readRecords 85 = .ok (.iload_n 2, 1) := by decide +kernel
theorem dX0_readRecords_86 : decode cX0_readRecords 86 = .ok (.putfield 38, 3) := by decide +kernel
theorem dX0_readRecords_89 : decode cX0_readRecords 89 = .ok (.return_, 1) := by decide +kernel
theorem dX0_change_0 : decode cX0_change 0 = .ok (.iload_n 1, 1) := by decide +kernel
theorem dX0_change_1 : decode cX0_change 1 = .ok (.invokestatic 77, 3) := by decide +kernel
theorem dX0_change_4 : decode cX0_change 4 = .ok (.ifCond .eq 13, 3) := by decide +kernel
theorem dX0_change_7 : decode cX0_change 7 = .ok (.aload_n 0, 1) := by decide +kernel
theorem dX0_change_8 : decode cX0_change 8 = .ok (.getfield 41, 3) := by decide +kernel
theorem dX0_change_11 : decode cX0_change 11 = .ok (.iload_n 1, 1) := by decide +kernel
theorem dX0_change_12 : decode cX0_change 12 = .ok (.iaload, 1) := by decide +kernel
theorem dX0_change_13 : decode cX0_change 13 = .ok (.iload_n 2, 1) := by decide +kernel
theorem dX0_change_14 : decode cX0_change 14 = .ok (.if_icmp .ne 5, 3) := by decide +kernel
theorem dX0_change_17 : decode cX0_change 17 = .ok (.iconst 0, 1) := by decide +kernel
theorem dX0_change_18 : decode cX0_change 18 = .ok (.ireturn, 1) := by decide +kernel
theorem dX0_change_19 : decode cX0_change 19 = .ok (.aload_n 0, 1) := by decide +kernel
theorem dX0_change_20 : decode cX0_change 20 = .ok (.getfield 38, 3) := by decide +kernel
theorem dX0_change_23 : decode cX0_change 23 = .ok (.iconst 3, 1) := by decide +kernel
theorem dX0_change_24 : decode cX0_change 24 = .ok (.iadd, 1) := by decide +kernel
theorem dX0_change_25 : decode cX0_change 25 = .ok (.bipush 48, 2) := by decide +kernel
theorem dX0_change_27 : decode cX0_change 27 = .ok (.if_icmp .le 34, 3) := by decide +kernel
theorem dX0_change_30 : decode cX0_change 30 = .ok (.aload_n 0, 1) := by decide +kernel
theorem dX0_change_31 : decode cX0_change 31 = .ok (.getfield 41, 3) := by decide +kernel
theorem dX0_change_34 : decode cX0_change 34 = .ok (.iconst 0, 1) := by decide +kernel
theorem dX0_change_35 : decode cX0_change 35 = .ok (.aload_n 0, 1) := by decide +kernel
theorem dX0_change_36 : decode cX0_change 36 = .ok (.getfield 48, 3) := by decide +kernel
theorem dX0_change_39 : decode cX0_change 39 = .ok (.iconst 0, 1) := by decide +kernel
theorem dX0_change_40 : decode cX0_change 40 = .ok (.bipush 10, 2) := by decide +kernel
theorem dX0_change_42 : decode cX0_change 42 = .ok (.invokestatic 65, 3) := by decide +kernel
theorem dX0_change_45 : decode cX0_change 45 = .ok (.aload_n 0, 1) := by decide +kernel
theorem dX0_change_46 : decode cX0_change 46 = .ok (.getfield 48, 3) := by decide +kernel
theorem dX0_change_49 : decode cX0_change 49 = .ok (.iload_n 1, 1) := by decide +kernel
theorem dX0_change_50 : decode cX0_change 50 = .ok (.iload_n 2, 1) := by decide +kernel
theorem dX0_change_51 : decode cX0_change 51 = .ok (.iastore, 1) := by decide +kernel
theorem dX0_change_52 : decode cX0_change 52 = .ok (.aload_n 0, 1) := by decide +kernel
theorem dX0_change_53 : decode cX0_change 53 = .ok (.aload_n 0, 1) := by decide +kernel
theorem dX0_change_54 : decode cX0_change 54 = .ok (.getfield 32, 3) := by decide +kernel
theorem dX0_change_57 : decode cX0_change 57 = .ok (.invokevirtual 135, 3) := by decide +kernel
theorem dX0_change_60 : decode cX0_change 60 = .ok (.ireturn, 1) := by decide +kernel
theorem dX0_change_61 : decode cX0_change 61 = .ok (.aload_n 0, 1) := by decide +kernel
theorem dX0_change_62 : decode cX0_change 62 = .ok (.aload_n 0, 1) := by decide +kernel
theorem dX0_change_63 : decode cX0_change 63 = .ok (.aload_n 0, 1) := by decide +kernel
theorem dX0_change_64 : decode cX0_change 64 = .ok (.getfield 29, 3) := by decide +kernel
theorem dX0_change_67 : decode cX0_change 67 = .ok (.invokevirtual 98, 3) := by decide +kernel
theorem dX0_change_70 : decode cX0_change 70 = .ok (.aload_n 0, 1) := by decide +kernel
theorem dX0_change_71 : decode cX0_change 71 = .ok (.getfield 38, 3) := by decide +kernel
theorem dX0_change_74 : decode cX0_change 74 = .ok (.iload_n 1, 1) := by decide +kernel
theorem dX0_change_75 : decode cX0_change 75 = .ok (.iload_n 2, 1) := by decide +kernel
theorem dX0_change_76 : decode cX0_change 76 = .ok (.aload_n 0, 1) := by decide +kernel
theorem dX0_change_77 : decode cX0_change 77 = .ok (.getfield 32, 3) := by decide +kernel
theorem dX0_change_80 : decode cX0_change 80 = .ok (.invokevirtual 138, 3) := by decide +kernel
theorem dX0_change_83 : decode cX0_change 83 = .ok (.istore_n 3, 1) := by decide +kernel
theorem dX0_change_84 : decode cX0_change 84 = .ok (.aload_n 0, 1) := by decide +kernel
theorem dX0_change_85 : decode cX0_change 85 = .ok (.getfield 21, 3) := by decide +kernel
theorem dX0_change_88 : decode cX0_change 88 = .ok (.ifCond .eq 30, 3) := by decide +kernel
theorem dX0_change_91 : decode cX0_change 91 = .ok (.aload_n 0, 1) := by decide +kernel
theorem dX0_change_92 : decode cX0_change 92 = .ok (.getfield 41, 3) := by decide +kernel
theorem dX0_change_95 : decode cX0_change 95 = .ok (.iload_n 1, 1) := by decide +kernel
theorem dX0_change_96 : decode cX0_change 96 = .ok (.iload_n 2, 1) := by decide +kernel
theorem dX0_change_97 : decode cX0_change 97 = .ok (.iastore, 1) := by decide +kernel
theorem dX0_change_98 : decode cX0_change 98 = .ok (.aload_n 0, 1) := by decide +kernel
theorem dX0_change_99 : decode cX0_change 99 = .ok (.getfield 45, 3) := by decide +kernel
theorem dX0_change_102 : decode cX0_change 102 = .ok (.iload_n 1, 1) := by decide +kernel
theorem dX0_change_103 : decode cX0_change 103 = .ok (.aload_n 0, 1) := by decide +kernel
theorem dX0_change_104 : decode cX0_change 104 = .ok (.getfield 38, 3) := by decide +kernel
theorem dX0_change_107 : decode cX0_change 107 = .ok (.iastore, 1) := by decide +kernel
theorem dX0_change_108 : decode cX0_change 108 = .ok (.aload_n 0, 1) := by decide +kernel
theorem dX0_change_109 : decode cX0_change 109 = .ok (.dup, 1) := by decide +kernel
theorem dX0_change_110 : decode cX0_change 110 = .ok (.getfield 38, 3) := by decide +kernel
theorem dX0_change_113 : decode cX0_change 113 = .ok (.iconst 3, 1) := by decide +kernel
theorem dX0_change_114 : decode cX0_change 114 = .ok (.iadd, 1) := by decide +kernel
theorem dX0_change_115 : decode cX0_change 115 = .ok (.putfield 38, 3) := by decide +kernel
theorem dX0_change_118 : decode cX0_change 118 = .ok (.iload_n 3, 1) := by decide +kernel
theorem dX0_change_119 : decode cX0_change 119 = .ok (.ireturn, 1) := by decide +kernel
theorem dX0_moveTo_0 : decode cX0_moveTo 0 = .ok (.aload_n 0, 1) := by decide +kernel
theorem dX0_moveTo_1 : decode cX0_moveTo 1 = .ok (.iload_n 1, 1) := by decide +kernel
theorem dX0_moveTo_2 : decode cX0_moveTo 2 = .ok (.invokevirtual 142, 3) := by decide +kernel
theorem dX0_moveTo_5 : decode cX0_moveTo 5 = .ok (.aload_n 0, 1) := by decide +kernel
theorem dX0_moveTo_6 : decode cX0_moveTo 6 = .ok (.iload_n 1, 1) := by decide +kernel
theorem dX0_moveTo_7 : decode cX0_moveTo 7 = .ok (.invokevirtual 135, 3) := by decide +kernel
theorem dX0_moveTo_10 : decode cX0_moveTo 10 = .ok (.ireturn, 1) := by decide +kernel
theorem dX0_migratedValueOf_0 : decode cX0_migratedValueOf 0 = .ok (.aload_n 0, 1) := by decide +kernel
theorem dX0_migratedValueOf_1 : decode cX0_migratedValueOf 1 = .ok (.iload_n 1, 1) := by decide +kernel
theorem dX0_migratedValueOf_2 : decode cX0_migratedValueOf 2 = .ok (.invokevirtual 142, 3) := by decide +kernel
theorem dX0_migratedValueOf_5 : decode cX0_migratedValueOf 5 = .ok (.iload_n 2, 1) := by decide +kernel
theorem dX0_migratedValueOf_6 : decode cX0_migratedValueOf 6 = .ok (.invokestatic 77, 3) := by decide +kernel
theorem dX0_migratedValueOf_9 : decode cX0_migratedValueOf 9 = .ok (.ifCond .eq 12, 3) := by decide +kernel
theorem dX0_migratedValueOf_12 : decode cX0_migratedValueOf 12 = .ok (.aload_n 0, 1) := by decide +kernel
theorem dX0_migratedValueOf_13 : decode cX0_migratedValueOf 13 = .ok (.getfield 48, 3) := by decide +kernel
theorem dX0_migratedValueOf_16 : decode cX0_migratedValueOf 16 = .ok (.iload_n 2, 1) := by decide +kernel
theorem dX0_migratedValueOf_17 : decode cX0_migratedValueOf 17 = .ok (.iaload, 1) := by decide +kernel
theorem dX0_migratedValueOf_18 : decode cX0_migratedValueOf 18 = .ok (.goto 5, 3) := by decide +kernel
theorem dX0_migratedValueOf_21 : decode cX0_migratedValueOf 21 = .ok (.bipush (-6), 2) := by decide +kernel
theorem dX0_migratedValueOf_23 : decode cX0_migratedValueOf 23 = .ok (.ireturn, 1) := by decide +kernel
theorem dX0_migrateValues_0 : decode cX0_migrateValues 0 = .ok (.aload_n 0, 1) := by decide +kernel
theorem dX0_migrateValues_1 : decode cX0_migrateValues 1 = .ok (.getfield 41, 3) := by decide +kernel
theorem dX0_migrateValues_4 : decode cX0_migrateValues 4 = .ok (.iconst 0, 1) := by decide +kernel
theorem dX0_migrateValues_5 : decode cX0_migrateValues 5 = .ok (.aload_n 0, 1) := by decide +kernel
theorem dX0_migrateValues_6 : decode cX0_migrateValues 6 = .ok (.getfield 48, 3) := by decide +kernel
theorem dX0_migrateValues_9 : decode cX0_migrateValues 9 = .ok (.iconst 0, 1) := by decide +kernel
theorem dX0_migrateValues_10 : decode cX0_migrateValues 10 = .ok (.bipush 10, 2) := by decide +kernel
theorem dX0_migrateValues_12 : decode cX0_migrateValues 12 = .ok (.invokestatic 65, 3) := by decide +kernel
theorem dX0_migrateValues_15 : decode cX0_migrateValues 15 = .ok (.aload_n 0, 1) := by decide +kernel
theorem dX0_migrateValues_16 : decode cX0_migrateValues 16 = .ok (.getfield 54, 3) := by decide +kernel
theorem dX0_migrateValues_19 : decode cX0_migrateValues 19 = .ok (.aload_n 0, 1) := by decide +kernel
theorem dX0_migrateValues_20 : decode cX0_migrateValues 20 = .ok (.getfield 48, 3) := by decide +kernel
theorem dX0_migrateValues_23 : decode cX0_migrateValues 23 = .ok (.aload_n 0, 1) := by decide +kernel
theorem dX0_migrateValues_24 : decode cX0_migrateValues 24 = .ok (.getfield 32, 3) := by decide +kernel
theorem dX0_migrateValues_27 : decode cX0_migrateValues 27 = .ok (.iload_n 1, 1) := by decide +kernel
theorem dX0_migrateValues_28 : decode cX0_migrateValues 28 = .ok (.invokevirtual 146, 3) := by decide +kernel
theorem dX0_migrateValues_31 : decode cX0_migrateValues 31 = .ok (.return_, 1) := by decide +kernel
theorem dX0_reset_0 : decode cX0_reset 0 = .ok (.aload_n 0, 1) := by decide +kernel
theorem dX0_reset_1 : decode cX0_reset 1 = .ok (.getfield 12, 3) := by decide +kernel
theorem dX0_reset_4 : decode cX0_reset 4 = .ok (.invokevirtual 150, 3) := by decide +kernel
theorem dX0_reset_7 : decode cX0_reset 7 = .ok (.aload_n 0, 1) := by decide +kernel
theorem dX0_reset_8 : decode cX0_reset 8 = .ok (.getfield 18, 3) := by decide +kernel
theorem dX0_reset_11 : decode cX0_reset 11 = .ok (.invokevirtual 150, 3) := by decide +kernel
theorem dX0_reset_14 : decode cX0_reset 14 = .ok (.aload_n 0, 1) := by decide +kernel
theorem dX0_reset_15 : decode cX0_reset 15 = .ok (.aload_n 0, 1) := by decide +kernel
theorem dX0_reset_16 : decode cX0_reset 16 = .ok (.getfield 12, 3) := by decide +kernel
theorem dX0_reset_19 : decode cX0_reset 19 = .ok (.iload_n 1, 1) := by decide +kernel
theorem dX0_reset_20 : decode cX0_reset 20 = .ok (.iconst 0, 1) := by decide +kernel
theorem dX0_reset_21 : decode cX0_reset 21 = .ok (.invokevirtual 153, 3) := by decide +kernel
theorem dX0_reset_24 : decode cX0_reset 24 = .ok (.istore_n 2, 1) := by decide +kernel
theorem dX0_reset_25 : decode cX0_reset 25 = .ok (.aload_n 0, 1) := by decide +kernel
theorem dX0_reset_26 : decode cX0_reset 26 = .ok (.getfield 21, 3) := by decide +kernel
theorem dX0_reset_29 : decode cX0_reset 29 = .ok (.ifCond .eq 27, 3) := by decide +kernel
theorem dX0_reset_32 : decode cX0_reset 32 = .ok (.aload_n 0, 1) := by decide +kernel
theorem dX0_reset_33 : decode cX0_reset 33 = .ok (.iconst 0, 1) := by decide +kernel
theorem dX0_reset_34 : decode cX0_reset 34 = .ok (.putfield 29, 3) := by decide +kernel
theorem dX0_reset_37 : decode cX0_reset 37 = .ok (.aload_n 0, 1) := by decide +kernel
theorem dX0_reset_38 : decode cX0_reset 38 = .ok (.iload_n 1, 1) := by decide +kernel
theorem dX0_reset_39 : decode cX0_reset 39 = .ok (.putfield 32, 3) := by decide +kernel
theorem dX0_reset_42 : decode cX0_reset 42 = .ok (.aload_n 0, 1) := by decide +kernel
theorem dX0_reset_43 : decode cX0_reset 43 = .ok (.iconst 0, 1) := by decide +kernel
theorem dX0_reset_44 : decode cX0_reset 44 = .ok (.putfield 35, 3) := by decide +kernel
theorem dX0_reset_47 : decode cX0_reset 47 = .ok (.aload_n 0, 1) := by decide +kernel
theorem dX0_reset_48 : decode cX0_reset 48 = .ok (.iconst 3, 1) := by decide +kernel
theorem dX0_reset_49 : decode cX0_reset 49 = .ok (.putfield 38, 3) := by decide +kernel
theorem dX0_reset_52 : decode cX0_reset 52 = .ok (.aload_n 0, 1) := by decide +kernel
theorem dX0_reset_53 : decode cX0_reset 53 = .ok (.invokevirtual 106, 3) := by decide +kernel
theorem dX0_reset_56 : decode cX0_reset 56 = .ok (.iload_n 2, 1) := by decide +kernel
theorem dX0_reset_57 : decode cX0_reset 57 = .ok (.ireturn, 1) := by decide +kernel
theorem dX0_fillOther_0 : decode cX0_fillOther 0 = .ok (.aload_n 0, 1) := by decide +kernel
theorem dX0_fillOther_1 : decode cX0_fillOther 1 = .ok (.getfield 29, 3) := by decide +kernel
theorem dX0_fillOther_4 : decode cX0_fillOther 4 = .ok (.ifCond .ne 7, 3) := by decide +kernel
theorem dX0_fillOther_7 : decode cX0_fillOther 7 = .ok (.iconst 1, 1) := by decide +kernel
theorem dX0_fillOther_8 : decode cX0_fillOther 8 = .ok (.goto 4, 3) := by decide +kernel
theorem dX0_fillOther_11 : decode cX0_fillOther 11 = .ok (.iconst 0, 1) := by decide +kernel
theorem dX0_fillOther_12 : decode cX0_fillOther 12 = .ok (.istore_n 2, 1) := by decide +kernel
theorem dX0_fillOther_13 : decode cX0_fillOther 13 = .ok (.aload_n 0, 1) := by decide +kernel
theorem dX0_fillOther_14 : decode cX0_fillOther 14 = .ok (.getfield 35, 3) := by decide +kernel
theorem dX0_fillOther_17 : decode cX0_fillOther 17 = .ok (.iconst 1, 1) := by decide +kernel
theorem dX0_fillOther_18 : decode cX0_fillOther 18 = .ok (.iadd, 1) := by decide +kernel
theorem dX0_fillOther_19 : decode cX0_fillOther 19 = .ok (.sipush 200, 3) := by decide +kernel
theorem dX0_fillOther_22 : decode cX0_fillOther 22 = .ok (.irem, 1) := by decide +kernel
theorem dX0_fillOther_23 : decode cX0_fillOther 23 = .ok (.istore_n 3, 1) := by decide +kernel
theorem dX0_fillOther_24 : decode cX0_fillOther 24 = .ok (.aload_n 0, 1) := by decide +kernel
theorem dX0_fillOther_25 : decode cX0_fillOther 25 = .ok (.getfield 54, 3) := by decide +kernel
theorem dX0_fillOther_28 : decode cX0_fillOther 28 = .ok (.iload_n 1, 1) := by decide +kernel
theorem dX0_fillOther_29 : decode cX0_fillOther 29 = .ok (.invokevirtual 71, 3) := by decide +kernel
theorem dX0_fillOther_32 : decode cX0_fillOther 32 = .ok (.astore 4, 2) := by decide +kernel
theorem dX0_fillOther_34 : decode cX0_fillOther 34 = .ok (.aload_n 0, 1) := by decide +kernel
theorem dX0_fillOther_35 : decode cX0_fillOther 35 = .ok (.iload_n 2, 1) := by decide +kernel
theorem dX0_fillOther_36 : decode cX0_fillOther 36 = .ok (.invokevirtual 98, 3) := by decide +kernel
theorem dX0_fillOther_39 : decode cX0_fillOther 39 = .ok (.astore 5, 2) := by decide +kernel
theorem dX0_fillOther_41 : decode cX0_fillOther 41 = .ok (.aload 5, 2) := by decide +kernel
theorem dX0_fillOther_43 : decode cX0_fillOther 43 = .ok (.invokevirtual 150, 3) := by decide +kernel
theorem dX0_fillOther_46 : decode cX0_fillOther 46 = .ok (.iconst 0, 1) := by decide +kernel
theorem dX0_fillOther_47 : decode cX0_fillOther 47 = .ok (.istore 6, 2) := by decide +kernel
theorem dX0_fillOther_49 : decode cX0_fillOther 49 = .ok (.iconst 3, 1) := by decide +kernel
theorem dX0_fillOther_50 : decode cX0_fillOther 50 = .ok (.istore 7, 2) := by decide +kernel
theorem dX0_fillOther_52 : decode cX0_fillOther 52 = .ok (.iconst 0, 1) := by decide +kernel
theorem dX0_fillOther_53 : decode cX0_fillOther 53 = .ok (.istore 8, 2) := by decide +kernel
theorem dX0_fillOther_55 : decode cX0_fillOther 55 = .ok (.iload 8, 2) := by decide +kernel
theorem dX0_fillOther_57 : decode cX0_fillOther 57 = .ok (.bipush 10, 2) := by decide +kernel
theorem dX0_fillOther_59 : decode cX0_fillOther 59 = .ok (.if_icmp .ge 80, 3) := by decide +kernel
theorem dX0_fillOther_62 : decode cX0_fillOther 62 = .ok (.aload_n 0, 1) := by decide +kernel
theorem dX0_fillOther_63 : decode cX0_fillOther 63 = .ok (.getfield 51, 3) := by decide +kernel
theorem dX0_fillOther_66 : decode cX0_fillOther 66 = .ok (.iload 8, 2) := by decide +kernel
theorem dX0_fillOther_68 : decode cX0_fillOther 68 = .ok (.bipush (-6), 2) := by decide +kernel
theorem dX0_fillOther_70 : decode cX0_fillOther 70 = .ok (.iastore, 1) := by decide +kernel
theorem dX0_fillOther_71 : decode cX0_fillOther 71 = .ok (.aload 4, 2) := by decide +kernel
theorem dX0_fillOther_73 : decode cX0_fillOther 73 = .ok (.iload 8, 2) := by decide +kernel
theorem dX0_fillOther_75 : decode cX0_fillOther 75 = .ok (.invokevirtual 85, 3) := by decide +kernel
theorem dX0_fillOther_78 : decode cX0_fillOther 78 = .ok (.ifCond .eq 55, 3) := by decide +kernel
theorem dX0_fillOther_81 : decode cX0_fillOther 81 = .ok (.aload_n 0, 1) := by decide +kernel
theorem dX0_fillOther_82 : decode cX0_fillOther 82 = .ok (.getfield 48, 3) := by decide +kernel
theorem dX0_fillOther_85 : decode cX0_fillOther 85 = .ok (.iload 8, 2) := by decide +kernel
theorem dX0_fillOther_87 : decode cX0_fillOther 87 = .ok (.iaload, 1) := by decide +kernel
theorem dX0_fillOther_88 : decode cX0_fillOther 88 = .ok (.aload 4, 2) := by decide +kernel
theorem dX0_fillOther_90 : decode cX0_fillOther 90 = .ok (.iload 8, 2) := by decide +kernel
theorem dX0_fillOther_92 : decode cX0_fillOther 92 = .ok (.invokevirtual 90, 3) := by decide +kernel
theorem dX0_fillOther_95 : decode cX0_fillOther 95 = .ok (.if_icmp .eq 38, 3) := by decide +kernel
theorem dX0_fillOther_98 : decode cX0_fillOther 98 = .ok (.aload_n 0, 1) := by decide +kernel
theorem dX0_fillOther_99 : decode cX0_fillOther 99 = .ok (.getfield 51, 3) := by decide +kernel
theorem dX0_fillOther_102 : decode cX0_fillOther 102 = .ok (.iload 8, 2) := by decide +kernel
theorem dX0_fillOther_104 : decode cX0_fillOther 104 = .ok (.iload 7, 2) := by decide +kernel
theorem dX0_fillOther_106 : decode cX0_fillOther 106 = .ok (.iastore, 1) := by decide +kernel
theorem dX0_fillOther_107 : decode cX0_fillOther 107 = .ok (.iload 6, 2) := by decide +kernel
theorem dX0_fillOther_109 : decode cX0_fillOther 109 = .ok (.aload_n 0, 1) := by decide +kernel
theorem dX0_fillOther_110 : decode cX0_fillOther 110 = .ok (.aload 5, 2) := by decide +kernel
theorem dX0_fillOther_112 : decode cX0_fillOther 112 = .ok (.iload 7, 2) := by decide +kernel
theorem dX0_fillOther_114 : decode cX0_fillOther 114 = .ok (.iload 8, 2) := by decide +kernel
theorem dX0_fillOther_116 : decode cX0_fillOther 116 = .ok (.aload_n 0, 1) := by decide +kernel
theorem dX0_fillOther_117 : decode cX0_fillOther 117 = .ok (.getfield 48, 3) := by decide +kernel
theorem dX0_fillOther_120 : decode cX0_fillOther 120 = .ok (.iload 8, 2) := by decide +kernel
theorem dX0_fillOther_122 : decode cX0_fillOther 122 = .ok (.iaload, 1) := by decide +kernel
theorem dX0_fillOther_123 : decode cX0_fillOther 123 = .ok (.iload_n 1, 1) := by decide +kernel
theorem dX0_fillOther_124 : decode cX0_fillOther 124 = .ok (.invokevirtual 138, 3) := by decide +kernel
theorem dX0_fillOther_127 : decode cX0_fillOther 127 = .ok (.iadd, 1) := by decide +kernel
theorem dX0_fillOther_128 : decode cX0_fillOther 128 = .ok (.istore 6, 2) := by decide +kernel
theorem dX0_fillOther_130 : decode cX0_fillOther 130 = .ok (.iinc 7 3, 3) := by decide +kernel
theorem dX0_fillOther_133 : decode cX0_fillOther 133 = .ok (.iinc 8 1, 3) := by decide +kernel
theorem dX0_fillOther_136 : decode cX0_fillOther 136 = .ok (.goto (-81), 3) := by decide +kernel
theorem dX0_fillOther_139 : decode cX0_fillOther 139 = .ok (.iload 6, 2) := by decide +kernel
theorem dX0_fillOther_141 : decode cX0_fillOther 141 = .ok (.aload_n 0, 1) := by decide +kernel
theorem dX0_fillOther_142 : decode cX0_fillOther 142 = .ok (.aload 5, 2) := by decide +kernel
theorem dX0_fillOther_144 : decode cX0_fillOther 144 = .ok (.iload_n 1, 1) := by decide +kernel
theorem dX0_fillOther_145 : decode cX0_fillOther 145 = .ok (.iload_n 3, 1) := by decide +kernel
theorem dX0_fillOther_146 : decode cX0_fillOther 146 = .ok (.invokevirtual 153, 3) := by decide +kernel
theorem dX0_fillOther_149 : decode cX0_fillOther 149 = .ok (.iadd, 1) := by decide +kernel
theorem dX0_fillOther_150 : decode cX0_fillOther 150 = .ok (.istore 6, 2) := by decide +kernel
theorem dX0_fillOther_152 : decode cX0_fillOther 152 = .ok (.aload_n 0, 1) := by decide +kernel
theorem dX0_fillOther_153 : decode cX0_fillOther 153 = .ok (.getfield 21, 3) := by decide +kernel
theorem dX0_fillOther_156 : decode cX0_fillOther 156 = .ok (.ifCond .eq 54, 3) := by decide +kernel
theorem dX0_fillOther_159 : decode cX0_fillOther 159 = .ok (.aload_n 0, 1) := by decide +kernel
theorem dX0_fillOther_160 : decode cX0_fillOther 160 = .ok (.iload_n 2, 1) := by decide +kernel
theorem dX0_fillOther_161 : decode cX0_fillOther 161 = .ok (.putfield 29, 3) := by decide +kernel
theorem dX0_fillOther_164 : decode cX0_fillOther 164 = .ok (.aload_n 0, 1) := by decide +kernel
theorem dX0_fillOther_165 : decode cX0_fillOther 165 = .ok (.iload_n 1, 1) := by decide +kernel
theorem dX0_fillOther_166 : decode cX0_fillOther 166 = .ok (.putfield 32, 3) := by decide +kernel
theorem dX0_fillOther_169 : decode cX0_fillOther 169 = .ok (.aload_n 0, 1) := by decide +kernel
theorem dX0_fillOther_170 : decode cX0_fillOther 170 = .ok (.iload_n 3, 1) := by decide +kernel
theorem dX0_fillOther_171 : decode cX0_fillOther 171 = .ok (.putfield 35, 3) := by decide +kernel
theorem dX0_fillOther_174 : decode cX0_fillOther 174 = .ok (.aload_n 0, 1) := by decide +kernel
theorem dX0_fillOther_175 : decode cX0_fillOther 175 = .ok (.iload 7, 2) := by decide +kernel
theorem dX0_fillOther_177 : decode cX0_fillOther 177 = .ok (.putfield 38, 3) := by decide +kernel
theorem dX0_fillOther_180 : decode cX0_fillOther 180 = .ok (.aload_n 0, 1) := by decide +kernel
theorem dX0_fillOther_181 : decode cX0_fillOther 181 = .ok (.getfield 48, 3) := by decide +kernel
theorem dX0_fillOther_184 : decode cX0_fillOther 184 = .ok (.iconst 0, 1) := by decide +kernel
theorem dX0_fillOther_185 : decode cX0_fillOther 185 = .ok (.aload_n 0, 1) := by decide +kernel
theorem dX0_fillOther_186 : decode cX0_fillOther 186 = .ok (.getfield 41, 3) := by decide +kernel
theorem dX0_fillOther_189 : decode cX0_fillOther 189 = .ok (.iconst 0, 1) := by decide +kernel
theorem dX0_fillOther_190 : decode cX0_fillOther 190 = .ok (.bipush 10, 2) := by decide +kernel
theorem dX0_fillOther_192 : decode cX0_fillOther 192 = .ok (.invokestatic 65, 3) := by decide +kernel
theorem dX0_fillOther_195 : decode cX0_fillOther 195 = .ok (.aload_n 0, 1) := by decide +kernel
theorem dX0_fillOther_196 : decode cX0_fillOther 196 = .ok (.getfield 51, 3) := by decide +kernel
theorem dX0_fillOther_199 : decode cX0_fillOther 199 = .ok (.iconst 0, 1) := by decide +kernel
theorem dX0_fillOther_200 : decode cX0_fillOther 200 = .ok (.aload_n 0, 1) := by decide +kernel
theorem dX0_fillOther_201 : decode cX0_fillOther 201 = .ok (.getfield 45, 3) := by decide +kernel
theorem dX0_fillOther_204 : decode cX0_fillOther 204 = .ok (.iconst 0, 1) := by decide +kernel
theorem dX0_fillOther_205 : decode cX0_fillOther 205 = .ok (.bipush 10, 2) := by decide +kernel
theorem dX0_fillOther_207 : decode cX0_fillOther 207 = .ok (.invokestatic 65, 3) := by decide +kernel
theorem dX0_fillOther_210 : decode cX0_fillOther 210 = .ok (.iload 6, 2) := by decide +kernel
theorem dX0_fillOther_212 : decode cX0_fillOther 212 = .ok (.ireturn, 1) := by decide +kernel
theorem dX0_writeRecord_0 : decode cX0_writeRecord 0 = .ok (.iload_n 3, 1) := by decide +kernel
theorem dX0_writeRecord_1 : decode cX0_writeRecord 1 = .ok (.iconst 1, 1) := by decide +kernel
theorem dX0_writeRecord_2 : decode cX0_writeRecord 2 = .ok (.iadd, 1) := by decide +kernel
theorem dX0_writeRecord_3 : decode cX0_writeRecord 3 = .ok (.istore 6, 2) := by decide +kernel
theorem dX0_writeRecord_5 : decode cX0_writeRecord 5 = .ok (.aload_n 0, 1) := by decide +kernel
theorem dX0_writeRecord_6 : decode cX0_writeRecord 6 = .ok (.aload_n 1, 1) := by decide +kernel
theorem dX0_writeRecord_7 : decode cX0_writeRecord 7 = .ok (.iload_n 2, 1) := by decide +kernel
theorem dX0_writeRecord_8 : decode cX0_writeRecord 8 = .ok (.iload 6, 2) := by decide +kernel
theorem dX0_writeRecord_10 : decode cX0_writeRecord 10 = .ok (.iload 4, 2) := by decide +kernel
theorem dX0_writeRecord_12 : decode cX0_writeRecord 12 = .ok (.iload 6, 2) := by decide +kernel
theorem dX0_writeRecord_14 : decode cX0_writeRecord 14 = .ok (.iload 4, 2) := by decide +kernel
theorem dX0_writeRecord_16 : decode cX0_writeRecord 16 = .ok (.iload 5, 2) := by decide +kernel
theorem dX0_writeRecord_18 : decode cX0_writeRecord 18 = .ok (.invokestatic 157, 3) := by decide +kernel
theorem dX0_writeRecord_21 : decode cX0_writeRecord 21 = .ok (.invokevirtual 161, 3) := by decide +kernel
theorem dX0_writeRecord_24 : decode cX0_writeRecord 24 = .ok (.ireturn, 1) := by decide +kernel
theorem dX0_writeHead_0 : decode cX0_writeHead 0 = .ok (.sipush 200, 3) := by decide +kernel
theorem dX0_writeHead_3 : decode cX0_writeHead 3 = .ok (.iload_n 2, 1) := by decide +kernel
theorem dX0_writeHead_4 : decode cX0_writeHead 4 = .ok (.iadd, 1) := by decide +kernel
theorem dX0_writeHead_5 : decode cX0_writeHead 5 = .ok (.istore 4, 2) := by decide +kernel
theorem dX0_writeHead_7 : decode cX0_writeHead 7 = .ok (.aload_n 0, 1) := by decide +kernel
theorem dX0_writeHead_8 : decode cX0_writeHead 8 = .ok (.aload_n 1, 1) := by decide +kernel
theorem dX0_writeHead_9 : decode cX0_writeHead 9 = .ok (.iconst 0, 1) := by decide +kernel
theorem dX0_writeHead_10 : decode cX0_writeHead 10 = .ok (.iload 4, 2) := by decide +kernel
theorem dX0_writeHead_12 : decode cX0_writeHead 12 = .ok (.iload_n 3, 1) := by decide +kernel
theorem dX0_writeHead_13 : decode cX0_writeHead 13 = .ok (.iload 4, 2) := by decide +kernel
theorem dX0_writeHead_15 : decode cX0_writeHead 15 = .ok (.iload_n 3, 1) := by decide +kernel
theorem dX0_writeHead_16 : decode cX0_writeHead 16 = .ok (.invokestatic 164, 3) := by decide +kernel
theorem dX0_writeHead_19 : decode cX0_writeHead 19 = .ok (.invokevirtual 161, 3) := by decide +kernel
theorem dX0_writeHead_22 : decode cX0_writeHead 22 = .ok (.ireturn, 1) := by decide +kernel
theorem dX0_writeThree_0 : decode cX0_writeThree 0 = .ok (.aload_n 0, 1) := by decide +kernel
theorem dX0_writeThree_1 : decode cX0_writeThree 1 = .ok (.aload_n 1, 1) := by decide +kernel
theorem dX0_writeThree_2 : decode cX0_writeThree 2 = .ok (.iload_n 2, 1) := by decide +kernel
theorem dX0_writeThree_3 : decode cX0_writeThree 3 = .ok (.iload_n 3, 1) := by decide +kernel
theorem dX0_writeThree_4 : decode cX0_writeThree 4 = .ok (.invokevirtual 167, 3) := by decide +kernel
theorem dX0_writeThree_7 : decode cX0_writeThree 7 = .ok (.istore 6, 2) := by decide +kernel
theorem dX0_writeThree_9 : decode cX0_writeThree 9 = .ok (.iload 6, 2) := by decide +kernel
theorem dX0_writeThree_11 : decode cX0_writeThree 11 = .ok (.aload_n 0, 1) := by decide +kernel
theorem dX0_writeThree_12 : decode cX0_writeThree 12 = .ok (.aload_n 1, 1) := by decide +kernel
theorem dX0_writeThree_13 : decode cX0_writeThree 13 = .ok (.iload_n 2, 1) := by decide +kernel
theorem dX0_writeThree_14 : decode cX0_writeThree 14 = .ok (.iconst 1, 1) := by decide +kernel
theorem dX0_writeThree_15 : decode cX0_writeThree 15 = .ok (.iadd, 1) := by decide +kernel
theorem dX0_writeThree_16 : decode cX0_writeThree 16 = .ok (.iload 4, 2) := by decide +kernel
theorem dX0_writeThree_18 : decode cX0_writeThree 18 = .ok (.invokevirtual 167, 3) := by decide +kernel
theorem dX0_writeThree_21 : decode cX0_writeThree 21 = .ok (.iadd, 1) := by decide +kernel
theorem dX0_writeThree_22 : decode cX0_writeThree 22 = .ok (.istore 6, 2) := by decide +kernel
theorem dX0_writeThree_24 : decode cX0_writeThree 24 = .ok (.iload 6, 2) := by decide +kernel
theorem dX0_writeThree_26 : decode cX0_writeThree 26 = .ok (.aload_n 0, 1) := by decide +kernel
theorem dX0_writeThree_27 : decode cX0_writeThree 27 = .ok (.aload_n 1, 1) := by decide +kernel
theorem dX0_writeThree_28 : decode cX0_writeThree 28 = .ok (.iload_n 2, 1) := by decide +kernel
theorem dX0_writeThree_29 : decode cX0_writeThree 29 = .ok (.iconst 2, 1) := by decide +kernel
theorem dX0_writeThree_30 : decode cX0_writeThree 30 = .ok (.iadd, 1) := by decide +kernel
theorem dX0_writeThree_31 : decode cX0_writeThree 31 = .ok (.iload 5, 2) := by decide +kernel
theorem dX0_writeThree_33 : decode cX0_writeThree 33 = .ok (.invokevirtual 167, 3) := by decide +kernel
theorem dX0_writeThree_36 : decode cX0_writeThree 36 = .ok (.iadd, 1) := by decide +kernel
theorem dX0_writeThree_37 : decode cX0_writeThree 37 = .ok (.istore 6, 2) := by decide +kernel
theorem dX0_writeThree_39 : decode cX0_writeThree 39 = .ok (.iload 6, 2) := by decide +kernel
theorem dX0_writeThree_41 : decode cX0_writeThree 41 = .ok (.ireturn, 1) := by decide +kernel
theorem dX0_writeCell_0 : decode cX0_writeCell 0 = .ok (.aload_n 0, 1) := by decide +kernel
theorem dX0_writeCell_1 : decode cX0_writeCell 1 = .ok (.getfield 25, 3) := by decide +kernel
theorem dX0_writeCell_4 : decode cX0_writeCell 4 = .ok (.ifCond .ne 14, 3) := by decide +kernel
theorem dX0_writeCell_7 : decode cX0_writeCell 7 = .ok (.aload_n 0, 1) := by decide +kernel
theorem dX0_writeCell_8 : decode cX0_writeCell 8 = .ok (.iconst 0, 1) := by decide +kernel
theorem dX0_writeCell_9 : decode cX0_writeCell 9 = .ok (.putfield 21, 3) := by decide +kernel
theorem dX0_writeCell_12 : decode cX0_writeCell 12 = .ok (.aload_n 0, 1) := by decide +kernel
theorem dX0_writeCell_13 : decode cX0_writeCell 13 = .ok (.bipush (-6), 2) := by decide +kernel
theorem dX0_writeCell_15 : decode cX0_writeCell 15 = .ok (.putfield 25, 3) := by decide +kernel
theorem dX0_writeCell_18 : decode cX0_writeCell 18 = .ok (.aload_n 0, 1) := by decide +kernel
theorem dX0_writeCell_19 : decode cX0_writeCell 19 = .ok (.getfield 21, 3) := by decide +kernel
theorem dX0_writeCell_22 : decode cX0_writeCell 22 = .ok (.ifCond .ne 5, 3) := by decide +kernel
theorem dX0_writeCell_25 : decode cX0_writeCell 25 = .ok (.iconst 0, 1) := by decide +kernel
theorem dX0_writeCell_26 : decode cX0_writeCell 26 = .ok (.ireturn, 1) := by decide +kernel
theorem dX0_writeCell_27 : decode cX0_writeCell 27 = .ok (.aload_n 0, 1) := by decide +kernel
theorem dX0_writeCell_28 : decode cX0_writeCell 28 = .ok (.getfield 25, 3) := by decide +kernel
theorem dX0_writeCell_31 : decode cX0_writeCell 31 = .ok (.ifCond .le 13, 3) := by decide +kernel
theorem dX0_writeCell_34 : decode cX0_writeCell 34 = .ok (.aload_n 0, 1) := by decide +kernel
theorem dX0_writeCell_35 : decode cX0_writeCell 35 = .ok (.dup, 1) := by decide +kernel
theorem dX0_writeCell_36 : decode cX0_writeCell 36 = .ok (.getfield 25, 3) := by decide +kernel
theorem dX0_writeCell_39 : decode cX0_writeCell 39 = .ok (.iconst 1, 1) := by decide +kernel
theorem dX0_writeCell_40 : decode cX0_writeCell 40 = .ok (.isub, 1) := by decide +kernel
theorem dX0_writeCell_41 : decode cX0_writeCell 41 = .ok (.putfield 25, 3) := by decide +kernel
theorem dX0_writeCell_44 : decode cX0_writeCell 44 = .ok (.aload_n 1, 1) := by decide +kernel
theorem dX0_writeCell_45 : decode cX0_writeCell 45 = .ok (.iload_n 2, 1) := by decide +kernel
theorem dX0_writeCell_46 : decode cX0_writeCell 46 = .ok (.iload_n 3, 1) := by decide +kernel
theorem dX0_writeCell_47 : decode cX0_writeCell 47 = .ok (.invokevirtual 170, 3) := by decide +kernel
theorem dX0_writeCell_50 : decode cX0_writeCell 50 = .ok (.aload_n 1, 1) := by decide +kernel
theorem dX0_writeCell_51 : decode cX0_writeCell 51 = .ok (.invokevirtual 174, 3) := by decide +kernel
theorem dX0_writeCell_54 : decode cX0_writeCell 54 = .ok (.iconst 1, 1) := by decide +kernel
theorem dX0_writeCell_55 : decode cX0_writeCell 55 = .ok (.ireturn, 1) := by decide +kernel
theorem dX1_init_0 : decode cX1_init 0 = .ok (.aload_n 0, 1) := by decide +kernel
theorem dX1_init_1 : decode cX1_init 1 = .ok (.invokespecial 3, 3) := by decide +kernel
theorem dX1_init_4 : decode cX1_init 4 = .ok (.aload_n 0, 1) := by decide +kernel
theorem dX1_init_5 : decode cX1_init 5 = .ok (.bipush 10, 2) := by decide +kernel
theorem dX1_init_7 : decode cX1_init 7 = .ok (.newarray .boolean, 2) := by decide +kernel
theorem dX1_init_9 : decode cX1_init 9 = .ok (.putfield 9, 3) := by decide +kernel
theorem dX1_init_12 : decode cX1_init 12 = .ok (.aload_n 0, 1) := by decide +kernel
theorem dX1_init_13 : decode cX1_init 13 = .ok (.bipush 10, 2) := by decide +kernel
theorem dX1_init_15 : decode cX1_init 15 = .ok (.newarray .int, 2) := by decide +kernel
theorem dX1_init_17 : decode cX1_init 17 = .ok (.putfield 15, 3) := by decide +kernel
theorem dX1_init_20 : decode cX1_init 20 = .ok (.aload_n 0, 1) := by decide +kernel
theorem dX1_init_21 : decode cX1_init 21 = .ok (.bipush 10, 2) := by decide +kernel
theorem dX1_init_23 : decode cX1_init 23 = .ok (.newarray .int, 2) := by decide +kernel
theorem dX1_init_25 : decode cX1_init 25 = .ok (.putfield 19, 3) := by decide +kernel
theorem dX1_init_28 : decode cX1_init 28 = .ok (.aload_n 0, 1) := by decide +kernel
theorem dX1_init_29 : decode cX1_init 29 = .ok (.bipush 10, 2) := by decide +kernel
theorem dX1_init_31 : decode cX1_init 31 = .ok (.newarray .int, 2) := by decide +kernel
theorem dX1_init_33 : decode cX1_init 33 = .ok (.putfield 22, 3) := by decide +kernel
theorem dX1_init_36 : decode cX1_init 36 = .ok (.aload_n 0, 1) := by decide +kernel
theorem dX1_init_37 : decode cX1_init 37 = .ok (.new 25, 3) := by decide +kernel
theorem dX1_init_40 : decode cX1_init 40 = .ok (.dup, 1) := by decide +kernel
theorem dX1_init_41 : decode cX1_init 41 = .ok (.invokespecial 27, 3) := by decide +kernel
theorem dX1_init_44 : decode cX1_init 44 = .ok (.putfield 28, 3) := by decide +kernel
theorem dX1_init_47 : decode cX1_init 47 = .ok (.return_, 1) := by decide +kernel
theorem dX1_has_0 : decode cX1_has 0 = .ok (.iload_n 1, 1) := by decide +kernel
theorem dX1_has_1 : decode cX1_has 1 = .ok (.ifCond .lt 22, 3) := by decide +kernel
theorem dX1_has_4 : decode cX1_has 4 = .ok (.iload_n 1, 1) := by decide +kernel
theorem dX1_has_5 : decode cX1_has 5 = .ok (.bipush 10, 2) := by decide +kernel
theorem dX1_has_7 : decode cX1_has 7 = .ok (.if_icmp .ge 16, 3) := by decide +kernel
theorem dX1_has_10 : decode cX1_has 10 = .ok (.aload_n 0, 1) := by decide +kernel
theorem dX1_has_11 : decode cX1_has 11 = .ok (.getfield 9, 3) := by decide +kernel
theorem dX1_has_14 : decode cX1_has 14 = .ok (.iload_n 1, 1) := by decide +kernel
theorem dX1_has_15 : decode cX1_has 15 = .ok (.baload, 1) := by decide +kernel
theorem dX1_has_16 : decode cX1_has 16 = .ok (.ifCond .eq 7, 3) := by decide +kernel
theorem dX1_has_19 : decode cX1_has 19 = .ok (.iconst 1, 1) := by decide +kernel
theorem dX1_has_20 : decode cX1_has 20 = .ok (.goto 4, 3) := by decide +kernel
theorem dX1_has_23 : decode cX1_has 23 = .ok (.iconst 0, 1) := by decide +kernel
theorem dX1_has_24 : decode cX1_has 24 = .ok (.ireturn, 1) := by decide +kernel
theorem dX1_greatestOf_0 : decode cX1_greatestOf 0 = .ok (.aload_n 0, 1) := by decide +kernel
theorem dX1_greatestOf_1 : decode cX1_greatestOf 1 = .ok (.iload_n 1, 1) := by decide +kernel
theorem dX1_greatestOf_2 : decode cX1_greatestOf 2 = .ok (.invokevirtual 32, 3) := by decide +kernel
theorem dX1_greatestOf_5 : decode cX1_greatestOf 5 = .ok (.ifCond .eq 12, 3) := by decide +kernel
theorem dX1_greatestOf_8 : decode cX1_greatestOf 8 = .ok (.aload_n 0, 1) := by decide +kernel
theorem dX1_greatestOf_9 : decode cX1_greatestOf 9 = .ok (.getfield 15, 3) := by decide +kernel
theorem dX1_greatestOf_12 : decode cX1_greatestOf 12 = .ok (.iload_n 1, 1) := by decide +kernel
theorem dX1_greatestOf_13 : decode cX1_greatestOf 13 = .ok (.iaload, 1) := by decide +kernel
theorem dX1_greatestOf_14 : decode cX1_greatestOf 14 = .ok (.goto 5, 3) := by decide +kernel
theorem dX1_greatestOf_17 : decode cX1_greatestOf 17 = .ok (.bipush (-6), 2) := by decide +kernel
theorem dX1_greatestOf_19 : decode cX1_greatestOf 19 = .ok (.ireturn, 1) := by decide +kernel
theorem dX1_defaultOf_0 : decode cX1_defaultOf 0 = .ok (.aload_n 0, 1) := by decide +kernel
theorem dX1_defaultOf_1 : decode cX1_defaultOf 1 = .ok (.iload_n 1, 1) := by decide +kernel
theorem dX1_defaultOf_2 : decode cX1_defaultOf 2 = .ok (.invokevirtual 32, 3) := by decide +kernel
theorem dX1_defaultOf_5 : decode cX1_defaultOf 5 = .ok (.ifCond .eq 12, 3) := by decide +kernel
theorem dX1_defaultOf_8 : decode cX1_defaultOf 8 = .ok (.aload_n 0, 1) := by decide +kernel
theorem dX1_defaultOf_9 : decode cX1_defaultOf 9 = .ok (.getfield 19, 3) := by decide +kernel
theorem dX1_defaultOf_12 : decode cX1_defaultOf 12 = .ok (.iload_n 1, 1) := by decide +kernel
theorem dX1_defaultOf_13 : decode cX1_defaultOf 13 = .ok (.iaload, 1) := by decide +kernel
theorem dX1_defaultOf_14 : decode cX1_defaultOf 14 = .ok (.goto 5, 3) := by decide +kernel
theorem dX1_defaultOf_17 : decode cX1_defaultOf 17 = .ok (.bipush (-6), 2) := by decide +kernel
theorem dX1_defaultOf_19 : decode cX1_defaultOf 19 = .ok (.ireturn, 1) := by decide +kernel
theorem dX1_nameBefore_0 : decode cX1_nameBefore 0 = .ok (.aload_n 0, 1) := by decide +kernel
theorem dX1_nameBefore_1 : decode cX1_nameBefore 1 = .ok (.iload_n 1, 1) := by decide +kernel
theorem dX1_nameBefore_2 : decode cX1_nameBefore 2 = .ok (.invokevirtual 32, 3) := by decide +kernel
theorem dX1_nameBefore_5 : decode cX1_nameBefore 5 = .ok (.ifCond .eq 12, 3) := by decide +kernel
theorem dX1_nameBefore_8 : decode cX1_nameBefore 8 = .ok (.aload_n 0, 1) := by decide +kernel
theorem dX1_nameBefore_9 : decode cX1_nameBefore 9 = .ok (.getfield 22, 3) := by decide +kernel
theorem dX1_nameBefore_12 : decode cX1_nameBefore 12 = .ok (.iload_n 1, 1) := by decide +kernel
theorem dX1_nameBefore_13 : decode cX1_nameBefore 13 = .ok (.iaload, 1) := by decide +kernel
theorem dX1_nameBefore_14 : decode cX1_nameBefore 14 = .ok (.goto 5, 3) := by decide +kernel
theorem dX1_nameBefore_17 : decode cX1_nameBefore 17 = .ok (.bipush (-6), 2) := by decide +kernel
theorem dX1_nameBefore_19 : decode cX1_nameBefore 19 = .ok (.ireturn, 1) := by decide +kernel
theorem dX1_takes_0 : decode cX1_takes 0 = .ok (.aload_n 0, 1) := by decide +kernel
theorem dX1_takes_1 : decode cX1_takes 1 = .ok (.iload_n 1, 1) := by decide +kernel
theorem dX1_takes_2 : decode cX1_takes 2 = .ok (.invokevirtual 32, 3) := by decide +kernel
theorem dX1_takes_5 : decode cX1_takes 5 = .ok (.ifCond .eq 21, 3) := by decide +kernel
theorem dX1_takes_8 : decode cX1_takes 8 = .ok (.iload_n 2, 1) := by decide +kernel
theorem dX1_takes_9 : decode cX1_takes 9 = .ok (.ifCond .lt 17, 3) := by decide +kernel
theorem dX1_takes_12 : decode cX1_takes 12 = .ok (.iload_n 2, 1) := by decide +kernel
theorem dX1_takes_13 : decode cX1_takes 13 = .ok (.aload_n 0, 1) := by decide +kernel
theorem dX1_takes_14 : decode cX1_takes 14 = .ok (.getfield 15, 3) := by decide +kernel
theorem dX1_takes_17 : decode cX1_takes 17 = .ok (.iload_n 1, 1) := by decide +kernel
theorem dX1_takes_18 : decode cX1_takes 18 = .ok (.iaload, 1) := by decide +kernel
theorem dX1_takes_19 : decode cX1_takes 19 = .ok (.if_icmp .gt 7, 3) := by decide +kernel
theorem dX1_takes_22 : decode cX1_takes 22 = .ok (.iconst 1, 1) := by decide +kernel
theorem dX1_takes_23 : decode cX1_takes 23 = .ok (.goto 4, 3) := by decide +kernel
theorem dX1_takes_26 : decode cX1_takes 26 = .ok (.iconst 0, 1) := by decide +kernel
theorem dX1_takes_27 : decode cX1_takes 27 = .ok (.ireturn, 1) := by decide +kernel
theorem dX1_makeFrom_0 : decode cX1_makeFrom 0 = .ok (.iconst 0, 1) := by decide +kernel
theorem dX1_makeFrom_1 : decode cX1_makeFrom 1 = .ok (.istore_n 3, 1) := by decide +kernel
theorem dX1_makeFrom_2 : decode cX1_makeFrom 2 = .ok (.iload_n 3, 1) := by decide +kernel
theorem dX1_makeFrom_3 : decode cX1_makeFrom 3 = .ok (.bipush 10, 2) := by decide +kernel
theorem dX1_makeFrom_5 : decode cX1_makeFrom 5 = .ok (.if_icmp .ge 52, 3) := by decide +kernel
theorem dX1_makeFrom_8 : decode cX1_makeFrom 8 = .ok (.aload_n 0, 1) := by decide +kernel
theorem dX1_makeFrom_9 : decode cX1_makeFrom 9 = .ok (.getfield 9, 3) := by decide +kernel
theorem dX1_makeFrom_12 : decode cX1_makeFrom 12 = .ok (.iload_n 3, 1) := by decide +kernel
theorem dX1_makeFrom_13 : decode cX1_makeFrom 13 = .ok (.aload_n 1, 1) := by decide +kernel
theorem dX1_makeFrom_14 : decode cX1_makeFrom 14 = .ok (.getfield 9, 3) := by decide +kernel
theorem dX1_makeFrom_17 : decode cX1_makeFrom 17 = .ok (.iload_n 3, 1) := by decide +kernel
theorem dX1_makeFrom_18 : decode cX1_makeFrom 18 = .ok (.baload, 1) := by decide +kernel
theorem dX1_makeFrom_19 : decode cX1_makeFrom 19 = .ok (.bastore, 1) := by decide +kernel
theorem dX1_makeFrom_20 : decode cX1_makeFrom 20 = .ok (.aload_n 0, 1) := by decide +kernel
theorem dX1_makeFrom_21 : decode cX1_makeFrom 21 = .ok (.getfield 15, 3) := by decide +kernel
theorem dX1_makeFrom_24 : decode cX1_makeFrom 24 = .ok (.iload_n 3, 1) := by decide +kernel
theorem dX1_makeFrom_25 : decode cX1_makeFrom 25 = .ok (.aload_n 1, 1) := by decide +kernel
theorem dX1_makeFrom_26 : decode cX1_makeFrom 26 = .ok (.getfield 15, 3) := by decide +kernel
theorem dX1_makeFrom_29 : decode cX1_makeFrom 29 = .ok (.iload_n 3, 1) := by decide +kernel
theorem dX1_makeFrom_30 : decode cX1_makeFrom 30 = .ok (.iaload, 1) := by decide +kernel
theorem dX1_makeFrom_31 : decode cX1_makeFrom 31 = .ok (.iastore, 1) := by decide +kernel
theorem dX1_makeFrom_32 : decode cX1_makeFrom 32 = .ok (.aload_n 0, 1) := by decide +kernel
theorem dX1_makeFrom_33 : decode cX1_makeFrom 33 = .ok (.getfield 19, 3) := by decide +kernel
theorem dX1_makeFrom_36 : decode cX1_makeFrom 36 = .ok (.iload_n 3, 1) := by decide +kernel
theorem dX1_makeFrom_37 : decode cX1_makeFrom 37 = .ok (.aload_n 1, 1) := by decide +kernel
theorem dX1_makeFrom_38 : decode cX1_makeFrom 38 = .ok (.getfield 19, 3) := by decide +kernel
theorem dX1_makeFrom_41 : decode cX1_makeFrom 41 = .ok (.iload_n 3, 1) := by decide +kernel
theorem dX1_makeFrom_42 : decode cX1_makeFrom 42 = .ok (.iaload, 1) := by decide +kernel
theorem dX1_makeFrom_43 : decode cX1_makeFrom 43 = .ok (.iastore, 1) := by decide +kernel
theorem dX1_makeFrom_44 : decode cX1_makeFrom 44 = .ok (.aload_n 0, 1) := by decide +kernel
theorem dX1_makeFrom_45 : decode cX1_makeFrom 45 = .ok (.getfield 22, 3) := by decide +kernel
theorem dX1_makeFrom_48 : decode cX1_makeFrom 48 = .ok (.iload_n 3, 1) := by decide +kernel
theorem dX1_makeFrom_49 : decode cX1_makeFrom 49 = .ok (.iload_n 3, 1) := by decide +kernel
theorem dX1_makeFrom_50 : decode cX1_makeFrom 50 = .ok (.iastore, 1) := by decide +kernel
theorem dX1_makeFrom_51 : decode cX1_makeFrom 51 = .ok (.iinc 3 1, 3) := by decide +kernel
theorem dX1_makeFrom_54 : decode cX1_makeFrom 54 = .ok (.goto (-52), 3) := by decide +kernel
theorem dX1_makeFrom_57 : decode cX1_makeFrom 57 = .ok (.aload_n 0, 1) := by decide +kernel
theorem dX1_makeFrom_58 : decode cX1_makeFrom 58 = .ok (.getfield 28, 3) := by decide +kernel
theorem dX1_makeFrom_61 : decode cX1_makeFrom 61 = .ok (.aload_n 2, 1) := by decide +kernel
theorem dX1_makeFrom_62 : decode cX1_makeFrom 62 = .ok (.invokevirtual 36, 3) := by decide +kernel
theorem dX1_makeFrom_65 : decode cX1_makeFrom 65 = .ok (.aload_n 0, 1) := by decide +kernel
theorem dX1_makeFrom_66 : decode cX1_makeFrom 66 = .ok (.getfield 28, 3) := by decide +kernel
theorem dX1_makeFrom_69 : decode cX1_makeFrom 69 = .ok (.aload_n 0, 1) := by decide +kernel
theorem dX1_makeFrom_70 : decode cX1_makeFrom 70 = .ok (.invokevirtual 40, 3) := by decide +kernel
theorem dX1_makeFrom_73 : decode cX1_makeFrom 73 = .ok (.ireturn, 1) := by decide +kernel
theorem dX1_addSetting_0 : decode cX1_addSetting 0 = .ok (.iload_n 1, 1) := by decide +kernel
theorem dX1_addSetting_1 : decode cX1_addSetting 1 = .ok (.invokestatic 44, 3) := by decide +kernel
theorem dX1_addSetting_4 : decode cX1_addSetting 4 = .ok (.ifCond .eq 17, 3) := by decide +kernel
theorem dX1_addSetting_7 : decode cX1_addSetting 7 = .ok (.aload_n 0, 1) := by decide +kernel
theorem dX1_addSetting_8 : decode cX1_addSetting 8 = .ok (.getfield 9, 3) := by decide +kernel
theorem dX1_addSetting_11 : decode cX1_addSetting 11 = .ok (.iload_n 1, 1) := by decide +kernel
theorem dX1_addSetting_12 : decode cX1_addSetting 12 = .ok (.baload, 1) := by decide +kernel
theorem dX1_addSetting_13 : decode cX1_addSetting 13 = .ok (.ifCond .ne 8, 3) := by decide +kernel
theorem dX1_addSetting_16 : decode cX1_addSetting 16 = .ok (.iload_n 3, 1) := by decide +kernel
theorem dX1_addSetting_17 : decode cX1_addSetting 17 = .ok (.iload_n 2, 1) := by decide +kernel
theorem dX1_addSetting_18 : decode cX1_addSetting 18 = .ok (.if_icmp .le 5, 3) := by decide +kernel
theorem dX1_addSetting_21 : decode cX1_addSetting 21 = .ok (.iconst 0, 1) := by decide +kernel
theorem dX1_addSetting_22 : decode cX1_addSetting 22 = .ok (.ireturn, 1) := by decide +kernel
theorem dX1_addSetting_23 : decode cX1_addSetting 23 = .ok (.aload_n 0, 1) := by decide +kernel
theorem dX1_addSetting_24 : decode cX1_addSetting 24 = .ok (.getfield 9, 3) := by decide +kernel
theorem dX1_addSetting_27 : decode cX1_addSetting 27 = .ok (.iload_n 1, 1) := by decide +kernel
theorem dX1_addSetting_28 : decode cX1_addSetting 28 = .ok (.iconst 1, 1) := by decide +kernel
theorem dX1_addSetting_29 : decode cX1_addSetting 29 = .ok (.bastore, 1) := by decide +kernel
theorem dX1_addSetting_30 : decode cX1_addSetting 30 = .ok (.aload_n 0, 1) := by decide +kernel
theorem dX1_addSetting_31 : decode cX1_addSetting 31 = .ok (.getfield 15, 3) := by decide +kernel
theorem dX1_addSetting_34 : decode cX1_addSetting 34 = .ok (.iload_n 1, 1) := by decide +kernel
theorem dX1_addSetting_35 : decode cX1_addSetting 35 = .ok (.iload_n 2, 1) := by decide +kernel
theorem dX1_addSetting_36 : decode cX1_addSetting 36 = .ok (.iastore, 1) := by decide +kernel
theorem dX1_addSetting_37 : decode cX1_addSetting 37 = .ok (.aload_n 0, 1) := by decide +kernel
theorem dX1_addSetting_38 : decode cX1_addSetting 38 = .ok (.getfield 19, 3) := by decide +kernel
theorem dX1_addSetting_41 : decode cX1_addSetting 41 = .ok (.iload_n 1, 1) := by decide +kernel
theorem dX1_addSetting_42 : decode cX1_addSetting 42 = .ok (.iload_n 3, 1) := by decide +kernel
theorem dX1_addSetting_43 : decode cX1_addSetting 43 = .ok (.iastore, 1) := by decide +kernel
theorem dX1_addSetting_44 : decode cX1_addSetting 44 = .ok (.aload_n 0, 1) := by decide +kernel
theorem dX1_addSetting_45 : decode cX1_addSetting 45 = .ok (.getfield 22, 3) := by decide +kernel
theorem dX1_addSetting_48 : decode cX1_addSetting 48 = .ok (.iload_n 1, 1) := by decide +kernel
theorem dX1_addSetting_49 : decode cX1_addSetting 49 = .ok (.bipush (-6), 2) := by decide +kernel
theorem dX1_addSetting_51 : decode cX1_addSetting 51 = .ok (.iastore, 1) := by decide +kernel
theorem dX1_addSetting_52 : decode cX1_addSetting 52 = .ok (.iconst 1, 1) := by decide +kernel
theorem dX1_addSetting_53 : decode cX1_addSetting 53 = .ok (.ireturn, 1) := by decide +kernel
theorem dX1_dropSetting_0 : decode cX1_dropSetting 0 = .ok (.aload_n 0, 1) := by decide +kernel
theorem dX1_dropSetting_1 : decode cX1_dropSetting 1 = .ok (.iload_n 1, 1) := by decide +kernel
theorem dX1_dropSetting_2 : decode cX1_dropSetting 2 = .ok (.invokevirtual 32, 3) := by decide +kernel
theorem dX1_dropSetting_5 : decode cX1_dropSetting 5 = .ok (.ifCond .ne 5, 3) := by decide +kernel
theorem dX1_dropSetting_8 : decode cX1_dropSetting 8 = .ok (.iconst 0, 1) := by decide +kernel
theorem dX1_dropSetting_9 : decode cX1_dropSetting 9 = .ok (.ireturn, 1) := by decide +kernel
theorem dX1_dropSetting_10 : decode cX1_dropSetting 10 = .ok (.aload_n 0, 1) := by decide +kernel
theorem dX1_dropSetting_11 : decode cX1_dropSetting 11 = .ok (.getfield 9, 3) := by decide +kernel
theorem dX1_dropSetting_14 : decode cX1_dropSetting 14 = .ok (.iload_n 1, 1) := by decide +kernel
theorem dX1_dropSetting_15 : decode cX1_dropSetting 15 = .ok (.iconst 0, 1) := by decide +kernel
theorem dX1_dropSetting_16 : decode cX1_dropSetting 16 = .ok (.bastore, 1) := by decide +kernel
theorem dX1_dropSetting_17 : decode cX1_dropSetting 17 = .ok (.iconst 1, 1) := by decide +kernel
theorem dX1_dropSetting_18 : decode cX1_dropSetting 18 = .ok (.ireturn, 1) := by decide +kernel
theorem dX1_renameSetting_0 : decode cX1_renameSetting 0 = .ok (.aload_n 0, 1) := by decide +kernel
theorem dX1_renameSetting_1 : decode cX1_renameSetting 1 = .ok (.iload_n 1, 1) := by decide +kernel
theorem dX1_renameSetting_2 : decode cX1_renameSetting 2 = .ok (.invokevirtual 32, 3) := by decide +kernel
theorem dX1_renameSetting_5 : decode cX1_renameSetting 5 = .ok (.ifCond .eq 19, 3) := by decide +kernel
theorem dX1_renameSetting_8 : decode cX1_renameSetting 8 = .ok (.iload_n 2, 1) := by decide +kernel
theorem dX1_renameSetting_9 : decode cX1_renameSetting 9 = .ok (.invokestatic 44, 3) := by decide +kernel
theorem dX1_renameSetting_12 : decode cX1_renameSetting 12 = .ok (.ifCond .eq 12, 3) := by decide +kernel
theorem dX1_renameSetting_15 : decode cX1_renameSetting 15 = .ok (.aload_n 0, 1) := by decide +kernel
theorem dX1_renameSetting_16 : decode cX1_renameSetting 16 = .ok (.getfield 9, 3) := by decide +kernel
theorem dX1_renameSetting_19 : decode cX1_renameSetting 19 = .ok (.iload_n 2, 1) := by decide +kernel
theorem dX1_renameSetting_20 : decode cX1_renameSetting 20 = .ok (.baload, 1) := by decide +kernel
theorem dX1_renameSetting_21 : decode cX1_renameSetting 21 = .ok (.ifCond .eq 5, 3) := by decide +kernel
theorem dX1_renameSetting_24 : decode cX1_renameSetting 24 = .ok (.iconst 0, 1) := by decide +kernel
theorem dX1_renameSetting_25 : decode cX1_renameSetting 25 = .ok (.ireturn, 1) := by decide +kernel
theorem dX1_renameSetting_26 : decode cX1_renameSetting 26 = .ok (.aload_n 0, 1) := by decide +kernel
theorem dX1_renameSetting_27 : decode cX1_renameSetting 27 = .ok (.getfield 9, 3) := by decide +kernel
theorem dX1_renameSetting_30 : decode cX1_renameSetting 30 = .ok (.iload_n 1, 1) := by decide +kernel
theorem dX1_renameSetting_31 : decode cX1_renameSetting 31 = .ok (.iconst 0, 1) := by decide +kernel
theorem dX1_renameSetting_32 : decode cX1_renameSetting 32 = .ok (.bastore, 1) := by decide +kernel
theorem dX1_renameSetting_33 : decode cX1_renameSetting 33 = .ok (.aload_n 0, 1) := by decide +kernel
theorem dX1_renameSetting_34 : decode cX1_renameSetting 34 = .ok (.getfield 9, 3) := by decide +kernel
theorem dX1_renameSetting_37 : decode cX1_renameSetting 37 = .ok (.iload_n 2, 1) := by decide +kernel
theorem dX1_renameSetting_38 : decode cX1_renameSetting 38 = .ok (.iconst 1, 1) := by decide +kernel
theorem dX1_renameSetting_39 : decode cX1_renameSetting 39 = .ok (.bastore, 1) := by decide +kernel
theorem dX1_renameSetting_40 : decode cX1_renameSetting 40 = .ok (.aload_n 0, 1) := by decide +kernel
theorem dX1_renameSetting_41 : decode cX1_renameSetting 41 = .ok (.getfield 15, 3) := by decide +kernel
theorem dX1_renameSetting_44 : decode cX1_renameSetting 44 = .ok (.iload_n 2, 1) := by decide +kernel
theorem dX1_renameSetting_45 : decode cX1_renameSetting 45 = .ok (.aload_n 0, 1) := by decide +kernel
theorem dX1_renameSetting_46 : decode cX1_renameSetting 46 = .ok (.getfield 15, 3) := by decide +kernel
theorem dX1_renameSetting_49 : decode cX1_renameSetting 49 = .ok (.iload_n 1, 1) := by decide +kernel
theorem dX1_renameSetting_50 : decode cX1_renameSetting 50 = .ok (.iaload, 1) := by decide +kernel
theorem dX1_renameSetting_51 : decode cX1_renameSetting 51 = .ok (.iastore, 1) := by decide +kernel
theorem dX1_renameSetting_52 : decode cX1_renameSetting 52 = .ok (.aload_n 0, 1) := by decide +kernel
theorem dX1_renameSetting_53 : decode cX1_renameSetting 53 = .ok (.getfield 19, 3) := by decide +kernel
theorem dX1_renameSetting_56 : decode cX1_renameSetting 56 = .ok (.iload_n 2, 1) := by decide +kernel
theorem dX1_renameSetting_57 : decode cX1_renameSetting 57 = .ok (.aload_n 0, 1) := by decide +kernel
theorem dX1_renameSetting_58 : decode cX1_renameSetting 58 = .ok (.getfield 19, 3) := by decide +kernel
theorem dX1_renameSetting_61 : decode cX1_renameSetting 61 = .ok (.iload_n 1, 1) := by decide +kernel
theorem dX1_renameSetting_62 : decode cX1_renameSetting 62 = .ok (.iaload, 1) := by decide +kernel
theorem dX1_renameSetting_63 : decode cX1_renameSetting 63 = .ok (.iastore, 1) := by decide +kernel
theorem dX1_renameSetting_64 : decode cX1_renameSetting 64 = .ok (.aload_n 0, 1) := by decide +kernel
theorem dX1_renameSetting_65 : decode cX1_renameSetting 65 = .ok (.getfield 22, 3) := by decide +kernel
theorem dX1_renameSetting_68 : decode cX1_renameSetting 68 = .ok (.iload_n 2, 1) := by decide +kernel
theorem dX1_renameSetting_69 : decode cX1_renameSetting 69 = .ok (.aload_n 0, 1) := by decide +kernel
theorem dX1_renameSetting_70 : decode cX1_renameSetting 70 = .ok (.getfield 22, 3) := by decide +kernel
theorem dX1_renameSetting_73 : decode cX1_renameSetting 73 = .ok (.iload_n 1, 1) := by decide +kernel
theorem dX1_renameSetting_74 : decode cX1_renameSetting 74 = .ok (.iaload, 1) := by decide +kernel
theorem dX1_renameSetting_75 : decode cX1_renameSetting 75 = .ok (.iastore, 1) := by decide +kernel
theorem dX1_renameSetting_76 : decode cX1_renameSetting 76 = .ok (.iconst 1, 1) := by decide +kernel
theorem dX1_renameSetting_77 : decode cX1_renameSetting 77 = .ok (.ireturn, 1) := by decide +kernel
theorem dX1_scaleSetting_0 : decode cX1_scaleSetting 0 = .ok (.aload_n 0, 1) := by decide +kernel
theorem dX1_scaleSetting_1 : decode cX1_scaleSetting 1 = .ok (.iload_n 1, 1) := by decide +kernel
theorem dX1_scaleSetting_2 : decode cX1_scaleSetting 2 = .ok (.invokevirtual 32, 3) := by decide +kernel
theorem dX1_scaleSetting_5 : decode cX1_scaleSetting 5 = .ok (.ifCond .ne 5, 3) := by decide +kernel
theorem dX1_scaleSetting_8 : decode cX1_scaleSetting 8 = .ok (.iconst 0, 1) := by decide +kernel
theorem dX1_scaleSetting_9 : decode cX1_scaleSetting 9 = .ok (.ireturn, 1) := by decide +kernel
theorem dX1_scaleSetting_10 : decode cX1_scaleSetting 10 = .ok (.aload_n 0, 1) := by decide +kernel
theorem dX1_scaleSetting_11 : decode cX1_scaleSetting 11 = .ok (.getfield 15, 3) := by decide +kernel
theorem dX1_scaleSetting_14 : decode cX1_scaleSetting 14 = .ok (.iload_n 1, 1) := by decide +kernel
theorem dX1_scaleSetting_15 : decode cX1_scaleSetting 15 = .ok (.iload_n 2, 1) := by decide +kernel
theorem dX1_scaleSetting_16 : decode cX1_scaleSetting 16 = .ok (.iload_n 3, 1) := by decide +kernel
theorem dX1_scaleSetting_17 : decode cX1_scaleSetting 17 = .ok (.aload_n 0, 1) := by decide +kernel
theorem dX1_scaleSetting_18 : decode cX1_scaleSetting 18 = .ok (.getfield 15, 3) := by decide +kernel
theorem dX1_scaleSetting_21 : decode cX1_scaleSetting 21 = .ok (.iload_n 1, 1) := by decide +kernel
theorem dX1_scaleSetting_22 : decode cX1_scaleSetting 22 = .ok (.iaload, 1) := by decide +kernel
theorem dX1_scaleSetting_23 : decode cX1_scaleSetting 23 = .ok (.invokestatic 47, 3) := by decide +kernel
theorem dX1_scaleSetting_26 : decode cX1_scaleSetting 26 = .ok (.iastore, 1) := by decide +kernel
theorem dX1_scaleSetting_27 : decode cX1_scaleSetting 27 = .ok (.aload_n 0, 1) := by decide +kernel
theorem dX1_scaleSetting_28 : decode cX1_scaleSetting 28 = .ok (.getfield 19, 3) := by decide +kernel
theorem dX1_scaleSetting_31 : decode cX1_scaleSetting 31 = .ok (.iload_n 1, 1) := by decide +kernel
theorem dX1_scaleSetting_32 : decode cX1_scaleSetting 32 = .ok (.iload_n 2, 1) := by decide +kernel
theorem dX1_scaleSetting_33 : decode cX1_scaleSetting 33 = .ok (.iload_n 3, 1) := by decide +kernel
theorem dX1_scaleSetting_34 : decode cX1_scaleSetting 34 = .ok (.aload_n 0, 1) := by decide +kernel
theorem dX1_scaleSetting_35 : decode cX1_scaleSetting 35 = .ok (.getfield 19, 3) := by decide +kernel
theorem dX1_scaleSetting_38 : decode cX1_scaleSetting 38 = .ok (.iload_n 1, 1) := by decide +kernel
theorem dX1_scaleSetting_39 : decode cX1_scaleSetting 39 = .ok (.iaload, 1) := by decide +kernel
theorem dX1_scaleSetting_40 : decode cX1_scaleSetting 40 = .ok (.invokestatic 47, 3) := by decide +kernel
theorem dX1_scaleSetting_43 : decode cX1_scaleSetting 43 = .ok (.iastore, 1) := by decide +kernel
theorem dX1_scaleSetting_44 : decode cX1_scaleSetting 44 = .ok (.iconst 1, 1) := by decide +kernel
theorem dX1_scaleSetting_45 : decode cX1_scaleSetting 45 = .ok (.ireturn, 1) := by decide +kernel
theorem dX1_carryOver_0 : decode cX1_carryOver 0 = .ok (.aload_n 0, 1) := by decide +kernel
theorem dX1_carryOver_1 : decode cX1_carryOver 1 = .ok (.getfield 28, 3) := by decide +kernel
theorem dX1_carryOver_4 : decode cX1_carryOver 4 = .ok (.aload_n 1, 1) := by decide +kernel
theorem dX1_carryOver_5 : decode cX1_carryOver 5 = .ok (.invokevirtual 51, 3) := by decide +kernel
theorem dX1_carryOver_8 : decode cX1_carryOver 8 = .ok (.return_, 1) := by decide +kernel
theorem dX2_init_0 : decode cX2_init 0 = .ok (.aload_n 0, 1) := by decide +kernel
theorem dX2_init_1 : decode cX2_init 1 = .ok (.invokespecial 3, 3) := by decide +kernel
theorem dX2_init_4 : decode cX2_init 4 = .ok (.aload_n 0, 1) := by decide +kernel
theorem dX2_init_5 : decode cX2_init 5 = .ok (.new 9, 3) := by decide +kernel
theorem dX2_init_8 : decode cX2_init 8 = .ok (.dup, 1) := by decide +kernel
theorem dX2_init_9 : decode cX2_init 9 = .ok (.invokespecial 11, 3) := by decide +kernel
theorem dX2_init_12 : decode cX2_init 12 = .ok (.putfield 12, 3) := by decide +kernel
theorem dX2_init_15 : decode cX2_init 15 = .ok (.aload_n 0, 1) := by decide +kernel
theorem dX2_init_16 : decode cX2_init 16 = .ok (.bipush 6, 2) := by decide +kernel
theorem dX2_init_18 : decode cX2_init 18 = .ok (.anewarray 9, 3) := by decide +kernel
theorem dX2_init_21 : decode cX2_init 21 = .ok (.putfield 18, 3) := by decide +kernel
theorem dX2_init_24 : decode cX2_init 24 = .ok (.iconst 0, 1) := by decide +kernel
theorem dX2_init_25 : decode cX2_init 25 = .ok (.istore_n 1, 1) := by decide +kernel
theorem dX2_init_26 : decode cX2_init 26 = .ok (.iload_n 1, 1) := by decide +kernel
theorem dX2_init_27 : decode cX2_init 27 = .ok (.bipush 6, 2) := by decide +kernel
theorem dX2_init_29 : decode cX2_init 29 = .ok (.if_icmp .ge 22, 3) := by decide +kernel
theorem dX2_init_32 : decode cX2_init 32 = .ok (.aload_n 0, 1) := by decide +kernel
theorem dX2_init_33 : decode cX2_init 33 = .ok (.getfield 18, 3) := by decide +kernel
theorem dX2_init_36 : decode cX2_init 36 = .ok (.iload_n 1, 1) := by decide +kernel
theorem dX2_init_37 : decode cX2_init 37 = .ok (.new 9, 3) := by decide +kernel
theorem dX2_init_40 : decode cX2_init 40 = .ok (.dup, 1) := by decide +kernel
theorem dX2_init_41 : decode cX2_init 41 = .ok (.invokespecial 11, 3) := by decide +kernel
theorem dX2_init_44 : decode cX2_init 44 = .ok (.aastore, 1) := by decide +kernel
theorem dX2_init_45 : decode cX2_init 45 = .ok (.iinc 1 1, 3) := by decide +kernel
theorem dX2_init_48 : decode cX2_init 48 = .ok (.goto (-22), 3) := by decide +kernel
theorem dX2_init_51 : decode cX2_init 51 = .ok (.return_, 1) := by decide +kernel
theorem dX2_count_0 : decode cX2_count 0 = .ok (.aload_n 0, 1) := by decide +kernel
theorem dX2_count_1 : decode cX2_count 1 = .ok (.getfield 22, 3) := by decide +kernel
theorem dX2_count_4 : decode cX2_count 4 = .ok (.ireturn, 1) := by decide +kernel
theorem dX2_has_0 : decode cX2_has 0 = .ok (.iload_n 1, 1) := by decide +kernel
theorem dX2_has_1 : decode cX2_has 1 = .ok (.ifCond .lt 21, 3) := by decide +kernel
theorem dX2_has_4 : decode cX2_has 4 = .ok (.iload_n 1, 1) := by decide +kernel
theorem dX2_has_5 : decode cX2_has 5 = .ok (.aload_n 0, 1) := by decide +kernel
theorem dX2_has_6 : decode cX2_has 6 = .ok (.getfield 22, 3) := by decide +kernel
theorem dX2_has_9 : decode cX2_has 9 = .ok (.if_icmp .ge 13, 3) := by decide +kernel
theorem dX2_has_12 : decode cX2_has 12 = .ok (.iload_n 1, 1) := by decide +kernel
theorem dX2_has_13 : decode cX2_has 13 = .ok (.bipush 6, 2) := by decide +kernel
theorem dX2_has_15 : decode cX2_has 15 = .ok (.if_icmp .ge 7, 3) := by decide +kernel
theorem dX2_has_18 : decode cX2_has 18 = .ok (.iconst 1, 1) := by decide +kernel
theorem dX2_has_19 : decode cX2_has 19 = .ok (.goto 4, 3) := by decide +kernel
theorem dX2_has_22 : decode cX2_has 22 = .ok (.iconst 0, 1) := by decide +kernel
theorem dX2_has_23 : decode cX2_has 23 = .ok (.ireturn, 1) := by decide +kernel
theorem dX2_of_0 : decode cX2_of 0 = .ok (.aload_n 0, 1) := by decide +kernel
theorem dX2_of_1 : decode cX2_of 1 = .ok (.iload_n 1, 1) := by decide +kernel
theorem dX2_of_2 : decode cX2_of 2 = .ok (.invokevirtual 26, 3) := by decide +kernel
theorem dX2_of_5 : decode cX2_of 5 = .ok (.ifCond .eq 12, 3) := by decide +kernel
theorem dX2_of_8 : decode cX2_of 8 = .ok (.aload_n 0, 1) := by decide +kernel
theorem dX2_of_9 : decode cX2_of 9 = .ok (.getfield 18, 3) := by decide +kernel
theorem dX2_of_12 : decode cX2_of 12 = .ok (.iload_n 1, 1) := by decide +kernel
theorem dX2_of_13 : decode cX2_of 13 = .ok (.aaload, 1) := by decide +kernel
theorem dX2_of_14 : decode cX2_of 14 = .ok (.goto 7, 3) := by decide +kernel
theorem dX2_of_17 : decode cX2_of 17 = .ok (.aload_n 0, 1) := by decide +kernel
theorem dX2_of_18 : decode cX2_of 18 = .ok (.getfield 12, 3) := by decide +kernel
theorem dX2_of_21 : decode cX2_of 21 = .ok (.areturn, 1) := by decide +kernel
theorem dX2_extend_0 : decode cX2_extend 0 = .ok (.aload_n 0, 1) := by decide +kernel
theorem dX2_extend_1 : decode cX2_extend 1 = .ok (.getfield 22, 3) := by decide +kernel
theorem dX2_extend_4 : decode cX2_extend 4 = .ok (.bipush 6, 2) := by decide +kernel
theorem dX2_extend_6 : decode cX2_extend 6 = .ok (.if_icmp .ge 29, 3) := by decide +kernel
theorem dX2_extend_9 : decode cX2_extend 9 = .ok (.aload_n 0, 1) := by decide +kernel
theorem dX2_extend_10 : decode cX2_extend 10 = .ok (.getfield 18, 3) := by decide +kernel
theorem dX2_extend_13 : decode cX2_extend 13 = .ok (.aload_n 0, 1) := by decide +kernel
theorem dX2_extend_14 : decode cX2_extend 14 = .ok (.getfield 22, 3) := by decide +kernel
theorem dX2_extend_17 : decode cX2_extend 17 = .ok (.aaload, 1) := by decide +kernel
theorem dX2_extend_18 : decode cX2_extend 18 = .ok (.aload_n 0, 1) := by decide +kernel
theorem dX2_extend_19 : decode cX2_extend 19 = .ok (.aload_n 0, 1) := by decide +kernel
theorem dX2_extend_20 : decode cX2_extend 20 = .ok (.getfield 22, 3) := by decide +kernel
theorem dX2_extend_23 : decode cX2_extend 23 = .ok (.iconst 1, 1) := by decide +kernel
theorem dX2_extend_24 : decode cX2_extend 24 = .ok (.isub, 1) := by decide +kernel
theorem dX2_extend_25 : decode cX2_extend 25 = .ok (.invokevirtual 30, 3) := by decide +kernel
theorem dX2_extend_28 : decode cX2_extend 28 = .ok (.aload_n 1, 1) := by decide +kernel
theorem dX2_extend_29 : decode cX2_extend 29 = .ok (.invokevirtual 34, 3) := by decide +kernel
theorem dX2_extend_32 : decode cX2_extend 32 = .ok (.ifCond .ne 5, 3) := by decide +kernel
theorem dX2_extend_35 : decode cX2_extend 35 = .ok (.iconst 0, 1) := by decide +kernel
theorem dX2_extend_36 : decode cX2_extend 36 = .ok (.ireturn, 1) := by decide +kernel
theorem dX2_extend_37 : decode cX2_extend 37 = .ok (.aload_n 0, 1) := by decide +kernel
theorem dX2_extend_38 : decode cX2_extend 38 = .ok (.dup, 1) := by decide +kernel
theorem dX2_extend_39 : decode cX2_extend 39 = .ok (.getfield 22, 3) := by decide +kernel
theorem dX2_extend_42 : decode cX2_extend 42 = .ok (.iconst 1, 1) := by decide +kernel
theorem dX2_extend_43 : decode cX2_extend 43 = .ok (.iadd, 1) := by decide +kernel
theorem dX2_extend_44 : decode cX2_extend 44 = .ok (.putfield 22, 3) := by decide +kernel
theorem dX2_extend_47 : decode cX2_extend 47 = .ok (.iconst 1, 1) := by decide +kernel
theorem dX2_extend_48 : decode cX2_extend 48 = .ok (.ireturn, 1) := by decide +kernel
theorem dX2_carryOver_0 : decode cX2_carryOver 0 = .ok (.iload_n 2, 1) := by decide +kernel
theorem dX2_carryOver_1 : decode cX2_carryOver 1 = .ok (.iconst 1, 1) := by decide +kernel
theorem dX2_carryOver_2 : decode cX2_carryOver 2 = .ok (.iadd, 1) := by decide +kernel
theorem dX2_carryOver_3 : decode cX2_carryOver 3 = .ok (.istore 4, 2) := by decide +kernel
theorem dX2_carryOver_5 : decode cX2_carryOver 5 = .ok (.iload 4, 2) := by decide +kernel
theorem dX2_carryOver_7 : decode cX2_carryOver 7 = .ok (.iload_n 3, 1) := by decide +kernel
theorem dX2_carryOver_8 : decode cX2_carryOver 8 = .ok (.if_icmp .gt 26, 3) := by decide +kernel
theorem dX2_carryOver_11 : decode cX2_carryOver 11 = .ok (.iload 4, 2) := by decide +kernel
theorem dX2_carryOver_13 : decode cX2_carryOver 13 = .ok (.bipush 6, 2) := by decide +kernel
theorem dX2_carryOver_15 : decode cX2_carryOver 15 = .ok (.if_icmp .ge 19, 3) := by decide +kernel
theorem dX2_carryOver_18 : decode cX2_carryOver 18 = .ok (.aload_n 0, 1) := by decide +kernel
theorem dX2_carryOver_19 : decode cX2_carryOver 19 = .ok (.iload 4, 2) := by decide +kernel
theorem dX2_carryOver_21 : decode cX2_carryOver 21 = .ok (.invokevirtual 30, 3) := by decide +kernel
theorem dX2_carryOver_24 : decode cX2_carryOver 24 = .ok (.aload_n 1, 1) := by decide +kernel
theorem dX2_carryOver_25 : decode cX2_carryOver 25 = .ok (.invokevirtual 38, 3) := by decide +kernel
theorem dX2_carryOver_28 : decode cX2_carryOver 28 = .ok (.iinc 4 1, 3) := by decide +kernel
theorem dX2_carryOver_31 : decode cX2_carryOver 31 = .ok (.goto (-26), 3) := by decide +kernel
theorem dX2_carryOver_34 : decode cX2_carryOver 34 = .ok (.return_, 1) := by decide +kernel
theorem dX3_init_0 : decode cX3_init 0 = .ok (.aload_n 0, 1) := by decide +kernel
theorem dX3_init_1 : decode cX3_init 1 = .ok (.invokespecial 3, 3) := by decide +kernel
theorem dX3_init_4 : decode cX3_init 4 = .ok (.aload_n 0, 1) := by decide +kernel
theorem dX3_init_5 : decode cX3_init 5 = .ok (.bipush 80, 2) := by decide +kernel
theorem dX3_init_7 : decode cX3_init 7 = .ok (.newarray .char, 2) := by decide +kernel
theorem dX3_init_9 : decode cX3_init 9 = .ok (.putfield 9, 3) := by decide +kernel
theorem dX3_init_12 : decode cX3_init 12 = .ok (.aload_n 0, 1) := by decide +kernel
theorem dX3_init_13 : decode cX3_init 13 = .ok (.new 15, 3) := by decide +kernel
theorem dX3_init_16 : decode cX3_init 16 = .ok (.dup, 1) := by decide +kernel
theorem dX3_init_17 : decode cX3_init 17 = .ok (.invokespecial 17, 3) := by decide +kernel
theorem dX3_init_20 : decode cX3_init 20 = .ok (.putfield 18, 3) := by decide +kernel
theorem dX3_init_23 : decode cX3_init 23 = .ok (.return_, 1) := by decide +kernel
theorem dX3_length_0 : decode cX3_length 0 = .ok (.aload_n 0, 1) := by decide +kernel
theorem dX3_length_1 : decode cX3_length 1 = .ok (.getfield 22, 3) := by decide +kernel
theorem dX3_length_4 : decode cX3_length 4 = .ok (.ireturn, 1) := by decide +kernel
theorem dX3_steps_0 : decode cX3_steps 0 = .ok (.aload_n 0, 1) := by decide +kernel
theorem dX3_steps_1 : decode cX3_steps 1 = .ok (.getfield 18, 3) := by decide +kernel
theorem dX3_steps_4 : decode cX3_steps 4 = .ok (.areturn, 1) := by decide +kernel
theorem dX3_clear_0 : decode cX3_clear 0 = .ok (.aload_n 0, 1) := by decide +kernel
theorem dX3_clear_1 : decode cX3_clear 1 = .ok (.iconst 0, 1) := by decide +kernel
theorem dX3_clear_2 : decode cX3_clear 2 = .ok (.putfield 22, 3) := by decide +kernel
theorem dX3_clear_5 : decode cX3_clear 5 = .ok (.return_, 1) := by decide +kernel
theorem dX3_append_0 : decode cX3_append 0 = .ok (.lload_n 1, 1) := by decide +kernel
theorem dX3_append_1 : decode cX3_append 1 = .ok (.invokestatic 26, 3) := by decide +kernel
theorem dX3_append_4 : decode cX3_append 4 = .ok (.istore_n 3, 1) := by decide +kernel
theorem dX3_append_5 : decode cX3_append 5 = .ok (.iload_n 3, 1) := by decide +kernel
theorem dX3_append_6 : decode cX3_append 6 = .ok (.ifCond .ne 6, 3) := by decide +kernel
theorem dX3_append_9 : decode cX3_append 9 = .ok (.bipush (-2), 2) := by decide +kernel
theorem dX3_append_11 : decode cX3_append 11 = .ok (.ireturn, 1) := by decide +kernel
theorem dX3_append_12 : decode cX3_append 12 = .ok (.aload_n 0, 1) := by decide +kernel
theorem dX3_append_13 : decode cX3_append 13 = .ok (.getfield 22, 3) := by decide +kernel
theorem dX3_append_16 : decode cX3_append 16 = .ok (.iload_n 3, 1) := by decide +kernel
theorem dX3_append_17 : decode cX3_append 17 = .ok (.iadd, 1) := by decide +kernel
theorem dX3_append_18 : decode cX3_append 18 = .ok (.bipush 80, 2) := by decide +kernel
theorem dX3_append_20 : decode cX3_append 20 = .ok (.if_icmp .le 6, 3) := by decide +kernel
theorem dX3_append_23 : decode cX3_append 23 = .ok (.bipush (-4), 2) := by decide +kernel
theorem dX3_append_25 : decode cX3_append 25 = .ok (.ireturn, 1) := by decide +kernel
theorem dX3_append_26 : decode cX3_append 26 = .ok (.iload_n 3, 1) := by decide +kernel
theorem dX3_append_27 : decode cX3_append 27 = .ok (.iconst 1, 1) := by decide +kernel
theorem dX3_append_28 : decode cX3_append 28 = .ok (.isub, 1) := by decide +kernel
theorem dX3_append_29 : decode cX3_append 29 = .ok (.istore 4, 2) := by decide +kernel
theorem dX3_append_31 : decode cX3_append 31 = .ok (.iload 4, 2) := by decide +kernel
theorem dX3_append_33 : decode cX3_append 33 = .ok (.ifCond .lt 41, 3) := by decide +kernel
theorem dX3_append_36 : decode cX3_append 36 = .ok (.aload_n 0, 1) := by decide +kernel
theorem dX3_append_37 : decode cX3_append 37 = .ok (.getfield 9, 3) := by decide +kernel
theorem dX3_append_40 : decode cX3_append 40 = .ok (.aload_n 0, 1) := by decide +kernel
theorem dX3_append_41 : decode cX3_append 41 = .ok (.getfield 22, 3) := by decide +kernel
theorem dX3_append_44 : decode cX3_append 44 = .ok (.lload_n 1, 1) := by decide +kernel
theorem dX3_append_45 : decode cX3_append 45 = .ok (.bipush 8, 2) := by decide +kernel
theorem dX3_append_47 : decode cX3_append 47 = .ok (.iload 4, 2) := by decide +kernel
theorem dX3_append_49 : decode cX3_append 49 = .ok (.imul, 1) := by decide +kernel
theorem dX3_append_50 : decode cX3_append 50 = .ok (.lushr, 1) := by decide +kernel
theorem dX3_append_51 : decode cX3_append 51 = .ok (.ldc2_w 30, 3) := by decide +kernel
theorem dX3_append_54 : decode cX3_append 54 = .ok (.land, 1) := by decide +kernel
theorem dX3_append_55 : decode cX3_append 55 = .ok (.l2i, 1) := by decide +kernel
theorem dX3_append_56 : decode cX3_append 56 = .ok (.i2c, 1) := by decide +kernel
theorem dX3_append_57 : decode cX3_append 57 = .ok (.castore, 1) := by decide +kernel
theorem dX3_append_58 : decode cX3_append 58 = .ok (.aload_n 0, 1) := by decide +kernel
theorem dX3_append_59 : decode cX3_append 59 = .ok (.dup, 1) := by decide +kernel
theorem dX3_append_60 : decode cX3_append 60 = .ok (.getfield 22, 3) := by decide +kernel
theorem dX3_append_63 : decode cX3_append 63 = .ok (.iconst 1, 1) := by decide +kernel
theorem dX3_append_64 : decode cX3_append 64 = .ok (.iadd, 1) := by decide +kernel
theorem dX3_append_65 : decode cX3_append 65 = .ok (.putfield 22, 3) := by decide +kernel
theorem dX3_append_68 : decode cX3_append 68 = .ok (.iinc 4 (-1), 3) := by decide +kernel
theorem dX3_append_71 : decode cX3_append 71 = .ok (.goto (-40), 3) := by decide +kernel
theorem dX3_append_74 : decode cX3_append 74 = .ok (.aload_n 0, 1) := by decide +kernel
theorem dX3_append_75 : decode cX3_append 75 = .ok (.getfield 22, 3) := by decide +kernel
theorem dX3_append_78 : decode cX3_append 78 = .ok (.ireturn, 1) := by decide +kernel
theorem dX3_countCharacters_0 : decode cX3_countCharacters 0 = .ok (.lload_n 0, 1) := by decide +kernel
theorem dX3_countCharacters_1 : decode cX3_countCharacters 1 = .ok (.lstore_n 2, 1) := by decide +kernel
theorem dX3_countCharacters_2 : decode cX3_countCharacters 2 = .ok (.iconst 0, 1) := by decide +kernel
theorem dX3_countCharacters_3 : decode cX3_countCharacters 3 = .ok (.istore 4, 2) := by decide +kernel
theorem dX3_countCharacters_5 : decode cX3_countCharacters 5 = .ok (.lload_n 2, 1) := by decide +kernel
theorem dX3_countCharacters_6 : decode cX3_countCharacters 6 = .ok (.lconst 0, 1) := by decide +kernel
theorem dX3_countCharacters_7 : decode cX3_countCharacters 7 = .ok (.lcmp, 1) := by decide +kernel
theorem dX3_countCharacters_8 : decode cX3_countCharacters 8 = .ok (.ifCond .eq 48, 3) := by decide +kernel
theorem dX3_countCharacters_11 : decode cX3_countCharacters 11 = .ok (.iload 4, 2) := by decide +kernel
theorem dX3_countCharacters_13 : decode cX3_countCharacters 13 = .ok (.bipush 8, 2) := by decide +kernel
theorem dX3_countCharacters_15 : decode cX3_countCharacters 15 = .ok (.if_icmp .ge 41, 3) := by decide +kernel
theorem dX3_countCharacters_18 : decode cX3_countCharacters 18 = .ok (.lload_n 2, 1) := by decide +kernel
theorem dX3_countCharacters_19 : decode cX3_countCharacters 19 = .ok (.ldc2_w 30, 3) := by decide +kernel
theorem dX3_countCharacters_22 : decode cX3_countCharacters 22 = .ok (.land, 1) := by decide +kernel
theorem dX3_countCharacters_23 : decode cX3_countCharacters 23 = .ok (.lstore 5, 2) := by decide +kernel
theorem dX3_countCharacters_25 : decode cX3_countCharacters 25 = .ok (.lload 5, 2) := by decide +kernel
theorem dX3_countCharacters_27 : decode cX3_countCharacters 27 = .ok (.ldc2_w 32, 3) := by decide +kernel
theorem dX3_countCharacters_30 : decode cX3_countCharacters 30 = .ok (.lcmp, 1) := by decide +kernel
theorem dX3_countCharacters_31 : decode cX3_countCharacters 31 = .ok (.ifCond .lt 12, 3) := by decide +kernel
theorem dX3_countCharacters_34 : decode cX3_countCharacters 34 = .ok (.lload 5, 2) := by decide +kernel
theorem dX3_countCharacters_36 : decode cX3_countCharacters 36 = .ok (.ldc2_w 34, 3) := by decide +kernel
theorem dX3_countCharacters_39 : decode cX3_countCharacters 39 = .ok (.lcmp, 1) := by decide +kernel
theorem dX3_countCharacters_40 : decode cX3_countCharacters 40 = .ok (.ifCond .le 5, 3) := by decide +kernel
theorem dX3_countCharacters_43 : decode cX3_countCharacters 43 = .ok (.iconst 0, 1) := by decide +kernel
theorem dX3_countCharacters_44 : decode cX3_countCharacters 44 = .ok (.ireturn, 1) := by decide +kernel
theorem dX3_countCharacters_45 : decode cX3_countCharacters 45 = .ok (.lload_n 2, 1) := by decide +kernel
theorem dX3_countCharacters_46 : decode cX3_countCharacters 46 = .ok (.bipush 8, 2) := by decide +kernel
theorem dX3_countCharacters_48 : decode cX3_countCharacters 48 = .ok (.lushr, 1) := by decide +kernel
theorem dX3_countCharacters_49 : decode cX3_countCharacters 49 = .ok (.lstore_n 2, 1) := by decide +kernel
theorem dX3_countCharacters_50 : decode cX3_countCharacters 50 = .ok (.iinc 4 1, 3) := by decide +kernel
end
section
theorem dX3_countCharacters_53 : decode cX3_countCharacters 53 = .ok (.goto (-48), 3) := by decide +kernel
theorem dX3_countCharacters_56 : decode cX3_countCharacters 56 = .ok (.iload 4, 2) := by decide +kernel
theorem dX3_countCharacters_58 : decode cX3_countCharacters 58 = .ok (.ireturn, 1) := by decide +kernel
theorem dX3_read_0 : decode cX3_read 0 = .ok (.aload_n 0, 1) := by decide +kernel
theorem dX3_read_1 : decode cX3_read 1 = .ok (.iconst 0, 1) := by decide +kernel
theorem dX3_read_2 : decode cX3_read 2 = .ok (.putfield 36, 3) := by decide +kernel
theorem dX3_read_5 : decode cX3_read 5 = .ok (.aload_n 0, 1) := by decide +kernel
theorem dX3_read_6 : decode cX3_read 6 = .ok (.getfield 18, 3) := by decide +kernel
theorem dX3_read_9 : decode cX3_read 9 = .ok (.invokevirtual 39, 3) := by decide +kernel
theorem dX3_read_12 : decode cX3_read 12 = .ok (.iconst 0, 1) := by decide +kernel
theorem dX3_read_13 : decode cX3_read 13 = .ok (.istore_n 1, 1) := by decide +kernel
theorem dX3_read_14 : decode cX3_read 14 = .ok (.iload_n 1, 1) := by decide +kernel
theorem dX3_read_15 : decode cX3_read 15 = .ok (.bipush 27, 2) := by decide +kernel
theorem dX3_read_17 : decode cX3_read 17 = .ok (.if_icmp .ge 49, 3) := by decide +kernel
theorem dX3_read_20 : decode cX3_read 20 = .ok (.aload_n 0, 1) := by decide +kernel
theorem dX3_read_21 : decode cX3_read 21 = .ok (.invokevirtual 42, 3) := by decide +kernel
theorem dX3_read_24 : decode cX3_read 24 = .ok (.ifCond .ne 8, 3) := by decide +kernel
theorem dX3_read_27 : decode cX3_read 27 = .ok (.aload_n 0, 1) := by decide +kernel
theorem dX3_read_28 : decode cX3_read 28 = .ok (.getfield 36, 3) := by decide +kernel
theorem dX3_read_31 : decode cX3_read 31 = .ok (.ireturn, 1) := by decide +kernel
theorem dX3_read_32 : decode cX3_read 32 = .ok (.aload_n 0, 1) := by decide +kernel
theorem dX3_read_33 : decode cX3_read 33 = .ok (.getfield 36, 3) := by decide +kernel
theorem dX3_read_36 : decode cX3_read 36 = .ok (.aload_n 0, 1) := by decide +kernel
theorem dX3_read_37 : decode cX3_read 37 = .ok (.getfield 22, 3) := by decide +kernel
theorem dX3_read_40 : decode cX3_read 40 = .ok (.if_icmp .lt 6, 3) := by decide +kernel
theorem dX3_read_43 : decode cX3_read 43 = .ok (.bipush (-6), 2) := by decide +kernel
theorem dX3_read_45 : decode cX3_read 45 = .ok (.ireturn, 1) := by decide +kernel
theorem dX3_read_46 : decode cX3_read 46 = .ok (.aload_n 0, 1) := by decide +kernel
theorem dX3_read_47 : decode cX3_read 47 = .ok (.bipush 44, 2) := by decide +kernel
theorem dX3_read_49 : decode cX3_read 49 = .ok (.invokevirtual 46, 3) := by decide +kernel
theorem dX3_read_52 : decode cX3_read 52 = .ok (.ifCond .ne 8, 3) := by decide +kernel
theorem dX3_read_55 : decode cX3_read 55 = .ok (.aload_n 0, 1) := by decide +kernel
theorem dX3_read_56 : decode cX3_read 56 = .ok (.getfield 36, 3) := by decide +kernel
theorem dX3_read_59 : decode cX3_read 59 = .ok (.ireturn, 1) := by decide +kernel
theorem dX3_read_60 : decode cX3_read 60 = .ok (.iinc 1 1, 3) := by decide +kernel
theorem dX3_read_63 : decode cX3_read 63 = .ok (.goto (-49), 3) := by decide +kernel
theorem dX3_read_66 : decode cX3_read 66 = .ok (.aload_n 0, 1) := by decide +kernel
theorem dX3_read_67 : decode cX3_read 67 = .ok (.getfield 36, 3) := by decide +kernel
theorem dX3_read_70 : decode cX3_read 70 = .ok (.ireturn, 1) := by decide +kernel
theorem dX3_readStep_0 : decode cX3_readStep 0 = .ok (.aload_n 0, 1) := by decide +kernel
theorem dX3_readStep_1 : decode cX3_readStep 1 = .ok (.bipush 43, 2) := by decide +kernel
theorem dX3_readStep_3 : decode cX3_readStep 3 = .ok (.invokevirtual 46, 3) := by decide +kernel
theorem dX3_readStep_6 : decode cX3_readStep 6 = .ok (.ifCond .eq 8, 3) := by decide +kernel
theorem dX3_readStep_9 : decode cX3_readStep 9 = .ok (.aload_n 0, 1) := by decide +kernel
theorem dX3_readStep_10 : decode cX3_readStep 10 = .ok (.invokevirtual 50, 3) := by decide +kernel
theorem dX3_readStep_13 : decode cX3_readStep 13 = .ok (.ireturn, 1) := by decide +kernel
theorem dX3_readStep_14 : decode cX3_readStep 14 = .ok (.aload_n 0, 1) := by decide +kernel
theorem dX3_readStep_15 : decode cX3_readStep 15 = .ok (.bipush 45, 2) := by decide +kernel
theorem dX3_readStep_17 : decode cX3_readStep 17 = .ok (.invokevirtual 46, 3) := by decide +kernel
theorem dX3_readStep_20 : decode cX3_readStep 20 = .ok (.ifCond .eq 11, 3) := by decide +kernel
theorem dX3_readStep_23 : decode cX3_readStep 23 = .ok (.aload_n 0, 1) := by decide +kernel
theorem dX3_readStep_24 : decode cX3_readStep 24 = .ok (.iconst 1, 1) := by decide +kernel
theorem dX3_readStep_25 : decode cX3_readStep 25 = .ok (.bipush (-6), 2) := by decide +kernel
theorem dX3_readStep_27 : decode cX3_readStep 27 = .ok (.invokevirtual 53, 3) := by decide +kernel
theorem dX3_readStep_30 : decode cX3_readStep 30 = .ok (.ireturn, 1) := by decide +kernel
theorem dX3_readStep_31 : decode cX3_readStep 31 = .ok (.aload_n 0, 1) := by decide +kernel
theorem dX3_readStep_32 : decode cX3_readStep 32 = .ok (.invokevirtual 57, 3) := by decide +kernel
theorem dX3_readStep_35 : decode cX3_readStep 35 = .ok (.istore_n 1, 1) := by decide +kernel
theorem dX3_readStep_36 : decode cX3_readStep 36 = .ok (.iload_n 1, 1) := by decide +kernel
theorem dX3_readStep_37 : decode cX3_readStep 37 = .ok (.bipush (-6), 2) := by decide +kernel
theorem dX3_readStep_39 : decode cX3_readStep 39 = .ok (.if_icmp .ne 5, 3) := by decide +kernel
theorem dX3_readStep_42 : decode cX3_readStep 42 = .ok (.iconst 0, 1) := by decide +kernel
theorem dX3_readStep_43 : decode cX3_readStep 43 = .ok (.ireturn, 1) := by decide +kernel
theorem dX3_readStep_44 : decode cX3_readStep 44 = .ok (.aload_n 0, 1) := by decide +kernel
theorem dX3_readStep_45 : decode cX3_readStep 45 = .ok (.bipush 62, 2) := by decide +kernel
theorem dX3_readStep_47 : decode cX3_readStep 47 = .ok (.invokevirtual 46, 3) := by decide +kernel
theorem dX3_readStep_50 : decode cX3_readStep 50 = .ok (.ifCond .eq 10, 3) := by decide +kernel
theorem dX3_readStep_53 : decode cX3_readStep 53 = .ok (.aload_n 0, 1) := by decide +kernel
theorem dX3_readStep_54 : decode cX3_readStep 54 = .ok (.iconst 2, 1) := by decide +kernel
theorem dX3_readStep_55 : decode cX3_readStep 55 = .ok (.iload_n 1, 1) := by decide +kernel
theorem dX3_readStep_56 : decode cX3_readStep 56 = .ok (.invokevirtual 53, 3) := by decide +kernel
theorem dX3_readStep_59 : decode cX3_readStep 59 = .ok (.ireturn, 1) := by decide +kernel
theorem dX3_readStep_60 : decode cX3_readStep 60 = .ok (.aload_n 0, 1) := by decide +kernel
theorem dX3_readStep_61 : decode cX3_readStep 61 = .ok (.bipush 42, 2) := by decide +kernel
theorem dX3_readStep_63 : decode cX3_readStep 63 = .ok (.invokevirtual 46, 3) := by decide +kernel
theorem dX3_readStep_66 : decode cX3_readStep 66 = .ok (.ifCond .eq 10, 3) := by decide +kernel
theorem dX3_readStep_69 : decode cX3_readStep 69 = .ok (.aload_n 0, 1) := by decide +kernel
theorem dX3_readStep_70 : decode cX3_readStep 70 = .ok (.iconst 3, 1) := by decide +kernel
theorem dX3_readStep_71 : decode cX3_readStep 71 = .ok (.iload_n 1, 1) := by decide +kernel
theorem dX3_readStep_72 : decode cX3_readStep 72 = .ok (.invokevirtual 61, 3) := by decide +kernel
theorem dX3_readStep_75 : decode cX3_readStep 75 = .ok (.ireturn, 1) := by decide +kernel
theorem dX3_readStep_76 : decode cX3_readStep 76 = .ok (.aload_n 0, 1) := by decide +kernel
theorem dX3_readStep_77 : decode cX3_readStep 77 = .ok (.bipush 47, 2) := by decide +kernel
theorem dX3_readStep_79 : decode cX3_readStep 79 = .ok (.invokevirtual 46, 3) := by decide +kernel
theorem dX3_readStep_82 : decode cX3_readStep 82 = .ok (.ifCond .eq 10, 3) := by decide +kernel
theorem dX3_readStep_85 : decode cX3_readStep 85 = .ok (.aload_n 0, 1) := by decide +kernel
theorem dX3_readStep_86 : decode cX3_readStep 86 = .ok (.iconst 4, 1) := by decide +kernel
theorem dX3_readStep_87 : decode cX3_readStep 87 = .ok (.iload_n 1, 1) := by decide +kernel
theorem dX3_readStep_88 : decode cX3_readStep 88 = .ok (.invokevirtual 61, 3) := by decide +kernel
theorem dX3_readStep_91 : decode cX3_readStep 91 = .ok (.ireturn, 1) := by decide +kernel
theorem dX3_readStep_92 : decode cX3_readStep 92 = .ok (.aload_n 0, 1) := by decide +kernel
theorem dX3_readStep_93 : decode cX3_readStep 93 = .ok (.bipush 60, 2) := by decide +kernel
theorem dX3_readStep_95 : decode cX3_readStep 95 = .ok (.invokevirtual 46, 3) := by decide +kernel
theorem dX3_readStep_98 : decode cX3_readStep 98 = .ok (.ifCond .eq 15, 3) := by decide +kernel
theorem dX3_readStep_101 : decode cX3_readStep 101 = .ok (.aload_n 0, 1) := by decide +kernel
theorem dX3_readStep_102 : decode cX3_readStep 102 = .ok (.iload_n 1, 1) := by decide +kernel
theorem dX3_readStep_103 : decode cX3_readStep 103 = .ok (.invokevirtual 64, 3) := by decide +kernel
theorem dX3_readStep_106 : decode cX3_readStep 106 = .ok (.ifCond .eq 7, 3) := by decide +kernel
theorem dX3_readStep_109 : decode cX3_readStep 109 = .ok (.iconst 1, 1) := by decide +kernel
theorem dX3_readStep_110 : decode cX3_readStep 110 = .ok (.goto 4, 3) := by decide +kernel
theorem dX3_readStep_113 : decode cX3_readStep 113 = .ok (.iconst 0, 1) := by decide +kernel
theorem dX3_readStep_114 : decode cX3_readStep 114 = .ok (.ireturn, 1) := by decide +kernel
theorem dX3_readAdding_0 : decode cX3_readAdding 0 = .ok (.aload_n 0, 1) := by decide +kernel
theorem dX3_readAdding_1 : decode cX3_readAdding 1 = .ok (.invokevirtual 57, 3) := by decide +kernel
theorem dX3_readAdding_4 : decode cX3_readAdding 4 = .ok (.istore_n 1, 1) := by decide +kernel
theorem dX3_readAdding_5 : decode cX3_readAdding 5 = .ok (.iload_n 1, 1) := by decide +kernel
theorem dX3_readAdding_6 : decode cX3_readAdding 6 = .ok (.bipush (-6), 2) := by decide +kernel
theorem dX3_readAdding_8 : decode cX3_readAdding 8 = .ok (.if_icmp .ne 5, 3) := by decide +kernel
theorem dX3_readAdding_11 : decode cX3_readAdding 11 = .ok (.iconst 0, 1) := by decide +kernel
theorem dX3_readAdding_12 : decode cX3_readAdding 12 = .ok (.ireturn, 1) := by decide +kernel
theorem dX3_readAdding_13 : decode cX3_readAdding 13 = .ok (.aload_n 0, 1) := by decide +kernel
theorem dX3_readAdding_14 : decode cX3_readAdding 14 = .ok (.invokevirtual 68, 3) := by decide +kernel
theorem dX3_readAdding_17 : decode cX3_readAdding 17 = .ok (.istore_n 2, 1) := by decide +kernel
theorem dX3_readAdding_18 : decode cX3_readAdding 18 = .ok (.iload_n 2, 1) := by decide +kernel
theorem dX3_readAdding_19 : decode cX3_readAdding 19 = .ok (.bipush (-6), 2) := by decide +kernel
theorem dX3_readAdding_21 : decode cX3_readAdding 21 = .ok (.if_icmp .eq 12, 3) := by decide +kernel
theorem dX3_readAdding_24 : decode cX3_readAdding 24 = .ok (.aload_n 0, 1) := by decide +kernel
theorem dX3_readAdding_25 : decode cX3_readAdding 25 = .ok (.bipush 61, 2) := by decide +kernel
theorem dX3_readAdding_27 : decode cX3_readAdding 27 = .ok (.invokevirtual 46, 3) := by decide +kernel
theorem dX3_readAdding_30 : decode cX3_readAdding 30 = .ok (.ifCond .ne 5, 3) := by decide +kernel
theorem dX3_readAdding_33 : decode cX3_readAdding 33 = .ok (.iconst 0, 1) := by decide +kernel
theorem dX3_readAdding_34 : decode cX3_readAdding 34 = .ok (.ireturn, 1) := by decide +kernel
theorem dX3_readAdding_35 : decode cX3_readAdding 35 = .ok (.aload_n 0, 1) := by decide +kernel
theorem dX3_readAdding_36 : decode cX3_readAdding 36 = .ok (.invokevirtual 68, 3) := by decide +kernel
theorem dX3_readAdding_39 : decode cX3_readAdding 39 = .ok (.istore_n 3, 1) := by decide +kernel
theorem dX3_readAdding_40 : decode cX3_readAdding 40 = .ok (.iload_n 3, 1) := by decide +kernel
theorem dX3_readAdding_41 : decode cX3_readAdding 41 = .ok (.bipush (-6), 2) := by decide +kernel
theorem dX3_readAdding_43 : decode cX3_readAdding 43 = .ok (.if_icmp .ne 5, 3) := by decide +kernel
theorem dX3_readAdding_46 : decode cX3_readAdding 46 = .ok (.iconst 0, 1) := by decide +kernel
theorem dX3_readAdding_47 : decode cX3_readAdding 47 = .ok (.ireturn, 1) := by decide +kernel
theorem dX3_readAdding_48 : decode cX3_readAdding 48 = .ok (.aload_n 0, 1) := by decide +kernel
theorem dX3_readAdding_49 : decode cX3_readAdding 49 = .ok (.getfield 18, 3) := by decide +kernel
theorem dX3_readAdding_52 : decode cX3_readAdding 52 = .ok (.iconst 0, 1) := by decide +kernel
theorem dX3_readAdding_53 : decode cX3_readAdding 53 = .ok (.iload_n 1, 1) := by decide +kernel
theorem dX3_readAdding_54 : decode cX3_readAdding 54 = .ok (.iload_n 2, 1) := by decide +kernel
theorem dX3_readAdding_55 : decode cX3_readAdding 55 = .ok (.iload_n 3, 1) := by decide +kernel
theorem dX3_readAdding_56 : decode cX3_readAdding 56 = .ok (.invokevirtual 71, 3) := by decide +kernel
theorem dX3_readAdding_59 : decode cX3_readAdding 59 = .ok (.iconst 1, 1) := by decide +kernel
theorem dX3_readAdding_60 : decode cX3_readAdding 60 = .ok (.ireturn, 1) := by decide +kernel
theorem dX3_readNewName_0 : decode cX3_readNewName 0 = .ok (.aload_n 0, 1) := by decide +kernel
theorem dX3_readNewName_1 : decode cX3_readNewName 1 = .ok (.invokevirtual 57, 3) := by decide +kernel
theorem dX3_readNewName_4 : decode cX3_readNewName 4 = .ok (.istore_n 3, 1) := by decide +kernel
theorem dX3_readNewName_5 : decode cX3_readNewName 5 = .ok (.iload_n 3, 1) := by decide +kernel
theorem dX3_readNewName_6 : decode cX3_readNewName 6 = .ok (.bipush (-6), 2) := by decide +kernel
theorem dX3_readNewName_8 : decode cX3_readNewName 8 = .ok (.if_icmp .ne 5, 3) := by decide +kernel
theorem dX3_readNewName_11 : decode cX3_readNewName 11 = .ok (.iconst 0, 1) := by decide +kernel
theorem dX3_readNewName_12 : decode cX3_readNewName 12 = .ok (.ireturn, 1) := by decide +kernel
theorem dX3_readNewName_13 : decode cX3_readNewName 13 = .ok (.iload_n 1, 1) := by decide +kernel
theorem dX3_readNewName_14 : decode cX3_readNewName 14 = .ok (.iconst 1, 1) := by decide +kernel
theorem dX3_readNewName_15 : decode cX3_readNewName 15 = .ok (.if_icmp .ne 17, 3) := by decide +kernel
theorem dX3_readNewName_18 : decode cX3_readNewName 18 = .ok (.aload_n 0, 1) := by decide +kernel
theorem dX3_readNewName_19 : decode cX3_readNewName 19 = .ok (.getfield 18, 3) := by decide +kernel
theorem dX3_readNewName_22 : decode cX3_readNewName 22 = .ok (.iconst 1, 1) := by decide +kernel
theorem dX3_readNewName_23 : decode cX3_readNewName 23 = .ok (.iload_n 3, 1) := by decide +kernel
theorem dX3_readNewName_24 : decode cX3_readNewName 24 = .ok (.iconst 0, 1) := by decide +kernel
theorem dX3_readNewName_25 : decode cX3_readNewName 25 = .ok (.iconst 0, 1) := by decide +kernel
theorem dX3_readNewName_26 : decode cX3_readNewName 26 = .ok (.invokevirtual 71, 3) := by decide +kernel
theorem dX3_readNewName_29 : decode cX3_readNewName 29 = .ok (.goto 14, 3) := by decide +kernel
theorem dX3_readNewName_32 : decode cX3_readNewName 32 = .ok (.aload_n 0, 1) := by decide +kernel
theorem dX3_readNewName_33 : decode cX3_readNewName 33 = .ok (.getfield 18, 3) := by decide +kernel
theorem dX3_readNewName_36 : decode cX3_readNewName 36 = .ok (.iconst 2, 1) := by decide +kernel
theorem dX3_readNewName_37 : decode cX3_readNewName 37 = .ok (.iload_n 2, 1) := by decide +kernel
theorem dX3_readNewName_38 : decode cX3_readNewName 38 = .ok (.iload_n 3, 1) := by decide +kernel
theorem dX3_readNewName_39 : decode cX3_readNewName 39 = .ok (.iconst 0, 1) := by decide +kernel
theorem dX3_readNewName_40 : decode cX3_readNewName 40 = .ok (.invokevirtual 71, 3) := by decide +kernel
theorem dX3_readNewName_43 : decode cX3_readNewName 43 = .ok (.iconst 1, 1) := by decide +kernel
theorem dX3_readNewName_44 : decode cX3_readNewName 44 = .ok (.ireturn, 1) := by decide +kernel
theorem dX3_readFactor_0 : decode cX3_readFactor 0 = .ok (.aload_n 0, 1) := by decide +kernel
theorem dX3_readFactor_1 : decode cX3_readFactor 1 = .ok (.iconst 2, 1) := by decide +kernel
theorem dX3_readFactor_2 : decode cX3_readFactor 2 = .ok (.bipush 9, 2) := by decide +kernel
theorem dX3_readFactor_4 : decode cX3_readFactor 4 = .ok (.invokevirtual 75, 3) := by decide +kernel
theorem dX3_readFactor_7 : decode cX3_readFactor 7 = .ok (.istore_n 3, 1) := by decide +kernel
theorem dX3_readFactor_8 : decode cX3_readFactor 8 = .ok (.iload_n 3, 1) := by decide +kernel
theorem dX3_readFactor_9 : decode cX3_readFactor 9 = .ok (.bipush (-6), 2) := by decide +kernel
theorem dX3_readFactor_11 : decode cX3_readFactor 11 = .ok (.if_icmp .ne 5, 3) := by decide +kernel
theorem dX3_readFactor_14 : decode cX3_readFactor 14 = .ok (.iconst 0, 1) := by decide +kernel
theorem dX3_readFactor_15 : decode cX3_readFactor 15 = .ok (.ireturn, 1) := by decide +kernel
theorem dX3_readFactor_16 : decode cX3_readFactor 16 = .ok (.aload_n 0, 1) := by decide +kernel
theorem dX3_readFactor_17 : decode cX3_readFactor 17 = .ok (.getfield 18, 3) := by decide +kernel
theorem dX3_readFactor_20 : decode cX3_readFactor 20 = .ok (.iload_n 1, 1) := by decide +kernel
theorem dX3_readFactor_21 : decode cX3_readFactor 21 = .ok (.iload_n 2, 1) := by decide +kernel
theorem dX3_readFactor_22 : decode cX3_readFactor 22 = .ok (.iload_n 3, 1) := by decide +kernel
theorem dX3_readFactor_23 : decode cX3_readFactor 23 = .ok (.iconst 0, 1) := by decide +kernel
theorem dX3_readFactor_24 : decode cX3_readFactor 24 = .ok (.invokevirtual 71, 3) := by decide +kernel
theorem dX3_readFactor_27 : decode cX3_readFactor 27 = .ok (.iconst 1, 1) := by decide +kernel
theorem dX3_readFactor_28 : decode cX3_readFactor 28 = .ok (.ireturn, 1) := by decide +kernel
theorem dX3_readLimit_0 : decode cX3_readLimit 0 = .ok (.aload_n 0, 1) := by decide +kernel
theorem dX3_readLimit_1 : decode cX3_readLimit 1 = .ok (.invokevirtual 68, 3) := by decide +kernel
theorem dX3_readLimit_4 : decode cX3_readLimit 4 = .ok (.istore_n 2, 1) := by decide +kernel
theorem dX3_readLimit_5 : decode cX3_readLimit 5 = .ok (.iload_n 2, 1) := by decide +kernel
theorem dX3_readLimit_6 : decode cX3_readLimit 6 = .ok (.bipush (-6), 2) := by decide +kernel
theorem dX3_readLimit_8 : decode cX3_readLimit 8 = .ok (.if_icmp .ne 5, 3) := by decide +kernel
theorem dX3_readLimit_11 : decode cX3_readLimit 11 = .ok (.iconst 0, 1) := by decide +kernel
theorem dX3_readLimit_12 : decode cX3_readLimit 12 = .ok (.ireturn, 1) := by decide +kernel
theorem dX3_readLimit_13 : decode cX3_readLimit 13 = .ok (.aload_n 0, 1) := by decide +kernel
theorem dX3_readLimit_14 : decode cX3_readLimit 14 = .ok (.getfield 18, 3) := by decide +kernel
theorem dX3_readLimit_17 : decode cX3_readLimit 17 = .ok (.iconst 5, 1) := by decide +kernel
theorem dX3_readLimit_18 : decode cX3_readLimit 18 = .ok (.iload_n 1, 1) := by decide +kernel
theorem dX3_readLimit_19 : decode cX3_readLimit 19 = .ok (.iload_n 2, 1) := by decide +kernel
theorem dX3_readLimit_20 : decode cX3_readLimit 20 = .ok (.iconst 0, 1) := by decide +kernel
theorem dX3_readLimit_21 : decode cX3_readLimit 21 = .ok (.invokevirtual 71, 3) := by decide +kernel
theorem dX3_readLimit_24 : decode cX3_readLimit 24 = .ok (.iconst 1, 1) := by decide +kernel
theorem dX3_readLimit_25 : decode cX3_readLimit 25 = .ok (.ireturn, 1) := by decide +kernel
theorem dX3_readNumber_0 : decode cX3_readNumber 0 = .ok (.aload_n 0, 1) := by decide +kernel
theorem dX3_readNumber_1 : decode cX3_readNumber 1 = .ok (.iconst 0, 1) := by decide +kernel
theorem dX3_readNumber_2 : decode cX3_readNumber 2 = .ok (.bipush 9, 2) := by decide +kernel
theorem dX3_readNumber_4 : decode cX3_readNumber 4 = .ok (.invokevirtual 75, 3) := by decide +kernel
theorem dX3_readNumber_7 : decode cX3_readNumber 7 = .ok (.istore_n 1, 1) := by decide +kernel
theorem dX3_readNumber_8 : decode cX3_readNumber 8 = .ok (.iconst 0, 1) := by decide +kernel
theorem dX3_readNumber_9 : decode cX3_readNumber 9 = .ok (.istore_n 2, 1) := by decide +kernel
theorem dX3_readNumber_10 : decode cX3_readNumber 10 = .ok (.iload_n 2, 1) := by decide +kernel
theorem dX3_readNumber_11 : decode cX3_readNumber 11 = .ok (.iconst 2, 1) := by decide +kernel
theorem dX3_readNumber_12 : decode cX3_readNumber 12 = .ok (.if_icmp .ge 47, 3) := by decide +kernel
theorem dX3_readNumber_15 : decode cX3_readNumber 15 = .ok (.iload_n 1, 1) := by decide +kernel
theorem dX3_readNumber_16 : decode cX3_readNumber 16 = .ok (.ifCond .le 43, 3) := by decide +kernel
theorem dX3_readNumber_19 : decode cX3_readNumber 19 = .ok (.aload_n 0, 1) := by decide +kernel
theorem dX3_readNumber_20 : decode cX3_readNumber 20 = .ok (.iconst 0, 1) := by decide +kernel
theorem dX3_readNumber_21 : decode cX3_readNumber 21 = .ok (.bipush 9, 2) := by decide +kernel
theorem dX3_readNumber_23 : decode cX3_readNumber 23 = .ok (.sipush 255, 3) := by decide +kernel
theorem dX3_readNumber_26 : decode cX3_readNumber 26 = .ok (.bipush 10, 2) := by decide +kernel
theorem dX3_readNumber_28 : decode cX3_readNumber 28 = .ok (.iload_n 1, 1) := by decide +kernel
theorem dX3_readNumber_29 : decode cX3_readNumber 29 = .ok (.imul, 1) := by decide +kernel
theorem dX3_readNumber_30 : decode cX3_readNumber 30 = .ok (.isub, 1) := by decide +kernel
theorem dX3_readNumber_31 : decode cX3_readNumber 31 = .ok (.invokestatic 79, 3) := by decide +kernel
theorem dX3_readNumber_34 : decode cX3_readNumber 34 = .ok (.invokevirtual 75, 3) := by decide +kernel
theorem dX3_readNumber_37 : decode cX3_readNumber 37 = .ok (.istore_n 3, 1) := by decide +kernel
theorem dX3_readNumber_38 : decode cX3_readNumber 38 = .ok (.iload_n 3, 1) := by decide +kernel
theorem dX3_readNumber_39 : decode cX3_readNumber 39 = .ok (.bipush (-6), 2) := by decide +kernel
theorem dX3_readNumber_41 : decode cX3_readNumber 41 = .ok (.if_icmp .ne 5, 3) := by decide +kernel
theorem dX3_readNumber_44 : decode cX3_readNumber 44 = .ok (.iload_n 1, 1) := by decide +kernel
theorem dX3_readNumber_45 : decode cX3_readNumber 45 = .ok (.ireturn, 1) := by decide +kernel
theorem dX3_readNumber_46 : decode cX3_readNumber 46 = .ok (.bipush 10, 2) := by decide +kernel
theorem dX3_readNumber_48 : decode cX3_readNumber 48 = .ok (.iload_n 1, 1) := by decide +kernel
theorem dX3_readNumber_49 : decode cX3_readNumber 49 = .ok (.imul, 1) := by decide +kernel
theorem dX3_readNumber_50 : decode cX3_readNumber 50 = .ok (.iload_n 3, 1) := by decide +kernel
theorem dX3_readNumber_51 : decode cX3_readNumber 51 = .ok (.iadd, 1) := by decide +kernel
theorem dX3_readNumber_52 : decode cX3_readNumber 52 = .ok (.istore_n 1, 1) := by decide +kernel
theorem dX3_readNumber_53 : decode cX3_readNumber 53 = .ok (.iinc 2 1, 3) := by decide +kernel
theorem dX3_readNumber_56 : decode cX3_readNumber 56 = .ok (.goto (-46), 3) := by decide +kernel
theorem dX3_readNumber_59 : decode cX3_readNumber 59 = .ok (.iload_n 1, 1) := by decide +kernel
theorem dX3_readNumber_60 : decode cX3_readNumber 60 = .ok (.ireturn, 1) := by decide +kernel
theorem dX3_readName_0 : decode cX3_readName 0 = .ok (.aload_n 0, 1) := by decide +kernel
theorem dX3_readName_1 : decode cX3_readName 1 = .ok (.bipush 97, 2) := by decide +kernel
theorem dX3_readName_3 : decode cX3_readName 3 = .ok (.iconst 0, 1) := by decide +kernel
theorem dX3_readName_4 : decode cX3_readName 4 = .ok (.bipush 9, 2) := by decide +kernel
theorem dX3_readName_6 : decode cX3_readName 6 = .ok (.invokevirtual 84, 3) := by decide +kernel
theorem dX3_readName_9 : decode cX3_readName 9 = .ok (.ireturn, 1) := by decide +kernel
theorem dX3_readDigit_0 : decode cX3_readDigit 0 = .ok (.aload_n 0, 1) := by decide +kernel
theorem dX3_readDigit_1 : decode cX3_readDigit 1 = .ok (.bipush 48, 2) := by decide +kernel
theorem dX3_readDigit_3 : decode cX3_readDigit 3 = .ok (.iload_n 1, 1) := by decide +kernel
theorem dX3_readDigit_4 : decode cX3_readDigit 4 = .ok (.iload_n 2, 1) := by decide +kernel
theorem dX3_readDigit_5 : decode cX3_readDigit 5 = .ok (.invokevirtual 84, 3) := by decide +kernel
theorem dX3_readDigit_8 : decode cX3_readDigit 8 = .ok (.ireturn, 1) := by decide +kernel
theorem dX3_readSign_0 : decode cX3_readSign 0 = .ok (.aload_n 0, 1) := by decide +kernel
theorem dX3_readSign_1 : decode cX3_readSign 1 = .ok (.iload_n 1, 1) := by decide +kernel
theorem dX3_readSign_2 : decode cX3_readSign 2 = .ok (.iconst 0, 1) := by decide +kernel
theorem dX3_readSign_3 : decode cX3_readSign 3 = .ok (.iconst 0, 1) := by decide +kernel
theorem dX3_readSign_4 : decode cX3_readSign 4 = .ok (.invokevirtual 84, 3) := by decide +kernel
theorem dX3_readSign_7 : decode cX3_readSign 7 = .ok (.bipush (-6), 2) := by decide +kernel
theorem dX3_readSign_9 : decode cX3_readSign 9 = .ok (.if_icmp .eq 7, 3) := by decide +kernel
theorem dX3_readSign_12 : decode cX3_readSign 12 = .ok (.iconst 1, 1) := by decide +kernel
theorem dX3_readSign_13 : decode cX3_readSign 13 = .ok (.goto 4, 3) := by decide +kernel
theorem dX3_readSign_16 : decode cX3_readSign 16 = .ok (.iconst 0, 1) := by decide +kernel
theorem dX3_readSign_17 : decode cX3_readSign 17 = .ok (.ireturn, 1) := by decide +kernel
theorem dX3_readOffset_0 : decode cX3_readOffset 0 = .ok (.aload_n 0, 1) := by decide +kernel
theorem dX3_readOffset_1 : decode cX3_readOffset 1 = .ok (.getfield 36, 3) := by decide +kernel
theorem dX3_readOffset_4 : decode cX3_readOffset 4 = .ok (.aload_n 0, 1) := by decide +kernel
theorem dX3_readOffset_5 : decode cX3_readOffset 5 = .ok (.getfield 22, 3) := by decide +kernel
theorem dX3_readOffset_8 : decode cX3_readOffset 8 = .ok (.if_icmp .ge 12, 3) := by decide +kernel
theorem dX3_readOffset_11 : decode cX3_readOffset 11 = .ok (.aload_n 0, 1) := by decide +kernel
theorem dX3_readOffset_12 : decode cX3_readOffset 12 = .ok (.getfield 36, 3) := by decide +kernel
theorem dX3_readOffset_15 : decode cX3_readOffset 15 = .ok (.bipush 80, 2) := by decide +kernel
theorem dX3_readOffset_17 : decode cX3_readOffset 17 = .ok (.if_icmp .lt 6, 3) := by decide +kernel
theorem dX3_readOffset_20 : decode cX3_readOffset 20 = .ok (.bipush (-6), 2) := by decide +kernel
theorem dX3_readOffset_22 : decode cX3_readOffset 22 = .ok (.ireturn, 1) := by decide +kernel
theorem dX3_readOffset_23 : decode cX3_readOffset 23 = .ok (.aload_n 0, 1) := by decide +kernel
theorem dX3_readOffset_24 : decode cX3_readOffset 24 = .ok (.getfield 9, 3) := by decide +kernel
theorem dX3_readOffset_27 : decode cX3_readOffset 27 = .ok (.aload_n 0, 1) := by decide +kernel
theorem dX3_readOffset_28 : decode cX3_readOffset 28 = .ok (.getfield 36, 3) := by decide +kernel
theorem dX3_readOffset_31 : decode cX3_readOffset 31 = .ok (.caload, 1) := by decide +kernel
theorem dX3_readOffset_32 : decode cX3_readOffset 32 = .ok (.iload_n 1, 1) := by decide +kernel
theorem dX3_readOffset_33 : decode cX3_readOffset 33 = .ok (.isub, 1) := by decide +kernel
theorem dX3_readOffset_34 : decode cX3_readOffset 34 = .ok (.istore 4, 2) := by decide +kernel
theorem dX3_readOffset_36 : decode cX3_readOffset 36 = .ok (.iload 4, 2) := by decide +kernel
theorem dX3_readOffset_38 : decode cX3_readOffset 38 = .ok (.iload_n 2, 1) := by decide +kernel
theorem dX3_readOffset_39 : decode cX3_readOffset 39 = .ok (.if_icmp .lt 9, 3) := by decide +kernel
theorem dX3_readOffset_42 : decode cX3_readOffset 42 = .ok (.iload 4, 2) := by decide +kernel
theorem dX3_readOffset_44 : decode cX3_readOffset 44 = .ok (.iload_n 3, 1) := by decide +kernel
theorem dX3_readOffset_45 : decode cX3_readOffset 45 = .ok (.if_icmp .le 6, 3) := by decide +kernel
theorem dX3_readOffset_48 : decode cX3_readOffset 48 = .ok (.bipush (-6), 2) := by decide +kernel
theorem dX3_readOffset_50 : decode cX3_readOffset 50 = .ok (.ireturn, 1) := by decide +kernel
theorem dX3_readOffset_51 : decode cX3_readOffset 51 = .ok (.aload_n 0, 1) := by decide +kernel
theorem dX3_readOffset_52 : decode cX3_readOffset 52 = .ok (.dup, 1) := by decide +kernel
theorem dX3_readOffset_53 : decode cX3_readOffset 53 = .ok (.getfield 36, 3) := by decide +kernel
theorem dX3_readOffset_56 : decode cX3_readOffset 56 = .ok (.iconst 1, 1) := by decide +kernel
theorem dX3_readOffset_57 : decode cX3_readOffset 57 = .ok (.iadd, 1) := by decide +kernel
theorem dX3_readOffset_58 : decode cX3_readOffset 58 = .ok (.putfield 36, 3) := by decide +kernel
theorem dX3_readOffset_61 : decode cX3_readOffset 61 = .ok (.iload 4, 2) := by decide +kernel
theorem dX3_readOffset_63 : decode cX3_readOffset 63 = .ok (.ireturn, 1) := by decide +kernel
theorem dX4_init_0 : decode cX4_init 0 = .ok (.aload_n 0, 1) := by decide +kernel
theorem dX4_init_1 : decode cX4_init 1 = .ok (.invokespecial 3, 3) := by decide +kernel
theorem dX4_init_4 : decode cX4_init 4 = .ok (.aload_n 0, 1) := by decide +kernel
theorem dX4_init_5 : decode cX4_init 5 = .ok (.bipush 48, 2) := by decide +kernel
theorem dX4_init_7 : decode cX4_init 7 = .ok (.newarray .int, 2) := by decide +kernel
theorem dX4_init_9 : decode cX4_init 9 = .ok (.putfield 9, 3) := by decide +kernel
theorem dX4_init_12 : decode cX4_init 12 = .ok (.iconst 0, 1) := by decide +kernel
theorem dX4_init_13 : decode cX4_init 13 = .ok (.istore_n 1, 1) := by decide +kernel
theorem dX4_init_14 : decode cX4_init 14 = .ok (.iload_n 1, 1) := by decide +kernel
theorem dX4_init_15 : decode cX4_init 15 = .ok (.bipush 48, 2) := by decide +kernel
theorem dX4_init_17 : decode cX4_init 17 = .ok (.if_icmp .ge 17, 3) := by decide +kernel
theorem dX4_init_20 : decode cX4_init 20 = .ok (.aload_n 0, 1) := by decide +kernel
theorem dX4_init_21 : decode cX4_init 21 = .ok (.getfield 9, 3) := by decide +kernel
theorem dX4_init_24 : decode cX4_init 24 = .ok (.iload_n 1, 1) := by decide +kernel
theorem dX4_init_25 : decode cX4_init 25 = .ok (.bipush (-6), 2) := by decide +kernel
theorem dX4_init_27 : decode cX4_init 27 = .ok (.iastore, 1) := by decide +kernel
theorem dX4_init_28 : decode cX4_init 28 = .ok (.iinc 1 1, 3) := by decide +kernel
theorem dX4_init_31 : decode cX4_init 31 = .ok (.goto (-17), 3) := by decide +kernel
theorem dX4_init_34 : decode cX4_init 34 = .ok (.return_, 1) := by decide +kernel
theorem dX4_writes_0 : decode cX4_writes 0 = .ok (.aload_n 0, 1) := by decide +kernel
theorem dX4_writes_1 : decode cX4_writes 1 = .ok (.getfield 15, 3) := by decide +kernel
theorem dX4_writes_4 : decode cX4_writes 4 = .ok (.ireturn, 1) := by decide +kernel
theorem dX4_erasures_0 : decode cX4_erasures 0 = .ok (.aload_n 0, 1) := by decide +kernel
theorem dX4_erasures_1 : decode cX4_erasures 1 = .ok (.getfield 19, 3) := by decide +kernel
theorem dX4_erasures_4 : decode cX4_erasures 4 = .ok (.ireturn, 1) := by decide +kernel
theorem dX4_copyFrom_0 : decode cX4_copyFrom 0 = .ok (.aload_n 1, 1) := by decide +kernel
theorem dX4_copyFrom_1 : decode cX4_copyFrom 1 = .ok (.getfield 9, 3) := by decide +kernel
theorem dX4_copyFrom_4 : decode cX4_copyFrom 4 = .ok (.iconst 0, 1) := by decide +kernel
theorem dX4_copyFrom_5 : decode cX4_copyFrom 5 = .ok (.aload_n 0, 1) := by decide +kernel
theorem dX4_copyFrom_6 : decode cX4_copyFrom 6 = .ok (.getfield 9, 3) := by decide +kernel
theorem dX4_copyFrom_9 : decode cX4_copyFrom 9 = .ok (.iconst 0, 1) := by decide +kernel
theorem dX4_copyFrom_10 : decode cX4_copyFrom 10 = .ok (.bipush 48, 2) := by decide +kernel
theorem dX4_copyFrom_12 : decode cX4_copyFrom 12 = .ok (.invokestatic 22, 3) := by decide +kernel
theorem dX4_copyFrom_15 : decode cX4_copyFrom 15 = .ok (.aload_n 0, 1) := by decide +kernel
theorem dX4_copyFrom_16 : decode cX4_copyFrom 16 = .ok (.aload_n 1, 1) := by decide +kernel
theorem dX4_copyFrom_17 : decode cX4_copyFrom 17 = .ok (.getfield 15, 3) := by decide +kernel
theorem dX4_copyFrom_20 : decode cX4_copyFrom 20 = .ok (.putfield 15, 3) := by decide +kernel
theorem dX4_copyFrom_23 : decode cX4_copyFrom 23 = .ok (.aload_n 0, 1) := by decide +kernel
theorem dX4_copyFrom_24 : decode cX4_copyFrom 24 = .ok (.aload_n 1, 1) := by decide +kernel
theorem dX4_copyFrom_25 : decode cX4_copyFrom 25 = .ok (.getfield 19, 3) := by decide +kernel
theorem dX4_copyFrom_28 : decode cX4_copyFrom 28 = .ok (.putfield 19, 3) := by decide +kernel
theorem dX4_copyFrom_31 : decode cX4_copyFrom 31 = .ok (.return_, 1) := by decide +kernel
theorem dX4_erase_0 : decode cX4_erase 0 = .ok (.iconst 0, 1) := by decide +kernel
theorem dX4_erase_1 : decode cX4_erase 1 = .ok (.istore_n 1, 1) := by decide +kernel
theorem dX4_erase_2 : decode cX4_erase 2 = .ok (.iload_n 1, 1) := by decide +kernel
theorem dX4_erase_3 : decode cX4_erase 3 = .ok (.bipush 48, 2) := by decide +kernel
theorem dX4_erase_5 : decode cX4_erase 5 = .ok (.if_icmp .ge 17, 3) := by decide +kernel
theorem dX4_erase_8 : decode cX4_erase 8 = .ok (.aload_n 0, 1) := by decide +kernel
theorem dX4_erase_9 : decode cX4_erase 9 = .ok (.getfield 9, 3) := by decide +kernel
theorem dX4_erase_12 : decode cX4_erase 12 = .ok (.iload_n 1, 1) := by decide +kernel
theorem dX4_erase_13 : decode cX4_erase 13 = .ok (.bipush (-6), 2) := by decide +kernel
theorem dX4_erase_15 : decode cX4_erase 15 = .ok (.iastore, 1) := by decide +kernel
theorem dX4_erase_16 : decode cX4_erase 16 = .ok (.iinc 1 1, 3) := by decide +kernel
theorem dX4_erase_19 : decode cX4_erase 19 = .ok (.goto (-17), 3) := by decide +kernel
theorem dX4_erase_22 : decode cX4_erase 22 = .ok (.aload_n 0, 1) := by decide +kernel
theorem dX4_erase_23 : decode cX4_erase 23 = .ok (.dup, 1) := by decide +kernel
theorem dX4_erase_24 : decode cX4_erase 24 = .ok (.getfield 19, 3) := by decide +kernel
theorem dX4_erase_27 : decode cX4_erase 27 = .ok (.iconst 1, 1) := by decide +kernel
theorem dX4_erase_28 : decode cX4_erase 28 = .ok (.iadd, 1) := by decide +kernel
theorem dX4_erase_29 : decode cX4_erase 29 = .ok (.putfield 19, 3) := by decide +kernel
theorem dX4_erase_32 : decode cX4_erase 32 = .ok (.return_, 1) := by decide +kernel
theorem dX4_valueAt_0 : decode cX4_valueAt 0 = .ok (.iload_n 1, 1) := by decide +kernel
theorem dX4_valueAt_1 : decode cX4_valueAt 1 = .ok (.ifCond .lt 18, 3) := by decide +kernel
theorem dX4_valueAt_4 : decode cX4_valueAt 4 = .ok (.iload_n 1, 1) := by decide +kernel
theorem dX4_valueAt_5 : decode cX4_valueAt 5 = .ok (.bipush 48, 2) := by decide +kernel
theorem dX4_valueAt_7 : decode cX4_valueAt 7 = .ok (.if_icmp .ge 12, 3) := by decide +kernel
theorem dX4_valueAt_10 : decode cX4_valueAt 10 = .ok (.aload_n 0, 1) := by decide +kernel
theorem dX4_valueAt_11 : decode cX4_valueAt 11 = .ok (.getfield 9, 3) := by decide +kernel
theorem dX4_valueAt_14 : decode cX4_valueAt 14 = .ok (.iload_n 1, 1) := by decide +kernel
theorem dX4_valueAt_15 : decode cX4_valueAt 15 = .ok (.iaload, 1) := by decide +kernel
theorem dX4_valueAt_16 : decode cX4_valueAt 16 = .ok (.goto 5, 3) := by decide +kernel
theorem dX4_valueAt_19 : decode cX4_valueAt 19 = .ok (.bipush (-6), 2) := by decide +kernel
theorem dX4_valueAt_21 : decode cX4_valueAt 21 = .ok (.ireturn, 1) := by decide +kernel
theorem dX4_replace_0 : decode cX4_replace 0 = .ok (.iload_n 1, 1) := by decide +kernel
theorem dX4_replace_1 : decode cX4_replace 1 = .ok (.ifCond .lt 16, 3) := by decide +kernel
theorem dX4_replace_4 : decode cX4_replace 4 = .ok (.iload_n 1, 1) := by decide +kernel
theorem dX4_replace_5 : decode cX4_replace 5 = .ok (.bipush 48, 2) := by decide +kernel
theorem dX4_replace_7 : decode cX4_replace 7 = .ok (.if_icmp .ge 10, 3) := by decide +kernel
theorem dX4_replace_10 : decode cX4_replace 10 = .ok (.aload_n 0, 1) := by decide +kernel
theorem dX4_replace_11 : decode cX4_replace 11 = .ok (.getfield 9, 3) := by decide +kernel
theorem dX4_replace_14 : decode cX4_replace 14 = .ok (.iload_n 1, 1) := by decide +kernel
theorem dX4_replace_15 : decode cX4_replace 15 = .ok (.iload_n 2, 1) := by decide +kernel
theorem dX4_replace_16 : decode cX4_replace 16 = .ok (.iastore, 1) := by decide +kernel
theorem dX4_replace_17 : decode cX4_replace 17 = .ok (.return_, 1) := by decide +kernel
theorem dX4_countWrite_0 : decode cX4_countWrite 0 = .ok (.aload_n 0, 1) := by decide +kernel
theorem dX4_countWrite_1 : decode cX4_countWrite 1 = .ok (.dup, 1) := by decide +kernel
theorem dX4_countWrite_2 : decode cX4_countWrite 2 = .ok (.getfield 15, 3) := by decide +kernel
theorem dX4_countWrite_5 : decode cX4_countWrite 5 = .ok (.iconst 1, 1) := by decide +kernel
theorem dX4_countWrite_6 : decode cX4_countWrite 6 = .ok (.iadd, 1) := by decide +kernel
theorem dX4_countWrite_7 : decode cX4_countWrite 7 = .ok (.putfield 15, 3) := by decide +kernel
theorem dX4_countWrite_10 : decode cX4_countWrite 10 = .ok (.return_, 1) := by decide +kernel
theorem dX4_countFilledCells_0 : decode cX4_countFilledCells 0 = .ok (.iconst 0, 1) := by decide +kernel
theorem dX4_countFilledCells_1 : decode cX4_countFilledCells 1 = .ok (.istore_n 1, 1) := by decide +kernel
theorem dX4_countFilledCells_2 : decode cX4_countFilledCells 2 = .ok (.iconst 0, 1) := by decide +kernel
theorem dX4_countFilledCells_3 : decode cX4_countFilledCells 3 = .ok (.istore_n 2, 1) := by decide +kernel
theorem dX4_countFilledCells_4 : decode cX4_countFilledCells 4 = .ok (.iload_n 2, 1) := by decide +kernel
theorem dX4_countFilledCells_5 : decode cX4_countFilledCells 5 = .ok (.bipush 48, 2) := by decide +kernel
theorem dX4_countFilledCells_7 : decode cX4_countFilledCells 7 = .ok (.if_icmp .ge 23, 3) := by decide +kernel
theorem dX4_countFilledCells_10 : decode cX4_countFilledCells 10 = .ok (.aload_n 0, 1) := by decide +kernel
theorem dX4_countFilledCells_11 : decode cX4_countFilledCells 11 = .ok (.getfield 9, 3) := by decide +kernel
theorem dX4_countFilledCells_14 : decode cX4_countFilledCells 14 = .ok (.iload_n 2, 1) := by decide +kernel
theorem dX4_countFilledCells_15 : decode cX4_countFilledCells 15 = .ok (.iaload, 1) := by decide +kernel
theorem dX4_countFilledCells_16 : decode cX4_countFilledCells 16 = .ok (.bipush (-6), 2) := by decide +kernel
theorem dX4_countFilledCells_18 : decode cX4_countFilledCells 18 = .ok (.if_icmp .eq 6, 3) := by decide +kernel
theorem dX4_countFilledCells_21 : decode cX4_countFilledCells 21 = .ok (.iinc 1 1, 3) := by decide +kernel
theorem dX4_countFilledCells_24 : decode cX4_countFilledCells 24 = .ok (.iinc 2 1, 3) := by decide +kernel
theorem dX4_countFilledCells_27 : decode cX4_countFilledCells 27 = .ok (.goto (-23), 3) := by decide +kernel
theorem dX4_countFilledCells_30 : decode cX4_countFilledCells 30 = .ok (.iload_n 1, 1) := by decide +kernel
theorem dX4_countFilledCells_31 : decode cX4_countFilledCells 31 = .ok (.ireturn, 1) := by decide +kernel
theorem dX4_version_0 : decode cX4_version 0 = .ok (.aload_n 0, 1) := by decide +kernel
theorem dX4_version_1 : decode cX4_version 1 = .ok (.iconst 0, 1) := by decide +kernel
theorem dX4_version_2 : decode cX4_version 2 = .ok (.invokevirtual 28, 3) := by decide +kernel
theorem dX4_version_5 : decode cX4_version 5 = .ok (.sipush 200, 3) := by decide +kernel
theorem dX4_version_8 : decode cX4_version 8 = .ok (.isub, 1) := by decide +kernel
theorem dX4_version_9 : decode cX4_version 9 = .ok (.ireturn, 1) := by decide +kernel
theorem dX4_sequence_0 : decode cX4_sequence 0 = .ok (.aload_n 0, 1) := by decide +kernel
theorem dX4_sequence_1 : decode cX4_sequence 1 = .ok (.iconst 1, 1) := by decide +kernel
theorem dX4_sequence_2 : decode cX4_sequence 2 = .ok (.invokevirtual 28, 3) := by decide +kernel
theorem dX4_sequence_5 : decode cX4_sequence 5 = .ok (.ireturn, 1) := by decide +kernel
theorem dX4_hasGoodHead_0 : decode cX4_hasGoodHead 0 = .ok (.aload_n 0, 1) := by decide +kernel
theorem dX4_hasGoodHead_1 : decode cX4_hasGoodHead 1 = .ok (.iconst 0, 1) := by decide +kernel
theorem dX4_hasGoodHead_2 : decode cX4_hasGoodHead 2 = .ok (.invokevirtual 32, 3) := by decide +kernel
theorem dX4_hasGoodHead_5 : decode cX4_hasGoodHead 5 = .ok (.ifCond .eq 49, 3) := by decide +kernel
theorem dX4_hasGoodHead_8 : decode cX4_hasGoodHead 8 = .ok (.aload_n 1, 1) := by decide +kernel
theorem dX4_hasGoodHead_9 : decode cX4_hasGoodHead 9 = .ok (.aload_n 0, 1) := by decide +kernel
theorem dX4_hasGoodHead_10 : decode cX4_hasGoodHead 10 = .ok (.invokevirtual 36, 3) := by decide +kernel
theorem dX4_hasGoodHead_13 : decode cX4_hasGoodHead 13 = .ok (.invokevirtual 40, 3) := by decide +kernel
theorem dX4_hasGoodHead_16 : decode cX4_hasGoodHead 16 = .ok (.ifCond .eq 38, 3) := by decide +kernel
theorem dX4_hasGoodHead_19 : decode cX4_hasGoodHead 19 = .ok (.aload_n 0, 1) := by decide +kernel
theorem dX4_hasGoodHead_20 : decode cX4_hasGoodHead 20 = .ok (.invokevirtual 45, 3) := by decide +kernel
theorem dX4_hasGoodHead_23 : decode cX4_hasGoodHead 23 = .ok (.sipush 200, 3) := by decide +kernel
theorem dX4_hasGoodHead_26 : decode cX4_hasGoodHead 26 = .ok (.if_icmp .ge 28, 3) := by decide +kernel
theorem dX4_hasGoodHead_29 : decode cX4_hasGoodHead 29 = .ok (.aload_n 0, 1) := by decide +kernel
theorem dX4_hasGoodHead_30 : decode cX4_hasGoodHead 30 = .ok (.iconst 2, 1) := by decide +kernel
theorem dX4_hasGoodHead_31 : decode cX4_hasGoodHead 31 = .ok (.invokevirtual 28, 3) := by decide +kernel
theorem dX4_hasGoodHead_34 : decode cX4_hasGoodHead 34 = .ok (.aload_n 0, 1) := by decide +kernel
theorem dX4_hasGoodHead_35 : decode cX4_hasGoodHead 35 = .ok (.iconst 0, 1) := by decide +kernel
theorem dX4_hasGoodHead_36 : decode cX4_hasGoodHead 36 = .ok (.invokevirtual 28, 3) := by decide +kernel
theorem dX4_hasGoodHead_39 : decode cX4_hasGoodHead 39 = .ok (.aload_n 0, 1) := by decide +kernel
theorem dX4_hasGoodHead_40 : decode cX4_hasGoodHead 40 = .ok (.iconst 1, 1) := by decide +kernel
theorem dX4_hasGoodHead_41 : decode cX4_hasGoodHead 41 = .ok (.invokevirtual 28, 3) := by decide +kernel
theorem dX4_hasGoodHead_44 : decode cX4_hasGoodHead 44 = .ok (.invokestatic 48, 3) := by decide +kernel
theorem dX4_hasGoodHead_47 : decode cX4_hasGoodHead 47 = .ok (.if_icmp .ne 7, 3) := by decide +kernel
theorem dX4_hasGoodHead_50 : decode cX4_hasGoodHead 50 = .ok (.iconst 1, 1) := by decide +kernel
theorem dX4_hasGoodHead_51 : decode cX4_hasGoodHead 51 = .ok (.goto 4, 3) := by decide +kernel
theorem dX4_hasGoodHead_54 : decode cX4_hasGoodHead 54 = .ok (.iconst 0, 1) := by decide +kernel
theorem dX4_hasGoodHead_55 : decode cX4_hasGoodHead 55 = .ok (.ireturn, 1) := by decide +kernel
theorem dX4_hasRecordAt_0 : decode cX4_hasRecordAt 0 = .ok (.iload_n 1, 1) := by decide +kernel
theorem dX4_hasRecordAt_1 : decode cX4_hasRecordAt 1 = .ok (.iconst 3, 1) := by decide +kernel
theorem dX4_hasRecordAt_2 : decode cX4_hasRecordAt 2 = .ok (.if_icmp .lt 26, 3) := by decide +kernel
theorem dX4_hasRecordAt_5 : decode cX4_hasRecordAt 5 = .ok (.iload_n 1, 1) := by decide +kernel
theorem dX4_hasRecordAt_6 : decode cX4_hasRecordAt 6 = .ok (.iconst 3, 1) := by decide +kernel
theorem dX4_hasRecordAt_7 : decode cX4_hasRecordAt 7 = .ok (.iadd, 1) := by decide +kernel
theorem dX4_hasRecordAt_8 : decode cX4_hasRecordAt 8 = .ok (.bipush 48, 2) := by decide +kernel
theorem dX4_hasRecordAt_10 : decode cX4_hasRecordAt 10 = .ok (.if_icmp .gt 18, 3) := by decide +kernel
theorem dX4_hasRecordAt_13 : decode cX4_hasRecordAt 13 = .ok (.aload_n 0, 1) := by decide +kernel
theorem dX4_hasRecordAt_14 : decode cX4_hasRecordAt 14 = .ok (.getfield 9, 3) := by decide +kernel
theorem dX4_hasRecordAt_17 : decode cX4_hasRecordAt 17 = .ok (.iload_n 1, 1) := by decide +kernel
theorem dX4_hasRecordAt_18 : decode cX4_hasRecordAt 18 = .ok (.iaload, 1) := by decide +kernel
theorem dX4_hasRecordAt_19 : decode cX4_hasRecordAt 19 = .ok (.bipush (-6), 2) := by decide +kernel
theorem dX4_hasRecordAt_21 : decode cX4_hasRecordAt 21 = .ok (.if_icmp .eq 7, 3) := by decide +kernel
theorem dX4_hasRecordAt_24 : decode cX4_hasRecordAt 24 = .ok (.iconst 1, 1) := by decide +kernel
theorem dX4_hasRecordAt_25 : decode cX4_hasRecordAt 25 = .ok (.goto 4, 3) := by decide +kernel
theorem dX4_hasRecordAt_28 : decode cX4_hasRecordAt 28 = .ok (.iconst 0, 1) := by decide +kernel
theorem dX4_hasRecordAt_29 : decode cX4_hasRecordAt 29 = .ok (.ireturn, 1) := by decide +kernel
theorem dX4_hasGoodRecordAt_0 : decode cX4_hasGoodRecordAt 0 = .ok (.aload_n 0, 1) := by decide +kernel
theorem dX4_hasGoodRecordAt_1 : decode cX4_hasGoodRecordAt 1 = .ok (.iload_n 1, 1) := by decide +kernel
theorem dX4_hasGoodRecordAt_2 : decode cX4_hasGoodRecordAt 2 = .ok (.invokevirtual 32, 3) := by decide +kernel
theorem dX4_hasGoodRecordAt_5 : decode cX4_hasGoodRecordAt 5 = .ok (.ifCond .eq 52, 3) := by decide +kernel
theorem dX4_hasGoodRecordAt_8 : decode cX4_hasGoodRecordAt 8 = .ok (.aload_n 2, 1) := by decide +kernel
theorem dX4_hasGoodRecordAt_9 : decode cX4_hasGoodRecordAt 9 = .ok (.aload_n 0, 1) := by decide +kernel
theorem dX4_hasGoodRecordAt_10 : decode cX4_hasGoodRecordAt 10 = .ok (.iload_n 1, 1) := by decide +kernel
theorem dX4_hasGoodRecordAt_11 : decode cX4_hasGoodRecordAt 11 = .ok (.invokevirtual 52, 3) := by decide +kernel
theorem dX4_hasGoodRecordAt_14 : decode cX4_hasGoodRecordAt 14 = .ok (.aload_n 0, 1) := by decide +kernel
theorem dX4_hasGoodRecordAt_15 : decode cX4_hasGoodRecordAt 15 = .ok (.iload_n 1, 1) := by decide +kernel
theorem dX4_hasGoodRecordAt_16 : decode cX4_hasGoodRecordAt 16 = .ok (.iconst 1, 1) := by decide +kernel
theorem dX4_hasGoodRecordAt_17 : decode cX4_hasGoodRecordAt 17 = .ok (.iadd, 1) := by decide +kernel
theorem dX4_hasGoodRecordAt_18 : decode cX4_hasGoodRecordAt 18 = .ok (.invokevirtual 28, 3) := by decide +kernel
theorem dX4_hasGoodRecordAt_21 : decode cX4_hasGoodRecordAt 21 = .ok (.invokevirtual 55, 3) := by decide +kernel
theorem dX4_hasGoodRecordAt_24 : decode cX4_hasGoodRecordAt 24 = .ok (.ifCond .eq 33, 3) := by decide +kernel
theorem dX4_hasGoodRecordAt_27 : decode cX4_hasGoodRecordAt 27 = .ok (.aload_n 0, 1) := by decide +kernel
theorem dX4_hasGoodRecordAt_28 : decode cX4_hasGoodRecordAt 28 = .ok (.iload_n 1, 1) := by decide +kernel
theorem dX4_hasGoodRecordAt_29 : decode cX4_hasGoodRecordAt 29 = .ok (.iconst 2, 1) := by decide +kernel
theorem dX4_hasGoodRecordAt_30 : decode cX4_hasGoodRecordAt 30 = .ok (.iadd, 1) := by decide +kernel
theorem dX4_hasGoodRecordAt_31 : decode cX4_hasGoodRecordAt 31 = .ok (.invokevirtual 28, 3) := by decide +kernel
theorem dX4_hasGoodRecordAt_34 : decode cX4_hasGoodRecordAt 34 = .ok (.aload_n 0, 1) := by decide +kernel
theorem dX4_hasGoodRecordAt_35 : decode cX4_hasGoodRecordAt 35 = .ok (.iload_n 1, 1) := by decide +kernel
theorem dX4_hasGoodRecordAt_36 : decode cX4_hasGoodRecordAt 36 = .ok (.invokevirtual 28, 3) := by decide +kernel
theorem dX4_hasGoodRecordAt_39 : decode cX4_hasGoodRecordAt 39 = .ok (.aload_n 0, 1) := by decide +kernel
theorem dX4_hasGoodRecordAt_40 : decode cX4_hasGoodRecordAt 40 = .ok (.iload_n 1, 1) := by decide +kernel
theorem dX4_hasGoodRecordAt_41 : decode cX4_hasGoodRecordAt 41 = .ok (.iconst 1, 1) := by decide +kernel
theorem dX4_hasGoodRecordAt_42 : decode cX4_hasGoodRecordAt 42 = .ok (.iadd, 1) := by decide +kernel
theorem dX4_hasGoodRecordAt_43 : decode cX4_hasGoodRecordAt 43 = .ok (.invokevirtual 28, 3) := by decide +kernel
theorem dX4_hasGoodRecordAt_46 : decode cX4_hasGoodRecordAt 46 = .ok (.iload_n 3, 1) := by decide +kernel
theorem dX4_hasGoodRecordAt_47 : decode cX4_hasGoodRecordAt 47 = .ok (.invokestatic 61, 3) := by decide +kernel
theorem dX4_hasGoodRecordAt_50 : decode cX4_hasGoodRecordAt 50 = .ok (.if_icmp .ne 7, 3) := by decide +kernel
theorem dX4_hasGoodRecordAt_53 : decode cX4_hasGoodRecordAt 53 = .ok (.iconst 1, 1) := by decide +kernel
theorem dX4_hasGoodRecordAt_54 : decode cX4_hasGoodRecordAt 54 = .ok (.goto 4, 3) := by decide +kernel
theorem dX4_hasGoodRecordAt_57 : decode cX4_hasGoodRecordAt 57 = .ok (.iconst 0, 1) := by decide +kernel
theorem dX4_hasGoodRecordAt_58 : decode cX4_hasGoodRecordAt 58 = .ok (.ireturn, 1) := by decide +kernel
theorem dX4_nameAt_0 : decode cX4_nameAt 0 = .ok (.aload_n 0, 1) := by decide +kernel
theorem dX4_nameAt_1 : decode cX4_nameAt 1 = .ok (.iload_n 1, 1) := by decide +kernel
theorem dX4_nameAt_2 : decode cX4_nameAt 2 = .ok (.invokevirtual 28, 3) := by decide +kernel
theorem dX4_nameAt_5 : decode cX4_nameAt 5 = .ok (.iconst 1, 1) := by decide +kernel
theorem dX4_nameAt_6 : decode cX4_nameAt 6 = .ok (.isub, 1) := by decide +kernel
theorem dX4_nameAt_7 : decode cX4_nameAt 7 = .ok (.ireturn, 1) := by decide +kernel
theorem dX4_countRecords_0 : decode cX4_countRecords 0 = .ok (.aload_n 0, 1) := by decide +kernel
theorem dX4_countRecords_1 : decode cX4_countRecords 1 = .ok (.aload_n 1, 1) := by decide +kernel
theorem dX4_countRecords_2 : decode cX4_countRecords 2 = .ok (.invokevirtual 65, 3) := by decide +kernel
theorem dX4_countRecords_5 : decode cX4_countRecords 5 = .ok (.ifCond .ne 5, 3) := by decide +kernel
theorem dX4_countRecords_8 : decode cX4_countRecords 8 = .ok (.iconst 0, 1) := by decide +kernel
theorem dX4_countRecords_9 : decode cX4_countRecords 9 = .ok (.ireturn, 1) := by decide +kernel
theorem dX4_countRecords_10 : decode cX4_countRecords 10 = .ok (.aload_n 1, 1) := by decide +kernel
theorem dX4_countRecords_11 : decode cX4_countRecords 11 = .ok (.aload_n 0, 1) := by decide +kernel
theorem dX4_countRecords_12 : decode cX4_countRecords 12 = .ok (.invokevirtual 36, 3) := by decide +kernel
theorem dX4_countRecords_15 : decode cX4_countRecords 15 = .ok (.invokevirtual 69, 3) := by decide +kernel
theorem dX4_countRecords_18 : decode cX4_countRecords 18 = .ok (.astore_n 3, 1) := by decide +kernel
theorem dX4_countRecords_19 : decode cX4_countRecords 19 = .ok (.iconst 0, 1) := by decide +kernel
theorem dX4_countRecords_20 : decode cX4_countRecords 20 = .ok (.istore 4, 2) := by decide +kernel
theorem dX4_countRecords_22 : decode cX4_countRecords 22 = .ok (.iconst 3, 1) := by decide +kernel
theorem dX4_countRecords_23 : decode cX4_countRecords 23 = .ok (.istore 5, 2) := by decide +kernel
theorem dX4_countRecords_25 : decode cX4_countRecords 25 = .ok (.iload 5, 2) := by decide +kernel
theorem dX4_countRecords_27 : decode cX4_countRecords 27 = .ok (.bipush 48, 2) := by decide +kernel
theorem dX4_countRecords_29 : decode cX4_countRecords 29 = .ok (.if_icmp .ge 36, 3) := by decide +kernel
theorem dX4_countRecords_32 : decode cX4_countRecords 32 = .ok (.aload_n 0, 1) := by decide +kernel
theorem dX4_countRecords_33 : decode cX4_countRecords 33 = .ok (.iload 5, 2) := by decide +kernel
theorem dX4_countRecords_35 : decode cX4_countRecords 35 = .ok (.invokevirtual 73, 3) := by decide +kernel
theorem dX4_countRecords_38 : decode cX4_countRecords 38 = .ok (.ifCond .eq 27, 3) := by decide +kernel
theorem dX4_countRecords_41 : decode cX4_countRecords 41 = .ok (.aload_n 0, 1) := by decide +kernel
theorem dX4_countRecords_42 : decode cX4_countRecords 42 = .ok (.iload 5, 2) := by decide +kernel
theorem dX4_countRecords_44 : decode cX4_countRecords 44 = .ok (.aload_n 3, 1) := by decide +kernel
theorem dX4_countRecords_45 : decode cX4_countRecords 45 = .ok (.aload_n 0, 1) := by decide +kernel
theorem dX4_countRecords_46 : decode cX4_countRecords 46 = .ok (.invokevirtual 36, 3) := by decide +kernel
theorem dX4_countRecords_49 : decode cX4_countRecords 49 = .ok (.invokevirtual 76, 3) := by decide +kernel
theorem dX4_countRecords_52 : decode cX4_countRecords 52 = .ok (.iload_n 2, 1) := by decide +kernel
theorem dX4_countRecords_53 : decode cX4_countRecords 53 = .ok (.if_icmp .ne 6, 3) := by decide +kernel
theorem dX4_countRecords_56 : decode cX4_countRecords 56 = .ok (.iinc 4 1, 3) := by decide +kernel
theorem dX4_countRecords_59 : decode cX4_countRecords 59 = .ok (.iinc 5 3, 3) := by decide +kernel
theorem dX4_countRecords_62 : decode cX4_countRecords 62 = .ok (.goto (-37), 3) := by decide +kernel
theorem dX4_countRecords_65 : decode cX4_countRecords 65 = .ok (.iload 4, 2) := by decide +kernel
theorem dX4_countRecords_67 : decode cX4_countRecords 67 = .ok (.ireturn, 1) := by decide +kernel
theorem dX4_hasThreeAt_0 : decode cX4_hasThreeAt 0 = .ok (.aload_n 0, 1) := by decide +kernel
theorem dX4_hasThreeAt_1 : decode cX4_hasThreeAt 1 = .ok (.iload_n 1, 1) := by decide +kernel
theorem dX4_hasThreeAt_2 : decode cX4_hasThreeAt 2 = .ok (.invokevirtual 28, 3) := by decide +kernel
theorem dX4_hasThreeAt_5 : decode cX4_hasThreeAt 5 = .ok (.bipush (-6), 2) := by decide +kernel
theorem dX4_hasThreeAt_7 : decode cX4_hasThreeAt 7 = .ok (.if_icmp .eq 31, 3) := by decide +kernel
theorem dX4_hasThreeAt_10 : decode cX4_hasThreeAt 10 = .ok (.aload_n 0, 1) := by decide +kernel
theorem dX4_hasThreeAt_11 : decode cX4_hasThreeAt 11 = .ok (.iload_n 1, 1) := by decide +kernel
theorem dX4_hasThreeAt_12 : decode cX4_hasThreeAt 12 = .ok (.iconst 1, 1) := by decide +kernel
theorem dX4_hasThreeAt_13 : decode cX4_hasThreeAt 13 = .ok (.iadd, 1) := by decide +kernel
theorem dX4_hasThreeAt_14 : decode cX4_hasThreeAt 14 = .ok (.invokevirtual 28, 3) := by decide +kernel
theorem dX4_hasThreeAt_17 : decode cX4_hasThreeAt 17 = .ok (.bipush (-6), 2) := by decide +kernel
theorem dX4_hasThreeAt_19 : decode cX4_hasThreeAt 19 = .ok (.if_icmp .eq 19, 3) := by decide +kernel
theorem dX4_hasThreeAt_22 : decode cX4_hasThreeAt 22 = .ok (.aload_n 0, 1) := by decide +kernel
theorem dX4_hasThreeAt_23 : decode cX4_hasThreeAt 23 = .ok (.iload_n 1, 1) := by decide +kernel
theorem dX4_hasThreeAt_24 : decode cX4_hasThreeAt 24 = .ok (.iconst 2, 1) := by decide +kernel
theorem dX4_hasThreeAt_25 : decode cX4_hasThreeAt 25 = .ok (.iadd, 1) := by decide +kernel
theorem dX4_hasThreeAt_26 : decode cX4_hasThreeAt 26 = .ok (.invokevirtual 28, 3) := by decide +kernel
theorem dX4_hasThreeAt_29 : decode cX4_hasThreeAt 29 = .ok (.bipush (-6), 2) := by decide +kernel
theorem dX4_hasThreeAt_31 : decode cX4_hasThreeAt 31 = .ok (.if_icmp .eq 7, 3) := by decide +kernel
theorem dX4_hasThreeAt_34 : decode cX4_hasThreeAt 34 = .ok (.iconst 1, 1) := by decide +kernel
theorem dX4_hasThreeAt_35 : decode cX4_hasThreeAt 35 = .ok (.goto 4, 3) := by decide +kernel
theorem dX4_hasThreeAt_38 : decode cX4_hasThreeAt 38 = .ok (.iconst 0, 1) := by decide +kernel
theorem dX4_hasThreeAt_39 : decode cX4_hasThreeAt 39 = .ok (.ireturn, 1) := by decide +kernel
theorem dX4_headCheck_0 : decode cX4_headCheck 0 = .ok (.iconst 3, 1) := by decide +kernel
theorem dX4_headCheck_1 : decode cX4_headCheck 1 = .ok (.iload_n 0, 1) := by decide +kernel
theorem dX4_headCheck_2 : decode cX4_headCheck 2 = .ok (.imul, 1) := by decide +kernel
theorem dX4_headCheck_3 : decode cX4_headCheck 3 = .ok (.iconst 5, 1) := by decide +kernel
theorem dX4_headCheck_4 : decode cX4_headCheck 4 = .ok (.iload_n 1, 1) := by decide +kernel
theorem dX4_headCheck_5 : decode cX4_headCheck 5 = .ok (.imul, 1) := by decide +kernel
theorem dX4_headCheck_6 : decode cX4_headCheck 6 = .ok (.iadd, 1) := by decide +kernel
theorem dX4_headCheck_7 : decode cX4_headCheck 7 = .ok (.iconst 1, 1) := by decide +kernel
theorem dX4_headCheck_8 : decode cX4_headCheck 8 = .ok (.iadd, 1) := by decide +kernel
theorem dX4_headCheck_9 : decode cX4_headCheck 9 = .ok (.sipush 251, 3) := by decide +kernel
theorem dX4_headCheck_12 : decode cX4_headCheck 12 = .ok (.irem, 1) := by decide +kernel
theorem dX4_headCheck_13 : decode cX4_headCheck 13 = .ok (.ireturn, 1) := by decide +kernel
theorem dX4_recordCheck_0 : decode cX4_recordCheck 0 = .ok (.bipush 7, 2) := by decide +kernel
theorem dX4_recordCheck_2 : decode cX4_recordCheck 2 = .ok (.iload_n 0, 1) := by decide +kernel
theorem dX4_recordCheck_3 : decode cX4_recordCheck 3 = .ok (.imul, 1) := by decide +kernel
theorem dX4_recordCheck_4 : decode cX4_recordCheck 4 = .ok (.bipush 11, 2) := by decide +kernel
theorem dX4_recordCheck_6 : decode cX4_recordCheck 6 = .ok (.iload_n 1, 1) := by decide +kernel
theorem dX4_recordCheck_7 : decode cX4_recordCheck 7 = .ok (.imul, 1) := by decide +kernel
theorem dX4_recordCheck_8 : decode cX4_recordCheck 8 = .ok (.iadd, 1) := by decide +kernel
theorem dX4_recordCheck_9 : decode cX4_recordCheck 9 = .ok (.bipush 13, 2) := by decide +kernel
theorem dX4_recordCheck_11 : decode cX4_recordCheck 11 = .ok (.iload_n 2, 1) := by decide +kernel
theorem dX4_recordCheck_12 : decode cX4_recordCheck 12 = .ok (.imul, 1) := by decide +kernel
theorem dX4_recordCheck_13 : decode cX4_recordCheck 13 = .ok (.iadd, 1) := by decide +kernel
theorem dX4_recordCheck_14 : decode cX4_recordCheck 14 = .ok (.iconst 5, 1) := by decide +kernel
theorem dX4_recordCheck_15 : decode cX4_recordCheck 15 = .ok (.iadd, 1) := by decide +kernel
theorem dX4_recordCheck_16 : decode cX4_recordCheck 16 = .ok (.sipush 251, 3) := by decide +kernel
theorem dX4_recordCheck_19 : decode cX4_recordCheck 19 = .ok (.irem, 1) := by decide +kernel
theorem dX4_recordCheck_20 : decode cX4_recordCheck 20 = .ok (.ireturn, 1) := by decide +kernel
theorem dX5_init_0 : decode cX5_init 0 = .ok (.aload_n 0, 1) := by decide +kernel
theorem dX5_init_1 : decode cX5_init 1 = .ok (.invokespecial 3, 3) := by decide +kernel
theorem dX5_init_4 : decode cX5_init 4 = .ok (.aload_n 0, 1) := by decide +kernel
theorem dX5_init_5 : decode cX5_init 5 = .ok (.bipush 27, 2) := by decide +kernel
theorem dX5_init_7 : decode cX5_init 7 = .ok (.newarray .int, 2) := by decide +kernel
theorem dX5_init_9 : decode cX5_init 9 = .ok (.putfield 9, 3) := by decide +kernel
theorem dX5_init_12 : decode cX5_init 12 = .ok (.aload_n 0, 1) := by decide +kernel
theorem dX5_init_13 : decode cX5_init 13 = .ok (.bipush 27, 2) := by decide +kernel
theorem dX5_init_15 : decode cX5_init 15 = .ok (.newarray .int, 2) := by decide +kernel
theorem dX5_init_17 : decode cX5_init 17 = .ok (.putfield 15, 3) := by decide +kernel
theorem dX5_init_20 : decode cX5_init 20 = .ok (.aload_n 0, 1) := by decide +kernel
theorem dX5_init_21 : decode cX5_init 21 = .ok (.bipush 27, 2) := by decide +kernel
theorem dX5_init_23 : decode cX5_init 23 = .ok (.newarray .int, 2) := by decide +kernel
theorem dX5_init_25 : decode cX5_init 25 = .ok (.putfield 18, 3) := by decide +kernel
theorem dX5_init_28 : decode cX5_init 28 = .ok (.aload_n 0, 1) := by decide +kernel
theorem dX5_init_29 : decode cX5_init 29 = .ok (.bipush 27, 2) := by decide +kernel
theorem dX5_init_31 : decode cX5_init 31 = .ok (.newarray .int, 2) := by decide +kernel
theorem dX5_init_33 : decode cX5_init 33 = .ok (.putfield 21, 3) := by decide +kernel
theorem dX5_init_36 : decode cX5_init 36 = .ok (.return_, 1) := by decide +kernel
theorem dX5_clear_0 : decode cX5_clear 0 = .ok (.aload_n 0, 1) := by decide +kernel
theorem dX5_clear_1 : decode cX5_clear 1 = .ok (.iconst 0, 1) := by decide +kernel
theorem dX5_clear_2 : decode cX5_clear 2 = .ok (.putfield 24, 3) := by decide +kernel
theorem dX5_clear_5 : decode cX5_clear 5 = .ok (.return_, 1) := by decide +kernel
theorem dX5_append_0 : decode cX5_append 0 = .ok (.aload_n 0, 1) := by decide +kernel
theorem dX5_append_1 : decode cX5_append 1 = .ok (.getfield 24, 3) := by decide +kernel
theorem dX5_append_4 : decode cX5_append 4 = .ok (.bipush 27, 2) := by decide +kernel
theorem dX5_append_6 : decode cX5_append 6 = .ok (.if_icmp .lt 4, 3) := by decide +kernel
theorem dX5_append_9 : decode cX5_append 9 = .ok (.return_, 1) := by decide +kernel
theorem dX5_append_10 : decode cX5_append 10 = .ok (.aload_n 0, 1) := by decide +kernel
theorem dX5_append_11 : decode cX5_append 11 = .ok (.getfield 9, 3) := by decide +kernel
theorem dX5_append_14 : decode cX5_append 14 = .ok (.aload_n 0, 1) := by decide +kernel
theorem dX5_append_15 : decode cX5_append 15 = .ok (.getfield 24, 3) := by decide +kernel
theorem dX5_append_18 : decode cX5_append 18 = .ok (.iload_n 1, 1) := by decide +kernel
theorem dX5_append_19 : decode cX5_append 19 = .ok (.iastore, 1) := by decide +kernel
theorem dX5_append_20 : decode cX5_append 20 = .ok (.aload_n 0, 1) := by decide +kernel
theorem dX5_append_21 : decode cX5_append 21 = .ok (.getfield 15, 3) := by decide +kernel
theorem dX5_append_24 : decode cX5_append 24 = .ok (.aload_n 0, 1) := by decide +kernel
theorem dX5_append_25 : decode cX5_append 25 = .ok (.getfield 24, 3) := by decide +kernel
theorem dX5_append_28 : decode cX5_append 28 = .ok (.iload_n 2, 1) := by decide +kernel
theorem dX5_append_29 : decode cX5_append 29 = .ok (.iastore, 1) := by decide +kernel
theorem dX5_append_30 : decode cX5_append 30 = .ok (.aload_n 0, 1) := by decide +kernel
theorem dX5_append_31 : decode cX5_append 31 = .ok (.getfield 18, 3) := by decide +kernel
theorem dX5_append_34 : decode cX5_append 34 = .ok (.aload_n 0, 1) := by decide +kernel
theorem dX5_append_35 : decode cX5_append 35 = .ok (.getfield 24, 3) := by decide +kernel
theorem dX5_append_38 : decode cX5_append 38 = .ok (.iload_n 3, 1) := by decide +kernel
theorem dX5_append_39 : decode cX5_append 39 = .ok (.iastore, 1) := by decide +kernel
theorem dX5_append_40 : decode cX5_append 40 = .ok (.aload_n 0, 1) := by decide +kernel
theorem dX5_append_41 : decode cX5_append 41 = .ok (.getfield 21, 3) := by decide +kernel
theorem dX5_append_44 : decode cX5_append 44 = .ok (.aload_n 0, 1) := by decide +kernel
theorem dX5_append_45 : decode cX5_append 45 = .ok (.getfield 24, 3) := by decide +kernel
theorem dX5_append_48 : decode cX5_append 48 = .ok (.iload 4, 2) := by decide +kernel
theorem dX5_append_50 : decode cX5_append 50 = .ok (.iastore, 1) := by decide +kernel
theorem dX5_append_51 : decode cX5_append 51 = .ok (.aload_n 0, 1) := by decide +kernel
theorem dX5_append_52 : decode cX5_append 52 = .ok (.dup, 1) := by decide +kernel
theorem dX5_append_53 : decode cX5_append 53 = .ok (.getfield 24, 3) := by decide +kernel
theorem dX5_append_56 : decode cX5_append 56 = .ok (.iconst 1, 1) := by decide +kernel
theorem dX5_append_57 : decode cX5_append 57 = .ok (.iadd, 1) := by decide +kernel
theorem dX5_append_58 : decode cX5_append 58 = .ok (.putfield 24, 3) := by decide +kernel
theorem dX5_append_61 : decode cX5_append 61 = .ok (.return_, 1) := by decide +kernel
theorem dX5_copyFrom_0 : decode cX5_copyFrom 0 = .ok (.aload_n 1, 1) := by decide +kernel
theorem dX5_copyFrom_1 : decode cX5_copyFrom 1 = .ok (.getfield 9, 3) := by decide +kernel
theorem dX5_copyFrom_4 : decode cX5_copyFrom 4 = .ok (.iconst 0, 1) := by decide +kernel
theorem dX5_copyFrom_5 : decode cX5_copyFrom 5 = .ok (.aload_n 0, 1) := by decide +kernel
theorem dX5_copyFrom_6 : decode cX5_copyFrom 6 = .ok (.getfield 9, 3) := by decide +kernel
theorem dX5_copyFrom_9 : decode cX5_copyFrom 9 = .ok (.iconst 0, 1) := by decide +kernel
theorem dX5_copyFrom_10 : decode cX5_copyFrom 10 = .ok (.bipush 27, 2) := by decide +kernel
theorem dX5_copyFrom_12 : decode cX5_copyFrom 12 = .ok (.invokestatic 28, 3) := by decide +kernel
theorem dX5_copyFrom_15 : decode cX5_copyFrom 15 = .ok (.aload_n 1, 1) := by decide +kernel
theorem dX5_copyFrom_16 : decode cX5_copyFrom 16 = .ok (.getfield 15, 3) := by decide +kernel
theorem dX5_copyFrom_19 : decode cX5_copyFrom 19 = .ok (.iconst 0, 1) := by decide +kernel
theorem dX5_copyFrom_20 : decode cX5_copyFrom 20 = .ok (.aload_n 0, 1) := by decide +kernel
theorem dX5_copyFrom_21 : decode cX5_copyFrom 21 = .ok (.getfield 15, 3) := by decide +kernel
theorem dX5_copyFrom_24 : decode cX5_copyFrom 24 = .ok (.iconst 0, 1) := by decide +kernel
theorem dX5_copyFrom_25 : decode cX5_copyFrom 25 = .ok (.bipush 27, 2) := by decide +kernel
theorem dX5_copyFrom_27 : decode cX5_copyFrom 27 = .ok (.invokestatic 28, 3) := by decide +kernel
theorem dX5_copyFrom_30 : decode cX5_copyFrom 30 = .ok (.aload_n 1, 1) := by decide +kernel
theorem dX5_copyFrom_31 : decode cX5_copyFrom 31 = .ok (.getfield 18, 3) := by decide +kernel
theorem dX5_copyFrom_34 : decode cX5_copyFrom 34 = .ok (.iconst 0, 1) := by decide +kernel
theorem dX5_copyFrom_35 : decode cX5_copyFrom 35 = .ok (.aload_n 0, 1) := by decide +kernel
theorem dX5_copyFrom_36 : decode cX5_copyFrom 36 = .ok (.getfield 18, 3) := by decide +kernel
theorem dX5_copyFrom_39 : decode cX5_copyFrom 39 = .ok (.iconst 0, 1) := by decide +kernel
theorem dX5_copyFrom_40 : decode cX5_copyFrom 40 = .ok (.bipush 27, 2) := by decide +kernel
theorem dX5_copyFrom_42 : decode cX5_copyFrom 42 = .ok (.invokestatic 28, 3) := by decide +kernel
theorem dX5_copyFrom_45 : decode cX5_copyFrom 45 = .ok (.aload_n 1, 1) := by decide +kernel
theorem dX5_copyFrom_46 : decode cX5_copyFrom 46 = .ok (.getfield 21, 3) := by decide +kernel
theorem dX5_copyFrom_49 : decode cX5_copyFrom 49 = .ok (.iconst 0, 1) := by decide +kernel
theorem dX5_copyFrom_50 : decode cX5_copyFrom 50 = .ok (.aload_n 0, 1) := by decide +kernel
theorem dX5_copyFrom_51 : decode cX5_copyFrom 51 = .ok (.getfield 21, 3) := by decide +kernel
theorem dX5_copyFrom_54 : decode cX5_copyFrom 54 = .ok (.iconst 0, 1) := by decide +kernel
theorem dX5_copyFrom_55 : decode cX5_copyFrom 55 = .ok (.bipush 27, 2) := by decide +kernel
theorem dX5_copyFrom_57 : decode cX5_copyFrom 57 = .ok (.invokestatic 28, 3) := by decide +kernel
theorem dX5_copyFrom_60 : decode cX5_copyFrom 60 = .ok (.aload_n 0, 1) := by decide +kernel
theorem dX5_copyFrom_61 : decode cX5_copyFrom 61 = .ok (.aload_n 1, 1) := by decide +kernel
theorem dX5_copyFrom_62 : decode cX5_copyFrom 62 = .ok (.getfield 24, 3) := by decide +kernel
theorem dX5_copyFrom_65 : decode cX5_copyFrom 65 = .ok (.putfield 24, 3) := by decide +kernel
theorem dX5_copyFrom_68 : decode cX5_copyFrom 68 = .ok (.return_, 1) := by decide +kernel
theorem dX5_applyTo_0 : decode cX5_applyTo 0 = .ok (.iconst 0, 1) := by decide +kernel
theorem dX5_applyTo_1 : decode cX5_applyTo 1 = .ok (.istore_n 2, 1) := by decide +kernel
theorem dX5_applyTo_2 : decode cX5_applyTo 2 = .ok (.iload_n 2, 1) := by decide +kernel
theorem dX5_applyTo_3 : decode cX5_applyTo 3 = .ok (.aload_n 0, 1) := by decide +kernel
theorem dX5_applyTo_4 : decode cX5_applyTo 4 = .ok (.getfield 24, 3) := by decide +kernel
theorem dX5_applyTo_7 : decode cX5_applyTo 7 = .ok (.if_icmp .ge 48, 3) := by decide +kernel
theorem dX5_applyTo_10 : decode cX5_applyTo 10 = .ok (.iload_n 2, 1) := by decide +kernel
theorem dX5_applyTo_11 : decode cX5_applyTo 11 = .ok (.bipush 27, 2) := by decide +kernel
theorem dX5_applyTo_13 : decode cX5_applyTo 13 = .ok (.if_icmp .ge 42, 3) := by decide +kernel
theorem dX5_applyTo_16 : decode cX5_applyTo 16 = .ok (.aload_n 1, 1) := by decide +kernel
theorem dX5_applyTo_17 : decode cX5_applyTo 17 = .ok (.aload_n 0, 1) := by decide +kernel
theorem dX5_applyTo_18 : decode cX5_applyTo 18 = .ok (.getfield 9, 3) := by decide +kernel
theorem dX5_applyTo_21 : decode cX5_applyTo 21 = .ok (.iload_n 2, 1) := by decide +kernel
theorem dX5_applyTo_22 : decode cX5_applyTo 22 = .ok (.iaload, 1) := by decide +kernel
theorem dX5_applyTo_23 : decode cX5_applyTo 23 = .ok (.aload_n 0, 1) := by decide +kernel
theorem dX5_applyTo_24 : decode cX5_applyTo 24 = .ok (.getfield 15, 3) := by decide +kernel
theorem dX5_applyTo_27 : decode cX5_applyTo 27 = .ok (.iload_n 2, 1) := by decide +kernel
theorem dX5_applyTo_28 : decode cX5_applyTo 28 = .ok (.iaload, 1) := by decide +kernel
theorem dX5_applyTo_29 : decode cX5_applyTo 29 = .ok (.aload_n 0, 1) := by decide +kernel
theorem dX5_applyTo_30 : decode cX5_applyTo 30 = .ok (.getfield 18, 3) := by decide +kernel
theorem dX5_applyTo_33 : decode cX5_applyTo 33 = .ok (.iload_n 2, 1) := by decide +kernel
theorem dX5_applyTo_34 : decode cX5_applyTo 34 = .ok (.iaload, 1) := by decide +kernel
theorem dX5_applyTo_35 : decode cX5_applyTo 35 = .ok (.aload_n 0, 1) := by decide +kernel
theorem dX5_applyTo_36 : decode cX5_applyTo 36 = .ok (.getfield 21, 3) := by decide +kernel
theorem dX5_applyTo_39 : decode cX5_applyTo 39 = .ok (.iload_n 2, 1) := by decide +kernel
theorem dX5_applyTo_40 : decode cX5_applyTo 40 = .ok (.iaload, 1) := by decide +kernel
theorem dX5_applyTo_41 : decode cX5_applyTo 41 = .ok (.invokestatic 34, 3) := by decide +kernel
theorem dX5_applyTo_44 : decode cX5_applyTo 44 = .ok (.ifCond .ne 5, 3) := by decide +kernel
theorem dX5_applyTo_47 : decode cX5_applyTo 47 = .ok (.iconst 0, 1) := by decide +kernel
theorem dX5_applyTo_48 : decode cX5_applyTo 48 = .ok (.ireturn, 1) := by decide +kernel
theorem dX5_applyTo_49 : decode cX5_applyTo 49 = .ok (.iinc 2 1, 3) := by decide +kernel
theorem dX5_applyTo_52 : decode cX5_applyTo 52 = .ok (.goto (-50), 3) := by decide +kernel
theorem dX5_applyTo_55 : decode cX5_applyTo 55 = .ok (.iconst 1, 1) := by decide +kernel
theorem dX5_applyTo_56 : decode cX5_applyTo 56 = .ok (.ireturn, 1) := by decide +kernel
theorem dX5_applyStep_0 : decode cX5_applyStep 0 = .ok (.iload_n 1, 1) := by decide +kernel
theorem dX5_applyStep_1 : decode cX5_applyStep 1 = .ok (.tableswitch 49 0 2 #[27, 36, 42], 27) := by decide +kernel
theorem dX5_applyStep_28 : decode cX5_applyStep 28 = .ok (.aload_n 0, 1) := by decide +kernel
theorem dX5_applyStep_29 : decode cX5_applyStep 29 = .ok (.iload_n 2, 1) := by decide +kernel
theorem dX5_applyStep_30 : decode cX5_applyStep 30 = .ok (.iload_n 3, 1) := by decide +kernel
theorem dX5_applyStep_31 : decode cX5_applyStep 31 = .ok (.iload 4, 2) := by decide +kernel
theorem dX5_applyStep_33 : decode cX5_applyStep 33 = .ok (.invokevirtual 38, 3) := by decide +kernel
theorem dX5_applyStep_36 : decode cX5_applyStep 36 = .ok (.ireturn, 1) := by decide +kernel
theorem dX5_applyStep_37 : decode cX5_applyStep 37 = .ok (.aload_n 0, 1) := by decide +kernel
theorem dX5_applyStep_38 : decode cX5_applyStep 38 = .ok (.iload_n 2, 1) := by decide +kernel
theorem dX5_applyStep_39 : decode cX5_applyStep 39 = .ok (.invokevirtual 44, 3) := by decide +kernel
theorem dX5_applyStep_42 : decode cX5_applyStep 42 = .ok (.ireturn, 1) := by decide +kernel
theorem dX5_applyStep_43 : decode cX5_applyStep 43 = .ok (.aload_n 0, 1) := by decide +kernel
theorem dX5_applyStep_44 : decode cX5_applyStep 44 = .ok (.iload_n 2, 1) := by decide +kernel
theorem dX5_applyStep_45 : decode cX5_applyStep 45 = .ok (.iload_n 3, 1) := by decide +kernel
theorem dX5_applyStep_46 : decode cX5_applyStep 46 = .ok (.invokevirtual 48, 3) := by decide +kernel
theorem dX5_applyStep_49 : decode cX5_applyStep 49 = .ok (.ireturn, 1) := by decide +kernel
theorem dX5_applyStep_50 : decode cX5_applyStep 50 = .ok (.aload_n 0, 1) := by decide +kernel
theorem dX5_applyStep_51 : decode cX5_applyStep 51 = .ok (.iload_n 2, 1) := by decide +kernel
theorem dX5_applyStep_52 : decode cX5_applyStep 52 = .ok (.iload_n 1, 1) := by decide +kernel
theorem dX5_applyStep_53 : decode cX5_applyStep 53 = .ok (.iload_n 3, 1) := by decide +kernel
theorem dX5_applyStep_54 : decode cX5_applyStep 54 = .ok (.invokevirtual 52, 3) := by decide +kernel
theorem dX5_applyStep_57 : decode cX5_applyStep 57 = .ok (.ireturn, 1) := by decide +kernel
theorem dX5_carryOver_0 : decode cX5_carryOver 0 = .ok (.iconst 0, 1) := by decide +kernel
theorem dX5_carryOver_1 : decode cX5_carryOver 1 = .ok (.istore_n 2, 1) := by decide +kernel
theorem dX5_carryOver_2 : decode cX5_carryOver 2 = .ok (.iload_n 2, 1) := by decide +kernel
theorem dX5_carryOver_3 : decode cX5_carryOver 3 = .ok (.aload_n 0, 1) := by decide +kernel
theorem dX5_carryOver_4 : decode cX5_carryOver 4 = .ok (.getfield 24, 3) := by decide +kernel
theorem dX5_carryOver_7 : decode cX5_carryOver 7 = .ok (.if_icmp .ge 129, 3) := by decide +kernel
theorem dX5_carryOver_10 : decode cX5_carryOver 10 = .ok (.iload_n 2, 1) := by decide +kernel
theorem dX5_carryOver_11 : decode cX5_carryOver 11 = .ok (.bipush 27, 2) := by decide +kernel
theorem dX5_carryOver_13 : decode cX5_carryOver 13 = .ok (.if_icmp .ge 123, 3) := by decide +kernel
theorem dX5_carryOver_16 : decode cX5_carryOver 16 = .ok (.aload_n 0, 1) := by decide +kernel
theorem dX5_carryOver_17 : decode cX5_carryOver 17 = .ok (.getfield 15, 3) := by decide +kernel
theorem dX5_carryOver_20 : decode cX5_carryOver 20 = .ok (.iload_n 2, 1) := by decide +kernel
theorem dX5_carryOver_21 : decode cX5_carryOver 21 = .ok (.iaload, 1) := by decide +kernel
theorem dX5_carryOver_22 : decode cX5_carryOver 22 = .ok (.istore_n 3, 1) := by decide +kernel
theorem dX5_carryOver_23 : decode cX5_carryOver 23 = .ok (.aload_n 0, 1) := by decide +kernel
theorem dX5_carryOver_24 : decode cX5_carryOver 24 = .ok (.getfield 18, 3) := by decide +kernel
theorem dX5_carryOver_27 : decode cX5_carryOver 27 = .ok (.iload_n 2, 1) := by decide +kernel
theorem dX5_carryOver_28 : decode cX5_carryOver 28 = .ok (.iaload, 1) := by decide +kernel
theorem dX5_carryOver_29 : decode cX5_carryOver 29 = .ok (.istore 4, 2) := by decide +kernel
theorem dX5_carryOver_31 : decode cX5_carryOver 31 = .ok (.iload_n 3, 1) := by decide +kernel
theorem dX5_carryOver_32 : decode cX5_carryOver 32 = .ok (.invokestatic 55, 3) := by decide +kernel
theorem dX5_carryOver_35 : decode cX5_carryOver 35 = .ok (.ifCond .eq 95, 3) := by decide +kernel
theorem dX5_carryOver_38 : decode cX5_carryOver 38 = .ok (.iload_n 3, 1) := by decide +kernel
theorem dX5_carryOver_39 : decode cX5_carryOver 39 = .ok (.aload_n 1, 1) := by decide +kernel
theorem dX5_carryOver_40 : decode cX5_carryOver 40 = .ok (.arraylength, 1) := by decide +kernel
theorem dX5_carryOver_41 : decode cX5_carryOver 41 = .ok (.if_icmp .lt 6, 3) := by decide +kernel
theorem dX5_carryOver_44 : decode cX5_carryOver 44 = .ok (.goto 86, 3) := by decide +kernel
theorem dX5_carryOver_47 : decode cX5_carryOver 47 = .ok (.aload_n 0, 1) := by decide +kernel
theorem dX5_carryOver_48 : decode cX5_carryOver 48 = .ok (.getfield 9, 3) := by decide +kernel
theorem dX5_carryOver_51 : decode cX5_carryOver 51 = .ok (.iload_n 2, 1) := by decide +kernel
theorem dX5_carryOver_52 : decode cX5_carryOver 52 = .ok (.iaload, 1) := by decide +kernel
theorem dX5_carryOver_53 : decode cX5_carryOver 53 = .ok (.ifCond .ne 15, 3) := by decide +kernel
theorem dX5_carryOver_56 : decode cX5_carryOver 56 = .ok (.aload_n 1, 1) := by decide +kernel
theorem dX5_carryOver_57 : decode cX5_carryOver 57 = .ok (.iload_n 3, 1) := by decide +kernel
theorem dX5_carryOver_58 : decode cX5_carryOver 58 = .ok (.aload_n 0, 1) := by decide +kernel
theorem dX5_carryOver_59 : decode cX5_carryOver 59 = .ok (.getfield 21, 3) := by decide +kernel
theorem dX5_carryOver_62 : decode cX5_carryOver 62 = .ok (.iload_n 2, 1) := by decide +kernel
theorem dX5_carryOver_63 : decode cX5_carryOver 63 = .ok (.iaload, 1) := by decide +kernel
theorem dX5_carryOver_64 : decode cX5_carryOver 64 = .ok (.iastore, 1) := by decide +kernel
theorem dX5_carryOver_65 : decode cX5_carryOver 65 = .ok (.goto 65, 3) := by decide +kernel
theorem dX5_carryOver_68 : decode cX5_carryOver 68 = .ok (.aload_n 0, 1) := by decide +kernel
theorem dX5_carryOver_69 : decode cX5_carryOver 69 = .ok (.getfield 9, 3) := by decide +kernel
theorem dX5_carryOver_72 : decode cX5_carryOver 72 = .ok (.iload_n 2, 1) := by decide +kernel
theorem dX5_carryOver_73 : decode cX5_carryOver 73 = .ok (.iaload, 1) := by decide +kernel
theorem dX5_carryOver_74 : decode cX5_carryOver 74 = .ok (.iconst 2, 1) := by decide +kernel
theorem dX5_carryOver_75 : decode cX5_carryOver 75 = .ok (.if_icmp .ne 28, 3) := by decide +kernel
theorem dX5_carryOver_78 : decode cX5_carryOver 78 = .ok (.iload 4, 2) := by decide +kernel
theorem dX5_carryOver_80 : decode cX5_carryOver 80 = .ok (.invokestatic 55, 3) := by decide +kernel
theorem dX5_carryOver_83 : decode cX5_carryOver 83 = .ok (.ifCond .eq 47, 3) := by decide +kernel
theorem dX5_carryOver_86 : decode cX5_carryOver 86 = .ok (.iload 4, 2) := by decide +kernel
theorem dX5_carryOver_88 : decode cX5_carryOver 88 = .ok (.aload_n 1, 1) := by decide +kernel
theorem dX5_carryOver_89 : decode cX5_carryOver 89 = .ok (.arraylength, 1) := by decide +kernel
theorem dX5_carryOver_90 : decode cX5_carryOver 90 = .ok (.if_icmp .ge 40, 3) := by decide +kernel
theorem dX5_carryOver_93 : decode cX5_carryOver 93 = .ok (.aload_n 1, 1) := by decide +kernel
theorem dX5_carryOver_94 : decode cX5_carryOver 94 = .ok (.iload 4, 2) := by decide +kernel
theorem dX5_carryOver_96 : decode cX5_carryOver 96 = .ok (.aload_n 1, 1) := by decide +kernel
theorem dX5_carryOver_97 : decode cX5_carryOver 97 = .ok (.iload_n 3, 1) := by decide +kernel
theorem dX5_carryOver_98 : decode cX5_carryOver 98 = .ok (.iaload, 1) := by decide +kernel
theorem dX5_carryOver_99 : decode cX5_carryOver 99 = .ok (.iastore, 1) := by decide +kernel
theorem dX5_carryOver_100 : decode cX5_carryOver 100 = .ok (.goto 30, 3) := by decide +kernel
theorem dX5_carryOver_103 : decode cX5_carryOver 103 = .ok (.aload_n 0, 1) := by decide +kernel
theorem dX5_carryOver_104 : decode cX5_carryOver 104 = .ok (.getfield 9, 3) := by decide +kernel
theorem dX5_carryOver_107 : decode cX5_carryOver 107 = .ok (.iload_n 2, 1) := by decide +kernel
theorem dX5_carryOver_108 : decode cX5_carryOver 108 = .ok (.iaload, 1) := by decide +kernel
theorem dX5_carryOver_109 : decode cX5_carryOver 109 = .ok (.iconst 1, 1) := by decide +kernel
theorem dX5_carryOver_110 : decode cX5_carryOver 110 = .ok (.if_icmp .eq 20, 3) := by decide +kernel
theorem dX5_carryOver_113 : decode cX5_carryOver 113 = .ok (.aload_n 1, 1) := by decide +kernel
theorem dX5_carryOver_114 : decode cX5_carryOver 114 = .ok (.iload_n 3, 1) := by decide +kernel
theorem dX5_carryOver_115 : decode cX5_carryOver 115 = .ok (.aload_n 0, 1) := by decide +kernel
theorem dX5_carryOver_116 : decode cX5_carryOver 116 = .ok (.getfield 9, 3) := by decide +kernel
theorem dX5_carryOver_119 : decode cX5_carryOver 119 = .ok (.iload_n 2, 1) := by decide +kernel
theorem dX5_carryOver_120 : decode cX5_carryOver 120 = .ok (.iaload, 1) := by decide +kernel
theorem dX5_carryOver_121 : decode cX5_carryOver 121 = .ok (.iload 4, 2) := by decide +kernel
theorem dX5_carryOver_123 : decode cX5_carryOver 123 = .ok (.aload_n 1, 1) := by decide +kernel
theorem dX5_carryOver_124 : decode cX5_carryOver 124 = .ok (.iload_n 3, 1) := by decide +kernel
theorem dX5_carryOver_125 : decode cX5_carryOver 125 = .ok (.iaload, 1) := by decide +kernel
theorem dX5_carryOver_126 : decode cX5_carryOver 126 = .ok (.invokestatic 58, 3) := by decide +kernel
theorem dX5_carryOver_129 : decode cX5_carryOver 129 = .ok (.iastore, 1) := by decide +kernel
theorem dX5_carryOver_130 : decode cX5_carryOver 130 = .ok (.iinc 2 1, 3) := by decide +kernel
theorem dX5_carryOver_133 : decode cX5_carryOver 133 = .ok (.goto (-131), 3) := by decide +kernel
theorem dX5_carryOver_136 : decode cX5_carryOver 136 = .ok (.return_, 1) := by decide +kernel
theorem dX5_scaled_0 : decode cX5_scaled 0 = .ok (.iload_n 0, 1) := by decide +kernel
theorem dX5_scaled_1 : decode cX5_scaled 1 = .ok (.iconst 3, 1) := by decide +kernel
theorem dX5_scaled_2 : decode cX5_scaled 2 = .ok (.if_icmp .ne 13, 3) := by decide +kernel
theorem dX5_scaled_5 : decode cX5_scaled 5 = .ok (.iload_n 2, 1) := by decide +kernel
theorem dX5_scaled_6 : decode cX5_scaled 6 = .ok (.iload_n 1, 1) := by decide +kernel
theorem dX5_scaled_7 : decode cX5_scaled 7 = .ok (.imul, 1) := by decide +kernel
theorem dX5_scaled_8 : decode cX5_scaled 8 = .ok (.sipush 255, 3) := by decide +kernel
theorem dX5_scaled_11 : decode cX5_scaled 11 = .ok (.invokestatic 62, 3) := by decide +kernel
theorem dX5_scaled_14 : decode cX5_scaled 14 = .ok (.ireturn, 1) := by decide +kernel
theorem dX5_scaled_15 : decode cX5_scaled 15 = .ok (.iload_n 0, 1) := by decide +kernel
theorem dX5_scaled_16 : decode cX5_scaled 16 = .ok (.iconst 4, 1) := by decide +kernel
theorem dX5_scaled_17 : decode cX5_scaled 17 = .ok (.if_icmp .ne 16, 3) := by decide +kernel
theorem dX5_scaled_20 : decode cX5_scaled 20 = .ok (.iload_n 1, 1) := by decide +kernel
theorem dX5_scaled_21 : decode cX5_scaled 21 = .ok (.iconst 1, 1) := by decide +kernel
theorem dX5_scaled_22 : decode cX5_scaled 22 = .ok (.if_icmp .ge 7, 3) := by decide +kernel
theorem dX5_scaled_25 : decode cX5_scaled 25 = .ok (.iload_n 2, 1) := by decide +kernel
theorem dX5_scaled_26 : decode cX5_scaled 26 = .ok (.goto 6, 3) := by decide +kernel
theorem dX5_scaled_29 : decode cX5_scaled 29 = .ok (.iload_n 2, 1) := by decide +kernel
theorem dX5_scaled_30 : decode cX5_scaled 30 = .ok (.iload_n 1, 1) := by decide +kernel
theorem dX5_scaled_31 : decode cX5_scaled 31 = .ok (.idiv, 1) := by decide +kernel
theorem dX5_scaled_32 : decode cX5_scaled 32 = .ok (.ireturn, 1) := by decide +kernel
theorem dX5_scaled_33 : decode cX5_scaled 33 = .ok (.iload_n 2, 1) := by decide +kernel
theorem dX5_scaled_34 : decode cX5_scaled 34 = .ok (.iload_n 1, 1) := by decide +kernel
theorem dX5_scaled_35 : decode cX5_scaled 35 = .ok (.invokestatic 62, 3) := by decide +kernel
theorem dX5_scaled_38 : decode cX5_scaled 38 = .ok (.ireturn, 1) := by decide +kernel
theorem dX6_init_0 : decode cX6_init 0 = .ok (.aload_n 0, 1) := by decide +kernel
theorem dX6_init_1 : decode cX6_init 1 = .ok (.invokespecial 1, 3) := by decide +kernel
theorem dX6_init_4 : decode cX6_init 4 = .ok (.aload_n 0, 1) := by decide +kernel
theorem dX6_init_5 : decode cX6_init 5 = .ok (.new 7, 3) := by decide +kernel
theorem dX6_init_8 : decode cX6_init 8 = .ok (.dup, 1) := by decide +kernel
theorem dX6_init_9 : decode cX6_init 9 = .ok (.invokespecial 9, 3) := by decide +kernel
theorem dX6_init_12 : decode cX6_init 12 = .ok (.putfield 10, 3) := by decide +kernel
theorem dX6_init_15 : decode cX6_init 15 = .ok (.aload_n 0, 1) := by decide +kernel
theorem dX6_init_16 : decode cX6_init 16 = .ok (.new 16, 3) := by decide +kernel
theorem dX6_init_19 : decode cX6_init 19 = .ok (.dup, 1) := by decide +kernel
theorem dX6_init_20 : decode cX6_init 20 = .ok (.invokespecial 18, 3) := by decide +kernel
theorem dX6_init_23 : decode cX6_init 23 = .ok (.putfield 19, 3) := by decide +kernel
theorem dX6_init_26 : decode cX6_init 26 = .ok (.aload_n 0, 1) := by decide +kernel
theorem dX6_init_27 : decode cX6_init 27 = .ok (.new 23, 3) := by decide +kernel
theorem dX6_init_30 : decode cX6_init 30 = .ok (.dup, 1) := by decide +kernel
theorem dX6_init_31 : decode cX6_init 31 = .ok (.aload_n 0, 1) := by decide +kernel
theorem dX6_init_32 : decode cX6_init 32 = .ok (.getfield 19, 3) := by decide +kernel
theorem dX6_init_35 : decode cX6_init 35 = .ok (.invokespecial 25, 3) := by decide +kernel
theorem dX6_init_38 : decode cX6_init 38 = .ok (.putfield 28, 3) := by decide +kernel
theorem dX6_init_41 : decode cX6_init 41 = .ok (.aload_n 0, 1) := by decide +kernel
theorem dX6_init_42 : decode cX6_init 42 = .ok (.new 23, 3) := by decide +kernel
theorem dX6_init_45 : decode cX6_init 45 = .ok (.dup, 1) := by decide +kernel
theorem dX6_init_46 : decode cX6_init 46 = .ok (.aload_n 0, 1) := by decide +kernel
theorem dX6_init_47 : decode cX6_init 47 = .ok (.getfield 19, 3) := by decide +kernel
theorem dX6_init_50 : decode cX6_init 50 = .ok (.invokespecial 25, 3) := by decide +kernel
theorem dX6_init_53 : decode cX6_init 53 = .ok (.putfield 32, 3) := by decide +kernel
theorem dX6_init_56 : decode cX6_init 56 = .ok (.aload_n 0, 1) := by decide +kernel
theorem dX6_init_57 : decode cX6_init 57 = .ok (.iconst 2, 1) := by decide +kernel
theorem dX6_init_58 : decode cX6_init 58 = .ok (.anewarray 23, 3) := by decide +kernel
theorem dX6_init_61 : decode cX6_init 61 = .ok (.putfield 35, 3) := by decide +kernel
theorem dX6_init_64 : decode cX6_init 64 = .ok (.iconst 0, 1) := by decide +kernel
theorem dX6_init_65 : decode cX6_init 65 = .ok (.istore_n 1, 1) := by decide +kernel
theorem dX6_init_66 : decode cX6_init 66 = .ok (.iload_n 1, 1) := by decide +kernel
theorem dX6_init_67 : decode cX6_init 67 = .ok (.iconst 2, 1) := by decide +kernel
theorem dX6_init_68 : decode cX6_init 68 = .ok (.if_icmp .ge 26, 3) := by decide +kernel
theorem dX6_init_71 : decode cX6_init 71 = .ok (.aload_n 0, 1) := by decide +kernel
theorem dX6_init_72 : decode cX6_init 72 = .ok (.getfield 35, 3) := by decide +kernel
theorem dX6_init_75 : decode cX6_init 75 = .ok (.iload_n 1, 1) := by decide +kernel
theorem dX6_init_76 : decode cX6_init 76 = .ok (.new 23, 3) := by decide +kernel
theorem dX6_init_79 : decode cX6_init 79 = .ok (.dup, 1) := by decide +kernel
theorem dX6_init_80 : decode cX6_init 80 = .ok (.aload_n 0, 1) := by decide +kernel
theorem dX6_init_81 : decode cX6_init 81 = .ok (.getfield 19, 3) := by decide +kernel
theorem dX6_init_84 : decode cX6_init 84 = .ok (.invokespecial 25, 3) := by decide +kernel
theorem dX6_init_87 : decode cX6_init 87 = .ok (.aastore, 1) := by decide +kernel
theorem dX6_init_88 : decode cX6_init 88 = .ok (.iinc 1 1, 3) := by decide +kernel
theorem dX6_init_91 : decode cX6_init 91 = .ok (.goto (-25), 3) := by decide +kernel
theorem dX6_init_94 : decode cX6_init 94 = .ok (.aload_n 0, 1) := by decide +kernel
theorem dX6_init_95 : decode cX6_init 95 = .ok (.iconst 2, 1) := by decide +kernel
theorem dX6_init_96 : decode cX6_init 96 = .ok (.newarray .boolean, 2) := by decide +kernel
theorem dX6_init_98 : decode cX6_init 98 = .ok (.putfield 39, 3) := by decide +kernel
theorem dX6_init_101 : decode cX6_init 101 = .ok (.return_, 1) := by decide +kernel
theorem dX6_define_0 : decode cX6_define 0 = .ok (.aload_n 0, 1) := by decide +kernel
theorem dX6_define_1 : decode cX6_define 1 = .ok (.getfield 10, 3) := by decide +kernel
theorem dX6_define_4 : decode cX6_define 4 = .ok (.invokevirtual 43, 3) := by decide +kernel
theorem dX6_define_7 : decode cX6_define 7 = .ok (.bipush (-6), 2) := by decide +kernel
theorem dX6_define_9 : decode cX6_define 9 = .ok (.if_icmp .eq 6, 3) := by decide +kernel
theorem dX6_define_12 : decode cX6_define 12 = .ok (.bipush (-3), 2) := by decide +kernel
theorem dX6_define_14 : decode cX6_define 14 = .ok (.ireturn, 1) := by decide +kernel
theorem dX6_define_15 : decode cX6_define 15 = .ok (.aload_n 0, 1) := by decide +kernel
theorem dX6_define_16 : decode cX6_define 16 = .ok (.getfield 19, 3) := by decide +kernel
theorem dX6_define_19 : decode cX6_define 19 = .ok (.invokevirtual 47, 3) := by decide +kernel
theorem dX6_define_22 : decode cX6_define 22 = .ok (.bipush 6, 2) := by decide +kernel
theorem dX6_define_24 : decode cX6_define 24 = .ok (.if_icmp .lt 6, 3) := by decide +kernel
theorem dX6_define_27 : decode cX6_define 27 = .ok (.bipush (-4), 2) := by decide +kernel
theorem dX6_define_29 : decode cX6_define 29 = .ok (.ireturn, 1) := by decide +kernel
theorem dX6_define_30 : decode cX6_define 30 = .ok (.aload_n 0, 1) := by decide +kernel
theorem dX6_define_31 : decode cX6_define 31 = .ok (.getfield 19, 3) := by decide +kernel
theorem dX6_define_34 : decode cX6_define 34 = .ok (.aload_n 0, 1) := by decide +kernel
theorem dX6_define_35 : decode cX6_define 35 = .ok (.getfield 10, 3) := by decide +kernel
theorem dX6_define_38 : decode cX6_define 38 = .ok (.invokevirtual 50, 3) := by decide +kernel
theorem dX6_define_41 : decode cX6_define 41 = .ok (.invokevirtual 54, 3) := by decide +kernel
theorem dX6_define_44 : decode cX6_define 44 = .ok (.ifCond .ne 6, 3) := by decide +kernel
theorem dX6_define_47 : decode cX6_define 47 = .ok (.bipush (-5), 2) := by decide +kernel
theorem dX6_define_49 : decode cX6_define 49 = .ok (.ireturn, 1) := by decide +kernel
theorem dX6_define_50 : decode cX6_define 50 = .ok (.aload_n 0, 1) := by decide +kernel
theorem dX6_define_51 : decode cX6_define 51 = .ok (.getfield 10, 3) := by decide +kernel
theorem dX6_define_54 : decode cX6_define 54 = .ok (.invokevirtual 58, 3) := by decide +kernel
theorem dX6_define_57 : decode cX6_define 57 = .ok (.aload_n 0, 1) := by decide +kernel
theorem dX6_define_58 : decode cX6_define 58 = .ok (.getfield 19, 3) := by decide +kernel
theorem dX6_define_61 : decode cX6_define 61 = .ok (.invokevirtual 47, 3) := by decide +kernel
theorem dX6_define_64 : decode cX6_define 64 = .ok (.iconst 1, 1) := by decide +kernel
theorem dX6_define_65 : decode cX6_define 65 = .ok (.isub, 1) := by decide +kernel
theorem dX6_define_66 : decode cX6_define 66 = .ok (.ireturn, 1) := by decide +kernel
theorem dX6_layout_0 : decode cX6_layout 0 = .ok (.aload_n 0, 1) := by decide +kernel
theorem dX6_layout_1 : decode cX6_layout 1 = .ok (.getfield 19, 3) := by decide +kernel
theorem dX6_layout_4 : decode cX6_layout 4 = .ok (.iload_n 1, 1) := by decide +kernel
theorem dX6_layout_5 : decode cX6_layout 5 = .ok (.invokevirtual 61, 3) := by decide +kernel
theorem dX6_layout_8 : decode cX6_layout 8 = .ok (.astore 4, 2) := by decide +kernel
theorem dX6_layout_10 : decode cX6_layout 10 = .ok (.aload 4, 2) := by decide +kernel
theorem dX6_layout_12 : decode cX6_layout 12 = .ok (.iload_n 2, 1) := by decide +kernel
theorem dX6_layout_13 : decode cX6_layout 13 = .ok (.invokevirtual 65, 3) := by decide +kernel
theorem dX6_layout_16 : decode cX6_layout 16 = .ok (.ifCond .ne 5, 3) := by decide +kernel
theorem dX6_layout_19 : decode cX6_layout 19 = .ok (.iconst (-1), 1) := by decide +kernel
theorem dX6_layout_20 : decode cX6_layout 20 = .ok (.ireturn, 1) := by decide +kernel
theorem dX6_layout_21 : decode cX6_layout 21 = .ok (.iload_n 3, 1) := by decide +kernel
theorem dX6_layout_22 : decode cX6_layout 22 = .ok (.tableswitch 47 0 2 #[26, 33, 40], 26) := by decide +kernel
theorem dX6_layout_48 : decode cX6_layout 48 = .ok (.aload 4, 2) := by decide +kernel
theorem dX6_layout_50 : decode cX6_layout 50 = .ok (.iload_n 2, 1) := by decide +kernel
theorem dX6_layout_51 : decode cX6_layout 51 = .ok (.invokevirtual 71, 3) := by decide +kernel
theorem dX6_layout_54 : decode cX6_layout 54 = .ok (.ireturn, 1) := by decide +kernel
theorem dX6_layout_55 : decode cX6_layout 55 = .ok (.aload 4, 2) := by decide +kernel
theorem dX6_layout_57 : decode cX6_layout 57 = .ok (.iload_n 2, 1) := by decide +kernel
theorem dX6_layout_58 : decode cX6_layout 58 = .ok (.invokevirtual 75, 3) := by decide +kernel
theorem dX6_layout_61 : decode cX6_layout 61 = .ok (.ireturn, 1) := by decide +kernel
theorem dX6_layout_62 : decode cX6_layout 62 = .ok (.aload 4, 2) := by decide +kernel
theorem dX6_layout_64 : decode cX6_layout 64 = .ok (.iload_n 2, 1) := by decide +kernel
theorem dX6_layout_65 : decode cX6_layout 65 = .ok (.invokevirtual 78, 3) := by decide +kernel
theorem dX6_layout_68 : decode cX6_layout 68 = .ok (.ireturn, 1) := by decide +kernel
theorem dX6_layout_69 : decode cX6_layout 69 = .ok (.bipush (-2), 2) := by decide +kernel
theorem dX6_layout_71 : decode cX6_layout 71 = .ok (.ireturn, 1) := by decide +kernel
theorem dX6_fail_0 : decode cX6_fail 0 = .ok (.iload_n 1, 1) := by decide +kernel
theorem dX6_fail_1 : decode cX6_fail 1 = .ok (.bipush (-6), 2) := by decide +kernel
theorem dX6_fail_3 : decode cX6_fail 3 = .ok (.if_icmp .eq 13, 3) := by decide +kernel
theorem dX6_fail_6 : decode cX6_fail 6 = .ok (.iload_n 1, 1) := by decide +kernel
theorem dX6_fail_7 : decode cX6_fail 7 = .ok (.invokestatic 81, 3) := by decide +kernel
theorem dX6_fail_10 : decode cX6_fail 10 = .ok (.ifCond .ne 6, 3) := by decide +kernel
theorem dX6_fail_13 : decode cX6_fail 13 = .ok (.bipush (-2), 2) := by decide +kernel
theorem dX6_fail_15 : decode cX6_fail 15 = .ok (.ireturn, 1) := by decide +kernel
theorem dX6_fail_16 : decode cX6_fail 16 = .ok (.aload_n 0, 1) := by decide +kernel
theorem dX6_fail_17 : decode cX6_fail 17 = .ok (.getfield 28, 3) := by decide +kernel
theorem dX6_fail_20 : decode cX6_fail 20 = .ok (.invokevirtual 84, 3) := by decide +kernel
theorem dX6_fail_23 : decode cX6_fail 23 = .ok (.ifCond .ne 6, 3) := by decide +kernel
theorem dX6_fail_26 : decode cX6_fail 26 = .ok (.bipush (-5), 2) := by decide +kernel
theorem dX6_fail_28 : decode cX6_fail 28 = .ok (.ireturn, 1) := by decide +kernel
theorem dX6_fail_29 : decode cX6_fail 29 = .ok (.aload_n 0, 1) := by decide +kernel
theorem dX6_fail_30 : decode cX6_fail 30 = .ok (.getfield 28, 3) := by decide +kernel
theorem dX6_fail_33 : decode cX6_fail 33 = .ok (.invokevirtual 88, 3) := by decide +kernel
theorem dX6_fail_36 : decode cX6_fail 36 = .ok (.bipush (-6), 2) := by decide +kernel
theorem dX6_fail_38 : decode cX6_fail 38 = .ok (.if_icmp .ne 7, 3) := by decide +kernel
theorem dX6_fail_41 : decode cX6_fail 41 = .ok (.iconst 0, 1) := by decide +kernel
theorem dX6_fail_42 : decode cX6_fail 42 = .ok (.goto 4, 3) := by decide +kernel
theorem dX6_fail_45 : decode cX6_fail 45 = .ok (.iconst 1, 1) := by decide +kernel
theorem dX6_fail_46 : decode cX6_fail 46 = .ok (.istore_n 2, 1) := by decide +kernel
theorem dX6_fail_47 : decode cX6_fail 47 = .ok (.aload_n 0, 1) := by decide +kernel
theorem dX6_fail_48 : decode cX6_fail 48 = .ok (.getfield 28, 3) := by decide +kernel
theorem dX6_fail_51 : decode cX6_fail 51 = .ok (.iload_n 1, 1) := by decide +kernel
theorem dX6_fail_52 : decode cX6_fail 52 = .ok (.invokevirtual 91, 3) := by decide +kernel
theorem dX6_fail_55 : decode cX6_fail 55 = .ok (.iload_n 2, 1) := by decide +kernel
theorem dX6_fail_56 : decode cX6_fail 56 = .ok (.ireturn, 1) := by decide +kernel
theorem dX6_start_0 : decode cX6_start 0 = .ok (.aload_n 0, 1) := by decide +kernel
theorem dX6_start_1 : decode cX6_start 1 = .ok (.getfield 28, 3) := by decide +kernel
theorem dX6_start_4 : decode cX6_start 4 = .ok (.invokevirtual 95, 3) := by decide +kernel
theorem dX6_start_7 : decode cX6_start 7 = .ok (.aload_n 0, 1) := by decide +kernel
theorem dX6_start_8 : decode cX6_start 8 = .ok (.getfield 28, 3) := by decide +kernel
theorem dX6_start_11 : decode cX6_start 11 = .ok (.invokevirtual 98, 3) := by decide +kernel
theorem dX6_start_14 : decode cX6_start 14 = .ok (.ireturn, 1) := by decide +kernel
theorem dX6_get_0 : decode cX6_get 0 = .ok (.aload_n 0, 1) := by decide +kernel
theorem dX6_get_1 : decode cX6_get 1 = .ok (.getfield 28, 3) := by decide +kernel
theorem dX6_get_4 : decode cX6_get 4 = .ok (.invokevirtual 84, 3) := by decide +kernel
theorem dX6_get_7 : decode cX6_get 7 = .ok (.ifCond .ne 6, 3) := by decide +kernel
theorem dX6_get_10 : decode cX6_get 10 = .ok (.bipush (-5), 2) := by decide +kernel
theorem dX6_get_12 : decode cX6_get 12 = .ok (.ireturn, 1) := by decide +kernel
theorem dX6_get_13 : decode cX6_get 13 = .ok (.aload_n 0, 1) := by decide +kernel
theorem dX6_get_14 : decode cX6_get 14 = .ok (.getfield 28, 3) := by decide +kernel
theorem dX6_get_17 : decode cX6_get 17 = .ok (.invokevirtual 101, 3) := by decide +kernel
theorem dX6_get_20 : decode cX6_get 20 = .ok (.iload_n 1, 1) := by decide +kernel
theorem dX6_get_21 : decode cX6_get 21 = .ok (.invokevirtual 65, 3) := by decide +kernel
theorem dX6_get_24 : decode cX6_get 24 = .ok (.ifCond .eq 14, 3) := by decide +kernel
theorem dX6_get_27 : decode cX6_get 27 = .ok (.aload_n 0, 1) := by decide +kernel
theorem dX6_get_28 : decode cX6_get 28 = .ok (.getfield 28, 3) := by decide +kernel
theorem dX6_get_31 : decode cX6_get 31 = .ok (.iload_n 1, 1) := by decide +kernel
theorem dX6_get_32 : decode cX6_get 32 = .ok (.invokevirtual 105, 3) := by decide +kernel
theorem dX6_get_35 : decode cX6_get 35 = .ok (.goto 4, 3) := by decide +kernel
theorem dX6_get_38 : decode cX6_get 38 = .ok (.iconst (-1), 1) := by decide +kernel
theorem dX6_get_39 : decode cX6_get 39 = .ok (.ireturn, 1) := by decide +kernel
theorem dX6_set_0 : decode cX6_set 0 = .ok (.aload_n 0, 1) := by decide +kernel
theorem dX6_set_1 : decode cX6_set 1 = .ok (.getfield 28, 3) := by decide +kernel
theorem dX6_set_4 : decode cX6_set 4 = .ok (.invokevirtual 84, 3) := by decide +kernel
theorem dX6_set_7 : decode cX6_set 7 = .ok (.ifCond .ne 6, 3) := by decide +kernel
theorem dX6_set_10 : decode cX6_set 10 = .ok (.bipush (-5), 2) := by decide +kernel
theorem dX6_set_12 : decode cX6_set 12 = .ok (.ireturn, 1) := by decide +kernel
theorem dX6_set_13 : decode cX6_set 13 = .ok (.aload_n 0, 1) := by decide +kernel
theorem dX6_set_14 : decode cX6_set 14 = .ok (.getfield 28, 3) := by decide +kernel
theorem dX6_set_17 : decode cX6_set 17 = .ok (.invokevirtual 101, 3) := by decide +kernel
theorem dX6_set_20 : decode cX6_set 20 = .ok (.iload_n 1, 1) := by decide +kernel
theorem dX6_set_21 : decode cX6_set 21 = .ok (.invokevirtual 65, 3) := by decide +kernel
theorem dX6_set_24 : decode cX6_set 24 = .ok (.ifCond .ne 5, 3) := by decide +kernel
theorem dX6_set_27 : decode cX6_set 27 = .ok (.iconst (-1), 1) := by decide +kernel
theorem dX6_set_28 : decode cX6_set 28 = .ok (.ireturn, 1) := by decide +kernel
theorem dX6_set_29 : decode cX6_set 29 = .ok (.aload_n 0, 1) := by decide +kernel
theorem dX6_set_30 : decode cX6_set 30 = .ok (.getfield 28, 3) := by decide +kernel
theorem dX6_set_33 : decode cX6_set 33 = .ok (.invokevirtual 101, 3) := by decide +kernel
theorem dX6_set_36 : decode cX6_set 36 = .ok (.iload_n 1, 1) := by decide +kernel
theorem dX6_set_37 : decode cX6_set 37 = .ok (.iload_n 2, 1) := by decide +kernel
theorem dX6_set_38 : decode cX6_set 38 = .ok (.invokevirtual 108, 3) := by decide +kernel
theorem dX6_set_41 : decode cX6_set 41 = .ok (.ifCond .ne 6, 3) := by decide +kernel
theorem dX6_set_44 : decode cX6_set 44 = .ok (.bipush (-2), 2) := by decide +kernel
theorem dX6_set_46 : decode cX6_set 46 = .ok (.ireturn, 1) := by decide +kernel
theorem dX6_set_47 : decode cX6_set 47 = .ok (.aload_n 0, 1) := by decide +kernel
theorem dX6_set_48 : decode cX6_set 48 = .ok (.getfield 28, 3) := by decide +kernel
theorem dX6_set_51 : decode cX6_set 51 = .ok (.iload_n 1, 1) := by decide +kernel
theorem dX6_set_52 : decode cX6_set 52 = .ok (.iload_n 2, 1) := by decide +kernel
theorem dX6_set_53 : decode cX6_set 53 = .ok (.invokevirtual 112, 3) := by decide +kernel
theorem dX6_set_56 : decode cX6_set 56 = .ok (.ireturn, 1) := by decide +kernel
theorem dX6_compact_0 : decode cX6_compact 0 = .ok (.aload_n 0, 1) := by decide +kernel
theorem dX6_compact_1 : decode cX6_compact 1 = .ok (.getfield 28, 3) := by decide +kernel
theorem dX6_compact_4 : decode cX6_compact 4 = .ok (.invokevirtual 116, 3) := by decide +kernel
theorem dX6_compact_7 : decode cX6_compact 7 = .ok (.ifCond .ne 6, 3) := by decide +kernel
theorem dX6_compact_10 : decode cX6_compact 10 = .ok (.bipush (-5), 2) := by decide +kernel
theorem dX6_compact_12 : decode cX6_compact 12 = .ok (.ireturn, 1) := by decide +kernel
theorem dX6_compact_13 : decode cX6_compact 13 = .ok (.aload_n 0, 1) := by decide +kernel
theorem dX6_compact_14 : decode cX6_compact 14 = .ok (.getfield 28, 3) := by decide +kernel
theorem dX6_compact_17 : decode cX6_compact 17 = .ok (.aload_n 0, 1) := by decide +kernel
theorem dX6_compact_18 : decode cX6_compact 18 = .ok (.getfield 28, 3) := by decide +kernel
theorem dX6_compact_21 : decode cX6_compact 21 = .ok (.invokevirtual 119, 3) := by decide +kernel
theorem dX6_compact_24 : decode cX6_compact 24 = .ok (.invokevirtual 122, 3) := by decide +kernel
theorem dX6_compact_27 : decode cX6_compact 27 = .ok (.ireturn, 1) := by decide +kernel
theorem dX6_migrate_0 : decode cX6_migrate 0 = .ok (.aload_n 0, 1) := by decide +kernel
theorem dX6_migrate_1 : decode cX6_migrate 1 = .ok (.getfield 28, 3) := by decide +kernel
theorem dX6_migrate_4 : decode cX6_migrate 4 = .ok (.invokevirtual 116, 3) := by decide +kernel
theorem dX6_migrate_7 : decode cX6_migrate 7 = .ok (.ifCond .ne 6, 3) := by decide +kernel
theorem dX6_migrate_10 : decode cX6_migrate 10 = .ok (.bipush (-5), 2) := by decide +kernel
theorem dX6_migrate_12 : decode cX6_migrate 12 = .ok (.ireturn, 1) := by decide +kernel
theorem dX6_migrate_13 : decode cX6_migrate 13 = .ok (.aload_n 0, 1) := by decide +kernel
theorem dX6_migrate_14 : decode cX6_migrate 14 = .ok (.getfield 19, 3) := by decide +kernel
theorem dX6_migrate_17 : decode cX6_migrate 17 = .ok (.iload_n 1, 1) := by decide +kernel
theorem dX6_migrate_18 : decode cX6_migrate 18 = .ok (.invokevirtual 125, 3) := by decide +kernel
theorem dX6_migrate_21 : decode cX6_migrate 21 = .ok (.ifCond .ne 5, 3) := by decide +kernel
theorem dX6_migrate_24 : decode cX6_migrate 24 = .ok (.iconst (-1), 1) := by decide +kernel
theorem dX6_migrate_25 : decode cX6_migrate 25 = .ok (.ireturn, 1) := by decide +kernel
theorem dX6_migrate_26 : decode cX6_migrate 26 = .ok (.iload_n 1, 1) := by decide +kernel
theorem dX6_migrate_27 : decode cX6_migrate 27 = .ok (.aload_n 0, 1) := by decide +kernel
theorem dX6_migrate_28 : decode cX6_migrate 28 = .ok (.getfield 28, 3) := by decide +kernel
theorem dX6_migrate_31 : decode cX6_migrate 31 = .ok (.invokevirtual 119, 3) := by decide +kernel
theorem dX6_migrate_34 : decode cX6_migrate 34 = .ok (.if_icmp .gt 6, 3) := by decide +kernel
theorem dX6_migrate_37 : decode cX6_migrate 37 = .ok (.bipush (-2), 2) := by decide +kernel
theorem dX6_migrate_39 : decode cX6_migrate 39 = .ok (.ireturn, 1) := by decide +kernel
theorem dX6_migrate_40 : decode cX6_migrate 40 = .ok (.aload_n 0, 1) := by decide +kernel
theorem dX6_migrate_41 : decode cX6_migrate 41 = .ok (.getfield 28, 3) := by decide +kernel
theorem dX6_migrate_44 : decode cX6_migrate 44 = .ok (.iload_n 1, 1) := by decide +kernel
theorem dX6_migrate_45 : decode cX6_migrate 45 = .ok (.invokevirtual 122, 3) := by decide +kernel
theorem dX6_migrate_48 : decode cX6_migrate 48 = .ok (.ireturn, 1) := by decide +kernel
theorem dX6_factory_0 : decode cX6_factory 0 = .ok (.aload_n 0, 1) := by decide +kernel
theorem dX6_factory_1 : decode cX6_factory 1 = .ok (.getfield 28, 3) := by decide +kernel
theorem dX6_factory_4 : decode cX6_factory 4 = .ok (.invokevirtual 84, 3) := by decide +kernel
theorem dX6_factory_7 : decode cX6_factory 7 = .ok (.ifCond .ne 6, 3) := by decide +kernel
theorem dX6_factory_10 : decode cX6_factory 10 = .ok (.bipush (-5), 2) := by decide +kernel
theorem dX6_factory_12 : decode cX6_factory 12 = .ok (.ireturn, 1) := by decide +kernel
theorem dX6_factory_13 : decode cX6_factory 13 = .ok (.aload_n 0, 1) := by decide +kernel
theorem dX6_factory_14 : decode cX6_factory 14 = .ok (.getfield 19, 3) := by decide +kernel
theorem dX6_factory_17 : decode cX6_factory 17 = .ok (.iload_n 1, 1) := by decide +kernel
theorem dX6_factory_18 : decode cX6_factory 18 = .ok (.invokevirtual 125, 3) := by decide +kernel
theorem dX6_factory_21 : decode cX6_factory 21 = .ok (.ifCond .eq 14, 3) := by decide +kernel
theorem dX6_factory_24 : decode cX6_factory 24 = .ok (.aload_n 0, 1) := by decide +kernel
theorem dX6_factory_25 : decode cX6_factory 25 = .ok (.getfield 28, 3) := by decide +kernel
theorem dX6_factory_28 : decode cX6_factory 28 = .ok (.iload_n 1, 1) := by decide +kernel
theorem dX6_factory_29 : decode cX6_factory 29 = .ok (.invokevirtual 126, 3) := by decide +kernel
theorem dX6_factory_32 : decode cX6_factory 32 = .ok (.goto 4, 3) := by decide +kernel
theorem dX6_factory_35 : decode cX6_factory 35 = .ok (.iconst (-1), 1) := by decide +kernel
theorem dX6_factory_36 : decode cX6_factory 36 = .ok (.ireturn, 1) := by decide +kernel
theorem dX6_cell_0 : decode cX6_cell 0 = .ok (.iload_n 1, 1) := by decide +kernel
theorem dX6_cell_1 : decode cX6_cell 1 = .ok (.iload_n 2, 1) := by decide +kernel
theorem dX6_cell_2 : decode cX6_cell 2 = .ok (.invokestatic 129, 3) := by decide +kernel
theorem dX6_cell_5 : decode cX6_cell 5 = .ok (.ifCond .eq 18, 3) := by decide +kernel
theorem dX6_cell_8 : decode cX6_cell 8 = .ok (.aload_n 0, 1) := by decide +kernel
theorem dX6_cell_9 : decode cX6_cell 9 = .ok (.getfield 28, 3) := by decide +kernel
theorem dX6_cell_12 : decode cX6_cell 12 = .ok (.iload_n 1, 1) := by decide +kernel
theorem dX6_cell_13 : decode cX6_cell 13 = .ok (.invokevirtual 132, 3) := by decide +kernel
theorem dX6_cell_16 : decode cX6_cell 16 = .ok (.iload_n 2, 1) := by decide +kernel
theorem dX6_cell_17 : decode cX6_cell 17 = .ok (.invokevirtual 136, 3) := by decide +kernel
theorem dX6_cell_20 : decode cX6_cell 20 = .ok (.goto 4, 3) := by decide +kernel
theorem dX6_cell_23 : decode cX6_cell 23 = .ok (.iconst (-1), 1) := by decide +kernel
theorem dX6_cell_24 : decode cX6_cell 24 = .ok (.ireturn, 1) := by decide +kernel
theorem dX6_spoil_0 : decode cX6_spoil 0 = .ok (.iload_n 1, 1) := by decide +kernel
theorem dX6_spoil_1 : decode cX6_spoil 1 = .ok (.iload_n 2, 1) := by decide +kernel
theorem dX6_spoil_2 : decode cX6_spoil 2 = .ok (.invokestatic 129, 3) := by decide +kernel
theorem dX6_spoil_5 : decode cX6_spoil 5 = .ok (.ifCond .ne 5, 3) := by decide +kernel
theorem dX6_spoil_8 : decode cX6_spoil 8 = .ok (.iconst (-1), 1) := by decide +kernel
theorem dX6_spoil_9 : decode cX6_spoil 9 = .ok (.ireturn, 1) := by decide +kernel
theorem dX6_spoil_10 : decode cX6_spoil 10 = .ok (.iload_n 3, 1) := by decide +kernel
theorem dX6_spoil_11 : decode cX6_spoil 11 = .ok (.bipush (-6), 2) := by decide +kernel
theorem dX6_spoil_13 : decode cX6_spoil 13 = .ok (.if_icmp .eq 17, 3) := by decide +kernel
theorem dX6_spoil_16 : decode cX6_spoil 16 = .ok (.iload_n 3, 1) := by decide +kernel
theorem dX6_spoil_17 : decode cX6_spoil 17 = .ok (.ifCond .lt 10, 3) := by decide +kernel
theorem dX6_spoil_20 : decode cX6_spoil 20 = .ok (.iload_n 3, 1) := by decide +kernel
theorem dX6_spoil_21 : decode cX6_spoil 21 = .ok (.sipush 255, 3) := by decide +kernel
theorem dX6_spoil_24 : decode cX6_spoil 24 = .ok (.if_icmp .le 6, 3) := by decide +kernel
theorem dX6_spoil_27 : decode cX6_spoil 27 = .ok (.bipush (-2), 2) := by decide +kernel
theorem dX6_spoil_29 : decode cX6_spoil 29 = .ok (.ireturn, 1) := by decide +kernel
theorem dX6_spoil_30 : decode cX6_spoil 30 = .ok (.aload_n 0, 1) := by decide +kernel
theorem dX6_spoil_31 : decode cX6_spoil 31 = .ok (.getfield 28, 3) := by decide +kernel
theorem dX6_spoil_34 : decode cX6_spoil 34 = .ok (.iload_n 1, 1) := by decide +kernel
theorem dX6_spoil_35 : decode cX6_spoil 35 = .ok (.invokevirtual 132, 3) := by decide +kernel
theorem dX6_spoil_38 : decode cX6_spoil 38 = .ok (.iload_n 2, 1) := by decide +kernel
theorem dX6_spoil_39 : decode cX6_spoil 39 = .ok (.invokevirtual 136, 3) := by decide +kernel
theorem dX6_spoil_42 : decode cX6_spoil 42 = .ok (.istore 4, 2) := by decide +kernel
theorem dX6_spoil_44 : decode cX6_spoil 44 = .ok (.aload_n 0, 1) := by decide +kernel
theorem dX6_spoil_45 : decode cX6_spoil 45 = .ok (.getfield 28, 3) := by decide +kernel
theorem dX6_spoil_48 : decode cX6_spoil 48 = .ok (.iload_n 1, 1) := by decide +kernel
theorem dX6_spoil_49 : decode cX6_spoil 49 = .ok (.invokevirtual 132, 3) := by decide +kernel
theorem dX6_spoil_52 : decode cX6_spoil 52 = .ok (.iload_n 2, 1) := by decide +kernel
theorem dX6_spoil_53 : decode cX6_spoil 53 = .ok (.iload_n 3, 1) := by decide +kernel
theorem dX6_spoil_54 : decode cX6_spoil 54 = .ok (.invokevirtual 141, 3) := by decide +kernel
theorem dX6_spoil_57 : decode cX6_spoil 57 = .ok (.iload 4, 2) := by decide +kernel
theorem dX6_spoil_59 : decode cX6_spoil 59 = .ok (.ireturn, 1) := by decide +kernel
theorem dX6_page_0 : decode cX6_page 0 = .ok (.iload_n 1, 1) := by decide +kernel
theorem dX6_page_1 : decode cX6_page 1 = .ok (.invokestatic 145, 3) := by decide +kernel
theorem dX6_page_4 : decode cX6_page 4 = .ok (.ifCond .ne 5, 3) := by decide +kernel
theorem dX6_page_7 : decode cX6_page 7 = .ok (.iconst (-1), 1) := by decide +kernel
theorem dX6_page_8 : decode cX6_page 8 = .ok (.ireturn, 1) := by decide +kernel
theorem dX6_page_9 : decode cX6_page 9 = .ok (.aload_n 0, 1) := by decide +kernel
theorem dX6_page_10 : decode cX6_page 10 = .ok (.getfield 28, 3) := by decide +kernel
theorem dX6_page_13 : decode cX6_page 13 = .ok (.iload_n 1, 1) := by decide +kernel
theorem dX6_page_14 : decode cX6_page 14 = .ok (.invokevirtual 132, 3) := by decide +kernel
theorem dX6_page_17 : decode cX6_page 17 = .ok (.astore_n 3, 1) := by decide +kernel
theorem dX6_page_18 : decode cX6_page 18 = .ok (.iload_n 2, 1) := by decide +kernel
theorem dX6_page_19 : decode cX6_page 19 = .ok (.tableswitch 89 0 5 #[37, 42, 47, 64, 74, 84], 37) := by decide +kernel
theorem dX6_page_56 : decode cX6_page 56 = .ok (.aload_n 3, 1) := by decide +kernel
theorem dX6_page_57 : decode cX6_page 57 = .ok (.invokevirtual 148, 3) := by decide +kernel
theorem dX6_page_60 : decode cX6_page 60 = .ok (.ireturn, 1) := by decide +kernel
theorem dX6_page_61 : decode cX6_page 61 = .ok (.aload_n 3, 1) := by decide +kernel
theorem dX6_page_62 : decode cX6_page 62 = .ok (.invokevirtual 151, 3) := by decide +kernel
theorem dX6_page_65 : decode cX6_page 65 = .ok (.ireturn, 1) := by decide +kernel
theorem dX6_page_66 : decode cX6_page 66 = .ok (.aload_n 3, 1) := by decide +kernel
theorem dX6_page_67 : decode cX6_page 67 = .ok (.aload_n 0, 1) := by decide +kernel
theorem dX6_page_68 : decode cX6_page 68 = .ok (.getfield 19, 3) := by decide +kernel
theorem dX6_page_71 : decode cX6_page 71 = .ok (.invokevirtual 154, 3) := by decide +kernel
theorem dX6_page_74 : decode cX6_page 74 = .ok (.ifCond .eq 7, 3) := by decide +kernel
theorem dX6_page_77 : decode cX6_page 77 = .ok (.iconst 1, 1) := by decide +kernel
theorem dX6_page_78 : decode cX6_page 78 = .ok (.goto 4, 3) := by decide +kernel
theorem dX6_page_81 : decode cX6_page 81 = .ok (.iconst 0, 1) := by decide +kernel
theorem dX6_page_82 : decode cX6_page 82 = .ok (.ireturn, 1) := by decide +kernel
theorem dX6_page_83 : decode cX6_page 83 = .ok (.aload_n 3, 1) := by decide +kernel
theorem dX6_page_84 : decode cX6_page 84 = .ok (.aload_n 0, 1) := by decide +kernel
theorem dX6_page_85 : decode cX6_page 85 = .ok (.getfield 19, 3) := by decide +kernel
theorem dX6_page_88 : decode cX6_page 88 = .ok (.iconst 1, 1) := by decide +kernel
theorem dX6_page_89 : decode cX6_page 89 = .ok (.invokevirtual 158, 3) := by decide +kernel
theorem dX6_page_92 : decode cX6_page 92 = .ok (.ireturn, 1) := by decide +kernel
theorem dX6_page_93 : decode cX6_page 93 = .ok (.aload_n 3, 1) := by decide +kernel
theorem dX6_page_94 : decode cX6_page 94 = .ok (.aload_n 0, 1) := by decide +kernel
theorem dX6_page_95 : decode cX6_page 95 = .ok (.getfield 19, 3) := by decide +kernel
theorem dX6_page_98 : decode cX6_page 98 = .ok (.iconst 0, 1) := by decide +kernel
theorem dX6_page_99 : decode cX6_page 99 = .ok (.invokevirtual 158, 3) := by decide +kernel
theorem dX6_page_102 : decode cX6_page 102 = .ok (.ireturn, 1) := by decide +kernel
theorem dX6_page_103 : decode cX6_page 103 = .ok (.aload_n 3, 1) := by decide +kernel
theorem dX6_page_104 : decode cX6_page 104 = .ok (.invokevirtual 162, 3) := by decide +kernel
theorem dX6_page_107 : decode cX6_page 107 = .ok (.ireturn, 1) := by decide +kernel
theorem dX6_page_108 : decode cX6_page 108 = .ok (.bipush (-2), 2) := by decide +kernel
theorem dX6_page_110 : decode cX6_page 110 = .ok (.ireturn, 1) := by decide +kernel
theorem dX6_state_0 : decode cX6_state 0 = .ok (.iload_n 1, 1) := by decide +kernel
theorem dX6_state_1 : decode cX6_state 1 = .ok (.tableswitch 211 0 12 #[67, 83, 91, 99, 107, 115, 123, 131, 139, 147, 155, 179, 203], 67) := by decide +kernel
theorem dX6_state_68 : decode cX6_state 68 = .ok (.aload_n 0, 1) := by decide +kernel
theorem dX6_state_69 : decode cX6_state 69 = .ok (.getfield 28, 3) := by decide +kernel
theorem dX6_state_72 : decode cX6_state 72 = .ok (.invokevirtual 84, 3) := by decide +kernel
theorem dX6_state_75 : decode cX6_state 75 = .ok (.ifCond .eq 7, 3) := by decide +kernel
theorem dX6_state_78 : decode cX6_state 78 = .ok (.iconst 1, 1) := by decide +kernel
theorem dX6_state_79 : decode cX6_state 79 = .ok (.goto 4, 3) := by decide +kernel
theorem dX6_state_82 : decode cX6_state 82 = .ok (.iconst 0, 1) := by decide +kernel
theorem dX6_state_83 : decode cX6_state 83 = .ok (.ireturn, 1) := by decide +kernel
theorem dX6_state_84 : decode cX6_state 84 = .ok (.aload_n 0, 1) := by decide +kernel
end
section
theorem dX6_state_85 : decode cX6_state 85 = .ok (.getfield 28, 3) := by decide +kernel
theorem dX6_state_88 : decode cX6_state 88 = .ok (.invokevirtual 98, 3) := by decide +kernel
theorem dX6_state_91 : decode cX6_state 91 = .ok (.ireturn, 1) := by decide +kernel
theorem dX6_state_92 : decode cX6_state 92 = .ok (.aload_n 0, 1) := by decide +kernel
theorem dX6_state_93 : decode cX6_state 93 = .ok (.getfield 28, 3) := by decide +kernel
theorem dX6_state_96 : decode cX6_state 96 = .ok (.invokevirtual 119, 3) := by decide +kernel
theorem dX6_state_99 : decode cX6_state 99 = .ok (.ireturn, 1) := by decide +kernel
theorem dX6_state_100 : decode cX6_state 100 = .ok (.aload_n 0, 1) := by decide +kernel
theorem dX6_state_101 : decode cX6_state 101 = .ok (.getfield 28, 3) := by decide +kernel
theorem dX6_state_104 : decode cX6_state 104 = .ok (.invokevirtual 165, 3) := by decide +kernel
theorem dX6_state_107 : decode cX6_state 107 = .ok (.ireturn, 1) := by decide +kernel
theorem dX6_state_108 : decode cX6_state 108 = .ok (.aload_n 0, 1) := by decide +kernel
theorem dX6_state_109 : decode cX6_state 109 = .ok (.getfield 28, 3) := by decide +kernel
theorem dX6_state_112 : decode cX6_state 112 = .ok (.invokevirtual 168, 3) := by decide +kernel
theorem dX6_state_115 : decode cX6_state 115 = .ok (.ireturn, 1) := by decide +kernel
theorem dX6_state_116 : decode cX6_state 116 = .ok (.aload_n 0, 1) := by decide +kernel
theorem dX6_state_117 : decode cX6_state 117 = .ok (.getfield 28, 3) := by decide +kernel
theorem dX6_state_120 : decode cX6_state 120 = .ok (.invokevirtual 171, 3) := by decide +kernel
theorem dX6_state_123 : decode cX6_state 123 = .ok (.ireturn, 1) := by decide +kernel
theorem dX6_state_124 : decode cX6_state 124 = .ok (.aload_n 0, 1) := by decide +kernel
theorem dX6_state_125 : decode cX6_state 125 = .ok (.getfield 28, 3) := by decide +kernel
theorem dX6_state_128 : decode cX6_state 128 = .ok (.invokevirtual 174, 3) := by decide +kernel
theorem dX6_state_131 : decode cX6_state 131 = .ok (.ireturn, 1) := by decide +kernel
theorem dX6_state_132 : decode cX6_state 132 = .ok (.aload_n 0, 1) := by decide +kernel
theorem dX6_state_133 : decode cX6_state 133 = .ok (.getfield 28, 3) := by decide +kernel
theorem dX6_state_136 : decode cX6_state 136 = .ok (.invokevirtual 177, 3) := by decide +kernel
theorem dX6_state_139 : decode cX6_state 139 = .ok (.ireturn, 1) := by decide +kernel
theorem dX6_state_140 : decode cX6_state 140 = .ok (.aload_n 0, 1) := by decide +kernel
theorem dX6_state_141 : decode cX6_state 141 = .ok (.getfield 19, 3) := by decide +kernel
theorem dX6_state_144 : decode cX6_state 144 = .ok (.invokevirtual 47, 3) := by decide +kernel
theorem dX6_state_147 : decode cX6_state 147 = .ok (.ireturn, 1) := by decide +kernel
theorem dX6_state_148 : decode cX6_state 148 = .ok (.aload_n 0, 1) := by decide +kernel
theorem dX6_state_149 : decode cX6_state 149 = .ok (.getfield 28, 3) := by decide +kernel
theorem dX6_state_152 : decode cX6_state 152 = .ok (.invokevirtual 88, 3) := by decide +kernel
theorem dX6_state_155 : decode cX6_state 155 = .ok (.ireturn, 1) := by decide +kernel
theorem dX6_state_156 : decode cX6_state 156 = .ok (.aload_n 0, 1) := by decide +kernel
theorem dX6_state_157 : decode cX6_state 157 = .ok (.getfield 28, 3) := by decide +kernel
theorem dX6_state_160 : decode cX6_state 160 = .ok (.iconst 0, 1) := by decide +kernel
theorem dX6_state_161 : decode cX6_state 161 = .ok (.invokevirtual 132, 3) := by decide +kernel
theorem dX6_state_164 : decode cX6_state 164 = .ok (.invokevirtual 148, 3) := by decide +kernel
theorem dX6_state_167 : decode cX6_state 167 = .ok (.aload_n 0, 1) := by decide +kernel
theorem dX6_state_168 : decode cX6_state 168 = .ok (.getfield 28, 3) := by decide +kernel
theorem dX6_state_171 : decode cX6_state 171 = .ok (.iconst 1, 1) := by decide +kernel
theorem dX6_state_172 : decode cX6_state 172 = .ok (.invokevirtual 132, 3) := by decide +kernel
theorem dX6_state_175 : decode cX6_state 175 = .ok (.invokevirtual 148, 3) := by decide +kernel
theorem dX6_state_178 : decode cX6_state 178 = .ok (.iadd, 1) := by decide +kernel
theorem dX6_state_179 : decode cX6_state 179 = .ok (.ireturn, 1) := by decide +kernel
theorem dX6_state_180 : decode cX6_state 180 = .ok (.aload_n 0, 1) := by decide +kernel
theorem dX6_state_181 : decode cX6_state 181 = .ok (.getfield 28, 3) := by decide +kernel
theorem dX6_state_184 : decode cX6_state 184 = .ok (.iconst 0, 1) := by decide +kernel
theorem dX6_state_185 : decode cX6_state 185 = .ok (.invokevirtual 132, 3) := by decide +kernel
theorem dX6_state_188 : decode cX6_state 188 = .ok (.invokevirtual 151, 3) := by decide +kernel
theorem dX6_state_191 : decode cX6_state 191 = .ok (.aload_n 0, 1) := by decide +kernel
theorem dX6_state_192 : decode cX6_state 192 = .ok (.getfield 28, 3) := by decide +kernel
theorem dX6_state_195 : decode cX6_state 195 = .ok (.iconst 1, 1) := by decide +kernel
theorem dX6_state_196 : decode cX6_state 196 = .ok (.invokevirtual 132, 3) := by decide +kernel
theorem dX6_state_199 : decode cX6_state 199 = .ok (.invokevirtual 151, 3) := by decide +kernel
theorem dX6_state_202 : decode cX6_state 202 = .ok (.iadd, 1) := by decide +kernel
theorem dX6_state_203 : decode cX6_state 203 = .ok (.ireturn, 1) := by decide +kernel
theorem dX6_state_204 : decode cX6_state 204 = .ok (.aload_n 0, 1) := by decide +kernel
theorem dX6_state_205 : decode cX6_state 205 = .ok (.getfield 10, 3) := by decide +kernel
theorem dX6_state_208 : decode cX6_state 208 = .ok (.invokevirtual 180, 3) := by decide +kernel
theorem dX6_state_211 : decode cX6_state 211 = .ok (.ireturn, 1) := by decide +kernel
theorem dX6_state_212 : decode cX6_state 212 = .ok (.bipush (-2), 2) := by decide +kernel
theorem dX6_state_214 : decode cX6_state 214 = .ok (.ireturn, 1) := by decide +kernel
theorem dX6_record_0 : decode cX6_record 0 = .ok (.aload_n 0, 1) := by decide +kernel
theorem dX6_record_1 : decode cX6_record 1 = .ok (.getfield 28, 3) := by decide +kernel
theorem dX6_record_4 : decode cX6_record 4 = .ok (.invokevirtual 84, 3) := by decide +kernel
theorem dX6_record_7 : decode cX6_record 7 = .ok (.ifCond .ne 6, 3) := by decide +kernel
theorem dX6_record_10 : decode cX6_record 10 = .ok (.bipush (-5), 2) := by decide +kernel
theorem dX6_record_12 : decode cX6_record 12 = .ok (.ireturn, 1) := by decide +kernel
theorem dX6_record_13 : decode cX6_record 13 = .ok (.aload_n 0, 1) := by decide +kernel
theorem dX6_record_14 : decode cX6_record 14 = .ok (.getfield 28, 3) := by decide +kernel
theorem dX6_record_17 : decode cX6_record 17 = .ok (.invokevirtual 101, 3) := by decide +kernel
theorem dX6_record_20 : decode cX6_record 20 = .ok (.iload_n 1, 1) := by decide +kernel
theorem dX6_record_21 : decode cX6_record 21 = .ok (.invokevirtual 65, 3) := by decide +kernel
theorem dX6_record_24 : decode cX6_record 24 = .ok (.ifCond .eq 14, 3) := by decide +kernel
theorem dX6_record_27 : decode cX6_record 27 = .ok (.aload_n 0, 1) := by decide +kernel
theorem dX6_record_28 : decode cX6_record 28 = .ok (.getfield 28, 3) := by decide +kernel
theorem dX6_record_31 : decode cX6_record 31 = .ok (.iload_n 1, 1) := by decide +kernel
theorem dX6_record_32 : decode cX6_record 32 = .ok (.invokevirtual 183, 3) := by decide +kernel
theorem dX6_record_35 : decode cX6_record 35 = .ok (.goto 4, 3) := by decide +kernel
theorem dX6_record_38 : decode cX6_record 38 = .ok (.iconst (-1), 1) := by decide +kernel
theorem dX6_record_39 : decode cX6_record 39 = .ok (.ireturn, 1) := by decide +kernel
theorem dX6_ifMigrated_0 : decode cX6_ifMigrated 0 = .ok (.aload_n 0, 1) := by decide +kernel
theorem dX6_ifMigrated_1 : decode cX6_ifMigrated 1 = .ok (.getfield 28, 3) := by decide +kernel
theorem dX6_ifMigrated_4 : decode cX6_ifMigrated 4 = .ok (.invokevirtual 116, 3) := by decide +kernel
theorem dX6_ifMigrated_7 : decode cX6_ifMigrated 7 = .ok (.ifCond .ne 6, 3) := by decide +kernel
theorem dX6_ifMigrated_10 : decode cX6_ifMigrated 10 = .ok (.bipush (-5), 2) := by decide +kernel
theorem dX6_ifMigrated_12 : decode cX6_ifMigrated 12 = .ok (.ireturn, 1) := by decide +kernel
theorem dX6_ifMigrated_13 : decode cX6_ifMigrated 13 = .ok (.aload_n 0, 1) := by decide +kernel
theorem dX6_ifMigrated_14 : decode cX6_ifMigrated 14 = .ok (.getfield 19, 3) := by decide +kernel
theorem dX6_ifMigrated_17 : decode cX6_ifMigrated 17 = .ok (.iload_n 1, 1) := by decide +kernel
theorem dX6_ifMigrated_18 : decode cX6_ifMigrated 18 = .ok (.invokevirtual 61, 3) := by decide +kernel
theorem dX6_ifMigrated_21 : decode cX6_ifMigrated 21 = .ok (.iload_n 2, 1) := by decide +kernel
theorem dX6_ifMigrated_22 : decode cX6_ifMigrated 22 = .ok (.invokevirtual 65, 3) := by decide +kernel
theorem dX6_ifMigrated_25 : decode cX6_ifMigrated 25 = .ok (.ifCond .ne 5, 3) := by decide +kernel
theorem dX6_ifMigrated_28 : decode cX6_ifMigrated 28 = .ok (.iconst (-1), 1) := by decide +kernel
theorem dX6_ifMigrated_29 : decode cX6_ifMigrated 29 = .ok (.ireturn, 1) := by decide +kernel
theorem dX6_ifMigrated_30 : decode cX6_ifMigrated 30 = .ok (.iload_n 1, 1) := by decide +kernel
theorem dX6_ifMigrated_31 : decode cX6_ifMigrated 31 = .ok (.aload_n 0, 1) := by decide +kernel
theorem dX6_ifMigrated_32 : decode cX6_ifMigrated 32 = .ok (.getfield 28, 3) := by decide +kernel
theorem dX6_ifMigrated_35 : decode cX6_ifMigrated 35 = .ok (.invokevirtual 119, 3) := by decide +kernel
theorem dX6_ifMigrated_38 : decode cX6_ifMigrated 38 = .ok (.if_icmp .gt 6, 3) := by decide +kernel
theorem dX6_ifMigrated_41 : decode cX6_ifMigrated 41 = .ok (.bipush (-2), 2) := by decide +kernel
theorem dX6_ifMigrated_43 : decode cX6_ifMigrated 43 = .ok (.ireturn, 1) := by decide +kernel
theorem dX6_ifMigrated_44 : decode cX6_ifMigrated 44 = .ok (.aload_n 0, 1) := by decide +kernel
theorem dX6_ifMigrated_45 : decode cX6_ifMigrated 45 = .ok (.getfield 28, 3) := by decide +kernel
theorem dX6_ifMigrated_48 : decode cX6_ifMigrated 48 = .ok (.iload_n 1, 1) := by decide +kernel
theorem dX6_ifMigrated_49 : decode cX6_ifMigrated 49 = .ok (.iload_n 2, 1) := by decide +kernel
theorem dX6_ifMigrated_50 : decode cX6_ifMigrated 50 = .ok (.invokevirtual 186, 3) := by decide +kernel
theorem dX6_ifMigrated_53 : decode cX6_ifMigrated 53 = .ok (.ireturn, 1) := by decide +kernel
theorem dX6_ifFailed_0 : decode cX6_ifFailed 0 = .ok (.aload_n 0, 1) := by decide +kernel
theorem dX6_ifFailed_1 : decode cX6_ifFailed 1 = .ok (.getfield 28, 3) := by decide +kernel
theorem dX6_ifFailed_4 : decode cX6_ifFailed 4 = .ok (.invokevirtual 84, 3) := by decide +kernel
theorem dX6_ifFailed_7 : decode cX6_ifFailed 7 = .ok (.ifCond .ne 6, 3) := by decide +kernel
theorem dX6_ifFailed_10 : decode cX6_ifFailed 10 = .ok (.bipush (-5), 2) := by decide +kernel
theorem dX6_ifFailed_12 : decode cX6_ifFailed 12 = .ok (.ireturn, 1) := by decide +kernel
theorem dX6_ifFailed_13 : decode cX6_ifFailed 13 = .ok (.aload_n 0, 1) := by decide +kernel
theorem dX6_ifFailed_14 : decode cX6_ifFailed 14 = .ok (.getfield 28, 3) := by decide +kernel
theorem dX6_ifFailed_17 : decode cX6_ifFailed 17 = .ok (.invokevirtual 101, 3) := by decide +kernel
theorem dX6_ifFailed_20 : decode cX6_ifFailed 20 = .ok (.astore 5, 2) := by decide +kernel
theorem dX6_ifFailed_22 : decode cX6_ifFailed 22 = .ok (.aload 5, 2) := by decide +kernel
theorem dX6_ifFailed_24 : decode cX6_ifFailed 24 = .ok (.iload_n 1, 1) := by decide +kernel
theorem dX6_ifFailed_25 : decode cX6_ifFailed 25 = .ok (.invokevirtual 65, 3) := by decide +kernel
theorem dX6_ifFailed_28 : decode cX6_ifFailed 28 = .ok (.ifCond .eq 13, 3) := by decide +kernel
theorem dX6_ifFailed_31 : decode cX6_ifFailed 31 = .ok (.aload 5, 2) := by decide +kernel
theorem dX6_ifFailed_33 : decode cX6_ifFailed 33 = .ok (.iload 4, 2) := by decide +kernel
theorem dX6_ifFailed_35 : decode cX6_ifFailed 35 = .ok (.invokevirtual 65, 3) := by decide +kernel
theorem dX6_ifFailed_38 : decode cX6_ifFailed 38 = .ok (.ifCond .ne 5, 3) := by decide +kernel
theorem dX6_ifFailed_41 : decode cX6_ifFailed 41 = .ok (.iconst (-1), 1) := by decide +kernel
theorem dX6_ifFailed_42 : decode cX6_ifFailed 42 = .ok (.ireturn, 1) := by decide +kernel
theorem dX6_ifFailed_43 : decode cX6_ifFailed 43 = .ok (.aload 5, 2) := by decide +kernel
theorem dX6_ifFailed_45 : decode cX6_ifFailed 45 = .ok (.iload_n 1, 1) := by decide +kernel
theorem dX6_ifFailed_46 : decode cX6_ifFailed 46 = .ok (.iload_n 2, 1) := by decide +kernel
theorem dX6_ifFailed_47 : decode cX6_ifFailed 47 = .ok (.invokevirtual 108, 3) := by decide +kernel
theorem dX6_ifFailed_50 : decode cX6_ifFailed 50 = .ok (.ifCond .eq 10, 3) := by decide +kernel
theorem dX6_ifFailed_53 : decode cX6_ifFailed 53 = .ok (.iload_n 3, 1) := by decide +kernel
theorem dX6_ifFailed_54 : decode cX6_ifFailed 54 = .ok (.invokestatic 81, 3) := by decide +kernel
theorem dX6_ifFailed_57 : decode cX6_ifFailed 57 = .ok (.ifCond .ne 6, 3) := by decide +kernel
theorem dX6_ifFailed_60 : decode cX6_ifFailed 60 = .ok (.bipush (-2), 2) := by decide +kernel
theorem dX6_ifFailed_62 : decode cX6_ifFailed 62 = .ok (.ireturn, 1) := by decide +kernel
theorem dX6_ifFailed_63 : decode cX6_ifFailed 63 = .ok (.aload_n 0, 1) := by decide +kernel
theorem dX6_ifFailed_64 : decode cX6_ifFailed 64 = .ok (.getfield 32, 3) := by decide +kernel
theorem dX6_ifFailed_67 : decode cX6_ifFailed 67 = .ok (.aload_n 0, 1) := by decide +kernel
theorem dX6_ifFailed_68 : decode cX6_ifFailed 68 = .ok (.getfield 28, 3) := by decide +kernel
theorem dX6_ifFailed_71 : decode cX6_ifFailed 71 = .ok (.invokevirtual 189, 3) := by decide +kernel
theorem dX6_ifFailed_74 : decode cX6_ifFailed 74 = .ok (.aload_n 0, 1) := by decide +kernel
theorem dX6_ifFailed_75 : decode cX6_ifFailed 75 = .ok (.getfield 32, 3) := by decide +kernel
theorem dX6_ifFailed_78 : decode cX6_ifFailed 78 = .ok (.iload_n 3, 1) := by decide +kernel
theorem dX6_ifFailed_79 : decode cX6_ifFailed 79 = .ok (.invokevirtual 91, 3) := by decide +kernel
theorem dX6_ifFailed_82 : decode cX6_ifFailed 82 = .ok (.aload_n 0, 1) := by decide +kernel
theorem dX6_ifFailed_83 : decode cX6_ifFailed 83 = .ok (.getfield 32, 3) := by decide +kernel
theorem dX6_ifFailed_86 : decode cX6_ifFailed 86 = .ok (.iload_n 1, 1) := by decide +kernel
theorem dX6_ifFailed_87 : decode cX6_ifFailed 87 = .ok (.iload_n 2, 1) := by decide +kernel
theorem dX6_ifFailed_88 : decode cX6_ifFailed 88 = .ok (.invokevirtual 112, 3) := by decide +kernel
theorem dX6_ifFailed_91 : decode cX6_ifFailed 91 = .ok (.pop, 1) := by decide +kernel
theorem dX6_ifFailed_92 : decode cX6_ifFailed 92 = .ok (.aload_n 0, 1) := by decide +kernel
theorem dX6_ifFailed_93 : decode cX6_ifFailed 93 = .ok (.getfield 32, 3) := by decide +kernel
theorem dX6_ifFailed_96 : decode cX6_ifFailed 96 = .ok (.invokevirtual 95, 3) := by decide +kernel
theorem dX6_ifFailed_99 : decode cX6_ifFailed 99 = .ok (.aload_n 0, 1) := by decide +kernel
theorem dX6_ifFailed_100 : decode cX6_ifFailed 100 = .ok (.getfield 32, 3) := by decide +kernel
theorem dX6_ifFailed_103 : decode cX6_ifFailed 103 = .ok (.invokevirtual 101, 3) := by decide +kernel
theorem dX6_ifFailed_106 : decode cX6_ifFailed 106 = .ok (.iload 4, 2) := by decide +kernel
theorem dX6_ifFailed_108 : decode cX6_ifFailed 108 = .ok (.invokevirtual 65, 3) := by decide +kernel
theorem dX6_ifFailed_111 : decode cX6_ifFailed 111 = .ok (.ifCond .eq 15, 3) := by decide +kernel
theorem dX6_ifFailed_114 : decode cX6_ifFailed 114 = .ok (.aload_n 0, 1) := by decide +kernel
theorem dX6_ifFailed_115 : decode cX6_ifFailed 115 = .ok (.getfield 32, 3) := by decide +kernel
theorem dX6_ifFailed_118 : decode cX6_ifFailed 118 = .ok (.iload 4, 2) := by decide +kernel
theorem dX6_ifFailed_120 : decode cX6_ifFailed 120 = .ok (.invokevirtual 105, 3) := by decide +kernel
theorem dX6_ifFailed_123 : decode cX6_ifFailed 123 = .ok (.goto 5, 3) := by decide +kernel
theorem dX6_ifFailed_126 : decode cX6_ifFailed 126 = .ok (.bipush (-6), 2) := by decide +kernel
theorem dX6_ifFailed_128 : decode cX6_ifFailed 128 = .ok (.ireturn, 1) := by decide +kernel
theorem dX6_put_0 : decode cX6_put 0 = .ok (.aload_n 0, 1) := by decide +kernel
theorem dX6_put_1 : decode cX6_put 1 = .ok (.getfield 10, 3) := by decide +kernel
theorem dX6_put_4 : decode cX6_put 4 = .ok (.lload_n 1, 1) := by decide +kernel
theorem dX6_put_5 : decode cX6_put 5 = .ok (.invokevirtual 193, 3) := by decide +kernel
theorem dX6_put_8 : decode cX6_put 8 = .ok (.ireturn, 1) := by decide +kernel
theorem dX6_wipe_0 : decode cX6_wipe 0 = .ok (.aload_n 0, 1) := by decide +kernel
theorem dX6_wipe_1 : decode cX6_wipe 1 = .ok (.getfield 10, 3) := by decide +kernel
theorem dX6_wipe_4 : decode cX6_wipe 4 = .ok (.invokevirtual 180, 3) := by decide +kernel
theorem dX6_wipe_7 : decode cX6_wipe 7 = .ok (.istore_n 1, 1) := by decide +kernel
theorem dX6_wipe_8 : decode cX6_wipe 8 = .ok (.aload_n 0, 1) := by decide +kernel
theorem dX6_wipe_9 : decode cX6_wipe 9 = .ok (.getfield 10, 3) := by decide +kernel
theorem dX6_wipe_12 : decode cX6_wipe 12 = .ok (.invokevirtual 58, 3) := by decide +kernel
theorem dX6_wipe_15 : decode cX6_wipe 15 = .ok (.iload_n 1, 1) := by decide +kernel
theorem dX6_wipe_16 : decode cX6_wipe 16 = .ok (.ireturn, 1) := by decide +kernel
theorem dX6_fault_0 : decode cX6_fault 0 = .ok (.aload_n 0, 1) := by decide +kernel
theorem dX6_fault_1 : decode cX6_fault 1 = .ok (.getfield 10, 3) := by decide +kernel
theorem dX6_fault_4 : decode cX6_fault 4 = .ok (.invokevirtual 43, 3) := by decide +kernel
theorem dX6_fault_7 : decode cX6_fault 7 = .ok (.ireturn, 1) := by decide +kernel
theorem dX6_keep_0 : decode cX6_keep 0 = .ok (.iload_n 1, 1) := by decide +kernel
theorem dX6_keep_1 : decode cX6_keep 1 = .ok (.invokestatic 197, 3) := by decide +kernel
theorem dX6_keep_4 : decode cX6_keep 4 = .ok (.ifCond .ne 6, 3) := by decide +kernel
theorem dX6_keep_7 : decode cX6_keep 7 = .ok (.bipush (-2), 2) := by decide +kernel
theorem dX6_keep_9 : decode cX6_keep 9 = .ok (.ireturn, 1) := by decide +kernel
theorem dX6_keep_10 : decode cX6_keep 10 = .ok (.aload_n 0, 1) := by decide +kernel
theorem dX6_keep_11 : decode cX6_keep 11 = .ok (.getfield 35, 3) := by decide +kernel
theorem dX6_keep_14 : decode cX6_keep 14 = .ok (.iload_n 1, 1) := by decide +kernel
theorem dX6_keep_15 : decode cX6_keep 15 = .ok (.aaload, 1) := by decide +kernel
theorem dX6_keep_16 : decode cX6_keep 16 = .ok (.aload_n 0, 1) := by decide +kernel
theorem dX6_keep_17 : decode cX6_keep 17 = .ok (.getfield 28, 3) := by decide +kernel
theorem dX6_keep_20 : decode cX6_keep 20 = .ok (.invokevirtual 189, 3) := by decide +kernel
theorem dX6_keep_23 : decode cX6_keep 23 = .ok (.aload_n 0, 1) := by decide +kernel
theorem dX6_keep_24 : decode cX6_keep 24 = .ok (.getfield 39, 3) := by decide +kernel
theorem dX6_keep_27 : decode cX6_keep 27 = .ok (.iload_n 1, 1) := by decide +kernel
theorem dX6_keep_28 : decode cX6_keep 28 = .ok (.iconst 1, 1) := by decide +kernel
theorem dX6_keep_29 : decode cX6_keep 29 = .ok (.bastore, 1) := by decide +kernel
theorem dX6_keep_30 : decode cX6_keep 30 = .ok (.aload_n 0, 1) := by decide +kernel
theorem dX6_keep_31 : decode cX6_keep 31 = .ok (.getfield 28, 3) := by decide +kernel
theorem dX6_keep_34 : decode cX6_keep 34 = .ok (.invokevirtual 98, 3) := by decide +kernel
theorem dX6_keep_37 : decode cX6_keep 37 = .ok (.ireturn, 1) := by decide +kernel
theorem dX6_back_0 : decode cX6_back 0 = .ok (.iload_n 1, 1) := by decide +kernel
theorem dX6_back_1 : decode cX6_back 1 = .ok (.invokestatic 197, 3) := by decide +kernel
theorem dX6_back_4 : decode cX6_back 4 = .ok (.ifCond .ne 6, 3) := by decide +kernel
theorem dX6_back_7 : decode cX6_back 7 = .ok (.bipush (-2), 2) := by decide +kernel
theorem dX6_back_9 : decode cX6_back 9 = .ok (.ireturn, 1) := by decide +kernel
theorem dX6_back_10 : decode cX6_back 10 = .ok (.aload_n 0, 1) := by decide +kernel
theorem dX6_back_11 : decode cX6_back 11 = .ok (.getfield 39, 3) := by decide +kernel
theorem dX6_back_14 : decode cX6_back 14 = .ok (.iload_n 1, 1) := by decide +kernel
theorem dX6_back_15 : decode cX6_back 15 = .ok (.baload, 1) := by decide +kernel
theorem dX6_back_16 : decode cX6_back 16 = .ok (.ifCond .ne 6, 3) := by decide +kernel
theorem dX6_back_19 : decode cX6_back 19 = .ok (.bipush (-5), 2) := by decide +kernel
theorem dX6_back_21 : decode cX6_back 21 = .ok (.ireturn, 1) := by decide +kernel
theorem dX6_back_22 : decode cX6_back 22 = .ok (.aload_n 0, 1) := by decide +kernel
theorem dX6_back_23 : decode cX6_back 23 = .ok (.getfield 28, 3) := by decide +kernel
theorem dX6_back_26 : decode cX6_back 26 = .ok (.aload_n 0, 1) := by decide +kernel
theorem dX6_back_27 : decode cX6_back 27 = .ok (.getfield 35, 3) := by decide +kernel
theorem dX6_back_30 : decode cX6_back 30 = .ok (.iload_n 1, 1) := by decide +kernel
theorem dX6_back_31 : decode cX6_back 31 = .ok (.aaload, 1) := by decide +kernel
theorem dX6_back_32 : decode cX6_back 32 = .ok (.invokevirtual 189, 3) := by decide +kernel
theorem dX6_back_35 : decode cX6_back 35 = .ok (.aload_n 0, 1) := by decide +kernel
theorem dX6_back_36 : decode cX6_back 36 = .ok (.getfield 28, 3) := by decide +kernel
theorem dX6_back_39 : decode cX6_back 39 = .ok (.invokevirtual 98, 3) := by decide +kernel
theorem dX6_back_42 : decode cX6_back 42 = .ok (.ireturn, 1) := by decide +kernel
theorem dX6_isPage_0 : decode cX6_isPage 0 = .ok (.iload_n 0, 1) := by decide +kernel
theorem dX6_isPage_1 : decode cX6_isPage 1 = .ok (.ifCond .lt 12, 3) := by decide +kernel
theorem dX6_isPage_4 : decode cX6_isPage 4 = .ok (.iload_n 0, 1) := by decide +kernel
theorem dX6_isPage_5 : decode cX6_isPage 5 = .ok (.iconst 2, 1) := by decide +kernel
theorem dX6_isPage_6 : decode cX6_isPage 6 = .ok (.if_icmp .ge 7, 3) := by decide +kernel
theorem dX6_isPage_9 : decode cX6_isPage 9 = .ok (.iconst 1, 1) := by decide +kernel
theorem dX6_isPage_10 : decode cX6_isPage 10 = .ok (.goto 4, 3) := by decide +kernel
theorem dX6_isPage_13 : decode cX6_isPage 13 = .ok (.iconst 0, 1) := by decide +kernel
theorem dX6_isPage_14 : decode cX6_isPage 14 = .ok (.ireturn, 1) := by decide +kernel
theorem dX6_isCell_0 : decode cX6_isCell 0 = .ok (.iload_n 0, 1) := by decide +kernel
theorem dX6_isCell_1 : decode cX6_isCell 1 = .ok (.invokestatic 145, 3) := by decide +kernel
theorem dX6_isCell_4 : decode cX6_isCell 4 = .ok (.ifCond .eq 17, 3) := by decide +kernel
theorem dX6_isCell_7 : decode cX6_isCell 7 = .ok (.iload_n 1, 1) := by decide +kernel
theorem dX6_isCell_8 : decode cX6_isCell 8 = .ok (.ifCond .lt 13, 3) := by decide +kernel
theorem dX6_isCell_11 : decode cX6_isCell 11 = .ok (.iload_n 1, 1) := by decide +kernel
theorem dX6_isCell_12 : decode cX6_isCell 12 = .ok (.bipush 48, 2) := by decide +kernel
theorem dX6_isCell_14 : decode cX6_isCell 14 = .ok (.if_icmp .ge 7, 3) := by decide +kernel
theorem dX6_isCell_17 : decode cX6_isCell 17 = .ok (.iconst 1, 1) := by decide +kernel
theorem dX6_isCell_18 : decode cX6_isCell 18 = .ok (.goto 4, 3) := by decide +kernel
theorem dX6_isCell_21 : decode cX6_isCell 21 = .ok (.iconst 0, 1) := by decide +kernel
theorem dX6_isCell_22 : decode cX6_isCell 22 = .ok (.ireturn, 1) := by decide +kernel
theorem dX6_isImage_0 : decode cX6_isImage 0 = .ok (.iload_n 0, 1) := by decide +kernel
theorem dX6_isImage_1 : decode cX6_isImage 1 = .ok (.ifCond .lt 12, 3) := by decide +kernel
theorem dX6_isImage_4 : decode cX6_isImage 4 = .ok (.iload_n 0, 1) := by decide +kernel
theorem dX6_isImage_5 : decode cX6_isImage 5 = .ok (.iconst 2, 1) := by decide +kernel
theorem dX6_isImage_6 : decode cX6_isImage 6 = .ok (.if_icmp .ge 7, 3) := by decide +kernel
theorem dX6_isImage_9 : decode cX6_isImage 9 = .ok (.iconst 1, 1) := by decide +kernel
theorem dX6_isImage_10 : decode cX6_isImage 10 = .ok (.goto 4, 3) := by decide +kernel
theorem dX6_isImage_13 : decode cX6_isImage 13 = .ok (.iconst 0, 1) := by decide +kernel
theorem dX6_isImage_14 : decode cX6_isImage 14 = .ok (.ireturn, 1) := by decide +kernel
theorem dX6_isCountOfWrites_0 : decode cX6_isCountOfWrites 0 = .ok (.iload_n 0, 1) := by decide +kernel
theorem dX6_isCountOfWrites_1 : decode cX6_isCountOfWrites 1 = .ok (.ifCond .lt 14, 3) := by decide +kernel
theorem dX6_isCountOfWrites_4 : decode cX6_isCountOfWrites 4 = .ok (.iload_n 0, 1) := by decide +kernel
theorem dX6_isCountOfWrites_5 : decode cX6_isCountOfWrites 5 = .ok (.sipush 200, 3) := by decide +kernel
theorem dX6_isCountOfWrites_8 : decode cX6_isCountOfWrites 8 = .ok (.if_icmp .gt 7, 3) := by decide +kernel
theorem dX6_isCountOfWrites_11 : decode cX6_isCountOfWrites 11 = .ok (.iconst 1, 1) := by decide +kernel
theorem dX6_isCountOfWrites_12 : decode cX6_isCountOfWrites 12 = .ok (.goto 4, 3) := by decide +kernel
theorem dX6_isCountOfWrites_15 : decode cX6_isCountOfWrites 15 = .ok (.iconst 0, 1) := by decide +kernel
theorem dX6_isCountOfWrites_16 : decode cX6_isCountOfWrites 16 = .ok (.ireturn, 1) := by decide +kernel
theorem dX6_isName_0 : decode cX6_isName 0 = .ok (.iload_n 0, 1) := by decide +kernel
theorem dX6_isName_1 : decode cX6_isName 1 = .ok (.ifCond .lt 13, 3) := by decide +kernel
theorem dX6_isName_4 : decode cX6_isName 4 = .ok (.iload_n 0, 1) := by decide +kernel
theorem dX6_isName_5 : decode cX6_isName 5 = .ok (.bipush 10, 2) := by decide +kernel
theorem dX6_isName_7 : decode cX6_isName 7 = .ok (.if_icmp .ge 7, 3) := by decide +kernel
theorem dX6_isName_10 : decode cX6_isName 10 = .ok (.iconst 1, 1) := by decide +kernel
theorem dX6_isName_11 : decode cX6_isName 11 = .ok (.goto 4, 3) := by decide +kernel
theorem dX6_isName_14 : decode cX6_isName 14 = .ok (.iconst 0, 1) := by decide +kernel
theorem dX6_isName_15 : decode cX6_isName 15 = .ok (.ireturn, 1) := by decide +kernel
theorem dX7_init_0 : decode cX7_init 0 = .ok (.aload_n 0, 1) := by decide +kernel
theorem dX7_init_1 : decode cX7_init 1 = .ok (.invokespecial 1, 3) := by decide +kernel
theorem dX7_init_4 : decode cX7_init 4 = .ok (.aload_n 0, 1) := by decide +kernel
theorem dX7_init_5 : decode cX7_init 5 = .ok (.bipush 127, 2) := by decide +kernel
theorem dX7_init_7 : decode cX7_init 7 = .ok (.newarray .int, 2) := by decide +kernel
theorem dX7_init_9 : decode cX7_init 9 = .ok (.putfield 7, 3) := by decide +kernel
theorem dX7_init_12 : decode cX7_init 12 = .ok (.aload_n 0, 1) := by decide +kernel
theorem dX7_init_13 : decode cX7_init 13 = .ok (.bipush 127, 2) := by decide +kernel
theorem dX7_init_15 : decode cX7_init 15 = .ok (.newarray .int, 2) := by decide +kernel
theorem dX7_init_17 : decode cX7_init 17 = .ok (.putfield 13, 3) := by decide +kernel
theorem dX7_init_20 : decode cX7_init 20 = .ok (.aload_n 0, 1) := by decide +kernel
theorem dX7_init_21 : decode cX7_init 21 = .ok (.sipush 254, 3) := by decide +kernel
theorem dX7_init_24 : decode cX7_init 24 = .ok (.newarray .int, 2) := by decide +kernel
theorem dX7_init_26 : decode cX7_init 26 = .ok (.putfield 16, 3) := by decide +kernel
theorem dX7_init_29 : decode cX7_init 29 = .ok (.aload_n 0, 1) := by decide +kernel
theorem dX7_init_30 : decode cX7_init 30 = .ok (.iconst 2, 1) := by decide +kernel
theorem dX7_init_31 : decode cX7_init 31 = .ok (.newarray .boolean, 2) := by decide +kernel
theorem dX7_init_33 : decode cX7_init 33 = .ok (.putfield 19, 3) := by decide +kernel
theorem dX7_init_36 : decode cX7_init 36 = .ok (.aload_n 0, 1) := by decide +kernel
theorem dX7_init_37 : decode cX7_init 37 = .ok (.bipush 80, 2) := by decide +kernel
theorem dX7_init_39 : decode cX7_init 39 = .ok (.newarray .int, 2) := by decide +kernel
theorem dX7_init_41 : decode cX7_init 41 = .ok (.putfield 23, 3) := by decide +kernel
theorem dX7_init_44 : decode cX7_init 44 = .ok (.aload_n 0, 1) := by decide +kernel
theorem dX7_init_45 : decode cX7_init 45 = .ok (.bipush 60, 2) := by decide +kernel
theorem dX7_init_47 : decode cX7_init 47 = .ok (.newarray .boolean, 2) := by decide +kernel
theorem dX7_init_49 : decode cX7_init 49 = .ok (.putfield 26, 3) := by decide +kernel
theorem dX7_init_52 : decode cX7_init 52 = .ok (.aload_n 0, 1) := by decide +kernel
theorem dX7_init_53 : decode cX7_init 53 = .ok (.bipush 60, 2) := by decide +kernel
theorem dX7_init_55 : decode cX7_init 55 = .ok (.newarray .int, 2) := by decide +kernel
theorem dX7_init_57 : decode cX7_init 57 = .ok (.putfield 29, 3) := by decide +kernel
theorem dX7_init_60 : decode cX7_init 60 = .ok (.aload_n 0, 1) := by decide +kernel
theorem dX7_init_61 : decode cX7_init 61 = .ok (.bipush 60, 2) := by decide +kernel
theorem dX7_init_63 : decode cX7_init 63 = .ok (.newarray .int, 2) := by decide +kernel
theorem dX7_init_65 : decode cX7_init 65 = .ok (.putfield 32, 3) := by decide +kernel
theorem dX7_init_68 : decode cX7_init 68 = .ok (.aload_n 0, 1) := by decide +kernel
theorem dX7_init_69 : decode cX7_init 69 = .ok (.bipush 60, 2) := by decide +kernel
theorem dX7_init_71 : decode cX7_init 71 = .ok (.newarray .int, 2) := by decide +kernel
theorem dX7_init_73 : decode cX7_init 73 = .ok (.putfield 35, 3) := by decide +kernel
theorem dX7_init_76 : decode cX7_init 76 = .ok (.aload_n 0, 1) := by decide +kernel
theorem dX7_init_77 : decode cX7_init 77 = .ok (.bipush 6, 2) := by decide +kernel
theorem dX7_init_79 : decode cX7_init 79 = .ok (.newarray .int, 2) := by decide +kernel
theorem dX7_init_81 : decode cX7_init 81 = .ok (.putfield 38, 3) := by decide +kernel
theorem dX7_init_84 : decode cX7_init 84 = .ok (.aload_n 0, 1) := by decide +kernel
theorem dX7_init_85 : decode cX7_init 85 = .ok (.sipush 168, 3) := by decide +kernel
theorem dX7_init_88 : decode cX7_init 88 = .ok (.newarray .int, 2) := by decide +kernel
theorem dX7_init_90 : decode cX7_init 90 = .ok (.putfield 41, 3) := by decide +kernel
theorem dX7_init_93 : decode cX7_init 93 = .ok (.aload_n 0, 1) := by decide +kernel
theorem dX7_init_94 : decode cX7_init 94 = .ok (.sipush 168, 3) := by decide +kernel
theorem dX7_init_97 : decode cX7_init 97 = .ok (.newarray .int, 2) := by decide +kernel
theorem dX7_init_99 : decode cX7_init 99 = .ok (.putfield 44, 3) := by decide +kernel
theorem dX7_init_102 : decode cX7_init 102 = .ok (.aload_n 0, 1) := by decide +kernel
theorem dX7_init_103 : decode cX7_init 103 = .ok (.sipush 168, 3) := by decide +kernel
theorem dX7_init_106 : decode cX7_init 106 = .ok (.newarray .int, 2) := by decide +kernel
theorem dX7_init_108 : decode cX7_init 108 = .ok (.putfield 47, 3) := by decide +kernel
theorem dX7_init_111 : decode cX7_init 111 = .ok (.aload_n 0, 1) := by decide +kernel
theorem dX7_init_112 : decode cX7_init 112 = .ok (.sipush 168, 3) := by decide +kernel
theorem dX7_init_115 : decode cX7_init 115 = .ok (.newarray .int, 2) := by decide +kernel
theorem dX7_init_117 : decode cX7_init 117 = .ok (.putfield 50, 3) := by decide +kernel
theorem dX7_init_120 : decode cX7_init 120 = .ok (.aload_n 0, 1) := by decide +kernel
theorem dX7_init_121 : decode cX7_init 121 = .ok (.bipush 10, 2) := by decide +kernel
theorem dX7_init_123 : decode cX7_init 123 = .ok (.newarray .int, 2) := by decide +kernel
theorem dX7_init_125 : decode cX7_init 125 = .ok (.putfield 53, 3) := by decide +kernel
theorem dX7_init_128 : decode cX7_init 128 = .ok (.aload_n 0, 1) := by decide +kernel
theorem dX7_init_129 : decode cX7_init 129 = .ok (.bipush 10, 2) := by decide +kernel
theorem dX7_init_131 : decode cX7_init 131 = .ok (.newarray .int, 2) := by decide +kernel
theorem dX7_init_133 : decode cX7_init 133 = .ok (.putfield 56, 3) := by decide +kernel
theorem dX7_init_136 : decode cX7_init 136 = .ok (.aload_n 0, 1) := by decide +kernel
theorem dX7_init_137 : decode cX7_init 137 = .ok (.getfield 7, 3) := by decide +kernel
theorem dX7_init_140 : decode cX7_init 140 = .ok (.iconst 0, 1) := by decide +kernel
theorem dX7_init_141 : decode cX7_init 141 = .ok (.iconst 1, 1) := by decide +kernel
theorem dX7_init_142 : decode cX7_init 142 = .ok (.iastore, 1) := by decide +kernel
theorem dX7_init_143 : decode cX7_init 143 = .ok (.aload_n 0, 1) := by decide +kernel
theorem dX7_init_144 : decode cX7_init 144 = .ok (.getfield 7, 3) := by decide +kernel
theorem dX7_init_147 : decode cX7_init 147 = .ok (.iconst 1, 1) := by decide +kernel
theorem dX7_init_148 : decode cX7_init 148 = .ok (.bipush (-6), 2) := by decide +kernel
theorem dX7_init_150 : decode cX7_init 150 = .ok (.iastore, 1) := by decide +kernel
theorem dX7_init_151 : decode cX7_init 151 = .ok (.aload_n 0, 1) := by decide +kernel
theorem dX7_init_152 : decode cX7_init 152 = .ok (.getfield 7, 3) := by decide +kernel
theorem dX7_init_155 : decode cX7_init 155 = .ok (.iconst 2, 1) := by decide +kernel
theorem dX7_init_156 : decode cX7_init 156 = .ok (.bipush (-6), 2) := by decide +kernel
theorem dX7_init_158 : decode cX7_init 158 = .ok (.iastore, 1) := by decide +kernel
theorem dX7_init_159 : decode cX7_init 159 = .ok (.aload_n 0, 1) := by decide +kernel
theorem dX7_init_160 : decode cX7_init 160 = .ok (.getfield 7, 3) := by decide +kernel
theorem dX7_init_163 : decode cX7_init 163 = .ok (.iconst 3, 1) := by decide +kernel
theorem dX7_init_164 : decode cX7_init 164 = .ok (.bipush (-6), 2) := by decide +kernel
theorem dX7_init_166 : decode cX7_init 166 = .ok (.iastore, 1) := by decide +kernel
theorem dX7_init_167 : decode cX7_init 167 = .ok (.aload_n 0, 1) := by decide +kernel
theorem dX7_init_168 : decode cX7_init 168 = .ok (.getfield 7, 3) := by decide +kernel
theorem dX7_init_171 : decode cX7_init 171 = .ok (.iconst 4, 1) := by decide +kernel
theorem dX7_init_172 : decode cX7_init 172 = .ok (.bipush (-6), 2) := by decide +kernel
theorem dX7_init_174 : decode cX7_init 174 = .ok (.iastore, 1) := by decide +kernel
theorem dX7_init_175 : decode cX7_init 175 = .ok (.iconst 0, 1) := by decide +kernel
theorem dX7_init_176 : decode cX7_init 176 = .ok (.istore_n 1, 1) := by decide +kernel
theorem dX7_init_177 : decode cX7_init 177 = .ok (.iload_n 1, 1) := by decide +kernel
theorem dX7_init_178 : decode cX7_init 178 = .ok (.bipush 96, 2) := by decide +kernel
theorem dX7_init_180 : decode cX7_init 180 = .ok (.if_icmp .ge 20, 3) := by decide +kernel
theorem dX7_init_183 : decode cX7_init 183 = .ok (.aload_n 0, 1) := by decide +kernel
theorem dX7_init_184 : decode cX7_init 184 = .ok (.getfield 7, 3) := by decide +kernel
theorem dX7_init_187 : decode cX7_init 187 = .ok (.bipush 21, 2) := by decide +kernel
theorem dX7_init_189 : decode cX7_init 189 = .ok (.iload_n 1, 1) := by decide +kernel
theorem dX7_init_190 : decode cX7_init 190 = .ok (.iadd, 1) := by decide +kernel
theorem dX7_init_191 : decode cX7_init 191 = .ok (.bipush (-6), 2) := by decide +kernel
theorem dX7_init_193 : decode cX7_init 193 = .ok (.iastore, 1) := by decide +kernel
theorem dX7_init_194 : decode cX7_init 194 = .ok (.iinc 1 1, 3) := by decide +kernel
theorem dX7_init_197 : decode cX7_init 197 = .ok (.goto (-20), 3) := by decide +kernel
theorem dX7_init_200 : decode cX7_init 200 = .ok (.return_, 1) := by decide +kernel
theorem dX7_in_0 : decode cX7_in 0 = .ok (.iload_n 0, 1) := by decide +kernel
theorem dX7_in_1 : decode cX7_in 1 = .ok (.iload_n 1, 1) := by decide +kernel
theorem dX7_in_2 : decode cX7_in 2 = .ok (.if_icmp .lt 12, 3) := by decide +kernel
theorem dX7_in_5 : decode cX7_in 5 = .ok (.iload_n 0, 1) := by decide +kernel
theorem dX7_in_6 : decode cX7_in 6 = .ok (.iload_n 2, 1) := by decide +kernel
theorem dX7_in_7 : decode cX7_in 7 = .ok (.if_icmp .gt 7, 3) := by decide +kernel
theorem dX7_in_10 : decode cX7_in 10 = .ok (.iconst 1, 1) := by decide +kernel
theorem dX7_in_11 : decode cX7_in 11 = .ok (.goto 4, 3) := by decide +kernel
theorem dX7_in_14 : decode cX7_in 14 = .ok (.iconst 0, 1) := by decide +kernel
theorem dX7_in_15 : decode cX7_in 15 = .ok (.ireturn, 1) := by decide +kernel
theorem dX7_less_0 : decode cX7_less 0 = .ok (.iload_n 0, 1) := by decide +kernel
theorem dX7_less_1 : decode cX7_less 1 = .ok (.iload_n 1, 1) := by decide +kernel
theorem dX7_less_2 : decode cX7_less 2 = .ok (.if_icmp .ge 7, 3) := by decide +kernel
theorem dX7_less_5 : decode cX7_less 5 = .ok (.iload_n 0, 1) := by decide +kernel
theorem dX7_less_6 : decode cX7_less 6 = .ok (.goto 4, 3) := by decide +kernel
theorem dX7_less_9 : decode cX7_less 9 = .ok (.iload_n 1, 1) := by decide +kernel
theorem dX7_less_10 : decode cX7_less 10 = .ok (.ireturn, 1) := by decide +kernel
theorem dX7_isVersion_0 : decode cX7_isVersion 0 = .ok (.iload_n 1, 1) := by decide +kernel
theorem dX7_isVersion_1 : decode cX7_isVersion 1 = .ok (.ifCond .lt 15, 3) := by decide +kernel
theorem dX7_isVersion_4 : decode cX7_isVersion 4 = .ok (.iload_n 1, 1) := by decide +kernel
theorem dX7_isVersion_5 : decode cX7_isVersion 5 = .ok (.aload_n 0, 1) := by decide +kernel
theorem dX7_isVersion_6 : decode cX7_isVersion 6 = .ok (.getfield 59, 3) := by decide +kernel
theorem dX7_isVersion_9 : decode cX7_isVersion 9 = .ok (.if_icmp .ge 7, 3) := by decide +kernel
theorem dX7_isVersion_12 : decode cX7_isVersion 12 = .ok (.iconst 1, 1) := by decide +kernel
theorem dX7_isVersion_13 : decode cX7_isVersion 13 = .ok (.goto 4, 3) := by decide +kernel
theorem dX7_isVersion_16 : decode cX7_isVersion 16 = .ok (.iconst 0, 1) := by decide +kernel
theorem dX7_isVersion_17 : decode cX7_isVersion 17 = .ok (.ireturn, 1) := by decide +kernel
theorem dX7_hasSetting_0 : decode cX7_hasSetting 0 = .ok (.iload_n 2, 1) := by decide +kernel
theorem dX7_hasSetting_1 : decode cX7_hasSetting 1 = .ok (.iconst 0, 1) := by decide +kernel
theorem dX7_hasSetting_2 : decode cX7_hasSetting 2 = .ok (.bipush 9, 2) := by decide +kernel
theorem dX7_hasSetting_4 : decode cX7_hasSetting 4 = .ok (.invokestatic 63, 3) := by decide +kernel
theorem dX7_hasSetting_7 : decode cX7_hasSetting 7 = .ok (.ifCond .eq 21, 3) := by decide +kernel
theorem dX7_hasSetting_10 : decode cX7_hasSetting 10 = .ok (.aload_n 0, 1) := by decide +kernel
theorem dX7_hasSetting_11 : decode cX7_hasSetting 11 = .ok (.getfield 26, 3) := by decide +kernel
theorem dX7_hasSetting_14 : decode cX7_hasSetting 14 = .ok (.bipush 10, 2) := by decide +kernel
theorem dX7_hasSetting_16 : decode cX7_hasSetting 16 = .ok (.iload_n 1, 1) := by decide +kernel
theorem dX7_hasSetting_17 : decode cX7_hasSetting 17 = .ok (.imul, 1) := by decide +kernel
theorem dX7_hasSetting_18 : decode cX7_hasSetting 18 = .ok (.iload_n 2, 1) := by decide +kernel
theorem dX7_hasSetting_19 : decode cX7_hasSetting 19 = .ok (.iadd, 1) := by decide +kernel
theorem dX7_hasSetting_20 : decode cX7_hasSetting 20 = .ok (.baload, 1) := by decide +kernel
theorem dX7_hasSetting_21 : decode cX7_hasSetting 21 = .ok (.ifCond .eq 7, 3) := by decide +kernel
theorem dX7_hasSetting_24 : decode cX7_hasSetting 24 = .ok (.iconst 1, 1) := by decide +kernel
theorem dX7_hasSetting_25 : decode cX7_hasSetting 25 = .ok (.goto 4, 3) := by decide +kernel
theorem dX7_hasSetting_28 : decode cX7_hasSetting 28 = .ok (.iconst 0, 1) := by decide +kernel
theorem dX7_hasSetting_29 : decode cX7_hasSetting 29 = .ok (.ireturn, 1) := by decide +kernel
theorem dX7_changed_0 : decode cX7_changed 0 = .ok (.iload_n 0, 1) := by decide +kernel
theorem dX7_changed_1 : decode cX7_changed 1 = .ok (.iconst 3, 1) := by decide +kernel
theorem dX7_changed_2 : decode cX7_changed 2 = .ok (.if_icmp .ne 15, 3) := by decide +kernel
theorem dX7_changed_5 : decode cX7_changed 5 = .ok (.sipush 255, 3) := by decide +kernel
theorem dX7_changed_8 : decode cX7_changed 8 = .ok (.iload_n 1, 1) := by decide +kernel
theorem dX7_changed_9 : decode cX7_changed 9 = .ok (.iload_n 2, 1) := by decide +kernel
theorem dX7_changed_10 : decode cX7_changed 10 = .ok (.imul, 1) := by decide +kernel
theorem dX7_changed_11 : decode cX7_changed 11 = .ok (.invokestatic 67, 3) := by decide +kernel
theorem dX7_changed_14 : decode cX7_changed 14 = .ok (.goto 19, 3) := by decide +kernel
theorem dX7_changed_17 : decode cX7_changed 17 = .ok (.iload_n 0, 1) := by decide +kernel
theorem dX7_changed_18 : decode cX7_changed 18 = .ok (.iconst 4, 1) := by decide +kernel
theorem dX7_changed_19 : decode cX7_changed 19 = .ok (.if_icmp .ne 9, 3) := by decide +kernel
theorem dX7_changed_22 : decode cX7_changed 22 = .ok (.iload_n 1, 1) := by decide +kernel
theorem dX7_changed_23 : decode cX7_changed 23 = .ok (.iload_n 2, 1) := by decide +kernel
theorem dX7_changed_24 : decode cX7_changed 24 = .ok (.idiv, 1) := by decide +kernel
theorem dX7_changed_25 : decode cX7_changed 25 = .ok (.goto 8, 3) := by decide +kernel
theorem dX7_changed_28 : decode cX7_changed 28 = .ok (.iload_n 1, 1) := by decide +kernel
theorem dX7_changed_29 : decode cX7_changed 29 = .ok (.iload_n 2, 1) := by decide +kernel
theorem dX7_changed_30 : decode cX7_changed 30 = .ok (.invokestatic 67, 3) := by decide +kernel
theorem dX7_changed_33 : decode cX7_changed 33 = .ok (.ireturn, 1) := by decide +kernel
theorem dX7_canDo_0 : decode cX7_canDo 0 = .ok (.aload_n 0, 1) := by decide +kernel
theorem dX7_canDo_1 : decode cX7_canDo 1 = .ok (.iload_n 2, 1) := by decide +kernel
theorem dX7_canDo_2 : decode cX7_canDo 2 = .ok (.aload_n 0, 1) := by decide +kernel
theorem dX7_canDo_3 : decode cX7_canDo 3 = .ok (.getfield 44, 3) := by decide +kernel
theorem dX7_canDo_6 : decode cX7_canDo 6 = .ok (.iload_n 1, 1) := by decide +kernel
theorem dX7_canDo_7 : decode cX7_canDo 7 = .ok (.iaload, 1) := by decide +kernel
theorem dX7_canDo_8 : decode cX7_canDo 8 = .ok (.invokevirtual 71, 3) := by decide +kernel
theorem dX7_canDo_11 : decode cX7_canDo 11 = .ok (.istore_n 3, 1) := by decide +kernel
theorem dX7_canDo_12 : decode cX7_canDo 12 = .ok (.aload_n 0, 1) := by decide +kernel
theorem dX7_canDo_13 : decode cX7_canDo 13 = .ok (.getfield 41, 3) := by decide +kernel
theorem dX7_canDo_16 : decode cX7_canDo 16 = .ok (.iload_n 1, 1) := by decide +kernel
theorem dX7_canDo_17 : decode cX7_canDo 17 = .ok (.iaload, 1) := by decide +kernel
theorem dX7_canDo_18 : decode cX7_canDo 18 = .ok (.ifCond .ne 28, 3) := by decide +kernel
theorem dX7_canDo_21 : decode cX7_canDo 21 = .ok (.iload_n 3, 1) := by decide +kernel
theorem dX7_canDo_22 : decode cX7_canDo 22 = .ok (.ifCond .ne 22, 3) := by decide +kernel
theorem dX7_canDo_25 : decode cX7_canDo 25 = .ok (.aload_n 0, 1) := by decide +kernel
theorem dX7_canDo_26 : decode cX7_canDo 26 = .ok (.getfield 50, 3) := by decide +kernel
theorem dX7_canDo_29 : decode cX7_canDo 29 = .ok (.iload_n 1, 1) := by decide +kernel
theorem dX7_canDo_30 : decode cX7_canDo 30 = .ok (.iaload, 1) := by decide +kernel
theorem dX7_canDo_31 : decode cX7_canDo 31 = .ok (.aload_n 0, 1) := by decide +kernel
theorem dX7_canDo_32 : decode cX7_canDo 32 = .ok (.getfield 47, 3) := by decide +kernel
theorem dX7_canDo_35 : decode cX7_canDo 35 = .ok (.iload_n 1, 1) := by decide +kernel
theorem dX7_canDo_36 : decode cX7_canDo 36 = .ok (.iaload, 1) := by decide +kernel
theorem dX7_canDo_37 : decode cX7_canDo 37 = .ok (.if_icmp .gt 7, 3) := by decide +kernel
theorem dX7_canDo_40 : decode cX7_canDo 40 = .ok (.iconst 1, 1) := by decide +kernel
theorem dX7_canDo_41 : decode cX7_canDo 41 = .ok (.goto 4, 3) := by decide +kernel
theorem dX7_canDo_44 : decode cX7_canDo 44 = .ok (.iconst 0, 1) := by decide +kernel
theorem dX7_canDo_45 : decode cX7_canDo 45 = .ok (.ireturn, 1) := by decide +kernel
theorem dX7_canDo_46 : decode cX7_canDo 46 = .ok (.iload_n 3, 1) := by decide +kernel
theorem dX7_canDo_47 : decode cX7_canDo 47 = .ok (.ifCond .eq 31, 3) := by decide +kernel
theorem dX7_canDo_50 : decode cX7_canDo 50 = .ok (.aload_n 0, 1) := by decide +kernel
theorem dX7_canDo_51 : decode cX7_canDo 51 = .ok (.getfield 41, 3) := by decide +kernel
theorem dX7_canDo_54 : decode cX7_canDo 54 = .ok (.iload_n 1, 1) := by decide +kernel
theorem dX7_canDo_55 : decode cX7_canDo 55 = .ok (.iaload, 1) := by decide +kernel
theorem dX7_canDo_56 : decode cX7_canDo 56 = .ok (.iconst 2, 1) := by decide +kernel
theorem dX7_canDo_57 : decode cX7_canDo 57 = .ok (.if_icmp .ne 17, 3) := by decide +kernel
theorem dX7_canDo_60 : decode cX7_canDo 60 = .ok (.aload_n 0, 1) := by decide +kernel
theorem dX7_canDo_61 : decode cX7_canDo 61 = .ok (.iload_n 2, 1) := by decide +kernel
theorem dX7_canDo_62 : decode cX7_canDo 62 = .ok (.aload_n 0, 1) := by decide +kernel
theorem dX7_canDo_63 : decode cX7_canDo 63 = .ok (.getfield 47, 3) := by decide +kernel
theorem dX7_canDo_66 : decode cX7_canDo 66 = .ok (.iload_n 1, 1) := by decide +kernel
theorem dX7_canDo_67 : decode cX7_canDo 67 = .ok (.iaload, 1) := by decide +kernel
theorem dX7_canDo_68 : decode cX7_canDo 68 = .ok (.invokevirtual 71, 3) := by decide +kernel
theorem dX7_canDo_71 : decode cX7_canDo 71 = .ok (.ifCond .ne 7, 3) := by decide +kernel
theorem dX7_canDo_74 : decode cX7_canDo 74 = .ok (.iconst 1, 1) := by decide +kernel
theorem dX7_canDo_75 : decode cX7_canDo 75 = .ok (.goto 4, 3) := by decide +kernel
theorem dX7_canDo_78 : decode cX7_canDo 78 = .ok (.iconst 0, 1) := by decide +kernel
theorem dX7_canDo_79 : decode cX7_canDo 79 = .ok (.ireturn, 1) := by decide +kernel
theorem dX7_doTo_0 : decode cX7_doTo 0 = .ok (.bipush 10, 2) := by decide +kernel
theorem dX7_doTo_2 : decode cX7_doTo 2 = .ok (.iload_n 2, 1) := by decide +kernel
theorem dX7_doTo_3 : decode cX7_doTo 3 = .ok (.imul, 1) := by decide +kernel
theorem dX7_doTo_4 : decode cX7_doTo 4 = .ok (.aload_n 0, 1) := by decide +kernel
theorem dX7_doTo_5 : decode cX7_doTo 5 = .ok (.getfield 44, 3) := by decide +kernel
theorem dX7_doTo_8 : decode cX7_doTo 8 = .ok (.iload_n 1, 1) := by decide +kernel
theorem dX7_doTo_9 : decode cX7_doTo 9 = .ok (.iaload, 1) := by decide +kernel
theorem dX7_doTo_10 : decode cX7_doTo 10 = .ok (.iadd, 1) := by decide +kernel
theorem dX7_doTo_11 : decode cX7_doTo 11 = .ok (.istore_n 3, 1) := by decide +kernel
theorem dX7_doTo_12 : decode cX7_doTo 12 = .ok (.aload_n 0, 1) := by decide +kernel
theorem dX7_doTo_13 : decode cX7_doTo 13 = .ok (.getfield 41, 3) := by decide +kernel
theorem dX7_doTo_16 : decode cX7_doTo 16 = .ok (.iload_n 1, 1) := by decide +kernel
theorem dX7_doTo_17 : decode cX7_doTo 17 = .ok (.iaload, 1) := by decide +kernel
theorem dX7_doTo_18 : decode cX7_doTo 18 = .ok (.tableswitch 148 0 2 #[26, 68, 78], 26) := by decide +kernel
theorem dX7_doTo_44 : decode cX7_doTo 44 = .ok (.aload_n 0, 1) := by decide +kernel
theorem dX7_doTo_45 : decode cX7_doTo 45 = .ok (.getfield 26, 3) := by decide +kernel
theorem dX7_doTo_48 : decode cX7_doTo 48 = .ok (.iload_n 3, 1) := by decide +kernel
theorem dX7_doTo_49 : decode cX7_doTo 49 = .ok (.iconst 1, 1) := by decide +kernel
theorem dX7_doTo_50 : decode cX7_doTo 50 = .ok (.bastore, 1) := by decide +kernel
theorem dX7_doTo_51 : decode cX7_doTo 51 = .ok (.aload_n 0, 1) := by decide +kernel
theorem dX7_doTo_52 : decode cX7_doTo 52 = .ok (.getfield 29, 3) := by decide +kernel
theorem dX7_doTo_55 : decode cX7_doTo 55 = .ok (.iload_n 3, 1) := by decide +kernel
theorem dX7_doTo_56 : decode cX7_doTo 56 = .ok (.aload_n 0, 1) := by decide +kernel
theorem dX7_doTo_57 : decode cX7_doTo 57 = .ok (.getfield 47, 3) := by decide +kernel
theorem dX7_doTo_60 : decode cX7_doTo 60 = .ok (.iload_n 1, 1) := by decide +kernel
theorem dX7_doTo_61 : decode cX7_doTo 61 = .ok (.iaload, 1) := by decide +kernel
theorem dX7_doTo_62 : decode cX7_doTo 62 = .ok (.iastore, 1) := by decide +kernel
theorem dX7_doTo_63 : decode cX7_doTo 63 = .ok (.aload_n 0, 1) := by decide +kernel
theorem dX7_doTo_64 : decode cX7_doTo 64 = .ok (.getfield 32, 3) := by decide +kernel
theorem dX7_doTo_67 : decode cX7_doTo 67 = .ok (.iload_n 3, 1) := by decide +kernel
theorem dX7_doTo_68 : decode cX7_doTo 68 = .ok (.aload_n 0, 1) := by decide +kernel
theorem dX7_doTo_69 : decode cX7_doTo 69 = .ok (.getfield 50, 3) := by decide +kernel
theorem dX7_doTo_72 : decode cX7_doTo 72 = .ok (.iload_n 1, 1) := by decide +kernel
theorem dX7_doTo_73 : decode cX7_doTo 73 = .ok (.iaload, 1) := by decide +kernel
theorem dX7_doTo_74 : decode cX7_doTo 74 = .ok (.iastore, 1) := by decide +kernel
theorem dX7_doTo_75 : decode cX7_doTo 75 = .ok (.aload_n 0, 1) := by decide +kernel
theorem dX7_doTo_76 : decode cX7_doTo 76 = .ok (.getfield 35, 3) := by decide +kernel
theorem dX7_doTo_79 : decode cX7_doTo 79 = .ok (.iload_n 3, 1) := by decide +kernel
theorem dX7_doTo_80 : decode cX7_doTo 80 = .ok (.bipush (-6), 2) := by decide +kernel
theorem dX7_doTo_82 : decode cX7_doTo 82 = .ok (.iastore, 1) := by decide +kernel
theorem dX7_doTo_83 : decode cX7_doTo 83 = .ok (.goto 137, 3) := by decide +kernel
theorem dX7_doTo_86 : decode cX7_doTo 86 = .ok (.aload_n 0, 1) := by decide +kernel
theorem dX7_doTo_87 : decode cX7_doTo 87 = .ok (.getfield 26, 3) := by decide +kernel
theorem dX7_doTo_90 : decode cX7_doTo 90 = .ok (.iload_n 3, 1) := by decide +kernel
theorem dX7_doTo_91 : decode cX7_doTo 91 = .ok (.iconst 0, 1) := by decide +kernel
theorem dX7_doTo_92 : decode cX7_doTo 92 = .ok (.bastore, 1) := by decide +kernel
theorem dX7_doTo_93 : decode cX7_doTo 93 = .ok (.goto 127, 3) := by decide +kernel
theorem dX7_doTo_96 : decode cX7_doTo 96 = .ok (.bipush 10, 2) := by decide +kernel
theorem dX7_doTo_98 : decode cX7_doTo 98 = .ok (.iload_n 2, 1) := by decide +kernel
theorem dX7_doTo_99 : decode cX7_doTo 99 = .ok (.imul, 1) := by decide +kernel
theorem dX7_doTo_100 : decode cX7_doTo 100 = .ok (.aload_n 0, 1) := by decide +kernel
theorem dX7_doTo_101 : decode cX7_doTo 101 = .ok (.getfield 47, 3) := by decide +kernel
theorem dX7_doTo_104 : decode cX7_doTo 104 = .ok (.iload_n 1, 1) := by decide +kernel
theorem dX7_doTo_105 : decode cX7_doTo 105 = .ok (.iaload, 1) := by decide +kernel
theorem dX7_doTo_106 : decode cX7_doTo 106 = .ok (.iadd, 1) := by decide +kernel
theorem dX7_doTo_107 : decode cX7_doTo 107 = .ok (.istore 4, 2) := by decide +kernel
theorem dX7_doTo_109 : decode cX7_doTo 109 = .ok (.aload_n 0, 1) := by decide +kernel
theorem dX7_doTo_110 : decode cX7_doTo 110 = .ok (.getfield 26, 3) := by decide +kernel
theorem dX7_doTo_113 : decode cX7_doTo 113 = .ok (.iload_n 3, 1) := by decide +kernel
theorem dX7_doTo_114 : decode cX7_doTo 114 = .ok (.iconst 0, 1) := by decide +kernel
theorem dX7_doTo_115 : decode cX7_doTo 115 = .ok (.bastore, 1) := by decide +kernel
theorem dX7_doTo_116 : decode cX7_doTo 116 = .ok (.aload_n 0, 1) := by decide +kernel
theorem dX7_doTo_117 : decode cX7_doTo 117 = .ok (.getfield 26, 3) := by decide +kernel
theorem dX7_doTo_120 : decode cX7_doTo 120 = .ok (.iload 4, 2) := by decide +kernel
theorem dX7_doTo_122 : decode cX7_doTo 122 = .ok (.iconst 1, 1) := by decide +kernel
theorem dX7_doTo_123 : decode cX7_doTo 123 = .ok (.bastore, 1) := by decide +kernel
theorem dX7_doTo_124 : decode cX7_doTo 124 = .ok (.aload_n 0, 1) := by decide +kernel
theorem dX7_doTo_125 : decode cX7_doTo 125 = .ok (.getfield 29, 3) := by decide +kernel
theorem dX7_doTo_128 : decode cX7_doTo 128 = .ok (.iload 4, 2) := by decide +kernel
theorem dX7_doTo_130 : decode cX7_doTo 130 = .ok (.aload_n 0, 1) := by decide +kernel
theorem dX7_doTo_131 : decode cX7_doTo 131 = .ok (.getfield 29, 3) := by decide +kernel
theorem dX7_doTo_134 : decode cX7_doTo 134 = .ok (.iload_n 3, 1) := by decide +kernel
theorem dX7_doTo_135 : decode cX7_doTo 135 = .ok (.iaload, 1) := by decide +kernel
theorem dX7_doTo_136 : decode cX7_doTo 136 = .ok (.iastore, 1) := by decide +kernel
theorem dX7_doTo_137 : decode cX7_doTo 137 = .ok (.aload_n 0, 1) := by decide +kernel
theorem dX7_doTo_138 : decode cX7_doTo 138 = .ok (.getfield 32, 3) := by decide +kernel
theorem dX7_doTo_141 : decode cX7_doTo 141 = .ok (.iload 4, 2) := by decide +kernel
theorem dX7_doTo_143 : decode cX7_doTo 143 = .ok (.aload_n 0, 1) := by decide +kernel
theorem dX7_doTo_144 : decode cX7_doTo 144 = .ok (.getfield 32, 3) := by decide +kernel
theorem dX7_doTo_147 : decode cX7_doTo 147 = .ok (.iload_n 3, 1) := by decide +kernel
theorem dX7_doTo_148 : decode cX7_doTo 148 = .ok (.iaload, 1) := by decide +kernel
theorem dX7_doTo_149 : decode cX7_doTo 149 = .ok (.iastore, 1) := by decide +kernel
theorem dX7_doTo_150 : decode cX7_doTo 150 = .ok (.aload_n 0, 1) := by decide +kernel
theorem dX7_doTo_151 : decode cX7_doTo 151 = .ok (.getfield 35, 3) := by decide +kernel
theorem dX7_doTo_154 : decode cX7_doTo 154 = .ok (.iload 4, 2) := by decide +kernel
theorem dX7_doTo_156 : decode cX7_doTo 156 = .ok (.aload_n 0, 1) := by decide +kernel
theorem dX7_doTo_157 : decode cX7_doTo 157 = .ok (.getfield 35, 3) := by decide +kernel
theorem dX7_doTo_160 : decode cX7_doTo 160 = .ok (.iload_n 3, 1) := by decide +kernel
theorem dX7_doTo_161 : decode cX7_doTo 161 = .ok (.iaload, 1) := by decide +kernel
theorem dX7_doTo_162 : decode cX7_doTo 162 = .ok (.iastore, 1) := by decide +kernel
theorem dX7_doTo_163 : decode cX7_doTo 163 = .ok (.goto 57, 3) := by decide +kernel
theorem dX7_doTo_166 : decode cX7_doTo 166 = .ok (.aload_n 0, 1) := by decide +kernel
theorem dX7_doTo_167 : decode cX7_doTo 167 = .ok (.getfield 29, 3) := by decide +kernel
theorem dX7_doTo_170 : decode cX7_doTo 170 = .ok (.iload_n 3, 1) := by decide +kernel
theorem dX7_doTo_171 : decode cX7_doTo 171 = .ok (.aload_n 0, 1) := by decide +kernel
theorem dX7_doTo_172 : decode cX7_doTo 172 = .ok (.getfield 41, 3) := by decide +kernel
theorem dX7_doTo_175 : decode cX7_doTo 175 = .ok (.iload_n 1, 1) := by decide +kernel
theorem dX7_doTo_176 : decode cX7_doTo 176 = .ok (.iaload, 1) := by decide +kernel
theorem dX7_doTo_177 : decode cX7_doTo 177 = .ok (.aload_n 0, 1) := by decide +kernel
theorem dX7_doTo_178 : decode cX7_doTo 178 = .ok (.getfield 29, 3) := by decide +kernel
theorem dX7_doTo_181 : decode cX7_doTo 181 = .ok (.iload_n 3, 1) := by decide +kernel
theorem dX7_doTo_182 : decode cX7_doTo 182 = .ok (.iaload, 1) := by decide +kernel
theorem dX7_doTo_183 : decode cX7_doTo 183 = .ok (.aload_n 0, 1) := by decide +kernel
theorem dX7_doTo_184 : decode cX7_doTo 184 = .ok (.getfield 47, 3) := by decide +kernel
theorem dX7_doTo_187 : decode cX7_doTo 187 = .ok (.iload_n 1, 1) := by decide +kernel
theorem dX7_doTo_188 : decode cX7_doTo 188 = .ok (.iaload, 1) := by decide +kernel
theorem dX7_doTo_189 : decode cX7_doTo 189 = .ok (.invokestatic 75, 3) := by decide +kernel
theorem dX7_doTo_192 : decode cX7_doTo 192 = .ok (.iastore, 1) := by decide +kernel
theorem dX7_doTo_193 : decode cX7_doTo 193 = .ok (.aload_n 0, 1) := by decide +kernel
theorem dX7_doTo_194 : decode cX7_doTo 194 = .ok (.getfield 32, 3) := by decide +kernel
theorem dX7_doTo_197 : decode cX7_doTo 197 = .ok (.iload_n 3, 1) := by decide +kernel
theorem dX7_doTo_198 : decode cX7_doTo 198 = .ok (.aload_n 0, 1) := by decide +kernel
theorem dX7_doTo_199 : decode cX7_doTo 199 = .ok (.getfield 41, 3) := by decide +kernel
theorem dX7_doTo_202 : decode cX7_doTo 202 = .ok (.iload_n 1, 1) := by decide +kernel
theorem dX7_doTo_203 : decode cX7_doTo 203 = .ok (.iaload, 1) := by decide +kernel
theorem dX7_doTo_204 : decode cX7_doTo 204 = .ok (.aload_n 0, 1) := by decide +kernel
theorem dX7_doTo_205 : decode cX7_doTo 205 = .ok (.getfield 32, 3) := by decide +kernel
theorem dX7_doTo_208 : decode cX7_doTo 208 = .ok (.iload_n 3, 1) := by decide +kernel
theorem dX7_doTo_209 : decode cX7_doTo 209 = .ok (.iaload, 1) := by decide +kernel
theorem dX7_doTo_210 : decode cX7_doTo 210 = .ok (.aload_n 0, 1) := by decide +kernel
theorem dX7_doTo_211 : decode cX7_doTo 211 = .ok (.getfield 47, 3) := by decide +kernel
theorem dX7_doTo_214 : decode cX7_doTo 214 = .ok (.iload_n 1, 1) := by decide +kernel
theorem dX7_doTo_215 : decode cX7_doTo 215 = .ok (.iaload, 1) := by decide +kernel
theorem dX7_doTo_216 : decode cX7_doTo 216 = .ok (.invokestatic 75, 3) := by decide +kernel
theorem dX7_doTo_219 : decode cX7_doTo 219 = .ok (.iastore, 1) := by decide +kernel
theorem dX7_doTo_220 : decode cX7_doTo 220 = .ok (.return_, 1) := by decide +kernel
theorem dX7_copyLayout_0 : decode cX7_copyLayout 0 = .ok (.iconst 0, 1) := by decide +kernel
theorem dX7_copyLayout_1 : decode cX7_copyLayout 1 = .ok (.istore_n 2, 1) := by decide +kernel
theorem dX7_copyLayout_2 : decode cX7_copyLayout 2 = .ok (.iload_n 2, 1) := by decide +kernel
theorem dX7_copyLayout_3 : decode cX7_copyLayout 3 = .ok (.bipush 10, 2) := by decide +kernel
theorem dX7_copyLayout_5 : decode cX7_copyLayout 5 = .ok (.if_icmp .ge 96, 3) := by decide +kernel
theorem dX7_copyLayout_8 : decode cX7_copyLayout 8 = .ok (.bipush 10, 2) := by decide +kernel
theorem dX7_copyLayout_10 : decode cX7_copyLayout 10 = .ok (.iload_n 1, 1) := by decide +kernel
theorem dX7_copyLayout_11 : decode cX7_copyLayout 11 = .ok (.imul, 1) := by decide +kernel
theorem dX7_copyLayout_12 : decode cX7_copyLayout 12 = .ok (.iload_n 2, 1) := by decide +kernel
theorem dX7_copyLayout_13 : decode cX7_copyLayout 13 = .ok (.iadd, 1) := by decide +kernel
theorem dX7_copyLayout_14 : decode cX7_copyLayout 14 = .ok (.istore_n 3, 1) := by decide +kernel
theorem dX7_copyLayout_15 : decode cX7_copyLayout 15 = .ok (.aload_n 0, 1) := by decide +kernel
theorem dX7_copyLayout_16 : decode cX7_copyLayout 16 = .ok (.getfield 26, 3) := by decide +kernel
theorem dX7_copyLayout_19 : decode cX7_copyLayout 19 = .ok (.iload_n 3, 1) := by decide +kernel
theorem dX7_copyLayout_20 : decode cX7_copyLayout 20 = .ok (.iload_n 1, 1) := by decide +kernel
theorem dX7_copyLayout_21 : decode cX7_copyLayout 21 = .ok (.ifCond .le 19, 3) := by decide +kernel
theorem dX7_copyLayout_24 : decode cX7_copyLayout 24 = .ok (.aload_n 0, 1) := by decide +kernel
theorem dX7_copyLayout_25 : decode cX7_copyLayout 25 = .ok (.getfield 26, 3) := by decide +kernel
theorem dX7_copyLayout_28 : decode cX7_copyLayout 28 = .ok (.iload_n 3, 1) := by decide +kernel
theorem dX7_copyLayout_29 : decode cX7_copyLayout 29 = .ok (.bipush 10, 2) := by decide +kernel
theorem dX7_copyLayout_31 : decode cX7_copyLayout 31 = .ok (.isub, 1) := by decide +kernel
theorem dX7_copyLayout_32 : decode cX7_copyLayout 32 = .ok (.baload, 1) := by decide +kernel
theorem dX7_copyLayout_33 : decode cX7_copyLayout 33 = .ok (.ifCond .eq 7, 3) := by decide +kernel
theorem dX7_copyLayout_36 : decode cX7_copyLayout 36 = .ok (.iconst 1, 1) := by decide +kernel
theorem dX7_copyLayout_37 : decode cX7_copyLayout 37 = .ok (.goto 4, 3) := by decide +kernel
theorem dX7_copyLayout_40 : decode cX7_copyLayout 40 = .ok (.iconst 0, 1) := by decide +kernel
theorem dX7_copyLayout_41 : decode cX7_copyLayout 41 = .ok (.bastore, 1) := by decide +kernel
theorem dX7_copyLayout_42 : decode cX7_copyLayout 42 = .ok (.aload_n 0, 1) := by decide +kernel
theorem dX7_copyLayout_43 : decode cX7_copyLayout 43 = .ok (.getfield 29, 3) := by decide +kernel
theorem dX7_copyLayout_46 : decode cX7_copyLayout 46 = .ok (.iload_n 3, 1) := by decide +kernel
theorem dX7_copyLayout_47 : decode cX7_copyLayout 47 = .ok (.iload_n 1, 1) := by decide +kernel
theorem dX7_copyLayout_48 : decode cX7_copyLayout 48 = .ok (.ifCond .le 15, 3) := by decide +kernel
theorem dX7_copyLayout_51 : decode cX7_copyLayout 51 = .ok (.aload_n 0, 1) := by decide +kernel
theorem dX7_copyLayout_52 : decode cX7_copyLayout 52 = .ok (.getfield 29, 3) := by decide +kernel
theorem dX7_copyLayout_55 : decode cX7_copyLayout 55 = .ok (.iload_n 3, 1) := by decide +kernel
theorem dX7_copyLayout_56 : decode cX7_copyLayout 56 = .ok (.bipush 10, 2) := by decide +kernel
theorem dX7_copyLayout_58 : decode cX7_copyLayout 58 = .ok (.isub, 1) := by decide +kernel
theorem dX7_copyLayout_59 : decode cX7_copyLayout 59 = .ok (.iaload, 1) := by decide +kernel
theorem dX7_copyLayout_60 : decode cX7_copyLayout 60 = .ok (.goto 4, 3) := by decide +kernel
theorem dX7_copyLayout_63 : decode cX7_copyLayout 63 = .ok (.iconst 0, 1) := by decide +kernel
theorem dX7_copyLayout_64 : decode cX7_copyLayout 64 = .ok (.iastore, 1) := by decide +kernel
theorem dX7_copyLayout_65 : decode cX7_copyLayout 65 = .ok (.aload_n 0, 1) := by decide +kernel
theorem dX7_copyLayout_66 : decode cX7_copyLayout 66 = .ok (.getfield 32, 3) := by decide +kernel
theorem dX7_copyLayout_69 : decode cX7_copyLayout 69 = .ok (.iload_n 3, 1) := by decide +kernel
theorem dX7_copyLayout_70 : decode cX7_copyLayout 70 = .ok (.iload_n 1, 1) := by decide +kernel
theorem dX7_copyLayout_71 : decode cX7_copyLayout 71 = .ok (.ifCond .le 15, 3) := by decide +kernel
theorem dX7_copyLayout_74 : decode cX7_copyLayout 74 = .ok (.aload_n 0, 1) := by decide +kernel
theorem dX7_copyLayout_75 : decode cX7_copyLayout 75 = .ok (.getfield 32, 3) := by decide +kernel
theorem dX7_copyLayout_78 : decode cX7_copyLayout 78 = .ok (.iload_n 3, 1) := by decide +kernel
theorem dX7_copyLayout_79 : decode cX7_copyLayout 79 = .ok (.bipush 10, 2) := by decide +kernel
theorem dX7_copyLayout_81 : decode cX7_copyLayout 81 = .ok (.isub, 1) := by decide +kernel
theorem dX7_copyLayout_82 : decode cX7_copyLayout 82 = .ok (.iaload, 1) := by decide +kernel
theorem dX7_copyLayout_83 : decode cX7_copyLayout 83 = .ok (.goto 4, 3) := by decide +kernel
theorem dX7_copyLayout_86 : decode cX7_copyLayout 86 = .ok (.iconst 0, 1) := by decide +kernel
theorem dX7_copyLayout_87 : decode cX7_copyLayout 87 = .ok (.iastore, 1) := by decide +kernel
theorem dX7_copyLayout_88 : decode cX7_copyLayout 88 = .ok (.aload_n 0, 1) := by decide +kernel
theorem dX7_copyLayout_89 : decode cX7_copyLayout 89 = .ok (.getfield 35, 3) := by decide +kernel
theorem dX7_copyLayout_92 : decode cX7_copyLayout 92 = .ok (.iload_n 3, 1) := by decide +kernel
theorem dX7_copyLayout_93 : decode cX7_copyLayout 93 = .ok (.iload_n 2, 1) := by decide +kernel
theorem dX7_copyLayout_94 : decode cX7_copyLayout 94 = .ok (.iastore, 1) := by decide +kernel
theorem dX7_copyLayout_95 : decode cX7_copyLayout 95 = .ok (.iinc 2 1, 3) := by decide +kernel
theorem dX7_copyLayout_98 : decode cX7_copyLayout 98 = .ok (.goto (-96), 3) := by decide +kernel
theorem dX7_copyLayout_101 : decode cX7_copyLayout 101 = .ok (.return_, 1) := by decide +kernel
theorem dX7_define_0 : decode cX7_define 0 = .ok (.aload_n 0, 1) := by decide +kernel
theorem dX7_define_1 : decode cX7_define 1 = .ok (.getfield 59, 3) := by decide +kernel
theorem dX7_define_4 : decode cX7_define 4 = .ok (.bipush 6, 2) := by decide +kernel
theorem dX7_define_6 : decode cX7_define 6 = .ok (.if_icmp .ge 13, 3) := by decide +kernel
theorem dX7_define_9 : decode cX7_define 9 = .ok (.aload_n 0, 1) := by decide +kernel
theorem dX7_define_10 : decode cX7_define 10 = .ok (.getfield 38, 3) := by decide +kernel
theorem dX7_define_13 : decode cX7_define 13 = .ok (.aload_n 0, 1) := by decide +kernel
theorem dX7_define_14 : decode cX7_define 14 = .ok (.getfield 59, 3) := by decide +kernel
theorem dX7_define_17 : decode cX7_define 17 = .ok (.iconst 0, 1) := by decide +kernel
theorem dX7_define_18 : decode cX7_define 18 = .ok (.iastore, 1) := by decide +kernel
theorem dX7_define_19 : decode cX7_define 19 = .ok (.aload_n 0, 1) := by decide +kernel
theorem dX7_define_20 : decode cX7_define 20 = .ok (.aload_n 0, 1) := by decide +kernel
theorem dX7_define_21 : decode cX7_define 21 = .ok (.getfield 59, 3) := by decide +kernel
theorem dX7_define_24 : decode cX7_define 24 = .ok (.invokevirtual 79, 3) := by decide +kernel
theorem dX7_define_27 : decode cX7_define 27 = .ok (.bipush (-6), 2) := by decide +kernel
theorem dX7_define_29 : decode cX7_define 29 = .ok (.if_icmp .eq 6, 3) := by decide +kernel
theorem dX7_define_32 : decode cX7_define 32 = .ok (.bipush (-3), 2) := by decide +kernel
theorem dX7_define_34 : decode cX7_define 34 = .ok (.ireturn, 1) := by decide +kernel
theorem dX7_define_35 : decode cX7_define 35 = .ok (.aload_n 0, 1) := by decide +kernel
theorem dX7_define_36 : decode cX7_define 36 = .ok (.getfield 59, 3) := by decide +kernel
theorem dX7_define_39 : decode cX7_define 39 = .ok (.bipush 6, 2) := by decide +kernel
theorem dX7_define_41 : decode cX7_define 41 = .ok (.if_icmp .ne 6, 3) := by decide +kernel
theorem dX7_define_44 : decode cX7_define 44 = .ok (.bipush (-4), 2) := by decide +kernel
theorem dX7_define_46 : decode cX7_define 46 = .ok (.ireturn, 1) := by decide +kernel
theorem dX7_define_47 : decode cX7_define 47 = .ok (.aload_n 0, 1) := by decide +kernel
theorem dX7_define_48 : decode cX7_define 48 = .ok (.aload_n 0, 1) := by decide +kernel
theorem dX7_define_49 : decode cX7_define 49 = .ok (.getfield 59, 3) := by decide +kernel
theorem dX7_define_52 : decode cX7_define 52 = .ok (.invokevirtual 83, 3) := by decide +kernel
theorem dX7_define_55 : decode cX7_define 55 = .ok (.iconst 0, 1) := by decide +kernel
theorem dX7_define_56 : decode cX7_define 56 = .ok (.istore_n 1, 1) := by decide +kernel
theorem dX7_define_57 : decode cX7_define 57 = .ok (.iload_n 1, 1) := by decide +kernel
theorem dX7_define_58 : decode cX7_define 58 = .ok (.aload_n 0, 1) := by decide +kernel
theorem dX7_define_59 : decode cX7_define 59 = .ok (.getfield 38, 3) := by decide +kernel
theorem dX7_define_62 : decode cX7_define 62 = .ok (.aload_n 0, 1) := by decide +kernel
theorem dX7_define_63 : decode cX7_define 63 = .ok (.getfield 59, 3) := by decide +kernel
theorem dX7_define_66 : decode cX7_define 66 = .ok (.iaload, 1) := by decide +kernel
theorem dX7_define_67 : decode cX7_define 67 = .ok (.if_icmp .ge 43, 3) := by decide +kernel
theorem dX7_define_70 : decode cX7_define 70 = .ok (.bipush 28, 2) := by decide +kernel
theorem dX7_define_72 : decode cX7_define 72 = .ok (.aload_n 0, 1) := by decide +kernel
theorem dX7_define_73 : decode cX7_define 73 = .ok (.getfield 59, 3) := by decide +kernel
theorem dX7_define_76 : decode cX7_define 76 = .ok (.imul, 1) := by decide +kernel
theorem dX7_define_77 : decode cX7_define 77 = .ok (.iload_n 1, 1) := by decide +kernel
theorem dX7_define_78 : decode cX7_define 78 = .ok (.iadd, 1) := by decide +kernel
theorem dX7_define_79 : decode cX7_define 79 = .ok (.istore_n 2, 1) := by decide +kernel
theorem dX7_define_80 : decode cX7_define 80 = .ok (.aload_n 0, 1) := by decide +kernel
theorem dX7_define_81 : decode cX7_define 81 = .ok (.iload_n 2, 1) := by decide +kernel
theorem dX7_define_82 : decode cX7_define 82 = .ok (.aload_n 0, 1) := by decide +kernel
theorem dX7_define_83 : decode cX7_define 83 = .ok (.getfield 59, 3) := by decide +kernel
theorem dX7_define_86 : decode cX7_define 86 = .ok (.invokevirtual 87, 3) := by decide +kernel
theorem dX7_define_89 : decode cX7_define 89 = .ok (.ifCond .ne 6, 3) := by decide +kernel
theorem dX7_define_92 : decode cX7_define 92 = .ok (.bipush (-5), 2) := by decide +kernel
theorem dX7_define_94 : decode cX7_define 94 = .ok (.ireturn, 1) := by decide +kernel
theorem dX7_define_95 : decode cX7_define 95 = .ok (.aload_n 0, 1) := by decide +kernel
theorem dX7_define_96 : decode cX7_define 96 = .ok (.iload_n 2, 1) := by decide +kernel
theorem dX7_define_97 : decode cX7_define 97 = .ok (.aload_n 0, 1) := by decide +kernel
theorem dX7_define_98 : decode cX7_define 98 = .ok (.getfield 59, 3) := by decide +kernel
theorem dX7_define_101 : decode cX7_define 101 = .ok (.invokevirtual 90, 3) := by decide +kernel
theorem dX7_define_104 : decode cX7_define 104 = .ok (.iinc 1 1, 3) := by decide +kernel
theorem dX7_define_107 : decode cX7_define 107 = .ok (.goto (-50), 3) := by decide +kernel
theorem dX7_define_110 : decode cX7_define 110 = .ok (.aload_n 0, 1) := by decide +kernel
theorem dX7_define_111 : decode cX7_define 111 = .ok (.iconst 0, 1) := by decide +kernel
theorem dX7_define_112 : decode cX7_define 112 = .ok (.putfield 94, 3) := by decide +kernel
theorem dX7_define_115 : decode cX7_define 115 = .ok (.aload_n 0, 1) := by decide +kernel
theorem dX7_define_116 : decode cX7_define 116 = .ok (.dup, 1) := by decide +kernel
theorem dX7_define_117 : decode cX7_define 117 = .ok (.getfield 59, 3) := by decide +kernel
theorem dX7_define_120 : decode cX7_define 120 = .ok (.iconst 1, 1) := by decide +kernel
theorem dX7_define_121 : decode cX7_define 121 = .ok (.iadd, 1) := by decide +kernel
theorem dX7_define_122 : decode cX7_define 122 = .ok (.putfield 59, 3) := by decide +kernel
theorem dX7_define_125 : decode cX7_define 125 = .ok (.aload_n 0, 1) := by decide +kernel
theorem dX7_define_126 : decode cX7_define 126 = .ok (.getfield 59, 3) := by decide +kernel
theorem dX7_define_129 : decode cX7_define 129 = .ok (.iconst 1, 1) := by decide +kernel
theorem dX7_define_130 : decode cX7_define 130 = .ok (.isub, 1) := by decide +kernel
theorem dX7_define_131 : decode cX7_define 131 = .ok (.ireturn, 1) := by decide +kernel
theorem dX7_layout_0 : decode cX7_layout 0 = .ok (.aload_n 0, 1) := by decide +kernel
theorem dX7_layout_1 : decode cX7_layout 1 = .ok (.iload_n 1, 1) := by decide +kernel
theorem dX7_layout_2 : decode cX7_layout 2 = .ok (.invokevirtual 97, 3) := by decide +kernel
theorem dX7_layout_5 : decode cX7_layout 5 = .ok (.ifCond .eq 12, 3) := by decide +kernel
theorem dX7_layout_8 : decode cX7_layout 8 = .ok (.aload_n 0, 1) := by decide +kernel
theorem dX7_layout_9 : decode cX7_layout 9 = .ok (.iload_n 1, 1) := by decide +kernel
theorem dX7_layout_10 : decode cX7_layout 10 = .ok (.iload_n 2, 1) := by decide +kernel
theorem dX7_layout_11 : decode cX7_layout 11 = .ok (.invokevirtual 71, 3) := by decide +kernel
theorem dX7_layout_14 : decode cX7_layout 14 = .ok (.ifCond .ne 5, 3) := by decide +kernel
theorem dX7_layout_17 : decode cX7_layout 17 = .ok (.iconst (-1), 1) := by decide +kernel
theorem dX7_layout_18 : decode cX7_layout 18 = .ok (.ireturn, 1) := by decide +kernel
theorem dX7_layout_19 : decode cX7_layout 19 = .ok (.bipush 10, 2) := by decide +kernel
theorem dX7_layout_21 : decode cX7_layout 21 = .ok (.iload_n 1, 1) := by decide +kernel
theorem dX7_layout_22 : decode cX7_layout 22 = .ok (.imul, 1) := by decide +kernel
theorem dX7_layout_23 : decode cX7_layout 23 = .ok (.iload_n 2, 1) := by decide +kernel
theorem dX7_layout_24 : decode cX7_layout 24 = .ok (.iadd, 1) := by decide +kernel
theorem dX7_layout_25 : decode cX7_layout 25 = .ok (.istore 4, 2) := by decide +kernel
theorem dX7_layout_27 : decode cX7_layout 27 = .ok (.iload_n 3, 1) := by decide +kernel
theorem dX7_layout_28 : decode cX7_layout 28 = .ok (.ifCond .ne 13, 3) := by decide +kernel
theorem dX7_layout_31 : decode cX7_layout 31 = .ok (.aload_n 0, 1) := by decide +kernel
theorem dX7_layout_32 : decode cX7_layout 32 = .ok (.getfield 29, 3) := by decide +kernel
theorem dX7_layout_35 : decode cX7_layout 35 = .ok (.iload 4, 2) := by decide +kernel
theorem dX7_layout_37 : decode cX7_layout 37 = .ok (.iaload, 1) := by decide +kernel
theorem dX7_layout_38 : decode cX7_layout 38 = .ok (.goto 35, 3) := by decide +kernel
theorem dX7_layout_41 : decode cX7_layout 41 = .ok (.iload_n 3, 1) := by decide +kernel
theorem dX7_layout_42 : decode cX7_layout 42 = .ok (.iconst 1, 1) := by decide +kernel
theorem dX7_layout_43 : decode cX7_layout 43 = .ok (.if_icmp .ne 13, 3) := by decide +kernel
theorem dX7_layout_46 : decode cX7_layout 46 = .ok (.aload_n 0, 1) := by decide +kernel
theorem dX7_layout_47 : decode cX7_layout 47 = .ok (.getfield 32, 3) := by decide +kernel
theorem dX7_layout_50 : decode cX7_layout 50 = .ok (.iload 4, 2) := by decide +kernel
theorem dX7_layout_52 : decode cX7_layout 52 = .ok (.iaload, 1) := by decide +kernel
theorem dX7_layout_53 : decode cX7_layout 53 = .ok (.goto 20, 3) := by decide +kernel
theorem dX7_layout_56 : decode cX7_layout 56 = .ok (.iload_n 3, 1) := by decide +kernel
theorem dX7_layout_57 : decode cX7_layout 57 = .ok (.iconst 2, 1) := by decide +kernel
theorem dX7_layout_58 : decode cX7_layout 58 = .ok (.if_icmp .ne 13, 3) := by decide +kernel
theorem dX7_layout_61 : decode cX7_layout 61 = .ok (.aload_n 0, 1) := by decide +kernel
theorem dX7_layout_62 : decode cX7_layout 62 = .ok (.getfield 35, 3) := by decide +kernel
theorem dX7_layout_65 : decode cX7_layout 65 = .ok (.iload 4, 2) := by decide +kernel
theorem dX7_layout_67 : decode cX7_layout 67 = .ok (.iaload, 1) := by decide +kernel
theorem dX7_layout_68 : decode cX7_layout 68 = .ok (.goto 5, 3) := by decide +kernel
theorem dX7_layout_71 : decode cX7_layout 71 = .ok (.bipush (-2), 2) := by decide +kernel
theorem dX7_layout_73 : decode cX7_layout 73 = .ok (.ireturn, 1) := by decide +kernel
theorem dX7_cellOf_0 : decode cX7_cellOf 0 = .ok (.aload_n 0, 1) := by decide +kernel
theorem dX7_cellOf_1 : decode cX7_cellOf 1 = .ok (.getfield 7, 3) := by decide +kernel
theorem dX7_cellOf_4 : decode cX7_cellOf 4 = .ok (.bipush 21, 2) := by decide +kernel
theorem dX7_cellOf_6 : decode cX7_cellOf 6 = .ok (.bipush 48, 2) := by decide +kernel
theorem dX7_cellOf_8 : decode cX7_cellOf 8 = .ok (.iload_n 1, 1) := by decide +kernel
theorem dX7_cellOf_9 : decode cX7_cellOf 9 = .ok (.imul, 1) := by decide +kernel
theorem dX7_cellOf_10 : decode cX7_cellOf 10 = .ok (.iadd, 1) := by decide +kernel
theorem dX7_cellOf_11 : decode cX7_cellOf 11 = .ok (.iload_n 2, 1) := by decide +kernel
theorem dX7_cellOf_12 : decode cX7_cellOf 12 = .ok (.iadd, 1) := by decide +kernel
theorem dX7_cellOf_13 : decode cX7_cellOf 13 = .ok (.iaload, 1) := by decide +kernel
theorem dX7_cellOf_14 : decode cX7_cellOf 14 = .ok (.ireturn, 1) := by decide +kernel
theorem dX7_write_0 : decode cX7_write 0 = .ok (.aload_n 0, 1) := by decide +kernel
theorem dX7_write_1 : decode cX7_write 1 = .ok (.getfield 7, 3) := by decide +kernel
theorem dX7_write_4 : decode cX7_write 4 = .ok (.iconst 0, 1) := by decide +kernel
theorem dX7_write_5 : decode cX7_write 5 = .ok (.iaload, 1) := by decide +kernel
theorem dX7_write_6 : decode cX7_write 6 = .ok (.iconst 1, 1) := by decide +kernel
theorem dX7_write_7 : decode cX7_write 7 = .ok (.if_icmp .ne 27, 3) := by decide +kernel
theorem dX7_write_10 : decode cX7_write 10 = .ok (.aload_n 0, 1) := by decide +kernel
theorem dX7_write_11 : decode cX7_write 11 = .ok (.getfield 7, 3) := by decide +kernel
theorem dX7_write_14 : decode cX7_write 14 = .ok (.iconst 1, 1) := by decide +kernel
theorem dX7_write_15 : decode cX7_write 15 = .ok (.iaload, 1) := by decide +kernel
theorem dX7_write_16 : decode cX7_write 16 = .ok (.ifCond .ne 18, 3) := by decide +kernel
theorem dX7_write_19 : decode cX7_write 19 = .ok (.aload_n 0, 1) := by decide +kernel
theorem dX7_write_20 : decode cX7_write 20 = .ok (.getfield 7, 3) := by decide +kernel
theorem dX7_write_23 : decode cX7_write 23 = .ok (.iconst 0, 1) := by decide +kernel
theorem dX7_write_24 : decode cX7_write 24 = .ok (.iconst 0, 1) := by decide +kernel
theorem dX7_write_25 : decode cX7_write 25 = .ok (.iastore, 1) := by decide +kernel
theorem dX7_write_26 : decode cX7_write 26 = .ok (.aload_n 0, 1) := by decide +kernel
theorem dX7_write_27 : decode cX7_write 27 = .ok (.getfield 7, 3) := by decide +kernel
theorem dX7_write_30 : decode cX7_write 30 = .ok (.iconst 1, 1) := by decide +kernel
theorem dX7_write_31 : decode cX7_write 31 = .ok (.bipush (-6), 2) := by decide +kernel
theorem dX7_write_33 : decode cX7_write 33 = .ok (.iastore, 1) := by decide +kernel
theorem dX7_write_34 : decode cX7_write 34 = .ok (.aload_n 0, 1) := by decide +kernel
theorem dX7_write_35 : decode cX7_write 35 = .ok (.getfield 7, 3) := by decide +kernel
theorem dX7_write_38 : decode cX7_write 38 = .ok (.iconst 0, 1) := by decide +kernel
theorem dX7_write_39 : decode cX7_write 39 = .ok (.iaload, 1) := by decide +kernel
theorem dX7_write_40 : decode cX7_write 40 = .ok (.iconst 1, 1) := by decide +kernel
theorem dX7_write_41 : decode cX7_write 41 = .ok (.if_icmp .ne 64, 3) := by decide +kernel
theorem dX7_write_44 : decode cX7_write 44 = .ok (.aload_n 0, 1) := by decide +kernel
theorem dX7_write_45 : decode cX7_write 45 = .ok (.getfield 7, 3) := by decide +kernel
theorem dX7_write_48 : decode cX7_write 48 = .ok (.iconst 1, 1) := by decide +kernel
theorem dX7_write_49 : decode cX7_write 49 = .ok (.dup2, 1) := by decide +kernel
theorem dX7_write_50 : decode cX7_write 50 = .ok (.iaload, 1) := by decide +kernel
theorem dX7_write_51 : decode cX7_write 51 = .ok (.aload_n 0, 1) := by decide +kernel
theorem dX7_write_52 : decode cX7_write 52 = .ok (.getfield 7, 3) := by decide +kernel
theorem dX7_write_55 : decode cX7_write 55 = .ok (.iconst 1, 1) := by decide +kernel
theorem dX7_write_56 : decode cX7_write 56 = .ok (.iaload, 1) := by decide +kernel
theorem dX7_write_57 : decode cX7_write 57 = .ok (.ifCond .le 7, 3) := by decide +kernel
theorem dX7_write_60 : decode cX7_write 60 = .ok (.iconst 1, 1) := by decide +kernel
theorem dX7_write_61 : decode cX7_write 61 = .ok (.goto 4, 3) := by decide +kernel
theorem dX7_write_64 : decode cX7_write 64 = .ok (.iconst 0, 1) := by decide +kernel
theorem dX7_write_65 : decode cX7_write 65 = .ok (.isub, 1) := by decide +kernel
theorem dX7_write_66 : decode cX7_write 66 = .ok (.iastore, 1) := by decide +kernel
theorem dX7_write_67 : decode cX7_write 67 = .ok (.aload_n 0, 1) := by decide +kernel
theorem dX7_write_68 : decode cX7_write 68 = .ok (.getfield 7, 3) := by decide +kernel
theorem dX7_write_71 : decode cX7_write 71 = .ok (.bipush 21, 2) := by decide +kernel
theorem dX7_write_73 : decode cX7_write 73 = .ok (.bipush 48, 2) := by decide +kernel
theorem dX7_write_75 : decode cX7_write 75 = .ok (.iload_n 1, 1) := by decide +kernel
theorem dX7_write_76 : decode cX7_write 76 = .ok (.imul, 1) := by decide +kernel
theorem dX7_write_77 : decode cX7_write 77 = .ok (.iadd, 1) := by decide +kernel
theorem dX7_write_78 : decode cX7_write 78 = .ok (.iload_n 2, 1) := by decide +kernel
theorem dX7_write_79 : decode cX7_write 79 = .ok (.iadd, 1) := by decide +kernel
theorem dX7_write_80 : decode cX7_write 80 = .ok (.iload_n 3, 1) := by decide +kernel
theorem dX7_write_81 : decode cX7_write 81 = .ok (.iastore, 1) := by decide +kernel
theorem dX7_write_82 : decode cX7_write 82 = .ok (.aload_n 0, 1) := by decide +kernel
theorem dX7_write_83 : decode cX7_write 83 = .ok (.getfield 7, 3) := by decide +kernel
theorem dX7_write_86 : decode cX7_write 86 = .ok (.bipush 7, 2) := by decide +kernel
theorem dX7_write_88 : decode cX7_write 88 = .ok (.iload_n 1, 1) := by decide +kernel
theorem dX7_write_89 : decode cX7_write 89 = .ok (.iadd, 1) := by decide +kernel
theorem dX7_write_90 : decode cX7_write 90 = .ok (.dup2, 1) := by decide +kernel
theorem dX7_write_91 : decode cX7_write 91 = .ok (.iaload, 1) := by decide +kernel
theorem dX7_write_92 : decode cX7_write 92 = .ok (.iconst 1, 1) := by decide +kernel
theorem dX7_write_93 : decode cX7_write 93 = .ok (.iadd, 1) := by decide +kernel
theorem dX7_write_94 : decode cX7_write 94 = .ok (.iastore, 1) := by decide +kernel
theorem dX7_write_95 : decode cX7_write 95 = .ok (.aload_n 0, 1) := by decide +kernel
theorem dX7_write_96 : decode cX7_write 96 = .ok (.dup, 1) := by decide +kernel
theorem dX7_write_97 : decode cX7_write 97 = .ok (.getfield 101, 3) := by decide +kernel
theorem dX7_write_100 : decode cX7_write 100 = .ok (.iconst 1, 1) := by decide +kernel
theorem dX7_write_101 : decode cX7_write 101 = .ok (.iadd, 1) := by decide +kernel
theorem dX7_write_102 : decode cX7_write 102 = .ok (.putfield 101, 3) := by decide +kernel
theorem dX7_write_105 : decode cX7_write 105 = .ok (.return_, 1) := by decide +kernel
theorem dX7_erase_0 : decode cX7_erase 0 = .ok (.iconst 0, 1) := by decide +kernel
theorem dX7_erase_1 : decode cX7_erase 1 = .ok (.istore_n 2, 1) := by decide +kernel
theorem dX7_erase_2 : decode cX7_erase 2 = .ok (.iload_n 2, 1) := by decide +kernel
theorem dX7_erase_3 : decode cX7_erase 3 = .ok (.bipush 48, 2) := by decide +kernel
theorem dX7_erase_5 : decode cX7_erase 5 = .ok (.if_icmp .ge 25, 3) := by decide +kernel
theorem dX7_erase_8 : decode cX7_erase 8 = .ok (.aload_n 0, 1) := by decide +kernel
theorem dX7_erase_9 : decode cX7_erase 9 = .ok (.getfield 7, 3) := by decide +kernel
theorem dX7_erase_12 : decode cX7_erase 12 = .ok (.bipush 21, 2) := by decide +kernel
theorem dX7_erase_14 : decode cX7_erase 14 = .ok (.bipush 48, 2) := by decide +kernel
theorem dX7_erase_16 : decode cX7_erase 16 = .ok (.iload_n 1, 1) := by decide +kernel
theorem dX7_erase_17 : decode cX7_erase 17 = .ok (.imul, 1) := by decide +kernel
theorem dX7_erase_18 : decode cX7_erase 18 = .ok (.iadd, 1) := by decide +kernel
theorem dX7_erase_19 : decode cX7_erase 19 = .ok (.iload_n 2, 1) := by decide +kernel
theorem dX7_erase_20 : decode cX7_erase 20 = .ok (.iadd, 1) := by decide +kernel
theorem dX7_erase_21 : decode cX7_erase 21 = .ok (.bipush (-6), 2) := by decide +kernel
theorem dX7_erase_23 : decode cX7_erase 23 = .ok (.iastore, 1) := by decide +kernel
theorem dX7_erase_24 : decode cX7_erase 24 = .ok (.iinc 2 1, 3) := by decide +kernel
theorem dX7_erase_27 : decode cX7_erase 27 = .ok (.goto (-25), 3) := by decide +kernel
theorem dX7_erase_30 : decode cX7_erase 30 = .ok (.aload_n 0, 1) := by decide +kernel
theorem dX7_erase_31 : decode cX7_erase 31 = .ok (.getfield 7, 3) := by decide +kernel
theorem dX7_erase_34 : decode cX7_erase 34 = .ok (.bipush 9, 2) := by decide +kernel
theorem dX7_erase_36 : decode cX7_erase 36 = .ok (.iload_n 1, 1) := by decide +kernel
theorem dX7_erase_37 : decode cX7_erase 37 = .ok (.iadd, 1) := by decide +kernel
theorem dX7_erase_38 : decode cX7_erase 38 = .ok (.dup2, 1) := by decide +kernel
theorem dX7_erase_39 : decode cX7_erase 39 = .ok (.iaload, 1) := by decide +kernel
theorem dX7_erase_40 : decode cX7_erase 40 = .ok (.iconst 1, 1) := by decide +kernel
theorem dX7_erase_41 : decode cX7_erase 41 = .ok (.iadd, 1) := by decide +kernel
theorem dX7_erase_42 : decode cX7_erase 42 = .ok (.iastore, 1) := by decide +kernel
theorem dX7_erase_43 : decode cX7_erase 43 = .ok (.return_, 1) := by decide +kernel
theorem dX7_checkOfHead_0 : decode cX7_checkOfHead 0 = .ok (.iconst 3, 1) := by decide +kernel
theorem dX7_checkOfHead_1 : decode cX7_checkOfHead 1 = .ok (.iload_n 0, 1) := by decide +kernel
theorem dX7_checkOfHead_2 : decode cX7_checkOfHead 2 = .ok (.imul, 1) := by decide +kernel
theorem dX7_checkOfHead_3 : decode cX7_checkOfHead 3 = .ok (.iconst 5, 1) := by decide +kernel
theorem dX7_checkOfHead_4 : decode cX7_checkOfHead 4 = .ok (.iload_n 1, 1) := by decide +kernel
theorem dX7_checkOfHead_5 : decode cX7_checkOfHead 5 = .ok (.imul, 1) := by decide +kernel
theorem dX7_checkOfHead_6 : decode cX7_checkOfHead 6 = .ok (.iadd, 1) := by decide +kernel
theorem dX7_checkOfHead_7 : decode cX7_checkOfHead 7 = .ok (.iconst 1, 1) := by decide +kernel
theorem dX7_checkOfHead_8 : decode cX7_checkOfHead 8 = .ok (.iadd, 1) := by decide +kernel
theorem dX7_checkOfHead_9 : decode cX7_checkOfHead 9 = .ok (.sipush 251, 3) := by decide +kernel
theorem dX7_checkOfHead_12 : decode cX7_checkOfHead 12 = .ok (.irem, 1) := by decide +kernel
theorem dX7_checkOfHead_13 : decode cX7_checkOfHead 13 = .ok (.ireturn, 1) := by decide +kernel
theorem dX7_checkOfRecord_0 : decode cX7_checkOfRecord 0 = .ok (.bipush 7, 2) := by decide +kernel
theorem dX7_checkOfRecord_2 : decode cX7_checkOfRecord 2 = .ok (.iload_n 0, 1) := by decide +kernel
theorem dX7_checkOfRecord_3 : decode cX7_checkOfRecord 3 = .ok (.imul, 1) := by decide +kernel
theorem dX7_checkOfRecord_4 : decode cX7_checkOfRecord 4 = .ok (.bipush 11, 2) := by decide +kernel
theorem dX7_checkOfRecord_6 : decode cX7_checkOfRecord 6 = .ok (.iload_n 1, 1) := by decide +kernel
theorem dX7_checkOfRecord_7 : decode cX7_checkOfRecord 7 = .ok (.imul, 1) := by decide +kernel
theorem dX7_checkOfRecord_8 : decode cX7_checkOfRecord 8 = .ok (.iadd, 1) := by decide +kernel
theorem dX7_checkOfRecord_9 : decode cX7_checkOfRecord 9 = .ok (.bipush 13, 2) := by decide +kernel
theorem dX7_checkOfRecord_11 : decode cX7_checkOfRecord 11 = .ok (.iload_n 2, 1) := by decide +kernel
theorem dX7_checkOfRecord_12 : decode cX7_checkOfRecord 12 = .ok (.imul, 1) := by decide +kernel
theorem dX7_checkOfRecord_13 : decode cX7_checkOfRecord 13 = .ok (.iadd, 1) := by decide +kernel
theorem dX7_checkOfRecord_14 : decode cX7_checkOfRecord 14 = .ok (.iconst 5, 1) := by decide +kernel
theorem dX7_checkOfRecord_15 : decode cX7_checkOfRecord 15 = .ok (.iadd, 1) := by decide +kernel
theorem dX7_checkOfRecord_16 : decode cX7_checkOfRecord 16 = .ok (.sipush 251, 3) := by decide +kernel
theorem dX7_checkOfRecord_19 : decode cX7_checkOfRecord 19 = .ok (.irem, 1) := by decide +kernel
theorem dX7_checkOfRecord_20 : decode cX7_checkOfRecord 20 = .ok (.ireturn, 1) := by decide +kernel
theorem dX7_writeRecord_0 : decode cX7_writeRecord 0 = .ok (.aload_n 0, 1) := by decide +kernel
theorem dX7_writeRecord_1 : decode cX7_writeRecord 1 = .ok (.iload_n 1, 1) := by decide +kernel
theorem dX7_writeRecord_2 : decode cX7_writeRecord 2 = .ok (.iload_n 2, 1) := by decide +kernel
theorem dX7_writeRecord_3 : decode cX7_writeRecord 3 = .ok (.iconst 1, 1) := by decide +kernel
theorem dX7_writeRecord_4 : decode cX7_writeRecord 4 = .ok (.iload_n 3, 1) := by decide +kernel
theorem dX7_writeRecord_5 : decode cX7_writeRecord 5 = .ok (.iadd, 1) := by decide +kernel
theorem dX7_writeRecord_6 : decode cX7_writeRecord 6 = .ok (.invokevirtual 104, 3) := by decide +kernel
theorem dX7_writeRecord_9 : decode cX7_writeRecord 9 = .ok (.aload_n 0, 1) := by decide +kernel
theorem dX7_writeRecord_10 : decode cX7_writeRecord 10 = .ok (.iload_n 1, 1) := by decide +kernel
theorem dX7_writeRecord_11 : decode cX7_writeRecord 11 = .ok (.iload_n 2, 1) := by decide +kernel
theorem dX7_writeRecord_12 : decode cX7_writeRecord 12 = .ok (.iconst 1, 1) := by decide +kernel
theorem dX7_writeRecord_13 : decode cX7_writeRecord 13 = .ok (.iadd, 1) := by decide +kernel
theorem dX7_writeRecord_14 : decode cX7_writeRecord 14 = .ok (.iload 4, 2) := by decide +kernel
theorem dX7_writeRecord_16 : decode cX7_writeRecord 16 = .ok (.invokevirtual 104, 3) := by decide +kernel
theorem dX7_writeRecord_19 : decode cX7_writeRecord 19 = .ok (.aload_n 0, 1) := by decide +kernel
theorem dX7_writeRecord_20 : decode cX7_writeRecord 20 = .ok (.iload_n 1, 1) := by decide +kernel
theorem dX7_writeRecord_21 : decode cX7_writeRecord 21 = .ok (.iload_n 2, 1) := by decide +kernel
theorem dX7_writeRecord_22 : decode cX7_writeRecord 22 = .ok (.iconst 2, 1) := by decide +kernel
theorem dX7_writeRecord_23 : decode cX7_writeRecord 23 = .ok (.iadd, 1) := by decide +kernel
theorem dX7_writeRecord_24 : decode cX7_writeRecord 24 = .ok (.iconst 1, 1) := by decide +kernel
theorem dX7_writeRecord_25 : decode cX7_writeRecord 25 = .ok (.iload_n 3, 1) := by decide +kernel
theorem dX7_writeRecord_26 : decode cX7_writeRecord 26 = .ok (.iadd, 1) := by decide +kernel
theorem dX7_writeRecord_27 : decode cX7_writeRecord 27 = .ok (.iload 4, 2) := by decide +kernel
theorem dX7_writeRecord_29 : decode cX7_writeRecord 29 = .ok (.iload 5, 2) := by decide +kernel
theorem dX7_writeRecord_31 : decode cX7_writeRecord 31 = .ok (.invokestatic 108, 3) := by decide +kernel
theorem dX7_writeRecord_34 : decode cX7_writeRecord 34 = .ok (.invokevirtual 104, 3) := by decide +kernel
theorem dX7_writeRecord_37 : decode cX7_writeRecord 37 = .ok (.return_, 1) := by decide +kernel
theorem dX7_writeHead_0 : decode cX7_writeHead 0 = .ok (.aload_n 0, 1) := by decide +kernel
theorem dX7_writeHead_1 : decode cX7_writeHead 1 = .ok (.iload_n 1, 1) := by decide +kernel
theorem dX7_writeHead_2 : decode cX7_writeHead 2 = .ok (.iconst 0, 1) := by decide +kernel
theorem dX7_writeHead_3 : decode cX7_writeHead 3 = .ok (.sipush 200, 3) := by decide +kernel
theorem dX7_writeHead_6 : decode cX7_writeHead 6 = .ok (.iload_n 2, 1) := by decide +kernel
theorem dX7_writeHead_7 : decode cX7_writeHead 7 = .ok (.iadd, 1) := by decide +kernel
theorem dX7_writeHead_8 : decode cX7_writeHead 8 = .ok (.invokevirtual 104, 3) := by decide +kernel
theorem dX7_writeHead_11 : decode cX7_writeHead 11 = .ok (.aload_n 0, 1) := by decide +kernel
theorem dX7_writeHead_12 : decode cX7_writeHead 12 = .ok (.iload_n 1, 1) := by decide +kernel
theorem dX7_writeHead_13 : decode cX7_writeHead 13 = .ok (.iconst 1, 1) := by decide +kernel
theorem dX7_writeHead_14 : decode cX7_writeHead 14 = .ok (.iload_n 3, 1) := by decide +kernel
theorem dX7_writeHead_15 : decode cX7_writeHead 15 = .ok (.invokevirtual 104, 3) := by decide +kernel
theorem dX7_writeHead_18 : decode cX7_writeHead 18 = .ok (.aload_n 0, 1) := by decide +kernel
theorem dX7_writeHead_19 : decode cX7_writeHead 19 = .ok (.iload_n 1, 1) := by decide +kernel
theorem dX7_writeHead_20 : decode cX7_writeHead 20 = .ok (.iconst 2, 1) := by decide +kernel
theorem dX7_writeHead_21 : decode cX7_writeHead 21 = .ok (.sipush 200, 3) := by decide +kernel
theorem dX7_writeHead_24 : decode cX7_writeHead 24 = .ok (.iload_n 2, 1) := by decide +kernel
theorem dX7_writeHead_25 : decode cX7_writeHead 25 = .ok (.iadd, 1) := by decide +kernel
theorem dX7_writeHead_26 : decode cX7_writeHead 26 = .ok (.iload_n 3, 1) := by decide +kernel
theorem dX7_writeHead_27 : decode cX7_writeHead 27 = .ok (.invokestatic 111, 3) := by decide +kernel
theorem dX7_writeHead_30 : decode cX7_writeHead 30 = .ok (.invokevirtual 104, 3) := by decide +kernel
theorem dX7_writeHead_33 : decode cX7_writeHead 33 = .ok (.return_, 1) := by decide +kernel
theorem dX7_fail_0 : decode cX7_fail 0 = .ok (.iload_n 1, 1) := by decide +kernel
theorem dX7_fail_1 : decode cX7_fail 1 = .ok (.bipush (-6), 2) := by decide +kernel
theorem dX7_fail_3 : decode cX7_fail 3 = .ok (.if_icmp .eq 17, 3) := by decide +kernel
theorem dX7_fail_6 : decode cX7_fail 6 = .ok (.iload_n 1, 1) := by decide +kernel
theorem dX7_fail_7 : decode cX7_fail 7 = .ok (.iconst 0, 1) := by decide +kernel
theorem dX7_fail_8 : decode cX7_fail 8 = .ok (.sipush 200, 3) := by decide +kernel
theorem dX7_fail_11 : decode cX7_fail 11 = .ok (.invokestatic 63, 3) := by decide +kernel
theorem dX7_fail_14 : decode cX7_fail 14 = .ok (.ifCond .ne 6, 3) := by decide +kernel
theorem dX7_fail_17 : decode cX7_fail 17 = .ok (.bipush (-2), 2) := by decide +kernel
theorem dX7_fail_19 : decode cX7_fail 19 = .ok (.ireturn, 1) := by decide +kernel
theorem dX7_fail_20 : decode cX7_fail 20 = .ok (.aload_n 0, 1) := by decide +kernel
theorem dX7_fail_21 : decode cX7_fail 21 = .ok (.getfield 7, 3) := by decide +kernel
theorem dX7_fail_24 : decode cX7_fail 24 = .ok (.iconst 0, 1) := by decide +kernel
theorem dX7_fail_25 : decode cX7_fail 25 = .ok (.iaload, 1) := by decide +kernel
theorem dX7_fail_26 : decode cX7_fail 26 = .ok (.ifCond .ne 6, 3) := by decide +kernel
theorem dX7_fail_29 : decode cX7_fail 29 = .ok (.bipush (-5), 2) := by decide +kernel
theorem dX7_fail_31 : decode cX7_fail 31 = .ok (.ireturn, 1) := by decide +kernel
theorem dX7_fail_32 : decode cX7_fail 32 = .ok (.aload_n 0, 1) := by decide +kernel
theorem dX7_fail_33 : decode cX7_fail 33 = .ok (.getfield 7, 3) := by decide +kernel
theorem dX7_fail_36 : decode cX7_fail 36 = .ok (.iconst 1, 1) := by decide +kernel
theorem dX7_fail_37 : decode cX7_fail 37 = .ok (.iaload, 1) := by decide +kernel
theorem dX7_fail_38 : decode cX7_fail 38 = .ok (.bipush (-6), 2) := by decide +kernel
theorem dX7_fail_40 : decode cX7_fail 40 = .ok (.if_icmp .ne 7, 3) := by decide +kernel
theorem dX7_fail_43 : decode cX7_fail 43 = .ok (.iconst 0, 1) := by decide +kernel
theorem dX7_fail_44 : decode cX7_fail 44 = .ok (.goto 4, 3) := by decide +kernel
theorem dX7_fail_47 : decode cX7_fail 47 = .ok (.iconst 1, 1) := by decide +kernel
theorem dX7_fail_48 : decode cX7_fail 48 = .ok (.istore_n 2, 1) := by decide +kernel
theorem dX7_fail_49 : decode cX7_fail 49 = .ok (.aload_n 0, 1) := by decide +kernel
theorem dX7_fail_50 : decode cX7_fail 50 = .ok (.getfield 7, 3) := by decide +kernel
theorem dX7_fail_53 : decode cX7_fail 53 = .ok (.iconst 1, 1) := by decide +kernel
theorem dX7_fail_54 : decode cX7_fail 54 = .ok (.iload_n 1, 1) := by decide +kernel
theorem dX7_fail_55 : decode cX7_fail 55 = .ok (.iastore, 1) := by decide +kernel
theorem dX7_fail_56 : decode cX7_fail 56 = .ok (.iload_n 2, 1) := by decide +kernel
theorem dX7_fail_57 : decode cX7_fail 57 = .ok (.ireturn, 1) := by decide +kernel
theorem dX7_isHead_0 : decode cX7_isHead 0 = .ok (.aload_n 0, 1) := by decide +kernel
theorem dX7_isHead_1 : decode cX7_isHead 1 = .ok (.iload_n 1, 1) := by decide +kernel
theorem dX7_isHead_2 : decode cX7_isHead 2 = .ok (.iconst 0, 1) := by decide +kernel
theorem dX7_isHead_3 : decode cX7_isHead 3 = .ok (.invokevirtual 114, 3) := by decide +kernel
theorem dX7_isHead_6 : decode cX7_isHead 6 = .ok (.istore_n 2, 1) := by decide +kernel
theorem dX7_isHead_7 : decode cX7_isHead 7 = .ok (.aload_n 0, 1) := by decide +kernel
theorem dX7_isHead_8 : decode cX7_isHead 8 = .ok (.iload_n 1, 1) := by decide +kernel
theorem dX7_isHead_9 : decode cX7_isHead 9 = .ok (.iconst 1, 1) := by decide +kernel
theorem dX7_isHead_10 : decode cX7_isHead 10 = .ok (.invokevirtual 114, 3) := by decide +kernel
theorem dX7_isHead_13 : decode cX7_isHead 13 = .ok (.istore_n 3, 1) := by decide +kernel
theorem dX7_isHead_14 : decode cX7_isHead 14 = .ok (.iload_n 2, 1) := by decide +kernel
theorem dX7_isHead_15 : decode cX7_isHead 15 = .ok (.sipush 200, 3) := by decide +kernel
theorem dX7_isHead_18 : decode cX7_isHead 18 = .ok (.sipush 205, 3) := by decide +kernel
theorem dX7_isHead_21 : decode cX7_isHead 21 = .ok (.invokestatic 63, 3) := by decide +kernel
theorem dX7_isHead_24 : decode cX7_isHead 24 = .ok (.ifCond .eq 44, 3) := by decide +kernel
theorem dX7_isHead_27 : decode cX7_isHead 27 = .ok (.aload_n 0, 1) := by decide +kernel
theorem dX7_isHead_28 : decode cX7_isHead 28 = .ok (.iload_n 2, 1) := by decide +kernel
theorem dX7_isHead_29 : decode cX7_isHead 29 = .ok (.sipush 200, 3) := by decide +kernel
theorem dX7_isHead_32 : decode cX7_isHead 32 = .ok (.isub, 1) := by decide +kernel
theorem dX7_isHead_33 : decode cX7_isHead 33 = .ok (.invokevirtual 97, 3) := by decide +kernel
theorem dX7_isHead_36 : decode cX7_isHead 36 = .ok (.ifCond .eq 32, 3) := by decide +kernel
theorem dX7_isHead_39 : decode cX7_isHead 39 = .ok (.iload_n 3, 1) := by decide +kernel
theorem dX7_isHead_40 : decode cX7_isHead 40 = .ok (.iconst 0, 1) := by decide +kernel
theorem dX7_isHead_41 : decode cX7_isHead 41 = .ok (.sipush 199, 3) := by decide +kernel
theorem dX7_isHead_44 : decode cX7_isHead 44 = .ok (.invokestatic 63, 3) := by decide +kernel
theorem dX7_isHead_47 : decode cX7_isHead 47 = .ok (.ifCond .eq 21, 3) := by decide +kernel
theorem dX7_isHead_50 : decode cX7_isHead 50 = .ok (.aload_n 0, 1) := by decide +kernel
theorem dX7_isHead_51 : decode cX7_isHead 51 = .ok (.iload_n 1, 1) := by decide +kernel
theorem dX7_isHead_52 : decode cX7_isHead 52 = .ok (.iconst 2, 1) := by decide +kernel
theorem dX7_isHead_53 : decode cX7_isHead 53 = .ok (.invokevirtual 114, 3) := by decide +kernel
theorem dX7_isHead_56 : decode cX7_isHead 56 = .ok (.iload_n 2, 1) := by decide +kernel
theorem dX7_isHead_57 : decode cX7_isHead 57 = .ok (.iload_n 3, 1) := by decide +kernel
theorem dX7_isHead_58 : decode cX7_isHead 58 = .ok (.invokestatic 111, 3) := by decide +kernel
theorem dX7_isHead_61 : decode cX7_isHead 61 = .ok (.if_icmp .ne 7, 3) := by decide +kernel
theorem dX7_isHead_64 : decode cX7_isHead 64 = .ok (.iconst 1, 1) := by decide +kernel
theorem dX7_isHead_65 : decode cX7_isHead 65 = .ok (.goto 4, 3) := by decide +kernel
theorem dX7_isHead_68 : decode cX7_isHead 68 = .ok (.iconst 0, 1) := by decide +kernel
theorem dX7_isHead_69 : decode cX7_isHead 69 = .ok (.ireturn, 1) := by decide +kernel
theorem dX7_isRecord_0 : decode cX7_isRecord 0 = .ok (.aload_n 0, 1) := by decide +kernel
theorem dX7_isRecord_1 : decode cX7_isRecord 1 = .ok (.iload_n 1, 1) := by decide +kernel
theorem dX7_isRecord_2 : decode cX7_isRecord 2 = .ok (.iload_n 2, 1) := by decide +kernel
theorem dX7_isRecord_3 : decode cX7_isRecord 3 = .ok (.invokevirtual 114, 3) := by decide +kernel
theorem dX7_isRecord_6 : decode cX7_isRecord 6 = .ok (.istore 4, 2) := by decide +kernel
theorem dX7_isRecord_8 : decode cX7_isRecord 8 = .ok (.aload_n 0, 1) := by decide +kernel
theorem dX7_isRecord_9 : decode cX7_isRecord 9 = .ok (.iload_n 1, 1) := by decide +kernel
theorem dX7_isRecord_10 : decode cX7_isRecord 10 = .ok (.iload_n 2, 1) := by decide +kernel
theorem dX7_isRecord_11 : decode cX7_isRecord 11 = .ok (.iconst 1, 1) := by decide +kernel
theorem dX7_isRecord_12 : decode cX7_isRecord 12 = .ok (.iadd, 1) := by decide +kernel
theorem dX7_isRecord_13 : decode cX7_isRecord 13 = .ok (.invokevirtual 114, 3) := by decide +kernel
theorem dX7_isRecord_16 : decode cX7_isRecord 16 = .ok (.istore 5, 2) := by decide +kernel
theorem dX7_isRecord_18 : decode cX7_isRecord 18 = .ok (.iload 4, 2) := by decide +kernel
theorem dX7_isRecord_20 : decode cX7_isRecord 20 = .ok (.iconst 1, 1) := by decide +kernel
theorem dX7_isRecord_21 : decode cX7_isRecord 21 = .ok (.bipush 10, 2) := by decide +kernel
theorem dX7_isRecord_23 : decode cX7_isRecord 23 = .ok (.invokestatic 63, 3) := by decide +kernel
theorem dX7_isRecord_26 : decode cX7_isRecord 26 = .ok (.ifCond .eq 19, 3) := by decide +kernel
theorem dX7_isRecord_29 : decode cX7_isRecord 29 = .ok (.aload_n 0, 1) := by decide +kernel
theorem dX7_isRecord_30 : decode cX7_isRecord 30 = .ok (.iload_n 3, 1) := by decide +kernel
theorem dX7_isRecord_31 : decode cX7_isRecord 31 = .ok (.iload 4, 2) := by decide +kernel
theorem dX7_isRecord_33 : decode cX7_isRecord 33 = .ok (.iconst 1, 1) := by decide +kernel
theorem dX7_isRecord_34 : decode cX7_isRecord 34 = .ok (.isub, 1) := by decide +kernel
theorem dX7_isRecord_35 : decode cX7_isRecord 35 = .ok (.invokevirtual 71, 3) := by decide +kernel
theorem dX7_isRecord_38 : decode cX7_isRecord 38 = .ok (.ifCond .eq 7, 3) := by decide +kernel
theorem dX7_isRecord_41 : decode cX7_isRecord 41 = .ok (.iconst 1, 1) := by decide +kernel
theorem dX7_isRecord_42 : decode cX7_isRecord 42 = .ok (.goto 4, 3) := by decide +kernel
theorem dX7_isRecord_45 : decode cX7_isRecord 45 = .ok (.iconst 0, 1) := by decide +kernel
theorem dX7_isRecord_46 : decode cX7_isRecord 46 = .ok (.istore 6, 2) := by decide +kernel
theorem dX7_isRecord_48 : decode cX7_isRecord 48 = .ok (.iload 6, 2) := by decide +kernel
theorem dX7_isRecord_50 : decode cX7_isRecord 50 = .ok (.ifCond .eq 49, 3) := by decide +kernel
theorem dX7_isRecord_53 : decode cX7_isRecord 53 = .ok (.iload 5, 2) := by decide +kernel
theorem dX7_isRecord_55 : decode cX7_isRecord 55 = .ok (.iconst 0, 1) := by decide +kernel
theorem dX7_isRecord_56 : decode cX7_isRecord 56 = .ok (.aload_n 0, 1) := by decide +kernel
theorem dX7_isRecord_57 : decode cX7_isRecord 57 = .ok (.getfield 29, 3) := by decide +kernel
theorem dX7_isRecord_60 : decode cX7_isRecord 60 = .ok (.bipush 10, 2) := by decide +kernel
theorem dX7_isRecord_62 : decode cX7_isRecord 62 = .ok (.iload_n 3, 1) := by decide +kernel
theorem dX7_isRecord_63 : decode cX7_isRecord 63 = .ok (.imul, 1) := by decide +kernel
theorem dX7_isRecord_64 : decode cX7_isRecord 64 = .ok (.iload 4, 2) := by decide +kernel
theorem dX7_isRecord_66 : decode cX7_isRecord 66 = .ok (.iadd, 1) := by decide +kernel
theorem dX7_isRecord_67 : decode cX7_isRecord 67 = .ok (.iconst 1, 1) := by decide +kernel
theorem dX7_isRecord_68 : decode cX7_isRecord 68 = .ok (.isub, 1) := by decide +kernel
theorem dX7_isRecord_69 : decode cX7_isRecord 69 = .ok (.iaload, 1) := by decide +kernel
theorem dX7_isRecord_70 : decode cX7_isRecord 70 = .ok (.invokestatic 63, 3) := by decide +kernel
theorem dX7_isRecord_73 : decode cX7_isRecord 73 = .ok (.ifCond .eq 26, 3) := by decide +kernel
theorem dX7_isRecord_76 : decode cX7_isRecord 76 = .ok (.aload_n 0, 1) := by decide +kernel
theorem dX7_isRecord_77 : decode cX7_isRecord 77 = .ok (.iload_n 1, 1) := by decide +kernel
theorem dX7_isRecord_78 : decode cX7_isRecord 78 = .ok (.iload_n 2, 1) := by decide +kernel
theorem dX7_isRecord_79 : decode cX7_isRecord 79 = .ok (.iconst 2, 1) := by decide +kernel
theorem dX7_isRecord_80 : decode cX7_isRecord 80 = .ok (.iadd, 1) := by decide +kernel
theorem dX7_isRecord_81 : decode cX7_isRecord 81 = .ok (.invokevirtual 114, 3) := by decide +kernel
theorem dX7_isRecord_84 : decode cX7_isRecord 84 = .ok (.iload 4, 2) := by decide +kernel
theorem dX7_isRecord_86 : decode cX7_isRecord 86 = .ok (.iload 5, 2) := by decide +kernel
theorem dX7_isRecord_88 : decode cX7_isRecord 88 = .ok (.iload_n 3, 1) := by decide +kernel
theorem dX7_isRecord_89 : decode cX7_isRecord 89 = .ok (.invokestatic 108, 3) := by decide +kernel
theorem dX7_isRecord_92 : decode cX7_isRecord 92 = .ok (.if_icmp .ne 7, 3) := by decide +kernel
theorem dX7_isRecord_95 : decode cX7_isRecord 95 = .ok (.iconst 1, 1) := by decide +kernel
theorem dX7_isRecord_96 : decode cX7_isRecord 96 = .ok (.goto 4, 3) := by decide +kernel
theorem dX7_isRecord_99 : decode cX7_isRecord 99 = .ok (.iconst 0, 1) := by decide +kernel
theorem dX7_isRecord_100 : decode cX7_isRecord 100 = .ok (.ireturn, 1) := by decide +kernel
theorem dX7_goThrough_0 : decode cX7_goThrough 0 = .ok (.aload_n 0, 1) := by decide +kernel
theorem dX7_goThrough_1 : decode cX7_goThrough 1 = .ok (.iconst 0, 1) := by decide +kernel
theorem dX7_goThrough_2 : decode cX7_goThrough 2 = .ok (.putfield 117, 3) := by decide +kernel
theorem dX7_goThrough_5 : decode cX7_goThrough 5 = .ok (.aload_n 0, 1) := by decide +kernel
theorem dX7_goThrough_6 : decode cX7_goThrough 6 = .ok (.iconst 0, 1) := by decide +kernel
theorem dX7_goThrough_7 : decode cX7_goThrough 7 = .ok (.putfield 120, 3) := by decide +kernel
theorem dX7_goThrough_10 : decode cX7_goThrough 10 = .ok (.aload_n 0, 1) := by decide +kernel
theorem dX7_goThrough_11 : decode cX7_goThrough 11 = .ok (.iconst 3, 1) := by decide +kernel
theorem dX7_goThrough_12 : decode cX7_goThrough 12 = .ok (.putfield 123, 3) := by decide +kernel
theorem dX7_goThrough_15 : decode cX7_goThrough 15 = .ok (.aload_n 0, 1) := by decide +kernel
theorem dX7_goThrough_16 : decode cX7_goThrough 16 = .ok (.getfield 123, 3) := by decide +kernel
theorem dX7_goThrough_19 : decode cX7_goThrough 19 = .ok (.bipush 48, 2) := by decide +kernel
theorem dX7_goThrough_21 : decode cX7_goThrough 21 = .ok (.if_icmp .ge 123, 3) := by decide +kernel
theorem dX7_goThrough_24 : decode cX7_goThrough 24 = .ok (.aload_n 0, 1) := by decide +kernel
theorem dX7_goThrough_25 : decode cX7_goThrough 25 = .ok (.iload_n 1, 1) := by decide +kernel
theorem dX7_goThrough_26 : decode cX7_goThrough 26 = .ok (.aload_n 0, 1) := by decide +kernel
theorem dX7_goThrough_27 : decode cX7_goThrough 27 = .ok (.getfield 123, 3) := by decide +kernel
theorem dX7_goThrough_30 : decode cX7_goThrough 30 = .ok (.invokevirtual 114, 3) := by decide +kernel
theorem dX7_goThrough_33 : decode cX7_goThrough 33 = .ok (.bipush (-6), 2) := by decide +kernel
theorem dX7_goThrough_35 : decode cX7_goThrough 35 = .ok (.if_icmp .eq 109, 3) := by decide +kernel
theorem dX7_goThrough_38 : decode cX7_goThrough 38 = .ok (.aload_n 0, 1) := by decide +kernel
theorem dX7_goThrough_39 : decode cX7_goThrough 39 = .ok (.iload_n 1, 1) := by decide +kernel
theorem dX7_goThrough_40 : decode cX7_goThrough 40 = .ok (.aload_n 0, 1) := by decide +kernel
theorem dX7_goThrough_41 : decode cX7_goThrough 41 = .ok (.getfield 123, 3) := by decide +kernel
theorem dX7_goThrough_44 : decode cX7_goThrough 44 = .ok (.iload_n 2, 1) := by decide +kernel
theorem dX7_goThrough_45 : decode cX7_goThrough 45 = .ok (.invokevirtual 126, 3) := by decide +kernel
theorem dX7_goThrough_48 : decode cX7_goThrough 48 = .ok (.ifCond .eq 73, 3) := by decide +kernel
theorem dX7_goThrough_51 : decode cX7_goThrough 51 = .ok (.aload_n 0, 1) := by decide +kernel
theorem dX7_goThrough_52 : decode cX7_goThrough 52 = .ok (.dup, 1) := by decide +kernel
theorem dX7_goThrough_53 : decode cX7_goThrough 53 = .ok (.getfield 117, 3) := by decide +kernel
theorem dX7_goThrough_56 : decode cX7_goThrough 56 = .ok (.iconst 1, 1) := by decide +kernel
theorem dX7_goThrough_57 : decode cX7_goThrough 57 = .ok (.iadd, 1) := by decide +kernel
theorem dX7_goThrough_58 : decode cX7_goThrough 58 = .ok (.putfield 117, 3) := by decide +kernel
theorem dX7_goThrough_61 : decode cX7_goThrough 61 = .ok (.iload_n 3, 1) := by decide +kernel
theorem dX7_goThrough_62 : decode cX7_goThrough 62 = .ok (.ifCond .eq 69, 3) := by decide +kernel
theorem dX7_goThrough_65 : decode cX7_goThrough 65 = .ok (.aload_n 0, 1) := by decide +kernel
theorem dX7_goThrough_66 : decode cX7_goThrough 66 = .ok (.getfield 7, 3) := by decide +kernel
theorem dX7_goThrough_69 : decode cX7_goThrough 69 = .ok (.bipush 11, 2) := by decide +kernel
theorem dX7_goThrough_71 : decode cX7_goThrough 71 = .ok (.aload_n 0, 1) := by decide +kernel
theorem dX7_goThrough_72 : decode cX7_goThrough 72 = .ok (.iload_n 1, 1) := by decide +kernel
theorem dX7_goThrough_73 : decode cX7_goThrough 73 = .ok (.aload_n 0, 1) := by decide +kernel
theorem dX7_goThrough_74 : decode cX7_goThrough 74 = .ok (.getfield 123, 3) := by decide +kernel
theorem dX7_goThrough_77 : decode cX7_goThrough 77 = .ok (.invokevirtual 114, 3) := by decide +kernel
theorem dX7_goThrough_80 : decode cX7_goThrough 80 = .ok (.iadd, 1) := by decide +kernel
theorem dX7_goThrough_81 : decode cX7_goThrough 81 = .ok (.iconst 1, 1) := by decide +kernel
theorem dX7_goThrough_82 : decode cX7_goThrough 82 = .ok (.isub, 1) := by decide +kernel
theorem dX7_goThrough_83 : decode cX7_goThrough 83 = .ok (.aload_n 0, 1) := by decide +kernel
theorem dX7_goThrough_84 : decode cX7_goThrough 84 = .ok (.iload_n 1, 1) := by decide +kernel
theorem dX7_goThrough_85 : decode cX7_goThrough 85 = .ok (.aload_n 0, 1) := by decide +kernel
theorem dX7_goThrough_86 : decode cX7_goThrough 86 = .ok (.getfield 123, 3) := by decide +kernel
theorem dX7_goThrough_89 : decode cX7_goThrough 89 = .ok (.iconst 1, 1) := by decide +kernel
theorem dX7_goThrough_90 : decode cX7_goThrough 90 = .ok (.iadd, 1) := by decide +kernel
theorem dX7_goThrough_91 : decode cX7_goThrough 91 = .ok (.invokevirtual 114, 3) := by decide +kernel
theorem dX7_goThrough_94 : decode cX7_goThrough 94 = .ok (.iastore, 1) := by decide +kernel
theorem dX7_goThrough_95 : decode cX7_goThrough 95 = .ok (.aload_n 0, 1) := by decide +kernel
theorem dX7_goThrough_96 : decode cX7_goThrough 96 = .ok (.getfield 7, 3) := by decide +kernel
theorem dX7_goThrough_99 : decode cX7_goThrough 99 = .ok (.bipush 117, 2) := by decide +kernel
theorem dX7_goThrough_101 : decode cX7_goThrough 101 = .ok (.aload_n 0, 1) := by decide +kernel
theorem dX7_goThrough_102 : decode cX7_goThrough 102 = .ok (.iload_n 1, 1) := by decide +kernel
theorem dX7_goThrough_103 : decode cX7_goThrough 103 = .ok (.aload_n 0, 1) := by decide +kernel
theorem dX7_goThrough_104 : decode cX7_goThrough 104 = .ok (.getfield 123, 3) := by decide +kernel
theorem dX7_goThrough_107 : decode cX7_goThrough 107 = .ok (.invokevirtual 114, 3) := by decide +kernel
theorem dX7_goThrough_110 : decode cX7_goThrough 110 = .ok (.iadd, 1) := by decide +kernel
theorem dX7_goThrough_111 : decode cX7_goThrough 111 = .ok (.iconst 1, 1) := by decide +kernel
theorem dX7_goThrough_112 : decode cX7_goThrough 112 = .ok (.isub, 1) := by decide +kernel
theorem dX7_goThrough_113 : decode cX7_goThrough 113 = .ok (.aload_n 0, 1) := by decide +kernel
theorem dX7_goThrough_114 : decode cX7_goThrough 114 = .ok (.getfield 123, 3) := by decide +kernel
theorem dX7_goThrough_117 : decode cX7_goThrough 117 = .ok (.iastore, 1) := by decide +kernel
theorem dX7_goThrough_118 : decode cX7_goThrough 118 = .ok (.goto 13, 3) := by decide +kernel
theorem dX7_goThrough_121 : decode cX7_goThrough 121 = .ok (.aload_n 0, 1) := by decide +kernel
theorem dX7_goThrough_122 : decode cX7_goThrough 122 = .ok (.dup, 1) := by decide +kernel
theorem dX7_goThrough_123 : decode cX7_goThrough 123 = .ok (.getfield 120, 3) := by decide +kernel
theorem dX7_goThrough_126 : decode cX7_goThrough 126 = .ok (.iconst 1, 1) := by decide +kernel
theorem dX7_goThrough_127 : decode cX7_goThrough 127 = .ok (.iadd, 1) := by decide +kernel
theorem dX7_goThrough_128 : decode cX7_goThrough 128 = .ok (.putfield 120, 3) := by decide +kernel
theorem dX7_goThrough_131 : decode cX7_goThrough 131 = .ok (.aload_n 0, 1) := by decide +kernel
end
section
theorem dX7_goThrough_132 : decode cX7_goThrough 132 = .ok (.dup, 1) := by decide +kernel
theorem dX7_goThrough_133 : decode cX7_goThrough 133 = .ok (.getfield 123, 3) := by decide +kernel
theorem dX7_goThrough_136 : decode cX7_goThrough 136 = .ok (.iconst 3, 1) := by decide +kernel
theorem dX7_goThrough_137 : decode cX7_goThrough 137 = .ok (.iadd, 1) := by decide +kernel
theorem dX7_goThrough_138 : decode cX7_goThrough 138 = .ok (.putfield 123, 3) := by decide +kernel
theorem dX7_goThrough_141 : decode cX7_goThrough 141 = .ok (.goto (-126), 3) := by decide +kernel
theorem dX7_goThrough_144 : decode cX7_goThrough 144 = .ok (.return_, 1) := by decide +kernel
theorem dX7_layUsual_0 : decode cX7_layUsual 0 = .ok (.iconst 0, 1) := by decide +kernel
theorem dX7_layUsual_1 : decode cX7_layUsual 1 = .ok (.istore_n 2, 1) := by decide +kernel
theorem dX7_layUsual_2 : decode cX7_layUsual 2 = .ok (.iload_n 2, 1) := by decide +kernel
theorem dX7_layUsual_3 : decode cX7_layUsual 3 = .ok (.bipush 10, 2) := by decide +kernel
theorem dX7_layUsual_5 : decode cX7_layUsual 5 = .ok (.if_icmp .ge 40, 3) := by decide +kernel
theorem dX7_layUsual_8 : decode cX7_layUsual 8 = .ok (.aload_n 0, 1) := by decide +kernel
theorem dX7_layUsual_9 : decode cX7_layUsual 9 = .ok (.getfield 7, 3) := by decide +kernel
theorem dX7_layUsual_12 : decode cX7_layUsual 12 = .ok (.bipush 11, 2) := by decide +kernel
theorem dX7_layUsual_14 : decode cX7_layUsual 14 = .ok (.iload_n 2, 1) := by decide +kernel
theorem dX7_layUsual_15 : decode cX7_layUsual 15 = .ok (.iadd, 1) := by decide +kernel
theorem dX7_layUsual_16 : decode cX7_layUsual 16 = .ok (.aload_n 0, 1) := by decide +kernel
theorem dX7_layUsual_17 : decode cX7_layUsual 17 = .ok (.getfield 32, 3) := by decide +kernel
theorem dX7_layUsual_20 : decode cX7_layUsual 20 = .ok (.bipush 10, 2) := by decide +kernel
theorem dX7_layUsual_22 : decode cX7_layUsual 22 = .ok (.iload_n 1, 1) := by decide +kernel
theorem dX7_layUsual_23 : decode cX7_layUsual 23 = .ok (.imul, 1) := by decide +kernel
theorem dX7_layUsual_24 : decode cX7_layUsual 24 = .ok (.iload_n 2, 1) := by decide +kernel
theorem dX7_layUsual_25 : decode cX7_layUsual 25 = .ok (.iadd, 1) := by decide +kernel
theorem dX7_layUsual_26 : decode cX7_layUsual 26 = .ok (.iaload, 1) := by decide +kernel
theorem dX7_layUsual_27 : decode cX7_layUsual 27 = .ok (.iastore, 1) := by decide +kernel
theorem dX7_layUsual_28 : decode cX7_layUsual 28 = .ok (.aload_n 0, 1) := by decide +kernel
theorem dX7_layUsual_29 : decode cX7_layUsual 29 = .ok (.getfield 7, 3) := by decide +kernel
theorem dX7_layUsual_32 : decode cX7_layUsual 32 = .ok (.bipush 117, 2) := by decide +kernel
theorem dX7_layUsual_34 : decode cX7_layUsual 34 = .ok (.iload_n 2, 1) := by decide +kernel
theorem dX7_layUsual_35 : decode cX7_layUsual 35 = .ok (.iadd, 1) := by decide +kernel
theorem dX7_layUsual_36 : decode cX7_layUsual 36 = .ok (.bipush (-6), 2) := by decide +kernel
theorem dX7_layUsual_38 : decode cX7_layUsual 38 = .ok (.iastore, 1) := by decide +kernel
theorem dX7_layUsual_39 : decode cX7_layUsual 39 = .ok (.iinc 2 1, 3) := by decide +kernel
theorem dX7_layUsual_42 : decode cX7_layUsual 42 = .ok (.goto (-40), 3) := by decide +kernel
theorem dX7_layUsual_45 : decode cX7_layUsual 45 = .ok (.return_, 1) := by decide +kernel
theorem dX7_activeByHeads_0 : decode cX7_activeByHeads 0 = .ok (.aload_n 0, 1) := by decide +kernel
theorem dX7_activeByHeads_1 : decode cX7_activeByHeads 1 = .ok (.iconst 0, 1) := by decide +kernel
theorem dX7_activeByHeads_2 : decode cX7_activeByHeads 2 = .ok (.invokevirtual 129, 3) := by decide +kernel
theorem dX7_activeByHeads_5 : decode cX7_activeByHeads 5 = .ok (.ifCond .eq 49, 3) := by decide +kernel
theorem dX7_activeByHeads_8 : decode cX7_activeByHeads 8 = .ok (.aload_n 0, 1) := by decide +kernel
theorem dX7_activeByHeads_9 : decode cX7_activeByHeads 9 = .ok (.iconst 1, 1) := by decide +kernel
theorem dX7_activeByHeads_10 : decode cX7_activeByHeads 10 = .ok (.invokevirtual 129, 3) := by decide +kernel
theorem dX7_activeByHeads_13 : decode cX7_activeByHeads 13 = .ok (.ifCond .eq 41, 3) := by decide +kernel
theorem dX7_activeByHeads_16 : decode cX7_activeByHeads 16 = .ok (.aload_n 0, 1) := by decide +kernel
theorem dX7_activeByHeads_17 : decode cX7_activeByHeads 17 = .ok (.iconst 1, 1) := by decide +kernel
theorem dX7_activeByHeads_18 : decode cX7_activeByHeads 18 = .ok (.iconst 1, 1) := by decide +kernel
theorem dX7_activeByHeads_19 : decode cX7_activeByHeads 19 = .ok (.invokevirtual 114, 3) := by decide +kernel
theorem dX7_activeByHeads_22 : decode cX7_activeByHeads 22 = .ok (.aload_n 0, 1) := by decide +kernel
theorem dX7_activeByHeads_23 : decode cX7_activeByHeads 23 = .ok (.iconst 0, 1) := by decide +kernel
theorem dX7_activeByHeads_24 : decode cX7_activeByHeads 24 = .ok (.iconst 1, 1) := by decide +kernel
theorem dX7_activeByHeads_25 : decode cX7_activeByHeads 25 = .ok (.invokevirtual 114, 3) := by decide +kernel
theorem dX7_activeByHeads_28 : decode cX7_activeByHeads 28 = .ok (.isub, 1) := by decide +kernel
theorem dX7_activeByHeads_29 : decode cX7_activeByHeads 29 = .ok (.sipush 200, 3) := by decide +kernel
theorem dX7_activeByHeads_32 : decode cX7_activeByHeads 32 = .ok (.iadd, 1) := by decide +kernel
theorem dX7_activeByHeads_33 : decode cX7_activeByHeads 33 = .ok (.sipush 200, 3) := by decide +kernel
theorem dX7_activeByHeads_36 : decode cX7_activeByHeads 36 = .ok (.irem, 1) := by decide +kernel
theorem dX7_activeByHeads_37 : decode cX7_activeByHeads 37 = .ok (.istore_n 1, 1) := by decide +kernel
theorem dX7_activeByHeads_38 : decode cX7_activeByHeads 38 = .ok (.iload_n 1, 1) := by decide +kernel
theorem dX7_activeByHeads_39 : decode cX7_activeByHeads 39 = .ok (.iconst 1, 1) := by decide +kernel
theorem dX7_activeByHeads_40 : decode cX7_activeByHeads 40 = .ok (.bipush 100, 2) := by decide +kernel
theorem dX7_activeByHeads_42 : decode cX7_activeByHeads 42 = .ok (.invokestatic 63, 3) := by decide +kernel
theorem dX7_activeByHeads_45 : decode cX7_activeByHeads 45 = .ok (.ifCond .eq 7, 3) := by decide +kernel
theorem dX7_activeByHeads_48 : decode cX7_activeByHeads 48 = .ok (.iconst 1, 1) := by decide +kernel
theorem dX7_activeByHeads_49 : decode cX7_activeByHeads 49 = .ok (.goto 4, 3) := by decide +kernel
theorem dX7_activeByHeads_52 : decode cX7_activeByHeads 52 = .ok (.iconst 0, 1) := by decide +kernel
theorem dX7_activeByHeads_53 : decode cX7_activeByHeads 53 = .ok (.ireturn, 1) := by decide +kernel
theorem dX7_activeByHeads_54 : decode cX7_activeByHeads 54 = .ok (.aload_n 0, 1) := by decide +kernel
theorem dX7_activeByHeads_55 : decode cX7_activeByHeads 55 = .ok (.iconst 0, 1) := by decide +kernel
theorem dX7_activeByHeads_56 : decode cX7_activeByHeads 56 = .ok (.invokevirtual 129, 3) := by decide +kernel
theorem dX7_activeByHeads_59 : decode cX7_activeByHeads 59 = .ok (.ifCond .eq 7, 3) := by decide +kernel
theorem dX7_activeByHeads_62 : decode cX7_activeByHeads 62 = .ok (.iconst 0, 1) := by decide +kernel
theorem dX7_activeByHeads_63 : decode cX7_activeByHeads 63 = .ok (.goto 17, 3) := by decide +kernel
theorem dX7_activeByHeads_66 : decode cX7_activeByHeads 66 = .ok (.aload_n 0, 1) := by decide +kernel
theorem dX7_activeByHeads_67 : decode cX7_activeByHeads 67 = .ok (.iconst 1, 1) := by decide +kernel
theorem dX7_activeByHeads_68 : decode cX7_activeByHeads 68 = .ok (.invokevirtual 129, 3) := by decide +kernel
theorem dX7_activeByHeads_71 : decode cX7_activeByHeads 71 = .ok (.ifCond .eq 7, 3) := by decide +kernel
theorem dX7_activeByHeads_74 : decode cX7_activeByHeads 74 = .ok (.iconst 1, 1) := by decide +kernel
theorem dX7_activeByHeads_75 : decode cX7_activeByHeads 75 = .ok (.goto 5, 3) := by decide +kernel
theorem dX7_activeByHeads_78 : decode cX7_activeByHeads 78 = .ok (.bipush (-6), 2) := by decide +kernel
theorem dX7_activeByHeads_80 : decode cX7_activeByHeads 80 = .ok (.ireturn, 1) := by decide +kernel
theorem dX7_start_0 : decode cX7_start 0 = .ok (.aload_n 0, 1) := by decide +kernel
theorem dX7_start_1 : decode cX7_start 1 = .ok (.getfield 7, 3) := by decide +kernel
theorem dX7_start_4 : decode cX7_start 4 = .ok (.iconst 0, 1) := by decide +kernel
theorem dX7_start_5 : decode cX7_start 5 = .ok (.iconst 1, 1) := by decide +kernel
theorem dX7_start_6 : decode cX7_start 6 = .ok (.iastore, 1) := by decide +kernel
theorem dX7_start_7 : decode cX7_start 7 = .ok (.aload_n 0, 1) := by decide +kernel
theorem dX7_start_8 : decode cX7_start 8 = .ok (.getfield 7, 3) := by decide +kernel
theorem dX7_start_11 : decode cX7_start 11 = .ok (.iconst 1, 1) := by decide +kernel
theorem dX7_start_12 : decode cX7_start 12 = .ok (.bipush (-6), 2) := by decide +kernel
theorem dX7_start_14 : decode cX7_start 14 = .ok (.iastore, 1) := by decide +kernel
theorem dX7_start_15 : decode cX7_start 15 = .ok (.aload_n 0, 1) := by decide +kernel
theorem dX7_start_16 : decode cX7_start 16 = .ok (.getfield 7, 3) := by decide +kernel
theorem dX7_start_19 : decode cX7_start 19 = .ok (.bipush 6, 2) := by decide +kernel
theorem dX7_start_21 : decode cX7_start 21 = .ok (.iconst 0, 1) := by decide +kernel
theorem dX7_start_22 : decode cX7_start 22 = .ok (.iastore, 1) := by decide +kernel
theorem dX7_start_23 : decode cX7_start 23 = .ok (.aload_n 0, 1) := by decide +kernel
theorem dX7_start_24 : decode cX7_start 24 = .ok (.getfield 7, 3) := by decide +kernel
theorem dX7_start_27 : decode cX7_start 27 = .ok (.iconst 2, 1) := by decide +kernel
theorem dX7_start_28 : decode cX7_start 28 = .ok (.aload_n 0, 1) := by decide +kernel
theorem dX7_start_29 : decode cX7_start 29 = .ok (.invokevirtual 132, 3) := by decide +kernel
theorem dX7_start_32 : decode cX7_start 32 = .ok (.iastore, 1) := by decide +kernel
theorem dX7_start_33 : decode cX7_start 33 = .ok (.aload_n 0, 1) := by decide +kernel
theorem dX7_start_34 : decode cX7_start 34 = .ok (.getfield 7, 3) := by decide +kernel
theorem dX7_start_37 : decode cX7_start 37 = .ok (.iconst 3, 1) := by decide +kernel
theorem dX7_start_38 : decode cX7_start 38 = .ok (.bipush (-6), 2) := by decide +kernel
theorem dX7_start_40 : decode cX7_start 40 = .ok (.iastore, 1) := by decide +kernel
theorem dX7_start_41 : decode cX7_start 41 = .ok (.aload_n 0, 1) := by decide +kernel
theorem dX7_start_42 : decode cX7_start 42 = .ok (.getfield 7, 3) := by decide +kernel
theorem dX7_start_45 : decode cX7_start 45 = .ok (.iconst 4, 1) := by decide +kernel
theorem dX7_start_46 : decode cX7_start 46 = .ok (.bipush (-6), 2) := by decide +kernel
theorem dX7_start_48 : decode cX7_start 48 = .ok (.iastore, 1) := by decide +kernel
theorem dX7_start_49 : decode cX7_start 49 = .ok (.aload_n 0, 1) := by decide +kernel
theorem dX7_start_50 : decode cX7_start 50 = .ok (.getfield 7, 3) := by decide +kernel
theorem dX7_start_53 : decode cX7_start 53 = .ok (.iconst 2, 1) := by decide +kernel
theorem dX7_start_54 : decode cX7_start 54 = .ok (.iaload, 1) := by decide +kernel
theorem dX7_start_55 : decode cX7_start 55 = .ok (.ifCond .lt 89, 3) := by decide +kernel
theorem dX7_start_58 : decode cX7_start 58 = .ok (.aload_n 0, 1) := by decide +kernel
theorem dX7_start_59 : decode cX7_start 59 = .ok (.getfield 7, 3) := by decide +kernel
theorem dX7_start_62 : decode cX7_start 62 = .ok (.iconst 3, 1) := by decide +kernel
theorem dX7_start_63 : decode cX7_start 63 = .ok (.aload_n 0, 1) := by decide +kernel
theorem dX7_start_64 : decode cX7_start 64 = .ok (.aload_n 0, 1) := by decide +kernel
theorem dX7_start_65 : decode cX7_start 65 = .ok (.getfield 7, 3) := by decide +kernel
theorem dX7_start_68 : decode cX7_start 68 = .ok (.iconst 2, 1) := by decide +kernel
theorem dX7_start_69 : decode cX7_start 69 = .ok (.iaload, 1) := by decide +kernel
theorem dX7_start_70 : decode cX7_start 70 = .ok (.iconst 0, 1) := by decide +kernel
theorem dX7_start_71 : decode cX7_start 71 = .ok (.invokevirtual 114, 3) := by decide +kernel
theorem dX7_start_74 : decode cX7_start 74 = .ok (.sipush 200, 3) := by decide +kernel
theorem dX7_start_77 : decode cX7_start 77 = .ok (.isub, 1) := by decide +kernel
theorem dX7_start_78 : decode cX7_start 78 = .ok (.iastore, 1) := by decide +kernel
theorem dX7_start_79 : decode cX7_start 79 = .ok (.aload_n 0, 1) := by decide +kernel
theorem dX7_start_80 : decode cX7_start 80 = .ok (.getfield 7, 3) := by decide +kernel
theorem dX7_start_83 : decode cX7_start 83 = .ok (.iconst 4, 1) := by decide +kernel
theorem dX7_start_84 : decode cX7_start 84 = .ok (.aload_n 0, 1) := by decide +kernel
theorem dX7_start_85 : decode cX7_start 85 = .ok (.aload_n 0, 1) := by decide +kernel
theorem dX7_start_86 : decode cX7_start 86 = .ok (.getfield 7, 3) := by decide +kernel
theorem dX7_start_89 : decode cX7_start 89 = .ok (.iconst 2, 1) := by decide +kernel
theorem dX7_start_90 : decode cX7_start 90 = .ok (.iaload, 1) := by decide +kernel
theorem dX7_start_91 : decode cX7_start 91 = .ok (.iconst 1, 1) := by decide +kernel
theorem dX7_start_92 : decode cX7_start 92 = .ok (.invokevirtual 114, 3) := by decide +kernel
theorem dX7_start_95 : decode cX7_start 95 = .ok (.iastore, 1) := by decide +kernel
theorem dX7_start_96 : decode cX7_start 96 = .ok (.aload_n 0, 1) := by decide +kernel
theorem dX7_start_97 : decode cX7_start 97 = .ok (.aload_n 0, 1) := by decide +kernel
theorem dX7_start_98 : decode cX7_start 98 = .ok (.getfield 7, 3) := by decide +kernel
theorem dX7_start_101 : decode cX7_start 101 = .ok (.iconst 3, 1) := by decide +kernel
theorem dX7_start_102 : decode cX7_start 102 = .ok (.iaload, 1) := by decide +kernel
theorem dX7_start_103 : decode cX7_start 103 = .ok (.invokevirtual 136, 3) := by decide +kernel
theorem dX7_start_106 : decode cX7_start 106 = .ok (.aload_n 0, 1) := by decide +kernel
theorem dX7_start_107 : decode cX7_start 107 = .ok (.aload_n 0, 1) := by decide +kernel
theorem dX7_start_108 : decode cX7_start 108 = .ok (.getfield 7, 3) := by decide +kernel
theorem dX7_start_111 : decode cX7_start 111 = .ok (.iconst 2, 1) := by decide +kernel
theorem dX7_start_112 : decode cX7_start 112 = .ok (.iaload, 1) := by decide +kernel
theorem dX7_start_113 : decode cX7_start 113 = .ok (.aload_n 0, 1) := by decide +kernel
theorem dX7_start_114 : decode cX7_start 114 = .ok (.getfield 7, 3) := by decide +kernel
theorem dX7_start_117 : decode cX7_start 117 = .ok (.iconst 3, 1) := by decide +kernel
theorem dX7_start_118 : decode cX7_start 118 = .ok (.iaload, 1) := by decide +kernel
theorem dX7_start_119 : decode cX7_start 119 = .ok (.iconst 1, 1) := by decide +kernel
theorem dX7_start_120 : decode cX7_start 120 = .ok (.invokevirtual 139, 3) := by decide +kernel
theorem dX7_start_123 : decode cX7_start 123 = .ok (.aload_n 0, 1) := by decide +kernel
theorem dX7_start_124 : decode cX7_start 124 = .ok (.getfield 7, 3) := by decide +kernel
theorem dX7_start_127 : decode cX7_start 127 = .ok (.bipush 6, 2) := by decide +kernel
theorem dX7_start_129 : decode cX7_start 129 = .ok (.aload_n 0, 1) := by decide +kernel
theorem dX7_start_130 : decode cX7_start 130 = .ok (.getfield 120, 3) := by decide +kernel
theorem dX7_start_133 : decode cX7_start 133 = .ok (.iastore, 1) := by decide +kernel
theorem dX7_start_134 : decode cX7_start 134 = .ok (.aload_n 0, 1) := by decide +kernel
theorem dX7_start_135 : decode cX7_start 135 = .ok (.getfield 7, 3) := by decide +kernel
theorem dX7_start_138 : decode cX7_start 138 = .ok (.iconst 5, 1) := by decide +kernel
theorem dX7_start_139 : decode cX7_start 139 = .ok (.aload_n 0, 1) := by decide +kernel
theorem dX7_start_140 : decode cX7_start 140 = .ok (.getfield 123, 3) := by decide +kernel
theorem dX7_start_143 : decode cX7_start 143 = .ok (.iastore, 1) := by decide +kernel
theorem dX7_start_144 : decode cX7_start 144 = .ok (.aload_n 0, 1) := by decide +kernel
theorem dX7_start_145 : decode cX7_start 145 = .ok (.getfield 7, 3) := by decide +kernel
theorem dX7_start_148 : decode cX7_start 148 = .ok (.iconst 2, 1) := by decide +kernel
theorem dX7_start_149 : decode cX7_start 149 = .ok (.iaload, 1) := by decide +kernel
theorem dX7_start_150 : decode cX7_start 150 = .ok (.ireturn, 1) := by decide +kernel
theorem dX7_isSetting_0 : decode cX7_isSetting 0 = .ok (.aload_n 0, 1) := by decide +kernel
theorem dX7_isSetting_1 : decode cX7_isSetting 1 = .ok (.getfield 7, 3) := by decide +kernel
theorem dX7_isSetting_4 : decode cX7_isSetting 4 = .ok (.iconst 2, 1) := by decide +kernel
theorem dX7_isSetting_5 : decode cX7_isSetting 5 = .ok (.iaload, 1) := by decide +kernel
theorem dX7_isSetting_6 : decode cX7_isSetting 6 = .ok (.ifCond .lt 21, 3) := by decide +kernel
theorem dX7_isSetting_9 : decode cX7_isSetting 9 = .ok (.aload_n 0, 1) := by decide +kernel
theorem dX7_isSetting_10 : decode cX7_isSetting 10 = .ok (.aload_n 0, 1) := by decide +kernel
theorem dX7_isSetting_11 : decode cX7_isSetting 11 = .ok (.getfield 7, 3) := by decide +kernel
theorem dX7_isSetting_14 : decode cX7_isSetting 14 = .ok (.iconst 3, 1) := by decide +kernel
theorem dX7_isSetting_15 : decode cX7_isSetting 15 = .ok (.iaload, 1) := by decide +kernel
theorem dX7_isSetting_16 : decode cX7_isSetting 16 = .ok (.iload_n 1, 1) := by decide +kernel
theorem dX7_isSetting_17 : decode cX7_isSetting 17 = .ok (.invokevirtual 71, 3) := by decide +kernel
theorem dX7_isSetting_20 : decode cX7_isSetting 20 = .ok (.ifCond .eq 7, 3) := by decide +kernel
theorem dX7_isSetting_23 : decode cX7_isSetting 23 = .ok (.iconst 1, 1) := by decide +kernel
theorem dX7_isSetting_24 : decode cX7_isSetting 24 = .ok (.goto 4, 3) := by decide +kernel
theorem dX7_isSetting_27 : decode cX7_isSetting 27 = .ok (.iconst 0, 1) := by decide +kernel
theorem dX7_isSetting_28 : decode cX7_isSetting 28 = .ok (.ireturn, 1) := by decide +kernel
theorem dX7_get_0 : decode cX7_get 0 = .ok (.aload_n 0, 1) := by decide +kernel
theorem dX7_get_1 : decode cX7_get 1 = .ok (.getfield 7, 3) := by decide +kernel
theorem dX7_get_4 : decode cX7_get 4 = .ok (.iconst 0, 1) := by decide +kernel
theorem dX7_get_5 : decode cX7_get 5 = .ok (.iaload, 1) := by decide +kernel
theorem dX7_get_6 : decode cX7_get 6 = .ok (.ifCond .ne 6, 3) := by decide +kernel
theorem dX7_get_9 : decode cX7_get 9 = .ok (.bipush (-5), 2) := by decide +kernel
theorem dX7_get_11 : decode cX7_get 11 = .ok (.ireturn, 1) := by decide +kernel
theorem dX7_get_12 : decode cX7_get 12 = .ok (.aload_n 0, 1) := by decide +kernel
theorem dX7_get_13 : decode cX7_get 13 = .ok (.iload_n 1, 1) := by decide +kernel
theorem dX7_get_14 : decode cX7_get 14 = .ok (.invokevirtual 143, 3) := by decide +kernel
theorem dX7_get_17 : decode cX7_get 17 = .ok (.ifCond .eq 15, 3) := by decide +kernel
theorem dX7_get_20 : decode cX7_get 20 = .ok (.aload_n 0, 1) := by decide +kernel
theorem dX7_get_21 : decode cX7_get 21 = .ok (.getfield 7, 3) := by decide +kernel
theorem dX7_get_24 : decode cX7_get 24 = .ok (.bipush 11, 2) := by decide +kernel
theorem dX7_get_26 : decode cX7_get 26 = .ok (.iload_n 1, 1) := by decide +kernel
theorem dX7_get_27 : decode cX7_get 27 = .ok (.iadd, 1) := by decide +kernel
theorem dX7_get_28 : decode cX7_get 28 = .ok (.iaload, 1) := by decide +kernel
theorem dX7_get_29 : decode cX7_get 29 = .ok (.goto 4, 3) := by decide +kernel
theorem dX7_get_32 : decode cX7_get 32 = .ok (.iconst (-1), 1) := by decide +kernel
theorem dX7_get_33 : decode cX7_get 33 = .ok (.ireturn, 1) := by decide +kernel
theorem dX7_layThen_0 : decode cX7_layThen 0 = .ok (.iconst 0, 1) := by decide +kernel
theorem dX7_layThen_1 : decode cX7_layThen 1 = .ok (.istore_n 1, 1) := by decide +kernel
theorem dX7_layThen_2 : decode cX7_layThen 2 = .ok (.iload_n 1, 1) := by decide +kernel
theorem dX7_layThen_3 : decode cX7_layThen 3 = .ok (.bipush 10, 2) := by decide +kernel
theorem dX7_layThen_5 : decode cX7_layThen 5 = .ok (.if_icmp .ge 24, 3) := by decide +kernel
theorem dX7_layThen_8 : decode cX7_layThen 8 = .ok (.aload_n 0, 1) := by decide +kernel
theorem dX7_layThen_9 : decode cX7_layThen 9 = .ok (.getfield 53, 3) := by decide +kernel
theorem dX7_layThen_12 : decode cX7_layThen 12 = .ok (.iload_n 1, 1) := by decide +kernel
theorem dX7_layThen_13 : decode cX7_layThen 13 = .ok (.aload_n 0, 1) := by decide +kernel
theorem dX7_layThen_14 : decode cX7_layThen 14 = .ok (.getfield 7, 3) := by decide +kernel
theorem dX7_layThen_17 : decode cX7_layThen 17 = .ok (.bipush 11, 2) := by decide +kernel
theorem dX7_layThen_19 : decode cX7_layThen 19 = .ok (.iload_n 1, 1) := by decide +kernel
theorem dX7_layThen_20 : decode cX7_layThen 20 = .ok (.iadd, 1) := by decide +kernel
theorem dX7_layThen_21 : decode cX7_layThen 21 = .ok (.iaload, 1) := by decide +kernel
theorem dX7_layThen_22 : decode cX7_layThen 22 = .ok (.iastore, 1) := by decide +kernel
theorem dX7_layThen_23 : decode cX7_layThen 23 = .ok (.iinc 1 1, 3) := by decide +kernel
theorem dX7_layThen_26 : decode cX7_layThen 26 = .ok (.goto (-24), 3) := by decide +kernel
theorem dX7_layThen_29 : decode cX7_layThen 29 = .ok (.return_, 1) := by decide +kernel
theorem dX7_fill_0 : decode cX7_fill 0 = .ok (.iconst 1, 1) := by decide +kernel
theorem dX7_fill_1 : decode cX7_fill 1 = .ok (.aload_n 0, 1) := by decide +kernel
theorem dX7_fill_2 : decode cX7_fill 2 = .ok (.getfield 7, 3) := by decide +kernel
theorem dX7_fill_5 : decode cX7_fill 5 = .ok (.iconst 2, 1) := by decide +kernel
theorem dX7_fill_6 : decode cX7_fill 6 = .ok (.iaload, 1) := by decide +kernel
theorem dX7_fill_7 : decode cX7_fill 7 = .ok (.isub, 1) := by decide +kernel
theorem dX7_fill_8 : decode cX7_fill 8 = .ok (.istore_n 2, 1) := by decide +kernel
theorem dX7_fill_9 : decode cX7_fill 9 = .ok (.aload_n 0, 1) := by decide +kernel
theorem dX7_fill_10 : decode cX7_fill 10 = .ok (.getfield 7, 3) := by decide +kernel
theorem dX7_fill_13 : decode cX7_fill 13 = .ok (.iconst 4, 1) := by decide +kernel
theorem dX7_fill_14 : decode cX7_fill 14 = .ok (.iaload, 1) := by decide +kernel
theorem dX7_fill_15 : decode cX7_fill 15 = .ok (.iconst 1, 1) := by decide +kernel
theorem dX7_fill_16 : decode cX7_fill 16 = .ok (.iadd, 1) := by decide +kernel
theorem dX7_fill_17 : decode cX7_fill 17 = .ok (.sipush 200, 3) := by decide +kernel
theorem dX7_fill_20 : decode cX7_fill 20 = .ok (.irem, 1) := by decide +kernel
theorem dX7_fill_21 : decode cX7_fill 21 = .ok (.istore_n 3, 1) := by decide +kernel
theorem dX7_fill_22 : decode cX7_fill 22 = .ok (.iconst 3, 1) := by decide +kernel
theorem dX7_fill_23 : decode cX7_fill 23 = .ok (.istore 4, 2) := by decide +kernel
theorem dX7_fill_25 : decode cX7_fill 25 = .ok (.aload_n 0, 1) := by decide +kernel
theorem dX7_fill_26 : decode cX7_fill 26 = .ok (.iload_n 2, 1) := by decide +kernel
theorem dX7_fill_27 : decode cX7_fill 27 = .ok (.invokevirtual 146, 3) := by decide +kernel
theorem dX7_fill_30 : decode cX7_fill 30 = .ok (.iconst 0, 1) := by decide +kernel
theorem dX7_fill_31 : decode cX7_fill 31 = .ok (.istore 5, 2) := by decide +kernel
theorem dX7_fill_33 : decode cX7_fill 33 = .ok (.iload 5, 2) := by decide +kernel
theorem dX7_fill_35 : decode cX7_fill 35 = .ok (.bipush 10, 2) := by decide +kernel
theorem dX7_fill_37 : decode cX7_fill 37 = .ok (.if_icmp .ge 79, 3) := by decide +kernel
theorem dX7_fill_40 : decode cX7_fill 40 = .ok (.aload_n 0, 1) := by decide +kernel
theorem dX7_fill_41 : decode cX7_fill 41 = .ok (.getfield 56, 3) := by decide +kernel
theorem dX7_fill_44 : decode cX7_fill 44 = .ok (.iload 5, 2) := by decide +kernel
theorem dX7_fill_46 : decode cX7_fill 46 = .ok (.bipush (-6), 2) := by decide +kernel
theorem dX7_fill_48 : decode cX7_fill 48 = .ok (.iastore, 1) := by decide +kernel
theorem dX7_fill_49 : decode cX7_fill 49 = .ok (.aload_n 0, 1) := by decide +kernel
theorem dX7_fill_50 : decode cX7_fill 50 = .ok (.iload_n 1, 1) := by decide +kernel
theorem dX7_fill_51 : decode cX7_fill 51 = .ok (.iload 5, 2) := by decide +kernel
theorem dX7_fill_53 : decode cX7_fill 53 = .ok (.invokevirtual 71, 3) := by decide +kernel
theorem dX7_fill_56 : decode cX7_fill 56 = .ok (.ifCond .eq 54, 3) := by decide +kernel
theorem dX7_fill_59 : decode cX7_fill 59 = .ok (.aload_n 0, 1) := by decide +kernel
theorem dX7_fill_60 : decode cX7_fill 60 = .ok (.getfield 53, 3) := by decide +kernel
theorem dX7_fill_63 : decode cX7_fill 63 = .ok (.iload 5, 2) := by decide +kernel
theorem dX7_fill_65 : decode cX7_fill 65 = .ok (.iaload, 1) := by decide +kernel
theorem dX7_fill_66 : decode cX7_fill 66 = .ok (.aload_n 0, 1) := by decide +kernel
theorem dX7_fill_67 : decode cX7_fill 67 = .ok (.getfield 32, 3) := by decide +kernel
theorem dX7_fill_70 : decode cX7_fill 70 = .ok (.bipush 10, 2) := by decide +kernel
theorem dX7_fill_72 : decode cX7_fill 72 = .ok (.iload_n 1, 1) := by decide +kernel
theorem dX7_fill_73 : decode cX7_fill 73 = .ok (.imul, 1) := by decide +kernel
theorem dX7_fill_74 : decode cX7_fill 74 = .ok (.iload 5, 2) := by decide +kernel
theorem dX7_fill_76 : decode cX7_fill 76 = .ok (.iadd, 1) := by decide +kernel
theorem dX7_fill_77 : decode cX7_fill 77 = .ok (.iaload, 1) := by decide +kernel
theorem dX7_fill_78 : decode cX7_fill 78 = .ok (.if_icmp .eq 32, 3) := by decide +kernel
theorem dX7_fill_81 : decode cX7_fill 81 = .ok (.aload_n 0, 1) := by decide +kernel
theorem dX7_fill_82 : decode cX7_fill 82 = .ok (.iload_n 2, 1) := by decide +kernel
theorem dX7_fill_83 : decode cX7_fill 83 = .ok (.iload 4, 2) := by decide +kernel
theorem dX7_fill_85 : decode cX7_fill 85 = .ok (.iload 5, 2) := by decide +kernel
theorem dX7_fill_87 : decode cX7_fill 87 = .ok (.aload_n 0, 1) := by decide +kernel
theorem dX7_fill_88 : decode cX7_fill 88 = .ok (.getfield 53, 3) := by decide +kernel
theorem dX7_fill_91 : decode cX7_fill 91 = .ok (.iload 5, 2) := by decide +kernel
theorem dX7_fill_93 : decode cX7_fill 93 = .ok (.iaload, 1) := by decide +kernel
theorem dX7_fill_94 : decode cX7_fill 94 = .ok (.iload_n 1, 1) := by decide +kernel
theorem dX7_fill_95 : decode cX7_fill 95 = .ok (.invokevirtual 149, 3) := by decide +kernel
theorem dX7_fill_98 : decode cX7_fill 98 = .ok (.aload_n 0, 1) := by decide +kernel
theorem dX7_fill_99 : decode cX7_fill 99 = .ok (.getfield 56, 3) := by decide +kernel
theorem dX7_fill_102 : decode cX7_fill 102 = .ok (.iload 5, 2) := by decide +kernel
theorem dX7_fill_104 : decode cX7_fill 104 = .ok (.iload 4, 2) := by decide +kernel
theorem dX7_fill_106 : decode cX7_fill 106 = .ok (.iastore, 1) := by decide +kernel
theorem dX7_fill_107 : decode cX7_fill 107 = .ok (.iinc 4 3, 3) := by decide +kernel
theorem dX7_fill_110 : decode cX7_fill 110 = .ok (.iinc 5 1, 3) := by decide +kernel
theorem dX7_fill_113 : decode cX7_fill 113 = .ok (.goto (-80), 3) := by decide +kernel
theorem dX7_fill_116 : decode cX7_fill 116 = .ok (.aload_n 0, 1) := by decide +kernel
theorem dX7_fill_117 : decode cX7_fill 117 = .ok (.iload_n 2, 1) := by decide +kernel
theorem dX7_fill_118 : decode cX7_fill 118 = .ok (.iload_n 1, 1) := by decide +kernel
theorem dX7_fill_119 : decode cX7_fill 119 = .ok (.iload_n 3, 1) := by decide +kernel
theorem dX7_fill_120 : decode cX7_fill 120 = .ok (.invokevirtual 153, 3) := by decide +kernel
theorem dX7_fill_123 : decode cX7_fill 123 = .ok (.aload_n 0, 1) := by decide +kernel
theorem dX7_fill_124 : decode cX7_fill 124 = .ok (.getfield 7, 3) := by decide +kernel
theorem dX7_fill_127 : decode cX7_fill 127 = .ok (.iconst 0, 1) := by decide +kernel
theorem dX7_fill_128 : decode cX7_fill 128 = .ok (.iaload, 1) := by decide +kernel
theorem dX7_fill_129 : decode cX7_fill 129 = .ok (.iconst 1, 1) := by decide +kernel
theorem dX7_fill_130 : decode cX7_fill 130 = .ok (.if_icmp .ne 82, 3) := by decide +kernel
theorem dX7_fill_133 : decode cX7_fill 133 = .ok (.aload_n 0, 1) := by decide +kernel
theorem dX7_fill_134 : decode cX7_fill 134 = .ok (.getfield 7, 3) := by decide +kernel
theorem dX7_fill_137 : decode cX7_fill 137 = .ok (.iconst 2, 1) := by decide +kernel
theorem dX7_fill_138 : decode cX7_fill 138 = .ok (.iload_n 2, 1) := by decide +kernel
theorem dX7_fill_139 : decode cX7_fill 139 = .ok (.iastore, 1) := by decide +kernel
theorem dX7_fill_140 : decode cX7_fill 140 = .ok (.aload_n 0, 1) := by decide +kernel
theorem dX7_fill_141 : decode cX7_fill 141 = .ok (.getfield 7, 3) := by decide +kernel
theorem dX7_fill_144 : decode cX7_fill 144 = .ok (.iconst 3, 1) := by decide +kernel
theorem dX7_fill_145 : decode cX7_fill 145 = .ok (.iload_n 1, 1) := by decide +kernel
theorem dX7_fill_146 : decode cX7_fill 146 = .ok (.iastore, 1) := by decide +kernel
theorem dX7_fill_147 : decode cX7_fill 147 = .ok (.aload_n 0, 1) := by decide +kernel
theorem dX7_fill_148 : decode cX7_fill 148 = .ok (.getfield 7, 3) := by decide +kernel
theorem dX7_fill_151 : decode cX7_fill 151 = .ok (.iconst 4, 1) := by decide +kernel
theorem dX7_fill_152 : decode cX7_fill 152 = .ok (.iload_n 3, 1) := by decide +kernel
theorem dX7_fill_153 : decode cX7_fill 153 = .ok (.iastore, 1) := by decide +kernel
theorem dX7_fill_154 : decode cX7_fill 154 = .ok (.aload_n 0, 1) := by decide +kernel
theorem dX7_fill_155 : decode cX7_fill 155 = .ok (.getfield 7, 3) := by decide +kernel
theorem dX7_fill_158 : decode cX7_fill 158 = .ok (.iconst 5, 1) := by decide +kernel
theorem dX7_fill_159 : decode cX7_fill 159 = .ok (.iload 4, 2) := by decide +kernel
theorem dX7_fill_161 : decode cX7_fill 161 = .ok (.iastore, 1) := by decide +kernel
theorem dX7_fill_162 : decode cX7_fill 162 = .ok (.iconst 0, 1) := by decide +kernel
theorem dX7_fill_163 : decode cX7_fill 163 = .ok (.istore 5, 2) := by decide +kernel
theorem dX7_fill_165 : decode cX7_fill 165 = .ok (.iload 5, 2) := by decide +kernel
theorem dX7_fill_167 : decode cX7_fill 167 = .ok (.bipush 10, 2) := by decide +kernel
theorem dX7_fill_169 : decode cX7_fill 169 = .ok (.if_icmp .ge 43, 3) := by decide +kernel
theorem dX7_fill_172 : decode cX7_fill 172 = .ok (.aload_n 0, 1) := by decide +kernel
theorem dX7_fill_173 : decode cX7_fill 173 = .ok (.getfield 7, 3) := by decide +kernel
theorem dX7_fill_176 : decode cX7_fill 176 = .ok (.bipush 11, 2) := by decide +kernel
theorem dX7_fill_178 : decode cX7_fill 178 = .ok (.iload 5, 2) := by decide +kernel
theorem dX7_fill_180 : decode cX7_fill 180 = .ok (.iadd, 1) := by decide +kernel
theorem dX7_fill_181 : decode cX7_fill 181 = .ok (.aload_n 0, 1) := by decide +kernel
theorem dX7_fill_182 : decode cX7_fill 182 = .ok (.getfield 53, 3) := by decide +kernel
theorem dX7_fill_185 : decode cX7_fill 185 = .ok (.iload 5, 2) := by decide +kernel
theorem dX7_fill_187 : decode cX7_fill 187 = .ok (.iaload, 1) := by decide +kernel
theorem dX7_fill_188 : decode cX7_fill 188 = .ok (.iastore, 1) := by decide +kernel
theorem dX7_fill_189 : decode cX7_fill 189 = .ok (.aload_n 0, 1) := by decide +kernel
theorem dX7_fill_190 : decode cX7_fill 190 = .ok (.getfield 7, 3) := by decide +kernel
theorem dX7_fill_193 : decode cX7_fill 193 = .ok (.bipush 117, 2) := by decide +kernel
theorem dX7_fill_195 : decode cX7_fill 195 = .ok (.iload 5, 2) := by decide +kernel
theorem dX7_fill_197 : decode cX7_fill 197 = .ok (.iadd, 1) := by decide +kernel
theorem dX7_fill_198 : decode cX7_fill 198 = .ok (.aload_n 0, 1) := by decide +kernel
theorem dX7_fill_199 : decode cX7_fill 199 = .ok (.getfield 56, 3) := by decide +kernel
theorem dX7_fill_202 : decode cX7_fill 202 = .ok (.iload 5, 2) := by decide +kernel
theorem dX7_fill_204 : decode cX7_fill 204 = .ok (.iaload, 1) := by decide +kernel
theorem dX7_fill_205 : decode cX7_fill 205 = .ok (.iastore, 1) := by decide +kernel
theorem dX7_fill_206 : decode cX7_fill 206 = .ok (.iinc 5 1, 3) := by decide +kernel
theorem dX7_fill_209 : decode cX7_fill 209 = .ok (.goto (-44), 3) := by decide +kernel
theorem dX7_fill_212 : decode cX7_fill 212 = .ok (.return_, 1) := by decide +kernel
theorem dX7_makeSet_0 : decode cX7_makeSet 0 = .ok (.aload_n 0, 1) := by decide +kernel
theorem dX7_makeSet_1 : decode cX7_makeSet 1 = .ok (.iconst 0, 1) := by decide +kernel
theorem dX7_makeSet_2 : decode cX7_makeSet 2 = .ok (.putfield 101, 3) := by decide +kernel
theorem dX7_makeSet_5 : decode cX7_makeSet 5 = .ok (.aload_n 0, 1) := by decide +kernel
theorem dX7_makeSet_6 : decode cX7_makeSet 6 = .ok (.getfield 7, 3) := by decide +kernel
theorem dX7_makeSet_9 : decode cX7_makeSet 9 = .ok (.bipush 11, 2) := by decide +kernel
theorem dX7_makeSet_11 : decode cX7_makeSet 11 = .ok (.iload_n 1, 1) := by decide +kernel
theorem dX7_makeSet_12 : decode cX7_makeSet 12 = .ok (.iadd, 1) := by decide +kernel
theorem dX7_makeSet_13 : decode cX7_makeSet 13 = .ok (.iaload, 1) := by decide +kernel
theorem dX7_makeSet_14 : decode cX7_makeSet 14 = .ok (.iload_n 2, 1) := by decide +kernel
theorem dX7_makeSet_15 : decode cX7_makeSet 15 = .ok (.if_icmp .ne 4, 3) := by decide +kernel
theorem dX7_makeSet_18 : decode cX7_makeSet 18 = .ok (.return_, 1) := by decide +kernel
theorem dX7_makeSet_19 : decode cX7_makeSet 19 = .ok (.aload_n 0, 1) := by decide +kernel
theorem dX7_makeSet_20 : decode cX7_makeSet 20 = .ok (.getfield 7, 3) := by decide +kernel
theorem dX7_makeSet_23 : decode cX7_makeSet 23 = .ok (.iconst 5, 1) := by decide +kernel
theorem dX7_makeSet_24 : decode cX7_makeSet 24 = .ok (.iaload, 1) := by decide +kernel
theorem dX7_makeSet_25 : decode cX7_makeSet 25 = .ok (.iconst 3, 1) := by decide +kernel
theorem dX7_makeSet_26 : decode cX7_makeSet 26 = .ok (.iadd, 1) := by decide +kernel
theorem dX7_makeSet_27 : decode cX7_makeSet 27 = .ok (.bipush 48, 2) := by decide +kernel
theorem dX7_makeSet_29 : decode cX7_makeSet 29 = .ok (.if_icmp .le 25, 3) := by decide +kernel
theorem dX7_makeSet_32 : decode cX7_makeSet 32 = .ok (.aload_n 0, 1) := by decide +kernel
theorem dX7_makeSet_33 : decode cX7_makeSet 33 = .ok (.invokevirtual 156, 3) := by decide +kernel
theorem dX7_makeSet_36 : decode cX7_makeSet 36 = .ok (.aload_n 0, 1) := by decide +kernel
theorem dX7_makeSet_37 : decode cX7_makeSet 37 = .ok (.getfield 53, 3) := by decide +kernel
theorem dX7_makeSet_40 : decode cX7_makeSet 40 = .ok (.iload_n 1, 1) := by decide +kernel
theorem dX7_makeSet_41 : decode cX7_makeSet 41 = .ok (.iload_n 2, 1) := by decide +kernel
theorem dX7_makeSet_42 : decode cX7_makeSet 42 = .ok (.iastore, 1) := by decide +kernel
theorem dX7_makeSet_43 : decode cX7_makeSet 43 = .ok (.aload_n 0, 1) := by decide +kernel
theorem dX7_makeSet_44 : decode cX7_makeSet 44 = .ok (.aload_n 0, 1) := by decide +kernel
theorem dX7_makeSet_45 : decode cX7_makeSet 45 = .ok (.getfield 7, 3) := by decide +kernel
theorem dX7_makeSet_48 : decode cX7_makeSet 48 = .ok (.iconst 3, 1) := by decide +kernel
theorem dX7_makeSet_49 : decode cX7_makeSet 49 = .ok (.iaload, 1) := by decide +kernel
theorem dX7_makeSet_50 : decode cX7_makeSet 50 = .ok (.invokevirtual 159, 3) := by decide +kernel
theorem dX7_makeSet_53 : decode cX7_makeSet 53 = .ok (.return_, 1) := by decide +kernel
theorem dX7_makeSet_54 : decode cX7_makeSet 54 = .ok (.aload_n 0, 1) := by decide +kernel
theorem dX7_makeSet_55 : decode cX7_makeSet 55 = .ok (.aload_n 0, 1) := by decide +kernel
theorem dX7_makeSet_56 : decode cX7_makeSet 56 = .ok (.getfield 7, 3) := by decide +kernel
theorem dX7_makeSet_59 : decode cX7_makeSet 59 = .ok (.iconst 2, 1) := by decide +kernel
theorem dX7_makeSet_60 : decode cX7_makeSet 60 = .ok (.iaload, 1) := by decide +kernel
theorem dX7_makeSet_61 : decode cX7_makeSet 61 = .ok (.aload_n 0, 1) := by decide +kernel
theorem dX7_makeSet_62 : decode cX7_makeSet 62 = .ok (.getfield 7, 3) := by decide +kernel
theorem dX7_makeSet_65 : decode cX7_makeSet 65 = .ok (.iconst 5, 1) := by decide +kernel
theorem dX7_makeSet_66 : decode cX7_makeSet 66 = .ok (.iaload, 1) := by decide +kernel
theorem dX7_makeSet_67 : decode cX7_makeSet 67 = .ok (.iload_n 1, 1) := by decide +kernel
theorem dX7_makeSet_68 : decode cX7_makeSet 68 = .ok (.iload_n 2, 1) := by decide +kernel
theorem dX7_makeSet_69 : decode cX7_makeSet 69 = .ok (.aload_n 0, 1) := by decide +kernel
theorem dX7_makeSet_70 : decode cX7_makeSet 70 = .ok (.getfield 7, 3) := by decide +kernel
theorem dX7_makeSet_73 : decode cX7_makeSet 73 = .ok (.iconst 3, 1) := by decide +kernel
theorem dX7_makeSet_74 : decode cX7_makeSet 74 = .ok (.iaload, 1) := by decide +kernel
theorem dX7_makeSet_75 : decode cX7_makeSet 75 = .ok (.invokevirtual 149, 3) := by decide +kernel
theorem dX7_makeSet_78 : decode cX7_makeSet 78 = .ok (.aload_n 0, 1) := by decide +kernel
theorem dX7_makeSet_79 : decode cX7_makeSet 79 = .ok (.getfield 7, 3) := by decide +kernel
theorem dX7_makeSet_82 : decode cX7_makeSet 82 = .ok (.iconst 0, 1) := by decide +kernel
theorem dX7_makeSet_83 : decode cX7_makeSet 83 = .ok (.iaload, 1) := by decide +kernel
theorem dX7_makeSet_84 : decode cX7_makeSet 84 = .ok (.iconst 1, 1) := by decide +kernel
theorem dX7_makeSet_85 : decode cX7_makeSet 85 = .ok (.if_icmp .ne 38, 3) := by decide +kernel
theorem dX7_makeSet_88 : decode cX7_makeSet 88 = .ok (.aload_n 0, 1) := by decide +kernel
theorem dX7_makeSet_89 : decode cX7_makeSet 89 = .ok (.getfield 7, 3) := by decide +kernel
theorem dX7_makeSet_92 : decode cX7_makeSet 92 = .ok (.bipush 117, 2) := by decide +kernel
theorem dX7_makeSet_94 : decode cX7_makeSet 94 = .ok (.iload_n 1, 1) := by decide +kernel
theorem dX7_makeSet_95 : decode cX7_makeSet 95 = .ok (.iadd, 1) := by decide +kernel
theorem dX7_makeSet_96 : decode cX7_makeSet 96 = .ok (.aload_n 0, 1) := by decide +kernel
theorem dX7_makeSet_97 : decode cX7_makeSet 97 = .ok (.getfield 7, 3) := by decide +kernel
theorem dX7_makeSet_100 : decode cX7_makeSet 100 = .ok (.iconst 5, 1) := by decide +kernel
theorem dX7_makeSet_101 : decode cX7_makeSet 101 = .ok (.iaload, 1) := by decide +kernel
theorem dX7_makeSet_102 : decode cX7_makeSet 102 = .ok (.iastore, 1) := by decide +kernel
theorem dX7_makeSet_103 : decode cX7_makeSet 103 = .ok (.aload_n 0, 1) := by decide +kernel
theorem dX7_makeSet_104 : decode cX7_makeSet 104 = .ok (.getfield 7, 3) := by decide +kernel
theorem dX7_makeSet_107 : decode cX7_makeSet 107 = .ok (.iconst 5, 1) := by decide +kernel
theorem dX7_makeSet_108 : decode cX7_makeSet 108 = .ok (.dup2, 1) := by decide +kernel
theorem dX7_makeSet_109 : decode cX7_makeSet 109 = .ok (.iaload, 1) := by decide +kernel
theorem dX7_makeSet_110 : decode cX7_makeSet 110 = .ok (.iconst 3, 1) := by decide +kernel
theorem dX7_makeSet_111 : decode cX7_makeSet 111 = .ok (.iadd, 1) := by decide +kernel
theorem dX7_makeSet_112 : decode cX7_makeSet 112 = .ok (.iastore, 1) := by decide +kernel
theorem dX7_makeSet_113 : decode cX7_makeSet 113 = .ok (.aload_n 0, 1) := by decide +kernel
theorem dX7_makeSet_114 : decode cX7_makeSet 114 = .ok (.getfield 7, 3) := by decide +kernel
theorem dX7_makeSet_117 : decode cX7_makeSet 117 = .ok (.bipush 11, 2) := by decide +kernel
theorem dX7_makeSet_119 : decode cX7_makeSet 119 = .ok (.iload_n 1, 1) := by decide +kernel
theorem dX7_makeSet_120 : decode cX7_makeSet 120 = .ok (.iadd, 1) := by decide +kernel
theorem dX7_makeSet_121 : decode cX7_makeSet 121 = .ok (.iload_n 2, 1) := by decide +kernel
theorem dX7_makeSet_122 : decode cX7_makeSet 122 = .ok (.iastore, 1) := by decide +kernel
theorem dX7_makeSet_123 : decode cX7_makeSet 123 = .ok (.return_, 1) := by decide +kernel
theorem dX7_isValue_0 : decode cX7_isValue 0 = .ok (.iload_n 2, 1) := by decide +kernel
theorem dX7_isValue_1 : decode cX7_isValue 1 = .ok (.iconst 0, 1) := by decide +kernel
theorem dX7_isValue_2 : decode cX7_isValue 2 = .ok (.aload_n 0, 1) := by decide +kernel
theorem dX7_isValue_3 : decode cX7_isValue 3 = .ok (.getfield 29, 3) := by decide +kernel
theorem dX7_isValue_6 : decode cX7_isValue 6 = .ok (.bipush 10, 2) := by decide +kernel
theorem dX7_isValue_8 : decode cX7_isValue 8 = .ok (.aload_n 0, 1) := by decide +kernel
theorem dX7_isValue_9 : decode cX7_isValue 9 = .ok (.getfield 7, 3) := by decide +kernel
theorem dX7_isValue_12 : decode cX7_isValue 12 = .ok (.iconst 3, 1) := by decide +kernel
theorem dX7_isValue_13 : decode cX7_isValue 13 = .ok (.iaload, 1) := by decide +kernel
theorem dX7_isValue_14 : decode cX7_isValue 14 = .ok (.imul, 1) := by decide +kernel
theorem dX7_isValue_15 : decode cX7_isValue 15 = .ok (.iload_n 1, 1) := by decide +kernel
theorem dX7_isValue_16 : decode cX7_isValue 16 = .ok (.iadd, 1) := by decide +kernel
theorem dX7_isValue_17 : decode cX7_isValue 17 = .ok (.iaload, 1) := by decide +kernel
theorem dX7_isValue_18 : decode cX7_isValue 18 = .ok (.invokestatic 63, 3) := by decide +kernel
theorem dX7_isValue_21 : decode cX7_isValue 21 = .ok (.ireturn, 1) := by decide +kernel
theorem dX7_set_0 : decode cX7_set 0 = .ok (.aload_n 0, 1) := by decide +kernel
theorem dX7_set_1 : decode cX7_set 1 = .ok (.getfield 7, 3) := by decide +kernel
theorem dX7_set_4 : decode cX7_set 4 = .ok (.iconst 0, 1) := by decide +kernel
theorem dX7_set_5 : decode cX7_set 5 = .ok (.iaload, 1) := by decide +kernel
theorem dX7_set_6 : decode cX7_set 6 = .ok (.ifCond .ne 6, 3) := by decide +kernel
theorem dX7_set_9 : decode cX7_set 9 = .ok (.bipush (-5), 2) := by decide +kernel
theorem dX7_set_11 : decode cX7_set 11 = .ok (.ireturn, 1) := by decide +kernel
theorem dX7_set_12 : decode cX7_set 12 = .ok (.aload_n 0, 1) := by decide +kernel
theorem dX7_set_13 : decode cX7_set 13 = .ok (.iload_n 1, 1) := by decide +kernel
theorem dX7_set_14 : decode cX7_set 14 = .ok (.invokevirtual 143, 3) := by decide +kernel
theorem dX7_set_17 : decode cX7_set 17 = .ok (.ifCond .ne 5, 3) := by decide +kernel
theorem dX7_set_20 : decode cX7_set 20 = .ok (.iconst (-1), 1) := by decide +kernel
theorem dX7_set_21 : decode cX7_set 21 = .ok (.ireturn, 1) := by decide +kernel
theorem dX7_set_22 : decode cX7_set 22 = .ok (.aload_n 0, 1) := by decide +kernel
theorem dX7_set_23 : decode cX7_set 23 = .ok (.iload_n 1, 1) := by decide +kernel
theorem dX7_set_24 : decode cX7_set 24 = .ok (.iload_n 2, 1) := by decide +kernel
theorem dX7_set_25 : decode cX7_set 25 = .ok (.invokevirtual 162, 3) := by decide +kernel
theorem dX7_set_28 : decode cX7_set 28 = .ok (.ifCond .ne 6, 3) := by decide +kernel
theorem dX7_set_31 : decode cX7_set 31 = .ok (.bipush (-2), 2) := by decide +kernel
theorem dX7_set_33 : decode cX7_set 33 = .ok (.ireturn, 1) := by decide +kernel
theorem dX7_set_34 : decode cX7_set 34 = .ok (.aload_n 0, 1) := by decide +kernel
theorem dX7_set_35 : decode cX7_set 35 = .ok (.iload_n 1, 1) := by decide +kernel
theorem dX7_set_36 : decode cX7_set 36 = .ok (.iload_n 2, 1) := by decide +kernel
theorem dX7_set_37 : decode cX7_set 37 = .ok (.invokevirtual 165, 3) := by decide +kernel
theorem dX7_set_40 : decode cX7_set 40 = .ok (.aload_n 0, 1) := by decide +kernel
theorem dX7_set_41 : decode cX7_set 41 = .ok (.getfield 101, 3) := by decide +kernel
theorem dX7_set_44 : decode cX7_set 44 = .ok (.ireturn, 1) := by decide +kernel
theorem dX7_isIdle_0 : decode cX7_isIdle 0 = .ok (.aload_n 0, 1) := by decide +kernel
theorem dX7_isIdle_1 : decode cX7_isIdle 1 = .ok (.getfield 7, 3) := by decide +kernel
theorem dX7_isIdle_4 : decode cX7_isIdle 4 = .ok (.iconst 0, 1) := by decide +kernel
theorem dX7_isIdle_5 : decode cX7_isIdle 5 = .ok (.iaload, 1) := by decide +kernel
theorem dX7_isIdle_6 : decode cX7_isIdle 6 = .ok (.ifCond .eq 12, 3) := by decide +kernel
theorem dX7_isIdle_9 : decode cX7_isIdle 9 = .ok (.aload_n 0, 1) := by decide +kernel
theorem dX7_isIdle_10 : decode cX7_isIdle 10 = .ok (.getfield 7, 3) := by decide +kernel
theorem dX7_isIdle_13 : decode cX7_isIdle 13 = .ok (.iconst 2, 1) := by decide +kernel
theorem dX7_isIdle_14 : decode cX7_isIdle 14 = .ok (.iaload, 1) := by decide +kernel
theorem dX7_isIdle_15 : decode cX7_isIdle 15 = .ok (.ifCond .ge 7, 3) := by decide +kernel
theorem dX7_isIdle_18 : decode cX7_isIdle 18 = .ok (.iconst 1, 1) := by decide +kernel
theorem dX7_isIdle_19 : decode cX7_isIdle 19 = .ok (.goto 4, 3) := by decide +kernel
theorem dX7_isIdle_22 : decode cX7_isIdle 22 = .ok (.iconst 0, 1) := by decide +kernel
theorem dX7_isIdle_23 : decode cX7_isIdle 23 = .ok (.ireturn, 1) := by decide +kernel
theorem dX7_compact_0 : decode cX7_compact 0 = .ok (.aload_n 0, 1) := by decide +kernel
theorem dX7_compact_1 : decode cX7_compact 1 = .ok (.invokevirtual 168, 3) := by decide +kernel
theorem dX7_compact_4 : decode cX7_compact 4 = .ok (.ifCond .eq 6, 3) := by decide +kernel
theorem dX7_compact_7 : decode cX7_compact 7 = .ok (.bipush (-5), 2) := by decide +kernel
theorem dX7_compact_9 : decode cX7_compact 9 = .ok (.ireturn, 1) := by decide +kernel
theorem dX7_compact_10 : decode cX7_compact 10 = .ok (.aload_n 0, 1) := by decide +kernel
theorem dX7_compact_11 : decode cX7_compact 11 = .ok (.iconst 0, 1) := by decide +kernel
theorem dX7_compact_12 : decode cX7_compact 12 = .ok (.putfield 101, 3) := by decide +kernel
theorem dX7_compact_15 : decode cX7_compact 15 = .ok (.aload_n 0, 1) := by decide +kernel
theorem dX7_compact_16 : decode cX7_compact 16 = .ok (.invokevirtual 156, 3) := by decide +kernel
theorem dX7_compact_19 : decode cX7_compact 19 = .ok (.aload_n 0, 1) := by decide +kernel
theorem dX7_compact_20 : decode cX7_compact 20 = .ok (.aload_n 0, 1) := by decide +kernel
theorem dX7_compact_21 : decode cX7_compact 21 = .ok (.getfield 7, 3) := by decide +kernel
theorem dX7_compact_24 : decode cX7_compact 24 = .ok (.iconst 3, 1) := by decide +kernel
theorem dX7_compact_25 : decode cX7_compact 25 = .ok (.iaload, 1) := by decide +kernel
theorem dX7_compact_26 : decode cX7_compact 26 = .ok (.invokevirtual 159, 3) := by decide +kernel
theorem dX7_compact_29 : decode cX7_compact 29 = .ok (.aload_n 0, 1) := by decide +kernel
theorem dX7_compact_30 : decode cX7_compact 30 = .ok (.getfield 101, 3) := by decide +kernel
theorem dX7_compact_33 : decode cX7_compact 33 = .ok (.ireturn, 1) := by decide +kernel
theorem dX7_doToValues_0 : decode cX7_doToValues 0 = .ok (.aload_n 0, 1) := by decide +kernel
theorem dX7_doToValues_1 : decode cX7_doToValues 1 = .ok (.getfield 44, 3) := by decide +kernel
theorem dX7_doToValues_4 : decode cX7_doToValues 4 = .ok (.iload_n 1, 1) := by decide +kernel
theorem dX7_doToValues_5 : decode cX7_doToValues 5 = .ok (.iaload, 1) := by decide +kernel
theorem dX7_doToValues_6 : decode cX7_doToValues 6 = .ok (.istore_n 2, 1) := by decide +kernel
theorem dX7_doToValues_7 : decode cX7_doToValues 7 = .ok (.aload_n 0, 1) := by decide +kernel
theorem dX7_doToValues_8 : decode cX7_doToValues 8 = .ok (.getfield 41, 3) := by decide +kernel
theorem dX7_doToValues_11 : decode cX7_doToValues 11 = .ok (.iload_n 1, 1) := by decide +kernel
theorem dX7_doToValues_12 : decode cX7_doToValues 12 = .ok (.iaload, 1) := by decide +kernel
theorem dX7_doToValues_13 : decode cX7_doToValues 13 = .ok (.tableswitch 65 0 2 #[27, 42, 45], 27) := by decide +kernel
theorem dX7_doToValues_40 : decode cX7_doToValues 40 = .ok (.aload_n 0, 1) := by decide +kernel
theorem dX7_doToValues_41 : decode cX7_doToValues 41 = .ok (.getfield 53, 3) := by decide +kernel
theorem dX7_doToValues_44 : decode cX7_doToValues 44 = .ok (.iload_n 2, 1) := by decide +kernel
theorem dX7_doToValues_45 : decode cX7_doToValues 45 = .ok (.aload_n 0, 1) := by decide +kernel
theorem dX7_doToValues_46 : decode cX7_doToValues 46 = .ok (.getfield 50, 3) := by decide +kernel
theorem dX7_doToValues_49 : decode cX7_doToValues 49 = .ok (.iload_n 1, 1) := by decide +kernel
theorem dX7_doToValues_50 : decode cX7_doToValues 50 = .ok (.iaload, 1) := by decide +kernel
theorem dX7_doToValues_51 : decode cX7_doToValues 51 = .ok (.iastore, 1) := by decide +kernel
theorem dX7_doToValues_52 : decode cX7_doToValues 52 = .ok (.goto 53, 3) := by decide +kernel
theorem dX7_doToValues_55 : decode cX7_doToValues 55 = .ok (.goto 50, 3) := by decide +kernel
theorem dX7_doToValues_58 : decode cX7_doToValues 58 = .ok (.aload_n 0, 1) := by decide +kernel
theorem dX7_doToValues_59 : decode cX7_doToValues 59 = .ok (.getfield 53, 3) := by decide +kernel
theorem dX7_doToValues_62 : decode cX7_doToValues 62 = .ok (.aload_n 0, 1) := by decide +kernel
theorem dX7_doToValues_63 : decode cX7_doToValues 63 = .ok (.getfield 47, 3) := by decide +kernel
theorem dX7_doToValues_66 : decode cX7_doToValues 66 = .ok (.iload_n 1, 1) := by decide +kernel
theorem dX7_doToValues_67 : decode cX7_doToValues 67 = .ok (.iaload, 1) := by decide +kernel
theorem dX7_doToValues_68 : decode cX7_doToValues 68 = .ok (.aload_n 0, 1) := by decide +kernel
theorem dX7_doToValues_69 : decode cX7_doToValues 69 = .ok (.getfield 53, 3) := by decide +kernel
theorem dX7_doToValues_72 : decode cX7_doToValues 72 = .ok (.iload_n 2, 1) := by decide +kernel
theorem dX7_doToValues_73 : decode cX7_doToValues 73 = .ok (.iaload, 1) := by decide +kernel
theorem dX7_doToValues_74 : decode cX7_doToValues 74 = .ok (.iastore, 1) := by decide +kernel
theorem dX7_doToValues_75 : decode cX7_doToValues 75 = .ok (.goto 30, 3) := by decide +kernel
theorem dX7_doToValues_78 : decode cX7_doToValues 78 = .ok (.aload_n 0, 1) := by decide +kernel
theorem dX7_doToValues_79 : decode cX7_doToValues 79 = .ok (.getfield 53, 3) := by decide +kernel
theorem dX7_doToValues_82 : decode cX7_doToValues 82 = .ok (.iload_n 2, 1) := by decide +kernel
theorem dX7_doToValues_83 : decode cX7_doToValues 83 = .ok (.aload_n 0, 1) := by decide +kernel
theorem dX7_doToValues_84 : decode cX7_doToValues 84 = .ok (.getfield 41, 3) := by decide +kernel
theorem dX7_doToValues_87 : decode cX7_doToValues 87 = .ok (.iload_n 1, 1) := by decide +kernel
theorem dX7_doToValues_88 : decode cX7_doToValues 88 = .ok (.iaload, 1) := by decide +kernel
theorem dX7_doToValues_89 : decode cX7_doToValues 89 = .ok (.aload_n 0, 1) := by decide +kernel
theorem dX7_doToValues_90 : decode cX7_doToValues 90 = .ok (.getfield 53, 3) := by decide +kernel
theorem dX7_doToValues_93 : decode cX7_doToValues 93 = .ok (.iload_n 2, 1) := by decide +kernel
theorem dX7_doToValues_94 : decode cX7_doToValues 94 = .ok (.iaload, 1) := by decide +kernel
theorem dX7_doToValues_95 : decode cX7_doToValues 95 = .ok (.aload_n 0, 1) := by decide +kernel
theorem dX7_doToValues_96 : decode cX7_doToValues 96 = .ok (.getfield 47, 3) := by decide +kernel
theorem dX7_doToValues_99 : decode cX7_doToValues 99 = .ok (.iload_n 1, 1) := by decide +kernel
theorem dX7_doToValues_100 : decode cX7_doToValues 100 = .ok (.iaload, 1) := by decide +kernel
theorem dX7_doToValues_101 : decode cX7_doToValues 101 = .ok (.invokestatic 75, 3) := by decide +kernel
theorem dX7_doToValues_104 : decode cX7_doToValues 104 = .ok (.iastore, 1) := by decide +kernel
theorem dX7_doToValues_105 : decode cX7_doToValues 105 = .ok (.return_, 1) := by decide +kernel
theorem dX7_migrateTo_0 : decode cX7_migrateTo 0 = .ok (.aload_n 0, 1) := by decide +kernel
theorem dX7_migrateTo_1 : decode cX7_migrateTo 1 = .ok (.invokevirtual 156, 3) := by decide +kernel
theorem dX7_migrateTo_4 : decode cX7_migrateTo 4 = .ok (.aload_n 0, 1) := by decide +kernel
theorem dX7_migrateTo_5 : decode cX7_migrateTo 5 = .ok (.getfield 7, 3) := by decide +kernel
theorem dX7_migrateTo_8 : decode cX7_migrateTo 8 = .ok (.iconst 3, 1) := by decide +kernel
theorem dX7_migrateTo_9 : decode cX7_migrateTo 9 = .ok (.iaload, 1) := by decide +kernel
theorem dX7_migrateTo_10 : decode cX7_migrateTo 10 = .ok (.iconst 1, 1) := by decide +kernel
theorem dX7_migrateTo_11 : decode cX7_migrateTo 11 = .ok (.iadd, 1) := by decide +kernel
theorem dX7_migrateTo_12 : decode cX7_migrateTo 12 = .ok (.istore_n 2, 1) := by decide +kernel
theorem dX7_migrateTo_13 : decode cX7_migrateTo 13 = .ok (.iload_n 2, 1) := by decide +kernel
theorem dX7_migrateTo_14 : decode cX7_migrateTo 14 = .ok (.iload_n 1, 1) := by decide +kernel
theorem dX7_migrateTo_15 : decode cX7_migrateTo 15 = .ok (.if_icmp .gt 37, 3) := by decide +kernel
theorem dX7_migrateTo_18 : decode cX7_migrateTo 18 = .ok (.iconst 0, 1) := by decide +kernel
theorem dX7_migrateTo_19 : decode cX7_migrateTo 19 = .ok (.istore_n 3, 1) := by decide +kernel
theorem dX7_migrateTo_20 : decode cX7_migrateTo 20 = .ok (.iload_n 3, 1) := by decide +kernel
theorem dX7_migrateTo_21 : decode cX7_migrateTo 21 = .ok (.aload_n 0, 1) := by decide +kernel
theorem dX7_migrateTo_22 : decode cX7_migrateTo 22 = .ok (.getfield 38, 3) := by decide +kernel
theorem dX7_migrateTo_25 : decode cX7_migrateTo 25 = .ok (.iload_n 2, 1) := by decide +kernel
theorem dX7_migrateTo_26 : decode cX7_migrateTo 26 = .ok (.iaload, 1) := by decide +kernel
theorem dX7_migrateTo_27 : decode cX7_migrateTo 27 = .ok (.if_icmp .ge 19, 3) := by decide +kernel
theorem dX7_migrateTo_30 : decode cX7_migrateTo 30 = .ok (.aload_n 0, 1) := by decide +kernel
theorem dX7_migrateTo_31 : decode cX7_migrateTo 31 = .ok (.bipush 28, 2) := by decide +kernel
theorem dX7_migrateTo_33 : decode cX7_migrateTo 33 = .ok (.iload_n 2, 1) := by decide +kernel
theorem dX7_migrateTo_34 : decode cX7_migrateTo 34 = .ok (.imul, 1) := by decide +kernel
theorem dX7_migrateTo_35 : decode cX7_migrateTo 35 = .ok (.iload_n 3, 1) := by decide +kernel
theorem dX7_migrateTo_36 : decode cX7_migrateTo 36 = .ok (.iadd, 1) := by decide +kernel
theorem dX7_migrateTo_37 : decode cX7_migrateTo 37 = .ok (.invokevirtual 172, 3) := by decide +kernel
theorem dX7_migrateTo_40 : decode cX7_migrateTo 40 = .ok (.iinc 3 1, 3) := by decide +kernel
theorem dX7_migrateTo_43 : decode cX7_migrateTo 43 = .ok (.goto (-23), 3) := by decide +kernel
theorem dX7_migrateTo_46 : decode cX7_migrateTo 46 = .ok (.iinc 2 1, 3) := by decide +kernel
theorem dX7_migrateTo_49 : decode cX7_migrateTo 49 = .ok (.goto (-36), 3) := by decide +kernel
theorem dX7_migrateTo_52 : decode cX7_migrateTo 52 = .ok (.return_, 1) := by decide +kernel
theorem dX7_migrate_0 : decode cX7_migrate 0 = .ok (.aload_n 0, 1) := by decide +kernel
theorem dX7_migrate_1 : decode cX7_migrate 1 = .ok (.invokevirtual 168, 3) := by decide +kernel
theorem dX7_migrate_4 : decode cX7_migrate 4 = .ok (.ifCond .eq 6, 3) := by decide +kernel
theorem dX7_migrate_7 : decode cX7_migrate 7 = .ok (.bipush (-5), 2) := by decide +kernel
theorem dX7_migrate_9 : decode cX7_migrate 9 = .ok (.ireturn, 1) := by decide +kernel
theorem dX7_migrate_10 : decode cX7_migrate 10 = .ok (.aload_n 0, 1) := by decide +kernel
theorem dX7_migrate_11 : decode cX7_migrate 11 = .ok (.iload_n 1, 1) := by decide +kernel
theorem dX7_migrate_12 : decode cX7_migrate 12 = .ok (.invokevirtual 97, 3) := by decide +kernel
theorem dX7_migrate_15 : decode cX7_migrate 15 = .ok (.ifCond .ne 5, 3) := by decide +kernel
theorem dX7_migrate_18 : decode cX7_migrate 18 = .ok (.iconst (-1), 1) := by decide +kernel
theorem dX7_migrate_19 : decode cX7_migrate 19 = .ok (.ireturn, 1) := by decide +kernel
theorem dX7_migrate_20 : decode cX7_migrate 20 = .ok (.iload_n 1, 1) := by decide +kernel
theorem dX7_migrate_21 : decode cX7_migrate 21 = .ok (.aload_n 0, 1) := by decide +kernel
theorem dX7_migrate_22 : decode cX7_migrate 22 = .ok (.getfield 7, 3) := by decide +kernel
theorem dX7_migrate_25 : decode cX7_migrate 25 = .ok (.iconst 3, 1) := by decide +kernel
theorem dX7_migrate_26 : decode cX7_migrate 26 = .ok (.iaload, 1) := by decide +kernel
theorem dX7_migrate_27 : decode cX7_migrate 27 = .ok (.if_icmp .gt 6, 3) := by decide +kernel
theorem dX7_migrate_30 : decode cX7_migrate 30 = .ok (.bipush (-2), 2) := by decide +kernel
theorem dX7_migrate_32 : decode cX7_migrate 32 = .ok (.ireturn, 1) := by decide +kernel
theorem dX7_migrate_33 : decode cX7_migrate 33 = .ok (.aload_n 0, 1) := by decide +kernel
theorem dX7_migrate_34 : decode cX7_migrate 34 = .ok (.iconst 0, 1) := by decide +kernel
theorem dX7_migrate_35 : decode cX7_migrate 35 = .ok (.putfield 101, 3) := by decide +kernel
theorem dX7_migrate_38 : decode cX7_migrate 38 = .ok (.aload_n 0, 1) := by decide +kernel
theorem dX7_migrate_39 : decode cX7_migrate 39 = .ok (.iload_n 1, 1) := by decide +kernel
theorem dX7_migrate_40 : decode cX7_migrate 40 = .ok (.invokevirtual 175, 3) := by decide +kernel
theorem dX7_migrate_43 : decode cX7_migrate 43 = .ok (.aload_n 0, 1) := by decide +kernel
theorem dX7_migrate_44 : decode cX7_migrate 44 = .ok (.iload_n 1, 1) := by decide +kernel
theorem dX7_migrate_45 : decode cX7_migrate 45 = .ok (.invokevirtual 159, 3) := by decide +kernel
theorem dX7_migrate_48 : decode cX7_migrate 48 = .ok (.aload_n 0, 1) := by decide +kernel
theorem dX7_migrate_49 : decode cX7_migrate 49 = .ok (.getfield 101, 3) := by decide +kernel
theorem dX7_migrate_52 : decode cX7_migrate 52 = .ok (.ireturn, 1) := by decide +kernel
theorem dX7_factory_0 : decode cX7_factory 0 = .ok (.aload_n 0, 1) := by decide +kernel
theorem dX7_factory_1 : decode cX7_factory 1 = .ok (.getfield 7, 3) := by decide +kernel
theorem dX7_factory_4 : decode cX7_factory 4 = .ok (.iconst 0, 1) := by decide +kernel
theorem dX7_factory_5 : decode cX7_factory 5 = .ok (.iaload, 1) := by decide +kernel
theorem dX7_factory_6 : decode cX7_factory 6 = .ok (.ifCond .ne 6, 3) := by decide +kernel
theorem dX7_factory_9 : decode cX7_factory 9 = .ok (.bipush (-5), 2) := by decide +kernel
theorem dX7_factory_11 : decode cX7_factory 11 = .ok (.ireturn, 1) := by decide +kernel
theorem dX7_factory_12 : decode cX7_factory 12 = .ok (.aload_n 0, 1) := by decide +kernel
theorem dX7_factory_13 : decode cX7_factory 13 = .ok (.iload_n 1, 1) := by decide +kernel
theorem dX7_factory_14 : decode cX7_factory 14 = .ok (.invokevirtual 97, 3) := by decide +kernel
theorem dX7_factory_17 : decode cX7_factory 17 = .ok (.ifCond .ne 5, 3) := by decide +kernel
theorem dX7_factory_20 : decode cX7_factory 20 = .ok (.iconst (-1), 1) := by decide +kernel
theorem dX7_factory_21 : decode cX7_factory 21 = .ok (.ireturn, 1) := by decide +kernel
theorem dX7_factory_22 : decode cX7_factory 22 = .ok (.aload_n 0, 1) := by decide +kernel
theorem dX7_factory_23 : decode cX7_factory 23 = .ok (.iconst 0, 1) := by decide +kernel
theorem dX7_factory_24 : decode cX7_factory 24 = .ok (.putfield 101, 3) := by decide +kernel
theorem dX7_factory_27 : decode cX7_factory 27 = .ok (.aload_n 0, 1) := by decide +kernel
theorem dX7_factory_28 : decode cX7_factory 28 = .ok (.iconst 0, 1) := by decide +kernel
theorem dX7_factory_29 : decode cX7_factory 29 = .ok (.invokevirtual 146, 3) := by decide +kernel
theorem dX7_factory_32 : decode cX7_factory 32 = .ok (.aload_n 0, 1) := by decide +kernel
theorem dX7_factory_33 : decode cX7_factory 33 = .ok (.iconst 1, 1) := by decide +kernel
theorem dX7_factory_34 : decode cX7_factory 34 = .ok (.invokevirtual 146, 3) := by decide +kernel
theorem dX7_factory_37 : decode cX7_factory 37 = .ok (.aload_n 0, 1) := by decide +kernel
theorem dX7_factory_38 : decode cX7_factory 38 = .ok (.iconst 0, 1) := by decide +kernel
theorem dX7_factory_39 : decode cX7_factory 39 = .ok (.iload_n 1, 1) := by decide +kernel
theorem dX7_factory_40 : decode cX7_factory 40 = .ok (.iconst 0, 1) := by decide +kernel
theorem dX7_factory_41 : decode cX7_factory 41 = .ok (.invokevirtual 153, 3) := by decide +kernel
theorem dX7_factory_44 : decode cX7_factory 44 = .ok (.aload_n 0, 1) := by decide +kernel
theorem dX7_factory_45 : decode cX7_factory 45 = .ok (.getfield 7, 3) := by decide +kernel
theorem dX7_factory_48 : decode cX7_factory 48 = .ok (.iconst 0, 1) := by decide +kernel
theorem dX7_factory_49 : decode cX7_factory 49 = .ok (.iaload, 1) := by decide +kernel
theorem dX7_factory_50 : decode cX7_factory 50 = .ok (.iconst 1, 1) := by decide +kernel
theorem dX7_factory_51 : decode cX7_factory 51 = .ok (.if_icmp .ne 36, 3) := by decide +kernel
theorem dX7_factory_54 : decode cX7_factory 54 = .ok (.aload_n 0, 1) := by decide +kernel
theorem dX7_factory_55 : decode cX7_factory 55 = .ok (.getfield 7, 3) := by decide +kernel
theorem dX7_factory_58 : decode cX7_factory 58 = .ok (.iconst 2, 1) := by decide +kernel
theorem dX7_factory_59 : decode cX7_factory 59 = .ok (.iconst 0, 1) := by decide +kernel
theorem dX7_factory_60 : decode cX7_factory 60 = .ok (.iastore, 1) := by decide +kernel
theorem dX7_factory_61 : decode cX7_factory 61 = .ok (.aload_n 0, 1) := by decide +kernel
theorem dX7_factory_62 : decode cX7_factory 62 = .ok (.getfield 7, 3) := by decide +kernel
theorem dX7_factory_65 : decode cX7_factory 65 = .ok (.iconst 3, 1) := by decide +kernel
theorem dX7_factory_66 : decode cX7_factory 66 = .ok (.iload_n 1, 1) := by decide +kernel
theorem dX7_factory_67 : decode cX7_factory 67 = .ok (.iastore, 1) := by decide +kernel
theorem dX7_factory_68 : decode cX7_factory 68 = .ok (.aload_n 0, 1) := by decide +kernel
theorem dX7_factory_69 : decode cX7_factory 69 = .ok (.getfield 7, 3) := by decide +kernel
theorem dX7_factory_72 : decode cX7_factory 72 = .ok (.iconst 4, 1) := by decide +kernel
theorem dX7_factory_73 : decode cX7_factory 73 = .ok (.iconst 0, 1) := by decide +kernel
theorem dX7_factory_74 : decode cX7_factory 74 = .ok (.iastore, 1) := by decide +kernel
theorem dX7_factory_75 : decode cX7_factory 75 = .ok (.aload_n 0, 1) := by decide +kernel
theorem dX7_factory_76 : decode cX7_factory 76 = .ok (.getfield 7, 3) := by decide +kernel
theorem dX7_factory_79 : decode cX7_factory 79 = .ok (.iconst 5, 1) := by decide +kernel
theorem dX7_factory_80 : decode cX7_factory 80 = .ok (.iconst 3, 1) := by decide +kernel
theorem dX7_factory_81 : decode cX7_factory 81 = .ok (.iastore, 1) := by decide +kernel
theorem dX7_factory_82 : decode cX7_factory 82 = .ok (.aload_n 0, 1) := by decide +kernel
theorem dX7_factory_83 : decode cX7_factory 83 = .ok (.iload_n 1, 1) := by decide +kernel
theorem dX7_factory_84 : decode cX7_factory 84 = .ok (.invokevirtual 136, 3) := by decide +kernel
theorem dX7_factory_87 : decode cX7_factory 87 = .ok (.aload_n 0, 1) := by decide +kernel
theorem dX7_factory_88 : decode cX7_factory 88 = .ok (.getfield 101, 3) := by decide +kernel
theorem dX7_factory_91 : decode cX7_factory 91 = .ok (.ireturn, 1) := by decide +kernel
theorem dX7_isCell_0 : decode cX7_isCell 0 = .ok (.iload_n 0, 1) := by decide +kernel
theorem dX7_isCell_1 : decode cX7_isCell 1 = .ok (.iconst 0, 1) := by decide +kernel
theorem dX7_isCell_2 : decode cX7_isCell 2 = .ok (.iconst 1, 1) := by decide +kernel
theorem dX7_isCell_3 : decode cX7_isCell 3 = .ok (.invokestatic 63, 3) := by decide +kernel
theorem dX7_isCell_6 : decode cX7_isCell 6 = .ok (.ifCond .eq 17, 3) := by decide +kernel
theorem dX7_isCell_9 : decode cX7_isCell 9 = .ok (.iload_n 1, 1) := by decide +kernel
theorem dX7_isCell_10 : decode cX7_isCell 10 = .ok (.iconst 0, 1) := by decide +kernel
theorem dX7_isCell_11 : decode cX7_isCell 11 = .ok (.bipush 47, 2) := by decide +kernel
theorem dX7_isCell_13 : decode cX7_isCell 13 = .ok (.invokestatic 63, 3) := by decide +kernel
theorem dX7_isCell_16 : decode cX7_isCell 16 = .ok (.ifCond .eq 7, 3) := by decide +kernel
theorem dX7_isCell_19 : decode cX7_isCell 19 = .ok (.iconst 1, 1) := by decide +kernel
theorem dX7_isCell_20 : decode cX7_isCell 20 = .ok (.goto 4, 3) := by decide +kernel
theorem dX7_isCell_23 : decode cX7_isCell 23 = .ok (.iconst 0, 1) := by decide +kernel
theorem dX7_isCell_24 : decode cX7_isCell 24 = .ok (.ireturn, 1) := by decide +kernel
theorem dX7_cell_0 : decode cX7_cell 0 = .ok (.iload_n 1, 1) := by decide +kernel
theorem dX7_cell_1 : decode cX7_cell 1 = .ok (.iload_n 2, 1) := by decide +kernel
theorem dX7_cell_2 : decode cX7_cell 2 = .ok (.invokestatic 178, 3) := by decide +kernel
theorem dX7_cell_5 : decode cX7_cell 5 = .ok (.ifCond .eq 12, 3) := by decide +kernel
theorem dX7_cell_8 : decode cX7_cell 8 = .ok (.aload_n 0, 1) := by decide +kernel
theorem dX7_cell_9 : decode cX7_cell 9 = .ok (.iload_n 1, 1) := by decide +kernel
theorem dX7_cell_10 : decode cX7_cell 10 = .ok (.iload_n 2, 1) := by decide +kernel
theorem dX7_cell_11 : decode cX7_cell 11 = .ok (.invokevirtual 114, 3) := by decide +kernel
theorem dX7_cell_14 : decode cX7_cell 14 = .ok (.goto 4, 3) := by decide +kernel
theorem dX7_cell_17 : decode cX7_cell 17 = .ok (.iconst (-1), 1) := by decide +kernel
theorem dX7_cell_18 : decode cX7_cell 18 = .ok (.ireturn, 1) := by decide +kernel
theorem dX7_spoil_0 : decode cX7_spoil 0 = .ok (.iload_n 1, 1) := by decide +kernel
theorem dX7_spoil_1 : decode cX7_spoil 1 = .ok (.iload_n 2, 1) := by decide +kernel
theorem dX7_spoil_2 : decode cX7_spoil 2 = .ok (.invokestatic 178, 3) := by decide +kernel
theorem dX7_spoil_5 : decode cX7_spoil 5 = .ok (.ifCond .ne 5, 3) := by decide +kernel
theorem dX7_spoil_8 : decode cX7_spoil 8 = .ok (.iconst (-1), 1) := by decide +kernel
theorem dX7_spoil_9 : decode cX7_spoil 9 = .ok (.ireturn, 1) := by decide +kernel
theorem dX7_spoil_10 : decode cX7_spoil 10 = .ok (.iload_n 3, 1) := by decide +kernel
theorem dX7_spoil_11 : decode cX7_spoil 11 = .ok (.bipush (-6), 2) := by decide +kernel
theorem dX7_spoil_13 : decode cX7_spoil 13 = .ok (.if_icmp .eq 17, 3) := by decide +kernel
theorem dX7_spoil_16 : decode cX7_spoil 16 = .ok (.iload_n 3, 1) := by decide +kernel
theorem dX7_spoil_17 : decode cX7_spoil 17 = .ok (.iconst 0, 1) := by decide +kernel
theorem dX7_spoil_18 : decode cX7_spoil 18 = .ok (.sipush 255, 3) := by decide +kernel
theorem dX7_spoil_21 : decode cX7_spoil 21 = .ok (.invokestatic 63, 3) := by decide +kernel
theorem dX7_spoil_24 : decode cX7_spoil 24 = .ok (.ifCond .ne 6, 3) := by decide +kernel
theorem dX7_spoil_27 : decode cX7_spoil 27 = .ok (.bipush (-2), 2) := by decide +kernel
theorem dX7_spoil_29 : decode cX7_spoil 29 = .ok (.ireturn, 1) := by decide +kernel
theorem dX7_spoil_30 : decode cX7_spoil 30 = .ok (.aload_n 0, 1) := by decide +kernel
theorem dX7_spoil_31 : decode cX7_spoil 31 = .ok (.iload_n 1, 1) := by decide +kernel
theorem dX7_spoil_32 : decode cX7_spoil 32 = .ok (.iload_n 2, 1) := by decide +kernel
theorem dX7_spoil_33 : decode cX7_spoil 33 = .ok (.invokevirtual 114, 3) := by decide +kernel
theorem dX7_spoil_36 : decode cX7_spoil 36 = .ok (.istore 4, 2) := by decide +kernel
theorem dX7_spoil_38 : decode cX7_spoil 38 = .ok (.aload_n 0, 1) := by decide +kernel
theorem dX7_spoil_39 : decode cX7_spoil 39 = .ok (.getfield 7, 3) := by decide +kernel
theorem dX7_spoil_42 : decode cX7_spoil 42 = .ok (.bipush 21, 2) := by decide +kernel
theorem dX7_spoil_44 : decode cX7_spoil 44 = .ok (.bipush 48, 2) := by decide +kernel
theorem dX7_spoil_46 : decode cX7_spoil 46 = .ok (.iload_n 1, 1) := by decide +kernel
theorem dX7_spoil_47 : decode cX7_spoil 47 = .ok (.imul, 1) := by decide +kernel
theorem dX7_spoil_48 : decode cX7_spoil 48 = .ok (.iadd, 1) := by decide +kernel
theorem dX7_spoil_49 : decode cX7_spoil 49 = .ok (.iload_n 2, 1) := by decide +kernel
theorem dX7_spoil_50 : decode cX7_spoil 50 = .ok (.iadd, 1) := by decide +kernel
theorem dX7_spoil_51 : decode cX7_spoil 51 = .ok (.iload_n 3, 1) := by decide +kernel
theorem dX7_spoil_52 : decode cX7_spoil 52 = .ok (.iastore, 1) := by decide +kernel
theorem dX7_spoil_53 : decode cX7_spoil 53 = .ok (.iload 4, 2) := by decide +kernel
theorem dX7_spoil_55 : decode cX7_spoil 55 = .ok (.ireturn, 1) := by decide +kernel
theorem dX7_cellsOf_0 : decode cX7_cellsOf 0 = .ok (.iconst 0, 1) := by decide +kernel
theorem dX7_cellsOf_1 : decode cX7_cellsOf 1 = .ok (.istore_n 2, 1) := by decide +kernel
theorem dX7_cellsOf_2 : decode cX7_cellsOf 2 = .ok (.iconst 0, 1) := by decide +kernel
theorem dX7_cellsOf_3 : decode cX7_cellsOf 3 = .ok (.istore_n 3, 1) := by decide +kernel
theorem dX7_cellsOf_4 : decode cX7_cellsOf 4 = .ok (.iload_n 3, 1) := by decide +kernel
theorem dX7_cellsOf_5 : decode cX7_cellsOf 5 = .ok (.bipush 48, 2) := by decide +kernel
theorem dX7_cellsOf_7 : decode cX7_cellsOf 7 = .ok (.if_icmp .ge 28, 3) := by decide +kernel
theorem dX7_cellsOf_10 : decode cX7_cellsOf 10 = .ok (.iload_n 2, 1) := by decide +kernel
theorem dX7_cellsOf_11 : decode cX7_cellsOf 11 = .ok (.aload_n 0, 1) := by decide +kernel
theorem dX7_cellsOf_12 : decode cX7_cellsOf 12 = .ok (.iload_n 1, 1) := by decide +kernel
theorem dX7_cellsOf_13 : decode cX7_cellsOf 13 = .ok (.iload_n 3, 1) := by decide +kernel
theorem dX7_cellsOf_14 : decode cX7_cellsOf 14 = .ok (.invokevirtual 114, 3) := by decide +kernel
theorem dX7_cellsOf_17 : decode cX7_cellsOf 17 = .ok (.bipush (-6), 2) := by decide +kernel
theorem dX7_cellsOf_19 : decode cX7_cellsOf 19 = .ok (.if_icmp .ne 7, 3) := by decide +kernel
theorem dX7_cellsOf_22 : decode cX7_cellsOf 22 = .ok (.iconst 0, 1) := by decide +kernel
theorem dX7_cellsOf_23 : decode cX7_cellsOf 23 = .ok (.goto 4, 3) := by decide +kernel
theorem dX7_cellsOf_26 : decode cX7_cellsOf 26 = .ok (.iconst 1, 1) := by decide +kernel
theorem dX7_cellsOf_27 : decode cX7_cellsOf 27 = .ok (.iadd, 1) := by decide +kernel
theorem dX7_cellsOf_28 : decode cX7_cellsOf 28 = .ok (.istore_n 2, 1) := by decide +kernel
theorem dX7_cellsOf_29 : decode cX7_cellsOf 29 = .ok (.iinc 3 1, 3) := by decide +kernel
theorem dX7_cellsOf_32 : decode cX7_cellsOf 32 = .ok (.goto (-28), 3) := by decide +kernel
theorem dX7_cellsOf_35 : decode cX7_cellsOf 35 = .ok (.iload_n 2, 1) := by decide +kernel
theorem dX7_cellsOf_36 : decode cX7_cellsOf 36 = .ok (.ireturn, 1) := by decide +kernel
theorem dX7_recordsOf_0 : decode cX7_recordsOf 0 = .ok (.aload_n 0, 1) := by decide +kernel
theorem dX7_recordsOf_1 : decode cX7_recordsOf 1 = .ok (.iload_n 1, 1) := by decide +kernel
theorem dX7_recordsOf_2 : decode cX7_recordsOf 2 = .ok (.invokevirtual 129, 3) := by decide +kernel
theorem dX7_recordsOf_5 : decode cX7_recordsOf 5 = .ok (.ifCond .ne 5, 3) := by decide +kernel
theorem dX7_recordsOf_8 : decode cX7_recordsOf 8 = .ok (.iconst 0, 1) := by decide +kernel
theorem dX7_recordsOf_9 : decode cX7_recordsOf 9 = .ok (.ireturn, 1) := by decide +kernel
theorem dX7_recordsOf_10 : decode cX7_recordsOf 10 = .ok (.aload_n 0, 1) := by decide +kernel
theorem dX7_recordsOf_11 : decode cX7_recordsOf 11 = .ok (.iload_n 1, 1) := by decide +kernel
theorem dX7_recordsOf_12 : decode cX7_recordsOf 12 = .ok (.aload_n 0, 1) := by decide +kernel
theorem dX7_recordsOf_13 : decode cX7_recordsOf 13 = .ok (.iload_n 1, 1) := by decide +kernel
theorem dX7_recordsOf_14 : decode cX7_recordsOf 14 = .ok (.iconst 0, 1) := by decide +kernel
theorem dX7_recordsOf_15 : decode cX7_recordsOf 15 = .ok (.invokevirtual 114, 3) := by decide +kernel
theorem dX7_recordsOf_18 : decode cX7_recordsOf 18 = .ok (.sipush 200, 3) := by decide +kernel
theorem dX7_recordsOf_21 : decode cX7_recordsOf 21 = .ok (.isub, 1) := by decide +kernel
theorem dX7_recordsOf_22 : decode cX7_recordsOf 22 = .ok (.iconst 0, 1) := by decide +kernel
theorem dX7_recordsOf_23 : decode cX7_recordsOf 23 = .ok (.invokevirtual 139, 3) := by decide +kernel
theorem dX7_recordsOf_26 : decode cX7_recordsOf 26 = .ok (.iload_n 2, 1) := by decide +kernel
theorem dX7_recordsOf_27 : decode cX7_recordsOf 27 = .ok (.ifCond .eq 10, 3) := by decide +kernel
theorem dX7_recordsOf_30 : decode cX7_recordsOf 30 = .ok (.aload_n 0, 1) := by decide +kernel
theorem dX7_recordsOf_31 : decode cX7_recordsOf 31 = .ok (.getfield 117, 3) := by decide +kernel
theorem dX7_recordsOf_34 : decode cX7_recordsOf 34 = .ok (.goto 7, 3) := by decide +kernel
theorem dX7_recordsOf_37 : decode cX7_recordsOf 37 = .ok (.aload_n 0, 1) := by decide +kernel
theorem dX7_recordsOf_38 : decode cX7_recordsOf 38 = .ok (.getfield 120, 3) := by decide +kernel
theorem dX7_recordsOf_41 : decode cX7_recordsOf 41 = .ok (.ireturn, 1) := by decide +kernel
theorem dX7_page_0 : decode cX7_page 0 = .ok (.iload_n 1, 1) := by decide +kernel
theorem dX7_page_1 : decode cX7_page 1 = .ok (.iconst 0, 1) := by decide +kernel
theorem dX7_page_2 : decode cX7_page 2 = .ok (.iconst 1, 1) := by decide +kernel
theorem dX7_page_3 : decode cX7_page 3 = .ok (.invokestatic 63, 3) := by decide +kernel
theorem dX7_page_6 : decode cX7_page 6 = .ok (.ifCond .ne 5, 3) := by decide +kernel
theorem dX7_page_9 : decode cX7_page 9 = .ok (.iconst (-1), 1) := by decide +kernel
theorem dX7_page_10 : decode cX7_page 10 = .ok (.ireturn, 1) := by decide +kernel
theorem dX7_page_11 : decode cX7_page 11 = .ok (.iload_n 2, 1) := by decide +kernel
theorem dX7_page_12 : decode cX7_page 12 = .ok (.tableswitch 94 0 5 #[40, 50, 60, 74, 81, 88], 40) := by decide +kernel
theorem dX7_page_52 : decode cX7_page 52 = .ok (.aload_n 0, 1) := by decide +kernel
theorem dX7_page_53 : decode cX7_page 53 = .ok (.getfield 7, 3) := by decide +kernel
theorem dX7_page_56 : decode cX7_page 56 = .ok (.bipush 7, 2) := by decide +kernel
theorem dX7_page_58 : decode cX7_page 58 = .ok (.iload_n 1, 1) := by decide +kernel
theorem dX7_page_59 : decode cX7_page 59 = .ok (.iadd, 1) := by decide +kernel
theorem dX7_page_60 : decode cX7_page 60 = .ok (.iaload, 1) := by decide +kernel
theorem dX7_page_61 : decode cX7_page 61 = .ok (.ireturn, 1) := by decide +kernel
theorem dX7_page_62 : decode cX7_page 62 = .ok (.aload_n 0, 1) := by decide +kernel
theorem dX7_page_63 : decode cX7_page 63 = .ok (.getfield 7, 3) := by decide +kernel
theorem dX7_page_66 : decode cX7_page 66 = .ok (.bipush 9, 2) := by decide +kernel
theorem dX7_page_68 : decode cX7_page 68 = .ok (.iload_n 1, 1) := by decide +kernel
theorem dX7_page_69 : decode cX7_page 69 = .ok (.iadd, 1) := by decide +kernel
theorem dX7_page_70 : decode cX7_page 70 = .ok (.iaload, 1) := by decide +kernel
theorem dX7_page_71 : decode cX7_page 71 = .ok (.ireturn, 1) := by decide +kernel
theorem dX7_page_72 : decode cX7_page 72 = .ok (.aload_n 0, 1) := by decide +kernel
theorem dX7_page_73 : decode cX7_page 73 = .ok (.iload_n 1, 1) := by decide +kernel
theorem dX7_page_74 : decode cX7_page 74 = .ok (.invokevirtual 129, 3) := by decide +kernel
theorem dX7_page_77 : decode cX7_page 77 = .ok (.ifCond .eq 7, 3) := by decide +kernel
theorem dX7_page_80 : decode cX7_page 80 = .ok (.iconst 1, 1) := by decide +kernel
theorem dX7_page_81 : decode cX7_page 81 = .ok (.goto 4, 3) := by decide +kernel
theorem dX7_page_84 : decode cX7_page 84 = .ok (.iconst 0, 1) := by decide +kernel
theorem dX7_page_85 : decode cX7_page 85 = .ok (.ireturn, 1) := by decide +kernel
theorem dX7_page_86 : decode cX7_page 86 = .ok (.aload_n 0, 1) := by decide +kernel
theorem dX7_page_87 : decode cX7_page 87 = .ok (.iload_n 1, 1) := by decide +kernel
theorem dX7_page_88 : decode cX7_page 88 = .ok (.iconst 1, 1) := by decide +kernel
theorem dX7_page_89 : decode cX7_page 89 = .ok (.invokevirtual 181, 3) := by decide +kernel
theorem dX7_page_92 : decode cX7_page 92 = .ok (.ireturn, 1) := by decide +kernel
theorem dX7_page_93 : decode cX7_page 93 = .ok (.aload_n 0, 1) := by decide +kernel
theorem dX7_page_94 : decode cX7_page 94 = .ok (.iload_n 1, 1) := by decide +kernel
theorem dX7_page_95 : decode cX7_page 95 = .ok (.iconst 0, 1) := by decide +kernel
theorem dX7_page_96 : decode cX7_page 96 = .ok (.invokevirtual 181, 3) := by decide +kernel
theorem dX7_page_99 : decode cX7_page 99 = .ok (.ireturn, 1) := by decide +kernel
theorem dX7_page_100 : decode cX7_page 100 = .ok (.aload_n 0, 1) := by decide +kernel
theorem dX7_page_101 : decode cX7_page 101 = .ok (.iload_n 1, 1) := by decide +kernel
theorem dX7_page_102 : decode cX7_page 102 = .ok (.invokevirtual 185, 3) := by decide +kernel
theorem dX7_page_105 : decode cX7_page 105 = .ok (.ireturn, 1) := by decide +kernel
theorem dX7_page_106 : decode cX7_page 106 = .ok (.bipush (-2), 2) := by decide +kernel
theorem dX7_page_108 : decode cX7_page 108 = .ok (.ireturn, 1) := by decide +kernel
theorem dX7_settings_0 : decode cX7_settings 0 = .ok (.iconst 0, 1) := by decide +kernel
theorem dX7_settings_1 : decode cX7_settings 1 = .ok (.istore_n 2, 1) := by decide +kernel
theorem dX7_settings_2 : decode cX7_settings 2 = .ok (.iconst 0, 1) := by decide +kernel
theorem dX7_settings_3 : decode cX7_settings 3 = .ok (.istore_n 3, 1) := by decide +kernel
theorem dX7_settings_4 : decode cX7_settings 4 = .ok (.iload_n 3, 1) := by decide +kernel
theorem dX7_settings_5 : decode cX7_settings 5 = .ok (.bipush 10, 2) := by decide +kernel
theorem dX7_settings_7 : decode cX7_settings 7 = .ok (.if_icmp .ge 69, 3) := by decide +kernel
theorem dX7_settings_10 : decode cX7_settings 10 = .ok (.aload_n 0, 1) := by decide +kernel
theorem dX7_settings_11 : decode cX7_settings 11 = .ok (.iload_n 3, 1) := by decide +kernel
theorem dX7_settings_12 : decode cX7_settings 12 = .ok (.invokevirtual 143, 3) := by decide +kernel
theorem dX7_settings_15 : decode cX7_settings 15 = .ok (.ifCond .eq 39, 3) := by decide +kernel
theorem dX7_settings_18 : decode cX7_settings 18 = .ok (.iload_n 1, 1) := by decide +kernel
theorem dX7_settings_19 : decode cX7_settings 19 = .ok (.ifCond .eq 31, 3) := by decide +kernel
theorem dX7_settings_22 : decode cX7_settings 22 = .ok (.aload_n 0, 1) := by decide +kernel
theorem dX7_settings_23 : decode cX7_settings 23 = .ok (.getfield 7, 3) := by decide +kernel
theorem dX7_settings_26 : decode cX7_settings 26 = .ok (.bipush 11, 2) := by decide +kernel
theorem dX7_settings_28 : decode cX7_settings 28 = .ok (.iload_n 3, 1) := by decide +kernel
theorem dX7_settings_29 : decode cX7_settings 29 = .ok (.iadd, 1) := by decide +kernel
theorem dX7_settings_30 : decode cX7_settings 30 = .ok (.iaload, 1) := by decide +kernel
theorem dX7_settings_31 : decode cX7_settings 31 = .ok (.aload_n 0, 1) := by decide +kernel
theorem dX7_settings_32 : decode cX7_settings 32 = .ok (.getfield 32, 3) := by decide +kernel
theorem dX7_settings_35 : decode cX7_settings 35 = .ok (.bipush 10, 2) := by decide +kernel
theorem dX7_settings_37 : decode cX7_settings 37 = .ok (.aload_n 0, 1) := by decide +kernel
theorem dX7_settings_38 : decode cX7_settings 38 = .ok (.getfield 7, 3) := by decide +kernel
theorem dX7_settings_41 : decode cX7_settings 41 = .ok (.iconst 3, 1) := by decide +kernel
theorem dX7_settings_42 : decode cX7_settings 42 = .ok (.iaload, 1) := by decide +kernel
theorem dX7_settings_43 : decode cX7_settings 43 = .ok (.imul, 1) := by decide +kernel
theorem dX7_settings_44 : decode cX7_settings 44 = .ok (.iload_n 3, 1) := by decide +kernel
theorem dX7_settings_45 : decode cX7_settings 45 = .ok (.iadd, 1) := by decide +kernel
theorem dX7_settings_46 : decode cX7_settings 46 = .ok (.iaload, 1) := by decide +kernel
theorem dX7_settings_47 : decode cX7_settings 47 = .ok (.if_icmp .eq 7, 3) := by decide +kernel
theorem dX7_settings_50 : decode cX7_settings 50 = .ok (.iconst 1, 1) := by decide +kernel
theorem dX7_settings_51 : decode cX7_settings 51 = .ok (.goto 4, 3) := by decide +kernel
theorem dX7_settings_54 : decode cX7_settings 54 = .ok (.iconst 0, 1) := by decide +kernel
theorem dX7_settings_55 : decode cX7_settings 55 = .ok (.istore 4, 2) := by decide +kernel
theorem dX7_settings_57 : decode cX7_settings 57 = .ok (.iload_n 2, 1) := by decide +kernel
theorem dX7_settings_58 : decode cX7_settings 58 = .ok (.iload 4, 2) := by decide +kernel
theorem dX7_settings_60 : decode cX7_settings 60 = .ok (.ifCond .eq 7, 3) := by decide +kernel
theorem dX7_settings_63 : decode cX7_settings 63 = .ok (.iconst 1, 1) := by decide +kernel
theorem dX7_settings_64 : decode cX7_settings 64 = .ok (.goto 4, 3) := by decide +kernel
theorem dX7_settings_67 : decode cX7_settings 67 = .ok (.iconst 0, 1) := by decide +kernel
theorem dX7_settings_68 : decode cX7_settings 68 = .ok (.iadd, 1) := by decide +kernel
theorem dX7_settings_69 : decode cX7_settings 69 = .ok (.istore_n 2, 1) := by decide +kernel
theorem dX7_settings_70 : decode cX7_settings 70 = .ok (.iinc 3 1, 3) := by decide +kernel
theorem dX7_settings_73 : decode cX7_settings 73 = .ok (.goto (-69), 3) := by decide +kernel
theorem dX7_settings_76 : decode cX7_settings 76 = .ok (.iload_n 2, 1) := by decide +kernel
theorem dX7_settings_77 : decode cX7_settings 77 = .ok (.ireturn, 1) := by decide +kernel
theorem dX7_state_0 : decode cX7_state 0 = .ok (.iload_n 1, 1) := by decide +kernel
theorem dX7_state_1 : decode cX7_state 1 = .ok (.tableswitch 189 0 12 #[67, 74, 81, 88, 95, 120, 128, 134, 140, 145, 152, 168, 184], 67) := by decide +kernel
theorem dX7_state_68 : decode cX7_state 68 = .ok (.aload_n 0, 1) := by decide +kernel
theorem dX7_state_69 : decode cX7_state 69 = .ok (.getfield 7, 3) := by decide +kernel
theorem dX7_state_72 : decode cX7_state 72 = .ok (.iconst 0, 1) := by decide +kernel
theorem dX7_state_73 : decode cX7_state 73 = .ok (.iaload, 1) := by decide +kernel
theorem dX7_state_74 : decode cX7_state 74 = .ok (.ireturn, 1) := by decide +kernel
theorem dX7_state_75 : decode cX7_state 75 = .ok (.aload_n 0, 1) := by decide +kernel
theorem dX7_state_76 : decode cX7_state 76 = .ok (.getfield 7, 3) := by decide +kernel
theorem dX7_state_79 : decode cX7_state 79 = .ok (.iconst 2, 1) := by decide +kernel
theorem dX7_state_80 : decode cX7_state 80 = .ok (.iaload, 1) := by decide +kernel
theorem dX7_state_81 : decode cX7_state 81 = .ok (.ireturn, 1) := by decide +kernel
theorem dX7_state_82 : decode cX7_state 82 = .ok (.aload_n 0, 1) := by decide +kernel
theorem dX7_state_83 : decode cX7_state 83 = .ok (.getfield 7, 3) := by decide +kernel
theorem dX7_state_86 : decode cX7_state 86 = .ok (.iconst 3, 1) := by decide +kernel
theorem dX7_state_87 : decode cX7_state 87 = .ok (.iaload, 1) := by decide +kernel
theorem dX7_state_88 : decode cX7_state 88 = .ok (.ireturn, 1) := by decide +kernel
theorem dX7_state_89 : decode cX7_state 89 = .ok (.aload_n 0, 1) := by decide +kernel
theorem dX7_state_90 : decode cX7_state 90 = .ok (.getfield 7, 3) := by decide +kernel
theorem dX7_state_93 : decode cX7_state 93 = .ok (.iconst 4, 1) := by decide +kernel
theorem dX7_state_94 : decode cX7_state 94 = .ok (.iaload, 1) := by decide +kernel
theorem dX7_state_95 : decode cX7_state 95 = .ok (.ireturn, 1) := by decide +kernel
theorem dX7_state_96 : decode cX7_state 96 = .ok (.aload_n 0, 1) := by decide +kernel
theorem dX7_state_97 : decode cX7_state 97 = .ok (.getfield 7, 3) := by decide +kernel
theorem dX7_state_100 : decode cX7_state 100 = .ok (.iconst 2, 1) := by decide +kernel
theorem dX7_state_101 : decode cX7_state 101 = .ok (.iaload, 1) := by decide +kernel
theorem dX7_state_102 : decode cX7_state 102 = .ok (.ifCond .ge 7, 3) := by decide +kernel
theorem dX7_state_105 : decode cX7_state 105 = .ok (.iconst 0, 1) := by decide +kernel
theorem dX7_state_106 : decode cX7_state 106 = .ok (.goto 14, 3) := by decide +kernel
theorem dX7_state_109 : decode cX7_state 109 = .ok (.bipush 48, 2) := by decide +kernel
theorem dX7_state_111 : decode cX7_state 111 = .ok (.aload_n 0, 1) := by decide +kernel
theorem dX7_state_112 : decode cX7_state 112 = .ok (.getfield 7, 3) := by decide +kernel
theorem dX7_state_115 : decode cX7_state 115 = .ok (.iconst 5, 1) := by decide +kernel
theorem dX7_state_116 : decode cX7_state 116 = .ok (.iaload, 1) := by decide +kernel
theorem dX7_state_117 : decode cX7_state 117 = .ok (.isub, 1) := by decide +kernel
theorem dX7_state_118 : decode cX7_state 118 = .ok (.iconst 3, 1) := by decide +kernel
theorem dX7_state_119 : decode cX7_state 119 = .ok (.idiv, 1) := by decide +kernel
theorem dX7_state_120 : decode cX7_state 120 = .ok (.ireturn, 1) := by decide +kernel
theorem dX7_state_121 : decode cX7_state 121 = .ok (.aload_n 0, 1) := by decide +kernel
theorem dX7_state_122 : decode cX7_state 122 = .ok (.getfield 7, 3) := by decide +kernel
theorem dX7_state_125 : decode cX7_state 125 = .ok (.bipush 6, 2) := by decide +kernel
theorem dX7_state_127 : decode cX7_state 127 = .ok (.iaload, 1) := by decide +kernel
theorem dX7_state_128 : decode cX7_state 128 = .ok (.ireturn, 1) := by decide +kernel
theorem dX7_state_129 : decode cX7_state 129 = .ok (.aload_n 0, 1) := by decide +kernel
theorem dX7_state_130 : decode cX7_state 130 = .ok (.iconst 0, 1) := by decide +kernel
theorem dX7_state_131 : decode cX7_state 131 = .ok (.invokevirtual 188, 3) := by decide +kernel
theorem dX7_state_134 : decode cX7_state 134 = .ok (.ireturn, 1) := by decide +kernel
theorem dX7_state_135 : decode cX7_state 135 = .ok (.aload_n 0, 1) := by decide +kernel
theorem dX7_state_136 : decode cX7_state 136 = .ok (.iconst 1, 1) := by decide +kernel
theorem dX7_state_137 : decode cX7_state 137 = .ok (.invokevirtual 188, 3) := by decide +kernel
theorem dX7_state_140 : decode cX7_state 140 = .ok (.ireturn, 1) := by decide +kernel
theorem dX7_state_141 : decode cX7_state 141 = .ok (.aload_n 0, 1) := by decide +kernel
theorem dX7_state_142 : decode cX7_state 142 = .ok (.getfield 59, 3) := by decide +kernel
theorem dX7_state_145 : decode cX7_state 145 = .ok (.ireturn, 1) := by decide +kernel
theorem dX7_state_146 : decode cX7_state 146 = .ok (.aload_n 0, 1) := by decide +kernel
theorem dX7_state_147 : decode cX7_state 147 = .ok (.getfield 7, 3) := by decide +kernel
theorem dX7_state_150 : decode cX7_state 150 = .ok (.iconst 1, 1) := by decide +kernel
theorem dX7_state_151 : decode cX7_state 151 = .ok (.iaload, 1) := by decide +kernel
theorem dX7_state_152 : decode cX7_state 152 = .ok (.ireturn, 1) := by decide +kernel
theorem dX7_state_153 : decode cX7_state 153 = .ok (.aload_n 0, 1) := by decide +kernel
theorem dX7_state_154 : decode cX7_state 154 = .ok (.getfield 7, 3) := by decide +kernel
theorem dX7_state_157 : decode cX7_state 157 = .ok (.bipush 7, 2) := by decide +kernel
theorem dX7_state_159 : decode cX7_state 159 = .ok (.iaload, 1) := by decide +kernel
theorem dX7_state_160 : decode cX7_state 160 = .ok (.aload_n 0, 1) := by decide +kernel
theorem dX7_state_161 : decode cX7_state 161 = .ok (.getfield 7, 3) := by decide +kernel
theorem dX7_state_164 : decode cX7_state 164 = .ok (.bipush 8, 2) := by decide +kernel
theorem dX7_state_166 : decode cX7_state 166 = .ok (.iaload, 1) := by decide +kernel
theorem dX7_state_167 : decode cX7_state 167 = .ok (.iadd, 1) := by decide +kernel
theorem dX7_state_168 : decode cX7_state 168 = .ok (.ireturn, 1) := by decide +kernel
theorem dX7_state_169 : decode cX7_state 169 = .ok (.aload_n 0, 1) := by decide +kernel
theorem dX7_state_170 : decode cX7_state 170 = .ok (.getfield 7, 3) := by decide +kernel
theorem dX7_state_173 : decode cX7_state 173 = .ok (.bipush 9, 2) := by decide +kernel
theorem dX7_state_175 : decode cX7_state 175 = .ok (.iaload, 1) := by decide +kernel
theorem dX7_state_176 : decode cX7_state 176 = .ok (.aload_n 0, 1) := by decide +kernel
theorem dX7_state_177 : decode cX7_state 177 = .ok (.getfield 7, 3) := by decide +kernel
theorem dX7_state_180 : decode cX7_state 180 = .ok (.bipush 10, 2) := by decide +kernel
theorem dX7_state_182 : decode cX7_state 182 = .ok (.iaload, 1) := by decide +kernel
theorem dX7_state_183 : decode cX7_state 183 = .ok (.iadd, 1) := by decide +kernel
theorem dX7_state_184 : decode cX7_state 184 = .ok (.ireturn, 1) := by decide +kernel
theorem dX7_state_185 : decode cX7_state 185 = .ok (.aload_n 0, 1) := by decide +kernel
theorem dX7_state_186 : decode cX7_state 186 = .ok (.getfield 94, 3) := by decide +kernel
theorem dX7_state_189 : decode cX7_state 189 = .ok (.ireturn, 1) := by decide +kernel
theorem dX7_state_190 : decode cX7_state 190 = .ok (.bipush (-2), 2) := by decide +kernel
theorem dX7_state_192 : decode cX7_state 192 = .ok (.ireturn, 1) := by decide +kernel
theorem dX7_record_0 : decode cX7_record 0 = .ok (.aload_n 0, 1) := by decide +kernel
theorem dX7_record_1 : decode cX7_record 1 = .ok (.getfield 7, 3) := by decide +kernel
theorem dX7_record_4 : decode cX7_record 4 = .ok (.iconst 0, 1) := by decide +kernel
theorem dX7_record_5 : decode cX7_record 5 = .ok (.iaload, 1) := by decide +kernel
theorem dX7_record_6 : decode cX7_record 6 = .ok (.ifCond .ne 6, 3) := by decide +kernel
theorem dX7_record_9 : decode cX7_record 9 = .ok (.bipush (-5), 2) := by decide +kernel
theorem dX7_record_11 : decode cX7_record 11 = .ok (.ireturn, 1) := by decide +kernel
theorem dX7_record_12 : decode cX7_record 12 = .ok (.aload_n 0, 1) := by decide +kernel
theorem dX7_record_13 : decode cX7_record 13 = .ok (.iload_n 1, 1) := by decide +kernel
theorem dX7_record_14 : decode cX7_record 14 = .ok (.invokevirtual 143, 3) := by decide +kernel
theorem dX7_record_17 : decode cX7_record 17 = .ok (.ifCond .eq 15, 3) := by decide +kernel
theorem dX7_record_20 : decode cX7_record 20 = .ok (.aload_n 0, 1) := by decide +kernel
theorem dX7_record_21 : decode cX7_record 21 = .ok (.getfield 7, 3) := by decide +kernel
theorem dX7_record_24 : decode cX7_record 24 = .ok (.bipush 117, 2) := by decide +kernel
theorem dX7_record_26 : decode cX7_record 26 = .ok (.iload_n 1, 1) := by decide +kernel
theorem dX7_record_27 : decode cX7_record 27 = .ok (.iadd, 1) := by decide +kernel
theorem dX7_record_28 : decode cX7_record 28 = .ok (.iaload, 1) := by decide +kernel
theorem dX7_record_29 : decode cX7_record 29 = .ok (.goto 4, 3) := by decide +kernel
theorem dX7_record_32 : decode cX7_record 32 = .ok (.iconst (-1), 1) := by decide +kernel
theorem dX7_record_33 : decode cX7_record 33 = .ok (.ireturn, 1) := by decide +kernel
theorem dX7_ifMigrated_0 : decode cX7_ifMigrated 0 = .ok (.aload_n 0, 1) := by decide +kernel
theorem dX7_ifMigrated_1 : decode cX7_ifMigrated 1 = .ok (.invokevirtual 168, 3) := by decide +kernel
theorem dX7_ifMigrated_4 : decode cX7_ifMigrated 4 = .ok (.ifCond .eq 6, 3) := by decide +kernel
theorem dX7_ifMigrated_7 : decode cX7_ifMigrated 7 = .ok (.bipush (-5), 2) := by decide +kernel
theorem dX7_ifMigrated_9 : decode cX7_ifMigrated 9 = .ok (.ireturn, 1) := by decide +kernel
theorem dX7_ifMigrated_10 : decode cX7_ifMigrated 10 = .ok (.aload_n 0, 1) := by decide +kernel
theorem dX7_ifMigrated_11 : decode cX7_ifMigrated 11 = .ok (.iload_n 1, 1) := by decide +kernel
theorem dX7_ifMigrated_12 : decode cX7_ifMigrated 12 = .ok (.invokevirtual 97, 3) := by decide +kernel
theorem dX7_ifMigrated_15 : decode cX7_ifMigrated 15 = .ok (.ifCond .eq 12, 3) := by decide +kernel
theorem dX7_ifMigrated_18 : decode cX7_ifMigrated 18 = .ok (.aload_n 0, 1) := by decide +kernel
theorem dX7_ifMigrated_19 : decode cX7_ifMigrated 19 = .ok (.iload_n 1, 1) := by decide +kernel
theorem dX7_ifMigrated_20 : decode cX7_ifMigrated 20 = .ok (.iload_n 2, 1) := by decide +kernel
theorem dX7_ifMigrated_21 : decode cX7_ifMigrated 21 = .ok (.invokevirtual 71, 3) := by decide +kernel
theorem dX7_ifMigrated_24 : decode cX7_ifMigrated 24 = .ok (.ifCond .ne 5, 3) := by decide +kernel
theorem dX7_ifMigrated_27 : decode cX7_ifMigrated 27 = .ok (.iconst (-1), 1) := by decide +kernel
theorem dX7_ifMigrated_28 : decode cX7_ifMigrated 28 = .ok (.ireturn, 1) := by decide +kernel
theorem dX7_ifMigrated_29 : decode cX7_ifMigrated 29 = .ok (.iload_n 1, 1) := by decide +kernel
theorem dX7_ifMigrated_30 : decode cX7_ifMigrated 30 = .ok (.aload_n 0, 1) := by decide +kernel
theorem dX7_ifMigrated_31 : decode cX7_ifMigrated 31 = .ok (.getfield 7, 3) := by decide +kernel
theorem dX7_ifMigrated_34 : decode cX7_ifMigrated 34 = .ok (.iconst 3, 1) := by decide +kernel
theorem dX7_ifMigrated_35 : decode cX7_ifMigrated 35 = .ok (.iaload, 1) := by decide +kernel
theorem dX7_ifMigrated_36 : decode cX7_ifMigrated 36 = .ok (.if_icmp .gt 6, 3) := by decide +kernel
theorem dX7_ifMigrated_39 : decode cX7_ifMigrated 39 = .ok (.bipush (-2), 2) := by decide +kernel
theorem dX7_ifMigrated_41 : decode cX7_ifMigrated 41 = .ok (.ireturn, 1) := by decide +kernel
theorem dX7_ifMigrated_42 : decode cX7_ifMigrated 42 = .ok (.aload_n 0, 1) := by decide +kernel
theorem dX7_ifMigrated_43 : decode cX7_ifMigrated 43 = .ok (.iload_n 1, 1) := by decide +kernel
theorem dX7_ifMigrated_44 : decode cX7_ifMigrated 44 = .ok (.invokevirtual 175, 3) := by decide +kernel
theorem dX7_ifMigrated_47 : decode cX7_ifMigrated 47 = .ok (.aload_n 0, 1) := by decide +kernel
theorem dX7_ifMigrated_48 : decode cX7_ifMigrated 48 = .ok (.getfield 53, 3) := by decide +kernel
theorem dX7_ifMigrated_51 : decode cX7_ifMigrated 51 = .ok (.iload_n 2, 1) := by decide +kernel
theorem dX7_ifMigrated_52 : decode cX7_ifMigrated 52 = .ok (.iaload, 1) := by decide +kernel
theorem dX7_ifMigrated_53 : decode cX7_ifMigrated 53 = .ok (.ireturn, 1) := by decide +kernel
theorem dX7_ifFailed_0 : decode cX7_ifFailed 0 = .ok (.aload_n 0, 1) := by decide +kernel
theorem dX7_ifFailed_1 : decode cX7_ifFailed 1 = .ok (.getfield 7, 3) := by decide +kernel
theorem dX7_ifFailed_4 : decode cX7_ifFailed 4 = .ok (.iconst 0, 1) := by decide +kernel
theorem dX7_ifFailed_5 : decode cX7_ifFailed 5 = .ok (.iaload, 1) := by decide +kernel
theorem dX7_ifFailed_6 : decode cX7_ifFailed 6 = .ok (.ifCond .ne 6, 3) := by decide +kernel
theorem dX7_ifFailed_9 : decode cX7_ifFailed 9 = .ok (.bipush (-5), 2) := by decide +kernel
theorem dX7_ifFailed_11 : decode cX7_ifFailed 11 = .ok (.ireturn, 1) := by decide +kernel
theorem dX7_ifFailed_12 : decode cX7_ifFailed 12 = .ok (.aload_n 0, 1) := by decide +kernel
theorem dX7_ifFailed_13 : decode cX7_ifFailed 13 = .ok (.iload_n 1, 1) := by decide +kernel
theorem dX7_ifFailed_14 : decode cX7_ifFailed 14 = .ok (.invokevirtual 143, 3) := by decide +kernel
theorem dX7_ifFailed_17 : decode cX7_ifFailed 17 = .ok (.ifCond .eq 12, 3) := by decide +kernel
theorem dX7_ifFailed_20 : decode cX7_ifFailed 20 = .ok (.aload_n 0, 1) := by decide +kernel
theorem dX7_ifFailed_21 : decode cX7_ifFailed 21 = .ok (.iload 4, 2) := by decide +kernel
theorem dX7_ifFailed_23 : decode cX7_ifFailed 23 = .ok (.invokevirtual 143, 3) := by decide +kernel
theorem dX7_ifFailed_26 : decode cX7_ifFailed 26 = .ok (.ifCond .ne 5, 3) := by decide +kernel
theorem dX7_ifFailed_29 : decode cX7_ifFailed 29 = .ok (.iconst (-1), 1) := by decide +kernel
theorem dX7_ifFailed_30 : decode cX7_ifFailed 30 = .ok (.ireturn, 1) := by decide +kernel
theorem dX7_ifFailed_31 : decode cX7_ifFailed 31 = .ok (.aload_n 0, 1) := by decide +kernel
theorem dX7_ifFailed_32 : decode cX7_ifFailed 32 = .ok (.iload_n 1, 1) := by decide +kernel
theorem dX7_ifFailed_33 : decode cX7_ifFailed 33 = .ok (.iload_n 2, 1) := by decide +kernel
theorem dX7_ifFailed_34 : decode cX7_ifFailed 34 = .ok (.invokevirtual 162, 3) := by decide +kernel
theorem dX7_ifFailed_37 : decode cX7_ifFailed 37 = .ok (.ifCond .eq 14, 3) := by decide +kernel
theorem dX7_ifFailed_40 : decode cX7_ifFailed 40 = .ok (.iload_n 3, 1) := by decide +kernel
theorem dX7_ifFailed_41 : decode cX7_ifFailed 41 = .ok (.iconst 0, 1) := by decide +kernel
theorem dX7_ifFailed_42 : decode cX7_ifFailed 42 = .ok (.sipush 200, 3) := by decide +kernel
theorem dX7_ifFailed_45 : decode cX7_ifFailed 45 = .ok (.invokestatic 63, 3) := by decide +kernel
theorem dX7_ifFailed_48 : decode cX7_ifFailed 48 = .ok (.ifCond .ne 6, 3) := by decide +kernel
theorem dX7_ifFailed_51 : decode cX7_ifFailed 51 = .ok (.bipush (-2), 2) := by decide +kernel
theorem dX7_ifFailed_53 : decode cX7_ifFailed 53 = .ok (.ireturn, 1) := by decide +kernel
theorem dX7_ifFailed_54 : decode cX7_ifFailed 54 = .ok (.iconst 0, 1) := by decide +kernel
theorem dX7_ifFailed_55 : decode cX7_ifFailed 55 = .ok (.istore 5, 2) := by decide +kernel
theorem dX7_ifFailed_57 : decode cX7_ifFailed 57 = .ok (.iload 5, 2) := by decide +kernel
theorem dX7_ifFailed_59 : decode cX7_ifFailed 59 = .ok (.bipush 127, 2) := by decide +kernel
theorem dX7_ifFailed_61 : decode cX7_ifFailed 61 = .ok (.if_icmp .ge 23, 3) := by decide +kernel
theorem dX7_ifFailed_64 : decode cX7_ifFailed 64 = .ok (.aload_n 0, 1) := by decide +kernel
theorem dX7_ifFailed_65 : decode cX7_ifFailed 65 = .ok (.getfield 13, 3) := by decide +kernel
theorem dX7_ifFailed_68 : decode cX7_ifFailed 68 = .ok (.iload 5, 2) := by decide +kernel
theorem dX7_ifFailed_70 : decode cX7_ifFailed 70 = .ok (.aload_n 0, 1) := by decide +kernel
theorem dX7_ifFailed_71 : decode cX7_ifFailed 71 = .ok (.getfield 7, 3) := by decide +kernel
theorem dX7_ifFailed_74 : decode cX7_ifFailed 74 = .ok (.iload 5, 2) := by decide +kernel
theorem dX7_ifFailed_76 : decode cX7_ifFailed 76 = .ok (.iaload, 1) := by decide +kernel
theorem dX7_ifFailed_77 : decode cX7_ifFailed 77 = .ok (.iastore, 1) := by decide +kernel
theorem dX7_ifFailed_78 : decode cX7_ifFailed 78 = .ok (.iinc 5 1, 3) := by decide +kernel
theorem dX7_ifFailed_81 : decode cX7_ifFailed 81 = .ok (.goto (-24), 3) := by decide +kernel
theorem dX7_ifFailed_84 : decode cX7_ifFailed 84 = .ok (.aload_n 0, 1) := by decide +kernel
theorem dX7_ifFailed_85 : decode cX7_ifFailed 85 = .ok (.getfield 7, 3) := by decide +kernel
theorem dX7_ifFailed_88 : decode cX7_ifFailed 88 = .ok (.iconst 1, 1) := by decide +kernel
theorem dX7_ifFailed_89 : decode cX7_ifFailed 89 = .ok (.iload_n 3, 1) := by decide +kernel
theorem dX7_ifFailed_90 : decode cX7_ifFailed 90 = .ok (.iastore, 1) := by decide +kernel
theorem dX7_ifFailed_91 : decode cX7_ifFailed 91 = .ok (.aload_n 0, 1) := by decide +kernel
theorem dX7_ifFailed_92 : decode cX7_ifFailed 92 = .ok (.iload_n 1, 1) := by decide +kernel
theorem dX7_ifFailed_93 : decode cX7_ifFailed 93 = .ok (.iload_n 2, 1) := by decide +kernel
theorem dX7_ifFailed_94 : decode cX7_ifFailed 94 = .ok (.invokevirtual 165, 3) := by decide +kernel
theorem dX7_ifFailed_97 : decode cX7_ifFailed 97 = .ok (.aload_n 0, 1) := by decide +kernel
theorem dX7_ifFailed_98 : decode cX7_ifFailed 98 = .ok (.invokevirtual 192, 3) := by decide +kernel
theorem dX7_ifFailed_101 : decode cX7_ifFailed 101 = .ok (.istore 5, 2) := by decide +kernel
theorem dX7_ifFailed_103 : decode cX7_ifFailed 103 = .ok (.iload 5, 2) := by decide +kernel
theorem dX7_ifFailed_105 : decode cX7_ifFailed 105 = .ok (.ifCond .lt 12, 3) := by decide +kernel
theorem dX7_ifFailed_108 : decode cX7_ifFailed 108 = .ok (.aload_n 0, 1) := by decide +kernel
theorem dX7_ifFailed_109 : decode cX7_ifFailed 109 = .ok (.iload 4, 2) := by decide +kernel
theorem dX7_ifFailed_111 : decode cX7_ifFailed 111 = .ok (.invokevirtual 143, 3) := by decide +kernel
theorem dX7_ifFailed_114 : decode cX7_ifFailed 114 = .ok (.ifCond .ne 8, 3) := by decide +kernel
theorem dX7_ifFailed_117 : decode cX7_ifFailed 117 = .ok (.bipush (-6), 2) := by decide +kernel
theorem dX7_ifFailed_119 : decode cX7_ifFailed 119 = .ok (.goto 13, 3) := by decide +kernel
theorem dX7_ifFailed_122 : decode cX7_ifFailed 122 = .ok (.aload_n 0, 1) := by decide +kernel
theorem dX7_ifFailed_123 : decode cX7_ifFailed 123 = .ok (.getfield 7, 3) := by decide +kernel
theorem dX7_ifFailed_126 : decode cX7_ifFailed 126 = .ok (.bipush 11, 2) := by decide +kernel
theorem dX7_ifFailed_128 : decode cX7_ifFailed 128 = .ok (.iload 4, 2) := by decide +kernel
theorem dX7_ifFailed_130 : decode cX7_ifFailed 130 = .ok (.iadd, 1) := by decide +kernel
theorem dX7_ifFailed_131 : decode cX7_ifFailed 131 = .ok (.iaload, 1) := by decide +kernel
theorem dX7_ifFailed_132 : decode cX7_ifFailed 132 = .ok (.istore 6, 2) := by decide +kernel
theorem dX7_ifFailed_134 : decode cX7_ifFailed 134 = .ok (.iconst 0, 1) := by decide +kernel
theorem dX7_ifFailed_135 : decode cX7_ifFailed 135 = .ok (.istore 7, 2) := by decide +kernel
theorem dX7_ifFailed_137 : decode cX7_ifFailed 137 = .ok (.iload 7, 2) := by decide +kernel
theorem dX7_ifFailed_139 : decode cX7_ifFailed 139 = .ok (.bipush 127, 2) := by decide +kernel
theorem dX7_ifFailed_141 : decode cX7_ifFailed 141 = .ok (.if_icmp .ge 23, 3) := by decide +kernel
theorem dX7_ifFailed_144 : decode cX7_ifFailed 144 = .ok (.aload_n 0, 1) := by decide +kernel
theorem dX7_ifFailed_145 : decode cX7_ifFailed 145 = .ok (.getfield 7, 3) := by decide +kernel
theorem dX7_ifFailed_148 : decode cX7_ifFailed 148 = .ok (.iload 7, 2) := by decide +kernel
theorem dX7_ifFailed_150 : decode cX7_ifFailed 150 = .ok (.aload_n 0, 1) := by decide +kernel
theorem dX7_ifFailed_151 : decode cX7_ifFailed 151 = .ok (.getfield 13, 3) := by decide +kernel
theorem dX7_ifFailed_154 : decode cX7_ifFailed 154 = .ok (.iload 7, 2) := by decide +kernel
theorem dX7_ifFailed_156 : decode cX7_ifFailed 156 = .ok (.iaload, 1) := by decide +kernel
theorem dX7_ifFailed_157 : decode cX7_ifFailed 157 = .ok (.iastore, 1) := by decide +kernel
theorem dX7_ifFailed_158 : decode cX7_ifFailed 158 = .ok (.iinc 7 1, 3) := by decide +kernel
theorem dX7_ifFailed_161 : decode cX7_ifFailed 161 = .ok (.goto (-24), 3) := by decide +kernel
theorem dX7_ifFailed_164 : decode cX7_ifFailed 164 = .ok (.iload 6, 2) := by decide +kernel
theorem dX7_ifFailed_166 : decode cX7_ifFailed 166 = .ok (.ireturn, 1) := by decide +kernel
theorem dX7_put_0 : decode cX7_put 0 = .ok (.iconst 0, 1) := by decide +kernel
theorem dX7_put_1 : decode cX7_put 1 = .ok (.istore_n 3, 1) := by decide +kernel
theorem dX7_put_2 : decode cX7_put 2 = .ok (.lload_n 1, 1) := by decide +kernel
theorem dX7_put_3 : decode cX7_put 3 = .ok (.lstore 4, 2) := by decide +kernel
theorem dX7_put_5 : decode cX7_put 5 = .ok (.iload_n 3, 1) := by decide +kernel
theorem dX7_put_6 : decode cX7_put 6 = .ok (.bipush 8, 2) := by decide +kernel
theorem dX7_put_8 : decode cX7_put 8 = .ok (.if_icmp .ge 47, 3) := by decide +kernel
theorem dX7_put_11 : decode cX7_put 11 = .ok (.lload 4, 2) := by decide +kernel
theorem dX7_put_13 : decode cX7_put 13 = .ok (.ldc2_w 195, 3) := by decide +kernel
theorem dX7_put_16 : decode cX7_put 16 = .ok (.land, 1) := by decide +kernel
theorem dX7_put_17 : decode cX7_put 17 = .ok (.lconst 0, 1) := by decide +kernel
theorem dX7_put_18 : decode cX7_put 18 = .ok (.lcmp, 1) := by decide +kernel
theorem dX7_put_19 : decode cX7_put 19 = .ok (.ifCond .eq 36, 3) := by decide +kernel
theorem dX7_put_22 : decode cX7_put 22 = .ok (.lload 4, 2) := by decide +kernel
theorem dX7_put_24 : decode cX7_put 24 = .ok (.ldc2_w 195, 3) := by decide +kernel
theorem dX7_put_27 : decode cX7_put 27 = .ok (.land, 1) := by decide +kernel
theorem dX7_put_28 : decode cX7_put 28 = .ok (.l2i, 1) := by decide +kernel
theorem dX7_put_29 : decode cX7_put 29 = .ok (.bipush 33, 2) := by decide +kernel
theorem dX7_put_31 : decode cX7_put 31 = .ok (.bipush 126, 2) := by decide +kernel
theorem dX7_put_33 : decode cX7_put 33 = .ok (.invokestatic 63, 3) := by decide +kernel
theorem dX7_put_36 : decode cX7_put 36 = .ok (.ifCond .ne 6, 3) := by decide +kernel
theorem dX7_put_39 : decode cX7_put 39 = .ok (.bipush (-2), 2) := by decide +kernel
theorem dX7_put_41 : decode cX7_put 41 = .ok (.ireturn, 1) := by decide +kernel
theorem dX7_put_42 : decode cX7_put 42 = .ok (.iinc 3 1, 3) := by decide +kernel
theorem dX7_put_45 : decode cX7_put 45 = .ok (.lload 4, 2) := by decide +kernel
theorem dX7_put_47 : decode cX7_put 47 = .ok (.bipush 8, 2) := by decide +kernel
theorem dX7_put_49 : decode cX7_put 49 = .ok (.lushr, 1) := by decide +kernel
theorem dX7_put_50 : decode cX7_put 50 = .ok (.lstore 4, 2) := by decide +kernel
theorem dX7_put_52 : decode cX7_put 52 = .ok (.goto (-47), 3) := by decide +kernel
theorem dX7_put_55 : decode cX7_put 55 = .ok (.iload_n 3, 1) := by decide +kernel
theorem dX7_put_56 : decode cX7_put 56 = .ok (.ifCond .eq 10, 3) := by decide +kernel
theorem dX7_put_59 : decode cX7_put 59 = .ok (.lload 4, 2) := by decide +kernel
theorem dX7_put_61 : decode cX7_put 61 = .ok (.lconst 0, 1) := by decide +kernel
theorem dX7_put_62 : decode cX7_put 62 = .ok (.lcmp, 1) := by decide +kernel
theorem dX7_put_63 : decode cX7_put 63 = .ok (.ifCond .eq 6, 3) := by decide +kernel
theorem dX7_put_66 : decode cX7_put 66 = .ok (.bipush (-2), 2) := by decide +kernel
theorem dX7_put_68 : decode cX7_put 68 = .ok (.ireturn, 1) := by decide +kernel
theorem dX7_put_69 : decode cX7_put 69 = .ok (.aload_n 0, 1) := by decide +kernel
theorem dX7_put_70 : decode cX7_put 70 = .ok (.getfield 94, 3) := by decide +kernel
theorem dX7_put_73 : decode cX7_put 73 = .ok (.iload_n 3, 1) := by decide +kernel
theorem dX7_put_74 : decode cX7_put 74 = .ok (.iadd, 1) := by decide +kernel
theorem dX7_put_75 : decode cX7_put 75 = .ok (.bipush 80, 2) := by decide +kernel
theorem dX7_put_77 : decode cX7_put 77 = .ok (.if_icmp .le 6, 3) := by decide +kernel
theorem dX7_put_80 : decode cX7_put 80 = .ok (.bipush (-4), 2) := by decide +kernel
theorem dX7_put_82 : decode cX7_put 82 = .ok (.ireturn, 1) := by decide +kernel
theorem dX7_put_83 : decode cX7_put 83 = .ok (.iconst 0, 1) := by decide +kernel
theorem dX7_put_84 : decode cX7_put 84 = .ok (.istore 6, 2) := by decide +kernel
theorem dX7_put_86 : decode cX7_put 86 = .ok (.iload 6, 2) := by decide +kernel
theorem dX7_put_88 : decode cX7_put 88 = .ok (.iload_n 3, 1) := by decide +kernel
theorem dX7_put_89 : decode cX7_put 89 = .ok (.if_icmp .ge 37, 3) := by decide +kernel
theorem dX7_put_92 : decode cX7_put 92 = .ok (.aload_n 0, 1) := by decide +kernel
theorem dX7_put_93 : decode cX7_put 93 = .ok (.getfield 23, 3) := by decide +kernel
theorem dX7_put_96 : decode cX7_put 96 = .ok (.aload_n 0, 1) := by decide +kernel
theorem dX7_put_97 : decode cX7_put 97 = .ok (.getfield 94, 3) := by decide +kernel
theorem dX7_put_100 : decode cX7_put 100 = .ok (.iload 6, 2) := by decide +kernel
theorem dX7_put_102 : decode cX7_put 102 = .ok (.iadd, 1) := by decide +kernel
theorem dX7_put_103 : decode cX7_put 103 = .ok (.lload_n 1, 1) := by decide +kernel
theorem dX7_put_104 : decode cX7_put 104 = .ok (.bipush 8, 2) := by decide +kernel
theorem dX7_put_106 : decode cX7_put 106 = .ok (.iload_n 3, 1) := by decide +kernel
theorem dX7_put_107 : decode cX7_put 107 = .ok (.iconst 1, 1) := by decide +kernel
theorem dX7_put_108 : decode cX7_put 108 = .ok (.isub, 1) := by decide +kernel
theorem dX7_put_109 : decode cX7_put 109 = .ok (.iload 6, 2) := by decide +kernel
theorem dX7_put_111 : decode cX7_put 111 = .ok (.isub, 1) := by decide +kernel
theorem dX7_put_112 : decode cX7_put 112 = .ok (.imul, 1) := by decide +kernel
theorem dX7_put_113 : decode cX7_put 113 = .ok (.lshr, 1) := by decide +kernel
theorem dX7_put_114 : decode cX7_put 114 = .ok (.ldc2_w 195, 3) := by decide +kernel
theorem dX7_put_117 : decode cX7_put 117 = .ok (.land, 1) := by decide +kernel
theorem dX7_put_118 : decode cX7_put 118 = .ok (.l2i, 1) := by decide +kernel
theorem dX7_put_119 : decode cX7_put 119 = .ok (.iastore, 1) := by decide +kernel
theorem dX7_put_120 : decode cX7_put 120 = .ok (.iinc 6 1, 3) := by decide +kernel
theorem dX7_put_123 : decode cX7_put 123 = .ok (.goto (-37), 3) := by decide +kernel
theorem dX7_put_126 : decode cX7_put 126 = .ok (.aload_n 0, 1) := by decide +kernel
theorem dX7_put_127 : decode cX7_put 127 = .ok (.dup, 1) := by decide +kernel
theorem dX7_put_128 : decode cX7_put 128 = .ok (.getfield 94, 3) := by decide +kernel
theorem dX7_put_131 : decode cX7_put 131 = .ok (.iload_n 3, 1) := by decide +kernel
theorem dX7_put_132 : decode cX7_put 132 = .ok (.iadd, 1) := by decide +kernel
theorem dX7_put_133 : decode cX7_put 133 = .ok (.putfield 94, 3) := by decide +kernel
theorem dX7_put_136 : decode cX7_put 136 = .ok (.aload_n 0, 1) := by decide +kernel
theorem dX7_put_137 : decode cX7_put 137 = .ok (.getfield 94, 3) := by decide +kernel
theorem dX7_put_140 : decode cX7_put 140 = .ok (.ireturn, 1) := by decide +kernel
theorem dX7_wipe_0 : decode cX7_wipe 0 = .ok (.aload_n 0, 1) := by decide +kernel
theorem dX7_wipe_1 : decode cX7_wipe 1 = .ok (.getfield 94, 3) := by decide +kernel
theorem dX7_wipe_4 : decode cX7_wipe 4 = .ok (.istore_n 1, 1) := by decide +kernel
theorem dX7_wipe_5 : decode cX7_wipe 5 = .ok (.aload_n 0, 1) := by decide +kernel
theorem dX7_wipe_6 : decode cX7_wipe 6 = .ok (.iconst 0, 1) := by decide +kernel
theorem dX7_wipe_7 : decode cX7_wipe 7 = .ok (.putfield 94, 3) := by decide +kernel
theorem dX7_wipe_10 : decode cX7_wipe 10 = .ok (.iload_n 1, 1) := by decide +kernel
theorem dX7_wipe_11 : decode cX7_wipe 11 = .ok (.ireturn, 1) := by decide +kernel
theorem dX7_next_0 : decode cX7_next 0 = .ok (.aload_n 0, 1) := by decide +kernel
theorem dX7_next_1 : decode cX7_next 1 = .ok (.getfield 197, 3) := by decide +kernel
theorem dX7_next_4 : decode cX7_next 4 = .ok (.aload_n 0, 1) := by decide +kernel
end
section
theorem dX7_next_5 : decode cX7_next 5 = .ok (.getfield 94, 3) := by decide +kernel
theorem dX7_next_8 : decode cX7_next 8 = .ok (.if_icmp .ge 15, 3) := by decide +kernel
theorem dX7_next_11 : decode cX7_next 11 = .ok (.aload_n 0, 1) := by decide +kernel
theorem dX7_next_12 : decode cX7_next 12 = .ok (.getfield 23, 3) := by decide +kernel
theorem dX7_next_15 : decode cX7_next 15 = .ok (.aload_n 0, 1) := by decide +kernel
theorem dX7_next_16 : decode cX7_next 16 = .ok (.getfield 197, 3) := by decide +kernel
theorem dX7_next_19 : decode cX7_next 19 = .ok (.iaload, 1) := by decide +kernel
theorem dX7_next_20 : decode cX7_next 20 = .ok (.goto 4, 3) := by decide +kernel
theorem dX7_next_23 : decode cX7_next 23 = .ok (.iconst 0, 1) := by decide +kernel
theorem dX7_next_24 : decode cX7_next 24 = .ok (.ireturn, 1) := by decide +kernel
theorem dX7_takeNumber_0 : decode cX7_takeNumber 0 = .ok (.aload_n 0, 1) := by decide +kernel
theorem dX7_takeNumber_1 : decode cX7_takeNumber 1 = .ok (.aload_n 0, 1) := by decide +kernel
theorem dX7_takeNumber_2 : decode cX7_takeNumber 2 = .ok (.getfield 200, 3) := by decide +kernel
theorem dX7_takeNumber_5 : decode cX7_takeNumber 5 = .ok (.ifCond .ne 17, 3) := by decide +kernel
theorem dX7_takeNumber_8 : decode cX7_takeNumber 8 = .ok (.aload_n 0, 1) := by decide +kernel
theorem dX7_takeNumber_9 : decode cX7_takeNumber 9 = .ok (.invokevirtual 204, 3) := by decide +kernel
theorem dX7_takeNumber_12 : decode cX7_takeNumber 12 = .ok (.bipush 48, 2) := by decide +kernel
theorem dX7_takeNumber_14 : decode cX7_takeNumber 14 = .ok (.bipush 57, 2) := by decide +kernel
theorem dX7_takeNumber_16 : decode cX7_takeNumber 16 = .ok (.invokestatic 63, 3) := by decide +kernel
theorem dX7_takeNumber_19 : decode cX7_takeNumber 19 = .ok (.ifCond .ne 7, 3) := by decide +kernel
theorem dX7_takeNumber_22 : decode cX7_takeNumber 22 = .ok (.iconst 1, 1) := by decide +kernel
theorem dX7_takeNumber_23 : decode cX7_takeNumber 23 = .ok (.goto 4, 3) := by decide +kernel
theorem dX7_takeNumber_26 : decode cX7_takeNumber 26 = .ok (.iconst 0, 1) := by decide +kernel
theorem dX7_takeNumber_27 : decode cX7_takeNumber 27 = .ok (.putfield 200, 3) := by decide +kernel
theorem dX7_takeNumber_30 : decode cX7_takeNumber 30 = .ok (.aload_n 0, 1) := by decide +kernel
theorem dX7_takeNumber_31 : decode cX7_takeNumber 31 = .ok (.getfield 200, 3) := by decide +kernel
theorem dX7_takeNumber_34 : decode cX7_takeNumber 34 = .ok (.ifCond .eq 5, 3) := by decide +kernel
theorem dX7_takeNumber_37 : decode cX7_takeNumber 37 = .ok (.iconst 0, 1) := by decide +kernel
theorem dX7_takeNumber_38 : decode cX7_takeNumber 38 = .ok (.ireturn, 1) := by decide +kernel
theorem dX7_takeNumber_39 : decode cX7_takeNumber 39 = .ok (.aload_n 0, 1) := by decide +kernel
theorem dX7_takeNumber_40 : decode cX7_takeNumber 40 = .ok (.invokevirtual 204, 3) := by decide +kernel
theorem dX7_takeNumber_43 : decode cX7_takeNumber 43 = .ok (.bipush 48, 2) := by decide +kernel
theorem dX7_takeNumber_45 : decode cX7_takeNumber 45 = .ok (.isub, 1) := by decide +kernel
theorem dX7_takeNumber_46 : decode cX7_takeNumber 46 = .ok (.istore_n 1, 1) := by decide +kernel
theorem dX7_takeNumber_47 : decode cX7_takeNumber 47 = .ok (.aload_n 0, 1) := by decide +kernel
theorem dX7_takeNumber_48 : decode cX7_takeNumber 48 = .ok (.dup, 1) := by decide +kernel
theorem dX7_takeNumber_49 : decode cX7_takeNumber 49 = .ok (.getfield 197, 3) := by decide +kernel
theorem dX7_takeNumber_52 : decode cX7_takeNumber 52 = .ok (.iconst 1, 1) := by decide +kernel
theorem dX7_takeNumber_53 : decode cX7_takeNumber 53 = .ok (.iadd, 1) := by decide +kernel
theorem dX7_takeNumber_54 : decode cX7_takeNumber 54 = .ok (.putfield 197, 3) := by decide +kernel
theorem dX7_takeNumber_57 : decode cX7_takeNumber 57 = .ok (.iload_n 1, 1) := by decide +kernel
theorem dX7_takeNumber_58 : decode cX7_takeNumber 58 = .ok (.ifCond .le 61, 3) := by decide +kernel
theorem dX7_takeNumber_61 : decode cX7_takeNumber 61 = .ok (.aload_n 0, 1) := by decide +kernel
theorem dX7_takeNumber_62 : decode cX7_takeNumber 62 = .ok (.invokevirtual 204, 3) := by decide +kernel
theorem dX7_takeNumber_65 : decode cX7_takeNumber 65 = .ok (.bipush 48, 2) := by decide +kernel
theorem dX7_takeNumber_67 : decode cX7_takeNumber 67 = .ok (.bipush 57, 2) := by decide +kernel
theorem dX7_takeNumber_69 : decode cX7_takeNumber 69 = .ok (.invokestatic 63, 3) := by decide +kernel
theorem dX7_takeNumber_72 : decode cX7_takeNumber 72 = .ok (.ifCond .eq 47, 3) := by decide +kernel
theorem dX7_takeNumber_75 : decode cX7_takeNumber 75 = .ok (.bipush 10, 2) := by decide +kernel
theorem dX7_takeNumber_77 : decode cX7_takeNumber 77 = .ok (.iload_n 1, 1) := by decide +kernel
theorem dX7_takeNumber_78 : decode cX7_takeNumber 78 = .ok (.imul, 1) := by decide +kernel
theorem dX7_takeNumber_79 : decode cX7_takeNumber 79 = .ok (.aload_n 0, 1) := by decide +kernel
theorem dX7_takeNumber_80 : decode cX7_takeNumber 80 = .ok (.invokevirtual 204, 3) := by decide +kernel
theorem dX7_takeNumber_83 : decode cX7_takeNumber 83 = .ok (.iadd, 1) := by decide +kernel
theorem dX7_takeNumber_84 : decode cX7_takeNumber 84 = .ok (.bipush 48, 2) := by decide +kernel
theorem dX7_takeNumber_86 : decode cX7_takeNumber 86 = .ok (.isub, 1) := by decide +kernel
theorem dX7_takeNumber_87 : decode cX7_takeNumber 87 = .ok (.sipush 255, 3) := by decide +kernel
theorem dX7_takeNumber_90 : decode cX7_takeNumber 90 = .ok (.if_icmp .gt 29, 3) := by decide +kernel
theorem dX7_takeNumber_93 : decode cX7_takeNumber 93 = .ok (.bipush 10, 2) := by decide +kernel
theorem dX7_takeNumber_95 : decode cX7_takeNumber 95 = .ok (.iload_n 1, 1) := by decide +kernel
theorem dX7_takeNumber_96 : decode cX7_takeNumber 96 = .ok (.imul, 1) := by decide +kernel
theorem dX7_takeNumber_97 : decode cX7_takeNumber 97 = .ok (.aload_n 0, 1) := by decide +kernel
theorem dX7_takeNumber_98 : decode cX7_takeNumber 98 = .ok (.invokevirtual 204, 3) := by decide +kernel
theorem dX7_takeNumber_101 : decode cX7_takeNumber 101 = .ok (.iadd, 1) := by decide +kernel
theorem dX7_takeNumber_102 : decode cX7_takeNumber 102 = .ok (.bipush 48, 2) := by decide +kernel
theorem dX7_takeNumber_104 : decode cX7_takeNumber 104 = .ok (.isub, 1) := by decide +kernel
theorem dX7_takeNumber_105 : decode cX7_takeNumber 105 = .ok (.istore_n 1, 1) := by decide +kernel
theorem dX7_takeNumber_106 : decode cX7_takeNumber 106 = .ok (.aload_n 0, 1) := by decide +kernel
theorem dX7_takeNumber_107 : decode cX7_takeNumber 107 = .ok (.dup, 1) := by decide +kernel
theorem dX7_takeNumber_108 : decode cX7_takeNumber 108 = .ok (.getfield 197, 3) := by decide +kernel
theorem dX7_takeNumber_111 : decode cX7_takeNumber 111 = .ok (.iconst 1, 1) := by decide +kernel
theorem dX7_takeNumber_112 : decode cX7_takeNumber 112 = .ok (.iadd, 1) := by decide +kernel
theorem dX7_takeNumber_113 : decode cX7_takeNumber 113 = .ok (.putfield 197, 3) := by decide +kernel
theorem dX7_takeNumber_116 : decode cX7_takeNumber 116 = .ok (.goto (-59), 3) := by decide +kernel
theorem dX7_takeNumber_119 : decode cX7_takeNumber 119 = .ok (.iload_n 1, 1) := by decide +kernel
theorem dX7_takeNumber_120 : decode cX7_takeNumber 120 = .ok (.ireturn, 1) := by decide +kernel
theorem dX7_takeOne_0 : decode cX7_takeOne 0 = .ok (.aload_n 0, 1) := by decide +kernel
theorem dX7_takeOne_1 : decode cX7_takeOne 1 = .ok (.aload_n 0, 1) := by decide +kernel
theorem dX7_takeOne_2 : decode cX7_takeOne 2 = .ok (.getfield 200, 3) := by decide +kernel
theorem dX7_takeOne_5 : decode cX7_takeOne 5 = .ok (.ifCond .ne 15, 3) := by decide +kernel
theorem dX7_takeOne_8 : decode cX7_takeOne 8 = .ok (.aload_n 0, 1) := by decide +kernel
theorem dX7_takeOne_9 : decode cX7_takeOne 9 = .ok (.invokevirtual 204, 3) := by decide +kernel
theorem dX7_takeOne_12 : decode cX7_takeOne 12 = .ok (.iload_n 1, 1) := by decide +kernel
theorem dX7_takeOne_13 : decode cX7_takeOne 13 = .ok (.iload_n 2, 1) := by decide +kernel
theorem dX7_takeOne_14 : decode cX7_takeOne 14 = .ok (.invokestatic 63, 3) := by decide +kernel
theorem dX7_takeOne_17 : decode cX7_takeOne 17 = .ok (.ifCond .ne 7, 3) := by decide +kernel
theorem dX7_takeOne_20 : decode cX7_takeOne 20 = .ok (.iconst 1, 1) := by decide +kernel
theorem dX7_takeOne_21 : decode cX7_takeOne 21 = .ok (.goto 4, 3) := by decide +kernel
theorem dX7_takeOne_24 : decode cX7_takeOne 24 = .ok (.iconst 0, 1) := by decide +kernel
theorem dX7_takeOne_25 : decode cX7_takeOne 25 = .ok (.putfield 200, 3) := by decide +kernel
theorem dX7_takeOne_28 : decode cX7_takeOne 28 = .ok (.aload_n 0, 1) := by decide +kernel
theorem dX7_takeOne_29 : decode cX7_takeOne 29 = .ok (.getfield 200, 3) := by decide +kernel
theorem dX7_takeOne_32 : decode cX7_takeOne 32 = .ok (.ifCond .eq 5, 3) := by decide +kernel
theorem dX7_takeOne_35 : decode cX7_takeOne 35 = .ok (.iconst 0, 1) := by decide +kernel
theorem dX7_takeOne_36 : decode cX7_takeOne 36 = .ok (.ireturn, 1) := by decide +kernel
theorem dX7_takeOne_37 : decode cX7_takeOne 37 = .ok (.aload_n 0, 1) := by decide +kernel
theorem dX7_takeOne_38 : decode cX7_takeOne 38 = .ok (.dup, 1) := by decide +kernel
theorem dX7_takeOne_39 : decode cX7_takeOne 39 = .ok (.getfield 197, 3) := by decide +kernel
theorem dX7_takeOne_42 : decode cX7_takeOne 42 = .ok (.iconst 1, 1) := by decide +kernel
theorem dX7_takeOne_43 : decode cX7_takeOne 43 = .ok (.iadd, 1) := by decide +kernel
theorem dX7_takeOne_44 : decode cX7_takeOne 44 = .ok (.putfield 197, 3) := by decide +kernel
theorem dX7_takeOne_47 : decode cX7_takeOne 47 = .ok (.aload_n 0, 1) := by decide +kernel
theorem dX7_takeOne_48 : decode cX7_takeOne 48 = .ok (.getfield 23, 3) := by decide +kernel
theorem dX7_takeOne_51 : decode cX7_takeOne 51 = .ok (.aload_n 0, 1) := by decide +kernel
theorem dX7_takeOne_52 : decode cX7_takeOne 52 = .ok (.getfield 197, 3) := by decide +kernel
theorem dX7_takeOne_55 : decode cX7_takeOne 55 = .ok (.iconst 1, 1) := by decide +kernel
theorem dX7_takeOne_56 : decode cX7_takeOne 56 = .ok (.isub, 1) := by decide +kernel
theorem dX7_takeOne_57 : decode cX7_takeOne 57 = .ok (.iaload, 1) := by decide +kernel
theorem dX7_takeOne_58 : decode cX7_takeOne 58 = .ok (.iload_n 1, 1) := by decide +kernel
theorem dX7_takeOne_59 : decode cX7_takeOne 59 = .ok (.isub, 1) := by decide +kernel
theorem dX7_takeOne_60 : decode cX7_takeOne 60 = .ok (.ireturn, 1) := by decide +kernel
theorem dX7_takeChange_0 : decode cX7_takeChange 0 = .ok (.aload_n 0, 1) := by decide +kernel
theorem dX7_takeChange_1 : decode cX7_takeChange 1 = .ok (.invokevirtual 204, 3) := by decide +kernel
theorem dX7_takeChange_4 : decode cX7_takeChange 4 = .ok (.istore_n 1, 1) := by decide +kernel
theorem dX7_takeChange_5 : decode cX7_takeChange 5 = .ok (.aload_n 0, 1) := by decide +kernel
theorem dX7_takeChange_6 : decode cX7_takeChange 6 = .ok (.aload_n 0, 1) := by decide +kernel
theorem dX7_takeChange_7 : decode cX7_takeChange 7 = .ok (.bipush 97, 2) := by decide +kernel
theorem dX7_takeChange_9 : decode cX7_takeChange 9 = .ok (.bipush 106, 2) := by decide +kernel
theorem dX7_takeChange_11 : decode cX7_takeChange 11 = .ok (.invokevirtual 207, 3) := by decide +kernel
theorem dX7_takeChange_14 : decode cX7_takeChange 14 = .ok (.putfield 210, 3) := by decide +kernel
theorem dX7_takeChange_17 : decode cX7_takeChange 17 = .ok (.aload_n 0, 1) := by decide +kernel
theorem dX7_takeChange_18 : decode cX7_takeChange 18 = .ok (.invokevirtual 204, 3) := by decide +kernel
theorem dX7_takeChange_21 : decode cX7_takeChange 21 = .ok (.istore_n 1, 1) := by decide +kernel
theorem dX7_takeChange_22 : decode cX7_takeChange 22 = .ok (.aload_n 0, 1) := by decide +kernel
theorem dX7_takeChange_23 : decode cX7_takeChange 23 = .ok (.iload_n 1, 1) := by decide +kernel
theorem dX7_takeChange_24 : decode cX7_takeChange 24 = .ok (.bipush 62, 2) := by decide +kernel
theorem dX7_takeChange_26 : decode cX7_takeChange 26 = .ok (.if_icmp .ne 7, 3) := by decide +kernel
theorem dX7_takeChange_29 : decode cX7_takeChange 29 = .ok (.iconst 2, 1) := by decide +kernel
theorem dX7_takeChange_30 : decode cX7_takeChange 30 = .ok (.goto 24, 3) := by decide +kernel
theorem dX7_takeChange_33 : decode cX7_takeChange 33 = .ok (.iload_n 1, 1) := by decide +kernel
theorem dX7_takeChange_34 : decode cX7_takeChange 34 = .ok (.bipush 42, 2) := by decide +kernel
theorem dX7_takeChange_36 : decode cX7_takeChange 36 = .ok (.if_icmp .ne 7, 3) := by decide +kernel
theorem dX7_takeChange_39 : decode cX7_takeChange 39 = .ok (.iconst 3, 1) := by decide +kernel
theorem dX7_takeChange_40 : decode cX7_takeChange 40 = .ok (.goto 14, 3) := by decide +kernel
theorem dX7_takeChange_43 : decode cX7_takeChange 43 = .ok (.iload_n 1, 1) := by decide +kernel
theorem dX7_takeChange_44 : decode cX7_takeChange 44 = .ok (.bipush 47, 2) := by decide +kernel
theorem dX7_takeChange_46 : decode cX7_takeChange 46 = .ok (.if_icmp .ne 7, 3) := by decide +kernel
theorem dX7_takeChange_49 : decode cX7_takeChange 49 = .ok (.iconst 4, 1) := by decide +kernel
theorem dX7_takeChange_50 : decode cX7_takeChange 50 = .ok (.goto 4, 3) := by decide +kernel
theorem dX7_takeChange_53 : decode cX7_takeChange 53 = .ok (.iconst 5, 1) := by decide +kernel
theorem dX7_takeChange_54 : decode cX7_takeChange 54 = .ok (.putfield 213, 3) := by decide +kernel
theorem dX7_takeChange_57 : decode cX7_takeChange 57 = .ok (.aload_n 0, 1) := by decide +kernel
theorem dX7_takeChange_58 : decode cX7_takeChange 58 = .ok (.aload_n 0, 1) := by decide +kernel
theorem dX7_takeChange_59 : decode cX7_takeChange 59 = .ok (.getfield 200, 3) := by decide +kernel
theorem dX7_takeChange_62 : decode cX7_takeChange 62 = .ok (.ifCond .ne 27, 3) := by decide +kernel
theorem dX7_takeChange_65 : decode cX7_takeChange 65 = .ok (.iload_n 1, 1) := by decide +kernel
theorem dX7_takeChange_66 : decode cX7_takeChange 66 = .ok (.bipush 62, 2) := by decide +kernel
theorem dX7_takeChange_68 : decode cX7_takeChange 68 = .ok (.if_icmp .eq 25, 3) := by decide +kernel
theorem dX7_takeChange_71 : decode cX7_takeChange 71 = .ok (.iload_n 1, 1) := by decide +kernel
theorem dX7_takeChange_72 : decode cX7_takeChange 72 = .ok (.bipush 42, 2) := by decide +kernel
theorem dX7_takeChange_74 : decode cX7_takeChange 74 = .ok (.if_icmp .eq 19, 3) := by decide +kernel
theorem dX7_takeChange_77 : decode cX7_takeChange 77 = .ok (.iload_n 1, 1) := by decide +kernel
theorem dX7_takeChange_78 : decode cX7_takeChange 78 = .ok (.bipush 47, 2) := by decide +kernel
theorem dX7_takeChange_80 : decode cX7_takeChange 80 = .ok (.if_icmp .eq 13, 3) := by decide +kernel
theorem dX7_takeChange_83 : decode cX7_takeChange 83 = .ok (.iload_n 1, 1) := by decide +kernel
theorem dX7_takeChange_84 : decode cX7_takeChange 84 = .ok (.bipush 60, 2) := by decide +kernel
theorem dX7_takeChange_86 : decode cX7_takeChange 86 = .ok (.if_icmp .eq 7, 3) := by decide +kernel
theorem dX7_takeChange_89 : decode cX7_takeChange 89 = .ok (.iconst 1, 1) := by decide +kernel
theorem dX7_takeChange_90 : decode cX7_takeChange 90 = .ok (.goto 4, 3) := by decide +kernel
theorem dX7_takeChange_93 : decode cX7_takeChange 93 = .ok (.iconst 0, 1) := by decide +kernel
theorem dX7_takeChange_94 : decode cX7_takeChange 94 = .ok (.putfield 200, 3) := by decide +kernel
theorem dX7_takeChange_97 : decode cX7_takeChange 97 = .ok (.aload_n 0, 1) := by decide +kernel
theorem dX7_takeChange_98 : decode cX7_takeChange 98 = .ok (.dup, 1) := by decide +kernel
theorem dX7_takeChange_99 : decode cX7_takeChange 99 = .ok (.getfield 197, 3) := by decide +kernel
theorem dX7_takeChange_102 : decode cX7_takeChange 102 = .ok (.aload_n 0, 1) := by decide +kernel
theorem dX7_takeChange_103 : decode cX7_takeChange 103 = .ok (.getfield 200, 3) := by decide +kernel
theorem dX7_takeChange_106 : decode cX7_takeChange 106 = .ok (.ifCond .eq 7, 3) := by decide +kernel
theorem dX7_takeChange_109 : decode cX7_takeChange 109 = .ok (.iconst 0, 1) := by decide +kernel
theorem dX7_takeChange_110 : decode cX7_takeChange 110 = .ok (.goto 4, 3) := by decide +kernel
theorem dX7_takeChange_113 : decode cX7_takeChange 113 = .ok (.iconst 1, 1) := by decide +kernel
theorem dX7_takeChange_114 : decode cX7_takeChange 114 = .ok (.iadd, 1) := by decide +kernel
theorem dX7_takeChange_115 : decode cX7_takeChange 115 = .ok (.putfield 197, 3) := by decide +kernel
theorem dX7_takeChange_118 : decode cX7_takeChange 118 = .ok (.aload_n 0, 1) := by decide +kernel
theorem dX7_takeChange_119 : decode cX7_takeChange 119 = .ok (.aload_n 0, 1) := by decide +kernel
theorem dX7_takeChange_120 : decode cX7_takeChange 120 = .ok (.getfield 213, 3) := by decide +kernel
theorem dX7_takeChange_123 : decode cX7_takeChange 123 = .ok (.iconst 2, 1) := by decide +kernel
theorem dX7_takeChange_124 : decode cX7_takeChange 124 = .ok (.if_icmp .ne 14, 3) := by decide +kernel
theorem dX7_takeChange_127 : decode cX7_takeChange 127 = .ok (.aload_n 0, 1) := by decide +kernel
theorem dX7_takeChange_128 : decode cX7_takeChange 128 = .ok (.bipush 97, 2) := by decide +kernel
theorem dX7_takeChange_130 : decode cX7_takeChange 130 = .ok (.bipush 106, 2) := by decide +kernel
theorem dX7_takeChange_132 : decode cX7_takeChange 132 = .ok (.invokevirtual 207, 3) := by decide +kernel
theorem dX7_takeChange_135 : decode cX7_takeChange 135 = .ok (.goto 28, 3) := by decide +kernel
theorem dX7_takeChange_138 : decode cX7_takeChange 138 = .ok (.aload_n 0, 1) := by decide +kernel
theorem dX7_takeChange_139 : decode cX7_takeChange 139 = .ok (.getfield 213, 3) := by decide +kernel
theorem dX7_takeChange_142 : decode cX7_takeChange 142 = .ok (.iconst 5, 1) := by decide +kernel
theorem dX7_takeChange_143 : decode cX7_takeChange 143 = .ok (.if_icmp .ne 10, 3) := by decide +kernel
theorem dX7_takeChange_146 : decode cX7_takeChange 146 = .ok (.aload_n 0, 1) := by decide +kernel
theorem dX7_takeChange_147 : decode cX7_takeChange 147 = .ok (.invokevirtual 216, 3) := by decide +kernel
theorem dX7_takeChange_150 : decode cX7_takeChange 150 = .ok (.goto 13, 3) := by decide +kernel
theorem dX7_takeChange_153 : decode cX7_takeChange 153 = .ok (.iconst 2, 1) := by decide +kernel
theorem dX7_takeChange_154 : decode cX7_takeChange 154 = .ok (.aload_n 0, 1) := by decide +kernel
theorem dX7_takeChange_155 : decode cX7_takeChange 155 = .ok (.bipush 50, 2) := by decide +kernel
theorem dX7_takeChange_157 : decode cX7_takeChange 157 = .ok (.bipush 57, 2) := by decide +kernel
theorem dX7_takeChange_159 : decode cX7_takeChange 159 = .ok (.invokevirtual 207, 3) := by decide +kernel
theorem dX7_takeChange_162 : decode cX7_takeChange 162 = .ok (.iadd, 1) := by decide +kernel
theorem dX7_takeChange_163 : decode cX7_takeChange 163 = .ok (.putfield 219, 3) := by decide +kernel
theorem dX7_takeChange_166 : decode cX7_takeChange 166 = .ok (.return_, 1) := by decide +kernel
theorem dX7_takeStep_0 : decode cX7_takeStep 0 = .ok (.aload_n 0, 1) := by decide +kernel
theorem dX7_takeStep_1 : decode cX7_takeStep 1 = .ok (.invokevirtual 204, 3) := by decide +kernel
theorem dX7_takeStep_4 : decode cX7_takeStep 4 = .ok (.istore_n 1, 1) := by decide +kernel
theorem dX7_takeStep_5 : decode cX7_takeStep 5 = .ok (.aload_n 0, 1) := by decide +kernel
theorem dX7_takeStep_6 : decode cX7_takeStep 6 = .ok (.iconst 0, 1) := by decide +kernel
theorem dX7_takeStep_7 : decode cX7_takeStep 7 = .ok (.putfield 219, 3) := by decide +kernel
theorem dX7_takeStep_10 : decode cX7_takeStep 10 = .ok (.aload_n 0, 1) := by decide +kernel
theorem dX7_takeStep_11 : decode cX7_takeStep 11 = .ok (.iconst 0, 1) := by decide +kernel
theorem dX7_takeStep_12 : decode cX7_takeStep 12 = .ok (.putfield 222, 3) := by decide +kernel
theorem dX7_takeStep_15 : decode cX7_takeStep 15 = .ok (.iload_n 1, 1) := by decide +kernel
theorem dX7_takeStep_16 : decode cX7_takeStep 16 = .ok (.bipush 43, 2) := by decide +kernel
theorem dX7_takeStep_18 : decode cX7_takeStep 18 = .ok (.if_icmp .eq 14, 3) := by decide +kernel
theorem dX7_takeStep_21 : decode cX7_takeStep 21 = .ok (.iload_n 1, 1) := by decide +kernel
theorem dX7_takeStep_22 : decode cX7_takeStep 22 = .ok (.bipush 45, 2) := by decide +kernel
theorem dX7_takeStep_24 : decode cX7_takeStep 24 = .ok (.if_icmp .eq 8, 3) := by decide +kernel
theorem dX7_takeStep_27 : decode cX7_takeStep 27 = .ok (.aload_n 0, 1) := by decide +kernel
theorem dX7_takeStep_28 : decode cX7_takeStep 28 = .ok (.invokevirtual 225, 3) := by decide +kernel
theorem dX7_takeStep_31 : decode cX7_takeStep 31 = .ok (.return_, 1) := by decide +kernel
theorem dX7_takeStep_32 : decode cX7_takeStep 32 = .ok (.aload_n 0, 1) := by decide +kernel
theorem dX7_takeStep_33 : decode cX7_takeStep 33 = .ok (.dup, 1) := by decide +kernel
theorem dX7_takeStep_34 : decode cX7_takeStep 34 = .ok (.getfield 197, 3) := by decide +kernel
theorem dX7_takeStep_37 : decode cX7_takeStep 37 = .ok (.iconst 1, 1) := by decide +kernel
theorem dX7_takeStep_38 : decode cX7_takeStep 38 = .ok (.iadd, 1) := by decide +kernel
theorem dX7_takeStep_39 : decode cX7_takeStep 39 = .ok (.putfield 197, 3) := by decide +kernel
theorem dX7_takeStep_42 : decode cX7_takeStep 42 = .ok (.aload_n 0, 1) := by decide +kernel
theorem dX7_takeStep_43 : decode cX7_takeStep 43 = .ok (.iload_n 1, 1) := by decide +kernel
theorem dX7_takeStep_44 : decode cX7_takeStep 44 = .ok (.bipush 43, 2) := by decide +kernel
theorem dX7_takeStep_46 : decode cX7_takeStep 46 = .ok (.if_icmp .ne 7, 3) := by decide +kernel
theorem dX7_takeStep_49 : decode cX7_takeStep 49 = .ok (.iconst 0, 1) := by decide +kernel
theorem dX7_takeStep_50 : decode cX7_takeStep 50 = .ok (.goto 4, 3) := by decide +kernel
theorem dX7_takeStep_53 : decode cX7_takeStep 53 = .ok (.iconst 1, 1) := by decide +kernel
theorem dX7_takeStep_54 : decode cX7_takeStep 54 = .ok (.putfield 213, 3) := by decide +kernel
theorem dX7_takeStep_57 : decode cX7_takeStep 57 = .ok (.aload_n 0, 1) := by decide +kernel
theorem dX7_takeStep_58 : decode cX7_takeStep 58 = .ok (.aload_n 0, 1) := by decide +kernel
theorem dX7_takeStep_59 : decode cX7_takeStep 59 = .ok (.bipush 97, 2) := by decide +kernel
theorem dX7_takeStep_61 : decode cX7_takeStep 61 = .ok (.bipush 106, 2) := by decide +kernel
theorem dX7_takeStep_63 : decode cX7_takeStep 63 = .ok (.invokevirtual 207, 3) := by decide +kernel
theorem dX7_takeStep_66 : decode cX7_takeStep 66 = .ok (.putfield 210, 3) := by decide +kernel
theorem dX7_takeStep_69 : decode cX7_takeStep 69 = .ok (.iload_n 1, 1) := by decide +kernel
theorem dX7_takeStep_70 : decode cX7_takeStep 70 = .ok (.bipush 43, 2) := by decide +kernel
theorem dX7_takeStep_72 : decode cX7_takeStep 72 = .ok (.if_icmp .ne 65, 3) := by decide +kernel
theorem dX7_takeStep_75 : decode cX7_takeStep 75 = .ok (.aload_n 0, 1) := by decide +kernel
theorem dX7_takeStep_76 : decode cX7_takeStep 76 = .ok (.aload_n 0, 1) := by decide +kernel
theorem dX7_takeStep_77 : decode cX7_takeStep 77 = .ok (.invokevirtual 216, 3) := by decide +kernel
theorem dX7_takeStep_80 : decode cX7_takeStep 80 = .ok (.putfield 219, 3) := by decide +kernel
theorem dX7_takeStep_83 : decode cX7_takeStep 83 = .ok (.aload_n 0, 1) := by decide +kernel
theorem dX7_takeStep_84 : decode cX7_takeStep 84 = .ok (.aload_n 0, 1) := by decide +kernel
theorem dX7_takeStep_85 : decode cX7_takeStep 85 = .ok (.getfield 200, 3) := by decide +kernel
theorem dX7_takeStep_88 : decode cX7_takeStep 88 = .ok (.ifCond .ne 12, 3) := by decide +kernel
theorem dX7_takeStep_91 : decode cX7_takeStep 91 = .ok (.aload_n 0, 1) := by decide +kernel
theorem dX7_takeStep_92 : decode cX7_takeStep 92 = .ok (.invokevirtual 204, 3) := by decide +kernel
theorem dX7_takeStep_95 : decode cX7_takeStep 95 = .ok (.bipush 61, 2) := by decide +kernel
theorem dX7_takeStep_97 : decode cX7_takeStep 97 = .ok (.if_icmp .eq 7, 3) := by decide +kernel
theorem dX7_takeStep_100 : decode cX7_takeStep 100 = .ok (.iconst 1, 1) := by decide +kernel
theorem dX7_takeStep_101 : decode cX7_takeStep 101 = .ok (.goto 4, 3) := by decide +kernel
theorem dX7_takeStep_104 : decode cX7_takeStep 104 = .ok (.iconst 0, 1) := by decide +kernel
theorem dX7_takeStep_105 : decode cX7_takeStep 105 = .ok (.putfield 200, 3) := by decide +kernel
theorem dX7_takeStep_108 : decode cX7_takeStep 108 = .ok (.aload_n 0, 1) := by decide +kernel
theorem dX7_takeStep_109 : decode cX7_takeStep 109 = .ok (.dup, 1) := by decide +kernel
theorem dX7_takeStep_110 : decode cX7_takeStep 110 = .ok (.getfield 197, 3) := by decide +kernel
theorem dX7_takeStep_113 : decode cX7_takeStep 113 = .ok (.aload_n 0, 1) := by decide +kernel
theorem dX7_takeStep_114 : decode cX7_takeStep 114 = .ok (.getfield 200, 3) := by decide +kernel
theorem dX7_takeStep_117 : decode cX7_takeStep 117 = .ok (.ifCond .eq 7, 3) := by decide +kernel
theorem dX7_takeStep_120 : decode cX7_takeStep 120 = .ok (.iconst 0, 1) := by decide +kernel
theorem dX7_takeStep_121 : decode cX7_takeStep 121 = .ok (.goto 4, 3) := by decide +kernel
theorem dX7_takeStep_124 : decode cX7_takeStep 124 = .ok (.iconst 1, 1) := by decide +kernel
theorem dX7_takeStep_125 : decode cX7_takeStep 125 = .ok (.iadd, 1) := by decide +kernel
theorem dX7_takeStep_126 : decode cX7_takeStep 126 = .ok (.putfield 197, 3) := by decide +kernel
theorem dX7_takeStep_129 : decode cX7_takeStep 129 = .ok (.aload_n 0, 1) := by decide +kernel
theorem dX7_takeStep_130 : decode cX7_takeStep 130 = .ok (.aload_n 0, 1) := by decide +kernel
theorem dX7_takeStep_131 : decode cX7_takeStep 131 = .ok (.invokevirtual 216, 3) := by decide +kernel
theorem dX7_takeStep_134 : decode cX7_takeStep 134 = .ok (.putfield 222, 3) := by decide +kernel
theorem dX7_takeStep_137 : decode cX7_takeStep 137 = .ok (.return_, 1) := by decide +kernel
theorem dX7_layStep_0 : decode cX7_layStep 0 = .ok (.iload_n 1, 1) := by decide +kernel
theorem dX7_layStep_1 : decode cX7_layStep 1 = .ok (.bipush 6, 2) := by decide +kernel
theorem dX7_layStep_3 : decode cX7_layStep 3 = .ok (.if_icmp .ge 65, 3) := by decide +kernel
theorem dX7_layStep_6 : decode cX7_layStep 6 = .ok (.bipush 28, 2) := by decide +kernel
theorem dX7_layStep_8 : decode cX7_layStep 8 = .ok (.iload_n 1, 1) := by decide +kernel
theorem dX7_layStep_9 : decode cX7_layStep 9 = .ok (.imul, 1) := by decide +kernel
theorem dX7_layStep_10 : decode cX7_layStep 10 = .ok (.aload_n 0, 1) := by decide +kernel
theorem dX7_layStep_11 : decode cX7_layStep 11 = .ok (.getfield 38, 3) := by decide +kernel
theorem dX7_layStep_14 : decode cX7_layStep 14 = .ok (.iload_n 1, 1) := by decide +kernel
theorem dX7_layStep_15 : decode cX7_layStep 15 = .ok (.iaload, 1) := by decide +kernel
theorem dX7_layStep_16 : decode cX7_layStep 16 = .ok (.iadd, 1) := by decide +kernel
theorem dX7_layStep_17 : decode cX7_layStep 17 = .ok (.istore_n 2, 1) := by decide +kernel
theorem dX7_layStep_18 : decode cX7_layStep 18 = .ok (.aload_n 0, 1) := by decide +kernel
theorem dX7_layStep_19 : decode cX7_layStep 19 = .ok (.getfield 41, 3) := by decide +kernel
theorem dX7_layStep_22 : decode cX7_layStep 22 = .ok (.iload_n 2, 1) := by decide +kernel
theorem dX7_layStep_23 : decode cX7_layStep 23 = .ok (.aload_n 0, 1) := by decide +kernel
theorem dX7_layStep_24 : decode cX7_layStep 24 = .ok (.getfield 213, 3) := by decide +kernel
theorem dX7_layStep_27 : decode cX7_layStep 27 = .ok (.iastore, 1) := by decide +kernel
theorem dX7_layStep_28 : decode cX7_layStep 28 = .ok (.aload_n 0, 1) := by decide +kernel
theorem dX7_layStep_29 : decode cX7_layStep 29 = .ok (.getfield 44, 3) := by decide +kernel
theorem dX7_layStep_32 : decode cX7_layStep 32 = .ok (.iload_n 2, 1) := by decide +kernel
theorem dX7_layStep_33 : decode cX7_layStep 33 = .ok (.aload_n 0, 1) := by decide +kernel
theorem dX7_layStep_34 : decode cX7_layStep 34 = .ok (.getfield 210, 3) := by decide +kernel
theorem dX7_layStep_37 : decode cX7_layStep 37 = .ok (.iastore, 1) := by decide +kernel
theorem dX7_layStep_38 : decode cX7_layStep 38 = .ok (.aload_n 0, 1) := by decide +kernel
theorem dX7_layStep_39 : decode cX7_layStep 39 = .ok (.getfield 47, 3) := by decide +kernel
theorem dX7_layStep_42 : decode cX7_layStep 42 = .ok (.iload_n 2, 1) := by decide +kernel
theorem dX7_layStep_43 : decode cX7_layStep 43 = .ok (.aload_n 0, 1) := by decide +kernel
theorem dX7_layStep_44 : decode cX7_layStep 44 = .ok (.getfield 219, 3) := by decide +kernel
theorem dX7_layStep_47 : decode cX7_layStep 47 = .ok (.iastore, 1) := by decide +kernel
theorem dX7_layStep_48 : decode cX7_layStep 48 = .ok (.aload_n 0, 1) := by decide +kernel
theorem dX7_layStep_49 : decode cX7_layStep 49 = .ok (.getfield 50, 3) := by decide +kernel
theorem dX7_layStep_52 : decode cX7_layStep 52 = .ok (.iload_n 2, 1) := by decide +kernel
theorem dX7_layStep_53 : decode cX7_layStep 53 = .ok (.aload_n 0, 1) := by decide +kernel
theorem dX7_layStep_54 : decode cX7_layStep 54 = .ok (.getfield 222, 3) := by decide +kernel
theorem dX7_layStep_57 : decode cX7_layStep 57 = .ok (.iastore, 1) := by decide +kernel
theorem dX7_layStep_58 : decode cX7_layStep 58 = .ok (.aload_n 0, 1) := by decide +kernel
theorem dX7_layStep_59 : decode cX7_layStep 59 = .ok (.getfield 38, 3) := by decide +kernel
theorem dX7_layStep_62 : decode cX7_layStep 62 = .ok (.iload_n 1, 1) := by decide +kernel
theorem dX7_layStep_63 : decode cX7_layStep 63 = .ok (.dup2, 1) := by decide +kernel
theorem dX7_layStep_64 : decode cX7_layStep 64 = .ok (.iaload, 1) := by decide +kernel
theorem dX7_layStep_65 : decode cX7_layStep 65 = .ok (.iconst 1, 1) := by decide +kernel
theorem dX7_layStep_66 : decode cX7_layStep 66 = .ok (.iadd, 1) := by decide +kernel
theorem dX7_layStep_67 : decode cX7_layStep 67 = .ok (.iastore, 1) := by decide +kernel
theorem dX7_layStep_68 : decode cX7_layStep 68 = .ok (.return_, 1) := by decide +kernel
theorem dX7_read_0 : decode cX7_read 0 = .ok (.aload_n 0, 1) := by decide +kernel
theorem dX7_read_1 : decode cX7_read 1 = .ok (.iconst 0, 1) := by decide +kernel
theorem dX7_read_2 : decode cX7_read 2 = .ok (.putfield 197, 3) := by decide +kernel
theorem dX7_read_5 : decode cX7_read 5 = .ok (.aload_n 0, 1) := by decide +kernel
theorem dX7_read_6 : decode cX7_read 6 = .ok (.iconst 0, 1) := by decide +kernel
theorem dX7_read_7 : decode cX7_read 7 = .ok (.putfield 200, 3) := by decide +kernel
theorem dX7_read_10 : decode cX7_read 10 = .ok (.aload_n 0, 1) := by decide +kernel
theorem dX7_read_11 : decode cX7_read 11 = .ok (.invokevirtual 228, 3) := by decide +kernel
theorem dX7_read_14 : decode cX7_read 14 = .ok (.aload_n 0, 1) := by decide +kernel
theorem dX7_read_15 : decode cX7_read 15 = .ok (.iload_n 1, 1) := by decide +kernel
theorem dX7_read_16 : decode cX7_read 16 = .ok (.invokevirtual 231, 3) := by decide +kernel
theorem dX7_read_19 : decode cX7_read 19 = .ok (.aload_n 0, 1) := by decide +kernel
theorem dX7_read_20 : decode cX7_read 20 = .ok (.getfield 200, 3) := by decide +kernel
theorem dX7_read_23 : decode cX7_read 23 = .ok (.ifCond .ne 34, 3) := by decide +kernel
theorem dX7_read_26 : decode cX7_read 26 = .ok (.aload_n 0, 1) := by decide +kernel
theorem dX7_read_27 : decode cX7_read 27 = .ok (.invokevirtual 204, 3) := by decide +kernel
theorem dX7_read_30 : decode cX7_read 30 = .ok (.bipush 44, 2) := by decide +kernel
theorem dX7_read_32 : decode cX7_read 32 = .ok (.if_icmp .ne 25, 3) := by decide +kernel
theorem dX7_read_35 : decode cX7_read 35 = .ok (.aload_n 0, 1) := by decide +kernel
theorem dX7_read_36 : decode cX7_read 36 = .ok (.dup, 1) := by decide +kernel
theorem dX7_read_37 : decode cX7_read 37 = .ok (.getfield 197, 3) := by decide +kernel
theorem dX7_read_40 : decode cX7_read 40 = .ok (.iconst 1, 1) := by decide +kernel
theorem dX7_read_41 : decode cX7_read 41 = .ok (.iadd, 1) := by decide +kernel
theorem dX7_read_42 : decode cX7_read 42 = .ok (.putfield 197, 3) := by decide +kernel
theorem dX7_read_45 : decode cX7_read 45 = .ok (.aload_n 0, 1) := by decide +kernel
theorem dX7_read_46 : decode cX7_read 46 = .ok (.invokevirtual 228, 3) := by decide +kernel
theorem dX7_read_49 : decode cX7_read 49 = .ok (.aload_n 0, 1) := by decide +kernel
theorem dX7_read_50 : decode cX7_read 50 = .ok (.iload_n 1, 1) := by decide +kernel
theorem dX7_read_51 : decode cX7_read 51 = .ok (.invokevirtual 231, 3) := by decide +kernel
theorem dX7_read_54 : decode cX7_read 54 = .ok (.goto (-35), 3) := by decide +kernel
theorem dX7_read_57 : decode cX7_read 57 = .ok (.aload_n 0, 1) := by decide +kernel
theorem dX7_read_58 : decode cX7_read 58 = .ok (.getfield 200, 3) := by decide +kernel
theorem dX7_read_61 : decode cX7_read 61 = .ok (.ifCond .ne 14, 3) := by decide +kernel
theorem dX7_read_64 : decode cX7_read 64 = .ok (.aload_n 0, 1) := by decide +kernel
theorem dX7_read_65 : decode cX7_read 65 = .ok (.getfield 197, 3) := by decide +kernel
theorem dX7_read_68 : decode cX7_read 68 = .ok (.aload_n 0, 1) := by decide +kernel
theorem dX7_read_69 : decode cX7_read 69 = .ok (.getfield 94, 3) := by decide +kernel
theorem dX7_read_72 : decode cX7_read 72 = .ok (.if_icmp .ge 10, 3) := by decide +kernel
theorem dX7_read_75 : decode cX7_read 75 = .ok (.aload_n 0, 1) := by decide +kernel
theorem dX7_read_76 : decode cX7_read 76 = .ok (.getfield 197, 3) := by decide +kernel
theorem dX7_read_79 : decode cX7_read 79 = .ok (.goto 5, 3) := by decide +kernel
theorem dX7_read_82 : decode cX7_read 82 = .ok (.bipush (-6), 2) := by decide +kernel
theorem dX7_read_84 : decode cX7_read 84 = .ok (.ireturn, 1) := by decide +kernel
theorem dX7_fault_0 : decode cX7_fault 0 = .ok (.aload_n 0, 1) := by decide +kernel
theorem dX7_fault_1 : decode cX7_fault 1 = .ok (.bipush 6, 2) := by decide +kernel
theorem dX7_fault_3 : decode cX7_fault 3 = .ok (.invokevirtual 79, 3) := by decide +kernel
theorem dX7_fault_6 : decode cX7_fault 6 = .ok (.ireturn, 1) := by decide +kernel
theorem dX7_keep_0 : decode cX7_keep 0 = .ok (.iload_n 1, 1) := by decide +kernel
theorem dX7_keep_1 : decode cX7_keep 1 = .ok (.iconst 0, 1) := by decide +kernel
theorem dX7_keep_2 : decode cX7_keep 2 = .ok (.iconst 1, 1) := by decide +kernel
theorem dX7_keep_3 : decode cX7_keep 3 = .ok (.invokestatic 63, 3) := by decide +kernel
theorem dX7_keep_6 : decode cX7_keep 6 = .ok (.ifCond .ne 6, 3) := by decide +kernel
theorem dX7_keep_9 : decode cX7_keep 9 = .ok (.bipush (-2), 2) := by decide +kernel
theorem dX7_keep_11 : decode cX7_keep 11 = .ok (.ireturn, 1) := by decide +kernel
theorem dX7_keep_12 : decode cX7_keep 12 = .ok (.iconst 0, 1) := by decide +kernel
theorem dX7_keep_13 : decode cX7_keep 13 = .ok (.istore_n 2, 1) := by decide +kernel
theorem dX7_keep_14 : decode cX7_keep 14 = .ok (.iload_n 2, 1) := by decide +kernel
theorem dX7_keep_15 : decode cX7_keep 15 = .ok (.bipush 127, 2) := by decide +kernel
theorem dX7_keep_17 : decode cX7_keep 17 = .ok (.if_icmp .ge 26, 3) := by decide +kernel
theorem dX7_keep_20 : decode cX7_keep 20 = .ok (.aload_n 0, 1) := by decide +kernel
theorem dX7_keep_21 : decode cX7_keep 21 = .ok (.getfield 16, 3) := by decide +kernel
theorem dX7_keep_24 : decode cX7_keep 24 = .ok (.bipush 127, 2) := by decide +kernel
theorem dX7_keep_26 : decode cX7_keep 26 = .ok (.iload_n 1, 1) := by decide +kernel
theorem dX7_keep_27 : decode cX7_keep 27 = .ok (.imul, 1) := by decide +kernel
theorem dX7_keep_28 : decode cX7_keep 28 = .ok (.iload_n 2, 1) := by decide +kernel
theorem dX7_keep_29 : decode cX7_keep 29 = .ok (.iadd, 1) := by decide +kernel
theorem dX7_keep_30 : decode cX7_keep 30 = .ok (.aload_n 0, 1) := by decide +kernel
theorem dX7_keep_31 : decode cX7_keep 31 = .ok (.getfield 7, 3) := by decide +kernel
theorem dX7_keep_34 : decode cX7_keep 34 = .ok (.iload_n 2, 1) := by decide +kernel
theorem dX7_keep_35 : decode cX7_keep 35 = .ok (.iaload, 1) := by decide +kernel
theorem dX7_keep_36 : decode cX7_keep 36 = .ok (.iastore, 1) := by decide +kernel
theorem dX7_keep_37 : decode cX7_keep 37 = .ok (.iinc 2 1, 3) := by decide +kernel
theorem dX7_keep_40 : decode cX7_keep 40 = .ok (.goto (-26), 3) := by decide +kernel
theorem dX7_keep_43 : decode cX7_keep 43 = .ok (.aload_n 0, 1) := by decide +kernel
theorem dX7_keep_44 : decode cX7_keep 44 = .ok (.getfield 19, 3) := by decide +kernel
theorem dX7_keep_47 : decode cX7_keep 47 = .ok (.iload_n 1, 1) := by decide +kernel
theorem dX7_keep_48 : decode cX7_keep 48 = .ok (.iconst 1, 1) := by decide +kernel
theorem dX7_keep_49 : decode cX7_keep 49 = .ok (.bastore, 1) := by decide +kernel
theorem dX7_keep_50 : decode cX7_keep 50 = .ok (.aload_n 0, 1) := by decide +kernel
theorem dX7_keep_51 : decode cX7_keep 51 = .ok (.getfield 7, 3) := by decide +kernel
theorem dX7_keep_54 : decode cX7_keep 54 = .ok (.iconst 2, 1) := by decide +kernel
theorem dX7_keep_55 : decode cX7_keep 55 = .ok (.iaload, 1) := by decide +kernel
theorem dX7_keep_56 : decode cX7_keep 56 = .ok (.ireturn, 1) := by decide +kernel
theorem dX7_back_0 : decode cX7_back 0 = .ok (.iload_n 1, 1) := by decide +kernel
theorem dX7_back_1 : decode cX7_back 1 = .ok (.iconst 0, 1) := by decide +kernel
theorem dX7_back_2 : decode cX7_back 2 = .ok (.iconst 1, 1) := by decide +kernel
theorem dX7_back_3 : decode cX7_back 3 = .ok (.invokestatic 63, 3) := by decide +kernel
theorem dX7_back_6 : decode cX7_back 6 = .ok (.ifCond .ne 6, 3) := by decide +kernel
theorem dX7_back_9 : decode cX7_back 9 = .ok (.bipush (-2), 2) := by decide +kernel
theorem dX7_back_11 : decode cX7_back 11 = .ok (.ireturn, 1) := by decide +kernel
theorem dX7_back_12 : decode cX7_back 12 = .ok (.aload_n 0, 1) := by decide +kernel
theorem dX7_back_13 : decode cX7_back 13 = .ok (.getfield 19, 3) := by decide +kernel
theorem dX7_back_16 : decode cX7_back 16 = .ok (.iload_n 1, 1) := by decide +kernel
theorem dX7_back_17 : decode cX7_back 17 = .ok (.baload, 1) := by decide +kernel
theorem dX7_back_18 : decode cX7_back 18 = .ok (.ifCond .ne 6, 3) := by decide +kernel
theorem dX7_back_21 : decode cX7_back 21 = .ok (.bipush (-5), 2) := by decide +kernel
theorem dX7_back_23 : decode cX7_back 23 = .ok (.ireturn, 1) := by decide +kernel
theorem dX7_back_24 : decode cX7_back 24 = .ok (.iconst 0, 1) := by decide +kernel
theorem dX7_back_25 : decode cX7_back 25 = .ok (.istore_n 2, 1) := by decide +kernel
theorem dX7_back_26 : decode cX7_back 26 = .ok (.iload_n 2, 1) := by decide +kernel
theorem dX7_back_27 : decode cX7_back 27 = .ok (.bipush 127, 2) := by decide +kernel
theorem dX7_back_29 : decode cX7_back 29 = .ok (.if_icmp .ge 26, 3) := by decide +kernel
theorem dX7_back_32 : decode cX7_back 32 = .ok (.aload_n 0, 1) := by decide +kernel
theorem dX7_back_33 : decode cX7_back 33 = .ok (.getfield 7, 3) := by decide +kernel
theorem dX7_back_36 : decode cX7_back 36 = .ok (.iload_n 2, 1) := by decide +kernel
theorem dX7_back_37 : decode cX7_back 37 = .ok (.aload_n 0, 1) := by decide +kernel
theorem dX7_back_38 : decode cX7_back 38 = .ok (.getfield 16, 3) := by decide +kernel
theorem dX7_back_41 : decode cX7_back 41 = .ok (.bipush 127, 2) := by decide +kernel
theorem dX7_back_43 : decode cX7_back 43 = .ok (.iload_n 1, 1) := by decide +kernel
theorem dX7_back_44 : decode cX7_back 44 = .ok (.imul, 1) := by decide +kernel
theorem dX7_back_45 : decode cX7_back 45 = .ok (.iload_n 2, 1) := by decide +kernel
theorem dX7_back_46 : decode cX7_back 46 = .ok (.iadd, 1) := by decide +kernel
theorem dX7_back_47 : decode cX7_back 47 = .ok (.iaload, 1) := by decide +kernel
theorem dX7_back_48 : decode cX7_back 48 = .ok (.iastore, 1) := by decide +kernel
theorem dX7_back_49 : decode cX7_back 49 = .ok (.iinc 2 1, 3) := by decide +kernel
theorem dX7_back_52 : decode cX7_back 52 = .ok (.goto (-26), 3) := by decide +kernel
theorem dX7_back_55 : decode cX7_back 55 = .ok (.aload_n 0, 1) := by decide +kernel
theorem dX7_back_56 : decode cX7_back 56 = .ok (.getfield 7, 3) := by decide +kernel
theorem dX7_back_59 : decode cX7_back 59 = .ok (.iconst 2, 1) := by decide +kernel
theorem dX7_back_60 : decode cX7_back 60 = .ok (.iaload, 1) := by decide +kernel
theorem dX7_back_61 : decode cX7_back 61 = .ok (.ireturn, 1) := by decide +kernel
theorem dJ9_floorMod_7cf53_0 : decode cJ9_floorMod_7cf53 0 = .ok (.iload_n 0, 1) := by decide +kernel
theorem dJ9_floorMod_7cf53_1 : decode cJ9_floorMod_7cf53 1 = .ok (.iload_n 1, 1) := by decide +kernel
theorem dJ9_floorMod_7cf53_2 : decode cJ9_floorMod_7cf53 2 = .ok (.irem, 1) := by decide +kernel
theorem dJ9_floorMod_7cf53_3 : decode cJ9_floorMod_7cf53 3 = .ok (.istore_n 2, 1) := by decide +kernel
theorem dJ9_floorMod_7cf53_4 : decode cJ9_floorMod_7cf53 4 = .ok (.iload_n 0, 1) := by decide +kernel
theorem dJ9_floorMod_7cf53_5 : decode cJ9_floorMod_7cf53 5 = .ok (.iload_n 1, 1) := by decide +kernel
theorem dJ9_floorMod_7cf53_6 : decode cJ9_floorMod_7cf53 6 = .ok (.ixor, 1) := by decide +kernel
theorem dJ9_floorMod_7cf53_7 : decode cJ9_floorMod_7cf53 7 = .ok (.ifCond .ge 11, 3) := by decide +kernel
theorem dJ9_floorMod_7cf53_10 : decode cJ9_floorMod_7cf53 10 = .ok (.iload_n 2, 1) := by decide +kernel
theorem dJ9_floorMod_7cf53_11 : decode cJ9_floorMod_7cf53 11 = .ok (.ifCond .eq 7, 3) := by decide +kernel
theorem dJ9_floorMod_7cf53_14 : decode cJ9_floorMod_7cf53 14 = .ok (.iload_n 2, 1) := by decide +kernel
theorem dJ9_floorMod_7cf53_15 : decode cJ9_floorMod_7cf53 15 = .ok (.iload_n 1, 1) := by decide +kernel
theorem dJ9_floorMod_7cf53_16 : decode cJ9_floorMod_7cf53 16 = .ok (.iadd, 1) := by decide +kernel
theorem dJ9_floorMod_7cf53_17 : decode cJ9_floorMod_7cf53 17 = .ok (.ireturn, 1) := by decide +kernel
theorem dJ9_floorMod_7cf53_18 : decode cJ9_floorMod_7cf53 18 = .ok (.iload_n 2, 1) := by decide +kernel
theorem dJ9_floorMod_7cf53_19 : decode cJ9_floorMod_7cf53 19 = .ok (.ireturn, 1) := by decide +kernel
theorem dJ9_min_7cf53_0 : decode cJ9_min_7cf53 0 = .ok (.iload_n 0, 1) := by decide +kernel
theorem dJ9_min_7cf53_1 : decode cJ9_min_7cf53 1 = .ok (.iload_n 1, 1) := by decide +kernel
theorem dJ9_min_7cf53_2 : decode cJ9_min_7cf53 2 = .ok (.if_icmp .gt 7, 3) := by decide +kernel
theorem dJ9_min_7cf53_5 : decode cJ9_min_7cf53 5 = .ok (.iload_n 0, 1) := by decide +kernel
theorem dJ9_min_7cf53_6 : decode cJ9_min_7cf53 6 = .ok (.goto 4, 3) := by decide +kernel
theorem dJ9_min_7cf53_9 : decode cJ9_min_7cf53 9 = .ok (.iload_n 1, 1) := by decide +kernel
theorem dJ9_min_7cf53_10 : decode cJ9_min_7cf53 10 = .ok (.ireturn, 1) := by decide +kernel
theorem dL_law_0 : decode cL_law 0 = .ok (.new 7, 3) := by decide +kernel
theorem dL_law_3 : decode cL_law 3 = .ok (.dup, 1) := by decide +kernel
theorem dL_law_4 : decode cL_law 4 = .ok (.invokespecial 9, 3) := by decide +kernel
theorem dL_law_7 : decode cL_law 7 = .ok (.astore_n 1, 1) := by decide +kernel
theorem dL_law_8 : decode cL_law 8 = .ok (.new 10, 3) := by decide +kernel
theorem dL_law_11 : decode cL_law 11 = .ok (.dup, 1) := by decide +kernel
theorem dL_law_12 : decode cL_law 12 = .ok (.invokespecial 12, 3) := by decide +kernel
theorem dL_law_15 : decode cL_law 15 = .ok (.astore_n 2, 1) := by decide +kernel
theorem dL_law_16 : decode cL_law 16 = .ok (.iconst 0, 1) := by decide +kernel
theorem dL_law_17 : decode cL_law 17 = .ok (.istore_n 3, 1) := by decide +kernel
theorem dL_law_18 : decode cL_law 18 = .ok (.iload_n 3, 1) := by decide +kernel
theorem dL_law_19 : decode cL_law 19 = .ok (.aload_n 0, 1) := by decide +kernel
theorem dL_law_20 : decode cL_law 20 = .ok (.arraylength, 1) := by decide +kernel
theorem dL_law_21 : decode cL_law 21 = .ok (.iconst 5, 1) := by decide +kernel
theorem dL_law_22 : decode cL_law 22 = .ok (.isub, 1) := by decide +kernel
theorem dL_law_23 : decode cL_law 23 = .ok (.if_icmp .gt 688, 3) := by decide +kernel
theorem dL_law_26 : decode cL_law 26 = .ok (.aload_n 0, 1) := by decide +kernel
theorem dL_law_27 : decode cL_law 27 = .ok (.iload_n 3, 1) := by decide +kernel
theorem dL_law_28 : decode cL_law 28 = .ok (.iaload, 1) := by decide +kernel
theorem dL_law_29 : decode cL_law 29 = .ok (.bipush 31, 2) := by decide +kernel
theorem dL_law_31 : decode cL_law 31 = .ok (.iand, 1) := by decide +kernel
theorem dL_law_32 : decode cL_law 32 = .ok (.tableswitch 673 0 20 #[100, 113, 156, 179, 192, 215, 248, 261, 284, 307, 340, 383, 416, 439, 462, 495, 548, 601, 614, 627, 650], 100) := by decide +kernel
theorem dL_law_132 : decode cL_law 132 = .ok (.aload_n 1, 1) := by decide +kernel
theorem dL_law_133 : decode cL_law 133 = .ok (.invokevirtual 13, 3) := by decide +kernel
theorem dL_law_136 : decode cL_law 136 = .ok (.aload_n 2, 1) := by decide +kernel
theorem dL_law_137 : decode cL_law 137 = .ok (.invokevirtual 17, 3) := by decide +kernel
theorem dL_law_140 : decode cL_law 140 = .ok (.if_icmp .eq 565, 3) := by decide +kernel
theorem dL_law_143 : decode cL_law 143 = .ok (.iconst 0, 1) := by decide +kernel
theorem dL_law_144 : decode cL_law 144 = .ok (.ireturn, 1) := by decide +kernel
theorem dL_law_145 : decode cL_law 145 = .ok (.aload_n 1, 1) := by decide +kernel
theorem dL_law_146 : decode cL_law 146 = .ok (.aload_n 0, 1) := by decide +kernel
theorem dL_law_147 : decode cL_law 147 = .ok (.iload_n 3, 1) := by decide +kernel
theorem dL_law_148 : decode cL_law 148 = .ok (.iconst 1, 1) := by decide +kernel
theorem dL_law_149 : decode cL_law 149 = .ok (.iadd, 1) := by decide +kernel
theorem dL_law_150 : decode cL_law 150 = .ok (.iaload, 1) := by decide +kernel
theorem dL_law_151 : decode cL_law 151 = .ok (.aload_n 0, 1) := by decide +kernel
theorem dL_law_152 : decode cL_law 152 = .ok (.iload_n 3, 1) := by decide +kernel
theorem dL_law_153 : decode cL_law 153 = .ok (.iconst 2, 1) := by decide +kernel
theorem dL_law_154 : decode cL_law 154 = .ok (.iadd, 1) := by decide +kernel
theorem dL_law_155 : decode cL_law 155 = .ok (.iaload, 1) := by decide +kernel
theorem dL_law_156 : decode cL_law 156 = .ok (.aload_n 0, 1) := by decide +kernel
theorem dL_law_157 : decode cL_law 157 = .ok (.iload_n 3, 1) := by decide +kernel
theorem dL_law_158 : decode cL_law 158 = .ok (.iconst 3, 1) := by decide +kernel
theorem dL_law_159 : decode cL_law 159 = .ok (.iadd, 1) := by decide +kernel
theorem dL_law_160 : decode cL_law 160 = .ok (.iaload, 1) := by decide +kernel
theorem dL_law_161 : decode cL_law 161 = .ok (.invokevirtual 18, 3) := by decide +kernel
theorem dL_law_164 : decode cL_law 164 = .ok (.aload_n 2, 1) := by decide +kernel
theorem dL_law_165 : decode cL_law 165 = .ok (.aload_n 0, 1) := by decide +kernel
theorem dL_law_166 : decode cL_law 166 = .ok (.iload_n 3, 1) := by decide +kernel
theorem dL_law_167 : decode cL_law 167 = .ok (.iconst 1, 1) := by decide +kernel
theorem dL_law_168 : decode cL_law 168 = .ok (.iadd, 1) := by decide +kernel
theorem dL_law_169 : decode cL_law 169 = .ok (.iaload, 1) := by decide +kernel
theorem dL_law_170 : decode cL_law 170 = .ok (.aload_n 0, 1) := by decide +kernel
theorem dL_law_171 : decode cL_law 171 = .ok (.iload_n 3, 1) := by decide +kernel
theorem dL_law_172 : decode cL_law 172 = .ok (.iconst 2, 1) := by decide +kernel
theorem dL_law_173 : decode cL_law 173 = .ok (.iadd, 1) := by decide +kernel
theorem dL_law_174 : decode cL_law 174 = .ok (.iaload, 1) := by decide +kernel
theorem dL_law_175 : decode cL_law 175 = .ok (.aload_n 0, 1) := by decide +kernel
theorem dL_law_176 : decode cL_law 176 = .ok (.iload_n 3, 1) := by decide +kernel
theorem dL_law_177 : decode cL_law 177 = .ok (.iconst 3, 1) := by decide +kernel
theorem dL_law_178 : decode cL_law 178 = .ok (.iadd, 1) := by decide +kernel
theorem dL_law_179 : decode cL_law 179 = .ok (.iaload, 1) := by decide +kernel
theorem dL_law_180 : decode cL_law 180 = .ok (.invokevirtual 22, 3) := by decide +kernel
theorem dL_law_183 : decode cL_law 183 = .ok (.if_icmp .eq 522, 3) := by decide +kernel
theorem dL_law_186 : decode cL_law 186 = .ok (.iconst 0, 1) := by decide +kernel
theorem dL_law_187 : decode cL_law 187 = .ok (.ireturn, 1) := by decide +kernel
theorem dL_law_188 : decode cL_law 188 = .ok (.aload_n 1, 1) := by decide +kernel
theorem dL_law_189 : decode cL_law 189 = .ok (.aload_n 0, 1) := by decide +kernel
theorem dL_law_190 : decode cL_law 190 = .ok (.iload_n 3, 1) := by decide +kernel
theorem dL_law_191 : decode cL_law 191 = .ok (.iconst 1, 1) := by decide +kernel
theorem dL_law_192 : decode cL_law 192 = .ok (.iadd, 1) := by decide +kernel
theorem dL_law_193 : decode cL_law 193 = .ok (.iaload, 1) := by decide +kernel
theorem dL_law_194 : decode cL_law 194 = .ok (.invokevirtual 23, 3) := by decide +kernel
theorem dL_law_197 : decode cL_law 197 = .ok (.aload_n 2, 1) := by decide +kernel
theorem dL_law_198 : decode cL_law 198 = .ok (.aload_n 0, 1) := by decide +kernel
theorem dL_law_199 : decode cL_law 199 = .ok (.iload_n 3, 1) := by decide +kernel
theorem dL_law_200 : decode cL_law 200 = .ok (.iconst 1, 1) := by decide +kernel
theorem dL_law_201 : decode cL_law 201 = .ok (.iadd, 1) := by decide +kernel
theorem dL_law_202 : decode cL_law 202 = .ok (.iaload, 1) := by decide +kernel
theorem dL_law_203 : decode cL_law 203 = .ok (.invokevirtual 27, 3) := by decide +kernel
theorem dL_law_206 : decode cL_law 206 = .ok (.if_icmp .eq 499, 3) := by decide +kernel
theorem dL_law_209 : decode cL_law 209 = .ok (.iconst 0, 1) := by decide +kernel
theorem dL_law_210 : decode cL_law 210 = .ok (.ireturn, 1) := by decide +kernel
theorem dL_law_211 : decode cL_law 211 = .ok (.aload_n 1, 1) := by decide +kernel
theorem dL_law_212 : decode cL_law 212 = .ok (.invokevirtual 28, 3) := by decide +kernel
theorem dL_law_215 : decode cL_law 215 = .ok (.aload_n 2, 1) := by decide +kernel
theorem dL_law_216 : decode cL_law 216 = .ok (.invokevirtual 31, 3) := by decide +kernel
theorem dL_law_219 : decode cL_law 219 = .ok (.if_icmp .eq 486, 3) := by decide +kernel
theorem dL_law_222 : decode cL_law 222 = .ok (.iconst 0, 1) := by decide +kernel
theorem dL_law_223 : decode cL_law 223 = .ok (.ireturn, 1) := by decide +kernel
theorem dL_law_224 : decode cL_law 224 = .ok (.aload_n 1, 1) := by decide +kernel
theorem dL_law_225 : decode cL_law 225 = .ok (.aload_n 0, 1) := by decide +kernel
theorem dL_law_226 : decode cL_law 226 = .ok (.iload_n 3, 1) := by decide +kernel
theorem dL_law_227 : decode cL_law 227 = .ok (.iconst 1, 1) := by decide +kernel
theorem dL_law_228 : decode cL_law 228 = .ok (.iadd, 1) := by decide +kernel
theorem dL_law_229 : decode cL_law 229 = .ok (.iaload, 1) := by decide +kernel
theorem dL_law_230 : decode cL_law 230 = .ok (.invokevirtual 32, 3) := by decide +kernel
theorem dL_law_233 : decode cL_law 233 = .ok (.aload_n 2, 1) := by decide +kernel
theorem dL_law_234 : decode cL_law 234 = .ok (.aload_n 0, 1) := by decide +kernel
theorem dL_law_235 : decode cL_law 235 = .ok (.iload_n 3, 1) := by decide +kernel
theorem dL_law_236 : decode cL_law 236 = .ok (.iconst 1, 1) := by decide +kernel
theorem dL_law_237 : decode cL_law 237 = .ok (.iadd, 1) := by decide +kernel
theorem dL_law_238 : decode cL_law 238 = .ok (.iaload, 1) := by decide +kernel
theorem dL_law_239 : decode cL_law 239 = .ok (.invokevirtual 35, 3) := by decide +kernel
theorem dL_law_242 : decode cL_law 242 = .ok (.if_icmp .eq 463, 3) := by decide +kernel
theorem dL_law_245 : decode cL_law 245 = .ok (.iconst 0, 1) := by decide +kernel
theorem dL_law_246 : decode cL_law 246 = .ok (.ireturn, 1) := by decide +kernel
theorem dL_law_247 : decode cL_law 247 = .ok (.aload_n 1, 1) := by decide +kernel
theorem dL_law_248 : decode cL_law 248 = .ok (.aload_n 0, 1) := by decide +kernel
theorem dL_law_249 : decode cL_law 249 = .ok (.iload_n 3, 1) := by decide +kernel
theorem dL_law_250 : decode cL_law 250 = .ok (.iconst 1, 1) := by decide +kernel
theorem dL_law_251 : decode cL_law 251 = .ok (.iadd, 1) := by decide +kernel
theorem dL_law_252 : decode cL_law 252 = .ok (.iaload, 1) := by decide +kernel
theorem dL_law_253 : decode cL_law 253 = .ok (.aload_n 0, 1) := by decide +kernel
theorem dL_law_254 : decode cL_law 254 = .ok (.iload_n 3, 1) := by decide +kernel
theorem dL_law_255 : decode cL_law 255 = .ok (.iconst 2, 1) := by decide +kernel
theorem dL_law_256 : decode cL_law 256 = .ok (.iadd, 1) := by decide +kernel
theorem dL_law_257 : decode cL_law 257 = .ok (.iaload, 1) := by decide +kernel
theorem dL_law_258 : decode cL_law 258 = .ok (.invokevirtual 36, 3) := by decide +kernel
theorem dL_law_261 : decode cL_law 261 = .ok (.aload_n 2, 1) := by decide +kernel
theorem dL_law_262 : decode cL_law 262 = .ok (.aload_n 0, 1) := by decide +kernel
theorem dL_law_263 : decode cL_law 263 = .ok (.iload_n 3, 1) := by decide +kernel
theorem dL_law_264 : decode cL_law 264 = .ok (.iconst 1, 1) := by decide +kernel
theorem dL_law_265 : decode cL_law 265 = .ok (.iadd, 1) := by decide +kernel
theorem dL_law_266 : decode cL_law 266 = .ok (.iaload, 1) := by decide +kernel
theorem dL_law_267 : decode cL_law 267 = .ok (.aload_n 0, 1) := by decide +kernel
theorem dL_law_268 : decode cL_law 268 = .ok (.iload_n 3, 1) := by decide +kernel
theorem dL_law_269 : decode cL_law 269 = .ok (.iconst 2, 1) := by decide +kernel
theorem dL_law_270 : decode cL_law 270 = .ok (.iadd, 1) := by decide +kernel
theorem dL_law_271 : decode cL_law 271 = .ok (.iaload, 1) := by decide +kernel
theorem dL_law_272 : decode cL_law 272 = .ok (.invokevirtual 40, 3) := by decide +kernel
theorem dL_law_275 : decode cL_law 275 = .ok (.if_icmp .eq 430, 3) := by decide +kernel
theorem dL_law_278 : decode cL_law 278 = .ok (.iconst 0, 1) := by decide +kernel
theorem dL_law_279 : decode cL_law 279 = .ok (.ireturn, 1) := by decide +kernel
theorem dL_law_280 : decode cL_law 280 = .ok (.aload_n 1, 1) := by decide +kernel
theorem dL_law_281 : decode cL_law 281 = .ok (.invokevirtual 41, 3) := by decide +kernel
theorem dL_law_284 : decode cL_law 284 = .ok (.aload_n 2, 1) := by decide +kernel
theorem dL_law_285 : decode cL_law 285 = .ok (.invokevirtual 44, 3) := by decide +kernel
theorem dL_law_288 : decode cL_law 288 = .ok (.if_icmp .eq 417, 3) := by decide +kernel
theorem dL_law_291 : decode cL_law 291 = .ok (.iconst 0, 1) := by decide +kernel
theorem dL_law_292 : decode cL_law 292 = .ok (.ireturn, 1) := by decide +kernel
theorem dL_law_293 : decode cL_law 293 = .ok (.aload_n 1, 1) := by decide +kernel
theorem dL_law_294 : decode cL_law 294 = .ok (.aload_n 0, 1) := by decide +kernel
theorem dL_law_295 : decode cL_law 295 = .ok (.iload_n 3, 1) := by decide +kernel
theorem dL_law_296 : decode cL_law 296 = .ok (.iconst 1, 1) := by decide +kernel
theorem dL_law_297 : decode cL_law 297 = .ok (.iadd, 1) := by decide +kernel
theorem dL_law_298 : decode cL_law 298 = .ok (.iaload, 1) := by decide +kernel
theorem dL_law_299 : decode cL_law 299 = .ok (.invokevirtual 45, 3) := by decide +kernel
theorem dL_law_302 : decode cL_law 302 = .ok (.aload_n 2, 1) := by decide +kernel
theorem dL_law_303 : decode cL_law 303 = .ok (.aload_n 0, 1) := by decide +kernel
theorem dL_law_304 : decode cL_law 304 = .ok (.iload_n 3, 1) := by decide +kernel
theorem dL_law_305 : decode cL_law 305 = .ok (.iconst 1, 1) := by decide +kernel
theorem dL_law_306 : decode cL_law 306 = .ok (.iadd, 1) := by decide +kernel
theorem dL_law_307 : decode cL_law 307 = .ok (.iaload, 1) := by decide +kernel
theorem dL_law_308 : decode cL_law 308 = .ok (.invokevirtual 48, 3) := by decide +kernel
theorem dL_law_311 : decode cL_law 311 = .ok (.if_icmp .eq 394, 3) := by decide +kernel
theorem dL_law_314 : decode cL_law 314 = .ok (.iconst 0, 1) := by decide +kernel
theorem dL_law_315 : decode cL_law 315 = .ok (.ireturn, 1) := by decide +kernel
theorem dL_law_316 : decode cL_law 316 = .ok (.aload_n 1, 1) := by decide +kernel
theorem dL_law_317 : decode cL_law 317 = .ok (.aload_n 0, 1) := by decide +kernel
theorem dL_law_318 : decode cL_law 318 = .ok (.iload_n 3, 1) := by decide +kernel
theorem dL_law_319 : decode cL_law 319 = .ok (.iconst 1, 1) := by decide +kernel
theorem dL_law_320 : decode cL_law 320 = .ok (.iadd, 1) := by decide +kernel
theorem dL_law_321 : decode cL_law 321 = .ok (.iaload, 1) := by decide +kernel
theorem dL_law_322 : decode cL_law 322 = .ok (.invokevirtual 49, 3) := by decide +kernel
theorem dL_law_325 : decode cL_law 325 = .ok (.aload_n 2, 1) := by decide +kernel
theorem dL_law_326 : decode cL_law 326 = .ok (.aload_n 0, 1) := by decide +kernel
theorem dL_law_327 : decode cL_law 327 = .ok (.iload_n 3, 1) := by decide +kernel
theorem dL_law_328 : decode cL_law 328 = .ok (.iconst 1, 1) := by decide +kernel
theorem dL_law_329 : decode cL_law 329 = .ok (.iadd, 1) := by decide +kernel
theorem dL_law_330 : decode cL_law 330 = .ok (.iaload, 1) := by decide +kernel
theorem dL_law_331 : decode cL_law 331 = .ok (.invokevirtual 52, 3) := by decide +kernel
theorem dL_law_334 : decode cL_law 334 = .ok (.if_icmp .eq 371, 3) := by decide +kernel
theorem dL_law_337 : decode cL_law 337 = .ok (.iconst 0, 1) := by decide +kernel
theorem dL_law_338 : decode cL_law 338 = .ok (.ireturn, 1) := by decide +kernel
theorem dL_law_339 : decode cL_law 339 = .ok (.aload_n 1, 1) := by decide +kernel
theorem dL_law_340 : decode cL_law 340 = .ok (.aload_n 0, 1) := by decide +kernel
theorem dL_law_341 : decode cL_law 341 = .ok (.iload_n 3, 1) := by decide +kernel
theorem dL_law_342 : decode cL_law 342 = .ok (.iconst 1, 1) := by decide +kernel
theorem dL_law_343 : decode cL_law 343 = .ok (.iadd, 1) := by decide +kernel
theorem dL_law_344 : decode cL_law 344 = .ok (.iaload, 1) := by decide +kernel
theorem dL_law_345 : decode cL_law 345 = .ok (.aload_n 0, 1) := by decide +kernel
theorem dL_law_346 : decode cL_law 346 = .ok (.iload_n 3, 1) := by decide +kernel
theorem dL_law_347 : decode cL_law 347 = .ok (.iconst 2, 1) := by decide +kernel
theorem dL_law_348 : decode cL_law 348 = .ok (.iadd, 1) := by decide +kernel
theorem dL_law_349 : decode cL_law 349 = .ok (.iaload, 1) := by decide +kernel
theorem dL_law_350 : decode cL_law 350 = .ok (.invokevirtual 53, 3) := by decide +kernel
theorem dL_law_353 : decode cL_law 353 = .ok (.aload_n 2, 1) := by decide +kernel
theorem dL_law_354 : decode cL_law 354 = .ok (.aload_n 0, 1) := by decide +kernel
theorem dL_law_355 : decode cL_law 355 = .ok (.iload_n 3, 1) := by decide +kernel
theorem dL_law_356 : decode cL_law 356 = .ok (.iconst 1, 1) := by decide +kernel
theorem dL_law_357 : decode cL_law 357 = .ok (.iadd, 1) := by decide +kernel
theorem dL_law_358 : decode cL_law 358 = .ok (.iaload, 1) := by decide +kernel
theorem dL_law_359 : decode cL_law 359 = .ok (.aload_n 0, 1) := by decide +kernel
theorem dL_law_360 : decode cL_law 360 = .ok (.iload_n 3, 1) := by decide +kernel
theorem dL_law_361 : decode cL_law 361 = .ok (.iconst 2, 1) := by decide +kernel
theorem dL_law_362 : decode cL_law 362 = .ok (.iadd, 1) := by decide +kernel
theorem dL_law_363 : decode cL_law 363 = .ok (.iaload, 1) := by decide +kernel
theorem dL_law_364 : decode cL_law 364 = .ok (.invokevirtual 56, 3) := by decide +kernel
theorem dL_law_367 : decode cL_law 367 = .ok (.if_icmp .eq 338, 3) := by decide +kernel
theorem dL_law_370 : decode cL_law 370 = .ok (.iconst 0, 1) := by decide +kernel
theorem dL_law_371 : decode cL_law 371 = .ok (.ireturn, 1) := by decide +kernel
theorem dL_law_372 : decode cL_law 372 = .ok (.aload_n 1, 1) := by decide +kernel
theorem dL_law_373 : decode cL_law 373 = .ok (.aload_n 0, 1) := by decide +kernel
theorem dL_law_374 : decode cL_law 374 = .ok (.iload_n 3, 1) := by decide +kernel
theorem dL_law_375 : decode cL_law 375 = .ok (.iconst 1, 1) := by decide +kernel
theorem dL_law_376 : decode cL_law 376 = .ok (.iadd, 1) := by decide +kernel
theorem dL_law_377 : decode cL_law 377 = .ok (.iaload, 1) := by decide +kernel
theorem dL_law_378 : decode cL_law 378 = .ok (.aload_n 0, 1) := by decide +kernel
theorem dL_law_379 : decode cL_law 379 = .ok (.iload_n 3, 1) := by decide +kernel
theorem dL_law_380 : decode cL_law 380 = .ok (.iconst 2, 1) := by decide +kernel
theorem dL_law_381 : decode cL_law 381 = .ok (.iadd, 1) := by decide +kernel
theorem dL_law_382 : decode cL_law 382 = .ok (.iaload, 1) := by decide +kernel
theorem dL_law_383 : decode cL_law 383 = .ok (.aload_n 0, 1) := by decide +kernel
theorem dL_law_384 : decode cL_law 384 = .ok (.iload_n 3, 1) := by decide +kernel
theorem dL_law_385 : decode cL_law 385 = .ok (.iconst 3, 1) := by decide +kernel
theorem dL_law_386 : decode cL_law 386 = .ok (.iadd, 1) := by decide +kernel
theorem dL_law_387 : decode cL_law 387 = .ok (.iaload, 1) := by decide +kernel
theorem dL_law_388 : decode cL_law 388 = .ok (.invokevirtual 57, 3) := by decide +kernel
theorem dL_law_391 : decode cL_law 391 = .ok (.aload_n 2, 1) := by decide +kernel
theorem dL_law_392 : decode cL_law 392 = .ok (.aload_n 0, 1) := by decide +kernel
theorem dL_law_393 : decode cL_law 393 = .ok (.iload_n 3, 1) := by decide +kernel
theorem dL_law_394 : decode cL_law 394 = .ok (.iconst 1, 1) := by decide +kernel
theorem dL_law_395 : decode cL_law 395 = .ok (.iadd, 1) := by decide +kernel
theorem dL_law_396 : decode cL_law 396 = .ok (.iaload, 1) := by decide +kernel
theorem dL_law_397 : decode cL_law 397 = .ok (.aload_n 0, 1) := by decide +kernel
theorem dL_law_398 : decode cL_law 398 = .ok (.iload_n 3, 1) := by decide +kernel
theorem dL_law_399 : decode cL_law 399 = .ok (.iconst 2, 1) := by decide +kernel
theorem dL_law_400 : decode cL_law 400 = .ok (.iadd, 1) := by decide +kernel
theorem dL_law_401 : decode cL_law 401 = .ok (.iaload, 1) := by decide +kernel
theorem dL_law_402 : decode cL_law 402 = .ok (.aload_n 0, 1) := by decide +kernel
theorem dL_law_403 : decode cL_law 403 = .ok (.iload_n 3, 1) := by decide +kernel
theorem dL_law_404 : decode cL_law 404 = .ok (.iconst 3, 1) := by decide +kernel
theorem dL_law_405 : decode cL_law 405 = .ok (.iadd, 1) := by decide +kernel
theorem dL_law_406 : decode cL_law 406 = .ok (.iaload, 1) := by decide +kernel
theorem dL_law_407 : decode cL_law 407 = .ok (.invokevirtual 60, 3) := by decide +kernel
theorem dL_law_410 : decode cL_law 410 = .ok (.if_icmp .eq 295, 3) := by decide +kernel
theorem dL_law_413 : decode cL_law 413 = .ok (.iconst 0, 1) := by decide +kernel
theorem dL_law_414 : decode cL_law 414 = .ok (.ireturn, 1) := by decide +kernel
theorem dL_law_415 : decode cL_law 415 = .ok (.aload_n 1, 1) := by decide +kernel
theorem dL_law_416 : decode cL_law 416 = .ok (.aload_n 0, 1) := by decide +kernel
theorem dL_law_417 : decode cL_law 417 = .ok (.iload_n 3, 1) := by decide +kernel
theorem dL_law_418 : decode cL_law 418 = .ok (.iconst 1, 1) := by decide +kernel
theorem dL_law_419 : decode cL_law 419 = .ok (.iadd, 1) := by decide +kernel
theorem dL_law_420 : decode cL_law 420 = .ok (.iaload, 1) := by decide +kernel
theorem dL_law_421 : decode cL_law 421 = .ok (.aload_n 0, 1) := by decide +kernel
theorem dL_law_422 : decode cL_law 422 = .ok (.iload_n 3, 1) := by decide +kernel
theorem dL_law_423 : decode cL_law 423 = .ok (.iconst 2, 1) := by decide +kernel
theorem dL_law_424 : decode cL_law 424 = .ok (.iadd, 1) := by decide +kernel
theorem dL_law_425 : decode cL_law 425 = .ok (.iaload, 1) := by decide +kernel
theorem dL_law_426 : decode cL_law 426 = .ok (.invokevirtual 61, 3) := by decide +kernel
theorem dL_law_429 : decode cL_law 429 = .ok (.aload_n 2, 1) := by decide +kernel
theorem dL_law_430 : decode cL_law 430 = .ok (.aload_n 0, 1) := by decide +kernel
theorem dL_law_431 : decode cL_law 431 = .ok (.iload_n 3, 1) := by decide +kernel
theorem dL_law_432 : decode cL_law 432 = .ok (.iconst 1, 1) := by decide +kernel
theorem dL_law_433 : decode cL_law 433 = .ok (.iadd, 1) := by decide +kernel
theorem dL_law_434 : decode cL_law 434 = .ok (.iaload, 1) := by decide +kernel
theorem dL_law_435 : decode cL_law 435 = .ok (.aload_n 0, 1) := by decide +kernel
theorem dL_law_436 : decode cL_law 436 = .ok (.iload_n 3, 1) := by decide +kernel
theorem dL_law_437 : decode cL_law 437 = .ok (.iconst 2, 1) := by decide +kernel
theorem dL_law_438 : decode cL_law 438 = .ok (.iadd, 1) := by decide +kernel
theorem dL_law_439 : decode cL_law 439 = .ok (.iaload, 1) := by decide +kernel
theorem dL_law_440 : decode cL_law 440 = .ok (.invokevirtual 64, 3) := by decide +kernel
theorem dL_law_443 : decode cL_law 443 = .ok (.if_icmp .eq 262, 3) := by decide +kernel
theorem dL_law_446 : decode cL_law 446 = .ok (.iconst 0, 1) := by decide +kernel
theorem dL_law_447 : decode cL_law 447 = .ok (.ireturn, 1) := by decide +kernel
theorem dL_law_448 : decode cL_law 448 = .ok (.aload_n 1, 1) := by decide +kernel
theorem dL_law_449 : decode cL_law 449 = .ok (.aload_n 0, 1) := by decide +kernel
theorem dL_law_450 : decode cL_law 450 = .ok (.iload_n 3, 1) := by decide +kernel
theorem dL_law_451 : decode cL_law 451 = .ok (.iconst 1, 1) := by decide +kernel
theorem dL_law_452 : decode cL_law 452 = .ok (.iadd, 1) := by decide +kernel
theorem dL_law_453 : decode cL_law 453 = .ok (.iaload, 1) := by decide +kernel
theorem dL_law_454 : decode cL_law 454 = .ok (.invokevirtual 65, 3) := by decide +kernel
theorem dL_law_457 : decode cL_law 457 = .ok (.aload_n 2, 1) := by decide +kernel
theorem dL_law_458 : decode cL_law 458 = .ok (.aload_n 0, 1) := by decide +kernel
theorem dL_law_459 : decode cL_law 459 = .ok (.iload_n 3, 1) := by decide +kernel
theorem dL_law_460 : decode cL_law 460 = .ok (.iconst 1, 1) := by decide +kernel
theorem dL_law_461 : decode cL_law 461 = .ok (.iadd, 1) := by decide +kernel
theorem dL_law_462 : decode cL_law 462 = .ok (.iaload, 1) := by decide +kernel
theorem dL_law_463 : decode cL_law 463 = .ok (.invokevirtual 68, 3) := by decide +kernel
theorem dL_law_466 : decode cL_law 466 = .ok (.if_icmp .eq 239, 3) := by decide +kernel
theorem dL_law_469 : decode cL_law 469 = .ok (.iconst 0, 1) := by decide +kernel
theorem dL_law_470 : decode cL_law 470 = .ok (.ireturn, 1) := by decide +kernel
theorem dL_law_471 : decode cL_law 471 = .ok (.aload_n 1, 1) := by decide +kernel
theorem dL_law_472 : decode cL_law 472 = .ok (.aload_n 0, 1) := by decide +kernel
theorem dL_law_473 : decode cL_law 473 = .ok (.iload_n 3, 1) := by decide +kernel
theorem dL_law_474 : decode cL_law 474 = .ok (.iconst 1, 1) := by decide +kernel
theorem dL_law_475 : decode cL_law 475 = .ok (.iadd, 1) := by decide +kernel
theorem dL_law_476 : decode cL_law 476 = .ok (.iaload, 1) := by decide +kernel
theorem dL_law_477 : decode cL_law 477 = .ok (.invokevirtual 69, 3) := by decide +kernel
theorem dL_law_480 : decode cL_law 480 = .ok (.aload_n 2, 1) := by decide +kernel
theorem dL_law_481 : decode cL_law 481 = .ok (.aload_n 0, 1) := by decide +kernel
theorem dL_law_482 : decode cL_law 482 = .ok (.iload_n 3, 1) := by decide +kernel
theorem dL_law_483 : decode cL_law 483 = .ok (.iconst 1, 1) := by decide +kernel
theorem dL_law_484 : decode cL_law 484 = .ok (.iadd, 1) := by decide +kernel
theorem dL_law_485 : decode cL_law 485 = .ok (.iaload, 1) := by decide +kernel
theorem dL_law_486 : decode cL_law 486 = .ok (.invokevirtual 72, 3) := by decide +kernel
theorem dL_law_489 : decode cL_law 489 = .ok (.if_icmp .eq 216, 3) := by decide +kernel
theorem dL_law_492 : decode cL_law 492 = .ok (.iconst 0, 1) := by decide +kernel
theorem dL_law_493 : decode cL_law 493 = .ok (.ireturn, 1) := by decide +kernel
theorem dL_law_494 : decode cL_law 494 = .ok (.aload_n 1, 1) := by decide +kernel
theorem dL_law_495 : decode cL_law 495 = .ok (.aload_n 0, 1) := by decide +kernel
theorem dL_law_496 : decode cL_law 496 = .ok (.iload_n 3, 1) := by decide +kernel
theorem dL_law_497 : decode cL_law 497 = .ok (.iconst 1, 1) := by decide +kernel
theorem dL_law_498 : decode cL_law 498 = .ok (.iadd, 1) := by decide +kernel
theorem dL_law_499 : decode cL_law 499 = .ok (.iaload, 1) := by decide +kernel
theorem dL_law_500 : decode cL_law 500 = .ok (.aload_n 0, 1) := by decide +kernel
theorem dL_law_501 : decode cL_law 501 = .ok (.iload_n 3, 1) := by decide +kernel
theorem dL_law_502 : decode cL_law 502 = .ok (.iconst 2, 1) := by decide +kernel
theorem dL_law_503 : decode cL_law 503 = .ok (.iadd, 1) := by decide +kernel
theorem dL_law_504 : decode cL_law 504 = .ok (.iaload, 1) := by decide +kernel
theorem dL_law_505 : decode cL_law 505 = .ok (.invokevirtual 73, 3) := by decide +kernel
theorem dL_law_508 : decode cL_law 508 = .ok (.aload_n 2, 1) := by decide +kernel
theorem dL_law_509 : decode cL_law 509 = .ok (.aload_n 0, 1) := by decide +kernel
theorem dL_law_510 : decode cL_law 510 = .ok (.iload_n 3, 1) := by decide +kernel
theorem dL_law_511 : decode cL_law 511 = .ok (.iconst 1, 1) := by decide +kernel
theorem dL_law_512 : decode cL_law 512 = .ok (.iadd, 1) := by decide +kernel
theorem dL_law_513 : decode cL_law 513 = .ok (.iaload, 1) := by decide +kernel
theorem dL_law_514 : decode cL_law 514 = .ok (.aload_n 0, 1) := by decide +kernel
theorem dL_law_515 : decode cL_law 515 = .ok (.iload_n 3, 1) := by decide +kernel
theorem dL_law_516 : decode cL_law 516 = .ok (.iconst 2, 1) := by decide +kernel
theorem dL_law_517 : decode cL_law 517 = .ok (.iadd, 1) := by decide +kernel
theorem dL_law_518 : decode cL_law 518 = .ok (.iaload, 1) := by decide +kernel
theorem dL_law_519 : decode cL_law 519 = .ok (.invokevirtual 76, 3) := by decide +kernel
theorem dL_law_522 : decode cL_law 522 = .ok (.if_icmp .eq 183, 3) := by decide +kernel
theorem dL_law_525 : decode cL_law 525 = .ok (.iconst 0, 1) := by decide +kernel
theorem dL_law_526 : decode cL_law 526 = .ok (.ireturn, 1) := by decide +kernel
theorem dL_law_527 : decode cL_law 527 = .ok (.aload_n 1, 1) := by decide +kernel
theorem dL_law_528 : decode cL_law 528 = .ok (.aload_n 0, 1) := by decide +kernel
theorem dL_law_529 : decode cL_law 529 = .ok (.iload_n 3, 1) := by decide +kernel
theorem dL_law_530 : decode cL_law 530 = .ok (.iconst 1, 1) := by decide +kernel
theorem dL_law_531 : decode cL_law 531 = .ok (.iadd, 1) := by decide +kernel
theorem dL_law_532 : decode cL_law 532 = .ok (.iaload, 1) := by decide +kernel
theorem dL_law_533 : decode cL_law 533 = .ok (.aload_n 0, 1) := by decide +kernel
theorem dL_law_534 : decode cL_law 534 = .ok (.iload_n 3, 1) := by decide +kernel
theorem dL_law_535 : decode cL_law 535 = .ok (.iconst 2, 1) := by decide +kernel
theorem dL_law_536 : decode cL_law 536 = .ok (.iadd, 1) := by decide +kernel
theorem dL_law_537 : decode cL_law 537 = .ok (.iaload, 1) := by decide +kernel
theorem dL_law_538 : decode cL_law 538 = .ok (.aload_n 0, 1) := by decide +kernel
theorem dL_law_539 : decode cL_law 539 = .ok (.iload_n 3, 1) := by decide +kernel
theorem dL_law_540 : decode cL_law 540 = .ok (.iconst 3, 1) := by decide +kernel
theorem dL_law_541 : decode cL_law 541 = .ok (.iadd, 1) := by decide +kernel
theorem dL_law_542 : decode cL_law 542 = .ok (.iaload, 1) := by decide +kernel
theorem dL_law_543 : decode cL_law 543 = .ok (.aload_n 0, 1) := by decide +kernel
theorem dL_law_544 : decode cL_law 544 = .ok (.iload_n 3, 1) := by decide +kernel
theorem dL_law_545 : decode cL_law 545 = .ok (.iconst 4, 1) := by decide +kernel
theorem dL_law_546 : decode cL_law 546 = .ok (.iadd, 1) := by decide +kernel
theorem dL_law_547 : decode cL_law 547 = .ok (.iaload, 1) := by decide +kernel
theorem dL_law_548 : decode cL_law 548 = .ok (.invokevirtual 77, 3) := by decide +kernel
theorem dL_law_551 : decode cL_law 551 = .ok (.aload_n 2, 1) := by decide +kernel
theorem dL_law_552 : decode cL_law 552 = .ok (.aload_n 0, 1) := by decide +kernel
theorem dL_law_553 : decode cL_law 553 = .ok (.iload_n 3, 1) := by decide +kernel
theorem dL_law_554 : decode cL_law 554 = .ok (.iconst 1, 1) := by decide +kernel
theorem dL_law_555 : decode cL_law 555 = .ok (.iadd, 1) := by decide +kernel
theorem dL_law_556 : decode cL_law 556 = .ok (.iaload, 1) := by decide +kernel
theorem dL_law_557 : decode cL_law 557 = .ok (.aload_n 0, 1) := by decide +kernel
theorem dL_law_558 : decode cL_law 558 = .ok (.iload_n 3, 1) := by decide +kernel
theorem dL_law_559 : decode cL_law 559 = .ok (.iconst 2, 1) := by decide +kernel
theorem dL_law_560 : decode cL_law 560 = .ok (.iadd, 1) := by decide +kernel
theorem dL_law_561 : decode cL_law 561 = .ok (.iaload, 1) := by decide +kernel
theorem dL_law_562 : decode cL_law 562 = .ok (.aload_n 0, 1) := by decide +kernel
theorem dL_law_563 : decode cL_law 563 = .ok (.iload_n 3, 1) := by decide +kernel
theorem dL_law_564 : decode cL_law 564 = .ok (.iconst 3, 1) := by decide +kernel
theorem dL_law_565 : decode cL_law 565 = .ok (.iadd, 1) := by decide +kernel
theorem dL_law_566 : decode cL_law 566 = .ok (.iaload, 1) := by decide +kernel
theorem dL_law_567 : decode cL_law 567 = .ok (.aload_n 0, 1) := by decide +kernel
theorem dL_law_568 : decode cL_law 568 = .ok (.iload_n 3, 1) := by decide +kernel
theorem dL_law_569 : decode cL_law 569 = .ok (.iconst 4, 1) := by decide +kernel
theorem dL_law_570 : decode cL_law 570 = .ok (.iadd, 1) := by decide +kernel
theorem dL_law_571 : decode cL_law 571 = .ok (.iaload, 1) := by decide +kernel
theorem dL_law_572 : decode cL_law 572 = .ok (.invokevirtual 81, 3) := by decide +kernel
theorem dL_law_575 : decode cL_law 575 = .ok (.if_icmp .eq 130, 3) := by decide +kernel
theorem dL_law_578 : decode cL_law 578 = .ok (.iconst 0, 1) := by decide +kernel
theorem dL_law_579 : decode cL_law 579 = .ok (.ireturn, 1) := by decide +kernel
theorem dL_law_580 : decode cL_law 580 = .ok (.aload_n 1, 1) := by decide +kernel
theorem dL_law_581 : decode cL_law 581 = .ok (.aload_n 0, 1) := by decide +kernel
theorem dL_law_582 : decode cL_law 582 = .ok (.iload_n 3, 1) := by decide +kernel
theorem dL_law_583 : decode cL_law 583 = .ok (.iconst 1, 1) := by decide +kernel
theorem dL_law_584 : decode cL_law 584 = .ok (.iadd, 1) := by decide +kernel
theorem dL_law_585 : decode cL_law 585 = .ok (.iaload, 1) := by decide +kernel
theorem dL_law_586 : decode cL_law 586 = .ok (.i2l, 1) := by decide +kernel
theorem dL_law_587 : decode cL_law 587 = .ok (.bipush 32, 2) := by decide +kernel
theorem dL_law_589 : decode cL_law 589 = .ok (.lshl, 1) := by decide +kernel
theorem dL_law_590 : decode cL_law 590 = .ok (.aload_n 0, 1) := by decide +kernel
theorem dL_law_591 : decode cL_law 591 = .ok (.iload_n 3, 1) := by decide +kernel
theorem dL_law_592 : decode cL_law 592 = .ok (.iconst 2, 1) := by decide +kernel
theorem dL_law_593 : decode cL_law 593 = .ok (.iadd, 1) := by decide +kernel
theorem dL_law_594 : decode cL_law 594 = .ok (.iaload, 1) := by decide +kernel
theorem dL_law_595 : decode cL_law 595 = .ok (.i2l, 1) := by decide +kernel
theorem dL_law_596 : decode cL_law 596 = .ok (.ldc2_w 82, 3) := by decide +kernel
theorem dL_law_599 : decode cL_law 599 = .ok (.land, 1) := by decide +kernel
theorem dL_law_600 : decode cL_law 600 = .ok (.lor, 1) := by decide +kernel
theorem dL_law_601 : decode cL_law 601 = .ok (.invokevirtual 84, 3) := by decide +kernel
theorem dL_law_604 : decode cL_law 604 = .ok (.aload_n 2, 1) := by decide +kernel
theorem dL_law_605 : decode cL_law 605 = .ok (.aload_n 0, 1) := by decide +kernel
theorem dL_law_606 : decode cL_law 606 = .ok (.iload_n 3, 1) := by decide +kernel
theorem dL_law_607 : decode cL_law 607 = .ok (.iconst 1, 1) := by decide +kernel
theorem dL_law_608 : decode cL_law 608 = .ok (.iadd, 1) := by decide +kernel
theorem dL_law_609 : decode cL_law 609 = .ok (.iaload, 1) := by decide +kernel
theorem dL_law_610 : decode cL_law 610 = .ok (.i2l, 1) := by decide +kernel
theorem dL_law_611 : decode cL_law 611 = .ok (.bipush 32, 2) := by decide +kernel
theorem dL_law_613 : decode cL_law 613 = .ok (.lshl, 1) := by decide +kernel
theorem dL_law_614 : decode cL_law 614 = .ok (.aload_n 0, 1) := by decide +kernel
theorem dL_law_615 : decode cL_law 615 = .ok (.iload_n 3, 1) := by decide +kernel
theorem dL_law_616 : decode cL_law 616 = .ok (.iconst 2, 1) := by decide +kernel
theorem dL_law_617 : decode cL_law 617 = .ok (.iadd, 1) := by decide +kernel
theorem dL_law_618 : decode cL_law 618 = .ok (.iaload, 1) := by decide +kernel
theorem dL_law_619 : decode cL_law 619 = .ok (.i2l, 1) := by decide +kernel
theorem dL_law_620 : decode cL_law 620 = .ok (.ldc2_w 82, 3) := by decide +kernel
theorem dL_law_623 : decode cL_law 623 = .ok (.land, 1) := by decide +kernel
theorem dL_law_624 : decode cL_law 624 = .ok (.lor, 1) := by decide +kernel
theorem dL_law_625 : decode cL_law 625 = .ok (.invokevirtual 88, 3) := by decide +kernel
theorem dL_law_628 : decode cL_law 628 = .ok (.if_icmp .eq 77, 3) := by decide +kernel
theorem dL_law_631 : decode cL_law 631 = .ok (.iconst 0, 1) := by decide +kernel
theorem dL_law_632 : decode cL_law 632 = .ok (.ireturn, 1) := by decide +kernel
theorem dL_law_633 : decode cL_law 633 = .ok (.aload_n 1, 1) := by decide +kernel
theorem dL_law_634 : decode cL_law 634 = .ok (.invokevirtual 89, 3) := by decide +kernel
theorem dL_law_637 : decode cL_law 637 = .ok (.aload_n 2, 1) := by decide +kernel
theorem dL_law_638 : decode cL_law 638 = .ok (.invokevirtual 92, 3) := by decide +kernel
theorem dL_law_641 : decode cL_law 641 = .ok (.if_icmp .eq 64, 3) := by decide +kernel
theorem dL_law_644 : decode cL_law 644 = .ok (.iconst 0, 1) := by decide +kernel
theorem dL_law_645 : decode cL_law 645 = .ok (.ireturn, 1) := by decide +kernel
theorem dL_law_646 : decode cL_law 646 = .ok (.aload_n 1, 1) := by decide +kernel
theorem dL_law_647 : decode cL_law 647 = .ok (.invokevirtual 93, 3) := by decide +kernel
theorem dL_law_650 : decode cL_law 650 = .ok (.aload_n 2, 1) := by decide +kernel
theorem dL_law_651 : decode cL_law 651 = .ok (.invokevirtual 96, 3) := by decide +kernel
theorem dL_law_654 : decode cL_law 654 = .ok (.if_icmp .eq 51, 3) := by decide +kernel
theorem dL_law_657 : decode cL_law 657 = .ok (.iconst 0, 1) := by decide +kernel
theorem dL_law_658 : decode cL_law 658 = .ok (.ireturn, 1) := by decide +kernel
theorem dL_law_659 : decode cL_law 659 = .ok (.aload_n 1, 1) := by decide +kernel
theorem dL_law_660 : decode cL_law 660 = .ok (.aload_n 0, 1) := by decide +kernel
theorem dL_law_661 : decode cL_law 661 = .ok (.iload_n 3, 1) := by decide +kernel
theorem dL_law_662 : decode cL_law 662 = .ok (.iconst 1, 1) := by decide +kernel
theorem dL_law_663 : decode cL_law 663 = .ok (.iadd, 1) := by decide +kernel
theorem dL_law_664 : decode cL_law 664 = .ok (.iaload, 1) := by decide +kernel
theorem dL_law_665 : decode cL_law 665 = .ok (.invokevirtual 97, 3) := by decide +kernel
theorem dL_law_668 : decode cL_law 668 = .ok (.aload_n 2, 1) := by decide +kernel
theorem dL_law_669 : decode cL_law 669 = .ok (.aload_n 0, 1) := by decide +kernel
theorem dL_law_670 : decode cL_law 670 = .ok (.iload_n 3, 1) := by decide +kernel
theorem dL_law_671 : decode cL_law 671 = .ok (.iconst 1, 1) := by decide +kernel
theorem dL_law_672 : decode cL_law 672 = .ok (.iadd, 1) := by decide +kernel
theorem dL_law_673 : decode cL_law 673 = .ok (.iaload, 1) := by decide +kernel
theorem dL_law_674 : decode cL_law 674 = .ok (.invokevirtual 100, 3) := by decide +kernel
theorem dL_law_677 : decode cL_law 677 = .ok (.if_icmp .eq 28, 3) := by decide +kernel
theorem dL_law_680 : decode cL_law 680 = .ok (.iconst 0, 1) := by decide +kernel
theorem dL_law_681 : decode cL_law 681 = .ok (.ireturn, 1) := by decide +kernel
theorem dL_law_682 : decode cL_law 682 = .ok (.aload_n 1, 1) := by decide +kernel
theorem dL_law_683 : decode cL_law 683 = .ok (.aload_n 0, 1) := by decide +kernel
theorem dL_law_684 : decode cL_law 684 = .ok (.iload_n 3, 1) := by decide +kernel
theorem dL_law_685 : decode cL_law 685 = .ok (.iconst 1, 1) := by decide +kernel
theorem dL_law_686 : decode cL_law 686 = .ok (.iadd, 1) := by decide +kernel
theorem dL_law_687 : decode cL_law 687 = .ok (.iaload, 1) := by decide +kernel
theorem dL_law_688 : decode cL_law 688 = .ok (.invokevirtual 101, 3) := by decide +kernel
theorem dL_law_691 : decode cL_law 691 = .ok (.aload_n 2, 1) := by decide +kernel
theorem dL_law_692 : decode cL_law 692 = .ok (.aload_n 0, 1) := by decide +kernel
theorem dL_law_693 : decode cL_law 693 = .ok (.iload_n 3, 1) := by decide +kernel
theorem dL_law_694 : decode cL_law 694 = .ok (.iconst 1, 1) := by decide +kernel
theorem dL_law_695 : decode cL_law 695 = .ok (.iadd, 1) := by decide +kernel
theorem dL_law_696 : decode cL_law 696 = .ok (.iaload, 1) := by decide +kernel
theorem dL_law_697 : decode cL_law 697 = .ok (.invokevirtual 104, 3) := by decide +kernel
theorem dL_law_700 : decode cL_law 700 = .ok (.if_icmp .eq 5, 3) := by decide +kernel
theorem dL_law_703 : decode cL_law 703 = .ok (.iconst 0, 1) := by decide +kernel
theorem dL_law_704 : decode cL_law 704 = .ok (.ireturn, 1) := by decide +kernel
theorem dL_law_705 : decode cL_law 705 = .ok (.iinc 3 5, 3) := by decide +kernel
theorem dL_law_708 : decode cL_law 708 = .ok (.goto (-690), 3) := by decide +kernel
theorem dL_law_711 : decode cL_law 711 = .ok (.iconst 1, 1) := by decide +kernel
theorem dL_law_712 : decode cL_law 712 = .ok (.ireturn, 1) := by decide +kernel
end
section
theorem mB0 : pB 0 = cX0_init := rfl
theorem mC0 : pC 0 = 0 := rfl
theorem mR0 : pR 0 = none := rfl
theorem mN0 : pN 0 = 1 := rfl
theorem mK0 : pK 0 = 2 := rfl
theorem mB1 : pB 1 = cX0_copyFrom := rfl
theorem mC1 : pC 1 = 0 := rfl
theorem mR1 : pR 1 = none := rfl
theorem mN1 : pN 1 = 1 := rfl
theorem mB2 : pB 2 = cX0_isPowered := rfl
theorem mC2 : pC 2 = 0 := rfl
theorem mR2 : pR 2 = (some .boolean) := rfl
theorem mN2 : pN 2 = 0 := rfl
theorem mB3 : pB 3 = cX0_isReady := rfl
theorem mC3 : pC 3 = 0 := rfl
theorem mR3 : pR 3 = (some .boolean) := rfl
theorem mN3 : pN 3 = 0 := rfl
theorem mB4 : pB 4 = cX0_writesLeft := rfl
theorem mC4 : pC 4 = 0 := rfl
theorem mR4 : pR 4 = (some .int) := rfl
theorem mN4 : pN 4 = 0 := rfl
theorem mB5 : pB 5 = cX0_active := rfl
theorem mC5 : pC 5 = 0 := rfl
theorem mR5 : pR 5 = (some .int) := rfl
theorem mN5 : pN 5 = 0 := rfl
theorem mB6 : pB 6 = cX0_version := rfl
theorem mC6 : pC 6 = 0 := rfl
theorem mR6 : pR 6 = (some .int) := rfl
theorem mN6 : pN 6 = 0 := rfl
theorem mB7 : pB 7 = cX0_sequence := rfl
theorem mC7 : pC 7 = 0 := rfl
theorem mR7 : pR 7 = (some .int) := rfl
theorem mN7 : pN 7 = 0 := rfl
theorem mB8 : pB 8 = cX0_badRecords := rfl
theorem mC8 : pC 8 = 0 := rfl
theorem mR8 : pR 8 = (some .int) := rfl
theorem mN8 : pN 8 = 0 := rfl
theorem mB9 : pB 9 = cX0_pageOf := rfl
theorem mC9 : pC 9 = 0 := rfl
theorem mR9 : pR 9 = (some (.object "SettingsVault$Page")) := rfl
theorem mN9 : pN 9 = 1 := rfl
theorem mB10 : pB 10 = cX0_presentLayout := rfl
theorem mC10 : pC 10 = 0 := rfl
theorem mR10 : pR 10 = (some (.object "SettingsVault$Layout")) := rfl
theorem mN10 : pN 10 = 0 := rfl
theorem mB11 : pB 11 = cX0_valueOf := rfl
theorem mC11 : pC 11 = 0 := rfl
theorem mR11 : pR 11 = (some .int) := rfl
theorem mN11 : pN 11 = 1 := rfl
theorem mB12 : pB 12 = cX0_placeOf := rfl
theorem mC12 : pC 12 = 0 := rfl
theorem mR12 : pR 12 = (some .int) := rfl
theorem mN12 : pN 12 = 1 := rfl
theorem mB13 : pB 13 = cX0_countRoom := rfl
theorem mC13 : pC 13 = 0 := rfl
theorem mR13 : pR 13 = (some .int) := rfl
theorem mN13 : pN 13 = 0 := rfl
theorem mB14 : pB 14 = cX0_countSettings := rfl
theorem mC14 : pC 14 = 0 := rfl
theorem mR14 : pR 14 = (some .int) := rfl
theorem mN14 : pN 14 = 0 := rfl
theorem mB15 : pB 15 = cX0_countChangedSettings := rfl
theorem mC15 : pC 15 = 0 := rfl
theorem mR15 : pR 15 = (some .int) := rfl
theorem mN15 : pN 15 = 0 := rfl
theorem mB16 : pB 16 = cX0_failBehind := rfl
theorem mC16 : pC 16 = 0 := rfl
theorem mR16 : pR 16 = none := rfl
theorem mN16 : pN 16 = 1 := rfl
theorem mB17 : pB 17 = cX0_restart := rfl
theorem mC17 : pC 17 = 0 := rfl
theorem mR17 : pR 17 = none := rfl
theorem mN17 : pN 17 = 0 := rfl
theorem mB18 : pB 18 = cX0_findActive := rfl
theorem mC18 : pC 18 = 0 := rfl
theorem mR18 : pR 18 = (some .int) := rfl
theorem mN18 : pN 18 = 0 := rfl
theorem mB19 : pB 19 = cX0_takeDefaults := rfl
theorem mC19 : pC 19 = 0 := rfl
theorem mR19 : pR 19 = none := rfl
theorem mN19 : pN 19 = 0 := rfl
theorem mB20 : pB 20 = cX0_readRecords := rfl
theorem mC20 : pC 20 = 0 := rfl
theorem mR20 : pR 20 = none := rfl
theorem mN20 : pN 20 = 1 := rfl
theorem mB21 : pB 21 = cX0_change := rfl
theorem mC21 : pC 21 = 0 := rfl
theorem mR21 : pR 21 = (some .int) := rfl
theorem mN21 : pN 21 = 2 := rfl
theorem mB22 : pB 22 = cX0_moveTo := rfl
theorem mC22 : pC 22 = 0 := rfl
theorem mR22 : pR 22 = (some .int) := rfl
theorem mN22 : pN 22 = 1 := rfl
theorem mB23 : pB 23 = cX0_migratedValueOf := rfl
theorem mC23 : pC 23 = 0 := rfl
theorem mR23 : pR 23 = (some .int) := rfl
theorem mN23 : pN 23 = 2 := rfl
theorem mB24 : pB 24 = cX0_migrateValues := rfl
theorem mC24 : pC 24 = 0 := rfl
theorem mR24 : pR 24 = none := rfl
theorem mN24 : pN 24 = 1 := rfl
theorem mB25 : pB 25 = cX0_reset := rfl
theorem mC25 : pC 25 = 0 := rfl
theorem mR25 : pR 25 = (some .int) := rfl
theorem mN25 : pN 25 = 1 := rfl
theorem mB26 : pB 26 = cX0_fillOther := rfl
theorem mC26 : pC 26 = 0 := rfl
theorem mR26 : pR 26 = (some .int) := rfl
theorem mN26 : pN 26 = 1 := rfl
theorem mB27 : pB 27 = cX0_writeRecord := rfl
theorem mC27 : pC 27 = 0 := rfl
theorem mR27 : pR 27 = (some .int) := rfl
theorem mN27 : pN 27 = 5 := rfl
theorem mB28 : pB 28 = cX0_writeHead := rfl
theorem mC28 : pC 28 = 0 := rfl
theorem mR28 : pR 28 = (some .int) := rfl
theorem mN28 : pN 28 = 3 := rfl
theorem mB29 : pB 29 = cX0_writeThree := rfl
theorem mC29 : pC 29 = 0 := rfl
theorem mR29 : pR 29 = (some .int) := rfl
theorem mN29 : pN 29 = 5 := rfl
theorem mB30 : pB 30 = cX0_writeCell := rfl
theorem mC30 : pC 30 = 0 := rfl
theorem mR30 : pR 30 = (some .int) := rfl
theorem mN30 : pN 30 = 3 := rfl
theorem mB31 : pB 31 = cX1_init := rfl
theorem mC31 : pC 31 = 1 := rfl
theorem mR31 : pR 31 = none := rfl
theorem mN31 : pN 31 = 0 := rfl
theorem mK31 : pK 31 = 2 := rfl
theorem mB32 : pB 32 = cX1_has := rfl
theorem mC32 : pC 32 = 1 := rfl
theorem mR32 : pR 32 = (some .boolean) := rfl
theorem mN32 : pN 32 = 1 := rfl
theorem mB33 : pB 33 = cX1_greatestOf := rfl
theorem mC33 : pC 33 = 1 := rfl
theorem mR33 : pR 33 = (some .int) := rfl
theorem mN33 : pN 33 = 1 := rfl
theorem mB34 : pB 34 = cX1_defaultOf := rfl
theorem mC34 : pC 34 = 1 := rfl
theorem mR34 : pR 34 = (some .int) := rfl
theorem mN34 : pN 34 = 1 := rfl
theorem mB35 : pB 35 = cX1_nameBefore := rfl
theorem mC35 : pC 35 = 1 := rfl
theorem mR35 : pR 35 = (some .int) := rfl
theorem mN35 : pN 35 = 1 := rfl
theorem mB36 : pB 36 = cX1_takes := rfl
theorem mC36 : pC 36 = 1 := rfl
theorem mR36 : pR 36 = (some .boolean) := rfl
theorem mN36 : pN 36 = 2 := rfl
theorem mB37 : pB 37 = cX1_makeFrom := rfl
theorem mC37 : pC 37 = 1 := rfl
theorem mR37 : pR 37 = (some .boolean) := rfl
theorem mN37 : pN 37 = 2 := rfl
theorem mB38 : pB 38 = cX1_addSetting := rfl
theorem mC38 : pC 38 = 1 := rfl
theorem mR38 : pR 38 = (some .boolean) := rfl
theorem mN38 : pN 38 = 3 := rfl
theorem mB39 : pB 39 = cX1_dropSetting := rfl
theorem mC39 : pC 39 = 1 := rfl
theorem mR39 : pR 39 = (some .boolean) := rfl
theorem mN39 : pN 39 = 1 := rfl
theorem mB40 : pB 40 = cX1_renameSetting := rfl
theorem mC40 : pC 40 = 1 := rfl
theorem mR40 : pR 40 = (some .boolean) := rfl
theorem mN40 : pN 40 = 2 := rfl
theorem mB41 : pB 41 = cX1_scaleSetting := rfl
theorem mC41 : pC 41 = 1 := rfl
theorem mR41 : pR 41 = (some .boolean) := rfl
theorem mN41 : pN 41 = 3 := rfl
theorem mB42 : pB 42 = cX1_carryOver := rfl
theorem mC42 : pC 42 = 1 := rfl
theorem mR42 : pR 42 = none := rfl
theorem mN42 : pN 42 = 1 := rfl
theorem mB43 : pB 43 = cX2_init := rfl
theorem mC43 : pC 43 = 2 := rfl
theorem mR43 : pR 43 = none := rfl
theorem mN43 : pN 43 = 0 := rfl
theorem mK43 : pK 43 = 2 := rfl
theorem mB44 : pB 44 = cX2_count := rfl
theorem mC44 : pC 44 = 2 := rfl
theorem mR44 : pR 44 = (some .int) := rfl
theorem mN44 : pN 44 = 0 := rfl
theorem mB45 : pB 45 = cX2_has := rfl
theorem mC45 : pC 45 = 2 := rfl
theorem mR45 : pR 45 = (some .boolean) := rfl
theorem mN45 : pN 45 = 1 := rfl
theorem mB46 : pB 46 = cX2_of := rfl
theorem mC46 : pC 46 = 2 := rfl
theorem mR46 : pR 46 = (some (.object "SettingsVault$Layout")) := rfl
theorem mN46 : pN 46 = 1 := rfl
theorem mB47 : pB 47 = cX2_extend := rfl
theorem mC47 : pC 47 = 2 := rfl
theorem mR47 : pR 47 = (some .boolean) := rfl
theorem mN47 : pN 47 = 1 := rfl
theorem mB48 : pB 48 = cX2_carryOver := rfl
theorem mC48 : pC 48 = 2 := rfl
theorem mR48 : pR 48 = none := rfl
theorem mN48 : pN 48 = 3 := rfl
theorem mB49 : pB 49 = cX3_init := rfl
theorem mC49 : pC 49 = 3 := rfl
theorem mR49 : pR 49 = none := rfl
theorem mN49 : pN 49 = 0 := rfl
theorem mK49 : pK 49 = 2 := rfl
theorem mB50 : pB 50 = cX3_length := rfl
theorem mC50 : pC 50 = 3 := rfl
theorem mR50 : pR 50 = (some .int) := rfl
theorem mN50 : pN 50 = 0 := rfl
theorem mB51 : pB 51 = cX3_steps := rfl
theorem mC51 : pC 51 = 3 := rfl
theorem mR51 : pR 51 = (some (.object "SettingsVault$Steps")) := rfl
theorem mN51 : pN 51 = 0 := rfl
theorem mB52 : pB 52 = cX3_clear := rfl
theorem mC52 : pC 52 = 3 := rfl
theorem mR52 : pR 52 = none := rfl
theorem mN52 : pN 52 = 0 := rfl
theorem mB53 : pB 53 = cX3_append := rfl
theorem mC53 : pC 53 = 3 := rfl
theorem mR53 : pR 53 = (some .int) := rfl
theorem mN53 : pN 53 = 1 := rfl
theorem mB54 : pB 54 = cX3_countCharacters := rfl
theorem mC54 : pC 54 = 3 := rfl
theorem mR54 : pR 54 = (some .int) := rfl
theorem mN54 : pN 54 = 1 := rfl
theorem mB55 : pB 55 = cX3_read := rfl
theorem mC55 : pC 55 = 3 := rfl
theorem mR55 : pR 55 = (some .int) := rfl
theorem mN55 : pN 55 = 0 := rfl
theorem mB56 : pB 56 = cX3_readStep := rfl
theorem mC56 : pC 56 = 3 := rfl
theorem mR56 : pR 56 = (some .boolean) := rfl
theorem mN56 : pN 56 = 0 := rfl
theorem mB57 : pB 57 = cX3_readAdding := rfl
theorem mC57 : pC 57 = 3 := rfl
theorem mR57 : pR 57 = (some .boolean) := rfl
theorem mN57 : pN 57 = 0 := rfl
theorem mB58 : pB 58 = cX3_readNewName := rfl
theorem mC58 : pC 58 = 3 := rfl
theorem mR58 : pR 58 = (some .boolean) := rfl
theorem mN58 : pN 58 = 2 := rfl
theorem mB59 : pB 59 = cX3_readFactor := rfl
theorem mC59 : pC 59 = 3 := rfl
theorem mR59 : pR 59 = (some .boolean) := rfl
theorem mN59 : pN 59 = 2 := rfl
theorem mB60 : pB 60 = cX3_readLimit := rfl
theorem mC60 : pC 60 = 3 := rfl
theorem mR60 : pR 60 = (some .boolean) := rfl
theorem mN60 : pN 60 = 1 := rfl
theorem mB61 : pB 61 = cX3_readNumber := rfl
theorem mC61 : pC 61 = 3 := rfl
theorem mR61 : pR 61 = (some .int) := rfl
theorem mN61 : pN 61 = 0 := rfl
theorem mB62 : pB 62 = cX3_readName := rfl
theorem mC62 : pC 62 = 3 := rfl
theorem mR62 : pR 62 = (some .int) := rfl
theorem mN62 : pN 62 = 0 := rfl
theorem mB63 : pB 63 = cX3_readDigit := rfl
theorem mC63 : pC 63 = 3 := rfl
theorem mR63 : pR 63 = (some .int) := rfl
theorem mN63 : pN 63 = 2 := rfl
theorem mB64 : pB 64 = cX3_readSign := rfl
theorem mC64 : pC 64 = 3 := rfl
theorem mR64 : pR 64 = (some .boolean) := rfl
theorem mN64 : pN 64 = 1 := rfl
theorem mB65 : pB 65 = cX3_readOffset := rfl
theorem mC65 : pC 65 = 3 := rfl
theorem mR65 : pR 65 = (some .int) := rfl
theorem mN65 : pN 65 = 3 := rfl
theorem mB66 : pB 66 = cX4_init := rfl
theorem mC66 : pC 66 = 4 := rfl
theorem mR66 : pR 66 = none := rfl
theorem mN66 : pN 66 = 0 := rfl
theorem mK66 : pK 66 = 2 := rfl
theorem mB67 : pB 67 = cX4_writes := rfl
theorem mC67 : pC 67 = 4 := rfl
theorem mR67 : pR 67 = (some .int) := rfl
theorem mN67 : pN 67 = 0 := rfl
theorem mB68 : pB 68 = cX4_erasures := rfl
theorem mC68 : pC 68 = 4 := rfl
theorem mR68 : pR 68 = (some .int) := rfl
theorem mN68 : pN 68 = 0 := rfl
theorem mB69 : pB 69 = cX4_copyFrom := rfl
theorem mC69 : pC 69 = 4 := rfl
theorem mR69 : pR 69 = none := rfl
theorem mN69 : pN 69 = 1 := rfl
theorem mB70 : pB 70 = cX4_erase := rfl
theorem mC70 : pC 70 = 4 := rfl
theorem mR70 : pR 70 = none := rfl
theorem mN70 : pN 70 = 0 := rfl
theorem mB71 : pB 71 = cX4_valueAt := rfl
theorem mC71 : pC 71 = 4 := rfl
theorem mR71 : pR 71 = (some .int) := rfl
theorem mN71 : pN 71 = 1 := rfl
theorem mB72 : pB 72 = cX4_replace := rfl
theorem mC72 : pC 72 = 4 := rfl
theorem mR72 : pR 72 = none := rfl
theorem mN72 : pN 72 = 2 := rfl
theorem mB73 : pB 73 = cX4_countWrite := rfl
theorem mC73 : pC 73 = 4 := rfl
theorem mR73 : pR 73 = none := rfl
theorem mN73 : pN 73 = 0 := rfl
theorem mB74 : pB 74 = cX4_countFilledCells := rfl
theorem mC74 : pC 74 = 4 := rfl
theorem mR74 : pR 74 = (some .int) := rfl
theorem mN74 : pN 74 = 0 := rfl
theorem mB75 : pB 75 = cX4_version := rfl
theorem mC75 : pC 75 = 4 := rfl
theorem mR75 : pR 75 = (some .int) := rfl
theorem mN75 : pN 75 = 0 := rfl
theorem mB76 : pB 76 = cX4_sequence := rfl
theorem mC76 : pC 76 = 4 := rfl
theorem mR76 : pR 76 = (some .int) := rfl
theorem mN76 : pN 76 = 0 := rfl
theorem mB77 : pB 77 = cX4_hasGoodHead := rfl
theorem mC77 : pC 77 = 4 := rfl
theorem mR77 : pR 77 = (some .boolean) := rfl
theorem mN77 : pN 77 = 1 := rfl
theorem mB78 : pB 78 = cX4_hasRecordAt := rfl
theorem mC78 : pC 78 = 4 := rfl
theorem mR78 : pR 78 = (some .boolean) := rfl
theorem mN78 : pN 78 = 1 := rfl
theorem mB79 : pB 79 = cX4_hasGoodRecordAt := rfl
theorem mC79 : pC 79 = 4 := rfl
theorem mR79 : pR 79 = (some .boolean) := rfl
theorem mN79 : pN 79 = 3 := rfl
theorem mB80 : pB 80 = cX4_nameAt := rfl
theorem mC80 : pC 80 = 4 := rfl
theorem mR80 : pR 80 = (some .int) := rfl
theorem mN80 : pN 80 = 1 := rfl
theorem mB81 : pB 81 = cX4_countRecords := rfl
theorem mC81 : pC 81 = 4 := rfl
theorem mR81 : pR 81 = (some .int) := rfl
theorem mN81 : pN 81 = 2 := rfl
theorem mB82 : pB 82 = cX4_hasThreeAt := rfl
theorem mC82 : pC 82 = 4 := rfl
theorem mR82 : pR 82 = (some .boolean) := rfl
theorem mN82 : pN 82 = 1 := rfl
theorem mB83 : pB 83 = cX4_headCheck := rfl
theorem mC83 : pC 83 = 4 := rfl
theorem mR83 : pR 83 = (some .int) := rfl
theorem mN83 : pN 83 = 2 := rfl
theorem mB84 : pB 84 = cX4_recordCheck := rfl
theorem mC84 : pC 84 = 4 := rfl
theorem mR84 : pR 84 = (some .int) := rfl
theorem mN84 : pN 84 = 3 := rfl
theorem mB85 : pB 85 = cX5_init := rfl
theorem mC85 : pC 85 = 5 := rfl
theorem mR85 : pR 85 = none := rfl
theorem mN85 : pN 85 = 0 := rfl
theorem mK85 : pK 85 = 2 := rfl
theorem mB86 : pB 86 = cX5_clear := rfl
theorem mC86 : pC 86 = 5 := rfl
theorem mR86 : pR 86 = none := rfl
theorem mN86 : pN 86 = 0 := rfl
theorem mB87 : pB 87 = cX5_append := rfl
theorem mC87 : pC 87 = 5 := rfl
theorem mR87 : pR 87 = none := rfl
theorem mN87 : pN 87 = 4 := rfl
theorem mB88 : pB 88 = cX5_copyFrom := rfl
theorem mC88 : pC 88 = 5 := rfl
theorem mR88 : pR 88 = none := rfl
theorem mN88 : pN 88 = 1 := rfl
theorem mB89 : pB 89 = cX5_applyTo := rfl
theorem mC89 : pC 89 = 5 := rfl
theorem mR89 : pR 89 = (some .boolean) := rfl
theorem mN89 : pN 89 = 1 := rfl
theorem mB90 : pB 90 = cX5_applyStep := rfl
theorem mC90 : pC 90 = 5 := rfl
theorem mR90 : pR 90 = (some .boolean) := rfl
theorem mN90 : pN 90 = 5 := rfl
theorem mB91 : pB 91 = cX5_carryOver := rfl
theorem mC91 : pC 91 = 5 := rfl
theorem mR91 : pR 91 = none := rfl
theorem mN91 : pN 91 = 1 := rfl
theorem mB92 : pB 92 = cX5_scaled := rfl
theorem mC92 : pC 92 = 5 := rfl
theorem mR92 : pR 92 = (some .int) := rfl
theorem mN92 : pN 92 = 3 := rfl
theorem mB93 : pB 93 = cX6_init := rfl
theorem mC93 : pC 93 = 6 := rfl
theorem mR93 : pR 93 = none := rfl
theorem mN93 : pN 93 = 0 := rfl
theorem mK93 : pK 93 = 2 := rfl
theorem mB94 : pB 94 = cX6_define := rfl
theorem mC94 : pC 94 = 6 := rfl
theorem mR94 : pR 94 = (some .int) := rfl
theorem mN94 : pN 94 = 0 := rfl
theorem mB95 : pB 95 = cX6_layout := rfl
theorem mC95 : pC 95 = 6 := rfl
theorem mR95 : pR 95 = (some .int) := rfl
theorem mN95 : pN 95 = 3 := rfl
theorem mB96 : pB 96 = cX6_fail := rfl
theorem mC96 : pC 96 = 6 := rfl
theorem mR96 : pR 96 = (some .int) := rfl
theorem mN96 : pN 96 = 1 := rfl
theorem mB97 : pB 97 = cX6_start := rfl
theorem mC97 : pC 97 = 6 := rfl
theorem mR97 : pR 97 = (some .int) := rfl
theorem mN97 : pN 97 = 0 := rfl
theorem mB98 : pB 98 = cX6_get := rfl
theorem mC98 : pC 98 = 6 := rfl
theorem mR98 : pR 98 = (some .int) := rfl
theorem mN98 : pN 98 = 1 := rfl
theorem mB99 : pB 99 = cX6_set := rfl
theorem mC99 : pC 99 = 6 := rfl
theorem mR99 : pR 99 = (some .int) := rfl
theorem mN99 : pN 99 = 2 := rfl
theorem mB100 : pB 100 = cX6_compact := rfl
theorem mC100 : pC 100 = 6 := rfl
theorem mR100 : pR 100 = (some .int) := rfl
theorem mN100 : pN 100 = 0 := rfl
theorem mB101 : pB 101 = cX6_migrate := rfl
theorem mC101 : pC 101 = 6 := rfl
theorem mR101 : pR 101 = (some .int) := rfl
theorem mN101 : pN 101 = 1 := rfl
theorem mB102 : pB 102 = cX6_factory := rfl
theorem mC102 : pC 102 = 6 := rfl
theorem mR102 : pR 102 = (some .int) := rfl
theorem mN102 : pN 102 = 1 := rfl
theorem mB103 : pB 103 = cX6_cell := rfl
theorem mC103 : pC 103 = 6 := rfl
theorem mR103 : pR 103 = (some .int) := rfl
theorem mN103 : pN 103 = 2 := rfl
theorem mB104 : pB 104 = cX6_spoil := rfl
theorem mC104 : pC 104 = 6 := rfl
theorem mR104 : pR 104 = (some .int) := rfl
theorem mN104 : pN 104 = 3 := rfl
theorem mB105 : pB 105 = cX6_page := rfl
theorem mC105 : pC 105 = 6 := rfl
theorem mR105 : pR 105 = (some .int) := rfl
theorem mN105 : pN 105 = 2 := rfl
theorem mB106 : pB 106 = cX6_state := rfl
theorem mC106 : pC 106 = 6 := rfl
theorem mR106 : pR 106 = (some .int) := rfl
theorem mN106 : pN 106 = 1 := rfl
theorem mB107 : pB 107 = cX6_record := rfl
theorem mC107 : pC 107 = 6 := rfl
theorem mR107 : pR 107 = (some .int) := rfl
theorem mN107 : pN 107 = 1 := rfl
theorem mB108 : pB 108 = cX6_ifMigrated := rfl
theorem mC108 : pC 108 = 6 := rfl
theorem mR108 : pR 108 = (some .int) := rfl
theorem mN108 : pN 108 = 2 := rfl
theorem mB109 : pB 109 = cX6_ifFailed := rfl
theorem mC109 : pC 109 = 6 := rfl
theorem mR109 : pR 109 = (some .int) := rfl
theorem mN109 : pN 109 = 4 := rfl
theorem mB110 : pB 110 = cX6_put := rfl
theorem mC110 : pC 110 = 6 := rfl
theorem mR110 : pR 110 = (some .int) := rfl
theorem mN110 : pN 110 = 1 := rfl
theorem mB111 : pB 111 = cX6_wipe := rfl
theorem mC111 : pC 111 = 6 := rfl
theorem mR111 : pR 111 = (some .int) := rfl
theorem mN111 : pN 111 = 0 := rfl
theorem mB112 : pB 112 = cX6_fault := rfl
theorem mC112 : pC 112 = 6 := rfl
theorem mR112 : pR 112 = (some .int) := rfl
theorem mN112 : pN 112 = 0 := rfl
theorem mB113 : pB 113 = cX6_keep := rfl
theorem mC113 : pC 113 = 6 := rfl
theorem mR113 : pR 113 = (some .int) := rfl
theorem mN113 : pN 113 = 1 := rfl
theorem mB114 : pB 114 = cX6_back := rfl
theorem mC114 : pC 114 = 6 := rfl
theorem mR114 : pR 114 = (some .int) := rfl
theorem mN114 : pN 114 = 1 := rfl
theorem mB115 : pB 115 = cX6_isPage := rfl
theorem mC115 : pC 115 = 6 := rfl
theorem mR115 : pR 115 = (some .boolean) := rfl
theorem mN115 : pN 115 = 1 := rfl
theorem mB116 : pB 116 = cX6_isCell := rfl
theorem mC116 : pC 116 = 6 := rfl
theorem mR116 : pR 116 = (some .boolean) := rfl
theorem mN116 : pN 116 = 2 := rfl
theorem mB117 : pB 117 = cX6_isImage := rfl
theorem mC117 : pC 117 = 6 := rfl
theorem mR117 : pR 117 = (some .boolean) := rfl
theorem mN117 : pN 117 = 1 := rfl
theorem mB118 : pB 118 = cX6_isCountOfWrites := rfl
theorem mC118 : pC 118 = 6 := rfl
theorem mR118 : pR 118 = (some .boolean) := rfl
theorem mN118 : pN 118 = 1 := rfl
theorem mB119 : pB 119 = cX6_isName := rfl
theorem mC119 : pC 119 = 6 := rfl
theorem mR119 : pR 119 = (some .boolean) := rfl
theorem mN119 : pN 119 = 1 := rfl
theorem mB120 : pB 120 = cX7_init := rfl
theorem mC120 : pC 120 = 7 := rfl
theorem mR120 : pR 120 = none := rfl
theorem mN120 : pN 120 = 0 := rfl
theorem mK120 : pK 120 = 2 := rfl
theorem mB121 : pB 121 = cX7_in := rfl
theorem mC121 : pC 121 = 7 := rfl
theorem mR121 : pR 121 = (some .boolean) := rfl
theorem mN121 : pN 121 = 3 := rfl
theorem mB122 : pB 122 = cX7_less := rfl
theorem mC122 : pC 122 = 7 := rfl
theorem mR122 : pR 122 = (some .int) := rfl
theorem mN122 : pN 122 = 2 := rfl
theorem mB123 : pB 123 = cX7_isVersion := rfl
theorem mC123 : pC 123 = 7 := rfl
theorem mR123 : pR 123 = (some .boolean) := rfl
theorem mN123 : pN 123 = 1 := rfl
theorem mB124 : pB 124 = cX7_hasSetting := rfl
theorem mC124 : pC 124 = 7 := rfl
theorem mR124 : pR 124 = (some .boolean) := rfl
theorem mN124 : pN 124 = 2 := rfl
theorem mB125 : pB 125 = cX7_changed := rfl
theorem mC125 : pC 125 = 7 := rfl
theorem mR125 : pR 125 = (some .int) := rfl
theorem mN125 : pN 125 = 3 := rfl
theorem mB126 : pB 126 = cX7_canDo := rfl
theorem mC126 : pC 126 = 7 := rfl
theorem mR126 : pR 126 = (some .boolean) := rfl
theorem mN126 : pN 126 = 2 := rfl
theorem mB127 : pB 127 = cX7_doTo := rfl
theorem mC127 : pC 127 = 7 := rfl
theorem mR127 : pR 127 = none := rfl
theorem mN127 : pN 127 = 2 := rfl
theorem mB128 : pB 128 = cX7_copyLayout := rfl
theorem mC128 : pC 128 = 7 := rfl
theorem mR128 : pR 128 = none := rfl
theorem mN128 : pN 128 = 1 := rfl
theorem mB129 : pB 129 = cX7_define := rfl
theorem mC129 : pC 129 = 7 := rfl
theorem mR129 : pR 129 = (some .int) := rfl
theorem mN129 : pN 129 = 0 := rfl
theorem mB130 : pB 130 = cX7_layout := rfl
theorem mC130 : pC 130 = 7 := rfl
theorem mR130 : pR 130 = (some .int) := rfl
theorem mN130 : pN 130 = 3 := rfl
theorem mB131 : pB 131 = cX7_cellOf := rfl
theorem mC131 : pC 131 = 7 := rfl
theorem mR131 : pR 131 = (some .int) := rfl
theorem mN131 : pN 131 = 2 := rfl
theorem mB132 : pB 132 = cX7_write := rfl
theorem mC132 : pC 132 = 7 := rfl
theorem mR132 : pR 132 = none := rfl
theorem mN132 : pN 132 = 3 := rfl
theorem mB133 : pB 133 = cX7_erase := rfl
theorem mC133 : pC 133 = 7 := rfl
theorem mR133 : pR 133 = none := rfl
theorem mN133 : pN 133 = 1 := rfl
theorem mB134 : pB 134 = cX7_checkOfHead := rfl
theorem mC134 : pC 134 = 7 := rfl
theorem mR134 : pR 134 = (some .int) := rfl
theorem mN134 : pN 134 = 2 := rfl
theorem mB135 : pB 135 = cX7_checkOfRecord := rfl
theorem mC135 : pC 135 = 7 := rfl
theorem mR135 : pR 135 = (some .int) := rfl
theorem mN135 : pN 135 = 3 := rfl
theorem mB136 : pB 136 = cX7_writeRecord := rfl
theorem mC136 : pC 136 = 7 := rfl
theorem mR136 : pR 136 = none := rfl
theorem mN136 : pN 136 = 5 := rfl
theorem mB137 : pB 137 = cX7_writeHead := rfl
theorem mC137 : pC 137 = 7 := rfl
theorem mR137 : pR 137 = none := rfl
theorem mN137 : pN 137 = 3 := rfl
theorem mB138 : pB 138 = cX7_fail := rfl
theorem mC138 : pC 138 = 7 := rfl
theorem mR138 : pR 138 = (some .int) := rfl
theorem mN138 : pN 138 = 1 := rfl
theorem mB139 : pB 139 = cX7_isHead := rfl
theorem mC139 : pC 139 = 7 := rfl
theorem mR139 : pR 139 = (some .boolean) := rfl
theorem mN139 : pN 139 = 1 := rfl
theorem mB140 : pB 140 = cX7_isRecord := rfl
theorem mC140 : pC 140 = 7 := rfl
theorem mR140 : pR 140 = (some .boolean) := rfl
theorem mN140 : pN 140 = 3 := rfl
theorem mB141 : pB 141 = cX7_goThrough := rfl
theorem mC141 : pC 141 = 7 := rfl
theorem mR141 : pR 141 = none := rfl
theorem mN141 : pN 141 = 3 := rfl
theorem mB142 : pB 142 = cX7_layUsual := rfl
theorem mC142 : pC 142 = 7 := rfl
theorem mR142 : pR 142 = none := rfl
theorem mN142 : pN 142 = 1 := rfl
theorem mB143 : pB 143 = cX7_activeByHeads := rfl
theorem mC143 : pC 143 = 7 := rfl
theorem mR143 : pR 143 = (some .int) := rfl
theorem mN143 : pN 143 = 0 := rfl
theorem mB144 : pB 144 = cX7_start := rfl
theorem mC144 : pC 144 = 7 := rfl
theorem mR144 : pR 144 = (some .int) := rfl
theorem mN144 : pN 144 = 0 := rfl
theorem mB145 : pB 145 = cX7_isSetting := rfl
theorem mC145 : pC 145 = 7 := rfl
theorem mR145 : pR 145 = (some .boolean) := rfl
theorem mN145 : pN 145 = 1 := rfl
theorem mB146 : pB 146 = cX7_get := rfl
theorem mC146 : pC 146 = 7 := rfl
theorem mR146 : pR 146 = (some .int) := rfl
theorem mN146 : pN 146 = 1 := rfl
theorem mB147 : pB 147 = cX7_layThen := rfl
theorem mC147 : pC 147 = 7 := rfl
theorem mR147 : pR 147 = none := rfl
theorem mN147 : pN 147 = 0 := rfl
theorem mB148 : pB 148 = cX7_fill := rfl
theorem mC148 : pC 148 = 7 := rfl
theorem mR148 : pR 148 = none := rfl
theorem mN148 : pN 148 = 1 := rfl
theorem mB149 : pB 149 = cX7_makeSet := rfl
theorem mC149 : pC 149 = 7 := rfl
theorem mR149 : pR 149 = none := rfl
theorem mN149 : pN 149 = 2 := rfl
theorem mB150 : pB 150 = cX7_isValue := rfl
theorem mC150 : pC 150 = 7 := rfl
theorem mR150 : pR 150 = (some .boolean) := rfl
theorem mN150 : pN 150 = 2 := rfl
theorem mB151 : pB 151 = cX7_set := rfl
theorem mC151 : pC 151 = 7 := rfl
theorem mR151 : pR 151 = (some .int) := rfl
theorem mN151 : pN 151 = 2 := rfl
theorem mB152 : pB 152 = cX7_isIdle := rfl
theorem mC152 : pC 152 = 7 := rfl
theorem mR152 : pR 152 = (some .boolean) := rfl
theorem mN152 : pN 152 = 0 := rfl
theorem mB153 : pB 153 = cX7_compact := rfl
theorem mC153 : pC 153 = 7 := rfl
theorem mR153 : pR 153 = (some .int) := rfl
theorem mN153 : pN 153 = 0 := rfl
theorem mB154 : pB 154 = cX7_doToValues := rfl
theorem mC154 : pC 154 = 7 := rfl
theorem mR154 : pR 154 = none := rfl
theorem mN154 : pN 154 = 1 := rfl
theorem mB155 : pB 155 = cX7_migrateTo := rfl
theorem mC155 : pC 155 = 7 := rfl
theorem mR155 : pR 155 = none := rfl
theorem mN155 : pN 155 = 1 := rfl
theorem mB156 : pB 156 = cX7_migrate := rfl
theorem mC156 : pC 156 = 7 := rfl
theorem mR156 : pR 156 = (some .int) := rfl
theorem mN156 : pN 156 = 1 := rfl
theorem mB157 : pB 157 = cX7_factory := rfl
theorem mC157 : pC 157 = 7 := rfl
theorem mR157 : pR 157 = (some .int) := rfl
theorem mN157 : pN 157 = 1 := rfl
theorem mB158 : pB 158 = cX7_isCell := rfl
theorem mC158 : pC 158 = 7 := rfl
theorem mR158 : pR 158 = (some .boolean) := rfl
theorem mN158 : pN 158 = 2 := rfl
theorem mB159 : pB 159 = cX7_cell := rfl
theorem mC159 : pC 159 = 7 := rfl
theorem mR159 : pR 159 = (some .int) := rfl
theorem mN159 : pN 159 = 2 := rfl
theorem mB160 : pB 160 = cX7_spoil := rfl
theorem mC160 : pC 160 = 7 := rfl
theorem mR160 : pR 160 = (some .int) := rfl
theorem mN160 : pN 160 = 3 := rfl
theorem mB161 : pB 161 = cX7_cellsOf := rfl
theorem mC161 : pC 161 = 7 := rfl
theorem mR161 : pR 161 = (some .int) := rfl
theorem mN161 : pN 161 = 1 := rfl
theorem mB162 : pB 162 = cX7_recordsOf := rfl
theorem mC162 : pC 162 = 7 := rfl
theorem mR162 : pR 162 = (some .int) := rfl
theorem mN162 : pN 162 = 2 := rfl
theorem mB163 : pB 163 = cX7_page := rfl
theorem mC163 : pC 163 = 7 := rfl
theorem mR163 : pR 163 = (some .int) := rfl
theorem mN163 : pN 163 = 2 := rfl
theorem mB164 : pB 164 = cX7_settings := rfl
theorem mC164 : pC 164 = 7 := rfl
theorem mR164 : pR 164 = (some .int) := rfl
theorem mN164 : pN 164 = 1 := rfl
theorem mB165 : pB 165 = cX7_state := rfl
theorem mC165 : pC 165 = 7 := rfl
theorem mR165 : pR 165 = (some .int) := rfl
theorem mN165 : pN 165 = 1 := rfl
theorem mB166 : pB 166 = cX7_record := rfl
theorem mC166 : pC 166 = 7 := rfl
theorem mR166 : pR 166 = (some .int) := rfl
theorem mN166 : pN 166 = 1 := rfl
theorem mB167 : pB 167 = cX7_ifMigrated := rfl
theorem mC167 : pC 167 = 7 := rfl
theorem mR167 : pR 167 = (some .int) := rfl
theorem mN167 : pN 167 = 2 := rfl
theorem mB168 : pB 168 = cX7_ifFailed := rfl
theorem mC168 : pC 168 = 7 := rfl
theorem mR168 : pR 168 = (some .int) := rfl
theorem mN168 : pN 168 = 4 := rfl
theorem mB169 : pB 169 = cX7_put := rfl
theorem mC169 : pC 169 = 7 := rfl
theorem mR169 : pR 169 = (some .int) := rfl
theorem mN169 : pN 169 = 1 := rfl
theorem mB170 : pB 170 = cX7_wipe := rfl
theorem mC170 : pC 170 = 7 := rfl
theorem mR170 : pR 170 = (some .int) := rfl
theorem mN170 : pN 170 = 0 := rfl
theorem mB171 : pB 171 = cX7_next := rfl
theorem mC171 : pC 171 = 7 := rfl
theorem mR171 : pR 171 = (some .int) := rfl
theorem mN171 : pN 171 = 0 := rfl
theorem mB172 : pB 172 = cX7_takeNumber := rfl
theorem mC172 : pC 172 = 7 := rfl
theorem mR172 : pR 172 = (some .int) := rfl
theorem mN172 : pN 172 = 0 := rfl
theorem mB173 : pB 173 = cX7_takeOne := rfl
theorem mC173 : pC 173 = 7 := rfl
theorem mR173 : pR 173 = (some .int) := rfl
theorem mN173 : pN 173 = 2 := rfl
theorem mB174 : pB 174 = cX7_takeChange := rfl
theorem mC174 : pC 174 = 7 := rfl
theorem mR174 : pR 174 = none := rfl
theorem mN174 : pN 174 = 0 := rfl
theorem mB175 : pB 175 = cX7_takeStep := rfl
theorem mC175 : pC 175 = 7 := rfl
theorem mR175 : pR 175 = none := rfl
theorem mN175 : pN 175 = 0 := rfl
theorem mB176 : pB 176 = cX7_layStep := rfl
theorem mC176 : pC 176 = 7 := rfl
theorem mR176 : pR 176 = none := rfl
theorem mN176 : pN 176 = 1 := rfl
theorem mB177 : pB 177 = cX7_read := rfl
theorem mC177 : pC 177 = 7 := rfl
theorem mR177 : pR 177 = (some .int) := rfl
theorem mN177 : pN 177 = 1 := rfl
theorem mB178 : pB 178 = cX7_fault := rfl
theorem mC178 : pC 178 = 7 := rfl
theorem mR178 : pR 178 = (some .int) := rfl
theorem mN178 : pN 178 = 0 := rfl
theorem mB179 : pB 179 = cX7_keep := rfl
theorem mC179 : pC 179 = 7 := rfl
theorem mR179 : pR 179 = (some .int) := rfl
theorem mN179 : pN 179 = 1 := rfl
theorem mB180 : pB 180 = cX7_back := rfl
theorem mC180 : pC 180 = 7 := rfl
theorem mR180 : pR 180 = (some .int) := rfl
theorem mN180 : pN 180 = 1 := rfl
theorem mB181 : pB 181 = cJ9_floorMod_7cf53 := rfl
theorem mC181 : pC 181 = 9 := rfl
theorem mR181 : pR 181 = (some .int) := rfl
theorem mN181 : pN 181 = 2 := rfl
theorem mB182 : pB 182 = cJ9_min_7cf53 := rfl
theorem mC182 : pC 182 = 9 := rfl
theorem mR182 : pR 182 = (some .int) := rfl
theorem mN182 : pN 182 = 2 := rfl
theorem mB183 : pB 183 = cL_law := rfl
theorem mC183 : pC 183 = 8 := rfl
theorem mR183 : pR 183 = (some .boolean) := rfl
theorem mN183 : pN 183 = 1 := rfl
theorem f_5_9 : fL 5 9 = (5, 0) := by decide +kernel
theorem f_5_15 : fL 5 15 = (5, 1) := by decide +kernel
theorem f_5_18 : fL 5 18 = (5, 2) := by decide +kernel
theorem f_5_21 : fL 5 21 = (5, 3) := by decide +kernel
theorem f_5_24 : fL 5 24 = (5, 4) := by decide +kernel
theorem f_3_9 : fL 3 9 = (3, 0) := by decide +kernel
theorem f_3_18 : fL 3 18 = (3, 1) := by decide +kernel
theorem f_3_22 : fL 3 22 = (3, 2) := by decide +kernel
theorem f_3_36 : fL 3 36 = (3, 3) := by decide +kernel
theorem f_1_9 : fL 1 9 = (1, 0) := by decide +kernel
theorem f_1_15 : fL 1 15 = (1, 1) := by decide +kernel
theorem f_1_19 : fL 1 19 = (1, 2) := by decide +kernel
theorem f_1_22 : fL 1 22 = (1, 3) := by decide +kernel
theorem f_1_28 : fL 1 28 = (1, 4) := by decide +kernel
theorem f_2_12 : fL 2 12 = (2, 0) := by decide +kernel
theorem f_2_18 : fL 2 18 = (2, 1) := by decide +kernel
theorem f_2_22 : fL 2 22 = (2, 2) := by decide +kernel
theorem f_4_9 : fL 4 9 = (4, 0) := by decide +kernel
theorem f_4_15 : fL 4 15 = (4, 1) := by decide +kernel
theorem f_4_19 : fL 4 19 = (4, 2) := by decide +kernel
theorem f_0_54 : fL 0 54 = (0, 0) := by decide +kernel
theorem f_0_12 : fL 0 12 = (0, 1) := by decide +kernel
theorem f_0_18 : fL 0 18 = (0, 2) := by decide +kernel
theorem f_0_21 : fL 0 21 = (0, 3) := by decide +kernel
theorem f_0_25 : fL 0 25 = (0, 4) := by decide +kernel
theorem f_0_29 : fL 0 29 = (0, 5) := by decide +kernel
theorem f_0_32 : fL 0 32 = (0, 6) := by decide +kernel
theorem f_0_35 : fL 0 35 = (0, 7) := by decide +kernel
theorem f_0_38 : fL 0 38 = (0, 8) := by decide +kernel
theorem f_0_62 : fL 0 62 = (0, 9) := by decide +kernel
theorem f_0_41 : fL 0 41 = (0, 10) := by decide +kernel
theorem f_0_45 : fL 0 45 = (0, 11) := by decide +kernel
theorem f_0_48 : fL 0 48 = (0, 12) := by decide +kernel
theorem f_0_51 : fL 0 51 = (0, 13) := by decide +kernel
theorem f_6_10 : fL 6 10 = (6, 0) := by decide +kernel
theorem f_6_19 : fL 6 19 = (6, 1) := by decide +kernel
theorem f_6_28 : fL 6 28 = (6, 2) := by decide +kernel
theorem f_6_32 : fL 6 32 = (6, 3) := by decide +kernel
theorem f_6_35 : fL 6 35 = (6, 4) := by decide +kernel
theorem f_6_39 : fL 6 39 = (6, 5) := by decide +kernel
theorem f_7_7 : fL 7 7 = (7, 0) := by decide +kernel
theorem f_7_13 : fL 7 13 = (7, 1) := by decide +kernel
theorem f_7_16 : fL 7 16 = (7, 2) := by decide +kernel
theorem f_7_19 : fL 7 19 = (7, 3) := by decide +kernel
theorem f_7_23 : fL 7 23 = (7, 4) := by decide +kernel
theorem f_7_94 : fL 7 94 = (7, 5) := by decide +kernel
theorem f_7_59 : fL 7 59 = (7, 6) := by decide +kernel
theorem f_7_26 : fL 7 26 = (7, 7) := by decide +kernel
theorem f_7_29 : fL 7 29 = (7, 8) := by decide +kernel
theorem f_7_32 : fL 7 32 = (7, 9) := by decide +kernel
theorem f_7_35 : fL 7 35 = (7, 10) := by decide +kernel
theorem f_7_38 : fL 7 38 = (7, 11) := by decide +kernel
theorem f_7_41 : fL 7 41 = (7, 12) := by decide +kernel
theorem f_7_44 : fL 7 44 = (7, 13) := by decide +kernel
theorem f_7_47 : fL 7 47 = (7, 14) := by decide +kernel
theorem f_7_50 : fL 7 50 = (7, 15) := by decide +kernel
theorem f_7_101 : fL 7 101 = (7, 16) := by decide +kernel
theorem f_7_117 : fL 7 117 = (7, 17) := by decide +kernel
theorem f_7_120 : fL 7 120 = (7, 18) := by decide +kernel
theorem f_7_123 : fL 7 123 = (7, 19) := by decide +kernel
theorem f_7_53 : fL 7 53 = (7, 20) := by decide +kernel
theorem f_7_56 : fL 7 56 = (7, 21) := by decide +kernel
theorem f_7_197 : fL 7 197 = (7, 22) := by decide +kernel
theorem f_7_200 : fL 7 200 = (7, 23) := by decide +kernel
theorem f_7_213 : fL 7 213 = (7, 24) := by decide +kernel
theorem f_7_210 : fL 7 210 = (7, 25) := by decide +kernel
theorem f_7_219 : fL 7 219 = (7, 26) := by decide +kernel
theorem f_7_222 : fL 7 222 = (7, 27) := by decide +kernel
theorem q_8_9 : mL 8 9 = (93, 2) := by decide +kernel
theorem q_6_9 : mL 6 9 = (49, 4) := by decide +kernel
theorem q_3_17 : mL 3 17 = (85, 4) := by decide +kernel
theorem q_6_18 : mL 6 18 = (43, 2) := by decide +kernel
theorem q_2_11 : mL 2 11 = (31, 4) := by decide +kernel
theorem q_1_27 : mL 1 27 = (85, 4) := by decide +kernel
theorem q_6_25 : mL 6 25 = (0, 2) := by decide +kernel
theorem q_0_11 : mL 0 11 = (66, 2) := by decide +kernel
theorem q_8_13 : mL 8 13 = (94, 0) := by decide +kernel
theorem q_6_43 : mL 6 43 = (55, 0) := by decide +kernel
theorem q_3_39 : mL 3 39 = (86, 0) := by decide +kernel
theorem q_3_42 : mL 3 42 = (56, 0) := by decide +kernel
theorem q_3_46 : mL 3 46 = (64, 0) := by decide +kernel
theorem q_3_84 : mL 3 84 = (65, 0) := by decide +kernel
theorem q_3_50 : mL 3 50 = (57, 0) := by decide +kernel
theorem q_3_57 : mL 3 57 = (62, 0) := by decide +kernel
theorem q_3_68 : mL 3 68 = (61, 0) := by decide +kernel
theorem q_3_75 : mL 3 75 = (63, 0) := by decide +kernel
theorem q_3_79 : mL 3 79 = (182, 1) := by decide +kernel
theorem q_3_71 : mL 3 71 = (87, 0) := by decide +kernel
theorem q_3_53 : mL 3 53 = (58, 0) := by decide +kernel
theorem q_3_61 : mL 3 61 = (59, 0) := by decide +kernel
theorem q_3_64 : mL 3 64 = (60, 0) := by decide +kernel
theorem q_6_47 : mL 6 47 = (44, 0) := by decide +kernel
theorem q_6_50 : mL 6 50 = (51, 0) := by decide +kernel
theorem q_6_54 : mL 6 54 = (47, 0) := by decide +kernel
theorem q_2_30 : mL 2 30 = (46, 0) := by decide +kernel
theorem q_2_26 : mL 2 26 = (45, 0) := by decide +kernel
theorem q_2_34 : mL 2 34 = (37, 0) := by decide +kernel
theorem q_1_36 : mL 1 36 = (88, 0) := by decide +kernel
theorem q_1_40 : mL 1 40 = (89, 0) := by decide +kernel
theorem q_5_34 : mL 5 34 = (90, 1) := by decide +kernel
theorem q_5_38 : mL 5 38 = (38, 0) := by decide +kernel
theorem q_1_44 : mL 1 44 = (119, 3) := by decide +kernel
theorem q_5_44 : mL 5 44 = (39, 0) := by decide +kernel
theorem q_1_32 : mL 1 32 = (32, 0) := by decide +kernel
theorem q_5_48 : mL 5 48 = (40, 0) := by decide +kernel
theorem q_5_52 : mL 5 52 = (41, 0) := by decide +kernel
theorem q_1_47 : mL 1 47 = (92, 1) := by decide +kernel
theorem q_5_62 : mL 5 62 = (182, 1) := by decide +kernel
theorem q_6_58 : mL 6 58 = (52, 0) := by decide +kernel
theorem q_8_18 : mL 8 18 = (95, 0) := by decide +kernel
theorem q_6_61 : mL 6 61 = (46, 0) := by decide +kernel
theorem q_6_65 : mL 6 65 = (32, 0) := by decide +kernel
theorem q_6_71 : mL 6 71 = (33, 0) := by decide +kernel
theorem q_6_75 : mL 6 75 = (34, 0) := by decide +kernel
theorem q_6_78 : mL 6 78 = (35, 0) := by decide +kernel
theorem q_8_23 : mL 8 23 = (96, 0) := by decide +kernel
theorem q_6_81 : mL 6 81 = (118, 1) := by decide +kernel
theorem q_6_84 : mL 6 84 = (2, 0) := by decide +kernel
theorem q_6_88 : mL 6 88 = (4, 0) := by decide +kernel
theorem q_6_91 : mL 6 91 = (16, 0) := by decide +kernel
theorem q_8_28 : mL 8 28 = (97, 0) := by decide +kernel
theorem q_6_95 : mL 6 95 = (17, 0) := by decide +kernel
theorem q_0_94 : mL 0 94 = (18, 0) := by decide +kernel
theorem q_0_112 : mL 0 112 = (77, 0) := by decide +kernel
theorem q_4_32 : mL 4 32 = (82, 0) := by decide +kernel
theorem q_4_28 : mL 4 28 = (71, 0) := by decide +kernel
theorem q_4_36 : mL 4 36 = (75, 0) := by decide +kernel
theorem q_4_40 : mL 4 40 = (45, 0) := by decide +kernel
theorem q_4_45 : mL 4 45 = (76, 0) := by decide +kernel
theorem q_4_48 : mL 4 48 = (83, 1) := by decide +kernel
theorem q_0_104 : mL 0 104 = (76, 0) := by decide +kernel
theorem q_0_116 : mL 0 116 = (181, 1) := by decide +kernel
theorem q_0_98 : mL 0 98 = (9, 0) := by decide +kernel
theorem q_0_102 : mL 0 102 = (75, 0) := by decide +kernel
theorem q_0_106 : mL 0 106 = (19, 0) := by decide +kernel
theorem q_0_81 : mL 0 81 = (10, 0) := by decide +kernel
theorem q_0_71 : mL 0 71 = (46, 0) := by decide +kernel
theorem q_0_90 : mL 0 90 = (34, 0) := by decide +kernel
theorem q_0_109 : mL 0 109 = (20, 0) := by decide +kernel
theorem q_0_122 : mL 0 122 = (78, 0) := by decide +kernel
theorem q_0_125 : mL 0 125 = (80, 0) := by decide +kernel
theorem q_0_77 : mL 0 77 = (119, 3) := by decide +kernel
theorem q_0_128 : mL 0 128 = (79, 0) := by decide +kernel
theorem q_4_52 : mL 4 52 = (80, 0) := by decide +kernel
theorem q_4_55 : mL 4 55 = (36, 0) := by decide +kernel
theorem q_4_61 : mL 4 61 = (84, 1) := by decide +kernel
theorem q_0_132 : mL 0 132 = (71, 0) := by decide +kernel
theorem q_6_98 : mL 6 98 = (5, 0) := by decide +kernel
theorem q_8_32 : mL 8 32 = (98, 0) := by decide +kernel
theorem q_6_101 : mL 6 101 = (10, 0) := by decide +kernel
theorem q_6_105 : mL 6 105 = (11, 0) := by decide +kernel
theorem q_8_36 : mL 8 36 = (99, 0) := by decide +kernel
theorem q_6_108 : mL 6 108 = (36, 0) := by decide +kernel
theorem q_6_112 : mL 6 112 = (21, 0) := by decide +kernel
theorem q_0_135 : mL 0 135 = (26, 0) := by decide +kernel
theorem q_0_150 : mL 0 150 = (70, 0) := by decide +kernel
theorem q_0_85 : mL 0 85 = (32, 0) := by decide +kernel
theorem q_0_138 : mL 0 138 = (27, 0) := by decide +kernel
theorem q_0_157 : mL 0 157 = (84, 1) := by decide +kernel
theorem q_0_161 : mL 0 161 = (29, 0) := by decide +kernel
theorem q_0_167 : mL 0 167 = (30, 0) := by decide +kernel
theorem q_0_170 : mL 0 170 = (72, 0) := by decide +kernel
theorem q_0_174 : mL 0 174 = (73, 0) := by decide +kernel
theorem q_0_153 : mL 0 153 = (28, 0) := by decide +kernel
theorem q_0_164 : mL 0 164 = (83, 1) := by decide +kernel
theorem q_8_41 : mL 8 41 = (100, 0) := by decide +kernel
theorem q_6_116 : mL 6 116 = (3, 0) := by decide +kernel
theorem q_6_119 : mL 6 119 = (6, 0) := by decide +kernel
theorem q_6_122 : mL 6 122 = (22, 0) := by decide +kernel
theorem q_0_142 : mL 0 142 = (24, 0) := by decide +kernel
theorem q_0_146 : mL 0 146 = (48, 0) := by decide +kernel
theorem q_2_38 : mL 2 38 = (42, 0) := by decide +kernel
theorem q_1_51 : mL 1 51 = (91, 0) := by decide +kernel
theorem q_5_55 : mL 5 55 = (119, 3) := by decide +kernel
theorem q_5_58 : mL 5 58 = (92, 1) := by decide +kernel
theorem q_8_45 : mL 8 45 = (101, 0) := by decide +kernel
theorem q_6_125 : mL 6 125 = (45, 0) := by decide +kernel
theorem q_8_49 : mL 8 49 = (102, 0) := by decide +kernel
theorem q_6_126 : mL 6 126 = (25, 0) := by decide +kernel
theorem q_8_53 : mL 8 53 = (103, 0) := by decide +kernel
theorem q_6_129 : mL 6 129 = (116, 1) := by decide +kernel
theorem q_6_145 : mL 6 145 = (115, 1) := by decide +kernel
theorem q_6_132 : mL 6 132 = (9, 0) := by decide +kernel
theorem q_6_136 : mL 6 136 = (71, 0) := by decide +kernel
theorem q_8_57 : mL 8 57 = (104, 0) := by decide +kernel
theorem q_6_141 : mL 6 141 = (72, 0) := by decide +kernel
theorem q_8_61 : mL 8 61 = (105, 0) := by decide +kernel
theorem q_6_148 : mL 6 148 = (67, 0) := by decide +kernel
theorem q_6_151 : mL 6 151 = (68, 0) := by decide +kernel
theorem q_6_154 : mL 6 154 = (77, 0) := by decide +kernel
theorem q_6_158 : mL 6 158 = (81, 0) := by decide +kernel
theorem q_4_65 : mL 4 65 = (77, 0) := by decide +kernel
theorem q_4_69 : mL 4 69 = (46, 0) := by decide +kernel
theorem q_4_73 : mL 4 73 = (78, 0) := by decide +kernel
theorem q_4_76 : mL 4 76 = (79, 0) := by decide +kernel
theorem q_6_162 : mL 6 162 = (74, 0) := by decide +kernel
theorem q_8_65 : mL 8 65 = (106, 0) := by decide +kernel
theorem q_6_165 : mL 6 165 = (7, 0) := by decide +kernel
theorem q_6_168 : mL 6 168 = (13, 0) := by decide +kernel
theorem q_6_171 : mL 6 171 = (8, 0) := by decide +kernel
theorem q_6_174 : mL 6 174 = (14, 0) := by decide +kernel
theorem q_6_177 : mL 6 177 = (15, 0) := by decide +kernel
theorem q_6_180 : mL 6 180 = (50, 0) := by decide +kernel
theorem q_8_69 : mL 8 69 = (107, 0) := by decide +kernel
theorem q_6_183 : mL 6 183 = (12, 0) := by decide +kernel
theorem q_8_73 : mL 8 73 = (108, 0) := by decide +kernel
theorem q_6_186 : mL 6 186 = (23, 0) := by decide +kernel
theorem q_8_77 : mL 8 77 = (109, 0) := by decide +kernel
theorem q_6_189 : mL 6 189 = (1, 0) := by decide +kernel
theorem q_0_58 : mL 0 58 = (69, 0) := by decide +kernel
theorem q_8_84 : mL 8 84 = (110, 0) := by decide +kernel
theorem q_6_193 : mL 6 193 = (53, 0) := by decide +kernel
theorem q_3_26 : mL 3 26 = (54, 1) := by decide +kernel
theorem q_8_89 : mL 8 89 = (111, 0) := by decide +kernel
theorem q_8_93 : mL 8 93 = (112, 0) := by decide +kernel
theorem q_8_97 : mL 8 97 = (113, 0) := by decide +kernel
theorem q_6_197 : mL 6 197 = (117, 1) := by decide +kernel
theorem q_8_101 : mL 8 101 = (114, 0) := by decide +kernel
theorem q_8_12 : mL 8 12 = (120, 2) := by decide +kernel
theorem q_8_17 : mL 8 17 = (129, 0) := by decide +kernel
theorem q_7_79 : mL 7 79 = (177, 0) := by decide +kernel
theorem q_7_228 : mL 7 228 = (175, 0) := by decide +kernel
theorem q_7_204 : mL 7 204 = (171, 0) := by decide +kernel
theorem q_7_225 : mL 7 225 = (174, 0) := by decide +kernel
theorem q_7_207 : mL 7 207 = (173, 0) := by decide +kernel
theorem q_7_63 : mL 7 63 = (121, 1) := by decide +kernel
theorem q_7_216 : mL 7 216 = (172, 0) := by decide +kernel
theorem q_7_231 : mL 7 231 = (176, 0) := by decide +kernel
theorem q_7_83 : mL 7 83 = (128, 0) := by decide +kernel
theorem q_7_87 : mL 7 87 = (126, 0) := by decide +kernel
theorem q_7_71 : mL 7 71 = (124, 0) := by decide +kernel
theorem q_7_90 : mL 7 90 = (127, 0) := by decide +kernel
theorem q_7_75 : mL 7 75 = (125, 1) := by decide +kernel
theorem q_7_67 : mL 7 67 = (122, 1) := by decide +kernel
theorem q_8_22 : mL 8 22 = (130, 0) := by decide +kernel
theorem q_7_97 : mL 7 97 = (123, 0) := by decide +kernel
theorem q_8_27 : mL 8 27 = (138, 0) := by decide +kernel
theorem q_8_31 : mL 8 31 = (144, 0) := by decide +kernel
theorem q_7_132 : mL 7 132 = (143, 0) := by decide +kernel
theorem q_7_129 : mL 7 129 = (139, 0) := by decide +kernel
theorem q_7_114 : mL 7 114 = (131, 0) := by decide +kernel
theorem q_7_111 : mL 7 111 = (134, 1) := by decide +kernel
theorem q_7_136 : mL 7 136 = (142, 0) := by decide +kernel
theorem q_7_139 : mL 7 139 = (141, 0) := by decide +kernel
theorem q_7_126 : mL 7 126 = (140, 0) := by decide +kernel
theorem q_7_108 : mL 7 108 = (135, 1) := by decide +kernel
theorem q_8_35 : mL 8 35 = (146, 0) := by decide +kernel
theorem q_7_143 : mL 7 143 = (145, 0) := by decide +kernel
theorem q_8_40 : mL 8 40 = (151, 0) := by decide +kernel
theorem q_7_162 : mL 7 162 = (150, 0) := by decide +kernel
theorem q_7_165 : mL 7 165 = (149, 0) := by decide +kernel
theorem q_7_156 : mL 7 156 = (147, 0) := by decide +kernel
theorem q_7_159 : mL 7 159 = (148, 0) := by decide +kernel
theorem q_7_146 : mL 7 146 = (133, 0) := by decide +kernel
theorem q_7_149 : mL 7 149 = (136, 0) := by decide +kernel
theorem q_7_104 : mL 7 104 = (132, 0) := by decide +kernel
theorem q_7_153 : mL 7 153 = (137, 0) := by decide +kernel
theorem q_8_44 : mL 8 44 = (153, 0) := by decide +kernel
theorem q_7_168 : mL 7 168 = (152, 0) := by decide +kernel
theorem q_8_48 : mL 8 48 = (156, 0) := by decide +kernel
theorem q_7_175 : mL 7 175 = (155, 0) := by decide +kernel
theorem q_7_172 : mL 7 172 = (154, 0) := by decide +kernel
theorem q_8_52 : mL 8 52 = (157, 0) := by decide +kernel
theorem q_8_56 : mL 8 56 = (159, 0) := by decide +kernel
theorem q_7_178 : mL 7 178 = (158, 1) := by decide +kernel
theorem q_8_60 : mL 8 60 = (160, 0) := by decide +kernel
theorem q_8_64 : mL 8 64 = (163, 0) := by decide +kernel
theorem q_7_181 : mL 7 181 = (162, 0) := by decide +kernel
theorem q_7_185 : mL 7 185 = (161, 0) := by decide +kernel
theorem q_8_68 : mL 8 68 = (165, 0) := by decide +kernel
theorem q_7_188 : mL 7 188 = (164, 0) := by decide +kernel
theorem q_8_72 : mL 8 72 = (166, 0) := by decide +kernel
theorem q_8_76 : mL 8 76 = (167, 0) := by decide +kernel
theorem q_8_81 : mL 8 81 = (168, 0) := by decide +kernel
theorem q_7_192 : mL 7 192 = (144, 0) := by decide +kernel
theorem q_8_88 : mL 8 88 = (169, 0) := by decide +kernel
theorem q_8_92 : mL 8 92 = (170, 0) := by decide +kernel
theorem q_8_96 : mL 8 96 = (178, 0) := by decide +kernel
theorem q_8_100 : mL 8 100 = (179, 0) := by decide +kernel
theorem q_8_104 : mL 8 104 = (180, 0) := by decide +kernel
theorem kl_8_7 : kL 8 7 = 6 := by decide +kernel
theorem kl_6_7 : kL 6 7 = 3 := by decide +kernel
theorem kl_3_15 : kL 3 15 = 5 := by decide +kernel
theorem kl_6_16 : kL 6 16 = 2 := by decide +kernel
theorem kl_2_9 : kL 2 9 = 1 := by decide +kernel
theorem kl_1_25 : kL 1 25 = 5 := by decide +kernel
theorem kl_6_23 : kL 6 23 = 0 := by decide +kernel
theorem kl_0_9 : kL 0 9 = 4 := by decide +kernel
theorem kl_8_10 : kL 8 10 = 7 := by decide +kernel
theorem ll_3_30 : lL 3 30 = some 255 := by decide +kernel
theorem ll_3_32 : lL 3 32 = some 33 := by decide +kernel
theorem ll_3_34 : lL 3 34 = some 126 := by decide +kernel
theorem ll_7_195 : lL 7 195 = some 255 := by decide +kernel
theorem ll_8_82 : lL 8 82 = some 4294967295 := by decide +kernel
theorem ki_m1 : Int32.ofInt (-1) = ((-1) : Int32) := by decide +kernel
theorem ki_0 : Int32.ofInt 0 = (0 : Int32) := by decide +kernel
theorem ki_1 : Int32.ofInt 1 = (1 : Int32) := by decide +kernel
theorem ki_2 : Int32.ofInt 2 = (2 : Int32) := by decide +kernel
theorem ki_3 : Int32.ofInt 3 = (3 : Int32) := by decide +kernel
theorem ki_4 : Int32.ofInt 4 = (4 : Int32) := by decide +kernel
theorem ki_5 : Int32.ofInt 5 = (5 : Int32) := by decide +kernel
theorem kb_m6 : (Int8.ofInt (-6)).toInt32 = ((-6) : Int32) := by decide +kernel
theorem kb_m5 : (Int8.ofInt (-5)).toInt32 = ((-5) : Int32) := by decide +kernel
theorem kb_m4 : (Int8.ofInt (-4)).toInt32 = ((-4) : Int32) := by decide +kernel
theorem kb_m3 : (Int8.ofInt (-3)).toInt32 = ((-3) : Int32) := by decide +kernel
theorem kb_m2 : (Int8.ofInt (-2)).toInt32 = ((-2) : Int32) := by decide +kernel
theorem kb_6 : (Int8.ofInt 6).toInt32 = (6 : Int32) := by decide +kernel
theorem kb_7 : (Int8.ofInt 7).toInt32 = (7 : Int32) := by decide +kernel
theorem kb_8 : (Int8.ofInt 8).toInt32 = (8 : Int32) := by decide +kernel
theorem kb_9 : (Int8.ofInt 9).toInt32 = (9 : Int32) := by decide +kernel
theorem kb_10 : (Int8.ofInt 10).toInt32 = (10 : Int32) := by decide +kernel
theorem kb_11 : (Int8.ofInt 11).toInt32 = (11 : Int32) := by decide +kernel
theorem kb_13 : (Int8.ofInt 13).toInt32 = (13 : Int32) := by decide +kernel
theorem kb_21 : (Int8.ofInt 21).toInt32 = (21 : Int32) := by decide +kernel
theorem kb_27 : (Int8.ofInt 27).toInt32 = (27 : Int32) := by decide +kernel
theorem kb_28 : (Int8.ofInt 28).toInt32 = (28 : Int32) := by decide +kernel
theorem kb_31 : (Int8.ofInt 31).toInt32 = (31 : Int32) := by decide +kernel
theorem kb_32 : (Int8.ofInt 32).toInt32 = (32 : Int32) := by decide +kernel
theorem kb_33 : (Int8.ofInt 33).toInt32 = (33 : Int32) := by decide +kernel
theorem kb_42 : (Int8.ofInt 42).toInt32 = (42 : Int32) := by decide +kernel
theorem kb_43 : (Int8.ofInt 43).toInt32 = (43 : Int32) := by decide +kernel
theorem kb_44 : (Int8.ofInt 44).toInt32 = (44 : Int32) := by decide +kernel
theorem kb_45 : (Int8.ofInt 45).toInt32 = (45 : Int32) := by decide +kernel
theorem kb_47 : (Int8.ofInt 47).toInt32 = (47 : Int32) := by decide +kernel
theorem kb_48 : (Int8.ofInt 48).toInt32 = (48 : Int32) := by decide +kernel
theorem kb_50 : (Int8.ofInt 50).toInt32 = (50 : Int32) := by decide +kernel
theorem kb_57 : (Int8.ofInt 57).toInt32 = (57 : Int32) := by decide +kernel
theorem kb_60 : (Int8.ofInt 60).toInt32 = (60 : Int32) := by decide +kernel
theorem kb_61 : (Int8.ofInt 61).toInt32 = (61 : Int32) := by decide +kernel
theorem kb_62 : (Int8.ofInt 62).toInt32 = (62 : Int32) := by decide +kernel
theorem kb_80 : (Int8.ofInt 80).toInt32 = (80 : Int32) := by decide +kernel
theorem kb_96 : (Int8.ofInt 96).toInt32 = (96 : Int32) := by decide +kernel
theorem kb_97 : (Int8.ofInt 97).toInt32 = (97 : Int32) := by decide +kernel
theorem kb_100 : (Int8.ofInt 100).toInt32 = (100 : Int32) := by decide +kernel
theorem kb_106 : (Int8.ofInt 106).toInt32 = (106 : Int32) := by decide +kernel
theorem kb_117 : (Int8.ofInt 117).toInt32 = (117 : Int32) := by decide +kernel
theorem kb_126 : (Int8.ofInt 126).toInt32 = (126 : Int32) := by decide +kernel
theorem kb_127 : (Int8.ofInt 127).toInt32 = (127 : Int32) := by decide +kernel
theorem ks_168 : (Int16.ofInt 168).toInt32 = (168 : Int32) := by decide +kernel
theorem ks_199 : (Int16.ofInt 199).toInt32 = (199 : Int32) := by decide +kernel
theorem ks_200 : (Int16.ofInt 200).toInt32 = (200 : Int32) := by decide +kernel
theorem ks_205 : (Int16.ofInt 205).toInt32 = (205 : Int32) := by decide +kernel
theorem ks_251 : (Int16.ofInt 251).toInt32 = (251 : Int32) := by decide +kernel
theorem ks_254 : (Int16.ofInt 254).toInt32 = (254 : Int32) := by decide +kernel
theorem ks_255 : (Int16.ofInt 255).toInt32 = (255 : Int32) := by decide +kernel
theorem x_0 : ix 0 = 0 := by decide +kernel
theorem x_1 : ix 1 = 1 := by decide +kernel
theorem x_2 : ix 2 = 2 := by decide +kernel
theorem x_3 : ix 3 = 3 := by decide +kernel
theorem x_4 : ix 4 = 4 := by decide +kernel
theorem x_5 : ix 5 = 5 := by decide +kernel
theorem x_6 : ix 6 = 6 := by decide +kernel
theorem x_7 : ix 7 = 7 := by decide +kernel
theorem x_8 : ix 8 = 8 := by decide +kernel
theorem x_9 : ix 9 = 9 := by decide +kernel
theorem x_10 : ix 10 = 10 := by decide +kernel
theorem x_11 : ix 11 = 11 := by decide +kernel
theorem x_13 : ix 13 = 13 := by decide +kernel
theorem x_21 : ix 21 = 21 := by decide +kernel
theorem x_27 : ix 27 = 27 := by decide +kernel
theorem x_28 : ix 28 = 28 := by decide +kernel
theorem x_31 : ix 31 = 31 := by decide +kernel
theorem x_32 : ix 32 = 32 := by decide +kernel
theorem x_33 : ix 33 = 33 := by decide +kernel
theorem x_42 : ix 42 = 42 := by decide +kernel
theorem x_43 : ix 43 = 43 := by decide +kernel
theorem x_44 : ix 44 = 44 := by decide +kernel
theorem x_45 : ix 45 = 45 := by decide +kernel
theorem x_47 : ix 47 = 47 := by decide +kernel
theorem x_48 : ix 48 = 48 := by decide +kernel
theorem x_50 : ix 50 = 50 := by decide +kernel
theorem x_57 : ix 57 = 57 := by decide +kernel
theorem x_60 : ix 60 = 60 := by decide +kernel
theorem x_61 : ix 61 = 61 := by decide +kernel
theorem x_62 : ix 62 = 62 := by decide +kernel
theorem x_80 : ix 80 = 80 := by decide +kernel
theorem x_96 : ix 96 = 96 := by decide +kernel
theorem x_97 : ix 97 = 97 := by decide +kernel
theorem x_100 : ix 100 = 100 := by decide +kernel
theorem x_106 : ix 106 = 106 := by decide +kernel
theorem x_117 : ix 117 = 117 := by decide +kernel
theorem x_126 : ix 126 = 126 := by decide +kernel
theorem x_127 : ix 127 = 127 := by decide +kernel
theorem x_168 : ix 168 = 168 := by decide +kernel
theorem x_199 : ix 199 = 199 := by decide +kernel
theorem x_200 : ix 200 = 200 := by decide +kernel
theorem x_205 : ix 205 = 205 := by decide +kernel
theorem x_251 : ix 251 = 251 := by decide +kernel
theorem x_254 : ix 254 = 254 := by decide +kernel
theorem x_255 : ix 255 = 255 := by decide +kernel
theorem kl_0L : Int64.ofNat 0 = (0 : Int64) := by decide +kernel
theorem kl_1L : Int64.ofNat 1 = (1 : Int64) := by decide +kernel
end
section
/-! ===== the small machine's steps as equations ===== -/
noncomputable def E (m pc : Nat) (ls : List (Option Value)) (st : List Value) (G : Gt) (I : It) : Option Rs := ev (m, pc, ls, st, G, I)
/-- a check on the way -/
def ck (b : Bool) (x : Option Rs) : Option Rs := match b with
  | true => x
  | false => none
theorem ck_t (x : Option Rs) : ck true x = x := rfl
theorem ck_of {b : Bool} (h : b = true) (x : Option Rs) : ck b x = x := by rw [h]; rfl
theorem ck_c {b : Bool} {x y : Option Rs} (h : x = y) : ck b x = ck b y := by rw [h]
theorem ck_h {b : Bool} {x y : Option Rs} (h : b = true → x = y) : ck b x = ck b y := by
  cases b with
  | true => exact h rfl
  | false => rfl
theorem ite_h {c : Prop} [Decidable c] {x x' y y' : Option Rs} (h1 : c → x = x') (h2 : ¬ c → y = y') : (if c then x else y) = (if c then x' else y') := by
  by_cases h : c
  · rw [if_pos h, if_pos h, h1 h]
  · rw [if_neg h, if_neg h, h2 h]
theorem ite_c {c : Prop} [Decidable c] {x x' y y' : Option Rs} (h1 : x = x') (h2 : y = y') : (if c then x else y) = (if c then x' else y') := by rw [h1, h2]
def iok (i : Instr) (n : Nat) : Bool := decide (ilen i = n) || (match i with | .tableswitch _ _ _ _ => true | _ => false)
theorem gd_t {c : Bool} {s : Sr} (h : c = true) : gd c s = s := by rw [h]; rfl
theorem e_of {m pc : Nat} {ls : List (Option Value)} {st : List Value} {G : Gt} {I : It} {bs : ByteArray} {i : Instr} {n : Nat} (hb : pB m = bs) (hd : decode bs pc = .ok (i, n)) (hn : iok i n = true) : sd (m, pc, ls, st, G, I) = sdi i m pc ls st G I := by
  unfold sd
  simp only [hb, hd]
  exact gd_t hn
theorem e_go {m pc m' pc' : Nat} {ls ls' : List (Option Value)} {st st' : List Value} {G G' : Gt} {I I' : It} {bs : ByteArray} {i : Instr} {n : Nat} (hb : pB m = bs) (hd : decode bs pc = .ok (i, n)) (hn : iok i n = true)
    (h : sdi i m pc ls st G I = go m' pc' ls' st' G' I') : E m pc ls st G I = E m' pc' ls' st' G' I' := ev_go ((e_of hb hd hn).trans h)
theorem e_ck {m pc m' pc' : Nat} {ls ls' : List (Option Value)} {st st' : List Value} {G G' : Gt} {I I' : It} {bs : ByteArray} {i : Instr} {n : Nat} {b : Bool} (hb : pB m = bs) (hd : decode bs pc = .ok (i, n)) (hn : iok i n = true)
    (h : sdi i m pc ls st G I = gd b (go m' pc' ls' st' G' I')) : E m pc ls st G I = ck b (E m' pc' ls' st' G' I') := by
  cases b with
  | true => exact e_go hb hd hn h
  | false => exact ev_ret ((e_of hb hd hn).trans h)
section ST
variable {m pc : Nat} {ls : List (Option Value)} {st : List Value} {G : Gt} {I : It} {bs : ByteArray}
theorem e_iconst {n : Int} {v : Int32} (hb : pB m = bs) (hd : decode bs pc = .ok (.iconst n, 1)) (hv : Int32.ofInt n = v) : E m pc ls st G I = E m (pc + 1) ls (.int v :: st) G I := e_go hb hd rfl (by rw [← hv]; rfl)
theorem e_bipush {n : Int} {v : Int32} (hb : pB m = bs) (hd : decode bs pc = .ok (.bipush n, 2)) (hv : (Int8.ofInt n).toInt32 = v) : E m pc ls st G I = E m (pc + 2) ls (.int v :: st) G I := e_go hb hd rfl (by rw [← hv]; rfl)
theorem e_sipush {n : Int} {v : Int32} (hb : pB m = bs) (hd : decode bs pc = .ok (.sipush n, 3)) (hv : (Int16.ofInt n).toInt32 = v) : E m pc ls st G I = E m (pc + 3) ls (.int v :: st) G I := e_go hb hd rfl (by rw [← hv]; rfl)
theorem e_lconst {n : Fin 2} {v : Int64} (hb : pB m = bs) (hd : decode bs pc = .ok (.lconst n, 1)) (hv : Int64.ofNat (n : Nat) = v) : E m pc ls st G I = E m (pc + 1) ls (.long v :: st) G I := e_go hb hd rfl (by rw [← hv]; rfl)
theorem e_ldc2 {k c : Nat} {v : Int64} (hb : pB m = bs) (hc : pC m = c) (hd : decode bs pc = .ok (.ldc2_w k, 3)) (hv : lL c k = some v) : E m pc ls st G I = E m (pc + 3) ls (.long v :: st) G I := e_go hb hd rfl (by simp only [sdi, hc, hv])
theorem e_iload_n {k : Fin 4} {x : Int32} (hb : pB m = bs) (hd : decode bs pc = .ok (.iload_n k, 1)) (h : ls[(k : Nat)]? = some (some (.int x))) : E m pc ls st G I = E m (pc + 1) ls (.int x :: st) G I := e_go hb hd rfl (by simp only [sdi, h, ldI])
theorem e_iload {k : Nat} {x : Int32} (hb : pB m = bs) (hd : decode bs pc = .ok (.iload k, 2)) (h : ls[k]? = some (some (.int x))) : E m pc ls st G I = E m (pc + 2) ls (.int x :: st) G I := e_go hb hd rfl (by simp only [sdi, h, ldI])
theorem e_lload_n {k : Fin 4} {x : Int64} (hb : pB m = bs) (hd : decode bs pc = .ok (.lload_n k, 1)) (h : ls[(k : Nat)]? = some (some (.long x))) : E m pc ls st G I = E m (pc + 1) ls (.long x :: st) G I := e_go hb hd rfl (by simp only [sdi, h, ldJ])
theorem e_lload {k : Nat} {x : Int64} (hb : pB m = bs) (hd : decode bs pc = .ok (.lload k, 2)) (h : ls[k]? = some (some (.long x))) : E m pc ls st G I = E m (pc + 2) ls (.long x :: st) G I := e_go hb hd rfl (by simp only [sdi, h, ldJ])
theorem e_aload_n {k : Fin 4} {x : Nat} (hb : pB m = bs) (hd : decode bs pc = .ok (.aload_n k, 1)) (h : ls[(k : Nat)]? = some (some (.ref x))) : E m pc ls st G I = E m (pc + 1) ls (.ref x :: st) G I := e_go hb hd rfl (by simp only [sdi, h, ldA])
theorem e_aload {k : Nat} {x : Nat} (hb : pB m = bs) (hd : decode bs pc = .ok (.aload k, 2)) (h : ls[k]? = some (some (.ref x))) : E m pc ls st G I = E m (pc + 2) ls (.ref x :: st) G I := e_go hb hd rfl (by simp only [sdi, h, ldA])
theorem e_istore_n {k : Fin 4} {x : Int32} {ls' : List (Option Value)} (hb : pB m = bs) (hd : decode bs pc = .ok (.istore_n k, 1)) (h : sL ls k (.int x) = some ls') : E m pc ls (.int x :: st) G I = E m (pc + 1) ls' st G I := e_go hb hd rfl (by simp only [sdi, stI, h])
theorem e_istore {k : Nat} {x : Int32} {ls' : List (Option Value)} (hb : pB m = bs) (hd : decode bs pc = .ok (.istore k, 2)) (h : sL ls k (.int x) = some ls') : E m pc ls (.int x :: st) G I = E m (pc + 2) ls' st G I := e_go hb hd rfl (by simp only [sdi, stI, h])
theorem e_astore_n {k : Fin 4} {x : Nat} {ls' : List (Option Value)} (hb : pB m = bs) (hd : decode bs pc = .ok (.astore_n k, 1)) (h : sL ls k (.ref x) = some ls') : E m pc ls (.ref x :: st) G I = E m (pc + 1) ls' st G I := e_go hb hd rfl (by simp only [sdi, stA, h])
theorem e_astore {k : Nat} {x : Nat} {ls' : List (Option Value)} (hb : pB m = bs) (hd : decode bs pc = .ok (.astore k, 2)) (h : sL ls k (.ref x) = some ls') : E m pc ls (.ref x :: st) G I = E m (pc + 2) ls' st G I := e_go hb hd rfl (by simp only [sdi, stA, h])
theorem e_lstore_n {k : Fin 4} {x : Int64} {ls' : List (Option Value)} (hb : pB m = bs) (hd : decode bs pc = .ok (.lstore_n k, 1)) (h : sL2 ls k (.long x) = some ls') : E m pc ls (.long x :: st) G I = E m (pc + 1) ls' st G I := e_go hb hd rfl (by simp only [sdi, stJ, h])
theorem e_lstore {k : Nat} {x : Int64} {ls' : List (Option Value)} (hb : pB m = bs) (hd : decode bs pc = .ok (.lstore k, 2)) (h : sL2 ls k (.long x) = some ls') : E m pc ls (.long x :: st) G I = E m (pc + 2) ls' st G I := e_go hb hd rfl (by simp only [sdi, stJ, h])
theorem e_iinc {k : Nat} {n : Int} {x v : Int32} {ls' : List (Option Value)} (hb : pB m = bs) (hd : decode bs pc = .ok (.iinc k n, 3)) (hv : Int32.ofInt n = v) (hk : ls[k]? = some (some (.int x))) (h : sL ls k (.int (x + v)) = some ls') : E m pc ls st G I = E m (pc + 3) ls' st G I := e_go hb hd rfl (by simp only [sdi, hk, hv, h])
theorem e_iadd {x y : Int32} (hb : pB m = bs) (hd : decode bs pc = .ok (.iadd, 1)) : E m pc ls (.int y :: .int x :: st) G I = E m (pc + 1) ls (.int (x + y) :: st) G I := e_go hb hd rfl rfl
theorem e_isub {x y : Int32} (hb : pB m = bs) (hd : decode bs pc = .ok (.isub, 1)) : E m pc ls (.int y :: .int x :: st) G I = E m (pc + 1) ls (.int (x - y) :: st) G I := e_go hb hd rfl rfl
theorem e_imul {x y : Int32} (hb : pB m = bs) (hd : decode bs pc = .ok (.imul, 1)) : E m pc ls (.int y :: .int x :: st) G I = E m (pc + 1) ls (.int (x * y) :: st) G I := e_go hb hd rfl rfl
theorem e_iand {x y : Int32} (hb : pB m = bs) (hd : decode bs pc = .ok (.iand, 1)) : E m pc ls (.int y :: .int x :: st) G I = E m (pc + 1) ls (.int (x &&& y) :: st) G I := e_go hb hd rfl rfl
theorem e_ixor {x y : Int32} (hb : pB m = bs) (hd : decode bs pc = .ok (.ixor, 1)) : E m pc ls (.int y :: .int x :: st) G I = E m (pc + 1) ls (.int (x ^^^ y) :: st) G I := e_go hb hd rfl rfl
theorem e_idiv {x y : Int32} (hb : pB m = bs) (hd : decode bs pc = .ok (.idiv, 1)) : E m pc ls (.int y :: .int x :: st) G I = ck (!decide (y = 0)) (E m (pc + 1) ls (.int (x / y) :: st) G I) := e_ck hb hd rfl rfl
theorem e_irem {x y : Int32} (hb : pB m = bs) (hd : decode bs pc = .ok (.irem, 1)) : E m pc ls (.int y :: .int x :: st) G I = ck (!decide (y = 0)) (E m (pc + 1) ls (.int (x - x / y * y) :: st) G I) := e_ck hb hd rfl rfl
theorem e_land {x y : Int64} (hb : pB m = bs) (hd : decode bs pc = .ok (.land, 1)) : E m pc ls (.long y :: .long x :: st) G I = E m (pc + 1) ls (.long (x &&& y) :: st) G I := e_go hb hd rfl rfl
theorem e_lor {x y : Int64} (hb : pB m = bs) (hd : decode bs pc = .ok (.lor, 1)) : E m pc ls (.long y :: .long x :: st) G I = E m (pc + 1) ls (.long (x ||| y) :: st) G I := e_go hb hd rfl rfl
theorem e_lshl {x : Int64} {y : Int32} (hb : pB m = bs) (hd : decode bs pc = .ok (.lshl, 1)) : E m pc ls (.int y :: .long x :: st) G I = E m (pc + 1) ls (.long (x <<< (y.toInt64 &&& 63)) :: st) G I := e_go hb hd rfl rfl
theorem e_lshr {x : Int64} {y : Int32} (hb : pB m = bs) (hd : decode bs pc = .ok (.lshr, 1)) : E m pc ls (.int y :: .long x :: st) G I = E m (pc + 1) ls (.long (x >>> (y.toInt64 &&& 63)) :: st) G I := e_go hb hd rfl rfl
theorem e_lushr {x : Int64} {y : Int32} (hb : pB m = bs) (hd : decode bs pc = .ok (.lushr, 1)) : E m pc ls (.int y :: .long x :: st) G I = E m (pc + 1) ls (.long ((x.toUInt64 >>> (y.toInt64.toUInt64 &&& Int64.toUInt64 63)).toInt64) :: st) G I := e_go hb hd rfl rfl
theorem e_lcmp {x y : Int64} (hb : pB m = bs) (hd : decode bs pc = .ok (.lcmp, 1)) : E m pc ls (.long y :: .long x :: st) G I = E m (pc + 1) ls (.int (lg_cmp x y) :: st) G I := e_go hb hd rfl rfl
theorem e_i2l {x : Int32} (hb : pB m = bs) (hd : decode bs pc = .ok (.i2l, 1)) : E m pc ls (.int x :: st) G I = E m (pc + 1) ls (.long x.toInt64 :: st) G I := e_go hb hd rfl rfl
theorem e_l2i {x : Int64} (hb : pB m = bs) (hd : decode bs pc = .ok (.l2i, 1)) : E m pc ls (.long x :: st) G I = E m (pc + 1) ls (.int x.toInt32 :: st) G I := e_go hb hd rfl rfl
theorem e_i2c {x : Int32} (hb : pB m = bs) (hd : decode bs pc = .ok (.i2c, 1)) : E m pc ls (.int x :: st) G I = E m (pc + 1) ls (.int (x.toUInt32 % 65536).toInt32 :: st) G I := e_go hb hd rfl rfl
theorem e_dupI {x : Int32} (hb : pB m = bs) (hd : decode bs pc = .ok (.dup, 1)) : E m pc ls (.int x :: st) G I = E m (pc + 1) ls (.int x :: .int x :: st) G I := e_go hb hd rfl rfl
theorem e_dupA {x : Nat} (hb : pB m = bs) (hd : decode bs pc = .ok (.dup, 1)) : E m pc ls (.ref x :: st) G I = E m (pc + 1) ls (.ref x :: .ref x :: st) G I := e_go hb hd rfl rfl
theorem e_dup2 {x : Int32} {y : Nat} (hb : pB m = bs) (hd : decode bs pc = .ok (.dup2, 1)) : E m pc ls (.int x :: .ref y :: st) G I = E m (pc + 1) ls (.int x :: .ref y :: .int x :: .ref y :: st) G I := e_go hb hd rfl rfl
theorem e_pop {x : Int32} (hb : pB m = bs) (hd : decode bs pc = .ok (.pop, 1)) : E m pc ls (.int x :: st) G I = E m (pc + 1) ls st G I := e_go hb hd rfl rfl
theorem e_goto {off : Int} {t : Nat} (hb : pB m = bs) (hd : decode bs pc = .ok (.goto off, 3)) (ht : (pc : Int) + off = (t : Int)) : E m pc ls st G I = E m t ls st G I := e_go hb hd rfl (by
  simp only [sdi, tgok, tg, ht]
  rw [gd_t (by simp)]
  rfl)
theorem e_br {m pc t : Nat} {ls : List (Option Value)} {st r : List Value} {G : Gt} {I : It} {off : Int} {i : Instr} {b : Bool} {c : Prop} [Decidable c] (hb : pB m = bs) (hd : decode bs pc = .ok (i, 3)) (hn : iok i 3 = true) (h : sdi i m pc ls st G I = br b m pc off ls r G I) (hbc : b = decide c) (ht : (pc : Int) + off = (t : Int)) :
    E m pc ls st G I = if c then E m t ls r G I else E m (pc + 3) ls r G I := by
  have ht1 : tgok pc off = true := by unfold tgok; rw [ht]; simp
  have ht2 : tg pc off = t := by unfold tg; rw [ht]; simp
  have h := (e_of hb hd hn (ls := ls) (st := st) (G := G) (I := I)).trans h
  unfold br at h
  rw [gd_t ht1, ht2, hbc] at h
  by_cases hc : c
  · rw [if_pos hc]
    exact ev_go (by rw [h, decide_eq_true hc]; rfl)
  · rw [if_neg hc]
    exact ev_go (by rw [h, decide_eq_false hc]; rfl)
theorem e_ifeq {x : Int32} {off : Int} {t : Nat} (hb : pB m = bs) (hd : decode bs pc = .ok (.ifCond .eq off, 3)) (ht : (pc : Int) + off = (t : Int)) : E m pc ls (.int x :: st) G I = if x = 0 then E m t ls st G I else E m (pc + 3) ls st G I := e_br hb hd rfl rfl rfl ht
theorem e_ifne {x : Int32} {off : Int} {t : Nat} (hb : pB m = bs) (hd : decode bs pc = .ok (.ifCond .ne off, 3)) (ht : (pc : Int) + off = (t : Int)) : E m pc ls (.int x :: st) G I = if x = 0 then E m (pc + 3) ls st G I else E m t ls st G I := by
  rw [e_br (c := ¬ x = 0) hb hd rfl rfl (by simp [c0]) ht]
  by_cases h : x = 0
  · rw [if_pos h, if_neg (fun z => z h)]
  · rw [if_neg h, if_pos h]
theorem e_iflt {x : Int32} {off : Int} {t : Nat} (hb : pB m = bs) (hd : decode bs pc = .ok (.ifCond .lt off, 3)) (ht : (pc : Int) + off = (t : Int)) : E m pc ls (.int x :: st) G I = if x < 0 then E m t ls st G I else E m (pc + 3) ls st G I := e_br hb hd rfl rfl rfl ht
theorem e_ifge {x : Int32} {off : Int} {t : Nat} (hb : pB m = bs) (hd : decode bs pc = .ok (.ifCond .ge off, 3)) (ht : (pc : Int) + off = (t : Int)) : E m pc ls (.int x :: st) G I = if 0 ≤ x then E m t ls st G I else E m (pc + 3) ls st G I := e_br hb hd rfl rfl rfl ht
theorem e_ifgt {x : Int32} {off : Int} {t : Nat} (hb : pB m = bs) (hd : decode bs pc = .ok (.ifCond .gt off, 3)) (ht : (pc : Int) + off = (t : Int)) : E m pc ls (.int x :: st) G I = if 0 < x then E m t ls st G I else E m (pc + 3) ls st G I := e_br hb hd rfl rfl rfl ht
theorem e_ifle {x : Int32} {off : Int} {t : Nat} (hb : pB m = bs) (hd : decode bs pc = .ok (.ifCond .le off, 3)) (ht : (pc : Int) + off = (t : Int)) : E m pc ls (.int x :: st) G I = if x ≤ 0 then E m t ls st G I else E m (pc + 3) ls st G I := e_br hb hd rfl rfl rfl ht
theorem e_cmeq {x y : Int32} {off : Int} {t : Nat} (hb : pB m = bs) (hd : decode bs pc = .ok (.if_icmp .eq off, 3)) (ht : (pc : Int) + off = (t : Int)) : E m pc ls (.int y :: .int x :: st) G I = if x = y then E m t ls st G I else E m (pc + 3) ls st G I := e_br hb hd rfl rfl rfl ht
theorem e_cmne {x y : Int32} {off : Int} {t : Nat} (hb : pB m = bs) (hd : decode bs pc = .ok (.if_icmp .ne off, 3)) (ht : (pc : Int) + off = (t : Int)) : E m pc ls (.int y :: .int x :: st) G I = if x = y then E m (pc + 3) ls st G I else E m t ls st G I := by
  rw [e_br (c := ¬ x = y) hb hd rfl rfl (by simp [c2]) ht]
  by_cases h : x = y
  · rw [if_pos h, if_neg (fun z => z h)]
  · rw [if_neg h, if_pos h]
theorem e_cmlt {x y : Int32} {off : Int} {t : Nat} (hb : pB m = bs) (hd : decode bs pc = .ok (.if_icmp .lt off, 3)) (ht : (pc : Int) + off = (t : Int)) : E m pc ls (.int y :: .int x :: st) G I = if x < y then E m t ls st G I else E m (pc + 3) ls st G I := e_br hb hd rfl rfl rfl ht
theorem e_cmge {x y : Int32} {off : Int} {t : Nat} (hb : pB m = bs) (hd : decode bs pc = .ok (.if_icmp .ge off, 3)) (ht : (pc : Int) + off = (t : Int)) : E m pc ls (.int y :: .int x :: st) G I = if y ≤ x then E m t ls st G I else E m (pc + 3) ls st G I := e_br hb hd rfl rfl rfl ht
theorem e_cmgt {x y : Int32} {off : Int} {t : Nat} (hb : pB m = bs) (hd : decode bs pc = .ok (.if_icmp .gt off, 3)) (ht : (pc : Int) + off = (t : Int)) : E m pc ls (.int y :: .int x :: st) G I = if y < x then E m t ls st G I else E m (pc + 3) ls st G I := e_br hb hd rfl rfl rfl ht
theorem e_cmle {x y : Int32} {off : Int} {t : Nat} (hb : pB m = bs) (hd : decode bs pc = .ok (.if_icmp .le off, 3)) (ht : (pc : Int) + off = (t : Int)) : E m pc ls (.int y :: .int x :: st) G I = if x ≤ y then E m t ls st G I else E m (pc + 3) ls st G I := e_br hb hd rfl rfl rfl ht
/-- where a switch goes: from the least case on, by the list -/
def swt (x lo : Int) (l : List Nat) (d : Nat) : Nat := if x < lo ∨ lo + l.length ≤ x then d else l.getD (x - lo).toNat d
theorem e_tsw {x : Int32} {d lo hi : Int} {offs : Array Int} {n t : Nat} {l : List Nat} (hb : pB m = bs) (hd : decode bs pc = .ok (.tableswitch d lo hi offs, n)) (hl : hi + 1 = lo + l.length) (ht : (pc : Int) + d = (t : Int)) (ho : offs.toList.map (fun o => (pc : Int) + o) = l.map (fun (z : Nat) => (z : Int))) :
    E m pc ls (.int x :: st) G I = E m (swt x.toInt lo l t) ls st G I := by
  refine e_go hb hd (by unfold iok; simp) ?_
  unfold swt
  by_cases h : x.toInt < lo ∨ hi < x.toInt
  · rw [if_pos (by omega)]
    simp only [sdi]
    rw [if_pos h]
    have ht1 : tgok pc d = true := by unfold tgok; rw [ht]; simp
    have ht2 : tg pc d = t := by unfold tg; rw [ht]; simp
    rw [gd_t ht1, ht2]
  · rw [if_neg (by omega)]
    simp only [sdi]
    rw [if_neg h]
    have hk : (x.toInt - lo).toNat < l.length := by omega
    have hlen : offs.toList.length = l.length := by
      have := congrArg List.length ho
      simpa using this
    have hlen' : (x.toInt - lo).toNat < offs.size := by rw [← Array.length_toList]; omega
    have ho2 : offs[(x.toInt - lo).toNat]? = some (offs[(x.toInt - lo).toNat]'hlen') := Array.getElem?_eq_getElem hlen'
    rw [ho2]
    have e1 := congrArg (fun z => z[(x.toInt - lo).toNat]?) ho
    simp only [List.getElem?_map, Array.getElem?_toList, ho2, List.getElem?_eq_getElem hk, Option.map_some, Option.some.injEq] at e1
    rw [List.getD_eq_getElem?_getD, List.getElem?_eq_getElem hk]
    simp only [Option.getD_some]
    have ht1 : tgok pc (offs[(x.toInt - lo).toNat]'hlen') = true := by unfold tgok; rw [e1]; simp
    have ht2 : tg pc (offs[(x.toInt - lo).toNat]'hlen') = l[(x.toInt - lo).toNat] := by unfold tg; rw [e1]; simp
    rw [gd_t ht1, ht2]
theorem e_alen {a : Nat} {n : Nat} (hb : pB m = bs) (hd : decode bs pc = .ok (.arraylength, 1)) (hk : (decide (50 ≤ kd G a) && decide (kd G a ≤ 54)) = true ∨ a = 0) (hl : ln G a = n) : E m pc ls (.ref a :: st) G I = E m (pc + 1) ls (.int (Int32.ofNat n) :: st) G I := e_go hb hd rfl (by
  simp only [sdi]
  rw [gd_t, hl]
  rcases hk with h | h
  · rw [h]; rfl
  · rw [h]; simp)
theorem e_iald {a n : Nat} {i : Int32} (hb : pB m = bs) (hd : decode bs pc = .ok (.iaload, 1)) (hk : kd G a = 50 ∨ a = 0) (hl : ln G a = n) : E m pc ls (.int i :: .ref a :: st) G I = ck (inb i n) (E m (pc + 1) ls (.int (I a (ix i)) :: st) G I) := e_ck hb hd rfl (by
  simp only [sdi, hl]
  congr 1
  rcases hk with h | h
  · rw [h]; simp
  · rw [h]; simp)
theorem e_bald {a n : Nat} {i : Int32} (hb : pB m = bs) (hd : decode bs pc = .ok (.baload, 1)) (hk : kd G a = 51) (hl : ln G a = n) : E m pc ls (.int i :: .ref a :: st) G I = ck (inb i n) (E m (pc + 1) ls (.int (I a (ix i)) :: st) G I) := e_ck hb hd rfl (by simp only [sdi, hl, hk]; simp)
theorem e_cald {a n : Nat} {i : Int32} (hb : pB m = bs) (hd : decode bs pc = .ok (.caload, 1)) (hk : kd G a = 52) (hl : ln G a = n) : E m pc ls (.int i :: .ref a :: st) G I = ck (inb i n) (E m (pc + 1) ls (.int (I a (ix i)) :: st) G I) := e_ck hb hd rfl (by simp only [sdi, hl, hk]; simp)
/-- a reference that is no null -/
def ckr (x : Option Nat) (k : Nat → Option Rs) (z : Option Rs) : Option Rs := match x with
  | some a => k a
  | none => z
theorem e_aald {a n r : Nat} {i : Int32} (hb : pB m = bs) (hd : decode bs pc = .ok (.aaload, 1)) (hk : kd G a = 53 ∨ kd G a = 54) (hl : ln G a = n) (hr : inb i n = true → rf G a (ix i) = some r) : E m pc ls (.int i :: .ref a :: st) G I = ck (inb i n) (E m (pc + 1) ls (.ref r :: st) G I) := by
  have h1 : E m pc ls (.int i :: .ref a :: st) G I = ck (inb i n) (E m (pc + 1) ls (va_rf (rf G a (ix i)) :: st) G I) := e_ck hb hd rfl (by
    simp only [sdi, hl]
    congr 1
    rcases hk with h | h <;> rw [h] <;> simp)
  rw [h1]
  cases hi : inb i n with
  | false => rfl
  | true => rw [hr hi]; rfl
theorem e_iast {a n : Nat} {i x : Int32} (hb : pB m = bs) (hd : decode bs pc = .ok (.iastore, 1)) (hk : kd G a = 50) (hl : ln G a = n) : E m pc ls (.int x :: .int i :: .ref a :: st) G I = ck (inb i n) (E m (pc + 1) ls st G (uI I a (ix i) x)) := e_ck hb hd rfl (by simp only [sdi, hl, hk]; simp)
theorem e_bast {a n : Nat} {i x : Int32} (hb : pB m = bs) (hd : decode bs pc = .ok (.bastore, 1)) (hk : kd G a = 51) (hl : ln G a = n) : E m pc ls (.int x :: .int i :: .ref a :: st) G I = ck (inb i n && b01 x) (E m (pc + 1) ls st G (uI I a (ix i) x)) := e_ck hb hd rfl (by simp only [sdi, hl, hk]; simp)
theorem e_cast {a n : Nat} {i x : Int32} (hb : pB m = bs) (hd : decode bs pc = .ok (.castore, 1)) (hk : kd G a = 52) (hl : ln G a = n) : E m pc ls (.int x :: .int i :: .ref a :: st) G I = ck (inb i n && decide (0 ≤ x.toInt ∧ x.toInt ≤ 65535)) (E m (pc + 1) ls st G (uI I a (ix i) x)) := e_ck hb hd rfl (by simp only [sdi, hl, hk]; simp)
theorem e_aast {a n x : Nat} {i : Int32} (hb : pB m = bs) (hd : decode bs pc = .ok (.aastore, 1)) (hk : (kd G a = 53 ∧ kd G x = 1) ∨ (kd G a = 54 ∧ kd G x = 0)) (hl : ln G a = n) : E m pc ls (.ref x :: .int i :: .ref a :: st) G I = ck (inb i n) (E m (pc + 1) ls st (uG G a (ix i) x) I) := e_ck hb hd rfl (by
  simp only [sdi, hl]
  congr 1
  rcases hk with ⟨h, h'⟩ | ⟨h, h'⟩ <;> rw [h, h'] <;> simp)
theorem e_getI {i c ci k o : Nat} (hb : pB m = bs) (hc : pC m = c) (hd : decode bs pc = .ok (.getfield i, 3)) (hf : fL c i = (ci, k)) (h8 : decide (ci < 8) = true) (ht : fT ci k ≠ 2) (hk : kd G o = ci) : E m pc ls (.ref o :: st) G I = E m (pc + 3) ls (.int (I o k) :: st) G I := e_go hb hd rfl (by
  simp only [sdi, hc, hf, hk, h8]
  unfold gf
  rw [if_neg ht, gd_t (by simp)])
theorem e_getR {i c ci k o r : Nat} (hb : pB m = bs) (hc : pC m = c) (hd : decode bs pc = .ok (.getfield i, 3)) (hf : fL c i = (ci, k)) (h8 : decide (ci < 8) = true) (ht : fT ci k = 2) (hk : kd G o = ci) (hr : rf G o k = some r) : E m pc ls (.ref o :: st) G I = E m (pc + 3) ls (.ref r :: st) G I := e_go hb hd rfl (by
  simp only [sdi, hc, hf, hk, h8]
  unfold gf
  rw [if_pos ht, hr, gd_t (by simp)]
  rfl)
theorem e_putI {i c ci k o : Nat} {x : Int32} (hb : pB m = bs) (hc : pC m = c) (hd : decode bs pc = .ok (.putfield i, 3)) (hf : fL c i = (ci, k)) (h8 : decide (ci < 8) = true) (ht : fT ci k = 0) (hfin : fF ci k = false) (hk : kd G o = ci) : E m pc ls (.int x :: .ref o :: st) G I = E m (pc + 3) ls st G (uI I o k x) := e_go hb hd rfl (by
  simp only [sdi, hc, hf, hk, h8, hfin, pf, ht]
  rw [gd_t (by simp)])
theorem e_putZ {i c ci k o : Nat} {x : Int32} (hb : pB m = bs) (hc : pC m = c) (hd : decode bs pc = .ok (.putfield i, 3)) (hf : fL c i = (ci, k)) (h8 : decide (ci < 8) = true) (ht : fT ci k = 1) (hfin : fF ci k = false) (hk : kd G o = ci) : E m pc ls (.int x :: .ref o :: st) G I = ck (b01 x) (E m (pc + 3) ls st G (uI I o k x)) := e_ck hb hd rfl (by
  simp only [sdi, hc, hf, hk, h8, hfin, pf, ht]
  rw [gd_t (by simp)])
theorem e_putR {i ci k o r : Nat} (hb : pB m = bs) (hc : pC m = ci) (hm : pK m = 2) (hd : decode bs pc = .ok (.putfield i, 3)) (hf : fL ci i = (ci, k)) (h8 : decide (ci < 8) = true) (ht : fT ci k = 2) (hk : kd G o = ci) : E m pc ls (.ref r :: .ref o :: st) G I = E m (pc + 3) ls st (uG G o k r) I := e_go hb hd rfl (by
  simp only [sdi, hc, hf, hk, h8, hm, pf, ht]
  rw [gd_t (by simp)])
theorem e_new {i c ci nn : Nat} (hb : pB m = bs) (hc : pC m = c) (hd : decode bs pc = .ok (.new i, 3)) (hf : kL c i = ci) (h8 : decide (ci < 8) = true) (hn : clN ci = nn) : E m pc ls st G I = E m (pc + 3) ls (.ref G.1 :: st) (nG G ci nn) (nI0 G I) := e_go hb hd rfl (by
  simp only [sdi, hc, hf, h8, hn]
  rw [gd_t (by simp)])
theorem e_newa {t : ArrayType} {n : Int32} {N c : Nat} (hb : pB m = bs) (hd : decode bs pc = .ok (.newarray t, 2)) (hk : akd t = c) (h1 : (decide (c < 60) && decide (0 ≤ n.toInt ∧ n.toInt ≤ 1000)) = true) (hN : ix n = N) : E m pc ls (.int n :: st) G I = E m (pc + 2) ls (.ref G.1 :: st) (nG G c N) (nI0 G I) := e_go hb hd rfl (by
  simp only [sdi, hk, hN]
  rw [gd_t h1])
theorem e_anewa {i c ci : Nat} {n : Int32} {N kk : Nat} (hb : pB m = bs) (hc : pC m = c) (hd : decode bs pc = .ok (.anewarray i, 3)) (hf : kL c i = ci) (h1 : (decide (ci ≤ 1) && decide (0 ≤ n.toInt ∧ n.toInt ≤ 1000)) = true) (hN : ix n = N) (hkk : 54 - ci = kk) : E m pc ls (.int n :: st) G I = E m (pc + 3) ls (.ref G.1 :: st) (nG G kk N) (nI0 G I) := e_go hb hd rfl (by
  simp only [sdi, hc, hf, hN, hkk]
  rw [gd_t h1])
theorem e_acopy {i c a0 a1 n0 n1 : Nat} {sp dp n : Int32} (hb : pB m = bs) (hc : pC m = c) (hd : decode bs pc = .ok (.invokestatic i, 3)) (hm : (c, i) ∈ aTl) (hcat : Nat.ble (cats st) 8 = true) (hr : (decide (1 ≤ pF m) && decide (26 ≤ pW m)) = true) (hk0 : kd G a0 = 50) (hk1 : kd G a1 = 50) (h1 : (decide (0 ≤ sp.toInt) && decide (0 ≤ dp.toInt) && decide (0 ≤ n.toInt)) = true) (hl0 : ln G a0 = n0) (hl1 : ln G a1 = n1) (h2 : (decide (ix sp + ix n ≤ n0) && decide (ix dp + ix n ≤ n1)) = true) :
    E m pc ls (.int n :: .int dp :: .ref a1 :: .int sp :: .ref a0 :: st) G I = E m (pc + 3) ls st G (cpI I a0 a1 (ix sp) (ix dp) (ix n)) := e_go hb hd rfl (by
  simp only [sdi, hc, if_pos hm, hl0, hl1, hk0, hk1]
  rw [gd_t]
  simp only [Bool.and_eq_true, decide_eq_true_eq] at hr h1 h2 ⊢
  exact ⟨⟨⟨⟨⟨⟨⟨⟨Nat.le_of_ble_eq_true hcat, hr.1⟩, hr.2⟩, trivial, trivial⟩, h1.1.1⟩, h1.1.2⟩, h1.2⟩, h2.1⟩, h2.2⟩)
theorem e_objI {i c a : Nat} (hb : pB m = bs) (hc : pC m = c) (hd : decode bs pc = .ok (.invokespecial i, 3)) (hm : (c, i) ∈ oTl) (hcat : Nat.ble (cats st) 8 = true) (hr : (decide (1 ≤ pF m) && decide (20 ≤ pW m)) = true) : E m pc ls (.ref a :: st) G I = E m (pc + 3) ls st G I := e_go hb hd rfl (by
  simp only [sdi, hc, if_pos hm]
  simp only [Bool.and_eq_true, decide_eq_true_eq] at hr
  rw [gd_t (by simp only [Bool.and_eq_true, decide_eq_true_eq]; exact ⟨⟨Nat.le_of_ble_eq_true hcat, hr.1⟩, hr.2⟩)])
/-- what goes on behind a call -/
noncomputable def K2 (m pc : Nat) (ls : List (Option Value)) (st : List Value) (x : Option Rs) : Option Rs := x.bind (fun x => E m pc ls (x.1.toList ++ st) x.2.1 x.2.2)
theorem K2_i {m pc : Nat} {ls : List (Option Value)} {st : List Value} {G : Gt} {I : It} {v : Value} : K2 m pc ls st (some (some v, G, I)) = E m pc ls (v :: st) G I := rfl
theorem K2_v {m pc : Nat} {ls : List (Option Value)} {st : List Value} {G : Gt} {I : It} : K2 m pc ls st (some (none, G, I)) = E m pc ls st G I := rfl
/-- the room that a call needs -/
def rok (m m' : Nat) : Bool := decide (pF m' + 1 ≤ pF m) && decide (8 + (pL m' + 11) + pW m' ≤ pW m)
theorem e_cal {m' nL : Nat} {vs rest : List Value} {als : List (Option Value)} {i : Instr} (hb : pB m = bs) (hd : decode bs pc = .ok (i, 3)) (hn : iok i 3 = true) (h : sdi i m pc ls st G I = cal m m' pc vs ls rest G I) (hpl : pL m' = nL) (hcat : Nat.ble (cats rest) 8 = true) (hr : rok m m' = true) (hal : Nat.ble (aL vs).length nL = true) (he : eL nL vs = als) : E m pc ls st G I = K2 m (pc + 3) ls rest (E m' 0 als [] G I) := by
  unfold cal at h
  unfold rok at hr
  simp only [Bool.and_eq_true, decide_eq_true_eq] at hr
  rw [gd_t (by simp only [Bool.and_eq_true, decide_eq_true_eq]; exact ⟨Nat.le_of_ble_eq_true hcat, hr, by rw [hpl]; exact Nat.le_of_ble_eq_true hal⟩), hpl, he] at h
  exact ev_call ((e_of hb hd hn).trans h)
theorem e_virt {i c m' n b nL k : Nat} {as rest : List Value} {als : List (Option Value)} (hb : pB m = bs) (hc : pC m = c) (hd : decode bs pc = .ok (.invokevirtual i, 3)) (hm : mL c i = (m', 0)) (hn : pN m' = n) (hs : st = as ++ .ref b :: rest) (hl : as.length = n) (hk : kd G b = k) (hkc : pC m' = k) (hpl : pL m' = nL) (hcat : Nat.ble (cats rest) 8 = true) (hr : rok m m' = true) (hal : Nat.ble (aL (.ref b :: as.reverse)).length nL = true) (he : eL nL (.ref b :: as.reverse) = als) : E m pc ls st G I = K2 m (pc + 3) ls rest (E m' 0 als [] G I) := by
  subst hs
  refine e_cal (vs := .ref b :: as.reverse) hb hd rfl ?_ hpl hcat hr hal he
  simp only [sdi, hc, hm, hn]
  have h1 : (as ++ Value.ref b :: rest).drop n = .ref b :: rest := by rw [← hl, List.drop_left]
  have h2 : (as ++ Value.ref b :: rest).take n = as := by rw [← hl, List.take_left]
  rw [h1, h2]
  simp only
  rw [gd_t (by simp [hk, hkc, hl])]
theorem e_stat {i c m' n how nL : Nat} {as rest : List Value} {als : List (Option Value)} (hb : pB m = bs) (hc : pC m = c) (hd : decode bs pc = .ok (.invokestatic i, 3)) (ha : (c, i) ∉ aTl) (hm : mL c i = (m', how)) (hh : how = 1 ∨ how = 3) (hn : pN m' = n) (hs : st = as ++ rest) (hl : as.length = n) (hpl : pL m' = nL) (hcat : Nat.ble (cats rest) 8 = true) (hr : rok m m' = true) (hal : Nat.ble (aL (as.reverse)).length nL = true) (he : eL nL (as.reverse) = als) : E m pc ls st G I = K2 m (pc + 3) ls rest (E m' 0 als [] G I) := by
  subst hs
  refine e_cal (vs := as.reverse) hb hd rfl ?_ hpl hcat hr hal he
  simp only [sdi, hc, hm, hn, if_neg ha]
  have h1 : (as ++ rest).drop n = rest := by rw [← hl, List.drop_left]
  have h2 : (as ++ rest).take n = as := by rw [← hl, List.take_left]
  rw [h1, h2]
  rw [gd_t (by simp [hh, hl])]
theorem e_spec {i c m' n b how nL : Nat} {as rest : List Value} {als : List (Option Value)} (hb : pB m = bs) (hc : pC m = c) (hd : decode bs pc = .ok (.invokespecial i, 3)) (ha : (c, i) ∉ oTl) (hm : mL c i = (m', how)) (hh : how = 2 ∨ how = 4) (hn : pN m' = n) (hs : st = as ++ .ref b :: rest) (hl : as.length = n) (hpl : pL m' = nL) (hcat : Nat.ble (cats rest) 8 = true) (hr : rok m m' = true) (hal : Nat.ble (aL (.ref b :: as.reverse)).length nL = true) (he : eL nL (.ref b :: as.reverse) = als) : E m pc ls st G I = K2 m (pc + 3) ls rest (E m' 0 als [] G I) := by
  subst hs
  refine e_cal (vs := .ref b :: as.reverse) hb hd rfl ?_ hpl hcat hr hal he
  simp only [sdi, hc, hm, hn, if_neg ha]
  have h1 : (as ++ Value.ref b :: rest).drop n = .ref b :: rest := by rw [← hl, List.drop_left]
  have h2 : (as ++ Value.ref b :: rest).take n = as := by rw [← hl, List.take_left]
  rw [h1, h2]
  simp only
  rw [gd_t (by simp [hh, hl])]
theorem e_retI {v : Int32} (hb : pB m = bs) (hd : decode bs pc = .ok (.ireturn, 1)) (hr : pR m = some .int) : E m pc ls [.int v] G I = some (some (.int v), G, I) := ev_ret ((e_of hb hd rfl).trans (by
  simp only [sdi, rtI, hr]
  rw [gd_t (by simp)]))
theorem e_retZ {v : Int32} (hb : pB m = bs) (hd : decode bs pc = .ok (.ireturn, 1)) (hr : pR m = some .boolean) : E m pc ls [.int v] G I = ck (b01 v) (some (some (.int v), G, I)) := by
  have h : sd (m, pc, ls, [.int v], G, I) = gd (b01 v) (.inl (some (some (.int v), G, I))) := (e_of hb hd rfl).trans (by
    simp only [sdi, rtI, hr]
    congr 1)
  cases hv : b01 v with
  | true => exact ev_ret (by rw [h, hv]; rfl)
  | false => exact ev_ret (by rw [h, hv]; rfl)
theorem e_retA {v : Nat} (hb : pB m = bs) (hd : decode bs pc = .ok (.areturn, 1)) (hr : rtA m = true) : E m pc ls [.ref v] G I = some (some (.ref v), G, I) := ev_ret ((e_of hb hd rfl).trans (by
  simp only [sdi]
  rw [gd_t hr]))
theorem e_retV (hb : pB m = bs) (hd : decode bs pc = .ok (.return_, 1)) (hr : pR m = none) : E m pc ls [] G I = some (none, G, I) := ev_ret ((e_of hb hd rfl).trans (by
  simp only [sdi]
  rw [gd_t (by simp [hr])]))
theorem e_iald_l {a n j : Nat} {i : Int32} (hb : pB m = bs) (hd : decode bs pc = .ok (.iaload, 1)) (hk : kd G a = 50 ∨ a = 0) (hl : ln G a = n) (hi : ix i = j) (hin : inb i n = true) : E m pc ls (.int i :: .ref a :: st) G I = E m (pc + 1) ls (.int (I a j) :: st) G I := by rw [e_iald hb hd hk hl, ck_of hin, hi]
theorem e_bald_l {a n j : Nat} {i : Int32} (hb : pB m = bs) (hd : decode bs pc = .ok (.baload, 1)) (hk : kd G a = 51) (hl : ln G a = n) (hi : ix i = j) (hin : inb i n = true) : E m pc ls (.int i :: .ref a :: st) G I = E m (pc + 1) ls (.int (I a j) :: st) G I := by rw [e_bald hb hd hk hl, ck_of hin, hi]
theorem e_iast_l {a n j : Nat} {i x : Int32} (hb : pB m = bs) (hd : decode bs pc = .ok (.iastore, 1)) (hk : kd G a = 50) (hl : ln G a = n) (hi : ix i = j) (hin : inb i n = true) : E m pc ls (.int x :: .int i :: .ref a :: st) G I = E m (pc + 1) ls st G (uI I a j x) := by rw [e_iast hb hd hk hl, ck_of hin, hi]
theorem e_bast_l {a n : Nat} {i x : Int32} (hb : pB m = bs) (hd : decode bs pc = .ok (.bastore, 1)) (hk : kd G a = 51) (hl : ln G a = n) (hx : b01 x = true) : E m pc ls (.int x :: .int i :: .ref a :: st) G I = ck (inb i n) (E m (pc + 1) ls st G (uI I a (ix i) x)) := by rw [e_bast hb hd hk hl, hx, Bool.and_true]
theorem e_idiv_l {x y : Int32} (hb : pB m = bs) (hd : decode bs pc = .ok (.idiv, 1)) (h : ¬ y = 0) : E m pc ls (.int y :: .int x :: st) G I = E m (pc + 1) ls (.int (x / y) :: st) G I := by rw [e_idiv hb hd, ck_of (by simp [h])]
theorem e_irem_l {x y : Int32} (hb : pB m = bs) (hd : decode bs pc = .ok (.irem, 1)) (h : ¬ y = 0) : E m pc ls (.int y :: .int x :: st) G I = E m (pc + 1) ls (.int (x - x / y * y) :: st) G I := by rw [e_irem hb hd, ck_of (by simp [h])]
theorem e_putZ_l {i c ci k o : Nat} {x : Int32} (hb : pB m = bs) (hc : pC m = c) (hd : decode bs pc = .ok (.putfield i, 3)) (hf : fL c i = (ci, k)) (h8 : decide (ci < 8) = true) (ht : fT ci k = 1) (hfin : fF ci k = false) (hk : kd G o = ci) (hx : b01 x = true) : E m pc ls (.int x :: .ref o :: st) G I = E m (pc + 3) ls st G (uI I o k x) := by rw [e_putZ hb hc hd hf h8 ht hfin hk, ck_of hx]
theorem e_retZ_l {v : Int32} (hb : pB m = bs) (hd : decode bs pc = .ok (.ireturn, 1)) (hr : pR m = some .boolean) (hx : b01 v = true) : E m pc ls [.int v] G I = some (some (.int v), G, I) := by rw [e_retZ hb hd hr, ck_of hx]
theorem sL_k {ls : List (Option Value)} {i : Nat} {v : Value} {ls' : List (Option Value)} (h1 : Nat.blt i ls.length = true) (h2 : i = 0 ∨ isJ ls[i - 1]? = false) (h3 : ls.set i (some v) = ls') : sL ls i v = some ls' := by
  have h4 : i < ls.length := Nat.le_of_ble_eq_true h1
  unfold sL
  rw [← h3]
  have e : (decide (i < ls.length) && (decide (i = 0) || !isJ ls[i - 1]?)) = true := by
    rcases h2 with h | h
    · rw [decide_eq_true h4, decide_eq_true h]; rfl
    · rw [decide_eq_true h4, h]; simp
  rw [e]
end ST
end
section
/-! ===== the objects behind both constructors ===== -/
def apG (G : Gt) (q : Nat × Nat × Nat × Nat) : Gt := match q.1 with
  | 0 => nG G q.2.1 q.2.2.1
  | _ => uG G q.2.1 q.2.2.1 q.2.2.2
def alcs (l : List (Nat × Nat × Nat × Nat)) : List (Nat × Nat) := l.filterMap (fun q => if q.1 = 0 then some (q.2.1, q.2.2.1) else none)
def rfO : List (Nat × Nat × Nat × Nat) → Nat → Nat → Nat → Option Nat → Option Nat
  | [], _, _, _, acc => acc
  | q :: t, n, a, j, acc => match q.1 with
    | 0 => rfO t (n + 1) a j (if a = n then none else acc)
    | _ => rfO t n a j (if a = q.2.1 then (if j = q.2.2.1 then some q.2.2.2 else acc) else acc)
theorem apG_n : ∀ (l : List (Nat × Nat × Nat × Nat)) (G : Gt), (l.foldl apG G).1 = G.1 + (alcs l).length := by
  intro l
  induction l with
  | nil => intro G; rfl
  | cons q t ih =>
    intro G
    obtain ⟨z, a, b, c⟩ := q
    rw [List.foldl_cons, ih]
    cases z with
    | zero =>
      have e : alcs ((0, a, b, c) :: t) = (a, b) :: alcs t := by simp [alcs]
      rw [e, List.length_cons]
      show G.1 + 1 + _ = _
      omega
    | succ z =>
      have e : alcs ((z + 1, a, b, c) :: t) = alcs t := by simp [alcs]
      rw [e]
      rfl
theorem apG_k : ∀ (l : List (Nat × Nat × Nat × Nat)) (G : Gt) (a : Nat) (q : Nat × Nat), G.1 ≤ a → (alcs l)[a - G.1]? = some q → (l.foldl apG G).2.2.1 a = q := by
  have keep : ∀ (l : List (Nat × Nat × Nat × Nat)) (G : Gt) (a : Nat), a < G.1 → (l.foldl apG G).2.2.1 a = G.2.2.1 a := by
    intro l
    induction l with
    | nil => intro G a h; rfl
    | cons q t ih =>
      intro G a h
      obtain ⟨z, x, y, c⟩ := q
      rw [List.foldl_cons]
      cases z with
      | zero =>
        exact (ih (nG G x y) a (show a < (nG G x y).1 from Nat.lt_succ_of_lt h)).trans (nG_kd G x y a (by omega))
      | succ z => exact (ih (uG G x y c) a (show a < (uG G x y c).1 from h)).trans rfl
  intro l
  induction l with
  | nil => intro G a q h h2; simp [alcs] at h2
  | cons q0 t ih =>
    intro G a q h h2
    obtain ⟨z, x, y, c⟩ := q0
    rw [List.foldl_cons]
    cases z with
    | zero =>
      have e : alcs ((0, x, y, c) :: t) = (x, y) :: alcs t := by simp [alcs]
      rw [e] at h2
      by_cases ha : a = G.1
      · subst ha
        rw [Nat.sub_self] at h2
        simp only [List.getElem?_cons_zero, Option.some.injEq] at h2
        subst h2
        exact (keep t (nG G x y) G.1 (show G.1 < (nG G x y).1 from Nat.lt_succ_self _)).trans (nG_new G x y)
      · refine ih (nG G x y) a q (show G.1 + 1 ≤ a by omega) ?_
        rw [show a - G.1 = (a - (G.1 + 1)) + 1 by omega, List.getElem?_cons_succ] at h2
        exact h2
    | succ z =>
      have e : alcs ((z + 1, x, y, c) :: t) = alcs t := by simp [alcs]
      rw [e] at h2
      exact ih (uG G x y c) a q h h2
theorem apG_r : ∀ (l : List (Nat × Nat × Nat × Nat)) (G : Gt) (a j : Nat), rf (l.foldl apG G) a j = rfO l G.1 a j (rf G a j) := by
  intro l
  induction l with
  | nil => intro G a j; rfl
  | cons q t ih =>
    intro G a j
    obtain ⟨z, x, y, c⟩ := q
    rw [List.foldl_cons, ih]
    cases z with
    | zero =>
      show rfO t (G.1 + 1) a j (rf (nG G x y) a j) = rfO t (G.1 + 1) a j (if a = G.1 then none else rf G a j)
      rfl
    | succ z => rfl
def opsL : List (Nat × Nat × Nat × Nat) := [(0, 6, 6, 0), (0, 3, 4, 0), (0, 52, 80, 0), (1, 2, 0, 3), (0, 5, 5, 0), (0, 50, 27, 0), (1, 4, 0, 5), (0, 50, 27, 0), (1, 4, 1, 6), (0, 50, 27, 0), (1, 4, 2, 7), (0, 50, 27, 0), (1, 4, 3, 8), (1, 2, 1, 4), (1, 1, 0, 2), (0, 2, 3, 0), (0, 1, 5, 0), (0, 51, 10, 0), (1, 10, 0, 11), (0, 50, 10, 0), (1, 10, 1, 12), (0, 50, 10, 0), (1, 10, 2, 13), (0, 50, 10, 0), (1, 10, 3, 14), (0, 5, 5, 0), (0, 50, 27, 0), (1, 15, 0, 16), (0, 50, 27, 0), (1, 15, 1, 17), (0, 50, 27, 0), (1, 15, 2, 18), (0, 50, 27, 0), (1, 15, 3, 19), (1, 10, 4, 15), (1, 9, 0, 10), (0, 53, 6, 0), (1, 9, 1, 20), (0, 1, 5, 0), (0, 51, 10, 0), (1, 21, 0, 22), (0, 50, 10, 0), (1, 21, 1, 23), (0, 50, 10, 0), (1, 21, 2, 24), (0, 50, 10, 0), (1, 21, 3, 25), (0, 5, 5, 0), (0, 50, 27, 0), (1, 26, 0, 27), (0, 50, 27, 0), (1, 26, 1, 28), (0, 50, 27, 0), (1, 26, 2, 29), (0, 50, 27, 0), (1, 26, 3, 30), (1, 21, 4, 26), (1, 20, 0, 21), (0, 1, 5, 0), (0, 51, 10, 0), (1, 31, 0, 32), (0, 50, 10, 0), (1, 31, 1, 33), (0, 50, 10, 0), (1, 31, 2, 34), (0, 50, 10, 0), (1, 31, 3, 35), (0, 5, 5, 0), (0, 50, 27, 0), (1, 36, 0, 37), (0, 50, 27, 0), (1, 36, 1, 38), (0, 50, 27, 0), (1, 36, 2, 39), (0, 50, 27, 0), (1, 36, 3, 40), (1, 31, 4, 36), (1, 20, 1, 31), (0, 1, 5, 0), (0, 51, 10, 0), (1, 41, 0, 42), (0, 50, 10, 0), (1, 41, 1, 43), (0, 50, 10, 0), (1, 41, 2, 44), (0, 50, 10, 0), (1, 41, 3, 45), (0, 5, 5, 0), (0, 50, 27, 0), (1, 46, 0, 47), (0, 50, 27, 0), (1, 46, 1, 48), (0, 50, 27, 0), (1, 46, 2, 49), (0, 50, 27, 0), (1, 46, 3, 50), (1, 41, 4, 46), (1, 20, 2, 41), (0, 1, 5, 0), (0, 51, 10, 0), (1, 51, 0, 52), (0, 50, 10, 0), (1, 51, 1, 53), (0, 50, 10, 0), (1, 51, 2, 54), (0, 50, 10, 0), (1, 51, 3, 55), (0, 5, 5, 0), (0, 50, 27, 0), (1, 56, 0, 57), (0, 50, 27, 0), (1, 56, 1, 58), (0, 50, 27, 0), (1, 56, 2, 59), (0, 50, 27, 0), (1, 56, 3, 60), (1, 51, 4, 56), (1, 20, 3, 51), (0, 1, 5, 0), (0, 51, 10, 0), (1, 61, 0, 62), (0, 50, 10, 0), (1, 61, 1, 63), (0, 50, 10, 0), (1, 61, 2, 64), (0, 50, 10, 0), (1, 61, 3, 65), (0, 5, 5, 0), (0, 50, 27, 0), (1, 66, 0, 67), (0, 50, 27, 0), (1, 66, 1, 68), (0, 50, 27, 0), (1, 66, 2, 69), (0, 50, 27, 0), (1, 66, 3, 70), (1, 61, 4, 66), (1, 20, 4, 61), (0, 1, 5, 0), (0, 51, 10, 0), (1, 71, 0, 72), (0, 50, 10, 0), (1, 71, 1, 73), (0, 50, 10, 0), (1, 71, 2, 74), (0, 50, 10, 0), (1, 71, 3, 75), (0, 5, 5, 0), (0, 50, 27, 0), (1, 76, 0, 77), (0, 50, 27, 0), (1, 76, 1, 78), (0, 50, 27, 0), (1, 76, 2, 79), (0, 50, 27, 0), (1, 76, 3, 80), (1, 71, 4, 76), (1, 20, 5, 71), (1, 1, 1, 9), (0, 0, 14, 0), (0, 4, 3, 0), (0, 50, 48, 0), (1, 82, 0, 83), (1, 81, 1, 82), (0, 4, 3, 0), (0, 50, 48, 0), (1, 84, 0, 85), (1, 81, 2, 84), (0, 50, 10, 0), (1, 81, 10, 86), (0, 50, 10, 0), (1, 81, 11, 87), (0, 50, 10, 0), (1, 81, 12, 88), (0, 50, 10, 0), (1, 81, 13, 89), (1, 81, 0, 9), (1, 1, 2, 81), (0, 0, 14, 0), (0, 4, 3, 0), (0, 50, 48, 0), (1, 91, 0, 92), (1, 90, 1, 91), (0, 4, 3, 0), (0, 50, 48, 0), (1, 93, 0, 94), (1, 90, 2, 93), (0, 50, 10, 0), (1, 90, 10, 95), (0, 50, 10, 0), (1, 90, 11, 96), (0, 50, 10, 0), (1, 90, 12, 97), (0, 50, 10, 0), (1, 90, 13, 98), (1, 90, 0, 9), (1, 1, 3, 90), (0, 54, 2, 0), (1, 1, 4, 99), (0, 0, 14, 0), (0, 4, 3, 0), (0, 50, 48, 0), (1, 101, 0, 102), (1, 100, 1, 101), (0, 4, 3, 0), (0, 50, 48, 0), (1, 103, 0, 104), (1, 100, 2, 103), (0, 50, 10, 0), (1, 100, 10, 105), (0, 50, 10, 0), (1, 100, 11, 106), (0, 50, 10, 0), (1, 100, 12, 107), (0, 50, 10, 0), (1, 100, 13, 108), (1, 100, 0, 9), (1, 99, 0, 100), (0, 0, 14, 0), (0, 4, 3, 0), (0, 50, 48, 0), (1, 110, 0, 111), (1, 109, 1, 110), (0, 4, 3, 0), (0, 50, 48, 0), (1, 112, 0, 113), (1, 109, 2, 112), (0, 50, 10, 0), (1, 109, 10, 114), (0, 50, 10, 0), (1, 109, 11, 115), (0, 50, 10, 0), (1, 109, 12, 116), (0, 50, 10, 0), (1, 109, 13, 117), (1, 109, 0, 9), (1, 99, 1, 109), (0, 51, 2, 0), (1, 1, 5, 118), (0, 7, 28, 0), (0, 50, 127, 0), (1, 119, 0, 120), (0, 50, 127, 0), (1, 119, 1, 121), (0, 50, 254, 0), (1, 119, 2, 122), (0, 51, 2, 0), (1, 119, 3, 123), (0, 50, 80, 0), (1, 119, 4, 124), (0, 51, 60, 0), (1, 119, 7, 125), (0, 50, 60, 0), (1, 119, 8, 126), (0, 50, 60, 0), (1, 119, 9, 127), (0, 50, 60, 0), (1, 119, 10, 128), (0, 50, 6, 0), (1, 119, 11, 129), (0, 50, 168, 0), (1, 119, 12, 130), (0, 50, 168, 0), (1, 119, 13, 131), (0, 50, 168, 0), (1, 119, 14, 132), (0, 50, 168, 0), (1, 119, 15, 133), (0, 50, 10, 0), (1, 119, 20, 134), (0, 50, 10, 0), (1, 119, 21, 135)]
/-- the start: the script alone, of L ints -/
def Gi (L : Nat) : Gt := (1, 0, fun _ => (60, L), fun _ _ => none)
def GG (L : Nat) : Gt := opsL.foldl apG (Gi L)
theorem GG_n (L : Nat) : (GG L).1 = 136 := by
  unfold GG
  rw [apG_n]
  have : (alcs opsL).length = 135 := by decide +kernel
  rw [this]
  rfl
def kTab : List (Nat × Nat) := [(60, 0), (6, 6), (3, 4), (52, 80), (5, 5), (50, 27), (50, 27), (50, 27), (50, 27), (2, 3), (1, 5), (51, 10), (50, 10), (50, 10), (50, 10), (5, 5), (50, 27), (50, 27), (50, 27), (50, 27), (53, 6), (1, 5), (51, 10), (50, 10), (50, 10), (50, 10), (5, 5), (50, 27), (50, 27), (50, 27), (50, 27), (1, 5), (51, 10), (50, 10), (50, 10), (50, 10), (5, 5), (50, 27), (50, 27), (50, 27), (50, 27), (1, 5), (51, 10), (50, 10), (50, 10), (50, 10), (5, 5), (50, 27), (50, 27), (50, 27), (50, 27), (1, 5), (51, 10), (50, 10), (50, 10), (50, 10), (5, 5), (50, 27), (50, 27), (50, 27), (50, 27), (1, 5), (51, 10), (50, 10), (50, 10), (50, 10), (5, 5), (50, 27), (50, 27), (50, 27), (50, 27), (1, 5), (51, 10), (50, 10), (50, 10), (50, 10), (5, 5), (50, 27), (50, 27), (50, 27), (50, 27), (0, 14), (4, 3), (50, 48), (4, 3), (50, 48), (50, 10), (50, 10), (50, 10), (50, 10), (0, 14), (4, 3), (50, 48), (4, 3), (50, 48), (50, 10), (50, 10), (50, 10), (50, 10), (54, 2), (0, 14), (4, 3), (50, 48), (4, 3), (50, 48), (50, 10), (50, 10), (50, 10), (50, 10), (0, 14), (4, 3), (50, 48), (4, 3), (50, 48), (50, 10), (50, 10), (50, 10), (50, 10), (51, 2), (7, 28), (50, 127), (50, 127), (50, 254), (51, 2), (50, 80), (51, 60), (50, 60), (50, 60), (50, 60), (50, 6), (50, 168), (50, 168), (50, 168), (50, 168), (50, 10), (50, 10)]
theorem GG_k (L : Nat) {a : Nat} (h0 : 0 < a) (h : a < 136) : (GG L).2.2.1 a = kTab.getD a (0, 0) := by
  have h1 : (List.range 136).all (fun a => a == 0 || (alcs opsL)[a - 1]? == some (kTab.getD a (0, 0))) = true := by decide +kernel
  have h2 := List.all_eq_true.mp h1 a (List.mem_range.mpr h)
  simp only [Bool.or_eq_true, beq_iff_eq] at h2
  rcases h2 with h2 | h2
  · omega
  · exact apG_k opsL (Gi L) a _ h0 h2
theorem GG_kd (L : Nat) {a : Nat} (h0 : 0 < a) (h : a < 136) : kd (GG L) a = (kTab.getD a (0, 0)).1 := by
  unfold kd
  rw [if_neg (by omega), if_pos (by rw [GG_n]; exact h), GG_k L h0 h]
theorem GG_ln (L : Nat) {a : Nat} (h0 : 0 < a) (h : a < 136) : ln (GG L) a = (kTab.getD a (0, 0)).2 := by
  unfold ln
  rw [GG_k L h0 h]
theorem GG_rf (L a j : Nat) : rf (GG L) a j = rfO opsL 1 a j none := apG_r opsL (Gi L) a j
theorem GG_in (L : Nat) {a c : Nat} (h : kd (GG L) a = c) (h1 : c ≠ 60) (h2 : c ≠ 99) : 0 < a ∧ a < 136 ∧ (kTab.getD a (0, 0)).1 = c := by
  obtain ⟨a1, a2, a3⟩ := kd_spec h h1 h2
  rw [GG_n] at a2
  refine ⟨a1, a2, ?_⟩
  rw [GG_k L a1 a2] at a3
  exact a3
theorem w_0_0 {L o : Nat} (h : kd (GG L) o = 0) : rf (GG L) o 0 = some 9 := by
  obtain ⟨h1, h2, h3⟩ := GG_in L h (by decide) (by decide)
  rw [GG_rf]
  have key : ∀ a, a < 136 → (kTab.getD a (0, 0)).1 = 0 → rfO opsL 1 a 0 none = some 9 := by decide +kernel
  exact key o h2 h3
theorem wk_0_0 {L o : Nat} (h : kd (GG L) o = 0) : kd (GG L) 9 = 2 := by
  obtain ⟨h1, h2, h3⟩ := GG_in L h (by decide) (by decide)
  have key : ∀ a, a < 136 → (kTab.getD a (0, 0)).1 = 0 → 9 < 136 ∧ 0 < 9 ∧ kTab.getD 9 (0, 0) = (2, 3) := by decide +kernel
  obtain ⟨k1, k2, k3⟩ := key o h2 h3
  rw [GG_kd L k2 k1, k3]
theorem wl_0_0 {L o : Nat} (h : kd (GG L) o = 0) : ln (GG L) 9 = 3 := by
  obtain ⟨h1, h2, h3⟩ := GG_in L h (by decide) (by decide)
  have key : ∀ a, a < 136 → (kTab.getD a (0, 0)).1 = 0 → 9 < 136 ∧ 0 < 9 ∧ kTab.getD 9 (0, 0) = (2, 3) := by decide +kernel
  obtain ⟨k1, k2, k3⟩ := key o h2 h3
  rw [GG_ln L k2 k1, k3]
theorem w_0_1 {L o : Nat} (h : kd (GG L) o = 0) : rf (GG L) o 1 = some (o + 1) := by
  obtain ⟨h1, h2, h3⟩ := GG_in L h (by decide) (by decide)
  rw [GG_rf]
  have key : ∀ a, a < 136 → (kTab.getD a (0, 0)).1 = 0 → rfO opsL 1 a 1 none = some (a + 1) := by decide +kernel
  exact key o h2 h3
theorem wk_0_1 {L o : Nat} (h : kd (GG L) o = 0) : kd (GG L) (o + 1) = 4 := by
  obtain ⟨h1, h2, h3⟩ := GG_in L h (by decide) (by decide)
  have key : ∀ a, a < 136 → (kTab.getD a (0, 0)).1 = 0 → (a + 1) < 136 ∧ 0 < (a + 1) ∧ kTab.getD (a + 1) (0, 0) = (4, 3) := by decide +kernel
  obtain ⟨k1, k2, k3⟩ := key o h2 h3
  rw [GG_kd L k2 k1, k3]
theorem wl_0_1 {L o : Nat} (h : kd (GG L) o = 0) : ln (GG L) (o + 1) = 3 := by
  obtain ⟨h1, h2, h3⟩ := GG_in L h (by decide) (by decide)
  have key : ∀ a, a < 136 → (kTab.getD a (0, 0)).1 = 0 → (a + 1) < 136 ∧ 0 < (a + 1) ∧ kTab.getD (a + 1) (0, 0) = (4, 3) := by decide +kernel
  obtain ⟨k1, k2, k3⟩ := key o h2 h3
  rw [GG_ln L k2 k1, k3]
theorem w_0_2 {L o : Nat} (h : kd (GG L) o = 0) : rf (GG L) o 2 = some (o + 3) := by
  obtain ⟨h1, h2, h3⟩ := GG_in L h (by decide) (by decide)
  rw [GG_rf]
  have key : ∀ a, a < 136 → (kTab.getD a (0, 0)).1 = 0 → rfO opsL 1 a 2 none = some (a + 3) := by decide +kernel
  exact key o h2 h3
theorem wk_0_2 {L o : Nat} (h : kd (GG L) o = 0) : kd (GG L) (o + 3) = 4 := by
  obtain ⟨h1, h2, h3⟩ := GG_in L h (by decide) (by decide)
  have key : ∀ a, a < 136 → (kTab.getD a (0, 0)).1 = 0 → (a + 3) < 136 ∧ 0 < (a + 3) ∧ kTab.getD (a + 3) (0, 0) = (4, 3) := by decide +kernel
  obtain ⟨k1, k2, k3⟩ := key o h2 h3
  rw [GG_kd L k2 k1, k3]
theorem wl_0_2 {L o : Nat} (h : kd (GG L) o = 0) : ln (GG L) (o + 3) = 3 := by
  obtain ⟨h1, h2, h3⟩ := GG_in L h (by decide) (by decide)
  have key : ∀ a, a < 136 → (kTab.getD a (0, 0)).1 = 0 → (a + 3) < 136 ∧ 0 < (a + 3) ∧ kTab.getD (a + 3) (0, 0) = (4, 3) := by decide +kernel
  obtain ⟨k1, k2, k3⟩ := key o h2 h3
  rw [GG_ln L k2 k1, k3]
theorem w_0_10 {L o : Nat} (h : kd (GG L) o = 0) : rf (GG L) o 10 = some (o + 5) := by
  obtain ⟨h1, h2, h3⟩ := GG_in L h (by decide) (by decide)
  rw [GG_rf]
  have key : ∀ a, a < 136 → (kTab.getD a (0, 0)).1 = 0 → rfO opsL 1 a 10 none = some (a + 5) := by decide +kernel
  exact key o h2 h3
theorem wk_0_10 {L o : Nat} (h : kd (GG L) o = 0) : kd (GG L) (o + 5) = 50 := by
  obtain ⟨h1, h2, h3⟩ := GG_in L h (by decide) (by decide)
  have key : ∀ a, a < 136 → (kTab.getD a (0, 0)).1 = 0 → (a + 5) < 136 ∧ 0 < (a + 5) ∧ kTab.getD (a + 5) (0, 0) = (50, 10) := by decide +kernel
  obtain ⟨k1, k2, k3⟩ := key o h2 h3
  rw [GG_kd L k2 k1, k3]
theorem wl_0_10 {L o : Nat} (h : kd (GG L) o = 0) : ln (GG L) (o + 5) = 10 := by
  obtain ⟨h1, h2, h3⟩ := GG_in L h (by decide) (by decide)
  have key : ∀ a, a < 136 → (kTab.getD a (0, 0)).1 = 0 → (a + 5) < 136 ∧ 0 < (a + 5) ∧ kTab.getD (a + 5) (0, 0) = (50, 10) := by decide +kernel
  obtain ⟨k1, k2, k3⟩ := key o h2 h3
  rw [GG_ln L k2 k1, k3]
theorem w_0_11 {L o : Nat} (h : kd (GG L) o = 0) : rf (GG L) o 11 = some (o + 6) := by
  obtain ⟨h1, h2, h3⟩ := GG_in L h (by decide) (by decide)
  rw [GG_rf]
  have key : ∀ a, a < 136 → (kTab.getD a (0, 0)).1 = 0 → rfO opsL 1 a 11 none = some (a + 6) := by decide +kernel
  exact key o h2 h3
theorem wk_0_11 {L o : Nat} (h : kd (GG L) o = 0) : kd (GG L) (o + 6) = 50 := by
  obtain ⟨h1, h2, h3⟩ := GG_in L h (by decide) (by decide)
  have key : ∀ a, a < 136 → (kTab.getD a (0, 0)).1 = 0 → (a + 6) < 136 ∧ 0 < (a + 6) ∧ kTab.getD (a + 6) (0, 0) = (50, 10) := by decide +kernel
  obtain ⟨k1, k2, k3⟩ := key o h2 h3
  rw [GG_kd L k2 k1, k3]
theorem wl_0_11 {L o : Nat} (h : kd (GG L) o = 0) : ln (GG L) (o + 6) = 10 := by
  obtain ⟨h1, h2, h3⟩ := GG_in L h (by decide) (by decide)
  have key : ∀ a, a < 136 → (kTab.getD a (0, 0)).1 = 0 → (a + 6) < 136 ∧ 0 < (a + 6) ∧ kTab.getD (a + 6) (0, 0) = (50, 10) := by decide +kernel
  obtain ⟨k1, k2, k3⟩ := key o h2 h3
  rw [GG_ln L k2 k1, k3]
theorem w_0_12 {L o : Nat} (h : kd (GG L) o = 0) : rf (GG L) o 12 = some (o + 7) := by
  obtain ⟨h1, h2, h3⟩ := GG_in L h (by decide) (by decide)
  rw [GG_rf]
  have key : ∀ a, a < 136 → (kTab.getD a (0, 0)).1 = 0 → rfO opsL 1 a 12 none = some (a + 7) := by decide +kernel
  exact key o h2 h3
theorem wk_0_12 {L o : Nat} (h : kd (GG L) o = 0) : kd (GG L) (o + 7) = 50 := by
  obtain ⟨h1, h2, h3⟩ := GG_in L h (by decide) (by decide)
  have key : ∀ a, a < 136 → (kTab.getD a (0, 0)).1 = 0 → (a + 7) < 136 ∧ 0 < (a + 7) ∧ kTab.getD (a + 7) (0, 0) = (50, 10) := by decide +kernel
  obtain ⟨k1, k2, k3⟩ := key o h2 h3
  rw [GG_kd L k2 k1, k3]
theorem wl_0_12 {L o : Nat} (h : kd (GG L) o = 0) : ln (GG L) (o + 7) = 10 := by
  obtain ⟨h1, h2, h3⟩ := GG_in L h (by decide) (by decide)
  have key : ∀ a, a < 136 → (kTab.getD a (0, 0)).1 = 0 → (a + 7) < 136 ∧ 0 < (a + 7) ∧ kTab.getD (a + 7) (0, 0) = (50, 10) := by decide +kernel
  obtain ⟨k1, k2, k3⟩ := key o h2 h3
  rw [GG_ln L k2 k1, k3]
theorem w_0_13 {L o : Nat} (h : kd (GG L) o = 0) : rf (GG L) o 13 = some (o + 8) := by
  obtain ⟨h1, h2, h3⟩ := GG_in L h (by decide) (by decide)
  rw [GG_rf]
  have key : ∀ a, a < 136 → (kTab.getD a (0, 0)).1 = 0 → rfO opsL 1 a 13 none = some (a + 8) := by decide +kernel
  exact key o h2 h3
theorem wk_0_13 {L o : Nat} (h : kd (GG L) o = 0) : kd (GG L) (o + 8) = 50 := by
  obtain ⟨h1, h2, h3⟩ := GG_in L h (by decide) (by decide)
  have key : ∀ a, a < 136 → (kTab.getD a (0, 0)).1 = 0 → (a + 8) < 136 ∧ 0 < (a + 8) ∧ kTab.getD (a + 8) (0, 0) = (50, 10) := by decide +kernel
  obtain ⟨k1, k2, k3⟩ := key o h2 h3
  rw [GG_kd L k2 k1, k3]
theorem wl_0_13 {L o : Nat} (h : kd (GG L) o = 0) : ln (GG L) (o + 8) = 10 := by
  obtain ⟨h1, h2, h3⟩ := GG_in L h (by decide) (by decide)
  have key : ∀ a, a < 136 → (kTab.getD a (0, 0)).1 = 0 → (a + 8) < 136 ∧ 0 < (a + 8) ∧ kTab.getD (a + 8) (0, 0) = (50, 10) := by decide +kernel
  obtain ⟨k1, k2, k3⟩ := key o h2 h3
  rw [GG_ln L k2 k1, k3]
theorem w_1_0 {L o : Nat} (h : kd (GG L) o = 1) : rf (GG L) o 0 = some (o + 1) := by
  obtain ⟨h1, h2, h3⟩ := GG_in L h (by decide) (by decide)
  rw [GG_rf]
  have key : ∀ a, a < 136 → (kTab.getD a (0, 0)).1 = 1 → rfO opsL 1 a 0 none = some (a + 1) := by decide +kernel
  exact key o h2 h3
theorem wk_1_0 {L o : Nat} (h : kd (GG L) o = 1) : kd (GG L) (o + 1) = 51 := by
  obtain ⟨h1, h2, h3⟩ := GG_in L h (by decide) (by decide)
  have key : ∀ a, a < 136 → (kTab.getD a (0, 0)).1 = 1 → (a + 1) < 136 ∧ 0 < (a + 1) ∧ kTab.getD (a + 1) (0, 0) = (51, 10) := by decide +kernel
  obtain ⟨k1, k2, k3⟩ := key o h2 h3
  rw [GG_kd L k2 k1, k3]
theorem wl_1_0 {L o : Nat} (h : kd (GG L) o = 1) : ln (GG L) (o + 1) = 10 := by
  obtain ⟨h1, h2, h3⟩ := GG_in L h (by decide) (by decide)
  have key : ∀ a, a < 136 → (kTab.getD a (0, 0)).1 = 1 → (a + 1) < 136 ∧ 0 < (a + 1) ∧ kTab.getD (a + 1) (0, 0) = (51, 10) := by decide +kernel
  obtain ⟨k1, k2, k3⟩ := key o h2 h3
  rw [GG_ln L k2 k1, k3]
theorem w_1_1 {L o : Nat} (h : kd (GG L) o = 1) : rf (GG L) o 1 = some (o + 2) := by
  obtain ⟨h1, h2, h3⟩ := GG_in L h (by decide) (by decide)
  rw [GG_rf]
  have key : ∀ a, a < 136 → (kTab.getD a (0, 0)).1 = 1 → rfO opsL 1 a 1 none = some (a + 2) := by decide +kernel
  exact key o h2 h3
theorem wk_1_1 {L o : Nat} (h : kd (GG L) o = 1) : kd (GG L) (o + 2) = 50 := by
  obtain ⟨h1, h2, h3⟩ := GG_in L h (by decide) (by decide)
  have key : ∀ a, a < 136 → (kTab.getD a (0, 0)).1 = 1 → (a + 2) < 136 ∧ 0 < (a + 2) ∧ kTab.getD (a + 2) (0, 0) = (50, 10) := by decide +kernel
  obtain ⟨k1, k2, k3⟩ := key o h2 h3
  rw [GG_kd L k2 k1, k3]
theorem wl_1_1 {L o : Nat} (h : kd (GG L) o = 1) : ln (GG L) (o + 2) = 10 := by
  obtain ⟨h1, h2, h3⟩ := GG_in L h (by decide) (by decide)
  have key : ∀ a, a < 136 → (kTab.getD a (0, 0)).1 = 1 → (a + 2) < 136 ∧ 0 < (a + 2) ∧ kTab.getD (a + 2) (0, 0) = (50, 10) := by decide +kernel
  obtain ⟨k1, k2, k3⟩ := key o h2 h3
  rw [GG_ln L k2 k1, k3]
theorem w_1_2 {L o : Nat} (h : kd (GG L) o = 1) : rf (GG L) o 2 = some (o + 3) := by
  obtain ⟨h1, h2, h3⟩ := GG_in L h (by decide) (by decide)
  rw [GG_rf]
  have key : ∀ a, a < 136 → (kTab.getD a (0, 0)).1 = 1 → rfO opsL 1 a 2 none = some (a + 3) := by decide +kernel
  exact key o h2 h3
theorem wk_1_2 {L o : Nat} (h : kd (GG L) o = 1) : kd (GG L) (o + 3) = 50 := by
  obtain ⟨h1, h2, h3⟩ := GG_in L h (by decide) (by decide)
  have key : ∀ a, a < 136 → (kTab.getD a (0, 0)).1 = 1 → (a + 3) < 136 ∧ 0 < (a + 3) ∧ kTab.getD (a + 3) (0, 0) = (50, 10) := by decide +kernel
  obtain ⟨k1, k2, k3⟩ := key o h2 h3
  rw [GG_kd L k2 k1, k3]
theorem wl_1_2 {L o : Nat} (h : kd (GG L) o = 1) : ln (GG L) (o + 3) = 10 := by
  obtain ⟨h1, h2, h3⟩ := GG_in L h (by decide) (by decide)
  have key : ∀ a, a < 136 → (kTab.getD a (0, 0)).1 = 1 → (a + 3) < 136 ∧ 0 < (a + 3) ∧ kTab.getD (a + 3) (0, 0) = (50, 10) := by decide +kernel
  obtain ⟨k1, k2, k3⟩ := key o h2 h3
  rw [GG_ln L k2 k1, k3]
theorem w_1_3 {L o : Nat} (h : kd (GG L) o = 1) : rf (GG L) o 3 = some (o + 4) := by
  obtain ⟨h1, h2, h3⟩ := GG_in L h (by decide) (by decide)
  rw [GG_rf]
  have key : ∀ a, a < 136 → (kTab.getD a (0, 0)).1 = 1 → rfO opsL 1 a 3 none = some (a + 4) := by decide +kernel
  exact key o h2 h3
theorem wk_1_3 {L o : Nat} (h : kd (GG L) o = 1) : kd (GG L) (o + 4) = 50 := by
  obtain ⟨h1, h2, h3⟩ := GG_in L h (by decide) (by decide)
  have key : ∀ a, a < 136 → (kTab.getD a (0, 0)).1 = 1 → (a + 4) < 136 ∧ 0 < (a + 4) ∧ kTab.getD (a + 4) (0, 0) = (50, 10) := by decide +kernel
  obtain ⟨k1, k2, k3⟩ := key o h2 h3
  rw [GG_kd L k2 k1, k3]
theorem wl_1_3 {L o : Nat} (h : kd (GG L) o = 1) : ln (GG L) (o + 4) = 10 := by
  obtain ⟨h1, h2, h3⟩ := GG_in L h (by decide) (by decide)
  have key : ∀ a, a < 136 → (kTab.getD a (0, 0)).1 = 1 → (a + 4) < 136 ∧ 0 < (a + 4) ∧ kTab.getD (a + 4) (0, 0) = (50, 10) := by decide +kernel
  obtain ⟨k1, k2, k3⟩ := key o h2 h3
  rw [GG_ln L k2 k1, k3]
theorem w_1_4 {L o : Nat} (h : kd (GG L) o = 1) : rf (GG L) o 4 = some (o + 5) := by
  obtain ⟨h1, h2, h3⟩ := GG_in L h (by decide) (by decide)
  rw [GG_rf]
  have key : ∀ a, a < 136 → (kTab.getD a (0, 0)).1 = 1 → rfO opsL 1 a 4 none = some (a + 5) := by decide +kernel
  exact key o h2 h3
theorem wk_1_4 {L o : Nat} (h : kd (GG L) o = 1) : kd (GG L) (o + 5) = 5 := by
  obtain ⟨h1, h2, h3⟩ := GG_in L h (by decide) (by decide)
  have key : ∀ a, a < 136 → (kTab.getD a (0, 0)).1 = 1 → (a + 5) < 136 ∧ 0 < (a + 5) ∧ kTab.getD (a + 5) (0, 0) = (5, 5) := by decide +kernel
  obtain ⟨k1, k2, k3⟩ := key o h2 h3
  rw [GG_kd L k2 k1, k3]
theorem wl_1_4 {L o : Nat} (h : kd (GG L) o = 1) : ln (GG L) (o + 5) = 5 := by
  obtain ⟨h1, h2, h3⟩ := GG_in L h (by decide) (by decide)
  have key : ∀ a, a < 136 → (kTab.getD a (0, 0)).1 = 1 → (a + 5) < 136 ∧ 0 < (a + 5) ∧ kTab.getD (a + 5) (0, 0) = (5, 5) := by decide +kernel
  obtain ⟨k1, k2, k3⟩ := key o h2 h3
  rw [GG_ln L k2 k1, k3]
theorem w_2_0 {L o : Nat} (h : kd (GG L) o = 2) : rf (GG L) o 0 = some 10 := by
  obtain ⟨h1, h2, h3⟩ := GG_in L h (by decide) (by decide)
  rw [GG_rf]
  have key : ∀ a, a < 136 → (kTab.getD a (0, 0)).1 = 2 → rfO opsL 1 a 0 none = some 10 := by decide +kernel
  exact key o h2 h3
theorem wk_2_0 {L o : Nat} (h : kd (GG L) o = 2) : kd (GG L) 10 = 1 := by
  obtain ⟨h1, h2, h3⟩ := GG_in L h (by decide) (by decide)
  have key : ∀ a, a < 136 → (kTab.getD a (0, 0)).1 = 2 → 10 < 136 ∧ 0 < 10 ∧ kTab.getD 10 (0, 0) = (1, 5) := by decide +kernel
  obtain ⟨k1, k2, k3⟩ := key o h2 h3
  rw [GG_kd L k2 k1, k3]
theorem wl_2_0 {L o : Nat} (h : kd (GG L) o = 2) : ln (GG L) 10 = 5 := by
  obtain ⟨h1, h2, h3⟩ := GG_in L h (by decide) (by decide)
  have key : ∀ a, a < 136 → (kTab.getD a (0, 0)).1 = 2 → 10 < 136 ∧ 0 < 10 ∧ kTab.getD 10 (0, 0) = (1, 5) := by decide +kernel
  obtain ⟨k1, k2, k3⟩ := key o h2 h3
  rw [GG_ln L k2 k1, k3]
theorem w_2_1 {L o : Nat} (h : kd (GG L) o = 2) : rf (GG L) o 1 = some 20 := by
  obtain ⟨h1, h2, h3⟩ := GG_in L h (by decide) (by decide)
  rw [GG_rf]
  have key : ∀ a, a < 136 → (kTab.getD a (0, 0)).1 = 2 → rfO opsL 1 a 1 none = some 20 := by decide +kernel
  exact key o h2 h3
theorem wk_2_1 {L o : Nat} (h : kd (GG L) o = 2) : kd (GG L) 20 = 53 := by
  obtain ⟨h1, h2, h3⟩ := GG_in L h (by decide) (by decide)
  have key : ∀ a, a < 136 → (kTab.getD a (0, 0)).1 = 2 → 20 < 136 ∧ 0 < 20 ∧ kTab.getD 20 (0, 0) = (53, 6) := by decide +kernel
  obtain ⟨k1, k2, k3⟩ := key o h2 h3
  rw [GG_kd L k2 k1, k3]
theorem wl_2_1 {L o : Nat} (h : kd (GG L) o = 2) : ln (GG L) 20 = 6 := by
  obtain ⟨h1, h2, h3⟩ := GG_in L h (by decide) (by decide)
  have key : ∀ a, a < 136 → (kTab.getD a (0, 0)).1 = 2 → 20 < 136 ∧ 0 < 20 ∧ kTab.getD 20 (0, 0) = (53, 6) := by decide +kernel
  obtain ⟨k1, k2, k3⟩ := key o h2 h3
  rw [GG_ln L k2 k1, k3]
theorem w_3_0 {L o : Nat} (h : kd (GG L) o = 3) : rf (GG L) o 0 = some 3 := by
  obtain ⟨h1, h2, h3⟩ := GG_in L h (by decide) (by decide)
  rw [GG_rf]
  have key : ∀ a, a < 136 → (kTab.getD a (0, 0)).1 = 3 → rfO opsL 1 a 0 none = some 3 := by decide +kernel
  exact key o h2 h3
theorem wk_3_0 {L o : Nat} (h : kd (GG L) o = 3) : kd (GG L) 3 = 52 := by
  obtain ⟨h1, h2, h3⟩ := GG_in L h (by decide) (by decide)
  have key : ∀ a, a < 136 → (kTab.getD a (0, 0)).1 = 3 → 3 < 136 ∧ 0 < 3 ∧ kTab.getD 3 (0, 0) = (52, 80) := by decide +kernel
  obtain ⟨k1, k2, k3⟩ := key o h2 h3
  rw [GG_kd L k2 k1, k3]
theorem wl_3_0 {L o : Nat} (h : kd (GG L) o = 3) : ln (GG L) 3 = 80 := by
  obtain ⟨h1, h2, h3⟩ := GG_in L h (by decide) (by decide)
  have key : ∀ a, a < 136 → (kTab.getD a (0, 0)).1 = 3 → 3 < 136 ∧ 0 < 3 ∧ kTab.getD 3 (0, 0) = (52, 80) := by decide +kernel
  obtain ⟨k1, k2, k3⟩ := key o h2 h3
  rw [GG_ln L k2 k1, k3]
theorem w_3_1 {L o : Nat} (h : kd (GG L) o = 3) : rf (GG L) o 1 = some 4 := by
  obtain ⟨h1, h2, h3⟩ := GG_in L h (by decide) (by decide)
  rw [GG_rf]
  have key : ∀ a, a < 136 → (kTab.getD a (0, 0)).1 = 3 → rfO opsL 1 a 1 none = some 4 := by decide +kernel
  exact key o h2 h3
theorem wk_3_1 {L o : Nat} (h : kd (GG L) o = 3) : kd (GG L) 4 = 5 := by
  obtain ⟨h1, h2, h3⟩ := GG_in L h (by decide) (by decide)
  have key : ∀ a, a < 136 → (kTab.getD a (0, 0)).1 = 3 → 4 < 136 ∧ 0 < 4 ∧ kTab.getD 4 (0, 0) = (5, 5) := by decide +kernel
  obtain ⟨k1, k2, k3⟩ := key o h2 h3
  rw [GG_kd L k2 k1, k3]
theorem wl_3_1 {L o : Nat} (h : kd (GG L) o = 3) : ln (GG L) 4 = 5 := by
  obtain ⟨h1, h2, h3⟩ := GG_in L h (by decide) (by decide)
  have key : ∀ a, a < 136 → (kTab.getD a (0, 0)).1 = 3 → 4 < 136 ∧ 0 < 4 ∧ kTab.getD 4 (0, 0) = (5, 5) := by decide +kernel
  obtain ⟨k1, k2, k3⟩ := key o h2 h3
  rw [GG_ln L k2 k1, k3]
theorem w_4_0 {L o : Nat} (h : kd (GG L) o = 4) : rf (GG L) o 0 = some (o + 1) := by
  obtain ⟨h1, h2, h3⟩ := GG_in L h (by decide) (by decide)
  rw [GG_rf]
  have key : ∀ a, a < 136 → (kTab.getD a (0, 0)).1 = 4 → rfO opsL 1 a 0 none = some (a + 1) := by decide +kernel
  exact key o h2 h3
theorem wk_4_0 {L o : Nat} (h : kd (GG L) o = 4) : kd (GG L) (o + 1) = 50 := by
  obtain ⟨h1, h2, h3⟩ := GG_in L h (by decide) (by decide)
  have key : ∀ a, a < 136 → (kTab.getD a (0, 0)).1 = 4 → (a + 1) < 136 ∧ 0 < (a + 1) ∧ kTab.getD (a + 1) (0, 0) = (50, 48) := by decide +kernel
  obtain ⟨k1, k2, k3⟩ := key o h2 h3
  rw [GG_kd L k2 k1, k3]
theorem wl_4_0 {L o : Nat} (h : kd (GG L) o = 4) : ln (GG L) (o + 1) = 48 := by
  obtain ⟨h1, h2, h3⟩ := GG_in L h (by decide) (by decide)
  have key : ∀ a, a < 136 → (kTab.getD a (0, 0)).1 = 4 → (a + 1) < 136 ∧ 0 < (a + 1) ∧ kTab.getD (a + 1) (0, 0) = (50, 48) := by decide +kernel
  obtain ⟨k1, k2, k3⟩ := key o h2 h3
  rw [GG_ln L k2 k1, k3]
theorem w_5_0 {L o : Nat} (h : kd (GG L) o = 5) : rf (GG L) o 0 = some (o + 1) := by
  obtain ⟨h1, h2, h3⟩ := GG_in L h (by decide) (by decide)
  rw [GG_rf]
  have key : ∀ a, a < 136 → (kTab.getD a (0, 0)).1 = 5 → rfO opsL 1 a 0 none = some (a + 1) := by decide +kernel
  exact key o h2 h3
theorem wk_5_0 {L o : Nat} (h : kd (GG L) o = 5) : kd (GG L) (o + 1) = 50 := by
  obtain ⟨h1, h2, h3⟩ := GG_in L h (by decide) (by decide)
  have key : ∀ a, a < 136 → (kTab.getD a (0, 0)).1 = 5 → (a + 1) < 136 ∧ 0 < (a + 1) ∧ kTab.getD (a + 1) (0, 0) = (50, 27) := by decide +kernel
  obtain ⟨k1, k2, k3⟩ := key o h2 h3
  rw [GG_kd L k2 k1, k3]
theorem wl_5_0 {L o : Nat} (h : kd (GG L) o = 5) : ln (GG L) (o + 1) = 27 := by
  obtain ⟨h1, h2, h3⟩ := GG_in L h (by decide) (by decide)
  have key : ∀ a, a < 136 → (kTab.getD a (0, 0)).1 = 5 → (a + 1) < 136 ∧ 0 < (a + 1) ∧ kTab.getD (a + 1) (0, 0) = (50, 27) := by decide +kernel
  obtain ⟨k1, k2, k3⟩ := key o h2 h3
  rw [GG_ln L k2 k1, k3]
theorem w_5_1 {L o : Nat} (h : kd (GG L) o = 5) : rf (GG L) o 1 = some (o + 2) := by
  obtain ⟨h1, h2, h3⟩ := GG_in L h (by decide) (by decide)
  rw [GG_rf]
  have key : ∀ a, a < 136 → (kTab.getD a (0, 0)).1 = 5 → rfO opsL 1 a 1 none = some (a + 2) := by decide +kernel
  exact key o h2 h3
theorem wk_5_1 {L o : Nat} (h : kd (GG L) o = 5) : kd (GG L) (o + 2) = 50 := by
  obtain ⟨h1, h2, h3⟩ := GG_in L h (by decide) (by decide)
  have key : ∀ a, a < 136 → (kTab.getD a (0, 0)).1 = 5 → (a + 2) < 136 ∧ 0 < (a + 2) ∧ kTab.getD (a + 2) (0, 0) = (50, 27) := by decide +kernel
  obtain ⟨k1, k2, k3⟩ := key o h2 h3
  rw [GG_kd L k2 k1, k3]
theorem wl_5_1 {L o : Nat} (h : kd (GG L) o = 5) : ln (GG L) (o + 2) = 27 := by
  obtain ⟨h1, h2, h3⟩ := GG_in L h (by decide) (by decide)
  have key : ∀ a, a < 136 → (kTab.getD a (0, 0)).1 = 5 → (a + 2) < 136 ∧ 0 < (a + 2) ∧ kTab.getD (a + 2) (0, 0) = (50, 27) := by decide +kernel
  obtain ⟨k1, k2, k3⟩ := key o h2 h3
  rw [GG_ln L k2 k1, k3]
theorem w_5_2 {L o : Nat} (h : kd (GG L) o = 5) : rf (GG L) o 2 = some (o + 3) := by
  obtain ⟨h1, h2, h3⟩ := GG_in L h (by decide) (by decide)
  rw [GG_rf]
  have key : ∀ a, a < 136 → (kTab.getD a (0, 0)).1 = 5 → rfO opsL 1 a 2 none = some (a + 3) := by decide +kernel
  exact key o h2 h3
theorem wk_5_2 {L o : Nat} (h : kd (GG L) o = 5) : kd (GG L) (o + 3) = 50 := by
  obtain ⟨h1, h2, h3⟩ := GG_in L h (by decide) (by decide)
  have key : ∀ a, a < 136 → (kTab.getD a (0, 0)).1 = 5 → (a + 3) < 136 ∧ 0 < (a + 3) ∧ kTab.getD (a + 3) (0, 0) = (50, 27) := by decide +kernel
  obtain ⟨k1, k2, k3⟩ := key o h2 h3
  rw [GG_kd L k2 k1, k3]
theorem wl_5_2 {L o : Nat} (h : kd (GG L) o = 5) : ln (GG L) (o + 3) = 27 := by
  obtain ⟨h1, h2, h3⟩ := GG_in L h (by decide) (by decide)
  have key : ∀ a, a < 136 → (kTab.getD a (0, 0)).1 = 5 → (a + 3) < 136 ∧ 0 < (a + 3) ∧ kTab.getD (a + 3) (0, 0) = (50, 27) := by decide +kernel
  obtain ⟨k1, k2, k3⟩ := key o h2 h3
  rw [GG_ln L k2 k1, k3]
theorem w_5_3 {L o : Nat} (h : kd (GG L) o = 5) : rf (GG L) o 3 = some (o + 4) := by
  obtain ⟨h1, h2, h3⟩ := GG_in L h (by decide) (by decide)
  rw [GG_rf]
  have key : ∀ a, a < 136 → (kTab.getD a (0, 0)).1 = 5 → rfO opsL 1 a 3 none = some (a + 4) := by decide +kernel
  exact key o h2 h3
theorem wk_5_3 {L o : Nat} (h : kd (GG L) o = 5) : kd (GG L) (o + 4) = 50 := by
  obtain ⟨h1, h2, h3⟩ := GG_in L h (by decide) (by decide)
  have key : ∀ a, a < 136 → (kTab.getD a (0, 0)).1 = 5 → (a + 4) < 136 ∧ 0 < (a + 4) ∧ kTab.getD (a + 4) (0, 0) = (50, 27) := by decide +kernel
  obtain ⟨k1, k2, k3⟩ := key o h2 h3
  rw [GG_kd L k2 k1, k3]
theorem wl_5_3 {L o : Nat} (h : kd (GG L) o = 5) : ln (GG L) (o + 4) = 27 := by
  obtain ⟨h1, h2, h3⟩ := GG_in L h (by decide) (by decide)
  have key : ∀ a, a < 136 → (kTab.getD a (0, 0)).1 = 5 → (a + 4) < 136 ∧ 0 < (a + 4) ∧ kTab.getD (a + 4) (0, 0) = (50, 27) := by decide +kernel
  obtain ⟨k1, k2, k3⟩ := key o h2 h3
  rw [GG_ln L k2 k1, k3]
theorem w_6_0 {L o : Nat} (h : kd (GG L) o = 6) : rf (GG L) o 0 = some 2 := by
  obtain ⟨h1, h2, h3⟩ := GG_in L h (by decide) (by decide)
  rw [GG_rf]
  have key : ∀ a, a < 136 → (kTab.getD a (0, 0)).1 = 6 → rfO opsL 1 a 0 none = some 2 := by decide +kernel
  exact key o h2 h3
theorem wk_6_0 {L o : Nat} (h : kd (GG L) o = 6) : kd (GG L) 2 = 3 := by
  obtain ⟨h1, h2, h3⟩ := GG_in L h (by decide) (by decide)
  have key : ∀ a, a < 136 → (kTab.getD a (0, 0)).1 = 6 → 2 < 136 ∧ 0 < 2 ∧ kTab.getD 2 (0, 0) = (3, 4) := by decide +kernel
  obtain ⟨k1, k2, k3⟩ := key o h2 h3
  rw [GG_kd L k2 k1, k3]
theorem wl_6_0 {L o : Nat} (h : kd (GG L) o = 6) : ln (GG L) 2 = 4 := by
  obtain ⟨h1, h2, h3⟩ := GG_in L h (by decide) (by decide)
  have key : ∀ a, a < 136 → (kTab.getD a (0, 0)).1 = 6 → 2 < 136 ∧ 0 < 2 ∧ kTab.getD 2 (0, 0) = (3, 4) := by decide +kernel
  obtain ⟨k1, k2, k3⟩ := key o h2 h3
  rw [GG_ln L k2 k1, k3]
theorem w_6_1 {L o : Nat} (h : kd (GG L) o = 6) : rf (GG L) o 1 = some 9 := by
  obtain ⟨h1, h2, h3⟩ := GG_in L h (by decide) (by decide)
  rw [GG_rf]
  have key : ∀ a, a < 136 → (kTab.getD a (0, 0)).1 = 6 → rfO opsL 1 a 1 none = some 9 := by decide +kernel
  exact key o h2 h3
theorem wk_6_1 {L o : Nat} (h : kd (GG L) o = 6) : kd (GG L) 9 = 2 := by
  obtain ⟨h1, h2, h3⟩ := GG_in L h (by decide) (by decide)
  have key : ∀ a, a < 136 → (kTab.getD a (0, 0)).1 = 6 → 9 < 136 ∧ 0 < 9 ∧ kTab.getD 9 (0, 0) = (2, 3) := by decide +kernel
  obtain ⟨k1, k2, k3⟩ := key o h2 h3
  rw [GG_kd L k2 k1, k3]
theorem wl_6_1 {L o : Nat} (h : kd (GG L) o = 6) : ln (GG L) 9 = 3 := by
  obtain ⟨h1, h2, h3⟩ := GG_in L h (by decide) (by decide)
  have key : ∀ a, a < 136 → (kTab.getD a (0, 0)).1 = 6 → 9 < 136 ∧ 0 < 9 ∧ kTab.getD 9 (0, 0) = (2, 3) := by decide +kernel
  obtain ⟨k1, k2, k3⟩ := key o h2 h3
  rw [GG_ln L k2 k1, k3]
theorem w_6_2 {L o : Nat} (h : kd (GG L) o = 6) : rf (GG L) o 2 = some 81 := by
  obtain ⟨h1, h2, h3⟩ := GG_in L h (by decide) (by decide)
  rw [GG_rf]
  have key : ∀ a, a < 136 → (kTab.getD a (0, 0)).1 = 6 → rfO opsL 1 a 2 none = some 81 := by decide +kernel
  exact key o h2 h3
theorem wk_6_2 {L o : Nat} (h : kd (GG L) o = 6) : kd (GG L) 81 = 0 := by
  obtain ⟨h1, h2, h3⟩ := GG_in L h (by decide) (by decide)
  have key : ∀ a, a < 136 → (kTab.getD a (0, 0)).1 = 6 → 81 < 136 ∧ 0 < 81 ∧ kTab.getD 81 (0, 0) = (0, 14) := by decide +kernel
  obtain ⟨k1, k2, k3⟩ := key o h2 h3
  rw [GG_kd L k2 k1, k3]
theorem wl_6_2 {L o : Nat} (h : kd (GG L) o = 6) : ln (GG L) 81 = 14 := by
  obtain ⟨h1, h2, h3⟩ := GG_in L h (by decide) (by decide)
  have key : ∀ a, a < 136 → (kTab.getD a (0, 0)).1 = 6 → 81 < 136 ∧ 0 < 81 ∧ kTab.getD 81 (0, 0) = (0, 14) := by decide +kernel
  obtain ⟨k1, k2, k3⟩ := key o h2 h3
  rw [GG_ln L k2 k1, k3]
theorem w_6_3 {L o : Nat} (h : kd (GG L) o = 6) : rf (GG L) o 3 = some 90 := by
  obtain ⟨h1, h2, h3⟩ := GG_in L h (by decide) (by decide)
  rw [GG_rf]
  have key : ∀ a, a < 136 → (kTab.getD a (0, 0)).1 = 6 → rfO opsL 1 a 3 none = some 90 := by decide +kernel
  exact key o h2 h3
theorem wk_6_3 {L o : Nat} (h : kd (GG L) o = 6) : kd (GG L) 90 = 0 := by
  obtain ⟨h1, h2, h3⟩ := GG_in L h (by decide) (by decide)
  have key : ∀ a, a < 136 → (kTab.getD a (0, 0)).1 = 6 → 90 < 136 ∧ 0 < 90 ∧ kTab.getD 90 (0, 0) = (0, 14) := by decide +kernel
  obtain ⟨k1, k2, k3⟩ := key o h2 h3
  rw [GG_kd L k2 k1, k3]
theorem wl_6_3 {L o : Nat} (h : kd (GG L) o = 6) : ln (GG L) 90 = 14 := by
  obtain ⟨h1, h2, h3⟩ := GG_in L h (by decide) (by decide)
  have key : ∀ a, a < 136 → (kTab.getD a (0, 0)).1 = 6 → 90 < 136 ∧ 0 < 90 ∧ kTab.getD 90 (0, 0) = (0, 14) := by decide +kernel
  obtain ⟨k1, k2, k3⟩ := key o h2 h3
  rw [GG_ln L k2 k1, k3]
theorem w_6_4 {L o : Nat} (h : kd (GG L) o = 6) : rf (GG L) o 4 = some 99 := by
  obtain ⟨h1, h2, h3⟩ := GG_in L h (by decide) (by decide)
  rw [GG_rf]
  have key : ∀ a, a < 136 → (kTab.getD a (0, 0)).1 = 6 → rfO opsL 1 a 4 none = some 99 := by decide +kernel
  exact key o h2 h3
theorem wk_6_4 {L o : Nat} (h : kd (GG L) o = 6) : kd (GG L) 99 = 54 := by
  obtain ⟨h1, h2, h3⟩ := GG_in L h (by decide) (by decide)
  have key : ∀ a, a < 136 → (kTab.getD a (0, 0)).1 = 6 → 99 < 136 ∧ 0 < 99 ∧ kTab.getD 99 (0, 0) = (54, 2) := by decide +kernel
  obtain ⟨k1, k2, k3⟩ := key o h2 h3
  rw [GG_kd L k2 k1, k3]
theorem wl_6_4 {L o : Nat} (h : kd (GG L) o = 6) : ln (GG L) 99 = 2 := by
  obtain ⟨h1, h2, h3⟩ := GG_in L h (by decide) (by decide)
  have key : ∀ a, a < 136 → (kTab.getD a (0, 0)).1 = 6 → 99 < 136 ∧ 0 < 99 ∧ kTab.getD 99 (0, 0) = (54, 2) := by decide +kernel
  obtain ⟨k1, k2, k3⟩ := key o h2 h3
  rw [GG_ln L k2 k1, k3]
theorem w_6_5 {L o : Nat} (h : kd (GG L) o = 6) : rf (GG L) o 5 = some 118 := by
  obtain ⟨h1, h2, h3⟩ := GG_in L h (by decide) (by decide)
  rw [GG_rf]
  have key : ∀ a, a < 136 → (kTab.getD a (0, 0)).1 = 6 → rfO opsL 1 a 5 none = some 118 := by decide +kernel
  exact key o h2 h3
theorem wk_6_5 {L o : Nat} (h : kd (GG L) o = 6) : kd (GG L) 118 = 51 := by
  obtain ⟨h1, h2, h3⟩ := GG_in L h (by decide) (by decide)
  have key : ∀ a, a < 136 → (kTab.getD a (0, 0)).1 = 6 → 118 < 136 ∧ 0 < 118 ∧ kTab.getD 118 (0, 0) = (51, 2) := by decide +kernel
  obtain ⟨k1, k2, k3⟩ := key o h2 h3
  rw [GG_kd L k2 k1, k3]
theorem wl_6_5 {L o : Nat} (h : kd (GG L) o = 6) : ln (GG L) 118 = 2 := by
  obtain ⟨h1, h2, h3⟩ := GG_in L h (by decide) (by decide)
  have key : ∀ a, a < 136 → (kTab.getD a (0, 0)).1 = 6 → 118 < 136 ∧ 0 < 118 ∧ kTab.getD 118 (0, 0) = (51, 2) := by decide +kernel
  obtain ⟨k1, k2, k3⟩ := key o h2 h3
  rw [GG_ln L k2 k1, k3]
theorem w_7_0 {L o : Nat} (h : kd (GG L) o = 7) : rf (GG L) o 0 = some 120 := by
  obtain ⟨h1, h2, h3⟩ := GG_in L h (by decide) (by decide)
  rw [GG_rf]
  have key : ∀ a, a < 136 → (kTab.getD a (0, 0)).1 = 7 → rfO opsL 1 a 0 none = some 120 := by decide +kernel
  exact key o h2 h3
theorem wk_7_0 {L o : Nat} (h : kd (GG L) o = 7) : kd (GG L) 120 = 50 := by
  obtain ⟨h1, h2, h3⟩ := GG_in L h (by decide) (by decide)
  have key : ∀ a, a < 136 → (kTab.getD a (0, 0)).1 = 7 → 120 < 136 ∧ 0 < 120 ∧ kTab.getD 120 (0, 0) = (50, 127) := by decide +kernel
  obtain ⟨k1, k2, k3⟩ := key o h2 h3
  rw [GG_kd L k2 k1, k3]
theorem wl_7_0 {L o : Nat} (h : kd (GG L) o = 7) : ln (GG L) 120 = 127 := by
  obtain ⟨h1, h2, h3⟩ := GG_in L h (by decide) (by decide)
  have key : ∀ a, a < 136 → (kTab.getD a (0, 0)).1 = 7 → 120 < 136 ∧ 0 < 120 ∧ kTab.getD 120 (0, 0) = (50, 127) := by decide +kernel
  obtain ⟨k1, k2, k3⟩ := key o h2 h3
  rw [GG_ln L k2 k1, k3]
theorem w_7_1 {L o : Nat} (h : kd (GG L) o = 7) : rf (GG L) o 1 = some 121 := by
  obtain ⟨h1, h2, h3⟩ := GG_in L h (by decide) (by decide)
  rw [GG_rf]
  have key : ∀ a, a < 136 → (kTab.getD a (0, 0)).1 = 7 → rfO opsL 1 a 1 none = some 121 := by decide +kernel
  exact key o h2 h3
theorem wk_7_1 {L o : Nat} (h : kd (GG L) o = 7) : kd (GG L) 121 = 50 := by
  obtain ⟨h1, h2, h3⟩ := GG_in L h (by decide) (by decide)
  have key : ∀ a, a < 136 → (kTab.getD a (0, 0)).1 = 7 → 121 < 136 ∧ 0 < 121 ∧ kTab.getD 121 (0, 0) = (50, 127) := by decide +kernel
  obtain ⟨k1, k2, k3⟩ := key o h2 h3
  rw [GG_kd L k2 k1, k3]
theorem wl_7_1 {L o : Nat} (h : kd (GG L) o = 7) : ln (GG L) 121 = 127 := by
  obtain ⟨h1, h2, h3⟩ := GG_in L h (by decide) (by decide)
  have key : ∀ a, a < 136 → (kTab.getD a (0, 0)).1 = 7 → 121 < 136 ∧ 0 < 121 ∧ kTab.getD 121 (0, 0) = (50, 127) := by decide +kernel
  obtain ⟨k1, k2, k3⟩ := key o h2 h3
  rw [GG_ln L k2 k1, k3]
theorem w_7_2 {L o : Nat} (h : kd (GG L) o = 7) : rf (GG L) o 2 = some 122 := by
  obtain ⟨h1, h2, h3⟩ := GG_in L h (by decide) (by decide)
  rw [GG_rf]
  have key : ∀ a, a < 136 → (kTab.getD a (0, 0)).1 = 7 → rfO opsL 1 a 2 none = some 122 := by decide +kernel
  exact key o h2 h3
theorem wk_7_2 {L o : Nat} (h : kd (GG L) o = 7) : kd (GG L) 122 = 50 := by
  obtain ⟨h1, h2, h3⟩ := GG_in L h (by decide) (by decide)
  have key : ∀ a, a < 136 → (kTab.getD a (0, 0)).1 = 7 → 122 < 136 ∧ 0 < 122 ∧ kTab.getD 122 (0, 0) = (50, 254) := by decide +kernel
  obtain ⟨k1, k2, k3⟩ := key o h2 h3
  rw [GG_kd L k2 k1, k3]
theorem wl_7_2 {L o : Nat} (h : kd (GG L) o = 7) : ln (GG L) 122 = 254 := by
  obtain ⟨h1, h2, h3⟩ := GG_in L h (by decide) (by decide)
  have key : ∀ a, a < 136 → (kTab.getD a (0, 0)).1 = 7 → 122 < 136 ∧ 0 < 122 ∧ kTab.getD 122 (0, 0) = (50, 254) := by decide +kernel
  obtain ⟨k1, k2, k3⟩ := key o h2 h3
  rw [GG_ln L k2 k1, k3]
theorem w_7_3 {L o : Nat} (h : kd (GG L) o = 7) : rf (GG L) o 3 = some 123 := by
  obtain ⟨h1, h2, h3⟩ := GG_in L h (by decide) (by decide)
  rw [GG_rf]
  have key : ∀ a, a < 136 → (kTab.getD a (0, 0)).1 = 7 → rfO opsL 1 a 3 none = some 123 := by decide +kernel
  exact key o h2 h3
theorem wk_7_3 {L o : Nat} (h : kd (GG L) o = 7) : kd (GG L) 123 = 51 := by
  obtain ⟨h1, h2, h3⟩ := GG_in L h (by decide) (by decide)
  have key : ∀ a, a < 136 → (kTab.getD a (0, 0)).1 = 7 → 123 < 136 ∧ 0 < 123 ∧ kTab.getD 123 (0, 0) = (51, 2) := by decide +kernel
  obtain ⟨k1, k2, k3⟩ := key o h2 h3
  rw [GG_kd L k2 k1, k3]
theorem wl_7_3 {L o : Nat} (h : kd (GG L) o = 7) : ln (GG L) 123 = 2 := by
  obtain ⟨h1, h2, h3⟩ := GG_in L h (by decide) (by decide)
  have key : ∀ a, a < 136 → (kTab.getD a (0, 0)).1 = 7 → 123 < 136 ∧ 0 < 123 ∧ kTab.getD 123 (0, 0) = (51, 2) := by decide +kernel
  obtain ⟨k1, k2, k3⟩ := key o h2 h3
  rw [GG_ln L k2 k1, k3]
theorem w_7_4 {L o : Nat} (h : kd (GG L) o = 7) : rf (GG L) o 4 = some 124 := by
  obtain ⟨h1, h2, h3⟩ := GG_in L h (by decide) (by decide)
  rw [GG_rf]
  have key : ∀ a, a < 136 → (kTab.getD a (0, 0)).1 = 7 → rfO opsL 1 a 4 none = some 124 := by decide +kernel
  exact key o h2 h3
theorem wk_7_4 {L o : Nat} (h : kd (GG L) o = 7) : kd (GG L) 124 = 50 := by
  obtain ⟨h1, h2, h3⟩ := GG_in L h (by decide) (by decide)
  have key : ∀ a, a < 136 → (kTab.getD a (0, 0)).1 = 7 → 124 < 136 ∧ 0 < 124 ∧ kTab.getD 124 (0, 0) = (50, 80) := by decide +kernel
  obtain ⟨k1, k2, k3⟩ := key o h2 h3
  rw [GG_kd L k2 k1, k3]
theorem wl_7_4 {L o : Nat} (h : kd (GG L) o = 7) : ln (GG L) 124 = 80 := by
  obtain ⟨h1, h2, h3⟩ := GG_in L h (by decide) (by decide)
  have key : ∀ a, a < 136 → (kTab.getD a (0, 0)).1 = 7 → 124 < 136 ∧ 0 < 124 ∧ kTab.getD 124 (0, 0) = (50, 80) := by decide +kernel
  obtain ⟨k1, k2, k3⟩ := key o h2 h3
  rw [GG_ln L k2 k1, k3]
theorem w_7_7 {L o : Nat} (h : kd (GG L) o = 7) : rf (GG L) o 7 = some 125 := by
  obtain ⟨h1, h2, h3⟩ := GG_in L h (by decide) (by decide)
  rw [GG_rf]
  have key : ∀ a, a < 136 → (kTab.getD a (0, 0)).1 = 7 → rfO opsL 1 a 7 none = some 125 := by decide +kernel
  exact key o h2 h3
theorem wk_7_7 {L o : Nat} (h : kd (GG L) o = 7) : kd (GG L) 125 = 51 := by
  obtain ⟨h1, h2, h3⟩ := GG_in L h (by decide) (by decide)
  have key : ∀ a, a < 136 → (kTab.getD a (0, 0)).1 = 7 → 125 < 136 ∧ 0 < 125 ∧ kTab.getD 125 (0, 0) = (51, 60) := by decide +kernel
  obtain ⟨k1, k2, k3⟩ := key o h2 h3
  rw [GG_kd L k2 k1, k3]
theorem wl_7_7 {L o : Nat} (h : kd (GG L) o = 7) : ln (GG L) 125 = 60 := by
  obtain ⟨h1, h2, h3⟩ := GG_in L h (by decide) (by decide)
  have key : ∀ a, a < 136 → (kTab.getD a (0, 0)).1 = 7 → 125 < 136 ∧ 0 < 125 ∧ kTab.getD 125 (0, 0) = (51, 60) := by decide +kernel
  obtain ⟨k1, k2, k3⟩ := key o h2 h3
  rw [GG_ln L k2 k1, k3]
theorem w_7_8 {L o : Nat} (h : kd (GG L) o = 7) : rf (GG L) o 8 = some 126 := by
  obtain ⟨h1, h2, h3⟩ := GG_in L h (by decide) (by decide)
  rw [GG_rf]
  have key : ∀ a, a < 136 → (kTab.getD a (0, 0)).1 = 7 → rfO opsL 1 a 8 none = some 126 := by decide +kernel
  exact key o h2 h3
theorem wk_7_8 {L o : Nat} (h : kd (GG L) o = 7) : kd (GG L) 126 = 50 := by
  obtain ⟨h1, h2, h3⟩ := GG_in L h (by decide) (by decide)
  have key : ∀ a, a < 136 → (kTab.getD a (0, 0)).1 = 7 → 126 < 136 ∧ 0 < 126 ∧ kTab.getD 126 (0, 0) = (50, 60) := by decide +kernel
  obtain ⟨k1, k2, k3⟩ := key o h2 h3
  rw [GG_kd L k2 k1, k3]
theorem wl_7_8 {L o : Nat} (h : kd (GG L) o = 7) : ln (GG L) 126 = 60 := by
  obtain ⟨h1, h2, h3⟩ := GG_in L h (by decide) (by decide)
  have key : ∀ a, a < 136 → (kTab.getD a (0, 0)).1 = 7 → 126 < 136 ∧ 0 < 126 ∧ kTab.getD 126 (0, 0) = (50, 60) := by decide +kernel
  obtain ⟨k1, k2, k3⟩ := key o h2 h3
  rw [GG_ln L k2 k1, k3]
theorem w_7_9 {L o : Nat} (h : kd (GG L) o = 7) : rf (GG L) o 9 = some 127 := by
  obtain ⟨h1, h2, h3⟩ := GG_in L h (by decide) (by decide)
  rw [GG_rf]
  have key : ∀ a, a < 136 → (kTab.getD a (0, 0)).1 = 7 → rfO opsL 1 a 9 none = some 127 := by decide +kernel
  exact key o h2 h3
theorem wk_7_9 {L o : Nat} (h : kd (GG L) o = 7) : kd (GG L) 127 = 50 := by
  obtain ⟨h1, h2, h3⟩ := GG_in L h (by decide) (by decide)
  have key : ∀ a, a < 136 → (kTab.getD a (0, 0)).1 = 7 → 127 < 136 ∧ 0 < 127 ∧ kTab.getD 127 (0, 0) = (50, 60) := by decide +kernel
  obtain ⟨k1, k2, k3⟩ := key o h2 h3
  rw [GG_kd L k2 k1, k3]
theorem wl_7_9 {L o : Nat} (h : kd (GG L) o = 7) : ln (GG L) 127 = 60 := by
  obtain ⟨h1, h2, h3⟩ := GG_in L h (by decide) (by decide)
  have key : ∀ a, a < 136 → (kTab.getD a (0, 0)).1 = 7 → 127 < 136 ∧ 0 < 127 ∧ kTab.getD 127 (0, 0) = (50, 60) := by decide +kernel
  obtain ⟨k1, k2, k3⟩ := key o h2 h3
  rw [GG_ln L k2 k1, k3]
theorem w_7_10 {L o : Nat} (h : kd (GG L) o = 7) : rf (GG L) o 10 = some 128 := by
  obtain ⟨h1, h2, h3⟩ := GG_in L h (by decide) (by decide)
  rw [GG_rf]
  have key : ∀ a, a < 136 → (kTab.getD a (0, 0)).1 = 7 → rfO opsL 1 a 10 none = some 128 := by decide +kernel
  exact key o h2 h3
theorem wk_7_10 {L o : Nat} (h : kd (GG L) o = 7) : kd (GG L) 128 = 50 := by
  obtain ⟨h1, h2, h3⟩ := GG_in L h (by decide) (by decide)
  have key : ∀ a, a < 136 → (kTab.getD a (0, 0)).1 = 7 → 128 < 136 ∧ 0 < 128 ∧ kTab.getD 128 (0, 0) = (50, 60) := by decide +kernel
  obtain ⟨k1, k2, k3⟩ := key o h2 h3
  rw [GG_kd L k2 k1, k3]
theorem wl_7_10 {L o : Nat} (h : kd (GG L) o = 7) : ln (GG L) 128 = 60 := by
  obtain ⟨h1, h2, h3⟩ := GG_in L h (by decide) (by decide)
  have key : ∀ a, a < 136 → (kTab.getD a (0, 0)).1 = 7 → 128 < 136 ∧ 0 < 128 ∧ kTab.getD 128 (0, 0) = (50, 60) := by decide +kernel
  obtain ⟨k1, k2, k3⟩ := key o h2 h3
  rw [GG_ln L k2 k1, k3]
theorem w_7_11 {L o : Nat} (h : kd (GG L) o = 7) : rf (GG L) o 11 = some 129 := by
  obtain ⟨h1, h2, h3⟩ := GG_in L h (by decide) (by decide)
  rw [GG_rf]
  have key : ∀ a, a < 136 → (kTab.getD a (0, 0)).1 = 7 → rfO opsL 1 a 11 none = some 129 := by decide +kernel
  exact key o h2 h3
theorem wk_7_11 {L o : Nat} (h : kd (GG L) o = 7) : kd (GG L) 129 = 50 := by
  obtain ⟨h1, h2, h3⟩ := GG_in L h (by decide) (by decide)
  have key : ∀ a, a < 136 → (kTab.getD a (0, 0)).1 = 7 → 129 < 136 ∧ 0 < 129 ∧ kTab.getD 129 (0, 0) = (50, 6) := by decide +kernel
  obtain ⟨k1, k2, k3⟩ := key o h2 h3
  rw [GG_kd L k2 k1, k3]
theorem wl_7_11 {L o : Nat} (h : kd (GG L) o = 7) : ln (GG L) 129 = 6 := by
  obtain ⟨h1, h2, h3⟩ := GG_in L h (by decide) (by decide)
  have key : ∀ a, a < 136 → (kTab.getD a (0, 0)).1 = 7 → 129 < 136 ∧ 0 < 129 ∧ kTab.getD 129 (0, 0) = (50, 6) := by decide +kernel
  obtain ⟨k1, k2, k3⟩ := key o h2 h3
  rw [GG_ln L k2 k1, k3]
theorem w_7_12 {L o : Nat} (h : kd (GG L) o = 7) : rf (GG L) o 12 = some 130 := by
  obtain ⟨h1, h2, h3⟩ := GG_in L h (by decide) (by decide)
  rw [GG_rf]
  have key : ∀ a, a < 136 → (kTab.getD a (0, 0)).1 = 7 → rfO opsL 1 a 12 none = some 130 := by decide +kernel
  exact key o h2 h3
theorem wk_7_12 {L o : Nat} (h : kd (GG L) o = 7) : kd (GG L) 130 = 50 := by
  obtain ⟨h1, h2, h3⟩ := GG_in L h (by decide) (by decide)
  have key : ∀ a, a < 136 → (kTab.getD a (0, 0)).1 = 7 → 130 < 136 ∧ 0 < 130 ∧ kTab.getD 130 (0, 0) = (50, 168) := by decide +kernel
  obtain ⟨k1, k2, k3⟩ := key o h2 h3
  rw [GG_kd L k2 k1, k3]
theorem wl_7_12 {L o : Nat} (h : kd (GG L) o = 7) : ln (GG L) 130 = 168 := by
  obtain ⟨h1, h2, h3⟩ := GG_in L h (by decide) (by decide)
  have key : ∀ a, a < 136 → (kTab.getD a (0, 0)).1 = 7 → 130 < 136 ∧ 0 < 130 ∧ kTab.getD 130 (0, 0) = (50, 168) := by decide +kernel
  obtain ⟨k1, k2, k3⟩ := key o h2 h3
  rw [GG_ln L k2 k1, k3]
theorem w_7_13 {L o : Nat} (h : kd (GG L) o = 7) : rf (GG L) o 13 = some 131 := by
  obtain ⟨h1, h2, h3⟩ := GG_in L h (by decide) (by decide)
  rw [GG_rf]
  have key : ∀ a, a < 136 → (kTab.getD a (0, 0)).1 = 7 → rfO opsL 1 a 13 none = some 131 := by decide +kernel
  exact key o h2 h3
theorem wk_7_13 {L o : Nat} (h : kd (GG L) o = 7) : kd (GG L) 131 = 50 := by
  obtain ⟨h1, h2, h3⟩ := GG_in L h (by decide) (by decide)
  have key : ∀ a, a < 136 → (kTab.getD a (0, 0)).1 = 7 → 131 < 136 ∧ 0 < 131 ∧ kTab.getD 131 (0, 0) = (50, 168) := by decide +kernel
  obtain ⟨k1, k2, k3⟩ := key o h2 h3
  rw [GG_kd L k2 k1, k3]
theorem wl_7_13 {L o : Nat} (h : kd (GG L) o = 7) : ln (GG L) 131 = 168 := by
  obtain ⟨h1, h2, h3⟩ := GG_in L h (by decide) (by decide)
  have key : ∀ a, a < 136 → (kTab.getD a (0, 0)).1 = 7 → 131 < 136 ∧ 0 < 131 ∧ kTab.getD 131 (0, 0) = (50, 168) := by decide +kernel
  obtain ⟨k1, k2, k3⟩ := key o h2 h3
  rw [GG_ln L k2 k1, k3]
theorem w_7_14 {L o : Nat} (h : kd (GG L) o = 7) : rf (GG L) o 14 = some 132 := by
  obtain ⟨h1, h2, h3⟩ := GG_in L h (by decide) (by decide)
  rw [GG_rf]
  have key : ∀ a, a < 136 → (kTab.getD a (0, 0)).1 = 7 → rfO opsL 1 a 14 none = some 132 := by decide +kernel
  exact key o h2 h3
theorem wk_7_14 {L o : Nat} (h : kd (GG L) o = 7) : kd (GG L) 132 = 50 := by
  obtain ⟨h1, h2, h3⟩ := GG_in L h (by decide) (by decide)
  have key : ∀ a, a < 136 → (kTab.getD a (0, 0)).1 = 7 → 132 < 136 ∧ 0 < 132 ∧ kTab.getD 132 (0, 0) = (50, 168) := by decide +kernel
  obtain ⟨k1, k2, k3⟩ := key o h2 h3
  rw [GG_kd L k2 k1, k3]
theorem wl_7_14 {L o : Nat} (h : kd (GG L) o = 7) : ln (GG L) 132 = 168 := by
  obtain ⟨h1, h2, h3⟩ := GG_in L h (by decide) (by decide)
  have key : ∀ a, a < 136 → (kTab.getD a (0, 0)).1 = 7 → 132 < 136 ∧ 0 < 132 ∧ kTab.getD 132 (0, 0) = (50, 168) := by decide +kernel
  obtain ⟨k1, k2, k3⟩ := key o h2 h3
  rw [GG_ln L k2 k1, k3]
theorem w_7_15 {L o : Nat} (h : kd (GG L) o = 7) : rf (GG L) o 15 = some 133 := by
  obtain ⟨h1, h2, h3⟩ := GG_in L h (by decide) (by decide)
  rw [GG_rf]
  have key : ∀ a, a < 136 → (kTab.getD a (0, 0)).1 = 7 → rfO opsL 1 a 15 none = some 133 := by decide +kernel
  exact key o h2 h3
theorem wk_7_15 {L o : Nat} (h : kd (GG L) o = 7) : kd (GG L) 133 = 50 := by
  obtain ⟨h1, h2, h3⟩ := GG_in L h (by decide) (by decide)
  have key : ∀ a, a < 136 → (kTab.getD a (0, 0)).1 = 7 → 133 < 136 ∧ 0 < 133 ∧ kTab.getD 133 (0, 0) = (50, 168) := by decide +kernel
  obtain ⟨k1, k2, k3⟩ := key o h2 h3
  rw [GG_kd L k2 k1, k3]
theorem wl_7_15 {L o : Nat} (h : kd (GG L) o = 7) : ln (GG L) 133 = 168 := by
  obtain ⟨h1, h2, h3⟩ := GG_in L h (by decide) (by decide)
  have key : ∀ a, a < 136 → (kTab.getD a (0, 0)).1 = 7 → 133 < 136 ∧ 0 < 133 ∧ kTab.getD 133 (0, 0) = (50, 168) := by decide +kernel
  obtain ⟨k1, k2, k3⟩ := key o h2 h3
  rw [GG_ln L k2 k1, k3]
theorem w_7_20 {L o : Nat} (h : kd (GG L) o = 7) : rf (GG L) o 20 = some 134 := by
  obtain ⟨h1, h2, h3⟩ := GG_in L h (by decide) (by decide)
  rw [GG_rf]
  have key : ∀ a, a < 136 → (kTab.getD a (0, 0)).1 = 7 → rfO opsL 1 a 20 none = some 134 := by decide +kernel
  exact key o h2 h3
theorem wk_7_20 {L o : Nat} (h : kd (GG L) o = 7) : kd (GG L) 134 = 50 := by
  obtain ⟨h1, h2, h3⟩ := GG_in L h (by decide) (by decide)
  have key : ∀ a, a < 136 → (kTab.getD a (0, 0)).1 = 7 → 134 < 136 ∧ 0 < 134 ∧ kTab.getD 134 (0, 0) = (50, 10) := by decide +kernel
  obtain ⟨k1, k2, k3⟩ := key o h2 h3
  rw [GG_kd L k2 k1, k3]
theorem wl_7_20 {L o : Nat} (h : kd (GG L) o = 7) : ln (GG L) 134 = 10 := by
  obtain ⟨h1, h2, h3⟩ := GG_in L h (by decide) (by decide)
  have key : ∀ a, a < 136 → (kTab.getD a (0, 0)).1 = 7 → 134 < 136 ∧ 0 < 134 ∧ kTab.getD 134 (0, 0) = (50, 10) := by decide +kernel
  obtain ⟨k1, k2, k3⟩ := key o h2 h3
  rw [GG_ln L k2 k1, k3]
theorem w_7_21 {L o : Nat} (h : kd (GG L) o = 7) : rf (GG L) o 21 = some 135 := by
  obtain ⟨h1, h2, h3⟩ := GG_in L h (by decide) (by decide)
  rw [GG_rf]
  have key : ∀ a, a < 136 → (kTab.getD a (0, 0)).1 = 7 → rfO opsL 1 a 21 none = some 135 := by decide +kernel
  exact key o h2 h3
theorem wk_7_21 {L o : Nat} (h : kd (GG L) o = 7) : kd (GG L) 135 = 50 := by
  obtain ⟨h1, h2, h3⟩ := GG_in L h (by decide) (by decide)
  have key : ∀ a, a < 136 → (kTab.getD a (0, 0)).1 = 7 → 135 < 136 ∧ 0 < 135 ∧ kTab.getD 135 (0, 0) = (50, 10) := by decide +kernel
  obtain ⟨k1, k2, k3⟩ := key o h2 h3
  rw [GG_kd L k2 k1, k3]
theorem wl_7_21 {L o : Nat} (h : kd (GG L) o = 7) : ln (GG L) 135 = 10 := by
  obtain ⟨h1, h2, h3⟩ := GG_in L h (by decide) (by decide)
  have key : ∀ a, a < 136 → (kTab.getD a (0, 0)).1 = 7 → 135 < 136 ∧ 0 < 135 ∧ kTab.getD 135 (0, 0) = (50, 10) := by decide +kernel
  obtain ⟨k1, k2, k3⟩ := key o h2 h3
  rw [GG_ln L k2 k1, k3]
theorem k_1 {L : Nat} : kd (GG L) 1 = 6 := by rw [GG_kd L (by decide) (by decide)]; decide +kernel
theorem k_2 {L : Nat} : kd (GG L) 2 = 3 := by rw [GG_kd L (by decide) (by decide)]; decide +kernel
theorem k_9 {L : Nat} : kd (GG L) 9 = 2 := by rw [GG_kd L (by decide) (by decide)]; decide +kernel
theorem k_10 {L : Nat} : kd (GG L) 10 = 1 := by rw [GG_kd L (by decide) (by decide)]; decide +kernel
theorem k_21 {L : Nat} : kd (GG L) 21 = 1 := by rw [GG_kd L (by decide) (by decide)]; decide +kernel
theorem k_31 {L : Nat} : kd (GG L) 31 = 1 := by rw [GG_kd L (by decide) (by decide)]; decide +kernel
theorem k_41 {L : Nat} : kd (GG L) 41 = 1 := by rw [GG_kd L (by decide) (by decide)]; decide +kernel
theorem k_51 {L : Nat} : kd (GG L) 51 = 1 := by rw [GG_kd L (by decide) (by decide)]; decide +kernel
theorem k_61 {L : Nat} : kd (GG L) 61 = 1 := by rw [GG_kd L (by decide) (by decide)]; decide +kernel
theorem k_71 {L : Nat} : kd (GG L) 71 = 1 := by rw [GG_kd L (by decide) (by decide)]; decide +kernel
theorem k_81 {L : Nat} : kd (GG L) 81 = 0 := by rw [GG_kd L (by decide) (by decide)]; decide +kernel
theorem k_82 {L : Nat} : kd (GG L) 82 = 4 := by rw [GG_kd L (by decide) (by decide)]; decide +kernel
theorem k_84 {L : Nat} : kd (GG L) 84 = 4 := by rw [GG_kd L (by decide) (by decide)]; decide +kernel
theorem k_90 {L : Nat} : kd (GG L) 90 = 0 := by rw [GG_kd L (by decide) (by decide)]; decide +kernel
theorem k_91 {L : Nat} : kd (GG L) 91 = 4 := by rw [GG_kd L (by decide) (by decide)]; decide +kernel
theorem k_93 {L : Nat} : kd (GG L) 93 = 4 := by rw [GG_kd L (by decide) (by decide)]; decide +kernel
theorem k_100 {L : Nat} : kd (GG L) 100 = 0 := by rw [GG_kd L (by decide) (by decide)]; decide +kernel
theorem k_101 {L : Nat} : kd (GG L) 101 = 4 := by rw [GG_kd L (by decide) (by decide)]; decide +kernel
theorem k_103 {L : Nat} : kd (GG L) 103 = 4 := by rw [GG_kd L (by decide) (by decide)]; decide +kernel
theorem k_109 {L : Nat} : kd (GG L) 109 = 0 := by rw [GG_kd L (by decide) (by decide)]; decide +kernel
theorem k_110 {L : Nat} : kd (GG L) 110 = 4 := by rw [GG_kd L (by decide) (by decide)]; decide +kernel
theorem k_112 {L : Nat} : kd (GG L) 112 = 4 := by rw [GG_kd L (by decide) (by decide)]; decide +kernel
theorem k_119 {L : Nat} : kd (GG L) 119 = 7 := by rw [GG_kd L (by decide) (by decide)]; decide +kernel
theorem inb_lt {i : Int32} {n : Nat} (h : inb i n = true) : ix i < n := by
  unfold inb at h
  simp only [Bool.and_eq_true, decide_eq_true_eq] at h
  show i.toInt.toNat < n
  omega
theorem we_53 {L : Nat} {i : Int32} (h : inb i 6 = true) : rf (GG L) 20 (ix i) = some (21 + 10 * ix i) := by
  rw [GG_rf]
  have key : ∀ j, j < 6 → rfO opsL 1 20 j none = some (21 + 10 * j) := by decide +kernel
  exact key _ (inb_lt h)
theorem wek_53 {L : Nat} {i : Nat} (h : i < 6) : kd (GG L) (21 + 10 * i) = 1 := by
  have key : ∀ j, j < 6 → 21 + 10 * j < 136 ∧ 0 < 21 + 10 * j ∧ (kTab.getD (21 + 10 * j) (0, 0)).1 = 1 := by decide +kernel
  obtain ⟨k1, k2, k3⟩ := key _ h
  rw [GG_kd L k2 k1, k3]

theorem we_54 {L : Nat} {i : Int32} (h : inb i 2 = true) : rf (GG L) 99 (ix i) = some (100 + 9 * ix i) := by
  rw [GG_rf]
  have key : ∀ j, j < 2 → rfO opsL 1 99 j none = some (100 + 9 * j) := by decide +kernel
  exact key _ (inb_lt h)
theorem wek_54 {L : Nat} {i : Nat} (h : i < 2) : kd (GG L) (100 + 9 * i) = 0 := by
  have key : ∀ j, j < 2 → 100 + 9 * j < 136 ∧ 0 < 100 + 9 * j ∧ (kTab.getD (100 + 9 * j) (0, 0)).1 = 0 := by decide +kernel
  obtain ⟨k1, k2, k3⟩ := key _ h
  rw [GG_kd L k2 k1, k3]
end
