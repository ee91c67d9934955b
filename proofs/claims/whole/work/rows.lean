section
-- ===== PART A: goes FIRST, ahead of the names: the tables' words, and 'selects' of the private methods out of them =====
/-- a private method of a class that the tables say can be made, by its rows of tables_1 -/
def lw_okq (q : MethodName × Nat) : Prop := (q.1.cls ≠ "java/lang/invoke/MethodHandle" ∧ q.1.cls ≠ "java/lang/invoke/VarHandle") ∧ Cond.instantiable q.1.cls q.2 ∈ tables_1 ∧ Cond.privateMethod q.1 ∈ tables_1 ∧ Cond.instanceMethod q.1 ∈ tables_1
theorem lw_p0 : lw_okq (⟨"SettingsVault$Pad", "readStep", "()Z"⟩, 4) := ⟨⟨by decide +kernel, by decide +kernel⟩, List.mem_of_getElem? (i := 20) (by decide +kernel), List.mem_of_getElem? (i := 202) (by decide +kernel), List.mem_of_getElem? (i := 203) (by decide +kernel)⟩
theorem lw_p1 : lw_okq (⟨"SettingsVault$Pad", "readSign", "(C)Z"⟩, 4) := ⟨⟨by decide +kernel, by decide +kernel⟩, List.mem_of_getElem? (i := 20) (by decide +kernel), List.mem_of_getElem? (i := 206) (by decide +kernel), List.mem_of_getElem? (i := 207) (by decide +kernel)⟩
theorem lw_p2 : lw_okq (⟨"SettingsVault$Pad", "readOffset", "(CII)I"⟩, 4) := ⟨⟨by decide +kernel, by decide +kernel⟩, List.mem_of_getElem? (i := 20) (by decide +kernel), List.mem_of_getElem? (i := 210) (by decide +kernel), List.mem_of_getElem? (i := 211) (by decide +kernel)⟩
theorem lw_p3 : lw_okq (⟨"SettingsVault$Pad", "readAdding", "()Z"⟩, 4) := ⟨⟨by decide +kernel, by decide +kernel⟩, List.mem_of_getElem? (i := 20) (by decide +kernel), List.mem_of_getElem? (i := 214) (by decide +kernel), List.mem_of_getElem? (i := 215) (by decide +kernel)⟩
theorem lw_p4 : lw_okq (⟨"SettingsVault$Pad", "readName", "()I"⟩, 4) := ⟨⟨by decide +kernel, by decide +kernel⟩, List.mem_of_getElem? (i := 20) (by decide +kernel), List.mem_of_getElem? (i := 218) (by decide +kernel), List.mem_of_getElem? (i := 219) (by decide +kernel)⟩
theorem lw_p5 : lw_okq (⟨"SettingsVault$Pad", "readNumber", "()I"⟩, 4) := ⟨⟨by decide +kernel, by decide +kernel⟩, List.mem_of_getElem? (i := 20) (by decide +kernel), List.mem_of_getElem? (i := 222) (by decide +kernel), List.mem_of_getElem? (i := 223) (by decide +kernel)⟩
theorem lw_p6 : lw_okq (⟨"SettingsVault$Pad", "readDigit", "(II)I"⟩, 4) := ⟨⟨by decide +kernel, by decide +kernel⟩, List.mem_of_getElem? (i := 20) (by decide +kernel), List.mem_of_getElem? (i := 226) (by decide +kernel), List.mem_of_getElem? (i := 227) (by decide +kernel)⟩
theorem lw_p7 : lw_okq (⟨"SettingsVault$Pad", "readNewName", "(II)Z"⟩, 4) := ⟨⟨by decide +kernel, by decide +kernel⟩, List.mem_of_getElem? (i := 20) (by decide +kernel), List.mem_of_getElem? (i := 237) (by decide +kernel), List.mem_of_getElem? (i := 238) (by decide +kernel)⟩
theorem lw_p8 : lw_okq (⟨"SettingsVault$Pad", "readFactor", "(II)Z"⟩, 4) := ⟨⟨by decide +kernel, by decide +kernel⟩, List.mem_of_getElem? (i := 20) (by decide +kernel), List.mem_of_getElem? (i := 241) (by decide +kernel), List.mem_of_getElem? (i := 242) (by decide +kernel)⟩
theorem lw_p9 : lw_okq (⟨"SettingsVault$Pad", "readLimit", "(I)Z"⟩, 4) := ⟨⟨by decide +kernel, by decide +kernel⟩, List.mem_of_getElem? (i := 20) (by decide +kernel), List.mem_of_getElem? (i := 245) (by decide +kernel), List.mem_of_getElem? (i := 246) (by decide +kernel)⟩
theorem lw_p10 : lw_okq (⟨"SettingsVault$Device", "findActive", "()I"⟩, 14) := ⟨⟨by decide +kernel, by decide +kernel⟩, List.mem_of_getElem? (i := 105) (by decide +kernel), List.mem_of_getElem? (i := 363) (by decide +kernel), List.mem_of_getElem? (i := 364) (by decide +kernel)⟩
theorem lw_p11 : lw_okq (⟨"SettingsVault$Page", "hasThreeAt", "(I)Z"⟩, 3) := ⟨⟨by decide +kernel, by decide +kernel⟩, List.mem_of_getElem? (i := 111) (by decide +kernel), List.mem_of_getElem? (i := 371) (by decide +kernel), List.mem_of_getElem? (i := 372) (by decide +kernel)⟩
theorem lw_p12 : lw_okq (⟨"SettingsVault$Device", "takeDefaults", "()V"⟩, 14) := ⟨⟨by decide +kernel, by decide +kernel⟩, List.mem_of_getElem? (i := 105) (by decide +kernel), List.mem_of_getElem? (i := 400) (by decide +kernel), List.mem_of_getElem? (i := 401) (by decide +kernel)⟩
theorem lw_p13 : lw_okq (⟨"SettingsVault$Device", "readRecords", "(LSettingsVault$Page;)V"⟩, 14) := ⟨⟨by decide +kernel, by decide +kernel⟩, List.mem_of_getElem? (i := 105) (by decide +kernel), List.mem_of_getElem? (i := 410) (by decide +kernel), List.mem_of_getElem? (i := 411) (by decide +kernel)⟩
theorem lw_p14 : lw_okq (⟨"SettingsVault$Device", "fillOther", "(I)I"⟩, 14) := ⟨⟨by decide +kernel, by decide +kernel⟩, List.mem_of_getElem? (i := 105) (by decide +kernel), List.mem_of_getElem? (i := 459) (by decide +kernel), List.mem_of_getElem? (i := 460) (by decide +kernel)⟩
theorem lw_p15 : lw_okq (⟨"SettingsVault$Device", "writeRecord", "(LSettingsVault$Page;IIII)I"⟩, 14) := ⟨⟨by decide +kernel, by decide +kernel⟩, List.mem_of_getElem? (i := 105) (by decide +kernel), List.mem_of_getElem? (i := 468) (by decide +kernel), List.mem_of_getElem? (i := 469) (by decide +kernel)⟩
def lw_privs_1 : List (MethodName × Nat) := [(⟨"SettingsVault$Pad", "readStep", "()Z"⟩, 4), (⟨"SettingsVault$Pad", "readSign", "(C)Z"⟩, 4), (⟨"SettingsVault$Pad", "readOffset", "(CII)I"⟩, 4), (⟨"SettingsVault$Pad", "readAdding", "()Z"⟩, 4), (⟨"SettingsVault$Pad", "readName", "()I"⟩, 4), (⟨"SettingsVault$Pad", "readNumber", "()I"⟩, 4), (⟨"SettingsVault$Pad", "readDigit", "(II)I"⟩, 4), (⟨"SettingsVault$Pad", "readNewName", "(II)Z"⟩, 4), (⟨"SettingsVault$Pad", "readFactor", "(II)Z"⟩, 4), (⟨"SettingsVault$Pad", "readLimit", "(I)Z"⟩, 4), (⟨"SettingsVault$Device", "findActive", "()I"⟩, 14), (⟨"SettingsVault$Page", "hasThreeAt", "(I)Z"⟩, 3), (⟨"SettingsVault$Device", "takeDefaults", "()V"⟩, 14), (⟨"SettingsVault$Device", "readRecords", "(LSettingsVault$Page;)V"⟩, 14), (⟨"SettingsVault$Device", "fillOther", "(I)I"⟩, 14), (⟨"SettingsVault$Device", "writeRecord", "(LSettingsVault$Page;IIII)I"⟩, 14)]
theorem lw_r1 : ∀ q ∈ lw_privs_1, lw_okq q := List.forall_mem_cons.mpr ⟨lw_p0, List.forall_mem_cons.mpr ⟨lw_p1, List.forall_mem_cons.mpr ⟨lw_p2, List.forall_mem_cons.mpr ⟨lw_p3, List.forall_mem_cons.mpr ⟨lw_p4, List.forall_mem_cons.mpr ⟨lw_p5, List.forall_mem_cons.mpr ⟨lw_p6, List.forall_mem_cons.mpr ⟨lw_p7, List.forall_mem_cons.mpr ⟨lw_p8, List.forall_mem_cons.mpr ⟨lw_p9, List.forall_mem_cons.mpr ⟨lw_p10, List.forall_mem_cons.mpr ⟨lw_p11, List.forall_mem_cons.mpr ⟨lw_p12, List.forall_mem_cons.mpr ⟨lw_p13, List.forall_mem_cons.mpr ⟨lw_p14, List.forall_mem_cons.mpr ⟨lw_p15, fun _ h => absurd h List.not_mem_nil⟩⟩⟩⟩⟩⟩⟩⟩⟩⟩⟩⟩⟩⟩⟩⟩
theorem lw_p16 : lw_okq (⟨"SettingsVault$Device", "writeThree", "(LSettingsVault$Page;IIII)I"⟩, 14) := ⟨⟨by decide +kernel, by decide +kernel⟩, List.mem_of_getElem? (i := 105) (by decide +kernel), List.mem_of_getElem? (i := 473) (by decide +kernel), List.mem_of_getElem? (i := 474) (by decide +kernel)⟩
theorem lw_p17 : lw_okq (⟨"SettingsVault$Device", "writeCell", "(LSettingsVault$Page;II)I"⟩, 14) := ⟨⟨by decide +kernel, by decide +kernel⟩, List.mem_of_getElem? (i := 105) (by decide +kernel), List.mem_of_getElem? (i := 477) (by decide +kernel), List.mem_of_getElem? (i := 478) (by decide +kernel)⟩
theorem lw_p18 : lw_okq (⟨"SettingsVault$Device", "writeHead", "(LSettingsVault$Page;II)I"⟩, 14) := ⟨⟨by decide +kernel, by decide +kernel⟩, List.mem_of_getElem? (i := 105) (by decide +kernel), List.mem_of_getElem? (i := 489) (by decide +kernel), List.mem_of_getElem? (i := 490) (by decide +kernel)⟩
theorem lw_p19 : lw_okq (⟨"SettingsVault$Device", "migrateValues", "(I)V"⟩, 14) := ⟨⟨by decide +kernel, by decide +kernel⟩, List.mem_of_getElem? (i := 105) (by decide +kernel), List.mem_of_getElem? (i := 510) (by decide +kernel), List.mem_of_getElem? (i := 511) (by decide +kernel)⟩
theorem lw_p20 : lw_okq (⟨"SettingsVaultModel", "read", "(I)I"⟩, 28) := ⟨⟨by decide +kernel, by decide +kernel⟩, List.mem_of_getElem? (i := 673) (by decide +kernel), List.mem_of_getElem? (i := 768) (by decide +kernel), List.mem_of_getElem? (i := 769) (by decide +kernel)⟩
theorem lw_p21 : lw_okq (⟨"SettingsVaultModel", "takeStep", "()V"⟩, 28) := ⟨⟨by decide +kernel, by decide +kernel⟩, List.mem_of_getElem? (i := 673) (by decide +kernel), List.mem_of_getElem? (i := 772) (by decide +kernel), List.mem_of_getElem? (i := 773) (by decide +kernel)⟩
theorem lw_p22 : lw_okq (⟨"SettingsVaultModel", "next", "()I"⟩, 28) := ⟨⟨by decide +kernel, by decide +kernel⟩, List.mem_of_getElem? (i := 673) (by decide +kernel), List.mem_of_getElem? (i := 776) (by decide +kernel), List.mem_of_getElem? (i := 777) (by decide +kernel)⟩
theorem lw_p23 : lw_okq (⟨"SettingsVaultModel", "takeChange", "()V"⟩, 28) := ⟨⟨by decide +kernel, by decide +kernel⟩, List.mem_of_getElem? (i := 673) (by decide +kernel), List.mem_of_getElem? (i := 780) (by decide +kernel), List.mem_of_getElem? (i := 781) (by decide +kernel)⟩
theorem lw_p24 : lw_okq (⟨"SettingsVaultModel", "takeOne", "(II)I"⟩, 28) := ⟨⟨by decide +kernel, by decide +kernel⟩, List.mem_of_getElem? (i := 673) (by decide +kernel), List.mem_of_getElem? (i := 784) (by decide +kernel), List.mem_of_getElem? (i := 785) (by decide +kernel)⟩
theorem lw_p25 : lw_okq (⟨"SettingsVaultModel", "takeNumber", "()I"⟩, 28) := ⟨⟨by decide +kernel, by decide +kernel⟩, List.mem_of_getElem? (i := 673) (by decide +kernel), List.mem_of_getElem? (i := 791) (by decide +kernel), List.mem_of_getElem? (i := 792) (by decide +kernel)⟩
theorem lw_p26 : lw_okq (⟨"SettingsVaultModel", "layStep", "(I)V"⟩, 28) := ⟨⟨by decide +kernel, by decide +kernel⟩, List.mem_of_getElem? (i := 673) (by decide +kernel), List.mem_of_getElem? (i := 795) (by decide +kernel), List.mem_of_getElem? (i := 796) (by decide +kernel)⟩
theorem lw_p27 : lw_okq (⟨"SettingsVaultModel", "copyLayout", "(I)V"⟩, 28) := ⟨⟨by decide +kernel, by decide +kernel⟩, List.mem_of_getElem? (i := 673) (by decide +kernel), List.mem_of_getElem? (i := 799) (by decide +kernel), List.mem_of_getElem? (i := 800) (by decide +kernel)⟩
theorem lw_p28 : lw_okq (⟨"SettingsVaultModel", "canDo", "(II)Z"⟩, 28) := ⟨⟨by decide +kernel, by decide +kernel⟩, List.mem_of_getElem? (i := 673) (by decide +kernel), List.mem_of_getElem? (i := 803) (by decide +kernel), List.mem_of_getElem? (i := 804) (by decide +kernel)⟩
theorem lw_p29 : lw_okq (⟨"SettingsVaultModel", "hasSetting", "(II)Z"⟩, 28) := ⟨⟨by decide +kernel, by decide +kernel⟩, List.mem_of_getElem? (i := 673) (by decide +kernel), List.mem_of_getElem? (i := 807) (by decide +kernel), List.mem_of_getElem? (i := 808) (by decide +kernel)⟩
theorem lw_p30 : lw_okq (⟨"SettingsVaultModel", "doTo", "(II)V"⟩, 28) := ⟨⟨by decide +kernel, by decide +kernel⟩, List.mem_of_getElem? (i := 673) (by decide +kernel), List.mem_of_getElem? (i := 811) (by decide +kernel), List.mem_of_getElem? (i := 812) (by decide +kernel)⟩
theorem lw_p31 : lw_okq (⟨"SettingsVaultModel", "isVersion", "(I)Z"⟩, 28) := ⟨⟨by decide +kernel, by decide +kernel⟩, List.mem_of_getElem? (i := 673) (by decide +kernel), List.mem_of_getElem? (i := 825) (by decide +kernel), List.mem_of_getElem? (i := 826) (by decide +kernel)⟩
def lw_privs_2 : List (MethodName × Nat) := [(⟨"SettingsVault$Device", "writeThree", "(LSettingsVault$Page;IIII)I"⟩, 14), (⟨"SettingsVault$Device", "writeCell", "(LSettingsVault$Page;II)I"⟩, 14), (⟨"SettingsVault$Device", "writeHead", "(LSettingsVault$Page;II)I"⟩, 14), (⟨"SettingsVault$Device", "migrateValues", "(I)V"⟩, 14), (⟨"SettingsVaultModel", "read", "(I)I"⟩, 28), (⟨"SettingsVaultModel", "takeStep", "()V"⟩, 28), (⟨"SettingsVaultModel", "next", "()I"⟩, 28), (⟨"SettingsVaultModel", "takeChange", "()V"⟩, 28), (⟨"SettingsVaultModel", "takeOne", "(II)I"⟩, 28), (⟨"SettingsVaultModel", "takeNumber", "()I"⟩, 28), (⟨"SettingsVaultModel", "layStep", "(I)V"⟩, 28), (⟨"SettingsVaultModel", "copyLayout", "(I)V"⟩, 28), (⟨"SettingsVaultModel", "canDo", "(II)Z"⟩, 28), (⟨"SettingsVaultModel", "hasSetting", "(II)Z"⟩, 28), (⟨"SettingsVaultModel", "doTo", "(II)V"⟩, 28), (⟨"SettingsVaultModel", "isVersion", "(I)Z"⟩, 28)]
theorem lw_r2 : ∀ q ∈ lw_privs_2, lw_okq q := List.forall_mem_cons.mpr ⟨lw_p16, List.forall_mem_cons.mpr ⟨lw_p17, List.forall_mem_cons.mpr ⟨lw_p18, List.forall_mem_cons.mpr ⟨lw_p19, List.forall_mem_cons.mpr ⟨lw_p20, List.forall_mem_cons.mpr ⟨lw_p21, List.forall_mem_cons.mpr ⟨lw_p22, List.forall_mem_cons.mpr ⟨lw_p23, List.forall_mem_cons.mpr ⟨lw_p24, List.forall_mem_cons.mpr ⟨lw_p25, List.forall_mem_cons.mpr ⟨lw_p26, List.forall_mem_cons.mpr ⟨lw_p27, List.forall_mem_cons.mpr ⟨lw_p28, List.forall_mem_cons.mpr ⟨lw_p29, List.forall_mem_cons.mpr ⟨lw_p30, List.forall_mem_cons.mpr ⟨lw_p31, fun _ h => absurd h List.not_mem_nil⟩⟩⟩⟩⟩⟩⟩⟩⟩⟩⟩⟩⟩⟩⟩⟩
theorem lw_p32 : lw_okq (⟨"SettingsVaultModel", "activeByHeads", "()I"⟩, 28) := ⟨⟨by decide +kernel, by decide +kernel⟩, List.mem_of_getElem? (i := 673) (by decide +kernel), List.mem_of_getElem? (i := 837) (by decide +kernel), List.mem_of_getElem? (i := 838) (by decide +kernel)⟩
theorem lw_p33 : lw_okq (⟨"SettingsVaultModel", "isHead", "(I)Z"⟩, 28) := ⟨⟨by decide +kernel, by decide +kernel⟩, List.mem_of_getElem? (i := 673) (by decide +kernel), List.mem_of_getElem? (i := 841) (by decide +kernel), List.mem_of_getElem? (i := 842) (by decide +kernel)⟩
theorem lw_p34 : lw_okq (⟨"SettingsVaultModel", "cellOf", "(II)I"⟩, 28) := ⟨⟨by decide +kernel, by decide +kernel⟩, List.mem_of_getElem? (i := 673) (by decide +kernel), List.mem_of_getElem? (i := 845) (by decide +kernel), List.mem_of_getElem? (i := 846) (by decide +kernel)⟩
theorem lw_p35 : lw_okq (⟨"SettingsVaultModel", "layUsual", "(I)V"⟩, 28) := ⟨⟨by decide +kernel, by decide +kernel⟩, List.mem_of_getElem? (i := 673) (by decide +kernel), List.mem_of_getElem? (i := 852) (by decide +kernel), List.mem_of_getElem? (i := 853) (by decide +kernel)⟩
theorem lw_p36 : lw_okq (⟨"SettingsVaultModel", "goThrough", "(IIZ)V"⟩, 28) := ⟨⟨by decide +kernel, by decide +kernel⟩, List.mem_of_getElem? (i := 673) (by decide +kernel), List.mem_of_getElem? (i := 856) (by decide +kernel), List.mem_of_getElem? (i := 857) (by decide +kernel)⟩
theorem lw_p37 : lw_okq (⟨"SettingsVaultModel", "isRecord", "(III)Z"⟩, 28) := ⟨⟨by decide +kernel, by decide +kernel⟩, List.mem_of_getElem? (i := 673) (by decide +kernel), List.mem_of_getElem? (i := 860) (by decide +kernel), List.mem_of_getElem? (i := 861) (by decide +kernel)⟩
theorem lw_p38 : lw_okq (⟨"SettingsVaultModel", "isSetting", "(I)Z"⟩, 28) := ⟨⟨by decide +kernel, by decide +kernel⟩, List.mem_of_getElem? (i := 673) (by decide +kernel), List.mem_of_getElem? (i := 871) (by decide +kernel), List.mem_of_getElem? (i := 872) (by decide +kernel)⟩
theorem lw_p39 : lw_okq (⟨"SettingsVaultModel", "isValue", "(II)Z"⟩, 28) := ⟨⟨by decide +kernel, by decide +kernel⟩, List.mem_of_getElem? (i := 673) (by decide +kernel), List.mem_of_getElem? (i := 879) (by decide +kernel), List.mem_of_getElem? (i := 880) (by decide +kernel)⟩
theorem lw_p40 : lw_okq (⟨"SettingsVaultModel", "makeSet", "(II)V"⟩, 28) := ⟨⟨by decide +kernel, by decide +kernel⟩, List.mem_of_getElem? (i := 673) (by decide +kernel), List.mem_of_getElem? (i := 883) (by decide +kernel), List.mem_of_getElem? (i := 884) (by decide +kernel)⟩
theorem lw_p41 : lw_okq (⟨"SettingsVaultModel", "layThen", "()V"⟩, 28) := ⟨⟨by decide +kernel, by decide +kernel⟩, List.mem_of_getElem? (i := 673) (by decide +kernel), List.mem_of_getElem? (i := 887) (by decide +kernel), List.mem_of_getElem? (i := 888) (by decide +kernel)⟩
theorem lw_p42 : lw_okq (⟨"SettingsVaultModel", "fill", "(I)V"⟩, 28) := ⟨⟨by decide +kernel, by decide +kernel⟩, List.mem_of_getElem? (i := 673) (by decide +kernel), List.mem_of_getElem? (i := 891) (by decide +kernel), List.mem_of_getElem? (i := 892) (by decide +kernel)⟩
theorem lw_p43 : lw_okq (⟨"SettingsVaultModel", "erase", "(I)V"⟩, 28) := ⟨⟨by decide +kernel, by decide +kernel⟩, List.mem_of_getElem? (i := 673) (by decide +kernel), List.mem_of_getElem? (i := 895) (by decide +kernel), List.mem_of_getElem? (i := 896) (by decide +kernel)⟩
theorem lw_p44 : lw_okq (⟨"SettingsVaultModel", "writeRecord", "(IIIII)V"⟩, 28) := ⟨⟨by decide +kernel, by decide +kernel⟩, List.mem_of_getElem? (i := 673) (by decide +kernel), List.mem_of_getElem? (i := 899) (by decide +kernel), List.mem_of_getElem? (i := 900) (by decide +kernel)⟩
theorem lw_p45 : lw_okq (⟨"SettingsVaultModel", "write", "(III)V"⟩, 28) := ⟨⟨by decide +kernel, by decide +kernel⟩, List.mem_of_getElem? (i := 673) (by decide +kernel), List.mem_of_getElem? (i := 903) (by decide +kernel), List.mem_of_getElem? (i := 904) (by decide +kernel)⟩
theorem lw_p46 : lw_okq (⟨"SettingsVaultModel", "writeHead", "(III)V"⟩, 28) := ⟨⟨by decide +kernel, by decide +kernel⟩, List.mem_of_getElem? (i := 673) (by decide +kernel), List.mem_of_getElem? (i := 907) (by decide +kernel), List.mem_of_getElem? (i := 908) (by decide +kernel)⟩
theorem lw_p47 : lw_okq (⟨"SettingsVaultModel", "isIdle", "()Z"⟩, 28) := ⟨⟨by decide +kernel, by decide +kernel⟩, List.mem_of_getElem? (i := 673) (by decide +kernel), List.mem_of_getElem? (i := 915) (by decide +kernel), List.mem_of_getElem? (i := 916) (by decide +kernel)⟩
def lw_privs_3 : List (MethodName × Nat) := [(⟨"SettingsVaultModel", "activeByHeads", "()I"⟩, 28), (⟨"SettingsVaultModel", "isHead", "(I)Z"⟩, 28), (⟨"SettingsVaultModel", "cellOf", "(II)I"⟩, 28), (⟨"SettingsVaultModel", "layUsual", "(I)V"⟩, 28), (⟨"SettingsVaultModel", "goThrough", "(IIZ)V"⟩, 28), (⟨"SettingsVaultModel", "isRecord", "(III)Z"⟩, 28), (⟨"SettingsVaultModel", "isSetting", "(I)Z"⟩, 28), (⟨"SettingsVaultModel", "isValue", "(II)Z"⟩, 28), (⟨"SettingsVaultModel", "makeSet", "(II)V"⟩, 28), (⟨"SettingsVaultModel", "layThen", "()V"⟩, 28), (⟨"SettingsVaultModel", "fill", "(I)V"⟩, 28), (⟨"SettingsVaultModel", "erase", "(I)V"⟩, 28), (⟨"SettingsVaultModel", "writeRecord", "(IIIII)V"⟩, 28), (⟨"SettingsVaultModel", "write", "(III)V"⟩, 28), (⟨"SettingsVaultModel", "writeHead", "(III)V"⟩, 28), (⟨"SettingsVaultModel", "isIdle", "()Z"⟩, 28)]
theorem lw_r3 : ∀ q ∈ lw_privs_3, lw_okq q := List.forall_mem_cons.mpr ⟨lw_p32, List.forall_mem_cons.mpr ⟨lw_p33, List.forall_mem_cons.mpr ⟨lw_p34, List.forall_mem_cons.mpr ⟨lw_p35, List.forall_mem_cons.mpr ⟨lw_p36, List.forall_mem_cons.mpr ⟨lw_p37, List.forall_mem_cons.mpr ⟨lw_p38, List.forall_mem_cons.mpr ⟨lw_p39, List.forall_mem_cons.mpr ⟨lw_p40, List.forall_mem_cons.mpr ⟨lw_p41, List.forall_mem_cons.mpr ⟨lw_p42, List.forall_mem_cons.mpr ⟨lw_p43, List.forall_mem_cons.mpr ⟨lw_p44, List.forall_mem_cons.mpr ⟨lw_p45, List.forall_mem_cons.mpr ⟨lw_p46, List.forall_mem_cons.mpr ⟨lw_p47, fun _ h => absurd h List.not_mem_nil⟩⟩⟩⟩⟩⟩⟩⟩⟩⟩⟩⟩⟩⟩⟩⟩
theorem lw_p48 : lw_okq (⟨"SettingsVaultModel", "migrateTo", "(I)V"⟩, 28) := ⟨⟨by decide +kernel, by decide +kernel⟩, List.mem_of_getElem? (i := 673) (by decide +kernel), List.mem_of_getElem? (i := 923) (by decide +kernel), List.mem_of_getElem? (i := 924) (by decide +kernel)⟩
theorem lw_p49 : lw_okq (⟨"SettingsVaultModel", "doToValues", "(I)V"⟩, 28) := ⟨⟨by decide +kernel, by decide +kernel⟩, List.mem_of_getElem? (i := 673) (by decide +kernel), List.mem_of_getElem? (i := 927) (by decide +kernel), List.mem_of_getElem? (i := 928) (by decide +kernel)⟩
theorem lw_p50 : lw_okq (⟨"SettingsVaultModel", "recordsOf", "(IZ)I"⟩, 28) := ⟨⟨by decide +kernel, by decide +kernel⟩, List.mem_of_getElem? (i := 673) (by decide +kernel), List.mem_of_getElem? (i := 950) (by decide +kernel), List.mem_of_getElem? (i := 951) (by decide +kernel)⟩
theorem lw_p51 : lw_okq (⟨"SettingsVaultModel", "cellsOf", "(I)I"⟩, 28) := ⟨⟨by decide +kernel, by decide +kernel⟩, List.mem_of_getElem? (i := 673) (by decide +kernel), List.mem_of_getElem? (i := 954) (by decide +kernel), List.mem_of_getElem? (i := 955) (by decide +kernel)⟩
theorem lw_p52 : lw_okq (⟨"SettingsVaultModel", "settings", "(Z)I"⟩, 28) := ⟨⟨by decide +kernel, by decide +kernel⟩, List.mem_of_getElem? (i := 673) (by decide +kernel), List.mem_of_getElem? (i := 962) (by decide +kernel), List.mem_of_getElem? (i := 963) (by decide +kernel)⟩
def lw_privs_4 : List (MethodName × Nat) := [(⟨"SettingsVaultModel", "migrateTo", "(I)V"⟩, 28), (⟨"SettingsVaultModel", "doToValues", "(I)V"⟩, 28), (⟨"SettingsVaultModel", "recordsOf", "(IZ)I"⟩, 28), (⟨"SettingsVaultModel", "cellsOf", "(I)I"⟩, 28), (⟨"SettingsVaultModel", "settings", "(Z)I"⟩, 28)]
theorem lw_r4 : ∀ q ∈ lw_privs_4, lw_okq q := List.forall_mem_cons.mpr ⟨lw_p48, List.forall_mem_cons.mpr ⟨lw_p49, List.forall_mem_cons.mpr ⟨lw_p50, List.forall_mem_cons.mpr ⟨lw_p51, List.forall_mem_cons.mpr ⟨lw_p52, fun _ h => absurd h List.not_mem_nil⟩⟩⟩⟩⟩
def lw_privs : List (MethodName × Nat) := lw_privs_1 ++ (lw_privs_2 ++ (lw_privs_3 ++ (lw_privs_4)))
def lw_tbl : List Cond := k2_sels lw_privs ++ tables_1
theorem lw_privs_ok : ∀ q ∈ lw_privs, lw_okq q := by
  show ∀ q ∈ lw_privs_1 ++ (lw_privs_2 ++ (lw_privs_3 ++ (lw_privs_4))), lw_okq q
  exact List.forall_mem_append.mpr ⟨lw_r1, List.forall_mem_append.mpr ⟨lw_r2, List.forall_mem_append.mpr ⟨lw_r3, lw_r4⟩⟩⟩
end
section
def RX0 : String := "SettingsVault$Device"
def TX0 : u_T := fun k => match k with
  | 0 => ("SettingsVault$Device", "layouts", "LSettingsVault$Layouts;", true)
  | 1 => ("SettingsVault$Device", "first", "LSettingsVault$Page;", true)
  | 2 => ("SettingsVault$Device", "second", "LSettingsVault$Page;", true)
  | 3 => ("SettingsVault$Device", "powered", "Z", false)
  | 4 => ("SettingsVault$Device", "writesLeft", "I", false)
  | 5 => ("SettingsVault$Device", "active", "I", false)
  | 6 => ("SettingsVault$Device", "version", "I", false)
  | 7 => ("SettingsVault$Device", "sequence", "I", false)
  | 8 => ("SettingsVault$Device", "next", "I", false)
  | 9 => ("SettingsVault$Device", "badRecords", "I", false)
  | 10 => ("SettingsVault$Device", "values", "[I", true)
  | 11 => ("SettingsVault$Device", "places", "[I", true)
  | 12 => ("SettingsVault$Device", "newValues", "[I", true)
  | _ => ("SettingsVault$Device", "newPlaces", "[I", true)
def tyX0 : Nat → FieldType := fun k => match k with
  | 0 => .object "SettingsVault$Layouts"
  | 1 => .object "SettingsVault$Page"
  | 2 => .object "SettingsVault$Page"
  | 3 => .boolean
  | 4 => .int
  | 5 => .int
  | 6 => .int
  | 7 => .int
  | 8 => .int
  | 9 => .int
  | 10 => .array .int
  | 11 => .array .int
  | 12 => .array .int
  | _ => .array .int
theorem nmX0 : ∀ a, a < 14 → ∀ b, b < 14 → a ≠ b → (TX0 a).2.1 ≠ (TX0 b).2.1 := by decide +kernel
theorem tyX0_ok : ∀ k, k < 14 → parseFieldDescriptor (TX0 k).2.2.1 = some (tyX0 k) := by decide +kernel
abbrev cX0_init : ByteArray := prog_2_method_1_code
def yX0_init : MethodName := ⟨RX0, "<init>", "(LSettingsVault$Layouts;)V"⟩
abbrev cX0_copyFrom : ByteArray := prog_2_method_2_code
def yX0_copyFrom : MethodName := ⟨RX0, "copyFrom", "(LSettingsVault$Device;)V"⟩
abbrev cX0_isPowered : ByteArray := prog_2_method_3_code
def yX0_isPowered : MethodName := ⟨RX0, "isPowered", "()Z"⟩
abbrev cX0_isReady : ByteArray := prog_2_method_4_code
def yX0_isReady : MethodName := ⟨RX0, "isReady", "()Z"⟩
abbrev cX0_writesLeft : ByteArray := prog_2_method_5_code
def yX0_writesLeft : MethodName := ⟨RX0, "writesLeft", "()I"⟩
abbrev cX0_active : ByteArray := prog_2_method_6_code
def yX0_active : MethodName := ⟨RX0, "active", "()I"⟩
abbrev cX0_version : ByteArray := prog_2_method_7_code
def yX0_version : MethodName := ⟨RX0, "version", "()I"⟩
abbrev cX0_sequence : ByteArray := prog_2_method_8_code
def yX0_sequence : MethodName := ⟨RX0, "sequence", "()I"⟩
abbrev cX0_badRecords : ByteArray := prog_2_method_9_code
def yX0_badRecords : MethodName := ⟨RX0, "badRecords", "()I"⟩
abbrev cX0_pageOf : ByteArray := prog_2_method_10_code
def yX0_pageOf : MethodName := ⟨RX0, "pageOf", "(I)LSettingsVault$Page;"⟩
abbrev cX0_presentLayout : ByteArray := prog_2_method_11_code
def yX0_presentLayout : MethodName := ⟨RX0, "presentLayout", "()LSettingsVault$Layout;"⟩
abbrev cX0_valueOf : ByteArray := prog_2_method_12_code
def yX0_valueOf : MethodName := ⟨RX0, "valueOf", "(I)I"⟩
abbrev cX0_placeOf : ByteArray := prog_2_method_13_code
def yX0_placeOf : MethodName := ⟨RX0, "placeOf", "(I)I"⟩
abbrev cX0_countRoom : ByteArray := prog_2_method_14_code
def yX0_countRoom : MethodName := ⟨RX0, "countRoom", "()I"⟩
abbrev cX0_countSettings : ByteArray := prog_2_method_15_code
def yX0_countSettings : MethodName := ⟨RX0, "countSettings", "()I"⟩
abbrev cX0_countChangedSettings : ByteArray := prog_2_method_16_code
def yX0_countChangedSettings : MethodName := ⟨RX0, "countChangedSettings", "()I"⟩
abbrev cX0_failBehind : ByteArray := prog_2_method_17_code
def yX0_failBehind : MethodName := ⟨RX0, "failBehind", "(I)V"⟩
abbrev cX0_restart : ByteArray := prog_2_method_18_code
def yX0_restart : MethodName := ⟨RX0, "restart", "()V"⟩
abbrev cX0_findActive : ByteArray := prog_2_method_19_code
def yX0_findActive : MethodName := ⟨RX0, "findActive", "()I"⟩
abbrev cX0_takeDefaults : ByteArray := prog_2_method_20_code
def yX0_takeDefaults : MethodName := ⟨RX0, "takeDefaults", "()V"⟩
abbrev cX0_readRecords : ByteArray := prog_2_method_21_code
def yX0_readRecords : MethodName := ⟨RX0, "readRecords", "(LSettingsVault$Page;)V"⟩
abbrev cX0_change : ByteArray := prog_2_method_22_code
def yX0_change : MethodName := ⟨RX0, "change", "(II)I"⟩
abbrev cX0_moveTo : ByteArray := prog_2_method_23_code
def yX0_moveTo : MethodName := ⟨RX0, "moveTo", "(I)I"⟩
abbrev cX0_migratedValueOf : ByteArray := prog_2_method_24_code
def yX0_migratedValueOf : MethodName := ⟨RX0, "migratedValueOf", "(II)I"⟩
abbrev cX0_migrateValues : ByteArray := prog_2_method_25_code
def yX0_migrateValues : MethodName := ⟨RX0, "migrateValues", "(I)V"⟩
abbrev cX0_reset : ByteArray := prog_2_method_26_code
def yX0_reset : MethodName := ⟨RX0, "reset", "(I)I"⟩
abbrev cX0_fillOther : ByteArray := prog_2_method_27_code
def yX0_fillOther : MethodName := ⟨RX0, "fillOther", "(I)I"⟩
abbrev cX0_writeRecord : ByteArray := prog_2_method_28_code
def yX0_writeRecord : MethodName := ⟨RX0, "writeRecord", "(LSettingsVault$Page;IIII)I"⟩
abbrev cX0_writeHead : ByteArray := prog_2_method_29_code
def yX0_writeHead : MethodName := ⟨RX0, "writeHead", "(LSettingsVault$Page;II)I"⟩
abbrev cX0_writeThree : ByteArray := prog_2_method_30_code
def yX0_writeThree : MethodName := ⟨RX0, "writeThree", "(LSettingsVault$Page;IIII)I"⟩
abbrev cX0_writeCell : ByteArray := prog_2_method_31_code
def yX0_writeCell : MethodName := ⟨RX0, "writeCell", "(LSettingsVault$Page;II)I"⟩
def RX1 : String := "SettingsVault$Layout"
def TX1 : u_T := fun k => match k with
  | 0 => ("SettingsVault$Layout", "there", "[Z", true)
  | 1 => ("SettingsVault$Layout", "greatest", "[I", true)
  | 2 => ("SettingsVault$Layout", "defaults", "[I", true)
  | 3 => ("SettingsVault$Layout", "before", "[I", true)
  | _ => ("SettingsVault$Layout", "steps", "LSettingsVault$Steps;", true)
def tyX1 : Nat → FieldType := fun k => match k with
  | 0 => .array .boolean
  | 1 => .array .int
  | 2 => .array .int
  | 3 => .array .int
  | _ => .object "SettingsVault$Steps"
theorem nmX1 : ∀ a, a < 5 → ∀ b, b < 5 → a ≠ b → (TX1 a).2.1 ≠ (TX1 b).2.1 := by decide +kernel
theorem tyX1_ok : ∀ k, k < 5 → parseFieldDescriptor (TX1 k).2.2.1 = some (tyX1 k) := by decide +kernel
abbrev cX1_init : ByteArray := prog_3_method_1_code
def yX1_init : MethodName := ⟨RX1, "<init>", "()V"⟩
abbrev cX1_has : ByteArray := prog_3_method_2_code
def yX1_has : MethodName := ⟨RX1, "has", "(I)Z"⟩
abbrev cX1_greatestOf : ByteArray := prog_3_method_3_code
def yX1_greatestOf : MethodName := ⟨RX1, "greatestOf", "(I)I"⟩
abbrev cX1_defaultOf : ByteArray := prog_3_method_4_code
def yX1_defaultOf : MethodName := ⟨RX1, "defaultOf", "(I)I"⟩
abbrev cX1_nameBefore : ByteArray := prog_3_method_5_code
def yX1_nameBefore : MethodName := ⟨RX1, "nameBefore", "(I)I"⟩
abbrev cX1_takes : ByteArray := prog_3_method_6_code
def yX1_takes : MethodName := ⟨RX1, "takes", "(II)Z"⟩
abbrev cX1_makeFrom : ByteArray := prog_3_method_7_code
def yX1_makeFrom : MethodName := ⟨RX1, "makeFrom", "(LSettingsVault$Layout;LSettingsVault$Steps;)Z"⟩
abbrev cX1_addSetting : ByteArray := prog_3_method_8_code
def yX1_addSetting : MethodName := ⟨RX1, "addSetting", "(III)Z"⟩
abbrev cX1_dropSetting : ByteArray := prog_3_method_9_code
def yX1_dropSetting : MethodName := ⟨RX1, "dropSetting", "(I)Z"⟩
abbrev cX1_renameSetting : ByteArray := prog_3_method_10_code
def yX1_renameSetting : MethodName := ⟨RX1, "renameSetting", "(II)Z"⟩
abbrev cX1_scaleSetting : ByteArray := prog_3_method_11_code
def yX1_scaleSetting : MethodName := ⟨RX1, "scaleSetting", "(III)Z"⟩
abbrev cX1_carryOver : ByteArray := prog_3_method_12_code
def yX1_carryOver : MethodName := ⟨RX1, "carryOver", "([I)V"⟩
def RX2 : String := "SettingsVault$Layouts"
def TX2 : u_T := fun k => match k with
  | 0 => ("SettingsVault$Layouts", "empty", "LSettingsVault$Layout;", true)
  | 1 => ("SettingsVault$Layouts", "versions", "[LSettingsVault$Layout;", true)
  | _ => ("SettingsVault$Layouts", "count", "I", false)
def tyX2 : Nat → FieldType := fun k => match k with
  | 0 => .object "SettingsVault$Layout"
  | 1 => .array (.object "SettingsVault$Layout")
  | _ => .int
theorem nmX2 : ∀ a, a < 3 → ∀ b, b < 3 → a ≠ b → (TX2 a).2.1 ≠ (TX2 b).2.1 := by decide +kernel
theorem tyX2_ok : ∀ k, k < 3 → parseFieldDescriptor (TX2 k).2.2.1 = some (tyX2 k) := by decide +kernel
abbrev cX2_init : ByteArray := prog_4_method_1_code
def yX2_init : MethodName := ⟨RX2, "<init>", "()V"⟩
abbrev cX2_count : ByteArray := prog_4_method_2_code
def yX2_count : MethodName := ⟨RX2, "count", "()I"⟩
abbrev cX2_has : ByteArray := prog_4_method_3_code
def yX2_has : MethodName := ⟨RX2, "has", "(I)Z"⟩
abbrev cX2_of : ByteArray := prog_4_method_4_code
def yX2_of : MethodName := ⟨RX2, "of", "(I)LSettingsVault$Layout;"⟩
abbrev cX2_extend : ByteArray := prog_4_method_5_code
def yX2_extend : MethodName := ⟨RX2, "extend", "(LSettingsVault$Steps;)Z"⟩
abbrev cX2_carryOver : ByteArray := prog_4_method_6_code
def yX2_carryOver : MethodName := ⟨RX2, "carryOver", "([III)V"⟩
def RX3 : String := "SettingsVault$Pad"
def TX3 : u_T := fun k => match k with
  | 0 => ("SettingsVault$Pad", "signs", "[C", true)
  | 1 => ("SettingsVault$Pad", "steps", "LSettingsVault$Steps;", true)
  | 2 => ("SettingsVault$Pad", "length", "I", false)
  | _ => ("SettingsVault$Pad", "at", "I", false)
def tyX3 : Nat → FieldType := fun k => match k with
  | 0 => .array .char
  | 1 => .object "SettingsVault$Steps"
  | 2 => .int
  | _ => .int
theorem nmX3 : ∀ a, a < 4 → ∀ b, b < 4 → a ≠ b → (TX3 a).2.1 ≠ (TX3 b).2.1 := by decide +kernel
theorem tyX3_ok : ∀ k, k < 4 → parseFieldDescriptor (TX3 k).2.2.1 = some (tyX3 k) := by decide +kernel
abbrev cX3_init : ByteArray := prog_5_method_1_code
def yX3_init : MethodName := ⟨RX3, "<init>", "()V"⟩
abbrev cX3_length : ByteArray := prog_5_method_2_code
def yX3_length : MethodName := ⟨RX3, "length", "()I"⟩
abbrev cX3_steps : ByteArray := prog_5_method_3_code
def yX3_steps : MethodName := ⟨RX3, "steps", "()LSettingsVault$Steps;"⟩
abbrev cX3_clear : ByteArray := prog_5_method_4_code
def yX3_clear : MethodName := ⟨RX3, "clear", "()V"⟩
abbrev cX3_append : ByteArray := prog_5_method_5_code
def yX3_append : MethodName := ⟨RX3, "append", "(J)I"⟩
abbrev cX3_countCharacters : ByteArray := prog_5_method_6_code
def yX3_countCharacters : MethodName := ⟨RX3, "countCharacters", "(J)I"⟩
abbrev cX3_read : ByteArray := prog_5_method_7_code
def yX3_read : MethodName := ⟨RX3, "read", "()I"⟩
abbrev cX3_readStep : ByteArray := prog_5_method_8_code
def yX3_readStep : MethodName := ⟨RX3, "readStep", "()Z"⟩
abbrev cX3_readAdding : ByteArray := prog_5_method_9_code
def yX3_readAdding : MethodName := ⟨RX3, "readAdding", "()Z"⟩
abbrev cX3_readNewName : ByteArray := prog_5_method_10_code
def yX3_readNewName : MethodName := ⟨RX3, "readNewName", "(II)Z"⟩
abbrev cX3_readFactor : ByteArray := prog_5_method_11_code
def yX3_readFactor : MethodName := ⟨RX3, "readFactor", "(II)Z"⟩
abbrev cX3_readLimit : ByteArray := prog_5_method_12_code
def yX3_readLimit : MethodName := ⟨RX3, "readLimit", "(I)Z"⟩
abbrev cX3_readNumber : ByteArray := prog_5_method_13_code
def yX3_readNumber : MethodName := ⟨RX3, "readNumber", "()I"⟩
abbrev cX3_readName : ByteArray := prog_5_method_14_code
def yX3_readName : MethodName := ⟨RX3, "readName", "()I"⟩
abbrev cX3_readDigit : ByteArray := prog_5_method_15_code
def yX3_readDigit : MethodName := ⟨RX3, "readDigit", "(II)I"⟩
abbrev cX3_readSign : ByteArray := prog_5_method_16_code
def yX3_readSign : MethodName := ⟨RX3, "readSign", "(C)Z"⟩
abbrev cX3_readOffset : ByteArray := prog_5_method_17_code
def yX3_readOffset : MethodName := ⟨RX3, "readOffset", "(CII)I"⟩
def RX4 : String := "SettingsVault$Page"
def TX4 : u_T := fun k => match k with
  | 0 => ("SettingsVault$Page", "cells", "[I", true)
  | 1 => ("SettingsVault$Page", "writes", "I", false)
  | _ => ("SettingsVault$Page", "erasures", "I", false)
def tyX4 : Nat → FieldType := fun k => match k with
  | 0 => .array .int
  | 1 => .int
  | _ => .int
theorem nmX4 : ∀ a, a < 3 → ∀ b, b < 3 → a ≠ b → (TX4 a).2.1 ≠ (TX4 b).2.1 := by decide +kernel
theorem tyX4_ok : ∀ k, k < 3 → parseFieldDescriptor (TX4 k).2.2.1 = some (tyX4 k) := by decide +kernel
abbrev cX4_init : ByteArray := prog_6_method_1_code
def yX4_init : MethodName := ⟨RX4, "<init>", "()V"⟩
abbrev cX4_writes : ByteArray := prog_6_method_2_code
def yX4_writes : MethodName := ⟨RX4, "writes", "()I"⟩
abbrev cX4_erasures : ByteArray := prog_6_method_3_code
def yX4_erasures : MethodName := ⟨RX4, "erasures", "()I"⟩
abbrev cX4_copyFrom : ByteArray := prog_6_method_4_code
def yX4_copyFrom : MethodName := ⟨RX4, "copyFrom", "(LSettingsVault$Page;)V"⟩
abbrev cX4_erase : ByteArray := prog_6_method_5_code
def yX4_erase : MethodName := ⟨RX4, "erase", "()V"⟩
abbrev cX4_valueAt : ByteArray := prog_6_method_6_code
def yX4_valueAt : MethodName := ⟨RX4, "valueAt", "(I)I"⟩
abbrev cX4_replace : ByteArray := prog_6_method_7_code
def yX4_replace : MethodName := ⟨RX4, "replace", "(II)V"⟩
abbrev cX4_countWrite : ByteArray := prog_6_method_8_code
def yX4_countWrite : MethodName := ⟨RX4, "countWrite", "()V"⟩
abbrev cX4_countFilledCells : ByteArray := prog_6_method_9_code
def yX4_countFilledCells : MethodName := ⟨RX4, "countFilledCells", "()I"⟩
abbrev cX4_version : ByteArray := prog_6_method_10_code
def yX4_version : MethodName := ⟨RX4, "version", "()I"⟩
abbrev cX4_sequence : ByteArray := prog_6_method_11_code
def yX4_sequence : MethodName := ⟨RX4, "sequence", "()I"⟩
abbrev cX4_hasGoodHead : ByteArray := prog_6_method_12_code
def yX4_hasGoodHead : MethodName := ⟨RX4, "hasGoodHead", "(LSettingsVault$Layouts;)Z"⟩
abbrev cX4_hasRecordAt : ByteArray := prog_6_method_13_code
def yX4_hasRecordAt : MethodName := ⟨RX4, "hasRecordAt", "(I)Z"⟩
abbrev cX4_hasGoodRecordAt : ByteArray := prog_6_method_14_code
def yX4_hasGoodRecordAt : MethodName := ⟨RX4, "hasGoodRecordAt", "(ILSettingsVault$Layout;I)Z"⟩
abbrev cX4_nameAt : ByteArray := prog_6_method_15_code
def yX4_nameAt : MethodName := ⟨RX4, "nameAt", "(I)I"⟩
abbrev cX4_countRecords : ByteArray := prog_6_method_16_code
def yX4_countRecords : MethodName := ⟨RX4, "countRecords", "(LSettingsVault$Layouts;Z)I"⟩
abbrev cX4_hasThreeAt : ByteArray := prog_6_method_17_code
def yX4_hasThreeAt : MethodName := ⟨RX4, "hasThreeAt", "(I)Z"⟩
abbrev cX4_headCheck : ByteArray := prog_6_method_18_code
def yX4_headCheck : MethodName := ⟨RX4, "headCheck", "(II)I"⟩
abbrev cX4_recordCheck : ByteArray := prog_6_method_19_code
def yX4_recordCheck : MethodName := ⟨RX4, "recordCheck", "(III)I"⟩
def RX5 : String := "SettingsVault$Steps"
def TX5 : u_T := fun k => match k with
  | 0 => ("SettingsVault$Steps", "kinds", "[I", true)
  | 1 => ("SettingsVault$Steps", "names", "[I", true)
  | 2 => ("SettingsVault$Steps", "numbers", "[I", true)
  | 3 => ("SettingsVault$Steps", "defaults", "[I", true)
  | _ => ("SettingsVault$Steps", "count", "I", false)
def tyX5 : Nat → FieldType := fun k => match k with
  | 0 => .array .int
  | 1 => .array .int
  | 2 => .array .int
  | 3 => .array .int
  | _ => .int
theorem nmX5 : ∀ a, a < 5 → ∀ b, b < 5 → a ≠ b → (TX5 a).2.1 ≠ (TX5 b).2.1 := by decide +kernel
theorem tyX5_ok : ∀ k, k < 5 → parseFieldDescriptor (TX5 k).2.2.1 = some (tyX5 k) := by decide +kernel
abbrev cX5_init : ByteArray := prog_7_method_1_code
def yX5_init : MethodName := ⟨RX5, "<init>", "()V"⟩
abbrev cX5_clear : ByteArray := prog_7_method_2_code
def yX5_clear : MethodName := ⟨RX5, "clear", "()V"⟩
abbrev cX5_append : ByteArray := prog_7_method_3_code
def yX5_append : MethodName := ⟨RX5, "append", "(IIII)V"⟩
abbrev cX5_copyFrom : ByteArray := prog_7_method_4_code
def yX5_copyFrom : MethodName := ⟨RX5, "copyFrom", "(LSettingsVault$Steps;)V"⟩
abbrev cX5_applyTo : ByteArray := prog_7_method_5_code
def yX5_applyTo : MethodName := ⟨RX5, "applyTo", "(LSettingsVault$Layout;)Z"⟩
abbrev cX5_applyStep : ByteArray := prog_7_method_6_code
def yX5_applyStep : MethodName := ⟨RX5, "applyStep", "(LSettingsVault$Layout;IIII)Z"⟩
abbrev cX5_carryOver : ByteArray := prog_7_method_7_code
def yX5_carryOver : MethodName := ⟨RX5, "carryOver", "([I)V"⟩
abbrev cX5_scaled : ByteArray := prog_7_method_8_code
def yX5_scaled : MethodName := ⟨RX5, "scaled", "(III)I"⟩
def RX6 : String := "SettingsVault"
def TX6 : u_T := fun k => match k with
  | 0 => ("SettingsVault", "pad", "LSettingsVault$Pad;", true)
  | 1 => ("SettingsVault", "layouts", "LSettingsVault$Layouts;", true)
  | 2 => ("SettingsVault", "device", "LSettingsVault$Device;", true)
  | 3 => ("SettingsVault", "trial", "LSettingsVault$Device;", true)
  | 4 => ("SettingsVault", "images", "[LSettingsVault$Device;", true)
  | _ => ("SettingsVault", "kept", "[Z", true)
def tyX6 : Nat → FieldType := fun k => match k with
  | 0 => .object "SettingsVault$Pad"
  | 1 => .object "SettingsVault$Layouts"
  | 2 => .object "SettingsVault$Device"
  | 3 => .object "SettingsVault$Device"
  | 4 => .array (.object "SettingsVault$Device")
  | _ => .array .boolean
theorem nmX6 : ∀ a, a < 6 → ∀ b, b < 6 → a ≠ b → (TX6 a).2.1 ≠ (TX6 b).2.1 := by decide +kernel
theorem tyX6_ok : ∀ k, k < 6 → parseFieldDescriptor (TX6 k).2.2.1 = some (tyX6 k) := by decide +kernel
abbrev cX6_init : ByteArray := prog_1_method_1_code
def yX6_init : MethodName := ⟨RX6, "<init>", "()V"⟩
abbrev cX6_define : ByteArray := prog_1_method_2_code
def yX6_define : MethodName := ⟨RX6, "define", "()I"⟩
abbrev cX6_layout : ByteArray := prog_1_method_3_code
def yX6_layout : MethodName := ⟨RX6, "layout", "(III)I"⟩
abbrev cX6_fail : ByteArray := prog_1_method_4_code
def yX6_fail : MethodName := ⟨RX6, "fail", "(I)I"⟩
abbrev cX6_start : ByteArray := prog_1_method_5_code
def yX6_start : MethodName := ⟨RX6, "start", "()I"⟩
abbrev cX6_get : ByteArray := prog_1_method_6_code
def yX6_get : MethodName := ⟨RX6, "get", "(I)I"⟩
abbrev cX6_set : ByteArray := prog_1_method_7_code
def yX6_set : MethodName := ⟨RX6, "set", "(II)I"⟩
abbrev cX6_compact : ByteArray := prog_1_method_8_code
def yX6_compact : MethodName := ⟨RX6, "compact", "()I"⟩
abbrev cX6_migrate : ByteArray := prog_1_method_9_code
def yX6_migrate : MethodName := ⟨RX6, "migrate", "(I)I"⟩
abbrev cX6_factory : ByteArray := prog_1_method_10_code
def yX6_factory : MethodName := ⟨RX6, "factory", "(I)I"⟩
abbrev cX6_cell : ByteArray := prog_1_method_11_code
def yX6_cell : MethodName := ⟨RX6, "cell", "(II)I"⟩
abbrev cX6_spoil : ByteArray := prog_1_method_12_code
def yX6_spoil : MethodName := ⟨RX6, "spoil", "(III)I"⟩
abbrev cX6_page : ByteArray := prog_1_method_13_code
def yX6_page : MethodName := ⟨RX6, "page", "(II)I"⟩
abbrev cX6_state : ByteArray := prog_1_method_14_code
def yX6_state : MethodName := ⟨RX6, "state", "(I)I"⟩
abbrev cX6_record : ByteArray := prog_1_method_15_code
def yX6_record : MethodName := ⟨RX6, "record", "(I)I"⟩
abbrev cX6_ifMigrated : ByteArray := prog_1_method_16_code
def yX6_ifMigrated : MethodName := ⟨RX6, "ifMigrated", "(II)I"⟩
abbrev cX6_ifFailed : ByteArray := prog_1_method_17_code
def yX6_ifFailed : MethodName := ⟨RX6, "ifFailed", "(IIII)I"⟩
abbrev cX6_put : ByteArray := prog_1_method_18_code
def yX6_put : MethodName := ⟨RX6, "put", "(J)I"⟩
abbrev cX6_wipe : ByteArray := prog_1_method_19_code
def yX6_wipe : MethodName := ⟨RX6, "wipe", "()I"⟩
abbrev cX6_fault : ByteArray := prog_1_method_20_code
def yX6_fault : MethodName := ⟨RX6, "fault", "()I"⟩
abbrev cX6_keep : ByteArray := prog_1_method_21_code
def yX6_keep : MethodName := ⟨RX6, "keep", "(I)I"⟩
abbrev cX6_back : ByteArray := prog_1_method_22_code
def yX6_back : MethodName := ⟨RX6, "back", "(I)I"⟩
abbrev cX6_isPage : ByteArray := prog_1_method_23_code
def yX6_isPage : MethodName := ⟨RX6, "isPage", "(I)Z"⟩
abbrev cX6_isCell : ByteArray := prog_1_method_24_code
def yX6_isCell : MethodName := ⟨RX6, "isCell", "(II)Z"⟩
abbrev cX6_isImage : ByteArray := prog_1_method_25_code
def yX6_isImage : MethodName := ⟨RX6, "isImage", "(I)Z"⟩
abbrev cX6_isCountOfWrites : ByteArray := prog_1_method_26_code
def yX6_isCountOfWrites : MethodName := ⟨RX6, "isCountOfWrites", "(I)Z"⟩
abbrev cX6_isName : ByteArray := prog_1_method_27_code
def yX6_isName : MethodName := ⟨RX6, "isName", "(I)Z"⟩
def RX7 : String := "SettingsVaultModel"
def TX7 : u_T := fun k => match k with
  | 0 => ("SettingsVaultModel", "at", "[I", true)
  | 1 => ("SettingsVaultModel", "aside", "[I", true)
  | 2 => ("SettingsVaultModel", "images", "[I", true)
  | 3 => ("SettingsVaultModel", "isKept", "[Z", true)
  | 4 => ("SettingsVaultModel", "pad", "[I", true)
  | 5 => ("SettingsVaultModel", "padMany", "I", false)
  | 6 => ("SettingsVaultModel", "versions", "I", false)
  | 7 => ("SettingsVaultModel", "isThere", "[Z", true)
  | 8 => ("SettingsVaultModel", "greatest", "[I", true)
  | 9 => ("SettingsVaultModel", "usual", "[I", true)
  | 10 => ("SettingsVaultModel", "before", "[I", true)
  | 11 => ("SettingsVaultModel", "stepMany", "[I", true)
  | 12 => ("SettingsVaultModel", "stepKind", "[I", true)
  | 13 => ("SettingsVaultModel", "stepName", "[I", true)
  | 14 => ("SettingsVaultModel", "stepA", "[I", true)
  | 15 => ("SettingsVaultModel", "stepB", "[I", true)
  | 16 => ("SettingsVaultModel", "written", "I", false)
  | 17 => ("SettingsVaultModel", "goodMany", "I", false)
  | 18 => ("SettingsVaultModel", "badMany", "I", false)
  | 19 => ("SettingsVaultModel", "stopped", "I", false)
  | 20 => ("SettingsVaultModel", "then", "[I", true)
  | 21 => ("SettingsVaultModel", "recordOf", "[I", true)
  | 22 => ("SettingsVaultModel", "spot", "I", false)
  | 23 => ("SettingsVaultModel", "isWrong", "Z", false)
  | 24 => ("SettingsVaultModel", "readKind", "I", false)
  | 25 => ("SettingsVaultModel", "readName", "I", false)
  | 26 => ("SettingsVaultModel", "readA", "I", false)
  | _ => ("SettingsVaultModel", "readB", "I", false)
def tyX7 : Nat → FieldType := fun k => match k with
  | 0 => .array .int
  | 1 => .array .int
  | 2 => .array .int
  | 3 => .array .boolean
  | 4 => .array .int
  | 5 => .int
  | 6 => .int
  | 7 => .array .boolean
  | 8 => .array .int
  | 9 => .array .int
  | 10 => .array .int
  | 11 => .array .int
  | 12 => .array .int
  | 13 => .array .int
  | 14 => .array .int
  | 15 => .array .int
  | 16 => .int
  | 17 => .int
  | 18 => .int
  | 19 => .int
  | 20 => .array .int
  | 21 => .array .int
  | 22 => .int
  | 23 => .boolean
  | 24 => .int
  | 25 => .int
  | 26 => .int
  | _ => .int
theorem nmX7 : ∀ a, a < 28 → ∀ b, b < 28 → a ≠ b → (TX7 a).2.1 ≠ (TX7 b).2.1 := by decide +kernel
theorem tyX7_ok : ∀ k, k < 28 → parseFieldDescriptor (TX7 k).2.2.1 = some (tyX7 k) := by decide +kernel
abbrev cX7_init : ByteArray := prog_9_method_1_code
def yX7_init : MethodName := ⟨RX7, "<init>", "()V"⟩
abbrev cX7_in : ByteArray := prog_9_method_3_code
def yX7_in : MethodName := ⟨RX7, "in", "(III)Z"⟩
abbrev cX7_less : ByteArray := prog_9_method_4_code
def yX7_less : MethodName := ⟨RX7, "less", "(II)I"⟩
abbrev cX7_isVersion : ByteArray := prog_9_method_5_code
def yX7_isVersion : MethodName := ⟨RX7, "isVersion", "(I)Z"⟩
abbrev cX7_hasSetting : ByteArray := prog_9_method_6_code
def yX7_hasSetting : MethodName := ⟨RX7, "hasSetting", "(II)Z"⟩
abbrev cX7_changed : ByteArray := prog_9_method_7_code
def yX7_changed : MethodName := ⟨RX7, "changed", "(III)I"⟩
abbrev cX7_canDo : ByteArray := prog_9_method_8_code
def yX7_canDo : MethodName := ⟨RX7, "canDo", "(II)Z"⟩
abbrev cX7_doTo : ByteArray := prog_9_method_9_code
def yX7_doTo : MethodName := ⟨RX7, "doTo", "(II)V"⟩
abbrev cX7_copyLayout : ByteArray := prog_9_method_10_code
def yX7_copyLayout : MethodName := ⟨RX7, "copyLayout", "(I)V"⟩
abbrev cX7_define : ByteArray := prog_9_method_11_code
def yX7_define : MethodName := ⟨RX7, "define", "()I"⟩
abbrev cX7_layout : ByteArray := prog_9_method_12_code
def yX7_layout : MethodName := ⟨RX7, "layout", "(III)I"⟩
abbrev cX7_cellOf : ByteArray := prog_9_method_13_code
def yX7_cellOf : MethodName := ⟨RX7, "cellOf", "(II)I"⟩
abbrev cX7_write : ByteArray := prog_9_method_14_code
def yX7_write : MethodName := ⟨RX7, "write", "(III)V"⟩
abbrev cX7_erase : ByteArray := prog_9_method_15_code
def yX7_erase : MethodName := ⟨RX7, "erase", "(I)V"⟩
abbrev cX7_checkOfHead : ByteArray := prog_9_method_16_code
def yX7_checkOfHead : MethodName := ⟨RX7, "checkOfHead", "(II)I"⟩
abbrev cX7_checkOfRecord : ByteArray := prog_9_method_17_code
def yX7_checkOfRecord : MethodName := ⟨RX7, "checkOfRecord", "(III)I"⟩
abbrev cX7_writeRecord : ByteArray := prog_9_method_18_code
def yX7_writeRecord : MethodName := ⟨RX7, "writeRecord", "(IIIII)V"⟩
abbrev cX7_writeHead : ByteArray := prog_9_method_19_code
def yX7_writeHead : MethodName := ⟨RX7, "writeHead", "(III)V"⟩
abbrev cX7_fail : ByteArray := prog_9_method_20_code
def yX7_fail : MethodName := ⟨RX7, "fail", "(I)I"⟩
abbrev cX7_isHead : ByteArray := prog_9_method_21_code
def yX7_isHead : MethodName := ⟨RX7, "isHead", "(I)Z"⟩
abbrev cX7_isRecord : ByteArray := prog_9_method_22_code
def yX7_isRecord : MethodName := ⟨RX7, "isRecord", "(III)Z"⟩
abbrev cX7_goThrough : ByteArray := prog_9_method_23_code
def yX7_goThrough : MethodName := ⟨RX7, "goThrough", "(IIZ)V"⟩
abbrev cX7_layUsual : ByteArray := prog_9_method_24_code
def yX7_layUsual : MethodName := ⟨RX7, "layUsual", "(I)V"⟩
abbrev cX7_activeByHeads : ByteArray := prog_9_method_25_code
def yX7_activeByHeads : MethodName := ⟨RX7, "activeByHeads", "()I"⟩
abbrev cX7_start : ByteArray := prog_9_method_26_code
def yX7_start : MethodName := ⟨RX7, "start", "()I"⟩
abbrev cX7_isSetting : ByteArray := prog_9_method_27_code
def yX7_isSetting : MethodName := ⟨RX7, "isSetting", "(I)Z"⟩
abbrev cX7_get : ByteArray := prog_9_method_28_code
def yX7_get : MethodName := ⟨RX7, "get", "(I)I"⟩
abbrev cX7_layThen : ByteArray := prog_9_method_29_code
def yX7_layThen : MethodName := ⟨RX7, "layThen", "()V"⟩
abbrev cX7_fill : ByteArray := prog_9_method_30_code
def yX7_fill : MethodName := ⟨RX7, "fill", "(I)V"⟩
abbrev cX7_makeSet : ByteArray := prog_9_method_31_code
def yX7_makeSet : MethodName := ⟨RX7, "makeSet", "(II)V"⟩
abbrev cX7_isValue : ByteArray := prog_9_method_32_code
def yX7_isValue : MethodName := ⟨RX7, "isValue", "(II)Z"⟩
abbrev cX7_set : ByteArray := prog_9_method_33_code
def yX7_set : MethodName := ⟨RX7, "set", "(II)I"⟩
abbrev cX7_isIdle : ByteArray := prog_9_method_34_code
def yX7_isIdle : MethodName := ⟨RX7, "isIdle", "()Z"⟩
abbrev cX7_compact : ByteArray := prog_9_method_35_code
def yX7_compact : MethodName := ⟨RX7, "compact", "()I"⟩
abbrev cX7_doToValues : ByteArray := prog_9_method_36_code
def yX7_doToValues : MethodName := ⟨RX7, "doToValues", "(I)V"⟩
abbrev cX7_migrateTo : ByteArray := prog_9_method_37_code
def yX7_migrateTo : MethodName := ⟨RX7, "migrateTo", "(I)V"⟩
abbrev cX7_migrate : ByteArray := prog_9_method_38_code
def yX7_migrate : MethodName := ⟨RX7, "migrate", "(I)I"⟩
abbrev cX7_factory : ByteArray := prog_9_method_39_code
def yX7_factory : MethodName := ⟨RX7, "factory", "(I)I"⟩
abbrev cX7_isCell : ByteArray := prog_9_method_40_code
def yX7_isCell : MethodName := ⟨RX7, "isCell", "(II)Z"⟩
abbrev cX7_cell : ByteArray := prog_9_method_41_code
def yX7_cell : MethodName := ⟨RX7, "cell", "(II)I"⟩
abbrev cX7_spoil : ByteArray := prog_9_method_42_code
def yX7_spoil : MethodName := ⟨RX7, "spoil", "(III)I"⟩
abbrev cX7_cellsOf : ByteArray := prog_9_method_43_code
def yX7_cellsOf : MethodName := ⟨RX7, "cellsOf", "(I)I"⟩
abbrev cX7_recordsOf : ByteArray := prog_9_method_44_code
def yX7_recordsOf : MethodName := ⟨RX7, "recordsOf", "(IZ)I"⟩
abbrev cX7_page : ByteArray := prog_9_method_45_code
def yX7_page : MethodName := ⟨RX7, "page", "(II)I"⟩
abbrev cX7_settings : ByteArray := prog_9_method_46_code
def yX7_settings : MethodName := ⟨RX7, "settings", "(Z)I"⟩
abbrev cX7_state : ByteArray := prog_9_method_47_code
def yX7_state : MethodName := ⟨RX7, "state", "(I)I"⟩
abbrev cX7_record : ByteArray := prog_9_method_48_code
def yX7_record : MethodName := ⟨RX7, "record", "(I)I"⟩
abbrev cX7_ifMigrated : ByteArray := prog_9_method_49_code
def yX7_ifMigrated : MethodName := ⟨RX7, "ifMigrated", "(II)I"⟩
abbrev cX7_ifFailed : ByteArray := prog_9_method_50_code
def yX7_ifFailed : MethodName := ⟨RX7, "ifFailed", "(IIII)I"⟩
abbrev cX7_put : ByteArray := prog_9_method_51_code
def yX7_put : MethodName := ⟨RX7, "put", "(J)I"⟩
abbrev cX7_wipe : ByteArray := prog_9_method_52_code
def yX7_wipe : MethodName := ⟨RX7, "wipe", "()I"⟩
abbrev cX7_next : ByteArray := prog_9_method_53_code
def yX7_next : MethodName := ⟨RX7, "next", "()I"⟩
abbrev cX7_takeNumber : ByteArray := prog_9_method_54_code
def yX7_takeNumber : MethodName := ⟨RX7, "takeNumber", "()I"⟩
abbrev cX7_takeOne : ByteArray := prog_9_method_55_code
def yX7_takeOne : MethodName := ⟨RX7, "takeOne", "(II)I"⟩
abbrev cX7_takeChange : ByteArray := prog_9_method_56_code
def yX7_takeChange : MethodName := ⟨RX7, "takeChange", "()V"⟩
abbrev cX7_takeStep : ByteArray := prog_9_method_57_code
def yX7_takeStep : MethodName := ⟨RX7, "takeStep", "()V"⟩
abbrev cX7_layStep : ByteArray := prog_9_method_58_code
def yX7_layStep : MethodName := ⟨RX7, "layStep", "(I)V"⟩
abbrev cX7_read : ByteArray := prog_9_method_59_code
def yX7_read : MethodName := ⟨RX7, "read", "(I)I"⟩
abbrev cX7_fault : ByteArray := prog_9_method_60_code
def yX7_fault : MethodName := ⟨RX7, "fault", "()I"⟩
abbrev cX7_keep : ByteArray := prog_9_method_61_code
def yX7_keep : MethodName := ⟨RX7, "keep", "(I)I"⟩
abbrev cX7_back : ByteArray := prog_9_method_62_code
def yX7_back : MethodName := ⟨RX7, "back", "(I)I"⟩
def RJ9 : String := "java/lang/Math"
abbrev cJ9_floorMod_7cf53 : ByteArray := prog_10_method_50_code
def yJ9_floorMod_7cf53 : MethodName := ⟨RJ9, "floorMod", "(II)I"⟩
abbrev cJ9_min_7cf53 : ByteArray := prog_10_method_69_code
def yJ9_min_7cf53 : MethodName := ⟨RJ9, "min", "(II)I"⟩
def RJ10 : String := "java/lang/System"
def RL : String := "SettingsVaultLaw"
abbrev cL_law : ByteArray := code
def yL_law : MethodName := ⟨RL, "law", "([I)Z"⟩
abbrev vwCl : List vw_C := [(RX0, TX0, 14), (RX1, TX1, 5), (RX2, TX2, 3), (RX3, TX3, 4), (RX4, TX4, 3), (RX5, TX5, 5), (RX6, TX6, 6), (RX7, TX7, 28)]
end
section
-- the classes by their numbers: 0 .. 7 as in vwCl, 8 the law's, 9 Math
def pOl : List String := [RX0, RX1, RX2, RX3, RX4, RX5, RX6, RX7, RL, RJ9]
def pO (c : Nat) : String := pOl.getD c ""
-- the methods: bytes, locals, name, answer, class, kind (0 static, 1 of an object, 2 <init>), parameters, frames below, words below
abbrev pTy : Type := ByteArray × Nat × MethodName × Option FieldType × Nat × Nat × Nat × Nat × Nat
def pT0 : List pTy := [(cX0_init, 2, yX0_init, none, 0, 2, 1, 2, 41),
  (cX0_copyFrom, 2, yX0_copyFrom, none, 0, 1, 1, 2, 47),
  (cX0_isPowered, 1, yX0_isPowered, (some .boolean), 0, 1, 0, 0, 0),
  (cX0_isReady, 1, yX0_isReady, (some .boolean), 0, 1, 0, 0, 0),
  (cX0_writesLeft, 1, yX0_writesLeft, (some .int), 0, 1, 0, 0, 0),
  (cX0_active, 1, yX0_active, (some .int), 0, 1, 0, 0, 0),
  (cX0_version, 1, yX0_version, (some .int), 0, 1, 0, 0, 0),
  (cX0_sequence, 1, yX0_sequence, (some .int), 0, 1, 0, 0, 0),
  (cX0_badRecords, 1, yX0_badRecords, (some .int), 0, 1, 0, 0, 0),
  (cX0_pageOf, 2, yX0_pageOf, (some (.object "SettingsVault$Page")), 0, 1, 1, 0, 0),
  (cX0_presentLayout, 1, yX0_presentLayout, (some (.object "SettingsVault$Layout")), 0, 1, 0, 2, 42),
  (cX0_valueOf, 2, yX0_valueOf, (some .int), 0, 1, 1, 1, 20),
  (cX0_placeOf, 2, yX0_placeOf, (some .int), 0, 1, 1, 1, 20),
  (cX0_countRoom, 1, yX0_countRoom, (some .int), 0, 1, 0, 0, 0),
  (cX0_countSettings, 3, yX0_countSettings, (some .int), 0, 1, 0, 3, 62),
  (cX0_countChangedSettings, 3, yX0_countChangedSettings, (some .int), 0, 1, 0, 3, 62),
  (cX0_failBehind, 2, yX0_failBehind, none, 0, 1, 1, 0, 0),
  (cX0_restart, 1, yX0_restart, none, 0, 1, 0, 4, 89),
  (cX0_findActive, 4, yX0_findActive, (some .int), 0, 1, 0, 3, 63),
  (cX0_takeDefaults, 2, yX0_takeDefaults, none, 0, 1, 0, 3, 62),
  (cX0_readRecords, 4, yX0_readRecords, none, 0, 1, 1, 3, 66),
  (cX0_change, 4, yX0_change, (some .int), 0, 1, 2, 5, 125),
  (cX0_moveTo, 2, yX0_moveTo, (some .int), 0, 1, 1, 6, 133),
  (cX0_migratedValueOf, 3, yX0_migratedValueOf, (some .int), 0, 1, 2, 6, 133),
  (cX0_migrateValues, 2, yX0_migrateValues, none, 0, 1, 1, 5, 112),
  (cX0_reset, 3, yX0_reset, (some .int), 0, 1, 1, 4, 95),
  (cX0_fillOther, 9, yX0_fillOther, (some .int), 0, 1, 1, 4, 97),
  (cX0_writeRecord, 7, yX0_writeRecord, (some .int), 0, 1, 5, 3, 71),
  (cX0_writeHead, 5, yX0_writeHead, (some .int), 0, 1, 3, 3, 71),
  (cX0_writeThree, 7, yX0_writeThree, (some .int), 0, 1, 5, 2, 45),
  (cX0_writeCell, 4, yX0_writeCell, (some .int), 0, 1, 3, 1, 22),
  (cX1_init, 1, yX1_init, none, 1, 2, 0, 2, 40),
  (cX1_has, 2, yX1_has, (some .boolean), 1, 1, 1, 0, 0),
  (cX1_greatestOf, 2, yX1_greatestOf, (some .int), 1, 1, 1, 1, 21),
  (cX1_defaultOf, 2, yX1_defaultOf, (some .int), 1, 1, 1, 1, 21),
  (cX1_nameBefore, 2, yX1_nameBefore, (some .int), 1, 1, 1, 1, 21),
  (cX1_takes, 3, yX1_takes, (some .boolean), 1, 1, 2, 1, 21),
  (cX1_makeFrom, 4, yX1_makeFrom, (some .boolean), 1, 1, 2, 5, 112),
  (cX1_addSetting, 4, yX1_addSetting, (some .boolean), 1, 1, 3, 1, 20),
  (cX1_dropSetting, 2, yX1_dropSetting, (some .boolean), 1, 1, 1, 1, 21),
  (cX1_renameSetting, 3, yX1_renameSetting, (some .boolean), 1, 1, 2, 1, 21),
  (cX1_scaleSetting, 4, yX1_scaleSetting, (some .boolean), 1, 1, 3, 2, 43),
  (cX1_carryOver, 2, yX1_carryOver, none, 1, 1, 1, 3, 67),
  (cX2_init, 2, yX2_init, none, 2, 2, 0, 3, 60),
  (cX2_count, 1, yX2_count, (some .int), 2, 1, 0, 0, 0),
  (cX2_has, 2, yX2_has, (some .boolean), 2, 1, 1, 0, 0)]
def pT1 : List pTy := [(cX2_of, 2, yX2_of, (some (.object "SettingsVault$Layout")), 2, 1, 1, 1, 21),
  (cX2_extend, 2, yX2_extend, (some .boolean), 2, 1, 1, 6, 135),
  (cX2_carryOver, 5, yX2_carryOver, none, 2, 1, 3, 4, 88),
  (cX3_init, 1, yX3_init, none, 3, 2, 0, 2, 40),
  (cX3_length, 1, yX3_length, (some .int), 3, 1, 0, 0, 0),
  (cX3_steps, 1, yX3_steps, (some (.object "SettingsVault$Steps")), 3, 1, 0, 0, 0),
  (cX3_clear, 1, yX3_clear, none, 3, 1, 0, 0, 0),
  (cX3_append, 5, yX3_append, (some .int), 3, 1, 1, 1, 26),
  (cX3_countCharacters, 7, yX3_countCharacters, (some .int), 3, 0, 1, 0, 0),
  (cX3_read, 2, yX3_read, (some .int), 3, 1, 0, 5, 113),
  (cX3_readStep, 2, yX3_readStep, (some .boolean), 3, 1, 0, 4, 92),
  (cX3_readAdding, 4, yX3_readAdding, (some .boolean), 3, 1, 0, 3, 69),
  (cX3_readNewName, 4, yX3_readNewName, (some .boolean), 3, 1, 2, 2, 44),
  (cX3_readFactor, 4, yX3_readFactor, (some .boolean), 3, 1, 2, 2, 46),
  (cX3_readLimit, 3, yX3_readLimit, (some .boolean), 3, 1, 1, 3, 69),
  (cX3_readNumber, 4, yX3_readNumber, (some .int), 3, 1, 0, 2, 46),
  (cX3_readName, 1, yX3_readName, (some .int), 3, 1, 0, 1, 24),
  (cX3_readDigit, 3, yX3_readDigit, (some .int), 3, 1, 2, 1, 24),
  (cX3_readSign, 2, yX3_readSign, (some .boolean), 3, 1, 1, 1, 24),
  (cX3_readOffset, 5, yX3_readOffset, (some .int), 3, 1, 3, 0, 0),
  (cX4_init, 2, yX4_init, none, 4, 2, 0, 1, 20),
  (cX4_writes, 1, yX4_writes, (some .int), 4, 1, 0, 0, 0),
  (cX4_erasures, 1, yX4_erasures, (some .int), 4, 1, 0, 0, 0),
  (cX4_copyFrom, 2, yX4_copyFrom, none, 4, 1, 1, 1, 26),
  (cX4_erase, 2, yX4_erase, none, 4, 1, 0, 0, 0),
  (cX4_valueAt, 2, yX4_valueAt, (some .int), 4, 1, 1, 0, 0),
  (cX4_replace, 3, yX4_replace, none, 4, 1, 2, 0, 0),
  (cX4_countWrite, 1, yX4_countWrite, none, 4, 1, 0, 0, 0),
  (cX4_countFilledCells, 3, yX4_countFilledCells, (some .int), 4, 1, 0, 0, 0),
  (cX4_version, 1, yX4_version, (some .int), 4, 1, 0, 1, 21),
  (cX4_sequence, 1, yX4_sequence, (some .int), 4, 1, 0, 1, 21),
  (cX4_hasGoodHead, 2, yX4_hasGoodHead, (some .boolean), 4, 1, 1, 2, 42),
  (cX4_hasRecordAt, 2, yX4_hasRecordAt, (some .boolean), 4, 1, 1, 0, 0),
  (cX4_hasGoodRecordAt, 4, yX4_hasGoodRecordAt, (some .boolean), 4, 1, 3, 2, 43),
  (cX4_nameAt, 2, yX4_nameAt, (some .int), 4, 1, 1, 1, 21),
  (cX4_countRecords, 6, yX4_countRecords, (some .int), 4, 1, 2, 3, 66),
  (cX4_hasThreeAt, 2, yX4_hasThreeAt, (some .boolean), 4, 1, 1, 1, 21),
  (cX4_headCheck, 2, yX4_headCheck, (some .int), 4, 0, 2, 0, 0),
  (cX4_recordCheck, 3, yX4_recordCheck, (some .int), 4, 0, 3, 0, 0),
  (cX5_init, 1, yX5_init, none, 5, 2, 0, 1, 20),
  (cX5_clear, 1, yX5_clear, none, 5, 1, 0, 0, 0),
  (cX5_append, 5, yX5_append, none, 5, 1, 4, 0, 0),
  (cX5_copyFrom, 2, yX5_copyFrom, none, 5, 1, 1, 1, 26),
  (cX5_applyTo, 3, yX5_applyTo, (some .boolean), 5, 1, 1, 4, 90),
  (cX5_applyStep, 5, yX5_applyStep, (some .boolean), 5, 0, 5, 3, 66),
  (cX5_carryOver, 5, yX5_carryOver, none, 5, 1, 1, 2, 43)]
def pT2 : List pTy := [(cX5_scaled, 3, yX5_scaled, (some .int), 5, 0, 3, 1, 21),
  (cX6_init, 2, yX6_init, none, 6, 2, 0, 4, 81),
  (cX6_define, 1, yX6_define, (some .int), 6, 1, 0, 7, 156),
  (cX6_layout, 5, yX6_layout, (some .int), 6, 1, 3, 2, 42),
  (cX6_fail, 3, yX6_fail, (some .int), 6, 1, 1, 1, 21),
  (cX6_start, 1, yX6_start, (some .int), 6, 1, 0, 5, 109),
  (cX6_get, 2, yX6_get, (some .int), 6, 1, 1, 3, 62),
  (cX6_set, 3, yX6_set, (some .int), 6, 1, 2, 6, 148),
  (cX6_compact, 1, yX6_compact, (some .int), 6, 1, 0, 7, 154),
  (cX6_migrate, 2, yX6_migrate, (some .int), 6, 1, 1, 7, 154),
  (cX6_factory, 2, yX6_factory, (some .int), 6, 1, 1, 5, 117),
  (cX6_cell, 3, yX6_cell, (some .int), 6, 1, 2, 2, 41),
  (cX6_spoil, 5, yX6_spoil, (some .int), 6, 1, 3, 2, 41),
  (cX6_page, 4, yX6_page, (some .int), 6, 1, 2, 4, 91),
  (cX6_state, 2, yX6_state, (some .int), 6, 1, 1, 4, 84),
  (cX6_record, 2, yX6_record, (some .int), 6, 1, 1, 3, 62),
  (cX6_ifMigrated, 3, yX6_ifMigrated, (some .int), 6, 1, 2, 7, 155),
  (cX6_ifFailed, 6, yX6_ifFailed, (some .int), 6, 1, 4, 6, 148),
  (cX6_put, 3, yX6_put, (some .int), 6, 1, 1, 2, 50),
  (cX6_wipe, 2, yX6_wipe, (some .int), 6, 1, 0, 1, 20),
  (cX6_fault, 1, yX6_fault, (some .int), 6, 1, 0, 6, 134),
  (cX6_keep, 2, yX6_keep, (some .int), 6, 1, 1, 3, 68),
  (cX6_back, 2, yX6_back, (some .int), 6, 1, 1, 3, 68),
  (cX6_isPage, 1, yX6_isPage, (some .boolean), 6, 0, 1, 0, 0),
  (cX6_isCell, 2, yX6_isCell, (some .boolean), 6, 0, 2, 1, 20),
  (cX6_isImage, 1, yX6_isImage, (some .boolean), 6, 0, 1, 0, 0),
  (cX6_isCountOfWrites, 1, yX6_isCountOfWrites, (some .boolean), 6, 0, 1, 0, 0),
  (cX6_isName, 1, yX6_isName, (some .boolean), 6, 0, 1, 0, 0),
  (cX7_init, 2, yX7_init, none, 7, 2, 0, 1, 20),
  (cX7_in, 3, yX7_in, (some .boolean), 7, 0, 3, 0, 0),
  (cX7_less, 2, yX7_less, (some .int), 7, 0, 2, 0, 0),
  (cX7_isVersion, 2, yX7_isVersion, (some .boolean), 7, 1, 1, 0, 0),
  (cX7_hasSetting, 3, yX7_hasSetting, (some .boolean), 7, 1, 2, 1, 22),
  (cX7_changed, 3, yX7_changed, (some .int), 7, 0, 3, 1, 21),
  (cX7_canDo, 4, yX7_canDo, (some .boolean), 7, 1, 2, 2, 44),
  (cX7_doTo, 5, yX7_doTo, none, 7, 1, 2, 2, 43),
  (cX7_copyLayout, 4, yX7_copyLayout, none, 7, 1, 1, 0, 0),
  (cX7_define, 3, yX7_define, (some .int), 7, 1, 0, 5, 107),
  (cX7_layout, 5, yX7_layout, (some .int), 7, 1, 3, 2, 44),
  (cX7_cellOf, 3, yX7_cellOf, (some .int), 7, 1, 2, 0, 0),
  (cX7_write, 4, yX7_write, none, 7, 1, 3, 0, 0),
  (cX7_erase, 3, yX7_erase, none, 7, 1, 1, 0, 0),
  (cX7_checkOfHead, 2, yX7_checkOfHead, (some .int), 7, 0, 2, 0, 0),
  (cX7_checkOfRecord, 3, yX7_checkOfRecord, (some .int), 7, 0, 3, 0, 0),
  (cX7_writeRecord, 6, yX7_writeRecord, none, 7, 1, 5, 1, 23),
  (cX7_writeHead, 4, yX7_writeHead, none, 7, 1, 3, 1, 23)]
def pT3 : List pTy := [(cX7_fail, 3, yX7_fail, (some .int), 7, 1, 1, 1, 22),
  (cX7_isHead, 4, yX7_isHead, (some .boolean), 7, 1, 1, 1, 22),
  (cX7_isRecord, 7, yX7_isRecord, (some .boolean), 7, 1, 3, 2, 44),
  (cX7_goThrough, 4, yX7_goThrough, none, 7, 1, 3, 3, 70),
  (cX7_layUsual, 3, yX7_layUsual, none, 7, 1, 1, 0, 0),
  (cX7_activeByHeads, 2, yX7_activeByHeads, (some .int), 7, 1, 0, 2, 45),
  (cX7_start, 1, yX7_start, (some .int), 7, 1, 0, 4, 93),
  (cX7_isSetting, 2, yX7_isSetting, (some .boolean), 7, 1, 1, 2, 44),
  (cX7_get, 2, yX7_get, (some .int), 7, 1, 1, 3, 65),
  (cX7_layThen, 2, yX7_layThen, none, 7, 1, 0, 0, 0),
  (cX7_fill, 6, yX7_fill, none, 7, 1, 1, 2, 48),
  (cX7_makeSet, 3, yX7_makeSet, none, 7, 1, 2, 3, 73),
  (cX7_isValue, 3, yX7_isValue, (some .boolean), 7, 1, 2, 1, 22),
  (cX7_set, 3, yX7_set, (some .int), 7, 1, 2, 4, 95),
  (cX7_isIdle, 1, yX7_isIdle, (some .boolean), 7, 1, 0, 0, 0),
  (cX7_compact, 1, yX7_compact, (some .int), 7, 1, 0, 3, 73),
  (cX7_doToValues, 3, yX7_doToValues, none, 7, 1, 1, 2, 43),
  (cX7_migrateTo, 4, yX7_migrateTo, none, 7, 1, 1, 3, 65),
  (cX7_migrate, 2, yX7_migrate, (some .int), 7, 1, 1, 4, 88),
  (cX7_factory, 2, yX7_factory, (some .int), 7, 1, 1, 2, 46),
  (cX7_isCell, 2, yX7_isCell, (some .boolean), 7, 0, 2, 1, 22),
  (cX7_cell, 3, yX7_cell, (some .int), 7, 1, 2, 2, 43),
  (cX7_spoil, 5, yX7_spoil, (some .int), 7, 1, 3, 2, 43),
  (cX7_cellsOf, 4, yX7_cellsOf, (some .int), 7, 1, 1, 1, 22),
  (cX7_recordsOf, 3, yX7_recordsOf, (some .int), 7, 1, 2, 4, 93),
  (cX7_page, 3, yX7_page, (some .int), 7, 1, 2, 5, 115),
  (cX7_settings, 5, yX7_settings, (some .int), 7, 1, 1, 3, 65),
  (cX7_state, 2, yX7_state, (some .int), 7, 1, 1, 4, 89),
  (cX7_record, 2, yX7_record, (some .int), 7, 1, 1, 3, 65),
  (cX7_ifMigrated, 3, yX7_ifMigrated, (some .int), 7, 1, 2, 4, 88),
  (cX7_ifFailed, 8, yX7_ifFailed, (some .int), 7, 1, 4, 5, 113),
  (cX7_put, 7, yX7_put, (some .int), 7, 1, 1, 1, 22),
  (cX7_wipe, 2, yX7_wipe, (some .int), 7, 1, 0, 0, 0),
  (cX7_next, 1, yX7_next, (some .int), 7, 1, 0, 0, 0),
  (cX7_takeNumber, 2, yX7_takeNumber, (some .int), 7, 1, 0, 1, 22),
  (cX7_takeOne, 3, yX7_takeOne, (some .int), 7, 1, 2, 1, 22),
  (cX7_takeChange, 2, yX7_takeChange, none, 7, 1, 0, 2, 44),
  (cX7_takeStep, 2, yX7_takeStep, none, 7, 1, 0, 3, 65),
  (cX7_layStep, 3, yX7_layStep, none, 7, 1, 1, 0, 0),
  (cX7_read, 2, yX7_read, (some .int), 7, 1, 1, 4, 86),
  (cX7_fault, 1, yX7_fault, (some .int), 7, 1, 0, 5, 107),
  (cX7_keep, 3, yX7_keep, (some .int), 7, 1, 1, 1, 22),
  (cX7_back, 3, yX7_back, (some .int), 7, 1, 1, 1, 22),
  (cJ9_floorMod_7cf53, 3, yJ9_floorMod_7cf53, (some .int), 9, 0, 2, 0, 0),
  (cJ9_min_7cf53, 2, yJ9_min_7cf53, (some .int), 9, 0, 2, 0, 0),
  (cL_law, 4, yL_law, (some .boolean), 8, 0, 1, 8, 177)]
def pT : List pTy := pT0 ++ (pT1 ++ (pT2 ++ (pT3)))
def pD : pTy := (⟨#[]⟩, 0, ⟨"", "", ""⟩, none, 99, 0, 0, 0, 0)
def pB (m : Nat) : ByteArray := (pT.getD m pD).1
def pL (m : Nat) : Nat := (pT.getD m pD).2.1
def pY (m : Nat) : MethodName := (pT.getD m pD).2.2.1
def pR (m : Nat) : Option FieldType := (pT.getD m pD).2.2.2.1
def pC (m : Nat) : Nat := (pT.getD m pD).2.2.2.2.1
def pK (m : Nat) : Nat := (pT.getD m pD).2.2.2.2.2.1
def pN (m : Nat) : Nat := (pT.getD m pD).2.2.2.2.2.2.1
def pF (m : Nat) : Nat := (pT.getD m pD).2.2.2.2.2.2.2.1
def pW (m : Nat) : Nat := (pT.getD m pD).2.2.2.2.2.2.2.2
-- fields that an entry of a class links: (class, entry, the field's class, its place)
def fTl : List (Nat × Nat × Nat × Nat) := [(5, 9, 5, 0), (5, 15, 5, 1), (5, 18, 5, 2), (5, 21, 5, 3), (5, 24, 5, 4), (3, 9, 3, 0), (3, 18, 3, 1), (3, 22, 3, 2), (3, 36, 3, 3), (1, 9, 1, 0), (1, 15, 1, 1), (1, 19, 1, 2), (1, 22, 1, 3), (1, 28, 1, 4), (2, 12, 2, 0), (2, 18, 2, 1), (2, 22, 2, 2), (4, 9, 4, 0), (4, 15, 4, 1), (4, 19, 4, 2), (0, 54, 0, 0), (0, 12, 0, 1), (0, 18, 0, 2), (0, 21, 0, 3), (0, 25, 0, 4), (0, 29, 0, 5), (0, 32, 0, 6), (0, 35, 0, 7), (0, 38, 0, 8), (0, 62, 0, 9), (0, 41, 0, 10), (0, 45, 0, 11), (0, 48, 0, 12), (0, 51, 0, 13), (6, 10, 6, 0), (6, 19, 6, 1), (6, 28, 6, 2), (6, 32, 6, 3), (6, 35, 6, 4), (6, 39, 6, 5), (7, 7, 7, 0), (7, 13, 7, 1), (7, 16, 7, 2), (7, 19, 7, 3), (7, 23, 7, 4), (7, 94, 7, 5), (7, 59, 7, 6), (7, 26, 7, 7), (7, 29, 7, 8), (7, 32, 7, 9), (7, 35, 7, 10), (7, 38, 7, 11), (7, 41, 7, 12), (7, 44, 7, 13), (7, 47, 7, 14), (7, 50, 7, 15), (7, 101, 7, 16), (7, 117, 7, 17), (7, 120, 7, 18), (7, 123, 7, 19), (7, 53, 7, 20), (7, 56, 7, 21), (7, 197, 7, 22), (7, 200, 7, 23), (7, 213, 7, 24), (7, 210, 7, 25), (7, 219, 7, 26), (7, 222, 7, 27)]
def fL (c i : Nat) : Nat × Nat := match fTl.find? (fun q => q.1 == c && q.2.1 == i) with
  | some q => q.2.2
  | none => (99, 0)
-- methods that an entry of a class links: (class, entry, method, how: 0 virtual, 1 static, 2 <init>, 3 static of a nest mate, 4 <init> of a nest mate)
def mTl : List (Nat × Nat × Nat × Nat) := [(8, 9, 93, 2), (6, 9, 49, 4), (3, 17, 85, 4), (6, 18, 43, 2), (2, 11, 31, 4), (1, 27, 85, 4), (6, 25, 0, 2), (0, 11, 66, 2), (8, 13, 94, 0), (6, 43, 55, 0), (3, 39, 86, 0), (3, 42, 56, 0), (3, 46, 64, 0), (3, 84, 65, 0), (3, 50, 57, 0), (3, 57, 62, 0), (3, 68, 61, 0), (3, 75, 63, 0), (3, 79, 182, 1), (3, 71, 87, 0), (3, 53, 58, 0), (3, 61, 59, 0), (3, 64, 60, 0), (6, 47, 44, 0), (6, 50, 51, 0), (6, 54, 47, 0), (2, 30, 46, 0), (2, 26, 45, 0), (2, 34, 37, 0), (1, 36, 88, 0), (1, 40, 89, 0), (5, 34, 90, 1), (5, 38, 38, 0), (1, 44, 119, 3), (5, 44, 39, 0), (1, 32, 32, 0), (5, 48, 40, 0), (5, 52, 41, 0), (1, 47, 92, 1), (5, 62, 182, 1), (6, 58, 52, 0), (8, 18, 95, 0), (6, 61, 46, 0), (6, 65, 32, 0), (6, 71, 33, 0), (6, 75, 34, 0), (6, 78, 35, 0), (8, 23, 96, 0), (6, 81, 118, 1), (6, 84, 2, 0), (6, 88, 4, 0), (6, 91, 16, 0), (8, 28, 97, 0), (6, 95, 17, 0), (0, 94, 18, 0), (0, 112, 77, 0), (4, 32, 82, 0), (4, 28, 71, 0), (4, 36, 75, 0), (4, 40, 45, 0), (4, 45, 76, 0), (4, 48, 83, 1), (0, 104, 76, 0), (0, 116, 181, 1), (0, 98, 9, 0), (0, 102, 75, 0), (0, 106, 19, 0), (0, 81, 10, 0), (0, 71, 46, 0), (0, 90, 34, 0), (0, 109, 20, 0), (0, 122, 78, 0), (0, 125, 80, 0), (0, 77, 119, 3), (0, 128, 79, 0), (4, 52, 80, 0), (4, 55, 36, 0), (4, 61, 84, 1), (0, 132, 71, 0), (6, 98, 5, 0), (8, 32, 98, 0), (6, 101, 10, 0), (6, 105, 11, 0), (8, 36, 99, 0), (6, 108, 36, 0), (6, 112, 21, 0), (0, 135, 26, 0), (0, 150, 70, 0), (0, 85, 32, 0), (0, 138, 27, 0), (0, 157, 84, 1), (0, 161, 29, 0), (0, 167, 30, 0), (0, 170, 72, 0), (0, 174, 73, 0), (0, 153, 28, 0), (0, 164, 83, 1), (8, 41, 100, 0), (6, 116, 3, 0), (6, 119, 6, 0), (6, 122, 22, 0), (0, 142, 24, 0), (0, 146, 48, 0), (2, 38, 42, 0), (1, 51, 91, 0), (5, 55, 119, 3), (5, 58, 92, 1), (8, 45, 101, 0), (6, 125, 45, 0), (8, 49, 102, 0), (6, 126, 25, 0), (8, 53, 103, 0), (6, 129, 116, 1), (6, 145, 115, 1), (6, 132, 9, 0), (6, 136, 71, 0), (8, 57, 104, 0), (6, 141, 72, 0), (8, 61, 105, 0), (6, 148, 67, 0), (6, 151, 68, 0), (6, 154, 77, 0), (6, 158, 81, 0), (4, 65, 77, 0), (4, 69, 46, 0), (4, 73, 78, 0), (4, 76, 79, 0), (6, 162, 74, 0), (8, 65, 106, 0), (6, 165, 7, 0), (6, 168, 13, 0), (6, 171, 8, 0), (6, 174, 14, 0), (6, 177, 15, 0), (6, 180, 50, 0), (8, 69, 107, 0), (6, 183, 12, 0), (8, 73, 108, 0), (6, 186, 23, 0), (8, 77, 109, 0), (6, 189, 1, 0), (0, 58, 69, 0), (8, 84, 110, 0), (6, 193, 53, 0), (3, 26, 54, 1), (8, 89, 111, 0), (8, 93, 112, 0), (8, 97, 113, 0), (6, 197, 117, 1), (8, 101, 114, 0), (8, 12, 120, 2), (8, 17, 129, 0), (7, 79, 177, 0), (7, 228, 175, 0), (7, 204, 171, 0), (7, 225, 174, 0), (7, 207, 173, 0), (7, 63, 121, 1), (7, 216, 172, 0), (7, 231, 176, 0), (7, 83, 128, 0), (7, 87, 126, 0), (7, 71, 124, 0), (7, 90, 127, 0), (7, 75, 125, 1), (7, 67, 122, 1), (8, 22, 130, 0), (7, 97, 123, 0), (8, 27, 138, 0), (8, 31, 144, 0), (7, 132, 143, 0), (7, 129, 139, 0), (7, 114, 131, 0), (7, 111, 134, 1), (7, 136, 142, 0), (7, 139, 141, 0), (7, 126, 140, 0), (7, 108, 135, 1), (8, 35, 146, 0), (7, 143, 145, 0), (8, 40, 151, 0), (7, 162, 150, 0), (7, 165, 149, 0), (7, 156, 147, 0), (7, 159, 148, 0), (7, 146, 133, 0), (7, 149, 136, 0), (7, 104, 132, 0), (7, 153, 137, 0), (8, 44, 153, 0), (7, 168, 152, 0), (8, 48, 156, 0), (7, 175, 155, 0), (7, 172, 154, 0), (8, 52, 157, 0), (8, 56, 159, 0), (7, 178, 158, 1), (8, 60, 160, 0), (8, 64, 163, 0), (7, 181, 162, 0), (7, 185, 161, 0), (8, 68, 165, 0), (7, 188, 164, 0), (8, 72, 166, 0), (8, 76, 167, 0), (8, 81, 168, 0), (7, 192, 144, 0), (8, 88, 169, 0), (8, 92, 170, 0), (8, 96, 178, 0), (8, 100, 179, 0), (8, 104, 180, 0)]
def mL (c i : Nat) : Nat × Nat := match mTl.find? (fun q => q.1 == c && q.2.1 == i) with
  | some q => q.2.2
  | none => (999, 99)
-- entries that link Object.<init>, System.arraycopy, classes, long constants
def oTl : List (Nat × Nat) := [(6, 1), (3, 3), (5, 3), (2, 3), (1, 3), (0, 3), (4, 3), (7, 1)]
def aTl : List (Nat × Nat) := [(5, 28), (0, 65), (4, 22)]
def kTl : List (Nat × Nat × Nat) := [(8, 7, 6), (6, 7, 3), (3, 15, 5), (6, 16, 2), (2, 9, 1), (1, 25, 5), (6, 23, 0), (0, 9, 4), (8, 10, 7)]
def kL (c i : Nat) : Nat := match kTl.find? (fun q => q.1 == c && q.2.1 == i) with
  | some q => q.2.2
  | none => 99
def lTl : List (Nat × Nat × Int64) := [(3, 30, 255), (3, 32, 33), (3, 34, 126), (7, 195, 255), (8, 82, 4294967295)]
def lL (c i : Nat) : Option Int64 := match lTl.find? (fun q => q.1 == c && q.2.1 == i) with
  | some q => some q.2.2
  | none => none
def nTl : List (Nat × Nat × Nat) := [(6, 9, 49), (3, 17, 85), (2, 11, 31), (1, 27, 85), (1, 44, 119), (0, 77, 119), (5, 55, 119)]
def clC (c : Nat) : String := pO c
def clT (c : Nat) : u_T := match c with
  | 0 => TX0
  | 1 => TX1
  | 2 => TX2
  | 3 => TX3
  | 4 => TX4
  | 5 => TX5
  | 6 => TX6
  | _ => TX7
def clY (c : Nat) : Nat → FieldType := match c with
  | 0 => tyX0
  | 1 => tyX1
  | 2 => tyX2
  | 3 => tyX3
  | 4 => tyX4
  | 5 => tyX5
  | 6 => tyX6
  | _ => tyX7
def clN (c : Nat) : Nat := [14, 5, 3, 4, 3, 5, 6, 28].getD c 0
-- what a field holds: 0 an int, 1 a boolean, 2 a reference; whether it is final
def fTt : List (List Nat) := [[2, 2, 2, 1, 0, 0, 0, 0, 0, 0, 2, 2, 2, 2], [2, 2, 2, 2, 2], [2, 2, 0], [2, 2, 0, 0], [2, 0, 0], [2, 2, 2, 2, 0], [2, 2, 2, 2, 2, 2], [2, 2, 2, 2, 2, 0, 0, 2, 2, 2, 2, 2, 2, 2, 2, 2, 0, 0, 0, 0, 2, 2, 0, 1, 0, 0, 0, 0]]
def fFt : List (List Bool) := [[true, true, true, false, false, false, false, false, false, false, true, true, true, true], [true, true, true, true, true], [true, true, false], [true, true, false, false], [true, false, false], [true, true, true, true, false], [true, true, true, true, true, true], [true, true, true, true, true, false, false, true, true, true, true, true, true, true, true, true, false, false, false, false, true, true, false, false, false, false, false, false]]
def fT (c k : Nat) : Nat := (fTt.getD c []).getD k 9
def fF (c k : Nat) : Bool := (fFt.getD c []).getD k true
end
section
-- what the tables' words say of the program's tables: each by one decision over a list, by places
def tw : List Cond := lw_tbl.filter goodWord
theorem tw_sub : ∀ w ∈ tw, w ∈ lw_tbl := fun w h => (List.mem_filter.mp h).1
theorem tw_good : GoodIn lw_tbl tw := fun w h => ⟨(List.mem_filter.mp h).1, good_of_word (List.mem_filter.mp h).2⟩
theorem tw_self : GoodIn tw tw := fun w h => ⟨h, good_of_word (List.mem_filter.mp h).2⟩
/-- the word at a place of the tables, good -/
def wd_at (i : Nat) (w : Cond) : Bool := decide (lw_tbl[i]? = some w) && goodWord w
theorem wd_in {i : Nat} {w : Cond} (h : wd_at i w = true) : w ∈ tw := by
  unfold wd_at at h
  simp only [Bool.and_eq_true, decide_eq_true_eq] at h
  exact List.mem_filter.mpr ⟨List.mem_of_getElem? h.1, h.2⟩
def cPl : List Nat := [161, 686, 398, 553, 402, 491, 557, 642, 650, 450, 459, 500, 670, 646, 654, 658, 406, 414, 418, 455, 465, 509, 561, 678, 565, 592, 514, 523, 544, 528, 532, 125, 353, 379, 383, 387, 483, 324, 342, 349, 357, 361, 573, 119, 304, 320, 316, 312, 569, 76, 662, 308, 369, 699, 702, 249, 257, 269, 292, 296, 300, 277, 273, 281, 261, 265, 167, 617, 621, 690, 518, 430, 536, 540, 634, 434, 439, 422, 469, 478, 473, 626, 426, 442, 486, 82, 253, 288, 328, 335, 338, 577, 364, 68, 245, 373, 391, 410, 495, 504, 549, 583, 588, 596, 608, 613, 638, 666, 674, 682, 695, 709, 713, 717, 724, 602, 599, 720, 394, 345, 729, 842, 872, 880, 862, 869, 858, 866, 854, 819, 876, 900, 958, 950, 903, 918, 954, 962, 884, 896, 915, 911, 907, 892, 888, 926, 922, 942, 946, 938, 934, 930, 970, 966, 982, 978, 974, 986, 993, 990, 997, 1009, 1005, 1001, 1017, 1013, 1021, 1025, 1029, 1034, 1039, 831, 846, 839, 835, 827, 850, 823, 1043, 1047, 1051, 446, 284]
theorem wd_c0 : (List.range' 0 31).all (fun m => wd_at (cPl.getD m 0) (Cond.code (pY m) (pB m) (pL m) (pR m))) = true := by decide +kernel
theorem wd_c1 : (List.range' 31 31).all (fun m => wd_at (cPl.getD m 0) (Cond.code (pY m) (pB m) (pL m) (pR m))) = true := by decide +kernel
theorem wd_c2 : (List.range' 62 31).all (fun m => wd_at (cPl.getD m 0) (Cond.code (pY m) (pB m) (pL m) (pR m))) = true := by decide +kernel
theorem wd_c3 : (List.range' 93 31).all (fun m => wd_at (cPl.getD m 0) (Cond.code (pY m) (pB m) (pL m) (pR m))) = true := by decide +kernel
theorem wd_c4 : (List.range' 124 31).all (fun m => wd_at (cPl.getD m 0) (Cond.code (pY m) (pB m) (pL m) (pR m))) = true := by decide +kernel
theorem wd_c5 : (List.range' 155 28).all (fun m => wd_at (cPl.getD m 0) (Cond.code (pY m) (pB m) (pL m) (pR m))) = true := by decide +kernel
theorem wd_codes (m : Nat) (h : m < 183) : Cond.code (pY m) (pB m) (pL m) (pR m) ∈ tw := by
  by_cases h0 : m < 31
  · exact wd_in (List.all_eq_true.mp wd_c0 m (List.mem_range'_1.mpr ⟨by omega, by omega⟩))
  by_cases h31 : m < 62
  · exact wd_in (List.all_eq_true.mp wd_c1 m (List.mem_range'_1.mpr ⟨by omega, by omega⟩))
  by_cases h62 : m < 93
  · exact wd_in (List.all_eq_true.mp wd_c2 m (List.mem_range'_1.mpr ⟨by omega, by omega⟩))
  by_cases h93 : m < 124
  · exact wd_in (List.all_eq_true.mp wd_c3 m (List.mem_range'_1.mpr ⟨by omega, by omega⟩))
  by_cases h124 : m < 155
  · exact wd_in (List.all_eq_true.mp wd_c4 m (List.mem_range'_1.mpr ⟨by omega, by omega⟩))
  by_cases h155 : m < 183
  · exact wd_in (List.all_eq_true.mp wd_c5 m (List.mem_range'_1.mpr ⟨by omega, by omega⟩))
  omega
def wd_meth (q : pTy) : Bool := plainFor q.2.2.1 && decide (q.2.2.1.cls = pO q.2.2.2.2.1) && decide (q.2.2.1.cls ≠ "java/lang/invoke/MethodHandle") && decide (q.2.2.1.cls ≠ "java/lang/invoke/VarHandle") && decide ((parseMethodDescriptor q.2.2.1.desc).map (fun d => d.parameters.length) = some q.2.2.2.2.2.2.1) && decide (q.2.2.2.2.2.1 = 2 → q.2.2.1.name = "<init>" ∧ q.2.2.2.1 = none) && decide (q.2.2.2.2.1 < 10)
theorem wd_meths : pT.all wd_meth = true := by decide +kernel
def wd_ip : List (Nat × Nat) := [(0, 59), (1, 58), (2, 57), (3, 55), (4, 60), (5, 56), (6, 54), (7, 61), (8, 53), (9, 62)]
theorem wd_inits : wd_ip.all (fun q => wd_at q.2 (Cond.initialized (pO q.1))) = true := by decide +kernel
def wd_link (q : Nat × Nat × Nat × Nat) (p : Nat × Nat × Nat) : Bool := match q.2.2.2 with
  | 0 => wd_at p.1 (Cond.methodLink (pO q.1) q.2.1 (pY q.2.2.1)) && wd_at p.2.1 (Cond.instanceMethod (pY q.2.2.1)) && wd_at p.2.2 (Cond.selects (pY q.2.2.1).cls (pY q.2.2.1) (pY q.2.2.1)) && decide (pC q.2.2.1 < 8)
  | 1 => wd_at p.1 (Cond.methodLink (pO q.1) q.2.1 (pY q.2.2.1)) && wd_at p.2.1 (Cond.static (pY q.2.2.1))
  | 2 => wd_at p.1 (Cond.methodLink (pO q.1) q.2.1 (pY q.2.2.1)) && wd_at p.2.1 (Cond.instanceMethod (pY q.2.2.1)) && decide (pK q.2.2.1 = 2)
  | 3 => decide ((q.1, q.2.1, q.2.2.1) ∈ nTl) && wd_at p.2.1 (Cond.static (pY q.2.2.1))
  | 4 => decide ((q.1, q.2.1, q.2.2.1) ∈ nTl) && wd_at p.2.1 (Cond.instanceMethod (pY q.2.2.1)) && decide (pK q.2.2.1 = 2)
  | _ => false
def wd_pl : List (Nat × Nat × Nat) := [(66, 67, 0), (0, 75, 0), (0, 81, 0), (117, 118, 0), (0, 124, 0), (0, 81, 0), (159, 160, 0), (165, 166, 0), (242, 243, 244), (246, 247, 248), (250, 251, 252), (254, 256, 0), (258, 260, 1), (262, 264, 2), (266, 268, 3), (270, 272, 4), (274, 276, 5), (278, 280, 6), (282, 283, 0), (285, 286, 287), (289, 291, 7), (293, 295, 8), (297, 299, 9), (301, 302, 303), (305, 306, 307), (309, 310, 311), (313, 314, 315), (317, 318, 319), (321, 322, 323), (325, 326, 327), (332, 333, 334), (336, 337, 0), (339, 340, 341), (0, 344, 0), (346, 347, 348), (350, 351, 352), (354, 355, 356), (358, 359, 360), (362, 363, 0), (365, 283, 0), (366, 367, 368), (370, 371, 372), (374, 314, 315), (375, 351, 352), (376, 377, 378), (380, 381, 382), (384, 385, 386), (388, 389, 390), (392, 393, 0), (395, 396, 397), (399, 400, 401), (403, 404, 405), (407, 408, 409), (411, 412, 413), (415, 417, 10), (419, 420, 421), (423, 425, 11), (427, 428, 429), (431, 432, 433), (435, 318, 319), (436, 437, 438), (440, 441, 0), (443, 437, 438), (444, 445, 0), (447, 448, 449), (451, 432, 433), (452, 454, 12), (456, 457, 458), (460, 314, 315), (461, 381, 382), (462, 464, 13), (466, 467, 468), (470, 471, 472), (0, 344, 0), (475, 476, 477), (479, 471, 472), (480, 481, 482), (484, 485, 0), (487, 428, 429), (488, 489, 490), (492, 493, 494), (496, 457, 458), (497, 498, 499), (501, 502, 503), (505, 481, 482), (506, 507, 508), (511, 513, 14), (515, 516, 517), (519, 351, 352), (520, 522, 15), (524, 485, 0), (525, 527, 16), (529, 531, 17), (533, 534, 535), (537, 538, 539), (541, 543, 18), (545, 441, 0), (546, 547, 548), (550, 551, 552), (554, 555, 556), (558, 559, 560), (562, 564, 19), (566, 567, 568), (570, 571, 572), (574, 575, 576), (0, 344, 0), (579, 363, 0), (580, 581, 582), (584, 318, 319), (585, 586, 587), (589, 590, 591), (593, 594, 595), (597, 598, 0), (600, 601, 0), (603, 448, 449), (604, 428, 429), (605, 606, 607), (609, 534, 535), (610, 611, 612), (614, 615, 616), (618, 619, 620), (622, 420, 421), (623, 624, 625), (627, 420, 421), (628, 314, 315), (629, 467, 468), (630, 476, 477), (631, 632, 633), (635, 636, 637), (639, 640, 641), (643, 644, 645), (647, 648, 649), (651, 652, 653), (655, 656, 657), (659, 660, 661), (663, 664, 665), (667, 668, 669), (671, 672, 673), (675, 676, 677), (679, 680, 681), (683, 684, 685), (687, 688, 689), (692, 693, 694), (696, 697, 698), (700, 701, 0), (706, 707, 708), (710, 711, 712), (714, 715, 716), (718, 719, 0), (721, 722, 723), (727, 728, 0), (816, 817, 818), (820, 822, 20), (824, 826, 21), (828, 830, 22), (832, 834, 23), (836, 838, 24), (840, 841, 0), (843, 845, 25), (847, 849, 26), (851, 853, 27), (855, 857, 28), (859, 861, 29), (863, 865, 30), (867, 868, 0), (870, 871, 0), (873, 874, 875), (877, 879, 31), (881, 882, 883), (885, 886, 887), (889, 891, 32), (893, 895, 33), (897, 899, 34), (901, 902, 0), (904, 906, 35), (908, 910, 36), (912, 914, 37), (916, 917, 0), (919, 920, 921), (923, 925, 38), (927, 928, 929), (931, 933, 39), (935, 937, 40), (939, 941, 41), (943, 945, 42), (947, 949, 43), (951, 953, 44), (955, 957, 45), (959, 961, 46), (963, 964, 965), (967, 969, 47), (971, 972, 973), (975, 977, 48), (979, 981, 49), (983, 984, 985), (987, 988, 989), (991, 992, 0), (994, 995, 996), (998, 999, 1000), (1002, 1004, 50), (1006, 1008, 51), (1010, 1011, 1012), (1014, 1016, 52), (1018, 1019, 1020), (1022, 1023, 1024), (1026, 1027, 1028), (1030, 886, 887), (1031, 1032, 1033), (1036, 1037, 1038), (1040, 1041, 1042), (1044, 1045, 1046), (1048, 1049, 1050)]
theorem wd_l0 : ((mTl.zip wd_pl).drop 0 |>.take 40).all (fun q => wd_link q.1 q.2 && decide (q.1.2.2.1 < 183)) = true := by decide +kernel
theorem wd_l1 : ((mTl.zip wd_pl).drop 40 |>.take 40).all (fun q => wd_link q.1 q.2 && decide (q.1.2.2.1 < 183)) = true := by decide +kernel
theorem wd_l2 : ((mTl.zip wd_pl).drop 80 |>.take 40).all (fun q => wd_link q.1 q.2 && decide (q.1.2.2.1 < 183)) = true := by decide +kernel
theorem wd_l3 : ((mTl.zip wd_pl).drop 120 |>.take 40).all (fun q => wd_link q.1 q.2 && decide (q.1.2.2.1 < 183)) = true := by decide +kernel
theorem wd_l4 : ((mTl.zip wd_pl).drop 160 |>.take 40).all (fun q => wd_link q.1 q.2 && decide (q.1.2.2.1 < 183)) = true := by decide +kernel
theorem wd_l5 : ((mTl.zip wd_pl).drop 200 |>.take 40).all (fun q => wd_link q.1 q.2 && decide (q.1.2.2.1 < 183)) = true := by decide +kernel
theorem wd_links (q : Nat × Nat × Nat × Nat) (hq : q ∈ mTl) : ∃ p, wd_link q p = true ∧ q.2.2.1 < 183 := by
  obtain ⟨i, hi⟩ := List.getElem?_of_mem hq
  have hl : i < 212 := by 
    have := (List.getElem?_eq_some_iff.mp hi).1
    have e : mTl.length = 212 := by decide +kernel
    omega
  have hz : ∃ p, (mTl.zip wd_pl)[i]? = some (q, p) := by
    have e : wd_pl.length = 212 := by decide +kernel
    obtain ⟨p, hp⟩ : ∃ p, wd_pl[i]? = some p := ⟨wd_pl[i]'(by omega), List.getElem?_eq_getElem (by omega)⟩
    exact ⟨p, by rw [List.getElem?_zip_eq_some]; exact ⟨hi, hp⟩⟩
  obtain ⟨p, hp⟩ := hz
  have key : ∀ k, ((mTl.zip wd_pl).drop k |>.take 40).all (fun q => wd_link q.1 q.2 && decide (q.1.2.2.1 < 183)) = true → k ≤ i → i < k + 40 → wd_link q p = true ∧ q.2.2.1 < 183 := by
    intro k hk h1 h2
    have hm : (q, p) ∈ ((mTl.zip wd_pl).drop k |>.take 40) := by
      refine List.mem_of_getElem? (i := i - k) ?_
      rw [List.getElem?_take_of_lt (by omega), List.getElem?_drop, show k + (i - k) = i by omega]
      exact hp
    have h3 := List.all_eq_true.mp hk _ hm
    simp only [Bool.and_eq_true, decide_eq_true_eq] at h3
    exact h3
  refine ⟨p, ?_⟩
  by_cases h0 : i < 40
  · exact key 0 wd_l0 (by omega) h0
  by_cases h40 : i < 80
  · exact key 40 wd_l1 (by omega) h40
  by_cases h80 : i < 120
  · exact key 80 wd_l2 (by omega) h80
  by_cases h120 : i < 160
  · exact key 120 wd_l3 (by omega) h120
  by_cases h160 : i < 200
  · exact key 160 wd_l4 (by omega) h160
  by_cases h200 : i < 240
  · exact key 200 wd_l5 (by omega) h200
  omega
theorem wd_nests : nTl.all (fun q => decide (Cond.methodLinkNest (pO q.1) q.2.1 (pY q.2.2) "SettingsVault" ∈ lw_tbl)) = true := by decide +kernel
def wd_fp : List Nat := [84, 85, 86, 87, 88, 102, 103, 104, 105, 129, 130, 131, 132, 133, 147, 148, 149, 169, 170, 171, 179, 180, 181, 182, 183, 184, 185, 186, 187, 188, 189, 190, 191, 192, 223, 224, 225, 226, 227, 228, 731, 732, 733, 734, 735, 736, 737, 738, 739, 740, 741, 742, 743, 744, 745, 746, 747, 748, 749, 750, 751, 752, 753, 754, 755, 756, 757, 758]
theorem wd_fs : (fTl.zip wd_fp).all (fun z => match z with | (q, p) => wd_at p (Cond.fieldLink (pO q.1) q.2.1 (clC q.2.2.1) (clT q.2.2.1 q.2.2.2).2.1 (clT q.2.2.1 q.2.2.2).2.2.1) && decide (q.2.2.2 < clN q.2.2.1) && decide (q.2.2.1 < 8) && decide ((clT q.2.2.1 q.2.2.2).2.2.2 = fF q.2.2.1 q.2.2.2) && decide ((clT q.2.2.1 q.2.2.2).1 = clC q.2.2.1)) = true := by decide +kernel
theorem wd_fields (q : Nat × Nat × Nat × Nat) (hq : q ∈ fTl) : Cond.fieldLink (pO q.1) q.2.1 (clC q.2.2.1) (clT q.2.2.1 q.2.2.2).2.1 (clT q.2.2.1 q.2.2.2).2.2.1 ∈ tw ∧ q.2.2.2 < clN q.2.2.1 ∧ q.2.2.1 < 8 ∧ (clT q.2.2.1 q.2.2.2).2.2.2 = fF q.2.2.1 q.2.2.2 ∧ (clT q.2.2.1 q.2.2.2).1 = clC q.2.2.1 := by
  obtain ⟨i, hi⟩ := List.getElem?_of_mem hq
  have hl := (List.getElem?_eq_some_iff.mp hi).1
  have e1 : fTl.length = 68 := by decide +kernel
  have e2 : wd_fp.length = 68 := by decide +kernel
  obtain ⟨p, hp⟩ : ∃ p, wd_fp[i]? = some p := ⟨wd_fp[i]'(by omega), List.getElem?_eq_getElem (by omega)⟩
  have hm : (q, p) ∈ fTl.zip wd_fp := List.mem_of_getElem? (i := i) (by rw [List.getElem?_zip_eq_some]; exact ⟨hi, hp⟩)
  have h := List.all_eq_true.mp wd_fs _ hm
  simp only [Bool.and_eq_true, decide_eq_true_eq] at h
  exact ⟨wd_in h.1.1.1.1, h.1.1.1.2, h.1.1.2, h.1.2, h.2⟩
theorem wd_fieldT : (List.range 8).all (fun c => (List.range (clN c)).all fun k => decide (fT c k = (match clY c k with | .int => 0 | .boolean => 1 | .object _ => 2 | .array _ => 2 | _ => 7)) && decide (parseFieldDescriptor (clT c k).2.2.1 = some (clY c k)) && decide (fT c k < 3)) = true := by decide +kernel
theorem wd_names : (List.range 8).all (fun c => (List.range (clN c)).all fun a => (List.range (clN c)).all fun b => decide (a ≠ b → (clT c a).2.1 ≠ (clT c b).2.1)) = true := by decide +kernel
theorem wd_lays : (List.range 8).all (fun c => (u_ws (clC c) (clT c) (clN c)).all fun w => decide (w ∈ lw_tbl) && goodWord w) = true := by decide +kernel
theorem wd_class : (List.range 8).all (fun c => decide (Cond.instantiable (clC c) (clN c) ∈ lw_tbl) && goodWord (Cond.instantiable (clC c) (clN c)) && decide (Cond.initialized (clC c) ∈ lw_tbl) && goodWord (Cond.initialized (clC c))) = true := by decide +kernel
def wd_obj_p : List Nat := [69, 77, 83, 120, 126, 162, 168, 730]
theorem wd_obj_z : (oTl.zip wd_obj_p).all (fun z => match z with | (q, p) => wd_at p (Cond.methodLink (pO q.1) q.2 objectInit)) = true := by decide +kernel
theorem zip_all {α β : Type} {l : List α} {k : List β} {f : α × β → Bool} (h : (l.zip k).all f = true) (hl : l.length = k.length) (a : α) (ha : a ∈ l) : ∃ b, f (a, b) = true := by
  obtain ⟨i, hi⟩ := List.getElem?_of_mem ha
  have h1 := (List.getElem?_eq_some_iff.mp hi).1
  obtain ⟨p, hp⟩ : ∃ p, k[i]? = some p := ⟨k[i]'(by omega), List.getElem?_eq_getElem (by omega)⟩
  exact ⟨p, List.all_eq_true.mp h _ (List.mem_of_getElem? (i := i) (by rw [List.getElem?_zip_eq_some]; exact ⟨hi, hp⟩))⟩
theorem wd_obj (q : Nat × Nat) (h : q ∈ oTl) : Cond.methodLink (pO q.1) q.2 objectInit ∈ tw := by
  obtain ⟨p, hp⟩ := zip_all wd_obj_z (by decide +kernel) q h
  exact wd_in hp
theorem wd_obj2 : wd_at 70 (Cond.instanceMethod objectInit) = true ∧ wd_at 71 (Cond.code objectInit ⟨#[0xb1]⟩ 1 none) = true := by decide +kernel
def wd_copy_p : List Nat := [329, 510, 691]
theorem wd_copy_z : (aTl.zip wd_copy_p).all (fun z => match z with | (q, p) => wd_at p (Cond.methodLink (pO q.1) q.2 arraycopyName)) = true := by decide +kernel
theorem wd_copy (q : Nat × Nat) (h : q ∈ aTl) : Cond.methodLink (pO q.1) q.2 arraycopyName ∈ tw := by
  obtain ⟨p, hp⟩ := zip_all wd_copy_z (by decide +kernel) q h
  exact wd_in hp
theorem wd_copy2 : wd_at 331 (Cond.native arraycopyName) = true ∧ wd_at 330 (Cond.static arraycopyName) = true ∧ wd_at 63 (Cond.initialized "java/lang/System") = true := by decide +kernel
def wd_kl_p : List Nat := [64, 72, 78, 115, 121, 127, 157, 163, 725]
theorem wd_kl_z : (kTl.zip wd_kl_p).all (fun z => match z with | (q, p) => wd_at p (Cond.classLink (pO q.1) q.2.1 (clC q.2.2)) && decide (q.2.2 < 8)) = true := by decide +kernel
theorem wd_kl (q : Nat × Nat × Nat) (h : q ∈ kTl) : Cond.classLink (pO q.1) q.2.1 (clC q.2.2) ∈ tw ∧ q.2.2 < 8 := by
  obtain ⟨p, hp⟩ := zip_all wd_kl_z (by decide +kernel) q h
  simp only [Bool.and_eq_true, decide_eq_true_eq] at hp
  exact ⟨wd_in hp.1, hp.2⟩
theorem wd_arr : wd_at 101 (Cond.arrayClass .int) = true ∧ wd_at 145 (Cond.arrayClass .boolean) = true ∧ wd_at 100 (Cond.arrayClass .char) = true ∧ lw_tbl[146]? = some (Cond.arrayOver (.object RX1)) ∧ lw_tbl[222]? = some (Cond.arrayOver (.object RX0)) := by decide +kernel
def wd_long_p : List Nat := [703, 704, 705, 1035, 1052]
theorem wd_long_z : (lTl.zip wd_long_p).all (fun z => match z with | (q, p) => wd_at p (Cond.constantLong (pO q.1) q.2.1 q.2.2)) = true := by decide +kernel
theorem wd_long (q : Nat × Nat × Int64) (h : q ∈ lTl) : Cond.constantLong (pO q.1) q.2.1 q.2.2 ∈ tw := by
  obtain ⟨p, hp⟩ := zip_all wd_long_z (by decide +kernel) q h
  exact wd_in hp
end
section
/-! ===== a small machine over plain numbers: locals, stack, and a heap of ints and references by numbers of objects ===== -/
/-- the objects: how many there are (the script is the object 0), how many slots were made, each one's kind and length, its references -/
abbrev Gt : Type := Nat × Nat × (Nat → Nat × Nat) × (Nat → Nat → Option Nat)
/-- what the objects hold of ints -/
abbrev It : Type := Nat → Nat → Int32
/-- method, pc, locals, stack, objects, ints -/
abbrev Cf : Type := Nat × Nat × List (Option Value) × List Value × Gt × It
abbrev Rs : Type := Option Value × Gt × It
/-- an end (or nothing), one step on, or a call and where it goes on -/
abbrev Sr : Type := Option Rs ⊕ (Cf ⊕ (Cf × Nat × Nat × List (Option Value) × List Value))
/-- kinds: a class's number; 50 int[], 51 boolean[], 52 char[], 53 Layout[], 54 Device[], 60 the script, 99 nothing -/
def kd (G : Gt) (o : Nat) : Nat := if o = 0 then 60 else if o < G.1 then (G.2.2.1 o).1 else 99
def ln (G : Gt) (o : Nat) : Nat := (G.2.2.1 o).2
def rf (G : Gt) (o k : Nat) : Option Nat := G.2.2.2 o k
def uI (I : It) (o k : Nat) (x : Int32) : It := fun a j => if a = o then (if j = k then x else I a j) else I a j
def uG (G : Gt) (o k r : Nat) : Gt := (G.1, G.2.1, G.2.2.1, fun a j => if a = o then (if j = k then some r else G.2.2.2 a j) else G.2.2.2 a j)
def nG (G : Gt) (kk len : Nat) : Gt := (G.1 + 1, G.2.1 + len, fun a => if a = G.1 then (kk, len) else G.2.2.1 a, fun a j => if a = G.1 then none else G.2.2.2 a j)
def nI0 (G : Gt) (I : It) : It := fun a j => if a = G.1 then 0 else I a j
def cpI (I : It) (a0 a1 sp dp n : Nat) : It := fun a j => if a = a1 then va_cpy (I a0) (I a1) sp dp n j else I a j
def inb (i : Int32) (n : Nat) : Bool := decide (0 ≤ i.toInt) && decide (i.toInt < (n : Int))
def ix (i : Int32) : Nat := i.toNatClampNeg
def b01 (x : Int32) : Bool := decide (x = 0) || decide (x = 1)
def cats (st : List Value) : Nat := (st.map fun v => v.category).sum
/-- locals: nothing is stored behind a long's first half -/
def isJ (x : Option (Option Value)) : Bool := match x with
  | some (some v) => decide (v.category = 2)
  | _ => false
def sL (ls : List (Option Value)) (i : Nat) (v : Value) : Option (List (Option Value)) :=
  match decide (i < ls.length) && (decide (i = 0) || !isJ ls[i - 1]?) with
  | true => some (ls.set i (some v))
  | false => none
def sL2 (ls : List (Option Value)) (i : Nat) (v : Value) : Option (List (Option Value)) :=
  match decide (i + 1 < ls.length) && (decide (i = 0) || !isJ ls[i - 1]?) && !isJ ls[i + 1]? with
  | true => some ((ls.set i (some v)).set (i + 1) none)
  | false => none
def aL : List Value → List (Option Value)
  | [] => []
  | .long x :: vs => some (.long x) :: none :: aL vs
  | .double x :: vs => some (.double x) :: none :: aL vs
  | v :: vs => some v :: aL vs
def eL (n : Nat) (vs : List Value) : List (Option Value) := aL vs ++ List.replicate (n - (aL vs).length) none
/-- lengths of the instructions that this machine knows -/
def ilen (i : Instr) : Nat := match i with
  | .aaload | .aastore | .aload_n _ | .areturn | .arraylength | .astore_n _ | .baload | .bastore | .caload | .castore | .dup | .dup2 | .i2c | .i2l | .iadd | .iaload | .iand | .iastore | .iconst _ | .idiv | .iload_n _ | .imul | .irem | .ireturn | .istore_n _ | .isub | .ixor | .l2i | .land | .lcmp | .lconst _ | .lload_n _ | .lor | .lshl | .lshr | .lstore_n _ | .lushr | .pop | .return_ => 1
  | .aload _ | .astore _ | .bipush _ | .iload _ | .istore _ | .lload _ | .lstore _ | .newarray _ => 2
  | .anewarray _ | .getfield _ | .goto _ | .if_icmp _ _ | .ifCond _ _ | .iinc _ _ | .invokespecial _ | .invokestatic _ | .invokevirtual _ | .ldc2_w _ | .new _ | .putfield _ | .sipush _ => 3
  | _ => 0
def go (m pc : Nat) (ls : List (Option Value)) (st : List Value) (G : Gt) (I : It) : Sr := .inr (.inl (m, pc, ls, st, G, I))
def no : Sr := .inl none
def gd (c : Bool) (s : Sr) : Sr := match c with | true => s | false => no
def ldI (o : Option (Option Value)) (m pc : Nat) (ls : List (Option Value)) (st : List Value) (G : Gt) (I : It) : Sr := match o with
  | some (some (.int x)) => go m pc ls (.int x :: st) G I
  | _ => no
def ldJ (o : Option (Option Value)) (m pc : Nat) (ls : List (Option Value)) (st : List Value) (G : Gt) (I : It) : Sr := match o with
  | some (some (.long x)) => go m pc ls (.long x :: st) G I
  | _ => no
def ldA (o : Option (Option Value)) (m pc : Nat) (ls : List (Option Value)) (st : List Value) (G : Gt) (I : It) : Sr := match o with
  | some (some (.ref x)) => go m pc ls (.ref x :: st) G I
  | _ => no
def stI (i m pc : Nat) (ls : List (Option Value)) (st : List Value) (G : Gt) (I : It) : Sr := match st with
  | .int x :: rest => match sL ls i (.int x) with
    | some ls' => go m pc ls' rest G I
    | none => no
  | _ => no
def stA (i m pc : Nat) (ls : List (Option Value)) (st : List Value) (G : Gt) (I : It) : Sr := match st with
  | .ref x :: rest => match sL ls i (.ref x) with
    | some ls' => go m pc ls' rest G I
    | none => no
  | _ => no
def stJ (i m pc : Nat) (ls : List (Option Value)) (st : List Value) (G : Gt) (I : It) : Sr := match st with
  | .long x :: rest => match sL2 ls i (.long x) with
    | some ls' => go m pc ls' rest G I
    | none => no
  | _ => no
def tg (pc : Nat) (off : Int) : Nat := ((pc : Int) + off).toNat
def tgok (pc : Nat) (off : Int) : Bool := decide (0 ≤ (pc : Int) + off)
def c0 (c : Jvm.ClassFile.Cond) (x : Int32) : Bool := match c with
  | .eq => decide (x = 0) | .ne => !decide (x = 0) | .lt => decide (x < 0) | .ge => decide (0 ≤ x) | .gt => decide (0 < x) | .le => decide (x ≤ 0)
def c2 (c : Jvm.ClassFile.Cond) (x y : Int32) : Bool := match c with
  | .eq => decide (x = y) | .ne => !decide (x = y) | .lt => decide (x < y) | .ge => decide (y ≤ x) | .gt => decide (y < x) | .le => decide (x ≤ y)
def br (c : Bool) (m pc : Nat) (off : Int) (ls : List (Option Value)) (st : List Value) (G : Gt) (I : It) : Sr :=
  gd (tgok pc off) (match c with | true => go m (tg pc off) ls st G I | false => go m (pc + 3) ls st G I)
/-- what a field's kind takes -/
def pf (m o ci k : Nat) (pc : Nat) (ls : List (Option Value)) (v : Value) (st : List Value) (G : Gt) (I : It) : Sr := match fT ci k, v with
  | 0, .int x => go m pc ls st G (uI I o k x)
  | 1, .int x => gd (b01 x) (go m pc ls st G (uI I o k x))
  | 2, .ref r => go m pc ls st (uG G o k r) I
  | _, _ => no
def gf (G : Gt) (I : It) (ci o k : Nat) : Value := if fT ci k = 2 then va_rf (rf G o k) else .int (I o k)
def akd (a : ArrayType) : Nat := match a with | .int => 50 | .boolean => 51 | .char => 52 | _ => 99
/-- a call: the arguments are taken off, the rest is small, the room is there -/
def cal (m m' pc : Nat) (vs : List Value) (ls : List (Option Value)) (rest : List Value) (G : Gt) (I : It) : Sr :=
  gd (decide (cats rest ≤ 8) && (decide (pF m' + 1 ≤ pF m) && decide (8 + (pL m' + 11) + pW m' ≤ pW m) && decide ((aL vs).length ≤ pL m'))) (.inr (.inr ((m', 0, eL (pL m') vs, [], G, I), m, pc + 3, ls, rest)))
def rtI (m : Nat) (v : Int32) : Bool := decide (pR m = some .int) || (decide (pR m = some .boolean) && b01 v)
def rtA (m : Nat) : Bool := match pR m with | some (.object _) => true | some (.array _) => true | _ => false
def opc : List (Nat × Nat) := oTl
def sdi (i : Instr) (m pc : Nat) (ls : List (Option Value)) (st : List Value) (G : Gt) (I : It) : Sr := match i with
  | .iconst n => go m (pc + 1) ls (.int (Int32.ofInt n) :: st) G I
  | .bipush n => go m (pc + 2) ls (.int ((Int8.ofInt n).toInt32) :: st) G I
  | .sipush n => go m (pc + 3) ls (.int ((Int16.ofInt n).toInt32) :: st) G I
  | .lconst n => go m (pc + 1) ls (.long (Int64.ofNat (n : Nat)) :: st) G I
  | .ldc2_w k => match lL (pC m) k with
    | some v => go m (pc + 3) ls (.long v :: st) G I
    | none => no
  | .iload_n k => ldI ls[(k : Nat)]? m (pc + 1) ls st G I
  | .iload k => ldI ls[k]? m (pc + 2) ls st G I
  | .lload_n k => ldJ ls[(k : Nat)]? m (pc + 1) ls st G I
  | .lload k => ldJ ls[k]? m (pc + 2) ls st G I
  | .aload_n k => ldA ls[(k : Nat)]? m (pc + 1) ls st G I
  | .aload k => ldA ls[k]? m (pc + 2) ls st G I
  | .istore_n k => stI k m (pc + 1) ls st G I
  | .istore k => stI k m (pc + 2) ls st G I
  | .lstore_n k => stJ k m (pc + 1) ls st G I
  | .lstore k => stJ k m (pc + 2) ls st G I
  | .astore_n k => stA k m (pc + 1) ls st G I
  | .astore k => stA k m (pc + 2) ls st G I
  | .iinc k n => match ls[k]? with
    | some (some (.int x)) => match sL ls k (.int (x + Int32.ofInt n)) with
      | some ls' => go m (pc + 3) ls' st G I
      | none => no
    | _ => no
  | .iadd => match st with | .int y :: .int x :: r => go m (pc + 1) ls (.int (x + y) :: r) G I | _ => no
  | .isub => match st with | .int y :: .int x :: r => go m (pc + 1) ls (.int (x - y) :: r) G I | _ => no
  | .imul => match st with | .int y :: .int x :: r => go m (pc + 1) ls (.int (x * y) :: r) G I | _ => no
  | .iand => match st with | .int y :: .int x :: r => go m (pc + 1) ls (.int (x &&& y) :: r) G I | _ => no
  | .ixor => match st with | .int y :: .int x :: r => go m (pc + 1) ls (.int (x ^^^ y) :: r) G I | _ => no
  | .idiv => match st with | .int y :: .int x :: r => gd (!decide (y = 0)) (go m (pc + 1) ls (.int (x / y) :: r) G I) | _ => no
  | .irem => match st with | .int y :: .int x :: r => gd (!decide (y = 0)) (go m (pc + 1) ls (.int (x - x / y * y) :: r) G I) | _ => no
  | .land => match st with | .long y :: .long x :: r => go m (pc + 1) ls (.long (x &&& y) :: r) G I | _ => no
  | .lor => match st with | .long y :: .long x :: r => go m (pc + 1) ls (.long (x ||| y) :: r) G I | _ => no
  | .lshl => match st with | .int y :: .long x :: r => go m (pc + 1) ls (.long (x <<< (y.toInt64 &&& 63)) :: r) G I | _ => no
  | .lshr => match st with | .int y :: .long x :: r => go m (pc + 1) ls (.long (x >>> (y.toInt64 &&& 63)) :: r) G I | _ => no
  | .lushr => match st with | .int y :: .long x :: r => go m (pc + 1) ls (.long ((x.toUInt64 >>> (y.toInt64.toUInt64 &&& Int64.toUInt64 63)).toInt64) :: r) G I | _ => no
  | .lcmp => match st with | .long y :: .long x :: r => go m (pc + 1) ls (.int (lg_cmp x y) :: r) G I | _ => no
  | .i2l => match st with | .int x :: r => go m (pc + 1) ls (.long x.toInt64 :: r) G I | _ => no
  | .l2i => match st with | .long x :: r => go m (pc + 1) ls (.int x.toInt32 :: r) G I | _ => no
  | .i2c => match st with | .int x :: r => go m (pc + 1) ls (.int (x.toUInt32 % 65536).toInt32 :: r) G I | _ => no
  | .dup => match st with | .int x :: r => go m (pc + 1) ls (.int x :: .int x :: r) G I | .ref x :: r => go m (pc + 1) ls (.ref x :: .ref x :: r) G I | _ => no
  | .dup2 => match st with | .int x :: .ref y :: r => go m (pc + 1) ls (.int x :: .ref y :: .int x :: .ref y :: r) G I | _ => no
  | .pop => match st with | .int _ :: r => go m (pc + 1) ls r G I | _ => no
  | .goto off => gd (tgok pc off) (go m (tg pc off) ls st G I)
  | .ifCond c off => match st with | .int x :: r => br (c0 c x) m pc off ls r G I | _ => no
  | .if_icmp c off => match st with | .int y :: .int x :: r => br (c2 c x y) m pc off ls r G I | _ => no
  | .tableswitch d lo hi offs => match st with
    | .int x :: r => if x.toInt < lo ∨ hi < x.toInt then gd (tgok pc d) (go m (tg pc d) ls r G I) else match offs[(x.toInt - lo).toNat]? with
      | some off => gd (tgok pc off) (go m (tg pc off) ls r G I)
      | none => no
    | _ => no
  | .arraylength => match st with
    | .ref a :: r => gd ((decide (50 ≤ kd G a) && decide (kd G a ≤ 54)) || decide (a = 0)) (go m (pc + 1) ls (.int (Int32.ofNat (ln G a)) :: r) G I)
    | _ => no
  | .iaload => match st with
    | .int i :: .ref a :: r => gd ((decide (kd G a = 50) || decide (a = 0)) && inb i (ln G a)) (go m (pc + 1) ls (.int (I a (ix i)) :: r) G I)
    | _ => no
  | .baload => match st with
    | .int i :: .ref a :: r => gd (decide (kd G a = 51) && inb i (ln G a)) (go m (pc + 1) ls (.int (I a (ix i)) :: r) G I)
    | _ => no
  | .caload => match st with
    | .int i :: .ref a :: r => gd (decide (kd G a = 52) && inb i (ln G a)) (go m (pc + 1) ls (.int (I a (ix i)) :: r) G I)
    | _ => no
  | .aaload => match st with
    | .int i :: .ref a :: r => gd ((decide (kd G a = 53) || decide (kd G a = 54)) && inb i (ln G a)) (go m (pc + 1) ls (va_rf (rf G a (ix i)) :: r) G I)
    | _ => no
  | .iastore => match st with
    | .int x :: .int i :: .ref a :: r => gd (decide (kd G a = 50) && inb i (ln G a)) (go m (pc + 1) ls r G (uI I a (ix i) x))
    | _ => no
  | .bastore => match st with
    | .int x :: .int i :: .ref a :: r => gd (decide (kd G a = 51) && inb i (ln G a) && b01 x) (go m (pc + 1) ls r G (uI I a (ix i) x))
    | _ => no
  | .castore => match st with
    | .int x :: .int i :: .ref a :: r => gd (decide (kd G a = 52) && inb i (ln G a) && decide (0 ≤ x.toInt ∧ x.toInt ≤ 65535)) (go m (pc + 1) ls r G (uI I a (ix i) x))
    | _ => no
  | .aastore => match st with
    | .ref x :: .int i :: .ref a :: r => gd (((decide (kd G a = 53) && decide (kd G x = 1)) || (decide (kd G a = 54) && decide (kd G x = 0))) && inb i (ln G a)) (go m (pc + 1) ls r (uG G a (ix i) x) I)
    | _ => no
  | .getfield k => match st with
    | .ref o :: r => gd (decide (kd G o = (fL (pC m) k).1) && decide ((fL (pC m) k).1 < 8)) (go m (pc + 3) ls (gf G I (fL (pC m) k).1 o (fL (pC m) k).2 :: r) G I)
    | _ => no
  | .putfield k => match st with
    | v :: .ref o :: r => gd (decide (kd G o = (fL (pC m) k).1) && decide ((fL (pC m) k).1 < 8) && (!fF (fL (pC m) k).1 (fL (pC m) k).2 || (decide (pK m = 2) && decide (pC m = (fL (pC m) k).1)))) (pf m o (fL (pC m) k).1 (fL (pC m) k).2 (pc + 3) ls v r G I)
    | _ => no
  | .new k => gd (decide (kL (pC m) k < 8)) (go m (pc + 3) ls (.ref G.1 :: st) (nG G (kL (pC m) k) (clN (kL (pC m) k))) (nI0 G I))
  | .newarray t => match st with
    | .int n :: r => gd (decide (akd t < 60) && decide (0 ≤ n.toInt ∧ n.toInt ≤ 1000)) (go m (pc + 2) ls (.ref G.1 :: r) (nG G (akd t) (ix n)) (nI0 G I))
    | _ => no
  | .anewarray k => match st with
    | .int n :: r => gd (decide (kL (pC m) k ≤ 1) && decide (0 ≤ n.toInt ∧ n.toInt ≤ 1000)) (go m (pc + 3) ls (.ref G.1 :: r) (nG G (54 - kL (pC m) k) (ix n)) (nI0 G I))
    | _ => no
  | .invokevirtual k => match (mL (pC m) k).2, st.drop (pN (mL (pC m) k).1) with
    | 0, .ref b :: rest => gd (decide (kd G b = pC (mL (pC m) k).1) && decide ((st.take (pN (mL (pC m) k).1)).length = pN (mL (pC m) k).1)) (cal m (mL (pC m) k).1 pc (.ref b :: (st.take (pN (mL (pC m) k).1)).reverse) ls rest G I)
    | _, _ => no
  | .invokestatic k =>
    if (pC m, k) ∈ aTl then match st with
      | .int n :: .int dp :: .ref a1 :: .int sp :: .ref a0 :: rest => gd (decide (cats rest ≤ 8) && decide (1 ≤ pF m) && decide (26 ≤ pW m) && (decide (kd G a0 = kd G a1) && decide (kd G a0 = 50)) && decide (0 ≤ sp.toInt) && decide (0 ≤ dp.toInt) && decide (0 ≤ n.toInt) && decide (ix sp + ix n ≤ ln G a0) && decide (ix dp + ix n ≤ ln G a1)) (go m (pc + 3) ls rest G (cpI I a0 a1 (ix sp) (ix dp) (ix n)))
      | _ => no
    else gd (decide ((mL (pC m) k).2 = 1 ∨ (mL (pC m) k).2 = 3) && decide ((st.take (pN (mL (pC m) k).1)).length = pN (mL (pC m) k).1)) (cal m (mL (pC m) k).1 pc ((st.take (pN (mL (pC m) k).1)).reverse) ls (st.drop (pN (mL (pC m) k).1)) G I)
  | .invokespecial k =>
    if (pC m, k) ∈ oTl then match st with
      | .ref _ :: rest => gd (decide (cats rest ≤ 8) && decide (1 ≤ pF m) && decide (20 ≤ pW m)) (go m (pc + 3) ls rest G I)
      | _ => no
    else match st.drop (pN (mL (pC m) k).1) with
      | .ref b :: rest => gd (decide ((mL (pC m) k).2 = 2 ∨ (mL (pC m) k).2 = 4) && decide ((st.take (pN (mL (pC m) k).1)).length = pN (mL (pC m) k).1)) (cal m (mL (pC m) k).1 pc (.ref b :: (st.take (pN (mL (pC m) k).1)).reverse) ls rest G I)
      | _ => no
  | .ireturn => match st with | [.int v] => gd (rtI m v) (.inl (some (some (.int v), G, I))) | _ => no
  | .areturn => match st with | [.ref v] => gd (rtA m) (.inl (some (some (.ref v), G, I))) | _ => no
  | .return_ => match st with | [] => gd (decide (pR m = none)) (.inl (some (none, G, I))) | _ => no
  | _ => no
def sd (c : Cf) : Sr := match decode (pB c.1) c.2.1 with
  | .ok (i, n) => gd (decide (ilen i = n) || (match i with | .tableswitch _ _ _ _ => true | _ => false)) (sdi i c.1 c.2.1 c.2.2.1 c.2.2.2.1 c.2.2.2.2.1 c.2.2.2.2.2)
  | _ => no
def rn (g : Cf → Option Rs) (s : Sr) : Option Rs := match s with
  | .inl r => r
  | .inr (.inl c') => g c'
  | .inr (.inr (c', m, pc, ls, rest)) => match g c' with
    | none => none
    | some x => g (m, pc, ls, x.1.toList ++ rest, x.2.1, x.2.2)
def run : Nat → Cf → Option Rs
  | 0, _ => none
  | f + 1, c => rn (run f) (sd c)
theorem run_mono : ∀ (f : Nat) (c : Cf) (x : Rs), run f c = some x → run (f + 1) c = some x := by
  intro f
  induction f with
  | zero => intro c x h; simp [run] at h
  | succ f ih =>
    intro c x h
    rw [run] at h ⊢
    cases hs : sd c with
    | inl r => rw [hs] at h; exact h
    | inr q =>
      cases q with
      | inl c' => rw [hs] at h; exact ih c' x h
      | inr q =>
        obtain ⟨c', m, pc, ls, rest⟩ := q
        rw [hs] at h
        simp only [rn] at h ⊢
        cases hr : run f c' with
        | none => rw [hr] at h; cases h
        | some y =>
          rw [hr] at h
          rw [ih c' y hr]
          exact ih _ x h
theorem run_le {f g : Nat} (h : f ≤ g) {c : Cf} {x : Rs} (hr : run f c = some x) : run g c = some x := by
  induction h with
  | refl => exact hr
  | step _ ih => exact run_mono _ _ _ ih
theorem run_det {f g : Nat} {c : Cf} {x y : Rs} (h1 : run f c = some x) (h2 : run g c = some y) : x = y := by
  have a := run_le (Nat.le_max_left f g) h1
  have b := run_le (Nat.le_max_right f g) h2
  rw [a] at b
  exact Option.some.inj b
/-- what a run comes to, however long it takes -/
noncomputable def ev (c : Cf) : Option Rs := @dite _ (∃ x, ∃ f, run f c = some x) (Classical.propDecidable _) (fun h => some (Classical.choose h)) (fun _ => none)
theorem ev_iff {c : Cf} {x : Rs} : ev c = some x ↔ ∃ f, run f c = some x := by
  unfold ev
  by_cases h : ∃ x, ∃ f, run f c = some x
  · rw [dif_pos h]
    have hc := Classical.choose_spec h
    constructor
    · intro e
      rw [← Option.some.inj e]
      exact hc
    · rintro ⟨f, hf⟩
      obtain ⟨g, hg⟩ := hc
      rw [run_det hg hf]
  · rw [dif_neg h]
    constructor
    · intro e; cases e
    · intro e; exact absurd ⟨x, e⟩ h
theorem opt_ext {α : Type} {a b : Option α} (h : ∀ x, a = some x ↔ b = some x) : a = b := by
  cases a with
  | none =>
    cases b with
    | none => rfl
    | some y => exact absurd ((h y).mpr rfl) (by simp)
  | some x => exact ((h x).mp rfl).symm
theorem ev_ret {c : Cf} {r : Option Rs} (h : sd c = .inl r) : ev c = r := by
  refine opt_ext fun x => ?_
  rw [ev_iff]
  constructor
  · rintro ⟨f, hf⟩
    cases f with
    | zero => simp [run] at hf
    | succ f => rw [run, h] at hf; exact hf
  · intro e
    exact ⟨1, by rw [run, h]; exact e⟩
theorem ev_go {c c' : Cf} (h : sd c = .inr (.inl c')) : ev c = ev c' := by
  refine opt_ext fun x => ?_
  rw [ev_iff, ev_iff]
  constructor
  · rintro ⟨f, hf⟩
    cases f with
    | zero => simp [run] at hf
    | succ f => rw [run, h] at hf; exact ⟨f, hf⟩
  · rintro ⟨f, hf⟩
    exact ⟨f + 1, by rw [run, h]; exact hf⟩
theorem ev_call {c c' : Cf} {m pc : Nat} {ls : List (Option Value)} {rest : List Value} (h : sd c = .inr (.inr (c', m, pc, ls, rest))) : ev c = (ev c').bind (fun x => ev (m, pc, ls, x.1.toList ++ rest, x.2.1, x.2.2)) := by
  refine opt_ext fun x => ?_
  rw [ev_iff, Option.bind_eq_some_iff]
  constructor
  · rintro ⟨f, hf⟩
    cases f with
    | zero => simp [run] at hf
    | succ f =>
      rw [run, h] at hf
      simp only [rn] at hf
      cases hr : run f c' with
      | none => rw [hr] at hf; cases hf
      | some y =>
        rw [hr] at hf
        exact ⟨y, ev_iff.mpr ⟨f, hr⟩, ev_iff.mpr ⟨f, hf⟩⟩
  · rintro ⟨y, h1, h2⟩
    obtain ⟨f, hf⟩ := ev_iff.mp h1
    obtain ⟨g, hg⟩ := ev_iff.mp h2
    refine ⟨max f g + 1, ?_⟩
    rw [run, h]
    simp only [rn]
    rw [run_le (Nat.le_max_left f g) hf]
    exact run_le (Nat.le_max_right f g) hg
end
section
/-! ===== the machine's heap as the small machine's: addresses, cells ===== -/
/-- what is known of the launch: the classes' numbers and slots, the array classes' numbers, the script's cell, the first cell of ours, the script's length and contents -/
abbrev KT : Type := va_G × (Nat → ClassId) × Nat × Nat × Nat × (Nat → Int32)
def kD (K : KT) : va_G := K.1
def kA (K : KT) : Nat → ClassId := K.2.1
def kb (K : KT) : Nat := K.2.2.1
def kB (K : KT) : Nat := K.2.2.2.1
def kLn (K : KT) : Nat := K.2.2.2.2.1
def kX (K : KT) : Nat → Int32 := K.2.2.2.2.2
def tysK (K : KT) : List (ClassId × FieldType) := [(kA K 0, .int), (kA K 1, .boolean), (kA K 2, .char), (kA K 3, .object RX1), (kA K 4, .object RX0)]
def ad (K : KT) (o : Nat) : Nat := if o = 0 then kb K else kB K + (o - 1)
def tr (K : KT) : Value → Value
  | .ref a => .ref (ad K a)
  | v => v
def kfr (K : KT) : Nat → Prop := fun q => kB K ≤ q
def fvl (K : KT) (c : Nat) (G : Gt) (I : It) (o k : Nat) : Value := if fT c k = 2 then va_rf ((rf G o k).map (ad K)) else .int (I o k)
def elt (K : KT) (G : Gt) (I : It) (o : Nat) : va_E :=
  if (G.2.2.1 o).1 < 50 then .inr ((G.2.2.1 o).1, (List.range (clN (G.2.2.1 o).1)).map (fvl K (G.2.2.1 o).1 G I o))
  else if (G.2.2.1 o).1 < 53 then .inl (kA K ((G.2.2.1 o).1 - 50), (G.2.2.1 o).2, .inl (I o))
  else .inl (kA K ((G.2.2.1 o).1 - 50), (G.2.2.1 o).2, .inr (.inr (.inr (.inr (fun j => (rf G o j).map (ad K))))))
def wsO (K : KT) (G : Gt) (I : It) : va_W := (List.range (G.1 - 1)).map (fun k => (ad K (k + 1), elt K G I (k + 1)))
def HP (K : KT) (G : Gt) (I : It) (H : Heap) : Prop := va_P (kD K) vwCl (wsO K G I) H ∧ H.size + 1 = kB K + G.1 ∧ 1 ≤ G.1 ∧ G.2.2.1 0 = (60, kLn K) ∧ I 0 = kX K
theorem rmap_get {α : Type} (N k : Nat) (f : Nat → α) (h : k < N) : ((List.range N).map f)[k]? = some (f k) := by
  rw [List.getElem?_map, List.getElem?_range h]; rfl
theorem rmap_set {α : Type} (N k : Nat) (f f' : Nat → α) (v : α) (h1 : f' k = v) (h2 : ∀ j, j ≠ k → f' j = f j) : ((List.range N).map f).set k v = (List.range N).map f' := by
  apply List.ext_getElem?
  intro i
  rw [List.getElem?_set]
  by_cases hi : k = i
  · subst hi
    rw [if_pos rfl]
    by_cases hl : k < N
    · rw [if_pos (by simpa using hl), rmap_get N k f' hl, h1]
    · rw [if_neg (by simpa using hl), List.getElem?_eq_none (by simpa using hl)]
  · rw [if_neg hi]
    by_cases hl : i < N
    · rw [rmap_get N i f hl, rmap_get N i f' hl, h2 i (Ne.symm hi)]
    · rw [List.getElem?_eq_none (by simpa using hl), List.getElem?_eq_none (by simpa using hl)]
theorem ad_pos {K : KT} {o : Nat} (h : 0 < o) : ad K o = kB K + (o - 1) := by unfold ad; rw [if_neg (by omega)]
theorem wsO_D (K : KT) (G : Gt) (I : It) : va_D (kfr K) (wsO K G I) := by
  have key : ∀ (k : Nat) (q : Nat × va_E), (wsO K G I)[k]? = some q → q.1 = kB K + k := by
    intro k q h
    have hl : k < G.1 - 1 := by
      have := (List.getElem?_eq_some_iff.mp h).1
      simpa [wsO] using this
    unfold wsO at h
    rw [rmap_get _ _ _ hl] at h
    rw [← Option.some.inj h]
    show ad K (k + 1) = _
    rw [ad_pos (Nat.succ_pos k)]
    simp
  refine ⟨fun i j p q h1 h2 h3 => ?_, fun k q h => ?_⟩
  · have a1 := key i p h1
    have a2 := key j q h2
    omega
  · show kB K ≤ q.1
    rw [key k q h]
    omega
theorem kd_spec {G : Gt} {o c : Nat} (h : kd G o = c) (h0 : c ≠ 60) (h9 : c ≠ 99) : 0 < o ∧ o < G.1 ∧ (G.2.2.1 o).1 = c := by
  unfold kd at h
  by_cases a : o = 0
  · rw [if_pos a] at h; exact absurd h.symm h0
  · rw [if_neg a] at h
    by_cases e : o < G.1
    · rw [if_pos e] at h; exact ⟨by omega, e, h⟩
    · rw [if_neg e] at h; exact absurd h.symm h9
theorem wsO_get {K : KT} {G : Gt} {I : It} {o : Nat} (h0 : 0 < o) (h : o < G.1) : (wsO K G I)[o - 1]? = some (ad K o, elt K G I o) := by
  unfold wsO
  rw [rmap_get _ _ _ (by omega)]
  simp only [Nat.sub_add_cancel h0]
theorem wsO_set {K : KT} {G G' : Gt} {I I' : It} {o : Nat} {e : va_E} (h0 : 0 < o) (hn : G'.1 = G.1) (he : elt K G' I' o = e) (hne : ∀ j, j ≠ o → elt K G' I' j = elt K G I j) : (wsO K G I).set (o - 1) (ad K o, e) = wsO K G' I' := by
  unfold wsO
  rw [hn]
  refine rmap_set _ _ _ _ _ ?_ fun j hj => ?_
  · simp only [Nat.sub_add_cancel h0, he]
  · rw [hne (j + 1) (by omega)]
theorem wsO_push {K : KT} {G G' : Gt} {I I' : It} {e : va_E} (h1 : 1 ≤ G.1) (hn : G'.1 = G.1 + 1) (he : elt K G' I' G.1 = e) (hne : ∀ j, j ≠ G.1 → elt K G' I' j = elt K G I j) : wsO K G' I' = wsO K G I ++ [(ad K G.1, e)] := by
  unfold wsO
  rw [hn, show G.1 + 1 - 1 = (G.1 - 1) + 1 by omega, List.range_succ, List.map_append]
  congr 1
  · apply List.map_congr_left
    intro k hk
    have := List.mem_range.mp hk
    rw [hne (k + 1) (by omega)]
  · simp only [List.map_cons, List.map_nil, Nat.sub_add_cancel h1, he]
theorem elt_obj {K : KT} {G : Gt} {I : It} {o c : Nat} (h : (G.2.2.1 o).1 = c) (hc : c < 8) : elt K G I o = .inr (c, (List.range (clN c)).map (fvl K c G I o)) := by
  unfold elt; rw [h, if_pos (by omega)]
theorem elt_int {K : KT} {G : Gt} {I : It} {o c : Nat} (h : (G.2.2.1 o).1 = c) (h1 : 50 ≤ c) (h2 : c < 53) : elt K G I o = .inl (kA K (c - 50), ln G o, .inl (I o)) := by
  unfold elt; rw [h, if_neg (by omega), if_pos h2]; rfl
theorem elt_ref {K : KT} {G : Gt} {I : It} {o c : Nat} (h : (G.2.2.1 o).1 = c) (h1 : 53 ≤ c) : elt K G I o = .inl (kA K (c - 50), ln G o, .inr (.inr (.inr (.inr (fun j => (rf G o j).map (ad K)))))) := by
  unfold elt; rw [h, if_neg (by omega), if_neg (by omega)]; rfl
/-- what is not written stays -/
theorem elt_same {K : KT} {G G' : Gt} {I I' : It} {o : Nat} (hk : G'.2.2.1 o = G.2.2.1 o) (hr : ∀ k, rf G' o k = rf G o k) (hI : I' o = I o) : elt K G' I' o = elt K G I o := by
  have e : fvl K (G.2.2.1 o).1 G' I' o = fvl K (G.2.2.1 o).1 G I o := by
    funext k
    unfold fvl
    rw [hr k, hI]
  unfold elt
  rw [hk, hI, e]
  simp only [hr]
theorem uI_o (I : It) (o k : Nat) (x : Int32) (a : Nat) (h : a ≠ o) : uI I o k x a = I a := by funext j; unfold uI; rw [if_neg h]
theorem uI_self (I : It) (o k : Nat) (x : Int32) : uI I o k x o = upd (I o) k x := by funext j; unfold uI upd; rw [if_pos rfl]
theorem wsP_lt {K : KT} {G : Gt} {I : It} {H : Heap} (h : va_P (kD K) vwCl (wsO K G I) H) (h2 : 2 ≤ G.1) : kB K + G.1 ≤ H.size + 1 := by
  have h1 := (h _ _ (wsO_get (o := G.1 - 1) (by omega) (by omega))).lt
  have h3 : ad K (G.1 - 1) < H.size := h1
  rw [ad_pos (by omega)] at h3
  omega
theorem HP_mk {K : KT} {G G' : Gt} {I I' : It} {H H1 : Heap} (h : HP K G I H) (hn : G'.1 = G.1) (h2 : 2 ≤ G.1) (hz : H1.size ≤ H.size) (h0 : G'.2.2.1 0 = G.2.2.1 0) (hI : I' 0 = I 0) (hp : va_P (kD K) vwCl (wsO K G' I') H1) : HP K G' I' H1 := by
  have := wsP_lt hp (by omega)
  have := h.2.1
  exact ⟨hp, by omega, by omega, h0.trans h.2.2.2.1, hI.trans h.2.2.2.2⟩
/-- an int array's store -/
theorem HP_ast {K : KT} {G : Gt} {I : It} {H : Heap} {a c k : Nat} {x : Int32} (h : HP K G I H) (ha : kd G a = c) (h1 : 50 ≤ c) (h2 : c < 53) :
    ∀ H1 : Heap, H1.size ≤ H.size → va_P (kD K) vwCl ((wsO K G I).set (a - 1) (ad K a, .inl (kA K (c - 50), ln G a, .inl (upd (I a) k x)))) H1 → HP K G (uI I a k x) H1 := by
  obtain ⟨p0, p1, p2⟩ := kd_spec ha (by omega) (by omega)
  intro H1 hz hp
  refine HP_mk (G' := G) h rfl (by omega) hz rfl (uI_o I a k x 0 (by omega)) ?_
  · rw [← wsO_set (G' := G) (I' := uI I a k x) p0 rfl (e := .inl (kA K (c - 50), ln G a, .inl (upd (I a) k x))) (by rw [elt_int p2 h1 h2, uI_self]) (fun j hj => elt_same rfl (fun _ => rfl) (uI_o I a k x j hj))]
    exact hp
theorem HP_acp {K : KT} {G : Gt} {I : It} {H : Heap} {a0 a c sp dp n : Nat} (h : HP K G I H) (ha : kd G a = c) (h1 : 50 ≤ c) (h2 : c < 53) :
    ∀ H1 : Heap, H1.size ≤ H.size → va_P (kD K) vwCl ((wsO K G I).set (a - 1) (ad K a, .inl (kA K (c - 50), ln G a, .inl (va_cpy (I a0) (I a) sp dp n)))) H1 → HP K G (cpI I a0 a sp dp n) H1 := by
  obtain ⟨p0, p1, p2⟩ := kd_spec ha (by omega) (by omega)
  have hs : cpI I a0 a sp dp n a = va_cpy (I a0) (I a) sp dp n := by funext j; unfold cpI; rw [if_pos rfl]
  have ho : ∀ z, z ≠ a → cpI I a0 a sp dp n z = I z := fun z hz => by funext j; unfold cpI; rw [if_neg hz]
  intro H1 hz hp
  refine HP_mk (G' := G) h rfl (by omega) hz rfl (ho 0 (by omega)) ?_
  · rw [← wsO_set (G' := G) (I' := cpI I a0 a sp dp n) p0 rfl (e := .inl (kA K (c - 50), ln G a, .inl (va_cpy (I a0) (I a) sp dp n))) (by rw [elt_int p2 h1 h2, hs]) (fun j hj => elt_same rfl (fun _ => rfl) (ho j hj))]
    exact hp
/-- a field's store: an int -/
theorem HP_pi {K : KT} {G : Gt} {I : It} {H : Heap} {o c k : Nat} {x : Int32} (h : HP K G I H) (ho : kd G o = c) (hc : c < 8) (ht : fT c k ≠ 2) :
    ∀ H1 : Heap, H1.size ≤ H.size → va_P (kD K) vwCl ((wsO K G I).set (o - 1) (ad K o, .inr (c, ((List.range (clN c)).map (fvl K c G I o)).set k (.int x)))) H1 → HP K G (uI I o k x) H1 := by
  obtain ⟨p0, p1, p2⟩ := kd_spec ho (by omega) (by omega)
  intro H1 hz hp
  refine HP_mk (G' := G) h rfl (by omega) hz rfl (uI_o I o k x 0 (by omega)) ?_
  · rw [rmap_set (clN c) k _ (fvl K c G (uI I o k x) o) (.int x) (by unfold fvl; rw [if_neg ht]; unfold uI; rw [if_pos rfl, if_pos rfl]) (fun j hj => by unfold fvl uI; rw [if_pos rfl, if_neg hj])] at hp
    rw [← wsO_set (G' := G) (I' := uI I o k x) p0 rfl (elt_obj p2 hc) (fun j hj => elt_same rfl (fun _ => rfl) (uI_o I o k x j hj))]
    exact hp
theorem rf_uG (G : Gt) (o k r a j : Nat) : rf (uG G o k r) a j = if a = o then (if j = k then some r else rf G a j) else rf G a j := rfl
/-- a field's store: a reference -/
theorem HP_pr {K : KT} {G : Gt} {I : It} {H : Heap} {o c k r : Nat} (h : HP K G I H) (ho : kd G o = c) (hc : c < 8) (ht : fT c k = 2) :
    ∀ H1 : Heap, H1.size ≤ H.size → va_P (kD K) vwCl ((wsO K G I).set (o - 1) (ad K o, .inr (c, ((List.range (clN c)).map (fvl K c G I o)).set k (.ref (ad K r))))) H1 → HP K (uG G o k r) I H1 := by
  obtain ⟨p0, p1, p2⟩ := kd_spec ho (by omega) (by omega)
  intro H1 hz hp
  refine HP_mk (G' := uG G o k r) h rfl (by omega) hz rfl rfl ?_
  rw [rmap_set (clN c) k _ (fvl K c (uG G o k r) I o) (.ref (ad K r)) (by unfold fvl; rw [if_pos ht, rf_uG, if_pos rfl, if_pos rfl]; rfl) (fun j hj => by unfold fvl; rw [rf_uG, if_pos rfl, if_neg hj])] at hp
  rw [← wsO_set (G := G) (I := I) (G' := uG G o k r) (I' := I) p0 rfl (elt_obj (G := uG G o k r) p2 hc) (fun j hj => elt_same rfl (fun z => by rw [rf_uG, if_neg hj]) rfl)]
  exact hp
/-- an array's store: a reference -/
theorem HP_ar {K : KT} {G : Gt} {I : It} {H : Heap} {o c k r : Nat} (h : HP K G I H) (ho : kd G o = c) (h1 : 53 ≤ c) (h2 : c ≤ 54) :
    ∀ H1 : Heap, H1.size ≤ H.size → va_P (kD K) vwCl ((wsO K G I).set (o - 1) (ad K o, .inl (kA K (c - 50), ln G o, .inr (.inr (.inr (.inr (va_up (fun j => (rf G o j).map (ad K)) k (some (ad K r))))))))) H1 → HP K (uG G o k r) I H1 := by
  obtain ⟨p0, p1, p2⟩ := kd_spec ho (by omega) (by omega)
  intro H1 hz hp
  refine HP_mk (G' := uG G o k r) h rfl (by omega) hz rfl rfl ?_
  have e : (fun j => (rf (uG G o k r) o j).map (ad K)) = va_up (fun j => (rf G o j).map (ad K)) k (some (ad K r)) := by
    funext j
    rw [rf_uG, if_pos rfl]
    unfold va_up
    by_cases hj : j = k
    · rw [if_pos hj, if_pos hj]; rfl
    · rw [if_neg hj, if_neg hj]
  rw [← wsO_set (G := G) (I := I) (G' := uG G o k r) (I' := I) (e := .inl (kA K (c - 50), ln G o, .inr (.inr (.inr (.inr (va_up (fun j => (rf G o j).map (ad K)) k (some (ad K r)))))))) p0 rfl (by rw [elt_ref (G := uG G o k r) p2 h1, e]; rfl) (fun j hj => elt_same rfl (fun z => by rw [rf_uG, if_neg hj]) rfl)]
  exact hp
theorem nG_kd (G : Gt) (kk len a : Nat) (h : a ≠ G.1) : (nG G kk len).2.2.1 a = G.2.2.1 a := by unfold nG; simp only [if_neg h]
theorem nG_rf (G : Gt) (kk len a j : Nat) (h : a ≠ G.1) : rf (nG G kk len) a j = rf G a j := by unfold nG rf; simp only [if_neg h]
theorem nG_new (G : Gt) (kk len : Nat) : (nG G kk len).2.2.1 G.1 = (kk, len) := by unfold nG; simp only [if_true]
theorem nG_rf0 (G : Gt) (kk len j : Nat) : rf (nG G kk len) G.1 j = none := by unfold nG rf; simp only [if_true]
theorem nI0_o (G : Gt) (I : It) (a : Nat) (h : a ≠ G.1) : nI0 G I a = I a := by funext j; unfold nI0; rw [if_neg h]
theorem nI0_new (G : Gt) (I : It) : nI0 G I G.1 = fun _ => 0 := by funext j; unfold nI0; rw [if_pos rfl]
theorem HP_new {K : KT} {G : Gt} {I : It} {H : Heap} {kk len : Nat} {e : va_E} (h : HP K G I H) (he : elt K (nG G kk len) (nI0 G I) G.1 = e) :
    ∀ (q : Nat) (H1 : Heap), H1.size ≤ H.size + 1 → va_D (kfr K) (wsO K G I ++ [(q, e)]) → va_P (kD K) vwCl (wsO K G I ++ [(q, e)]) H1 → q = ad K G.1 ∧ HP K (nG G kk len) (nI0 G I) H1 := by
  intro q H1 hz hd hp
  have h21 := h.2.1
  have h31 := h.2.2.1
  have hlen : (wsO K G I).length = G.1 - 1 := by unfold wsO; rw [List.length_map, List.length_range]
  have hq1 : (wsO K G I ++ [(q, e)])[G.1 - 1]? = some (q, e) := by rw [List.getElem?_append_right (by omega), hlen, Nat.sub_self]; rfl
  have hq : q = ad K G.1 := by
    rw [ad_pos (by omega)]
    have g1 : kB K ≤ q := hd.2 _ _ hq1
    have g2 : q < H1.size := (hp _ _ hq1).lt
    rcases Nat.lt_or_ge q (kB K + (G.1 - 1)) with g3 | g3
    · have hk : (wsO K G I ++ [(q, e)])[q - kB K]? = some (ad K (q - kB K + 1), elt K G I (q - kB K + 1)) := by
        rw [List.getElem?_append_left (by omega)]
        exact wsO_get (o := q - kB K + 1) (by omega) (by omega)
      have := hd.1 _ _ _ _ hk hq1 (by show ad K (q - kB K + 1) = q; rw [ad_pos (by omega)]; omega)
      omega
    · omega
  subst hq
  have hpp : va_P (kD K) vwCl (wsO K (nG G kk len) (nI0 G I)) H1 := by
    rw [wsO_push (G' := nG G kk len) (I' := nI0 G I) h.2.2.1 rfl he (fun j hj => elt_same (nG_kd G kk len j hj) (fun z => nG_rf G kk len j z hj) (nI0_o G I j hj))]
    exact hp
  have hl := wsP_lt hpp (show 2 ≤ G.1 + 1 by omega)
  have hl : kB K + (G.1 + 1) ≤ H1.size + 1 := hl
  refine ⟨rfl, hpp, ?_, ?_, ?_, ?_⟩
  · show H1.size + 1 = kB K + (G.1 + 1)
    omega
  · show 1 ≤ G.1 + 1
    omega
  · rw [nG_kd G kk len 0 (by omega)]; exact h.2.2.2.1
  · rw [nI0_o G I 0 (by omega)]; exact h.2.2.2.2
theorem HP_ad {K : KT} {G : Gt} {I : It} {H : Heap} (h : HP K G I H) : ad K G.1 = H.size := by
  rw [ad_pos (by have := h.2.2.1; omega)]
  have := h.2.1
  have := h.2.2.1
  omega
/-! the locals -/
def lp (K : KT) (als : List (Option Value)) : List (Nat × Value) := (List.range als.length).filterMap (fun i => match als[i]? with
  | some (some v) => some (i, tr K v)
  | _ => none)
theorem lp_mem {K : KT} {als : List (Option Value)} {q : Nat × Value} : q ∈ lp K als ↔ ∃ v, als[q.1]? = some (some v) ∧ q.2 = tr K v := by
  unfold lp
  rw [List.mem_filterMap]
  constructor
  · rintro ⟨i, -, h⟩
    cases hv : als[i]? with
    | none => rw [hv] at h; cases h
    | some o =>
      cases o with
      | none => rw [hv] at h; cases h
      | some v =>
        rw [hv] at h
        rw [← Option.some.inj h]
        exact ⟨v, hv, rfl⟩
  · rintro ⟨v, h1, h2⟩
    refine ⟨q.1, List.mem_range.mpr (List.getElem?_eq_some_iff.mp h1).1, ?_⟩
    rw [h1]
    show some (q.1, tr K v) = some q
    rw [← h2]
def LO (K : KT) (als : List (Option Value)) (ls : Array Slot) : Prop := lv_has ls als.length (lp K als)
theorem LO_at {K : KT} {als : List (Option Value)} {ls : Array Slot} (h : LO K als ls) {i : Nat} {v : Value} (hv : als[i]? = some (some v)) : ls[i]? = some (.val (tr K v)) := by
  obtain ⟨k, hk⟩ := List.getElem?_of_mem (lp_mem.mpr ⟨v, hv, rfl⟩ : (i, tr K v) ∈ lp K als)
  exact lv_at h k hk
theorem tr_cat (K : KT) (v : Value) : (tr K v).category = v.category := by cases v <;> rfl
theorem LO_st {K : KT} {als : List (Option Value)} {ls : Array Slot} {i : Nat} {v : Value} {als' : List (Option Value)} (hs : sL als i v = some als') (h : lv_has ls als.length ((i, tr K v) :: (lp K als).filter (fun q => !(q.1 == i) && !(q.1 + 1 == i && q.2.category == 2)))) : LO K als' ls := by
  unfold sL at hs
  split at hs
  · rename_i hc
    simp only [Bool.and_eq_true, decide_eq_true_eq, Bool.or_eq_true, Bool.not_eq_true'] at hc
    have hs := Option.some.inj hs
    subst hs
    obtain ⟨h1, h2, h3⟩ := h
    refine ⟨by rw [List.length_set]; exact h1, h2, fun q hq => ?_⟩
    obtain ⟨w, hw, e⟩ := lp_mem.mp hq
    by_cases hqi : q.1 = i
    · rw [hqi, List.getElem?_set_self hc.1] at hw
      have hw := Option.some.inj (Option.some.inj hw)
      subst hw
      have hqe : q = (i, tr K v) := by rw [← hqi, ← e]
      exact h3 q (hqe ▸ List.mem_cons_self)
    · rw [List.getElem?_set_ne (Ne.symm hqi)] at hw
      refine h3 q (List.mem_cons_of_mem _ (List.mem_filter.mpr ⟨lp_mem.mpr ⟨w, hw, e⟩, ?_⟩))
      simp only [Bool.and_eq_true, Bool.not_eq_true', beq_eq_false_iff_ne, ne_eq, Bool.and_eq_false_iff]
      refine ⟨hqi, ?_⟩
      by_cases hq1 : q.1 + 1 = i
      · right
        intro hcat
        rw [e, tr_cat] at hcat
        rcases hc.2 with hz | hz
        · omega
        · have : als[i - 1]? = some (some w) := by rw [← hq1, Nat.add_sub_cancel]; exact hw
          rw [this] at hz
          simp [isJ, hcat] at hz
      · left; exact hq1
  · cases hs
theorem LO_st2 {K : KT} {als : List (Option Value)} {ls : Array Slot} {i : Nat} {v : Value} {als' : List (Option Value)} (hs : sL2 als i v = some als') (h : lv_has ls als.length ((i, tr K v) :: (lp K als).filter (fun q => !(q.1 == i) && (!(q.1 == i + 1) && !(q.1 + 1 == i && q.2.category == 2))))) : LO K als' ls := by
  unfold sL2 at hs
  split at hs
  · rename_i hc
    simp only [Bool.and_eq_true, decide_eq_true_eq, Bool.or_eq_true, Bool.not_eq_true'] at hc
    have hs := Option.some.inj hs
    subst hs
    obtain ⟨h1, h2, h3⟩ := h
    refine ⟨by rw [List.length_set, List.length_set]; exact h1, h2, fun q hq => ?_⟩
    obtain ⟨w, hw, e⟩ := lp_mem.mp hq
    by_cases hqj : q.1 = i + 1
    · rw [hqj, List.getElem?_set_self (by rw [List.length_set]; exact hc.1.1)] at hw
      cases hw
    rw [List.getElem?_set_ne (Ne.symm hqj)] at hw
    by_cases hqi : q.1 = i
    · rw [hqi, List.getElem?_set_self (by omega)] at hw
      have hw := Option.some.inj (Option.some.inj hw)
      subst hw
      have hqe : q = (i, tr K v) := by rw [← hqi, ← e]
      exact h3 q (hqe ▸ List.mem_cons_self)
    · rw [List.getElem?_set_ne (Ne.symm hqi)] at hw
      refine h3 q (List.mem_cons_of_mem _ (List.mem_filter.mpr ⟨lp_mem.mpr ⟨w, hw, e⟩, ?_⟩))
      simp only [Bool.and_eq_true, Bool.not_eq_true', beq_eq_false_iff_ne, ne_eq, Bool.and_eq_false_iff]
      refine ⟨hqi, hqj, ?_⟩
      by_cases hq1 : q.1 + 1 = i
      · right
        intro hcat
        rw [e, tr_cat] at hcat
        rcases hc.1.2 with hz | hz
        · omega
        · have : als[i - 1]? = some (some w) := by rw [← hq1, Nat.add_sub_cancel]; exact hw
          rw [this] at hz
          simp [isJ, hcat] at hz
      · left; exact hq1
  · cases hs
theorem aL_sl (K : KT) (vs : List Value) : (aL vs).length = (lg_sl (vs.map (tr K))).length := by
  induction vs with
  | nil => rfl
  | cons v vs ih => cases v <;> simp [aL, lg_sl, tr, Value.category] at ih ⊢ <;> omega
theorem aL_in (K : KT) (vs : List Value) : ∀ (o i : Nat) (v : Value), (aL vs)[i]? = some (some v) → (o + i, tr K v) ∈ lv_args o (vs.map (tr K)) := by
  induction vs with
  | nil => intro o i v h; simp [aL] at h
  | cons w vs ih =>
    intro o i v h
    have one : ∀ (hw : w.category ≠ 2), (some w :: aL vs)[i]? = some (some v) → (o + i, tr K v) ∈ lv_args o ((w :: vs).map (tr K)) := by
      intro hw h
      rw [List.map_cons, lv_args, if_neg (by rw [tr_cat]; exact hw)]
      cases i with
      | zero => simp at h; rw [← h]; exact List.mem_cons_self
      | succ i =>
        rw [List.getElem?_cons_succ] at h
        have := ih (o + 1) i v h
        rw [show o + (i + 1) = o + 1 + i by omega]
        exact List.mem_cons_of_mem _ this
    have two : ∀ (hw : w.category = 2), (some w :: none :: aL vs)[i]? = some (some v) → (o + i, tr K v) ∈ lv_args o ((w :: vs).map (tr K)) := by
      intro hw h
      rw [List.map_cons, lv_args, if_pos (by rw [tr_cat]; exact hw)]
      cases i with
      | zero => simp at h; rw [← h]; exact List.mem_cons_self
      | succ i =>
        rw [List.getElem?_cons_succ] at h
        cases i with
        | zero => simp at h
        | succ i =>
          rw [List.getElem?_cons_succ] at h
          have := ih (o + 2) i v h
          rw [show o + (i + 1 + 1) = o + 2 + i by omega]
          exact List.mem_cons_of_mem _ this
    cases w with
    | long x => exact two rfl h
    | double x => exact two rfl h
    | int x => exact one (by simp [Value.category]) h
    | float x => exact one (by simp [Value.category]) h
    | null => exact one (by simp [Value.category]) h
    | ref x => exact one (by simp [Value.category]) h
    | retAddr x => exact one (by simp [Value.category]) h
theorem LO_entry (K : KT) (vs : List Value) {n : Nat} (h : (aL vs).length ≤ n) : LO K (eL n vs) ((lg_sl (vs.map (tr K)) ++ List.replicate (n - (lg_sl (vs.map (tr K))).length) Slot.unset).toArray) := by
  have hn : (eL n vs).length = n := by unfold eL; rw [List.length_append, List.length_replicate]; omega
  have h1 := lv_entry (vs.map (tr K)) (n := n) (by rw [← aL_sl]; exact h)
  unfold LO
  rw [hn]
  refine ⟨h1.1, h1.2.1, fun q hq => ?_⟩
  obtain ⟨v, hv, e⟩ := lp_mem.mp hq
  have hv' : (aL vs)[q.1]? = some (some v) := by
    unfold eL at hv
    by_cases hl : q.1 < (aL vs).length
    · rw [List.getElem?_append_left hl] at hv; exact hv
    · rw [List.getElem?_append_right (by omega)] at hv
      have := List.eq_of_mem_replicate (List.mem_of_getElem? hv)
      cases this
  have := aL_in K vs 0 q.1 v hv'
  rw [Nat.zero_add, ← e] at this
  exact h1.2.2 q this
theorem cats_tr (K : KT) (st : List Value) : ((st.map (tr K)).map fun v => v.category).sum = cats st := by
  unfold cats
  rw [List.map_map]
  congr 1
  apply List.map_congr_left
  intro v _
  exact tr_cat K v
end
section
/-! ===== what a run of the small machine says of the machine: statement, room, calls ===== -/
def okS (G : Gt) (s : Sr) : Prop := match s with
  | .inl none => True
  | .inl (some x) => G.1 ≤ x.2.1.1 ∧ G.2.1 ≤ x.2.1.2.1
  | .inr (.inl c) => G.1 ≤ c.2.2.2.2.1.1 ∧ G.2.1 ≤ c.2.2.2.2.1.2.1
  | .inr (.inr (c, _)) => G.1 ≤ c.2.2.2.2.1.1 ∧ G.2.1 ≤ c.2.2.2.2.1.2.1
theorem okS_no (G : Gt) : okS G no := trivial
theorem okS_go (G : Gt) (m pc : Nat) (ls : List (Option Value)) (st : List Value) (I : It) : okS G (go m pc ls st G I) := ⟨Nat.le_refl _, Nat.le_refl _⟩
theorem okS_gd {G : Gt} {c : Bool} {s : Sr} (h : okS G s) : okS G (gd c s) := by cases c <;> first | exact trivial | exact h
theorem okS_ldI (G : Gt) (o : Option (Option Value)) (m pc : Nat) (ls : List (Option Value)) (st : List Value) (I : It) : okS G (ldI o m pc ls st G I) := by unfold ldI; split <;> first | exact okS_go .. | exact trivial
theorem okS_ldJ (G : Gt) (o : Option (Option Value)) (m pc : Nat) (ls : List (Option Value)) (st : List Value) (I : It) : okS G (ldJ o m pc ls st G I) := by unfold ldJ; split <;> first | exact okS_go .. | exact trivial
theorem okS_ldA (G : Gt) (o : Option (Option Value)) (m pc : Nat) (ls : List (Option Value)) (st : List Value) (I : It) : okS G (ldA o m pc ls st G I) := by unfold ldA; split <;> first | exact okS_go .. | exact trivial
theorem okS_stI (G : Gt) (i m pc : Nat) (ls : List (Option Value)) (st : List Value) (I : It) : okS G (stI i m pc ls st G I) := by unfold stI; split <;> first | (split <;> first | exact okS_go .. | exact trivial) | exact trivial
theorem okS_stJ (G : Gt) (i m pc : Nat) (ls : List (Option Value)) (st : List Value) (I : It) : okS G (stJ i m pc ls st G I) := by unfold stJ; split <;> first | (split <;> first | exact okS_go .. | exact trivial) | exact trivial
theorem okS_stA (G : Gt) (i m pc : Nat) (ls : List (Option Value)) (st : List Value) (I : It) : okS G (stA i m pc ls st G I) := by unfold stA; split <;> first | (split <;> first | exact okS_go .. | exact trivial) | exact trivial
theorem okS_br (G : Gt) (c : Bool) (m pc : Nat) (off : Int) (ls : List (Option Value)) (st : List Value) (I : It) : okS G (br c m pc off ls st G I) := by unfold br; refine okS_gd ?_; split <;> exact okS_go ..
theorem okS_pf (G : Gt) (m o ci k pc : Nat) (ls : List (Option Value)) (v : Value) (st : List Value) (I : It) : okS G (pf m o ci k pc ls v st G I) := by
  unfold pf
  split
  · exact okS_go ..
  · exact okS_gd (okS_go ..)
  · exact ⟨Nat.le_refl _, Nat.le_refl _⟩
  · exact trivial
theorem okS_cal (G : Gt) (m m' pc : Nat) (vs : List Value) (ls : List (Option Value)) (rest : List Value) (I : It) : okS G (cal m m' pc vs ls rest G I) := by unfold cal; exact okS_gd ⟨Nat.le_refl _, Nat.le_refl _⟩
theorem okS_nG (G : Gt) (kk len m pc : Nat) (ls : List (Option Value)) (st : List Value) (I : It) : okS G (go m pc ls st (nG G kk len) I) := ⟨Nat.le_succ _, Nat.le_add_right _ _⟩
theorem okS_sdi (i : Instr) (m pc : Nat) (ls : List (Option Value)) (st : List Value) (G : Gt) (I : It) : okS G (sdi i m pc ls st G I) := by
  cases i <;> first
    | exact trivial
    | exact okS_go ..
    | exact okS_ldI ..
    | exact okS_ldJ ..
    | exact okS_ldA ..
    | exact okS_stI ..
    | exact okS_stJ ..
    | exact okS_stA ..
    | exact okS_gd (okS_nG ..)
    | exact okS_gd (okS_go ..)
    | (simp only [sdi]; repeat' (first | exact trivial | exact okS_go .. | exact okS_gd (okS_go ..) | exact okS_br .. | exact okS_gd (okS_pf ..) | exact okS_gd (okS_nG ..) | exact okS_gd (okS_cal ..) | exact okS_gd ⟨Nat.le_refl _, Nat.le_refl _⟩ | exact okS_gd trivial | split))
theorem okS_sd (m pc : Nat) (ls : List (Option Value)) (st : List Value) (G : Gt) (I : It) : okS G (sd (m, pc, ls, st, G, I)) := by
  unfold sd
  split
  · exact okS_gd (okS_sdi ..)
  · exact trivial
theorem run_grow : ∀ (f m pc : Nat) (ls : List (Option Value)) (st : List Value) (G : Gt) (I : It) (r : Option Value) (G' : Gt) (I' : It), run f (m, pc, ls, st, G, I) = some (r, G', I') → G.1 ≤ G'.1 ∧ G.2.1 ≤ G'.2.1 := by
  intro f
  induction f with
  | zero => intro m pc ls st G I r G' I' h; simp [run] at h
  | succ f ih =>
    intro m pc ls st G I r G' I' h
    have ok := okS_sd m pc ls st G I
    rw [run] at h
    cases hs : sd (m, pc, ls, st, G, I) with
    | inl x =>
      rw [hs] at h ok
      have h : x = some (r, G', I') := h
      subst h
      exact ok
    | inr q =>
      cases q with
      | inl c =>
        obtain ⟨m1, pc1, ls1, st1, G1, I1⟩ := c
        rw [hs] at h ok
        have h2 := ih _ _ _ _ _ _ _ _ _ h
        exact ⟨Nat.le_trans ok.1 h2.1, Nat.le_trans ok.2 h2.2⟩
      | inr q =>
        obtain ⟨⟨m1, pc1, ls1, st1, G1, I1⟩, m2, pc2, ls2, rest⟩ := q
        rw [hs] at h ok
        simp only [rn] at h
        cases hr : run f (m1, pc1, ls1, st1, G1, I1) with
        | none => rw [hr] at h; cases h
        | some y =>
          obtain ⟨r2, G2, I2⟩ := y
          rw [hr] at h
          have h1 := ih _ _ _ _ _ _ _ _ _ hr
          have h2 := ih _ _ _ _ _ _ _ _ _ h
          exact ⟨Nat.le_trans ok.1 (Nat.le_trans h1.1 h2.1), Nat.le_trans ok.2 (Nat.le_trans h1.2 h2.2)⟩
def XN (K : KT) (U : State) : Prop := va_K (kD K) vwCl (tysK K) U ∧ (∀ q ∈ nTl, va_Nw (.methodLinkNest (pO q.1) q.2.1 (pY q.2.2) "SettingsVault") U) ∧ va_AO RX1 U ∧ va_AO RX0 U
def KU (K : KT) (G : Gt) (I : It) (U : State) : Prop := HP K G I U.heap ∧ XN K U ∧ va_X (kb K) (kLn K) (kX K) U U.heap ∧ kb K < kB K ∧ kB K ≤ U.heap.size
/-- the frame of the method m, at its place in the machine -/
def Fr (K : KT) (p : Program) (s : State) (m : Nat) (mid : MethodId) (args : Array Value) (meth : Method) (c : Code) (R : Room) : Prop :=
  p.tables.exec = Jvm.exec ∧ c.code = pB m ∧ c.maxLocals = pL m ∧ s.vm.findClass (pO (pC m)) = some mid.cls ∧ (∀ w ∈ tw, w.before args s = true) ∧ (pK m = 2 → meth.name = "<init>") ∧ XN K s ∧ va_X (kb K) (kLn K) (kX K) s s.heap ∧ pF m ≤ R.frames ∧ pW m ≤ R.locals ∧ kb K < kB K ∧ kB K ≤ s.heap.size
def Ret (m pc : Nat) (r : Option Value) : Prop := match r with
  | none => decode (pB m) pc = .ok (.return_, 1) ∧ pR m = none
  | some (.int v) => decode (pB m) pc = .ok (.ireturn, 1) ∧ rtI m v = true
  | some (.ref _) => decode (pB m) pc = .ok (.areturn, 1) ∧ rtA m = true
  | _ => False
def SIM (l : Launch) (K : KT) (f : Nat) : Prop := ∀ (m pc : Nat) (als : List (Option Value)) (st : List Value) (G : Gt) (I : It) (r : Option Value) (G' : Gt) (I' : It), run f (m, pc, als, st, G, I) = some (r, G', I') →
  ∀ {p : Program} {e : Env} {s : State} {mid : MethodId} {args : Array Value} {below : List Frame} {meth : Method} {c : Code} {H : Heap} {locs : List Loc} {R : Room} {cells slots cf sf : Nat} {Q : State → Prop} {ls : Array Slot},
    Fr K p s m mid args meth c R → HP K G I H → va_S (kfr K) s.heap H locs → LO K als ls → als.length = pL m → H.size = s.heap.size + cells → cells + (G'.1 - G.1) = cf → slots + (G'.2.1 - G.2.1) = sf → cf ≤ R.cells → sf ≤ R.slots →
    (∀ (pc' : Nat) (ls' : Array Slot) (H' : Heap) (locs' : List Loc), HP K G' I' H' → va_S (kfr K) s.heap H' locs' → Ret m pc' r → W p l e R s mid args below meth c H' locs' cf sf Q (F0 mid pc' ls' ((r.map (tr K)).toList))) →
    W p l e R s mid args below meth c H locs cells slots Q (F0 mid pc ls (st.map (tr K)))
def Qx (K : KT) (G' : Gt) (I' : It) (r : Option Value) : Array Value → State → Outcome → State → Prop := match r with
  | none => va_Qv (S := Unit) (fun _ => True) (fun _ t => HP K G' I' t.heap) (kfr K)
  | some (.int v) => va_Qi (S := Unit) (fun x _ => x = v) (fun _ t => HP K G' I' t.heap) (kfr K)
  | some (.ref v) => va_Qr (S := Unit) (fun _ => True) (fun _ a t => a = ad K v ∧ HP K G' I' t.heap) (kfr K)
  | _ => fun _ _ _ _ => False
theorem pT_at {m : Nat} (h : m < 184) : pT[m]? = some (pT.getD m pD) := by
  have hl : pT.length = 184 := by decide +kernel
  rw [List.getD_eq_getElem?_getD, List.getElem?_eq_getElem (by omega)]
  rfl
theorem meth_ok {m : Nat} (h : m < 184) : plainFor (pY m) = true ∧ (pY m).cls = pO (pC m) ∧ (pY m).cls ≠ "java/lang/invoke/MethodHandle" ∧ (pY m).cls ≠ "java/lang/invoke/VarHandle" ∧ (parseMethodDescriptor (pY m).desc).map (fun d => d.parameters.length) = some (pN m) ∧ (pK m = 2 → (pY m).name = "<init>" ∧ pR m = none) ∧ pC m < 10 := by
  have h1 := List.all_eq_true.mp wd_meths _ (List.mem_of_getElem? (pT_at h))
  unfold wd_meth at h1
  simp only [Bool.and_eq_true, decide_eq_true_eq] at h1
  obtain ⟨⟨⟨⟨⟨⟨a1, a2⟩, a3⟩, a4⟩, a5⟩, a6⟩, a7⟩ := h1
  exact ⟨a1, a2, a3, a4, a5, a6, a7⟩
theorem init_ok {c : Nat} (h : c < 10) : Cond.initialized (pO c) ∈ tw := by
  have h1 := List.all_eq_true.mp wd_inits
  have : ∀ c, c < 10 → wd_ip[c]? = some (c, (wd_ip.getD c (0, 0)).2) := by decide +kernel
  exact wd_in (h1 _ (List.mem_of_getElem? (this c h)))
theorem XN_moved {K : KT} {s U : State} (hW : s.WarmedH U.vm) (h : XN K s) : XN K U :=
  ⟨va_K.moved hW.alike h.1, fun q hq => va_Nw.warmM hW (h.2.1 q hq), va_AO.moved hW.alike h.2.2.1, va_AO.moved hW.alike h.2.2.2⟩
theorem XN_vm {K : KT} {s U : State} (e : s.vm = U.vm) (h : XN K s) : XN K U :=
  ⟨va_K.moved (by rw [e]; exact Vm.Alike.refl _) h.1, fun q hq => va_Nw.same rfl e (h.2.1 q hq), va_AO.moved (by rw [e]; exact Vm.Alike.refl _) h.2.2.1, va_AO.moved (by rw [e]; exact Vm.Alike.refl _) h.2.2.2⟩
theorem KU_blind (K : KT) (G : Gt) (I : It) (vs : List Value) : FrameBlind (va_Pc vs (KU K G I)) := by
  intro a U g mk h
  obtain ⟨h0, h1, h2, h3, h4⟩ := h
  exact ⟨h0, h1, XN_vm (s := U) (U := U.calling g mk a) rfl h2, va_X.moved (u := U) (U := U.calling g mk a) (Vm.Alike.refl U.vm) h3, h4⟩
theorem KU_at {K : KT} {p : Program} {s : State} {m : Nat} {mid : MethodId} {args : Array Value} {meth : Method} {c : Code} {R : Room} {G : Gt} {I : It} {H : Heap} {locs : List Loc} (hF : Fr K p s m mid args meth c R) (hP : HP K G I H) (hS : va_S (kfr K) s.heap H locs) : ∀ U : State, U.heap = H → s.WarmedH U.vm → KU K G I U := by
  intro U hU hW
  obtain ⟨-, -, -, -, -, -, h7, h8, -, -, h11, h12⟩ := hF
  have hbl : kb K < s.heap.size := Nat.lt_of_lt_of_le h11 h12
  refine ⟨by rw [hU]; exact hP, XN_moved hW h7, ?_, h11, by rw [hU]; exact Nat.le_trans h12 hS.1⟩
  rw [hU]
  exact (va_X.moved hW.alike h8).kept (hS.2.1 _ hbl (by show ¬ kB K ≤ kb K; omega))
theorem met_of_sim {l : Launch} {K : KT} {f : Nat} (hS : SIM l K f) {m : Nat} {vs : List Value} {G : Gt} {I : It} {r : Option Value} {G' : Gt} {I' : It} (hm : m < 183) (hr : run f (m, 0, eL (pL m) vs, [], G, I) = some (r, G', I')) (hl : (aL vs).length ≤ pL m) :
    Met l (pY m) (.code (pY m) (pB m) (pL m) (pR m) :: tw) { frames := pF m, cells := G'.1 - G.1, slots := G'.2.1 - G.2.1, locals := pW m } (va_Pc (vs.map (tr K)) (KU K G I)) (Qx K G' I' r) (G'.1 - G.1) (G'.2.1 - G.2.1) (kfr K) := by
  obtain ⟨ok1, ok2, -, -, -, ok6, -⟩ := meth_ok (show m < 184 by omega)
  refine va_MetF (cc := pB m) (maxL := pL m) (ret := pR m) ok1 rfl ?_
  intro p e s mid args below meth c s₁ B hml hv
  obtain ⟨rfl, hP, hX, hXs, hb1, hb2⟩ := hv
  have hts := atoms_spec (ws := .code (pY m) (pB m) (pL m) (pR m) :: tw) B.pre
  have hown : s.vm.findClass (pO (pC m)) = some mid.cls := by rw [← ok2]; exact findClass_of_methodNamed B.named
  have hF : Fr K p s m mid (vs.map (tr K)).toArray meth c { frames := pF m, cells := G'.1 - G.1, slots := G'.2.1 - G.2.1, locals := pW m } :=
    ⟨B.exec, B.bytes, hml, hown, fun w hw => hts w (List.mem_cons_of_mem _ hw), fun hk => by rw [(name_of_methodNamed B.named B.method).1]; exact (ok6 hk).1, hX, hXs, Nat.le_refl _, Nat.le_refl _, hb1, hb2⟩
  have hll : (eL (pL m) vs).length = pL m := by unfold eL; rw [List.length_append, List.length_replicate]; omega
  rw [lg_entry_eq]
  refine hS m 0 (eL (pL m) vs) [] G I r G' I' hr hF hP va_S.rf (LO_entry K vs hl) hll rfl rfl rfl (Nat.le_of_eq (Nat.zero_add _)) (Nat.le_of_eq (Nat.zero_add _)) ?_
  intro pc' ls' H' locs' hP' hS' hret
  have hx := B.exec
  have hb := B.bytes
  have hlocks := B.notSynchronized
  rw [Nat.zero_add, Nat.zero_add]
  cases r with
  | none =>
    obtain ⟨d, hn⟩ := hret
    refine W.vret hx hb (by rw [B.returns, hn]) (fun t ht hW => ⟨⟨(), rfl, trivial, by show HP K G' I' t.heap; rw [ht]; exact hP'⟩, hS'.F ht⟩) hS'.2.2 d hlocks
  | some v =>
    cases v with
    | int v =>
      obtain ⟨d, hn⟩ := hret
      unfold rtI at hn
      simp only [Bool.or_eq_true, Bool.and_eq_true, decide_eq_true_eq] at hn
      have hq : ∀ t : State, t.heap = H' → s.WarmedH t.vm → Qx K G' I' (some (.int v)) (vs.map (tr K)).toArray s (.returned (some (.int v))) t := fun t ht hW => ⟨⟨v, (), rfl, rfl, by show HP K G' I' t.heap; rw [ht]; exact hP'⟩, hS'.F ht⟩
      rcases hn with hn | ⟨hn, hv⟩
      · exact W.zret (ty := .int) hx hb (by rw [B.returns, hn]) rfl hq hS'.2.2 d hlocks
      · refine W.zret (ty := .boolean) hx hb (by rw [B.returns, hn]) ?_ hq hS'.2.2 d hlocks
        unfold b01 at hv
        simp only [Bool.or_eq_true, decide_eq_true_eq] at hv
        rcases hv with rfl | rfl <;> rfl
    | ref v =>
      obtain ⟨d, hn⟩ := hret
      have hq : ∀ t : State, t.heap = H' → s.WarmedH t.vm → Qx K G' I' (some (.ref v)) (vs.map (tr K)).toArray s (.returned (some (.ref (ad K v)))) t := fun t ht hW => ⟨⟨(), ad K v, rfl, trivial, rfl, by show HP K G' I' t.heap; rw [ht]; exact hP'⟩, hS'.F ht⟩
      unfold rtA at hn
      have hrt : ∃ rt, pR m = some rt ∧ ((∃ n, rt = .object n) ∨ ∃ t, rt = .array t) := by
        split at hn
        · exact ⟨_, by assumption, Or.inl ⟨_, rfl⟩⟩
        · exact ⟨_, by assumption, Or.inr ⟨_, rfl⟩⟩
        · cases hn
      obtain ⟨rt, h1, h2⟩ := hrt
      exact W.aret (rt := rt) hx hb (by rw [B.returns, h1]) h2 (Or.inr ⟨_, rfl⟩) hq hS'.2.2 d hlocks
    | _ => exact hret.elim
end
section
/-! ===== one step of the small machine is a step of the machine ===== -/
theorem rn_no {g : Cf → Option Rs} {x : Rs} (h : rn g no = some x) : False := by cases (show (none : Option Rs) = some x from h)
theorem rn_gd {g : Cf → Option Rs} {c : Bool} {s : Sr} {x : Rs} (h : rn g (gd c s) = some x) : c = true ∧ rn g s = some x := by
  cases c with
  | false => exact (rn_no h).elim
  | true => exact ⟨rfl, h⟩
theorem rn_br {g : Cf → Option Rs} {c : Bool} {m pc : Nat} {off : Int} {ls : List (Option Value)} {st : List Value} {G : Gt} {I : It} {x : Rs} (h : rn g (br c m pc off ls st G I) = some x) :
    tgok pc off = true ∧ (c = true → rn g (go m (tg pc off) ls st G I) = some x) ∧ (c = false → rn g (go m (pc + 3) ls st G I) = some x) := by
  obtain ⟨h1, h2⟩ := rn_gd h
  exact ⟨h1, fun e => by rw [e] at h2; exact h2, fun e => by rw [e] at h2; exact h2⟩
theorem tg_eq {pc : Nat} {off : Int} (h : tgok pc off = true) : (pc : Int) + off = (tg pc off : Int) := by
  unfold tgok at h
  simp only [decide_eq_true_eq] at h
  unfold tg
  omega
theorem sL_len {ls ls' : List (Option Value)} {i : Nat} {v : Value} (h : sL ls i v = some ls') : i < ls.length ∧ ls'.length = ls.length := by
  unfold sL at h
  split at h
  · rename_i hc
    simp only [Bool.and_eq_true, decide_eq_true_eq] at hc
    rw [← Option.some.inj h, List.length_set]
    exact ⟨hc.1, rfl⟩
  · cases h
theorem sL2_len {ls ls' : List (Option Value)} {i : Nat} {v : Value} (h : sL2 ls i v = some ls') : i + 1 < ls.length ∧ ls'.length = ls.length := by
  unfold sL2 at h
  split at h
  · rename_i hc
    simp only [Bool.and_eq_true, decide_eq_true_eq] at hc
    rw [← Option.some.inj h, List.length_set, List.length_set]
    exact ⟨hc.1.1, rfl⟩
  · cases h
theorem inb_spec {i : Int32} {n : Nat} (h : inb i n = true) : vp_in i n := by
  unfold inb at h
  simp only [Bool.and_eq_true, decide_eq_true_eq] at h
  exact vp_in_iff.mpr h
theorem fL_mem {c i : Nat} (h : (fL c i).1 < 8) : (c, i, (fL c i).1, (fL c i).2) ∈ fTl := by
  unfold fL at h ⊢
  split at h
  · rename_i q hq
    have h1 := List.find?_some hq
    simp only [Bool.and_eq_true, beq_iff_eq] at h1
    have h2 := List.mem_of_find?_eq_some hq
    obtain ⟨a, b, c', d⟩ := q
    obtain ⟨e1, e2⟩ := h1
    simp only at e1 e2
    subst e1; subst e2
    exact h2
  · simp at h
theorem mL_mem {c i : Nat} (h : (mL c i).2 < 9) : (c, i, (mL c i).1, (mL c i).2) ∈ mTl := by
  unfold mL at h ⊢
  split at h
  · rename_i q hq
    have h1 := List.find?_some hq
    simp only [Bool.and_eq_true, beq_iff_eq] at h1
    have h2 := List.mem_of_find?_eq_some hq
    obtain ⟨a, b, c', d⟩ := q
    obtain ⟨e1, e2⟩ := h1
    simp only at e1 e2
    subst e1; subst e2
    exact h2
  · simp at h
theorem kL_mem {c i : Nat} (h : kL c i < 8) : (c, i, kL c i) ∈ kTl := by
  unfold kL at h ⊢
  split at h
  · rename_i q hq
    have h1 := List.find?_some hq
    simp only [Bool.and_eq_true, beq_iff_eq] at h1
    have h2 := List.mem_of_find?_eq_some hq
    obtain ⟨a, b, c'⟩ := q
    obtain ⟨e1, e2⟩ := h1
    simp only at e1 e2
    subst e1; subst e2
    exact h2
  · simp at h
theorem lL_mem {c i : Nat} {v : Int64} (h : lL c i = some v) : (c, i, v) ∈ lTl := by
  unfold lL at h
  split at h
  · rename_i q hq
    have h1 := List.find?_some hq
    simp only [Bool.and_eq_true, beq_iff_eq] at h1
    have h2 := List.mem_of_find?_eq_some hq
    obtain ⟨a, b, c'⟩ := q
    obtain ⟨e1, e2⟩ := h1
    simp only at e1 e2
    subst e1; subst e2
    have h3 : c' = v := Option.some.inj h
    rw [← h3]
    exact h2
  · cases h
theorem cl_at {c : Nat} (h : c < 8) : vwCl[c]? = some (clC c, clT c, clN c) := by
  have : c = 0 ∨ c = 1 ∨ c = 2 ∨ c = 3 ∨ c = 4 ∨ c = 5 ∨ c = 6 ∨ c = 7 := by omega
  rcases this with rfl | rfl | rfl | rfl | rfl | rfl | rfl | rfl <;> rfl
theorem cl_lays {c : Nat} (h : c < 8) : ∀ w ∈ u_ws (clC c) (clT c) (clN c), w ∈ tw := by
  intro w hw
  have h1 := List.all_eq_true.mp (List.all_eq_true.mp wd_lays c (List.mem_range.mpr h)) w hw
  simp only [Bool.and_eq_true, decide_eq_true_eq] at h1
  exact List.mem_filter.mpr h1
theorem cl_inst {c : Nat} (h : c < 8) : Cond.instantiable (clC c) (clN c) ∈ tw ∧ Cond.initialized (clC c) ∈ tw := by
  have h1 := List.all_eq_true.mp wd_class c (List.mem_range.mpr h)
  simp only [Bool.and_eq_true, decide_eq_true_eq] at h1
  exact ⟨List.mem_filter.mpr ⟨h1.1.1.1, h1.1.1.2⟩, List.mem_filter.mpr ⟨h1.1.2, h1.2⟩⟩
theorem cl_ty {c : Nat} (h : c < 8) : ∀ k, k < clN c → parseFieldDescriptor (clT c k).2.2.1 = some (clY c k) := by
  intro k hk
  have h1 := List.all_eq_true.mp (List.all_eq_true.mp wd_fieldT c (List.mem_range.mpr h)) k (List.mem_range.mpr hk)
  simp only [Bool.and_eq_true, decide_eq_true_eq] at h1
  exact h1.1.2
theorem cl_ft {c : Nat} (h : c < 8) : ∀ k, k < clN c → fT c k = (match clY c k with | .int => 0 | .boolean => 1 | .object _ => 2 | .array _ => 2 | _ => 7) ∧ fT c k < 3 := by
  intro k hk
  have h1 := List.all_eq_true.mp (List.all_eq_true.mp wd_fieldT c (List.mem_range.mpr h)) k (List.mem_range.mpr hk)
  simp only [Bool.and_eq_true, decide_eq_true_eq] at h1
  exact ⟨h1.1.1, h1.2⟩
theorem cl_nm {c : Nat} (h : c < 8) : ∀ a, a < clN c → ∀ b, b < clN c → a ≠ b → (clT c a).2.1 ≠ (clT c b).2.1 := by
  intro a ha b hb
  have h1 := List.all_eq_true.mp (List.all_eq_true.mp (List.all_eq_true.mp wd_names c (List.mem_range.mpr h)) a (List.mem_range.mpr ha)) b (List.mem_range.mpr hb)
  simp only [decide_eq_true_eq] at h1
  exact h1
theorem tr_rf (K : KT) (x : Option Nat) : tr K (va_rf x) = va_rf (x.map (ad K)) := by cases x <;> rfl
theorem tr_gf (K : KT) (G : Gt) (I : It) (c o k : Nat) : tr K (gf G I c o k) = fvl K c G I o k := by
  unfold gf fvl
  split
  · exact tr_rf K _
  · rfl
section SIMS
variable {p : Program} {l : Launch} {e : Env} {R : Room} {s : State} {m : MethodId} {args : Array Value} {below : List Frame} {meth : Method} {c : Code} {H : Heap} {locs : List Loc} {cells slots : Nat} {Q : State → Prop}
theorem W_sz {g : JFrame} (h : H.size ≤ s.heap.size + cells → W p l e R s m args below meth c H locs cells slots Q g) : W p l e R s m args below meth c H locs cells slots Q g := by
  intro T hT X
  have h1 := X.heapSize
  rw [hT] at h1
  exact h h1 T hT X
theorem call_done {K : KT} {G1 : Gt} {I1 : It} {r1 : Option Value} {aa : Array Value} {mc ms pc : Nat} {ls : Array Slot} {st0 rest : List Value} (hr : va_Run p l e R s m args below meth c H locs cells slots mc ms (F0 m pc ls st0) rest (Qx K G1 I1 r1 aa) (kfr K)) (hS : va_S (kfr K) s.heap H locs)
    (kk : ∀ (H1 : Heap) (locs1 : List Loc), HP K G1 I1 H1 → va_S (kfr K) s.heap H1 locs1 → W p l e R s m args below meth c H1 locs1 (cells + mc) (slots + ms) Q (F0 m (pc + 3) ls ((r1.map (tr K)).toList ++ rest))) : W p l e R s m args below meth c H locs cells slots Q (F0 m pc ls st0) := by
  cases r1 with
  | none => exact va_callv (a := aa) hr hS (fun _ _ h => h) (fun _ h => h) (fun u t H1 locs1 ht _ _ hB _ _ hS1 => kk H1 locs1 (ht ▸ hB) hS1)
  | some v =>
    cases v with
    | int v => exact va_calli (a := aa) hr hS (fun _ _ h => h) (fun _ h => h) (fun x u t H1 locs1 ht _ hp hB _ _ hS1 => by have := kk H1 locs1 (ht ▸ hB) hS1; rw [show x = v from hp]; exact this)
    | ref v => exact va_callr (a := aa) hr hS (fun _ _ h => h) (fun _ h => h) (fun u a t H1 locs1 ht _ _ hB _ _ hS1 => by have := kk H1 locs1 (ht ▸ hB.2) hS1; rw [hB.1]; exact this)
    | _ => intro T hT X; obtain ⟨_, _, _, _, _, _, _, _, _, _, hq, _⟩ := hr T hT X; exact hq.elim
end SIMS
end
section
set_option maxRecDepth 100000 in
set_option maxHeartbeats 8000000 in
theorem st_invokevirtual {l : Launch} {K : KT} {f : Nat} (hS : SIM l K f) {m pc : Nat} {als : List (Option Value)} {st : List Value} {G : Gt} {I : It} {r : Option Value} {G' : Gt} {I' : It} {p : Program} {e : Env} {s : State} {mid : MethodId} {args : Array Value} {below : List Frame} {meth : Method} {cd : Code} {H : Heap} {locs : List Loc} {R : Room} {cells slots cf sf : Nat} {Q : State → Prop} {ls : Array Slot}
    (hF : Fr K p s m mid args meth cd R) (hP : HP K G I H) (hSv : va_S (kfr K) s.heap H locs) (hL : LO K als ls) (hn : als.length = pL m) (hcz : H.size = s.heap.size + cells) (hc : cells + (G'.1 - G.1) = cf) (hsf : slots + (G'.2.1 - G.2.1) = sf) (hcf : cf ≤ R.cells) (hsf' : sf ≤ R.slots)
    (hret : ∀ (pc' : Nat) (ls' : Array Slot) (H' : Heap) (locs' : List Loc), HP K G' I' H' → va_S (kfr K) s.heap H' locs' → Ret m pc' r → W p l e R s mid args below meth cd H' locs' cf sf Q (F0 mid pc' ls' ((r.map (tr K)).toList)))
    {k : Nat} (hd : decode (pB m) pc = .ok (.invokevirtual k, 3)) (hrun : rn (run f) (sdi (.invokevirtual k) m pc als st G I) = some (r, G', I')) : W p l e R s mid args below meth cd H locs cells slots Q (F0 mid pc ls (st.map (tr K))) := by
  have hF0 := hF
  obtain ⟨hx, hb, hml, hown, hts, hini, hX, hXs, hfr, hwr, hb1, hb2⟩ := hF0
  have hbl : kb K < s.heap.size := Nat.lt_of_lt_of_le hb1 hb2
  have hbA : ¬ kfr K (kb K) := by show ¬ kB K ≤ kb K; omega
  have hD := wsO_D K G I
  have hA : ∀ q : Nat, s.heap.size ≤ q → kfr K q := fun q h => Nat.le_trans hb2 h
  have hLs : ls.size = pL m := by rw [← hn]; exact hL.1
  have go1 : ∀ {pc1 : Nat} {als1 : List (Option Value)} {st1 : List Value} {G1 : Gt} {I1 : It} {H1 : Heap} {locs1 : List Loc} {ls1 : Array Slot} , G1.1 = G.1 → G1.2.1 = G.2.1 → H1.size = H.size → rn (run f) (go m pc1 als1 st1 G1 I1) = some (r, G', I') → HP K G1 I1 H1 → va_S (kfr K) s.heap H1 locs1 → LO K als1 ls1 → als1.length = pL m →
      W p l e R s mid args below meth cd H1 locs1 cells slots Q (F0 mid pc1 ls1 (st1.map (tr K))) :=
    fun e1 e2 e3 h hP hS' hL hl => hS _ _ _ _ _ _ _ _ _ h hF hP hS' hL hl (by rw [e3]; exact hcz) (by rw [e1]; exact hc) (by rw [e2]; exact hsf) hcf hsf' hret
  have go0 : ∀ {pc1 : Nat} {als1 : List (Option Value)} {st1 : List Value} {ls1 : Array Slot}, rn (run f) (go m pc1 als1 st1 G I) = some (r, G', I') → LO K als1 ls1 → als1.length = pL m →
      W p l e R s mid args below meth cd H locs cells slots Q (F0 mid pc1 ls1 (st1.map (tr K))) := fun h hL hl => go1 rfl rfl rfl h hP hSv hL hl
  have fin : ∀ {pc1 : Nat} {r1 : Option Value} {rest : List Value} {G1 : Gt} {I1 : It}, run f (m, pc1, als, r1.toList ++ rest, G1, I1) = some (r, G', I') → G.1 ≤ G1.1 → G.2.1 ≤ G1.2.1 → ∀ (H1 : Heap) (locs1 : List Loc), HP K G1 I1 H1 → va_S (kfr K) s.heap H1 locs1 →
      W p l e R s mid args below meth cd H1 locs1 (cells + (G1.1 - G.1)) (slots + (G1.2.1 - G.2.1)) Q (F0 mid pc1 ls ((r1.map (tr K)).toList ++ rest.map (tr K))) := by
    intro pc1 r1 rest G1 I1 h g1 g2 H1 locs1 hP1 hS1
    have hm := run_grow _ _ _ _ _ _ _ _ _ _ h
    have e : (r1.map (tr K)).toList ++ rest.map (tr K) = (r1.toList ++ rest).map (tr K) := by cases r1 <;> rfl
    rw [e]
    have hz1 := hP.2.1
    have hz2 := hP1.2.1
    exact hS _ _ _ _ _ _ _ _ _ h hF hP1 hS1 hL hn (by omega) (by omega) (by omega) hcf hsf' hret
  simp only [sdi] at hrun
  split at hrun
  · rename_i b rest hmode hdrop
    obtain ⟨h0, hrun⟩ := rn_gd hrun
    unfold cal at hrun
    obtain ⟨h1, hrun⟩ := rn_gd hrun
    simp only [Bool.and_eq_true, decide_eq_true_eq] at h0 h1
    obtain ⟨hkb, hlen⟩ := h0
    obtain ⟨hcat, ⟨hfr1, hwr1⟩, hal⟩ := h1
    simp only [rn] at hrun
    split at hrun
    · cases hrun
    · rename_i x hr
      obtain ⟨r1, G1, I1⟩ := x
      have gg := run_grow _ _ _ _ _ _ _ _ _ _ hr
      simp only at hrun
      have gg2 := run_grow _ _ _ _ _ _ _ _ _ _ hrun
      have hR1 : pF (mL (pC m) k).1 + 1 ≤ R.frames := Nat.le_trans hfr1 hfr
      have hR2 : 8 + (pL (mL (pC m) k).1 + 11) + pW (mL (pC m) k).1 ≤ R.locals := Nat.le_trans hwr1 hwr
      have hC1 : cells + (G1.1 - G.1) ≤ R.cells := by omega
      have hC2 : slots + (G1.2.1 - G.2.1) ≤ R.slots := by omega
      obtain ⟨pp, hlk, hm'⟩ := wd_links _ (mL_mem (c := pC m) (i := k) (by rw [hmode]; decide))
      simp only at hm'
      unfold wd_link at hlk
      rw [hmode] at hlk
      simp only [Bool.and_eq_true, decide_eq_true_eq] at hlk
      obtain ⟨⟨⟨l1, l2⟩, l3⟩, l4⟩ := hlk
      obtain ⟨o1, o2, o3, o4, o5, o6, o7⟩ := meth_ok (show (mL (pC m) k).1 < 184 by omega)
      have hstk : st.map (tr K) = (((st.take (pN (mL (pC m) k).1)).reverse).map (tr K)).reverse ++ .ref (ad K b) :: rest.map (tr K) := by
        rw [← List.map_reverse, List.reverse_reverse]
        conv => lhs; rw [← List.take_append_drop (pN (mL (pC m) k).1) st, hdrop]
        rw [List.map_append, List.map_cons]
        rfl
      rw [hstk]
      obtain ⟨q0, q1, q2⟩ := kd_spec hkb (by omega) (by omega)
      have he := wsO_get (K := K) (I := I) q0 q1
      rw [elt_obj q2 l4] at he
      refine call_done (rest := rest.map (tr K)) (va_runV (Ts := tw) (As := ((st.take (pN (mL (pC m) k).1)).reverse).map (tr K)) (b := ad K b) ⟨hx, hb, hml, hown, hts⟩ (met_of_sim hS hm' hr hal)
        (cwV (own := pO (pC m)) (index := k) (C := (pY (mL (pC m) k).1).cls) (pN (mL (pC m) k).1) hts ?_ rfl rfl rfl ⟨rfl, o3, o4, o5⟩ ⟨hR1, hR2⟩)
        ⟨KU_blind K G I _, ?_, fun U hU hW => ⟨rfl, KU_at hF hP hSv U hU hW⟩⟩ rfl ?_ hLs rfl (lv_room (by rw [cats_tr]; exact hcat)) hd ⟨hC1, hC2⟩) hSv (fin hrun gg.1 gg.2)
      · intro w hw
        refine tw_self w ?_
        unfold wsV at hw
        rcases List.mem_append.mp hw with hw | hw
        · simp only [List.mem_cons, List.not_mem_nil, or_false] at hw
          rcases hw with rfl | rfl | rfl | rfl
          · exact wd_in l1
          · exact wd_in l2
          · exact wd_in l3
          · rw [o2]; exact init_ok o7
        · rcases List.mem_cons.mp hw with rfl | hw
          · exact wd_codes _ hm'
          · exact hw
      · rw [o2]
        exact va_recv hX.1 hP.1 (cl_at l4) he
      · rw [List.length_map, List.length_reverse]; exact hlen
  · exact (rn_no hrun).elim
end
section
set_option maxRecDepth 100000 in
set_option maxHeartbeats 8000000 in
theorem st_invokestatic {l : Launch} {K : KT} {f : Nat} (hS : SIM l K f) {m pc : Nat} {als : List (Option Value)} {st : List Value} {G : Gt} {I : It} {r : Option Value} {G' : Gt} {I' : It} {p : Program} {e : Env} {s : State} {mid : MethodId} {args : Array Value} {below : List Frame} {meth : Method} {cd : Code} {H : Heap} {locs : List Loc} {R : Room} {cells slots cf sf : Nat} {Q : State → Prop} {ls : Array Slot}
    (hF : Fr K p s m mid args meth cd R) (hP : HP K G I H) (hSv : va_S (kfr K) s.heap H locs) (hL : LO K als ls) (hn : als.length = pL m) (hcz : H.size = s.heap.size + cells) (hc : cells + (G'.1 - G.1) = cf) (hsf : slots + (G'.2.1 - G.2.1) = sf) (hcf : cf ≤ R.cells) (hsf' : sf ≤ R.slots)
    (hret : ∀ (pc' : Nat) (ls' : Array Slot) (H' : Heap) (locs' : List Loc), HP K G' I' H' → va_S (kfr K) s.heap H' locs' → Ret m pc' r → W p l e R s mid args below meth cd H' locs' cf sf Q (F0 mid pc' ls' ((r.map (tr K)).toList)))
    {k : Nat} (hd : decode (pB m) pc = .ok (.invokestatic k, 3)) (hrun : rn (run f) (sdi (.invokestatic k) m pc als st G I) = some (r, G', I')) : W p l e R s mid args below meth cd H locs cells slots Q (F0 mid pc ls (st.map (tr K))) := by
  have hF0 := hF
  obtain ⟨hx, hb, hml, hown, hts, hini, hX, hXs, hfr, hwr, hb1, hb2⟩ := hF0
  have hbl : kb K < s.heap.size := Nat.lt_of_lt_of_le hb1 hb2
  have hbA : ¬ kfr K (kb K) := by show ¬ kB K ≤ kb K; omega
  have hD := wsO_D K G I
  have hA : ∀ q : Nat, s.heap.size ≤ q → kfr K q := fun q h => Nat.le_trans hb2 h
  have hLs : ls.size = pL m := by rw [← hn]; exact hL.1
  have go1 : ∀ {pc1 : Nat} {als1 : List (Option Value)} {st1 : List Value} {G1 : Gt} {I1 : It} {H1 : Heap} {locs1 : List Loc} {ls1 : Array Slot} , G1.1 = G.1 → G1.2.1 = G.2.1 → H1.size = H.size → rn (run f) (go m pc1 als1 st1 G1 I1) = some (r, G', I') → HP K G1 I1 H1 → va_S (kfr K) s.heap H1 locs1 → LO K als1 ls1 → als1.length = pL m →
      W p l e R s mid args below meth cd H1 locs1 cells slots Q (F0 mid pc1 ls1 (st1.map (tr K))) :=
    fun e1 e2 e3 h hP hS' hL hl => hS _ _ _ _ _ _ _ _ _ h hF hP hS' hL hl (by rw [e3]; exact hcz) (by rw [e1]; exact hc) (by rw [e2]; exact hsf) hcf hsf' hret
  have go0 : ∀ {pc1 : Nat} {als1 : List (Option Value)} {st1 : List Value} {ls1 : Array Slot}, rn (run f) (go m pc1 als1 st1 G I) = some (r, G', I') → LO K als1 ls1 → als1.length = pL m →
      W p l e R s mid args below meth cd H locs cells slots Q (F0 mid pc1 ls1 (st1.map (tr K))) := fun h hL hl => go1 rfl rfl rfl h hP hSv hL hl
  have fin : ∀ {pc1 : Nat} {r1 : Option Value} {rest : List Value} {G1 : Gt} {I1 : It}, run f (m, pc1, als, r1.toList ++ rest, G1, I1) = some (r, G', I') → G.1 ≤ G1.1 → G.2.1 ≤ G1.2.1 → ∀ (H1 : Heap) (locs1 : List Loc), HP K G1 I1 H1 → va_S (kfr K) s.heap H1 locs1 →
      W p l e R s mid args below meth cd H1 locs1 (cells + (G1.1 - G.1)) (slots + (G1.2.1 - G.2.1)) Q (F0 mid pc1 ls ((r1.map (tr K)).toList ++ rest.map (tr K))) := by
    intro pc1 r1 rest G1 I1 h g1 g2 H1 locs1 hP1 hS1
    have hm := run_grow _ _ _ _ _ _ _ _ _ _ h
    have e : (r1.map (tr K)).toList ++ rest.map (tr K) = (r1.toList ++ rest).map (tr K) := by cases r1 <;> rfl
    rw [e]
    have hz1 := hP.2.1
    have hz2 := hP1.2.1
    exact hS _ _ _ _ _ _ _ _ _ h hF hP1 hS1 hL hn (by omega) (by omega) (by omega) hcf hsf' hret
  simp only [sdi] at hrun
  split at hrun
  · rename_i hcp
    split at hrun
    · rename_i n' dp a1 sp a0 rest
      obtain ⟨h0, hrun⟩ := rn_gd hrun
      simp only [Bool.and_eq_true, decide_eq_true_eq] at h0
      obtain ⟨⟨⟨⟨⟨⟨⟨⟨hcat, hf1⟩, hw1⟩, hk0, hk1⟩, hsp⟩, hdp⟩, hn0⟩, hs1⟩, hs2⟩ := h0
      have hk2 : kd G a1 = 50 := by rw [← hk0]; exact hk1
      obtain ⟨q0, q1, q2⟩ := kd_spec hk1 (by decide) (by decide)
      obtain ⟨w0, w1, w2⟩ := kd_spec hk2 (by decide) (by decide)
      have he := wsO_get (K := K) (I := I) q0 q1
      rw [elt_int q2 (by decide) (by decide)] at he
      have hw := wsO_get (K := K) (I := I) w0 w1
      rw [elt_int w2 (by decide) (by decide)] at hw
      have ng : ∀ z : Int32, 0 ≤ z.toInt → ¬ z < 0 := fun z hz => by rw [Int32.lt_iff_toInt_lt, Int32.toInt_zero]; omega
      obtain ⟨c1, c2', c3⟩ := wd_copy2
      refine va_copyi hx hb (by rw [hml, hLs]) hown (hts _ (wd_copy _ hcp)) (hts _ (wd_in c1)) (hts _ (wd_in c2')) (hts _ (wd_in c3)) hX.1 hP.1 hD hSv (a0 - 1) (a1 - 1) 0 0 (ty := .int) he hw rfl rfl rfl (ng sp hsp) (ng dp hdp) (ng n' hn0) hs1 hs2 (fun _ _ => rfl) (by omega) ?_ hd (fun H1 locs1 hP1 _ hS1 => W_sz fun hz => ?_)
      · rw [cats_tr]
        have : nativeFrameWords "java/lang/System" "arraycopy" 5 = 7 := by decide
        rw [this]
        omega
      · have hP2 := HP_acp hP hk2 (by decide) (by decide) H1 (by omega) hP1
        exact go1 rfl rfl (by have := hP2.2.1; have := hP.2.1; omega) hrun hP2 hS1 hL hn
    · exact (rn_no hrun).elim
  · obtain ⟨h0, hrun⟩ := rn_gd hrun
    unfold cal at hrun
    obtain ⟨h1, hrun⟩ := rn_gd hrun
    simp only [Bool.and_eq_true, decide_eq_true_eq] at h0 h1
    obtain ⟨hmode, hlen⟩ := h0
    obtain ⟨hcat, ⟨hfr1, hwr1⟩, hal⟩ := h1
    simp only [rn] at hrun
    split at hrun
    · cases hrun
    · rename_i x hr
      obtain ⟨r1, G1, I1⟩ := x
      have gg := run_grow _ _ _ _ _ _ _ _ _ _ hr
      simp only at hrun
      have gg2 := run_grow _ _ _ _ _ _ _ _ _ _ hrun
      have hR1 : pF (mL (pC m) k).1 + 1 ≤ R.frames := Nat.le_trans hfr1 hfr
      have hR2 : 8 + (pL (mL (pC m) k).1 + 11) + pW (mL (pC m) k).1 ≤ R.locals := Nat.le_trans hwr1 hwr
      have hC1 : cells + (G1.1 - G.1) ≤ R.cells := by omega
      have hC2 : slots + (G1.2.1 - G.2.1) ≤ R.slots := by omega
      obtain ⟨pp, hlk, hm'⟩ := wd_links _ (mL_mem (c := pC m) (i := k) (by rcases hmode with z | z <;> rw [z] <;> decide))
      simp only at hm'
      obtain ⟨o1, o2, o3, o4, o5, o6, o7⟩ := meth_ok (show (mL (pC m) k).1 < 184 by omega)
      have hstk : st.map (tr K) = (((st.take (pN (mL (pC m) k).1)).reverse).map (tr K)).reverse ++ (st.drop (pN (mL (pC m) k).1)).map (tr K) := by
        rw [← List.map_reverse, List.reverse_reverse]
        conv => lhs; rw [← List.take_append_drop (pN (mL (pC m) k).1) st]
        rw [List.map_append]
      rw [hstk]
      have hasl : (((st.take (pN (mL (pC m) k).1)).reverse).map (tr K)).length = pN (mL (pC m) k).1 := by rw [List.length_map, List.length_reverse]; exact hlen
      unfold wd_link at hlk
      rcases hmode with hmode | hmode
      · rw [hmode] at hlk
        simp only [Bool.and_eq_true] at hlk
        obtain ⟨l1, l2⟩ := hlk
        refine call_done (rest := (st.drop (pN (mL (pC m) k).1)).map (tr K)) (va_runS (Ts := tw) (As := ((st.take (pN (mL (pC m) k).1)).reverse).map (tr K)) ⟨hx, hb, hml, hown, hts⟩ (met_of_sim hS hm' hr hal)
          (va_cwS (own := pO (pC m)) (index := k) (pN (mL (pC m) k).1) hts ?_ rfl rfl rfl ⟨o3, o4, o5⟩ ⟨hR1, hR2⟩)
          ⟨KU_blind K G I _, fun U hU hW => ⟨rfl, KU_at hF hP hSv U hU hW⟩⟩ rfl hasl hLs rfl (lv_room (by rw [cats_tr]; exact hcat)) hd ⟨hC1, hC2⟩) hSv (fin hrun gg.1 gg.2)
        intro w hw
        refine tw_self w ?_
        unfold va_wsS at hw
        rcases List.mem_append.mp hw with hw | hw
        · simp only [List.mem_cons, List.not_mem_nil, or_false] at hw
          rcases hw with rfl | rfl | rfl
          · exact wd_in l1
          · exact wd_in l2
          · rw [o2]; exact init_ok o7
        · rcases List.mem_cons.mp hw with rfl | hw
          · exact wd_codes _ hm'
          · exact hw
      · rw [hmode] at hlk
        simp only [Bool.and_eq_true, decide_eq_true_eq] at hlk
        obtain ⟨l1, l2⟩ := hlk
        refine call_done (rest := (st.drop (pN (mL (pC m) k).1)).map (tr K)) (va_runSN (Ts := tw) (As := ((st.take (pN (mL (pC m) k).1)).reverse).map (tr K)) ⟨hx, hb, hml, hown, hts⟩ (met_of_sim hS hm' hr hal)
          ⟨va_cnB (own := pO (pC m)) (host := "SettingsVault") (index := k) (pN (mL (pC m) k).1) hts ?_ rfl rfl rfl (hX.2.1 _ l1) (hts _ (by rw [o2]; exact init_ok o7)) ⟨o3, o4, o5⟩ ⟨hR1, hR2⟩, hts _ (wd_in l2), trivial⟩
          ⟨KU_blind K G I _, fun U hU hW => ⟨rfl, KU_at hF hP hSv U hU hW⟩⟩ rfl hasl hLs rfl (lv_room (by rw [cats_tr]; exact hcat)) hd ⟨hC1, hC2⟩) hSv (fin hrun gg.1 gg.2)
        intro w hw
        refine tw_self w ?_
        rcases List.mem_cons.mp hw with rfl | hw
        · exact wd_codes _ hm'
        · exact hw
end
section
set_option maxRecDepth 100000 in
set_option maxHeartbeats 8000000 in
theorem st_invokespecial {l : Launch} {K : KT} {f : Nat} (hS : SIM l K f) {m pc : Nat} {als : List (Option Value)} {st : List Value} {G : Gt} {I : It} {r : Option Value} {G' : Gt} {I' : It} {p : Program} {e : Env} {s : State} {mid : MethodId} {args : Array Value} {below : List Frame} {meth : Method} {cd : Code} {H : Heap} {locs : List Loc} {R : Room} {cells slots cf sf : Nat} {Q : State → Prop} {ls : Array Slot}
    (hF : Fr K p s m mid args meth cd R) (hP : HP K G I H) (hSv : va_S (kfr K) s.heap H locs) (hL : LO K als ls) (hn : als.length = pL m) (hcz : H.size = s.heap.size + cells) (hc : cells + (G'.1 - G.1) = cf) (hsf : slots + (G'.2.1 - G.2.1) = sf) (hcf : cf ≤ R.cells) (hsf' : sf ≤ R.slots)
    (hret : ∀ (pc' : Nat) (ls' : Array Slot) (H' : Heap) (locs' : List Loc), HP K G' I' H' → va_S (kfr K) s.heap H' locs' → Ret m pc' r → W p l e R s mid args below meth cd H' locs' cf sf Q (F0 mid pc' ls' ((r.map (tr K)).toList)))
    {k : Nat} (hd : decode (pB m) pc = .ok (.invokespecial k, 3)) (hrun : rn (run f) (sdi (.invokespecial k) m pc als st G I) = some (r, G', I')) : W p l e R s mid args below meth cd H locs cells slots Q (F0 mid pc ls (st.map (tr K))) := by
  have hF0 := hF
  obtain ⟨hx, hb, hml, hown, hts, hini, hX, hXs, hfr, hwr, hb1, hb2⟩ := hF0
  have hbl : kb K < s.heap.size := Nat.lt_of_lt_of_le hb1 hb2
  have hbA : ¬ kfr K (kb K) := by show ¬ kB K ≤ kb K; omega
  have hD := wsO_D K G I
  have hA : ∀ q : Nat, s.heap.size ≤ q → kfr K q := fun q h => Nat.le_trans hb2 h
  have hLs : ls.size = pL m := by rw [← hn]; exact hL.1
  have go1 : ∀ {pc1 : Nat} {als1 : List (Option Value)} {st1 : List Value} {G1 : Gt} {I1 : It} {H1 : Heap} {locs1 : List Loc} {ls1 : Array Slot} , G1.1 = G.1 → G1.2.1 = G.2.1 → H1.size = H.size → rn (run f) (go m pc1 als1 st1 G1 I1) = some (r, G', I') → HP K G1 I1 H1 → va_S (kfr K) s.heap H1 locs1 → LO K als1 ls1 → als1.length = pL m →
      W p l e R s mid args below meth cd H1 locs1 cells slots Q (F0 mid pc1 ls1 (st1.map (tr K))) :=
    fun e1 e2 e3 h hP hS' hL hl => hS _ _ _ _ _ _ _ _ _ h hF hP hS' hL hl (by rw [e3]; exact hcz) (by rw [e1]; exact hc) (by rw [e2]; exact hsf) hcf hsf' hret
  have go0 : ∀ {pc1 : Nat} {als1 : List (Option Value)} {st1 : List Value} {ls1 : Array Slot}, rn (run f) (go m pc1 als1 st1 G I) = some (r, G', I') → LO K als1 ls1 → als1.length = pL m →
      W p l e R s mid args below meth cd H locs cells slots Q (F0 mid pc1 ls1 (st1.map (tr K))) := fun h hL hl => go1 rfl rfl rfl h hP hSv hL hl
  have fin : ∀ {pc1 : Nat} {r1 : Option Value} {rest : List Value} {G1 : Gt} {I1 : It}, run f (m, pc1, als, r1.toList ++ rest, G1, I1) = some (r, G', I') → G.1 ≤ G1.1 → G.2.1 ≤ G1.2.1 → ∀ (H1 : Heap) (locs1 : List Loc), HP K G1 I1 H1 → va_S (kfr K) s.heap H1 locs1 →
      W p l e R s mid args below meth cd H1 locs1 (cells + (G1.1 - G.1)) (slots + (G1.2.1 - G.2.1)) Q (F0 mid pc1 ls ((r1.map (tr K)).toList ++ rest.map (tr K))) := by
    intro pc1 r1 rest G1 I1 h g1 g2 H1 locs1 hP1 hS1
    have hm := run_grow _ _ _ _ _ _ _ _ _ _ h
    have e : (r1.map (tr K)).toList ++ rest.map (tr K) = (r1.toList ++ rest).map (tr K) := by cases r1 <;> rfl
    rw [e]
    have hz1 := hP.2.1
    have hz2 := hP1.2.1
    exact hS _ _ _ _ _ _ _ _ _ h hF hP1 hS1 hL hn (by omega) (by omega) (by omega) hcf hsf' hret
  simp only [sdi] at hrun
  split at hrun
  · rename_i hcp
    split at hrun
    · rename_i a rest
      obtain ⟨h0, hrun⟩ := rn_gd hrun
      simp only [Bool.and_eq_true, decide_eq_true_eq] at h0
      obtain ⟨⟨hcat, hf1⟩, hw1⟩ := h0
      obtain ⟨c1, c2'⟩ := wd_obj2
      refine W.objInit hx hb hown (hts _ (wd_obj _ hcp)) (hts _ (wd_in c1)) (hts _ (wd_in c2')) rfl (by rw [hml]; exact hLs) rfl hd (by omega) ?_ (go0 hrun hL hn)
      show 2 * 0 + _ + 12 ≤ _
      rw [cats_tr]
      omega
    · exact (rn_no hrun).elim
  · split at hrun
    · rename_i b rest hdrop
      obtain ⟨h0, hrun⟩ := rn_gd hrun
      unfold cal at hrun
      obtain ⟨h1, hrun⟩ := rn_gd hrun
      simp only [Bool.and_eq_true, decide_eq_true_eq] at h0 h1
      obtain ⟨hmode, hlen⟩ := h0
      obtain ⟨hcat, ⟨hfr1, hwr1⟩, hal⟩ := h1
      simp only [rn] at hrun
      split at hrun
      · cases hrun
      · rename_i x hr
        obtain ⟨r1, G1, I1⟩ := x
        have gg := run_grow _ _ _ _ _ _ _ _ _ _ hr
        simp only at hrun
        have gg2 := run_grow _ _ _ _ _ _ _ _ _ _ hrun
        have hR1 : pF (mL (pC m) k).1 + 1 ≤ R.frames := Nat.le_trans hfr1 hfr
        have hR2 : 8 + (pL (mL (pC m) k).1 + 11) + pW (mL (pC m) k).1 ≤ R.locals := Nat.le_trans hwr1 hwr
        have hC1 : cells + (G1.1 - G.1) ≤ R.cells := by omega
        have hC2 : slots + (G1.2.1 - G.2.1) ≤ R.slots := by omega
        obtain ⟨pp, hlk, hm'⟩ := wd_links _ (mL_mem (c := pC m) (i := k) (by rcases hmode with z | z <;> rw [z] <;> decide))
        simp only at hm'
        obtain ⟨o1, o2, o3, o4, o5, o6, o7⟩ := meth_ok (show (mL (pC m) k).1 < 184 by omega)
        have hstk : st.map (tr K) = (((st.take (pN (mL (pC m) k).1)).reverse).map (tr K)).reverse ++ .ref (ad K b) :: rest.map (tr K) := by
          rw [← List.map_reverse, List.reverse_reverse]
          conv => lhs; rw [← List.take_append_drop (pN (mL (pC m) k).1) st, hdrop]
          rw [List.map_append, List.map_cons]
          rfl
        rw [hstk]
        have hasl : (((st.take (pN (mL (pC m) k).1)).reverse).map (tr K)).length = pN (mL (pC m) k).1 := by rw [List.length_map, List.length_reverse]; exact hlen
        have hgi : GoodIn tw (Cond.code (pY (mL (pC m) k).1) (pB (mL (pC m) k).1) (pL (mL (pC m) k).1) none :: tw) := by
          intro w hw
          refine tw_self w ?_
          rcases List.mem_cons.mp hw with rfl | hw
          · have := wd_codes _ hm'
            rw [(o6 ?_).2] at this
            · exact this
            · unfold wd_link at hlk
              rcases hmode with hmode | hmode <;> rw [hmode] at hlk <;> simp only [Bool.and_eq_true, decide_eq_true_eq] at hlk <;> exact hlk.2
          · exact hw
        have hk2 : pK (mL (pC m) k).1 = 2 := by
          unfold wd_link at hlk
          rcases hmode with hmode | hmode <;> rw [hmode] at hlk <;> simp only [Bool.and_eq_true, decide_eq_true_eq] at hlk <;> exact hlk.2
        have hM := met_of_sim hS hm' hr hal
        rw [(o6 hk2).2] at hM
        unfold wd_link at hlk
        rcases hmode with hmode | hmode
        · rw [hmode] at hlk
          simp only [Bool.and_eq_true, decide_eq_true_eq] at hlk
          obtain ⟨⟨l1, l2⟩, l3⟩ := hlk
          exact call_done (rest := rest.map (tr K)) (va_runI (Ts := tw) (As := ((st.take (pN (mL (pC m) k).1)).reverse).map (tr K)) (b := ad K b) ⟨hx, hb, hml, hown, hts⟩ hM
            (cwI (own := pO (pC m)) (index := k) (pN (mL (pC m) k).1) hts hgi rfl rfl rfl (hts _ (by rw [o2]; exact init_ok o7)) (hts _ (wd_in l1)) (hts _ (wd_in l2)) (o6 hk2).1 ⟨o3, o4, o5⟩ ⟨hR1, hR2⟩)
            ⟨KU_blind K G I _, fun U hU hW => ⟨rfl, KU_at hF hP hSv U hU hW⟩⟩ rfl hasl hLs rfl (lv_room (by rw [cats_tr]; exact hcat)) hd ⟨hC1, hC2⟩) hSv (fin hrun gg.1 gg.2)
        · rw [hmode] at hlk
          simp only [Bool.and_eq_true, decide_eq_true_eq] at hlk
          obtain ⟨⟨l1, l2⟩, l3⟩ := hlk
          exact call_done (rest := rest.map (tr K)) (va_runIN (Ts := tw) (As := ((st.take (pN (mL (pC m) k).1)).reverse).map (tr K)) (b := ad K b) ⟨hx, hb, hml, hown, hts⟩ hM
            ⟨va_cnB (own := pO (pC m)) (host := "SettingsVault") (index := k) (pN (mL (pC m) k).1) hts hgi rfl rfl rfl (hX.2.1 _ l1) (hts _ (by rw [o2]; exact init_ok o7)) ⟨o3, o4, o5⟩ ⟨hR1, hR2⟩, (o6 hk2).1, hts _ (wd_in l2)⟩
            ⟨KU_blind K G I _, fun U hU hW => ⟨rfl, KU_at hF hP hSv U hU hW⟩⟩ rfl hasl hLs rfl (lv_room (by rw [cats_tr]; exact hcat)) hd ⟨hC1, hC2⟩) hSv (fin hrun gg.1 gg.2)
    · exact (rn_no hrun).elim
end
section
theorem hn_of {a n : Nat} {b : Bool} (h : (decide (a = n) || b) = true) (hb : b = false) : a = n := by
  rw [hb, Bool.or_false] at h
  exact of_decide_eq_true h
set_option maxRecDepth 100000 in
set_option maxHeartbeats 8000000 in
theorem sim_step {l : Launch} {K : KT} {f : Nat} (hS : SIM l K f) : SIM l K (f + 1) := by
  intro m pc als st G I r G' I' hrun p e s mid args below meth cd H locs R cells slots cf sf Q ls hF hP hSv hL hn hcz hc hsf hcf hsf' hret
  have hF0 := hF
  obtain ⟨hx, hb, hml, hown, hts, hini, hX, hXs, hfr, hwr, hb1, hb2⟩ := hF0
  have hbl : kb K < s.heap.size := Nat.lt_of_lt_of_le hb1 hb2
  have hbA : ¬ kfr K (kb K) := by show ¬ kB K ≤ kb K; omega
  have hD := wsO_D K G I
  have hA : ∀ q : Nat, s.heap.size ≤ q → kfr K q := fun q h => Nat.le_trans hb2 h
  have hLs : ls.size = pL m := by rw [← hn]; exact hL.1
  rw [run] at hrun
  unfold sd at hrun
  simp only at hrun
  cases hd : decode (pB m) pc with
  | error x => rw [hd] at hrun; exact (rn_no hrun).elim
  | ok q =>
    obtain ⟨i, n⟩ := q
    rw [hd] at hrun
    simp only at hrun
    have hr0 := rn_gd hrun
    clear hrun
    obtain ⟨hg, hrun⟩ := hr0
    have go1 : ∀ {pc1 : Nat} {als1 : List (Option Value)} {st1 : List Value} {G1 : Gt} {I1 : It} {H1 : Heap} {locs1 : List Loc} {ls1 : Array Slot} , G1.1 = G.1 → G1.2.1 = G.2.1 → H1.size = H.size → rn (run f) (go m pc1 als1 st1 G1 I1) = some (r, G', I') → HP K G1 I1 H1 → va_S (kfr K) s.heap H1 locs1 → LO K als1 ls1 → als1.length = pL m →
        W p l e R s mid args below meth cd H1 locs1 cells slots Q (F0 mid pc1 ls1 (st1.map (tr K))) :=
      fun e1 e2 e3 h hP hS' hL hl => hS _ _ _ _ _ _ _ _ _ h hF hP hS' hL hl (by rw [e3]; exact hcz) (by rw [e1]; exact hc) (by rw [e2]; exact hsf) hcf hsf' hret
    have go0 : ∀ {pc1 : Nat} {als1 : List (Option Value)} {st1 : List Value} {ls1 : Array Slot}, rn (run f) (go m pc1 als1 st1 G I) = some (r, G', I') → LO K als1 ls1 → als1.length = pL m →
        W p l e R s mid args below meth cd H locs cells slots Q (F0 mid pc1 ls1 (st1.map (tr K))) := fun h hL hl => go1 rfl rfl rfl h hP hSv hL hl
    have goG : ∀ {kk len pc1 : Nat} {st1 : List Value} {H1 : Heap} {locs1 : List Loc}, rn (run f) (go m pc1 als st1 (nG G kk len) (nI0 G I)) = some (r, G', I') → HP K (nG G kk len) (nI0 G I) H1 → va_S (kfr K) s.heap H1 locs1 →
        W p l e R s mid args below meth cd H1 locs1 (cells + 1) (slots + len) Q (F0 mid pc1 ls (st1.map (tr K))) := by
      intro kk len pc1 st1 H1 locs1 h hP1 hS1
      have hm := run_grow _ _ _ _ _ _ _ _ _ _ h
      have h1 : (nG G kk len).1 = G.1 + 1 := rfl
      have h2 : (nG G kk len).2.1 = G.2.1 + len := rfl
      rw [h1, h2] at hm
      have hz1 := hP.2.1
      have hz2 := hP1.2.1
      refine hS _ _ _ _ _ _ _ _ _ h hF hP1 hS1 hL hn ?_ ?_ ?_ hcf hsf' hret
      · rw [h1] at hz2; omega
      · rw [h1]; omega
      · rw [h2]; omega
    have fin : ∀ {pc1 : Nat} {r1 : Option Value} {rest : List Value} {G1 : Gt} {I1 : It}, run f (m, pc1, als, r1.toList ++ rest, G1, I1) = some (r, G', I') → G.1 ≤ G1.1 → G.2.1 ≤ G1.2.1 → ∀ (H1 : Heap) (locs1 : List Loc), HP K G1 I1 H1 → va_S (kfr K) s.heap H1 locs1 →
        W p l e R s mid args below meth cd H1 locs1 (cells + (G1.1 - G.1)) (slots + (G1.2.1 - G.2.1)) Q (F0 mid pc1 ls ((r1.map (tr K)).toList ++ rest.map (tr K))) := by
      intro pc1 r1 rest G1 I1 h g1 g2 H1 locs1 hP1 hS1
      have hm := run_grow _ _ _ _ _ _ _ _ _ _ h
      have e : (r1.map (tr K)).toList ++ rest.map (tr K) = (r1.toList ++ rest).map (tr K) := by cases r1 <;> rfl
      rw [e]
      have hz1 := hP.2.1
      have hz2 := hP1.2.1
      exact hS _ _ _ _ _ _ _ _ _ h hF hP1 hS1 hL hn (by omega) (by omega) (by omega) hcf hsf' hret
    cases i with
    | iconst n' =>
      have hn1 : 1 = n := hn_of hg rfl
      subst hn1
      exact lv_iconst hx hb hd rfl (go0 hrun hL hn)
    | bipush n' =>
      have hn1 : 2 = n := hn_of hg rfl
      subst hn1
      exact lv_bipush hx hb hd rfl (go0 hrun hL hn)
    | sipush n' =>
      have hn1 : 3 = n := hn_of hg rfl
      subst hn1
      exact lv_sipush hx hb hd rfl (go0 hrun hL hn)
    | lconst n' =>
      have hn1 : 1 = n := hn_of hg rfl
      subst hn1
      exact lv_lconst hx hb hd rfl (go0 hrun hL hn)
    | ldc2_w k =>
      have hn1 : 3 = n := hn_of hg rfl
      subst hn1
      simp only [sdi] at hrun
      split at hrun
      · rename_i v hv
        exact lv_ldc2 hx hb hown (hts _ (wd_long _ (lL_mem hv))) hd (go0 hrun hL hn)
      · exact (rn_no hrun).elim
    | iload_n k =>
      have hn1 : 1 = n := hn_of hg rfl
      subst hn1
      simp only [sdi, ldI] at hrun
      split at hrun
      · rename_i x hk
        exact lv_iload_n hx hb hd rfl (LO_at hL hk) (go0 hrun hL hn)
      · exact (rn_no hrun).elim
    | iload k =>
      have hn1 : 2 = n := hn_of hg rfl
      subst hn1
      simp only [sdi, ldI] at hrun
      split at hrun
      · rename_i x hk
        exact lv_iload hx hb hd (LO_at hL hk) (go0 hrun hL hn)
      · exact (rn_no hrun).elim
    | lload_n k =>
      have hn1 : 1 = n := hn_of hg rfl
      subst hn1
      simp only [sdi, ldJ] at hrun
      split at hrun
      · rename_i x hk
        exact lv_lload_n hx hb hd rfl (LO_at hL hk) (go0 hrun hL hn)
      · exact (rn_no hrun).elim
    | lload k =>
      have hn1 : 2 = n := hn_of hg rfl
      subst hn1
      simp only [sdi, ldJ] at hrun
      split at hrun
      · rename_i x hk
        exact lv_lload hx hb hd (LO_at hL hk) (go0 hrun hL hn)
      · exact (rn_no hrun).elim
    | aload_n k =>
      have hn1 : 1 = n := hn_of hg rfl
      subst hn1
      simp only [sdi, ldA] at hrun
      split at hrun
      · rename_i x hk
        exact lv_aload_n hx hb hd rfl (LO_at hL hk) (go0 hrun hL hn)
      · exact (rn_no hrun).elim
    | aload k =>
      have hn1 : 2 = n := hn_of hg rfl
      subst hn1
      simp only [sdi, ldA] at hrun
      split at hrun
      · rename_i x hk
        exact lv_aload hx hb hd (LO_at hL hk) (go0 hrun hL hn)
      · exact (rn_no hrun).elim
    | istore_n k =>
      have hn1 : 1 = n := hn_of hg rfl
      subst hn1
      simp only [sdi, stI] at hrun
      split at hrun
      · split at hrun
        · rename_i ls' hs
          exact lv_istore_n hx hb hd rfl hL (sL_len hs).1 rfl (fun ls2 h2 => go0 hrun (LO_st hs h2) ((sL_len hs).2.trans hn))
        · exact (rn_no hrun).elim
      · exact (rn_no hrun).elim
    | istore k =>
      have hn1 : 2 = n := hn_of hg rfl
      subst hn1
      simp only [sdi, stI] at hrun
      split at hrun
      · split at hrun
        · rename_i ls' hs
          exact lv_istore hx hb hd hL (sL_len hs).1 rfl (fun ls2 h2 => go0 hrun (LO_st hs h2) ((sL_len hs).2.trans hn))
        · exact (rn_no hrun).elim
      · exact (rn_no hrun).elim
    | astore_n k =>
      have hn1 : 1 = n := hn_of hg rfl
      subst hn1
      simp only [sdi, stA] at hrun
      split at hrun
      · split at hrun
        · rename_i ls' hs
          exact lv_astore_n hx hb hd rfl hL (sL_len hs).1 rfl (fun ls2 h2 => go0 hrun (LO_st hs h2) ((sL_len hs).2.trans hn))
        · exact (rn_no hrun).elim
      · exact (rn_no hrun).elim
    | astore k =>
      have hn1 : 2 = n := hn_of hg rfl
      subst hn1
      simp only [sdi, stA] at hrun
      split at hrun
      · split at hrun
        · rename_i ls' hs
          exact lv_astore hx hb hd hL (sL_len hs).1 rfl (fun ls2 h2 => go0 hrun (LO_st hs h2) ((sL_len hs).2.trans hn))
        · exact (rn_no hrun).elim
      · exact (rn_no hrun).elim
    | lstore_n k =>
      have hn1 : 1 = n := hn_of hg rfl
      subst hn1
      simp only [sdi, stJ] at hrun
      split at hrun
      · split at hrun
        · rename_i ls' hs
          exact lv_lstore_n hx hb hd rfl hL (sL2_len hs).1 rfl (fun ls2 h2 => go0 hrun (LO_st2 hs h2) ((sL2_len hs).2.trans hn))
        · exact (rn_no hrun).elim
      · exact (rn_no hrun).elim
    | lstore k =>
      have hn1 : 2 = n := hn_of hg rfl
      subst hn1
      simp only [sdi, stJ] at hrun
      split at hrun
      · split at hrun
        · rename_i ls' hs
          exact lv_lstore hx hb hd hL (sL2_len hs).1 rfl (fun ls2 h2 => go0 hrun (LO_st2 hs h2) ((sL2_len hs).2.trans hn))
        · exact (rn_no hrun).elim
      · exact (rn_no hrun).elim
    | iinc k n' =>
      have hn1 : 3 = n := hn_of hg rfl
      subst hn1
      simp only [sdi] at hrun
      split at hrun
      · rename_i x hk
        split at hrun
        · rename_i ls' hs
          obtain ⟨kk, hkk⟩ := List.getElem?_of_mem (lp_mem.mpr ⟨_, hk, rfl⟩ : (k, tr K (.int x)) ∈ lp K als)
          exact lv_iinc hx hb hd hL hkk rfl (sL_len hs).1 rfl (fun ls2 h2 => go0 hrun (LO_st hs h2) ((sL_len hs).2.trans hn))
        · exact (rn_no hrun).elim
      · exact (rn_no hrun).elim
    | iadd =>
      have hn1 : 1 = n := hn_of hg rfl
      subst hn1
      simp only [sdi] at hrun
      split at hrun
      · exact lv_iadd hx hb hd (go0 hrun hL hn)
      · exact (rn_no hrun).elim
    | isub =>
      have hn1 : 1 = n := hn_of hg rfl
      subst hn1
      simp only [sdi] at hrun
      split at hrun
      · exact lv_isub hx hb hd (go0 hrun hL hn)
      · exact (rn_no hrun).elim
    | imul =>
      have hn1 : 1 = n := hn_of hg rfl
      subst hn1
      simp only [sdi] at hrun
      split at hrun
      · exact lv_imul hx hb hd (go0 hrun hL hn)
      · exact (rn_no hrun).elim
    | iand =>
      have hn1 : 1 = n := hn_of hg rfl
      subst hn1
      simp only [sdi] at hrun
      split at hrun
      · exact lv_iand hx hb hd (go0 hrun hL hn)
      · exact (rn_no hrun).elim
    | ixor =>
      have hn1 : 1 = n := hn_of hg rfl
      subst hn1
      simp only [sdi] at hrun
      split at hrun
      · exact lv_ixor hx hb hd (go0 hrun hL hn)
      · exact (rn_no hrun).elim
    | land =>
      have hn1 : 1 = n := hn_of hg rfl
      subst hn1
      simp only [sdi] at hrun
      split at hrun
      · exact lv_land hx hb hd (go0 hrun hL hn)
      · exact (rn_no hrun).elim
    | lor =>
      have hn1 : 1 = n := hn_of hg rfl
      subst hn1
      simp only [sdi] at hrun
      split at hrun
      · exact lv_lor hx hb hd (go0 hrun hL hn)
      · exact (rn_no hrun).elim
    | lshl =>
      have hn1 : 1 = n := hn_of hg rfl
      subst hn1
      simp only [sdi] at hrun
      split at hrun
      · exact lv_lshl hx hb hd rfl (go0 hrun hL hn)
      · exact (rn_no hrun).elim
    | lshr =>
      have hn1 : 1 = n := hn_of hg rfl
      subst hn1
      simp only [sdi] at hrun
      split at hrun
      · exact lv_lshr hx hb hd rfl (go0 hrun hL hn)
      · exact (rn_no hrun).elim
    | lushr =>
      have hn1 : 1 = n := hn_of hg rfl
      subst hn1
      simp only [sdi] at hrun
      split at hrun
      · exact lv_lushr hx hb hd rfl (go0 hrun hL hn)
      · exact (rn_no hrun).elim
    | lcmp =>
      have hn1 : 1 = n := hn_of hg rfl
      subst hn1
      simp only [sdi] at hrun
      split at hrun
      · exact W.lcmp hx hb hd (go0 hrun hL hn)
      · exact (rn_no hrun).elim
    | i2l =>
      have hn1 : 1 = n := hn_of hg rfl
      subst hn1
      simp only [sdi] at hrun
      split at hrun
      · exact lv_i2l hx hb hd rfl (go0 hrun hL hn)
      · exact (rn_no hrun).elim
    | l2i =>
      have hn1 : 1 = n := hn_of hg rfl
      subst hn1
      simp only [sdi] at hrun
      split at hrun
      · exact lv_l2i hx hb hd rfl (go0 hrun hL hn)
      · exact (rn_no hrun).elim
    | i2c =>
      have hn1 : 1 = n := hn_of hg rfl
      subst hn1
      simp only [sdi] at hrun
      split at hrun
      · exact lv_i2c hx hb hd rfl (go0 hrun hL hn)
      · exact (rn_no hrun).elim
    | idiv =>
      have hn1 : 1 = n := hn_of hg rfl
      subst hn1
      simp only [sdi] at hrun
      split at hrun
      · obtain ⟨h0, hrun⟩ := rn_gd hrun
        exact lv_idiv hx hb hd (by simpa using h0) (go0 hrun hL hn)
      · exact (rn_no hrun).elim
    | irem =>
      have hn1 : 1 = n := hn_of hg rfl
      subst hn1
      simp only [sdi] at hrun
      split at hrun
      · obtain ⟨h0, hrun⟩ := rn_gd hrun
        exact lv_irem hx hb hd (by simpa using h0) (go0 hrun hL hn)
      · exact (rn_no hrun).elim
    | dup =>
      have hn1 : 1 = n := hn_of hg rfl
      subst hn1
      simp only [sdi] at hrun
      split at hrun
      · exact lv_dup hx hb hd rfl (go0 hrun hL hn)
      · exact lv_dup hx hb hd rfl (go0 hrun hL hn)
      · exact (rn_no hrun).elim
    | dup2 =>
      have hn1 : 1 = n := hn_of hg rfl
      subst hn1
      simp only [sdi] at hrun
      split at hrun
      · exact lv_dup2_11 hx hb hd rfl rfl (go0 hrun hL hn)
      · exact (rn_no hrun).elim
    | pop =>
      have hn1 : 1 = n := hn_of hg rfl
      subst hn1
      simp only [sdi] at hrun
      split at hrun
      · exact lv_pop hx hb hd rfl (go0 hrun hL hn)
      · exact (rn_no hrun).elim
    | goto off =>
      have hn1 : 3 = n := hn_of hg rfl
      subst hn1
      simp only [sdi] at hrun
      obtain ⟨h0, hrun⟩ := rn_gd hrun
      exact lv_goto hx hb hd (tg_eq h0) (go0 hrun hL hn)
    | ifCond cc off =>
      have hn1 : 3 = n := hn_of hg rfl
      subst hn1
      simp only [sdi] at hrun
      split at hrun
      · obtain ⟨h0, h1, h2⟩ := rn_br hrun
        cases cc with
        | eq => exact lv_if_eq hx hb hd (tg_eq h0) (fun h => go0 (h1 (by simp [c0, h])) hL hn) (fun h => go0 (h2 (by simp [c0, h])) hL hn)
        | ne => exact lv_if_ne hx hb hd (tg_eq h0) (fun h => go0 (h1 (by simp [c0, h])) hL hn) (fun h => go0 (h2 (by simp [c0, h])) hL hn)
        | lt => exact lv_if_lt hx hb hd (tg_eq h0) (fun h => go0 (h1 (by simp only [c0, h, decide_true])) hL hn) (fun h => go0 (h2 (by simp only [c0, h, decide_false])) hL hn)
        | ge => exact lv_if_ge hx hb hd (tg_eq h0) (fun h => go0 (h1 (by simp only [c0, h, decide_true])) hL hn) (fun h => go0 (h2 (by simp only [c0, h, decide_false])) hL hn)
        | gt => exact lv_if_gt hx hb hd (tg_eq h0) (fun h => go0 (h1 (by simp only [c0, h, decide_true])) hL hn) (fun h => go0 (h2 (by simp only [c0, h, decide_false])) hL hn)
        | le => exact lv_if_le hx hb hd (tg_eq h0) (fun h => go0 (h1 (by simp only [c0, h, decide_true])) hL hn) (fun h => go0 (h2 (by simp only [c0, h, decide_false])) hL hn)
      · exact (rn_no hrun).elim
    | if_icmp cc off =>
      have hn1 : 3 = n := hn_of hg rfl
      subst hn1
      simp only [sdi] at hrun
      split at hrun
      · obtain ⟨h0, h1, h2⟩ := rn_br hrun
        cases cc with
        | eq => exact lv_icmp_eq hx hb hd (tg_eq h0) (fun h => go0 (h1 (by simp [c2, h])) hL hn) (fun h => go0 (h2 (by simp [c2, h])) hL hn)
        | ne => exact lv_icmp_ne hx hb hd (tg_eq h0) (fun h => go0 (h1 (by simp [c2, h])) hL hn) (fun h => go0 (h2 (by simp [c2, h])) hL hn)
        | lt => exact lv_icmp_lt hx hb hd (tg_eq h0) (fun h => go0 (h1 (by simp only [c2, h, decide_true])) hL hn) (fun h => go0 (h2 (by simp only [c2, h, decide_false])) hL hn)
        | ge => exact lv_icmp_ge hx hb hd (tg_eq h0) (fun h => go0 (h1 (by simp only [c2, h, decide_true])) hL hn) (fun h => go0 (h2 (by simp only [c2, h, decide_false])) hL hn)
        | gt => exact lv_icmp_gt hx hb hd (tg_eq h0) (fun h => go0 (h1 (by simp only [c2, h, decide_true])) hL hn) (fun h => go0 (h2 (by simp only [c2, h, decide_false])) hL hn)
        | le => exact lv_icmp_le hx hb hd (tg_eq h0) (fun h => go0 (h1 (by simp only [c2, h, decide_true])) hL hn) (fun h => go0 (h2 (by simp only [c2, h, decide_false])) hL hn)
      · exact (rn_no hrun).elim
    | tableswitch d lo hi offs =>
      simp only [sdi] at hrun
      split at hrun
      · split at hrun
        · rename_i h0
          obtain ⟨h1, hrun⟩ := rn_gd hrun
          exact lv_tableOut hx hb hd h0 (tg_eq h1) (go0 hrun hL hn)
        · rename_i h0
          split at hrun
          · rename_i off ho
            obtain ⟨h1, hrun⟩ := rn_gd hrun
            exact lv_tableIn hx hb hd (fun z => h0 (Or.inl z)) (fun z => h0 (Or.inr z)) ho (tg_eq h1) (go0 hrun hL hn)
          · exact (rn_no hrun).elim
      · exact (rn_no hrun).elim
    | arraylength =>
      have hn1 : 1 = n := hn_of hg rfl
      subst hn1
      simp only [sdi] at hrun
      split at hrun
      · rename_i a r'
        obtain ⟨h0, hrun⟩ := rn_gd hrun
        simp only [Bool.or_eq_true, Bool.and_eq_true, decide_eq_true_eq] at h0
        rcases h0 with ⟨h1, h2⟩ | h0
        · obtain ⟨q0, q1, q2⟩ := kd_spec (c := kd G a) rfl (by omega) (by omega)
          by_cases h3 : kd G a < 53
          · have he := wsO_get (K := K) (I := I) q0 q1
            rw [elt_int q2 h1 h3] at he
            refine va_alen (ty := [FieldType.int, .boolean, .char, .object RX1, .object RX0].getD (kd G a - 50) .int) hx hb hX.1 hP.1 (a - 1) (kd G a - 50) he ?_ rfl hd (go0 hrun hL hn)
            have : kd G a = 50 ∨ kd G a = 51 ∨ kd G a = 52 := by omega
            rcases this with z | z | z <;> rw [z] <;> rfl
          · have he := wsO_get (K := K) (I := I) q0 q1
            rw [elt_ref q2 (by omega)] at he
            refine va_alen (ty := [FieldType.int, .boolean, .char, .object RX1, .object RX0].getD (kd G a - 50) .int) hx hb hX.1 hP.1 (a - 1) (kd G a - 50) he ?_ rfl hd (go0 hrun hL hn)
            have : kd G a = 53 ∨ kd G a = 54 := by omega
            rcases this with z | z <;> rw [z] <;> rfl
        · subst h0
          refine va_slen hx hb hXs hbl hbA hSv hd ?_
          have := go0 hrun hL hn
          rw [show ln G 0 = kLn K by unfold ln; rw [hP.2.2.2.1]] at this
          exact this
      · exact (rn_no hrun).elim
    | iaload =>
      have hn1 : 1 = n := hn_of hg rfl
      subst hn1
      simp only [sdi] at hrun
      split at hrun
      · rename_i i' a r'
        obtain ⟨h0, hrun⟩ := rn_gd hrun
        simp only [Bool.or_eq_true, Bool.and_eq_true, decide_eq_true_eq] at h0
        obtain ⟨h0, hi⟩ := h0
        rcases h0 with h0 | h0
        · obtain ⟨q0, q1, q2⟩ := kd_spec h0 (by decide) (by decide)
          have he := wsO_get (K := K) (I := I) q0 q1
          rw [elt_int q2 (by decide) (by decide)] at he
          exact va_iald hx hb hX.1 hP.1 (a - 1) 0 he rfl (inb_spec hi) hd (go0 hrun hL hn)
        · subst h0
          have e1 : ln G 0 = kLn K := by unfold ln; rw [hP.2.2.2.1]
          rw [e1] at hi
          refine va_sld hx hb hXs hbl hbA hSv (inb_spec hi) hd ?_
          have := go0 hrun hL hn
          rw [hP.2.2.2.2] at this
          exact this
      · exact (rn_no hrun).elim
    | baload =>
      have hn1 : 1 = n := hn_of hg rfl
      subst hn1
      simp only [sdi] at hrun
      split at hrun
      · rename_i i' a r'
        obtain ⟨h0, hrun⟩ := rn_gd hrun
        simp only [Bool.and_eq_true, decide_eq_true_eq] at h0
        obtain ⟨h0, hi⟩ := h0
        obtain ⟨q0, q1, q2⟩ := kd_spec h0 (by decide) (by decide)
        have he := wsO_get (K := K) (I := I) q0 q1
        rw [elt_int q2 (by decide) (by decide)] at he
        exact va_zald hx hb hX.1 hP.1 (a - 1) 1 he rfl (inb_spec hi) hd (go0 hrun hL hn)
      · exact (rn_no hrun).elim
    | caload =>
      have hn1 : 1 = n := hn_of hg rfl
      subst hn1
      simp only [sdi] at hrun
      split at hrun
      · rename_i i' a r'
        obtain ⟨h0, hrun⟩ := rn_gd hrun
        simp only [Bool.and_eq_true, decide_eq_true_eq] at h0
        obtain ⟨h0, hi⟩ := h0
        obtain ⟨q0, q1, q2⟩ := kd_spec h0 (by decide) (by decide)
        have he := wsO_get (K := K) (I := I) q0 q1
        rw [elt_int q2 (by decide) (by decide)] at he
        exact va_cald hx hb hX.1 hP.1 (a - 1) 2 he rfl (inb_spec hi) hd (go0 hrun hL hn)
      · exact (rn_no hrun).elim
    | aaload =>
      have hn1 : 1 = n := hn_of hg rfl
      subst hn1
      simp only [sdi] at hrun
      split at hrun
      · rename_i i' a r'
        obtain ⟨h0, hrun⟩ := rn_gd hrun
        simp only [Bool.or_eq_true, Bool.and_eq_true, decide_eq_true_eq] at h0
        obtain ⟨h0, hi⟩ := h0
        have k := go0 hrun hL hn
        rw [List.map_cons, tr_rf] at k
        rcases h0 with h0 | h0
        · obtain ⟨q0, q1, q2⟩ := kd_spec h0 (by decide) (by decide)
          have he := wsO_get (K := K) (I := I) q0 q1
          rw [elt_ref q2 (by decide)] at he
          exact va_aldq hx hb hX.1 hP.1 (a - 1) 3 he rfl (inb_spec hi) hd k
        · obtain ⟨q0, q1, q2⟩ := kd_spec h0 (by decide) (by decide)
          have he := wsO_get (K := K) (I := I) q0 q1
          rw [elt_ref q2 (by decide)] at he
          exact va_aldq hx hb hX.1 hP.1 (a - 1) 4 he rfl (inb_spec hi) hd k
      · exact (rn_no hrun).elim
    | iastore =>
      have hn1 : 1 = n := hn_of hg rfl
      subst hn1
      simp only [sdi] at hrun
      split at hrun
      · rename_i x i' a r'
        obtain ⟨h0, hrun⟩ := rn_gd hrun
        simp only [Bool.and_eq_true, decide_eq_true_eq] at h0
        obtain ⟨h0, hi⟩ := h0
        obtain ⟨q0, q1, q2⟩ := kd_spec h0 (by decide) (by decide)
        have he := wsO_get (K := K) (I := I) q0 q1
        rw [elt_int q2 (by decide) (by decide)] at he
        refine va_iast hx hb hX.1 hP.1 hD hSv (a - 1) 0 he rfl (inb_spec hi) hd (fun H1 locs1 hP1 _ hS1 => W_sz fun hz => ?_)
        have hP2 := HP_ast hP h0 (by decide) (by decide) H1 (by omega) hP1
        exact go1 rfl rfl (by have := hP2.2.1; have := hP.2.1; omega) hrun hP2 hS1 hL hn
      · exact (rn_no hrun).elim
    | bastore =>
      have hn1 : 1 = n := hn_of hg rfl
      subst hn1
      simp only [sdi] at hrun
      split at hrun
      · rename_i x i' a r'
        obtain ⟨h0, hrun⟩ := rn_gd hrun
        simp only [Bool.and_eq_true, decide_eq_true_eq] at h0
        obtain ⟨⟨h0, hi⟩, hx01⟩ := h0
        obtain ⟨q0, q1, q2⟩ := kd_spec h0 (by decide) (by decide)
        have he := wsO_get (K := K) (I := I) q0 q1
        rw [elt_int q2 (by decide) (by decide)] at he
        refine va_zast hx hb hX.1 hP.1 hD hSv (a - 1) 1 he rfl (inb_spec hi) hd (fun H1 locs1 hP1 _ hS1 => W_sz fun hz => ?_)
        have hx2 : vp_nar .boolean x = x := by
          unfold b01 at hx01
          simp only [Bool.or_eq_true, decide_eq_true_eq] at hx01
          rcases hx01 with rfl | rfl <;> rfl
        rw [hx2] at hP1
        have hP2 := HP_ast hP h0 (by decide) (by decide) H1 (by omega) hP1
        exact go1 rfl rfl (by have := hP2.2.1; have := hP.2.1; omega) hrun hP2 hS1 hL hn
      · exact (rn_no hrun).elim
    | castore =>
      have hn1 : 1 = n := hn_of hg rfl
      subst hn1
      simp only [sdi] at hrun
      split at hrun
      · rename_i x i' a r'
        obtain ⟨h0, hrun⟩ := rn_gd hrun
        simp only [Bool.and_eq_true, decide_eq_true_eq] at h0
        obtain ⟨⟨h0, hi⟩, hx01⟩ := h0
        obtain ⟨q0, q1, q2⟩ := kd_spec h0 (by decide) (by decide)
        have he := wsO_get (K := K) (I := I) q0 q1
        rw [elt_int q2 (by decide) (by decide)] at he
        refine va_cast hx hb hX.1 hP.1 hD hSv (a - 1) 2 he rfl (inb_spec hi) hd (fun H1 locs1 hP1 _ hS1 => W_sz fun hz => ?_)
        have hx2 : vp_nar .char x = x := by
          obtain ⟨j, hj, e⟩ : ∃ j : Nat, j < 65536 ∧ x = nI j := by
            obtain ⟨j, hj, e⟩ := nI_of (x := x) (by rw [Int32.lt_iff_toInt_lt, Int32.toInt_zero]; omega)
            refine ⟨j, ?_, e⟩
            have := hx01.2
            rw [e, nI_toInt hj] at this
            omega
          rw [e]
          have := (pk_charN hj).1
          unfold vp_nar
          rw [this]
        rw [hx2] at hP1
        have hP2 := HP_ast hP h0 (by decide) (by decide) H1 (by omega) hP1
        exact go1 rfl rfl (by have := hP2.2.1; have := hP.2.1; omega) hrun hP2 hS1 hL hn
      · exact (rn_no hrun).elim
    | aastore =>
      have hn1 : 1 = n := hn_of hg rfl
      subst hn1
      simp only [sdi] at hrun
      split at hrun
      · rename_i x i' a r'
        obtain ⟨h0, hrun⟩ := rn_gd hrun
        simp only [Bool.or_eq_true, Bool.and_eq_true, decide_eq_true_eq] at h0
        obtain ⟨h0, hi⟩ := h0
        rcases h0 with ⟨h0, hk⟩ | ⟨h0, hk⟩
        · obtain ⟨q0, q1, q2⟩ := kd_spec h0 (by decide) (by decide)
          obtain ⟨w0, w1, w2⟩ := kd_spec hk (by decide) (by decide)
          have he := wsO_get (K := K) (I := I) q0 q1
          rw [elt_ref q2 (by decide)] at he
          have hw := wsO_get (K := K) (I := I) w0 w1
          rw [elt_obj w2 (by decide)] at hw
          refine va_astq (r := (clC 1, clT 1, clN 1)) hx hb hX.1 hP.1 hD hSv (a - 1) 3 (x - 1) 1 he rfl hw rfl (inb_spec hi) hd (fun H1 locs1 hP1 _ hS1 => W_sz fun hz => ?_)
          have hP2 : HP K (uG G a (ix i') x) I H1 := HP_ar hP h0 (by decide) (by decide) H1 (by omega) hP1
          have h8 : H1.size + 1 = kB K + G.1 := hP2.2.1
          exact go1 (G1 := uG G a (ix i') x) rfl rfl (by have h9 := hP.2.1; omega) hrun hP2 hS1 hL hn
        · obtain ⟨q0, q1, q2⟩ := kd_spec h0 (by decide) (by decide)
          obtain ⟨w0, w1, w2⟩ := kd_spec hk (by decide) (by decide)
          have he := wsO_get (K := K) (I := I) q0 q1
          rw [elt_ref q2 (by decide)] at he
          have hw := wsO_get (K := K) (I := I) w0 w1
          rw [elt_obj w2 (by decide)] at hw
          refine va_astq (r := (clC 0, clT 0, clN 0)) hx hb hX.1 hP.1 hD hSv (a - 1) 4 (x - 1) 0 he rfl hw rfl (inb_spec hi) hd (fun H1 locs1 hP1 _ hS1 => W_sz fun hz => ?_)
          have hP2 : HP K (uG G a (ix i') x) I H1 := HP_ar hP h0 (by decide) (by decide) H1 (by omega) hP1
          have h8 : H1.size + 1 = kB K + G.1 := hP2.2.1
          exact go1 (G1 := uG G a (ix i') x) rfl rfl (by have h9 := hP.2.1; omega) hrun hP2 hS1 hL hn
      · exact (rn_no hrun).elim
    | getfield k =>
      have hn1 : 3 = n := hn_of hg rfl
      subst hn1
      simp only [sdi] at hrun
      split at hrun
      · rename_i o r'
        obtain ⟨h0, hrun⟩ := rn_gd hrun
        simp only [Bool.and_eq_true, decide_eq_true_eq] at h0
        obtain ⟨h0, hk8⟩ := h0
        obtain ⟨f1, f2, -, -, f5⟩ := wd_fields _ (fL_mem hk8)
        obtain ⟨q0, q1, q2⟩ := kd_spec h0 (by omega) (by omega)
        have he := wsO_get (K := K) (I := I) q0 q1
        rw [elt_obj q2 hk8] at he
        have k := go0 hrun hL hn
        rw [List.map_cons, tr_gf] at k
        exact va_get (Ts := tw) hx hb hts (cl_lays hk8) hown hX.1 hP.1 (o - 1) he (cl_at hk8) _ f2 (hts _ f1) (fun z hz => by rw [f5] at hz; exact hz) (rmap_get _ _ _ f2) hd k
      · exact (rn_no hrun).elim
    | putfield k =>
      have hn1 : 3 = n := hn_of hg rfl
      subst hn1
      simp only [sdi] at hrun
      split at hrun
      · rename_i v o r'
        obtain ⟨h0, hrun⟩ := rn_gd hrun
        simp only [Bool.and_eq_true, Bool.or_eq_true, Bool.not_eq_true', decide_eq_true_eq] at h0
        obtain ⟨⟨h0, hk8⟩, hfin⟩ := h0
        obtain ⟨f1, f2, -, f4, f5⟩ := wd_fields _ (fL_mem hk8)
        simp only at f1 f2 f4 f5
        obtain ⟨q0, q1, q2⟩ := kd_spec h0 (by omega) (by omega)
        have he := wsO_get (K := K) (I := I) q0 q1
        rw [elt_obj q2 hk8] at he
        have hft := (cl_ft hk8 _ f2).1
        have hlen : (fL (pC m) k).2 < ((List.range (clN (fL (pC m) k).1)).map (fvl K (fL (pC m) k).1 G I o)).length := by rw [List.length_map, List.length_range]; exact f2
        have key : ∀ (v2 : Value), narrow (clY (fL (pC m) k).1 (fL (pC m) k).2) v2 = v2 → fits (clY (fL (pC m) k).1 (fL (pC m) k).2) v2 = true →
            (∀ (H1 : Heap) (locs1 : List Loc), va_P (kD K) vwCl ((wsO K G I).set (o - 1) (ad K o, .inr ((fL (pC m) k).1, ((List.range (clN (fL (pC m) k).1)).map (fvl K (fL (pC m) k).1 G I o)).set (fL (pC m) k).2 v2))) H1 → va_S (kfr K) s.heap H1 locs1 → W p l e R s mid args below meth cd H1 locs1 cells slots Q (F0 mid (pc + 3) ls (r'.map (tr K)))) →
            W p l e R s mid args below meth cd H locs cells slots Q (F0 mid pc ls (v2 :: .ref (ad K o) :: r'.map (tr K))) := by
          intro v2 hnr hft2 kk
          by_cases hfi : fF (fL (pC m) k).1 (fL (pC m) k).2 = false
          · exact va_put (Ts := tw) hx hb hts (cl_lays hk8) (clY _) (cl_ty hk8) (cl_nm hk8) hown hX.1 hP.1 hD hSv (o - 1) he (cl_at hk8) _ f2 (hts _ f1) (fun z hz => by rw [f5] at hz; exact hz) (f4.trans hfi) (cl_ty hk8 _ f2) hnr hft2 hlen hd (fun H1 locs1 h1 _ h3 => kk H1 locs1 h1 h3)
          · rcases hfin with hfin | ⟨hk2, hpc⟩
            · exact absurd hfin hfi
            · exact va_putF (Ts := tw) hx hb hts (cl_lays hk8) (clY _) (cl_ty hk8) (cl_nm hk8) hown hX.1 hP.1 hD hSv (o - 1) he (cl_at hk8) _ f2 (hts _ f1) (fun z hz => by rw [f5] at hz; exact hz) (f4.trans (by simpa using hfi)) (hini hk2) (f5.trans (by show pO (fL (pC m) k).1 = pO (pC m); rw [← hpc])) (cl_ty hk8 _ f2) hnr hft2 hlen hd (fun H1 locs1 h1 _ h3 => kk H1 locs1 h1 h3)
        simp only [pf] at hrun
        split at hrun
        · rename_i x e1 hold
          rw [e1] at hft
          refine key (.int x) ?_ ?_ (fun H1 locs1 hP1 hS1 => W_sz fun hz => ?_)
          · revert hft; cases clY (fL (pC m) k).1 (fL (pC m) k).2 <;> intro hft <;> first | rfl | cases hft
          · revert hft; cases clY (fL (pC m) k).1 (fL (pC m) k).2 <;> intro hft <;> first | rfl | cases hft
          · have hP2 := HP_pi hP h0 hk8 (by rw [e1]; decide) H1 (by omega) hP1
            exact go1 rfl rfl (by have := hP2.2.1; have := hP.2.1; omega) hrun hP2 hS1 hL hn
        · rename_i x e1 hold
          obtain ⟨hx01, hrun⟩ := rn_gd hrun
          unfold b01 at hx01
          simp only [Bool.or_eq_true, decide_eq_true_eq] at hx01
          rw [e1] at hft
          refine key (.int x) ?_ ?_ (fun H1 locs1 hP1 hS1 => W_sz fun hz => ?_)
          · revert hft; cases clY (fL (pC m) k).1 (fL (pC m) k).2 <;> intro hft <;> first | (rcases hx01 with rfl | rfl <;> rfl) | cases hft
          · revert hft; cases clY (fL (pC m) k).1 (fL (pC m) k).2 <;> intro hft <;> first | (rcases hx01 with rfl | rfl <;> rfl) | cases hft
          · have hP2 := HP_pi hP h0 hk8 (by rw [e1]; decide) H1 (by omega) hP1
            exact go1 rfl rfl (by have := hP2.2.1; have := hP.2.1; omega) hrun hP2 hS1 hL hn
        · rename_i x e1 hold
          rw [e1] at hft
          refine key (.ref (ad K x)) ?_ ?_ (fun H1 locs1 hP1 hS1 => W_sz fun hz => ?_)
          · revert hft; cases clY (fL (pC m) k).1 (fL (pC m) k).2 <;> intro hft <;> first | rfl | cases hft
          · revert hft; cases clY (fL (pC m) k).1 (fL (pC m) k).2 <;> intro hft <;> first | rfl | cases hft
          · have hP2 : HP K (uG G o (fL (pC m) k).2 x) I H1 := HP_pr hP h0 hk8 e1 H1 (by omega) hP1
            have h8 : H1.size + 1 = kB K + G.1 := hP2.2.1
            exact go1 (G1 := uG G o (fL (pC m) k).2 x) rfl rfl (by have h9 := hP.2.1; omega) hrun hP2 hS1 hL hn
        · exact (rn_no hrun).elim
      · exact (rn_no hrun).elim
    | new k =>
      have hn1 : 3 = n := hn_of hg rfl
      subst hn1
      simp only [sdi] at hrun
      obtain ⟨h0, hrun⟩ := rn_gd hrun
      have hk8 : kL (pC m) k < 8 := by simpa using h0
      have hm := run_grow _ _ _ _ _ _ _ _ _ _ hrun
      have g1 : (nG G (kL (pC m) k) (clN (kL (pC m) k))).1 = G.1 + 1 := rfl
      have g2 : (nG G (kL (pC m) k) (clN (kL (pC m) k))).2.1 = G.2.1 + clN (kL (pC m) k) := rfl
      rw [g1, g2] at hm
      obtain ⟨w1, w2⟩ := cl_inst hk8
      have he : elt K (nG G (kL (pC m) k) (clN (kL (pC m) k))) (nI0 G I) G.1 = .inr (kL (pC m) k, (List.range (clN (kL (pC m) k))).map (fvl K (kL (pC m) k) (nG G (kL (pC m) k) (clN (kL (pC m) k))) (nI0 G I) G.1)) :=
        elt_obj (by rw [nG_new]) hk8
      refine va_new (Ts := tw) (fs := (List.range (clN (kL (pC m) k))).map (fvl K (kL (pC m) k) (nG G (kL (pC m) k) (clN (kL (pC m) k))) (nI0 G I) G.1)) hx hb hts (cl_lays hk8) (clY _) (cl_ty hk8) hown (hts _ (wd_kl _ (kL_mem hk8)).1) (hts _ w1) (hts _ w2) hX.1 hP.1 hD hSv hA (cl_at hk8) ?_ (by omega) (by omega) hd (fun q H1 hP1 hD1 hS1 => W_sz fun hz => ?_)
      · intro j hj
        have e1 := (cl_ft hk8 j hj).1
        have e2 := (cl_ft hk8 j hj).2
        have e3 : vp_V ((List.range (clN (kL (pC m) k))).map (fvl K (kL (pC m) k) (nG G (kL (pC m) k) (clN (kL (pC m) k))) (nI0 G I) G.1)) j = fvl K (kL (pC m) k) (nG G (kL (pC m) k) (clN (kL (pC m) k))) (nI0 G I) G.1 j := by
          unfold vp_V
          rw [List.getD_eq_getElem?_getD, rmap_get _ _ _ hj]
          rfl
        rw [e3]
        unfold fvl
        rw [nG_rf0, nI0_new]
        revert e1 e2
        cases clY (kL (pC m) k) j <;> intro e1 e2 <;> first | (rw [e1, if_neg (by decide)]; rfl) | (rw [e1, if_pos rfl]; rfl) | (exfalso; have e4 : fT (kL (pC m) k) j = 7 := e1; omega)
      · obtain ⟨e1, hP2⟩ := HP_new hP he q H1 (by omega) hD1 hP1
        rw [e1]
        exact goG hrun hP2 hS1
    | newarray t =>
      have hn1 : 2 = n := hn_of hg rfl
      subst hn1
      simp only [sdi] at hrun
      split at hrun
      · rename_i n' r'
        obtain ⟨h0, hrun⟩ := rn_gd hrun
        simp only [Bool.and_eq_true, decide_eq_true_eq] at h0
        obtain ⟨hk, hn0, hn1⟩ := h0
        have hm := run_grow _ _ _ _ _ _ _ _ _ _ hrun
        have g1 : (nG G (akd t) (ix n')).1 = G.1 + 1 := rfl
        have g2 : (nG G (akd t) (ix n')).2.1 = G.2.1 + ix n' := rfl
        rw [g1, g2] at hm
        have hix : ix n' ≤ 1000 := by show n'.toInt.toNat ≤ 1000; omega
        have hneg : ¬ n' < 0 := by rw [Int32.lt_iff_toInt_lt, Int32.toInt_zero]; omega
        have hk2 : (t = .int ∧ akd t = 50) ∨ (t = .boolean ∧ akd t = 51) ∨ (t = .char ∧ akd t = 52) := by
          cases t <;> first | exact Or.inl ⟨rfl, rfl⟩ | exact Or.inr (Or.inl ⟨rfl, rfl⟩) | exact Or.inr (Or.inr ⟨rfl, rfl⟩) | (exfalso; revert hk; decide)
        have key : ∀ (ty : FieldType) (c : Nat), akd t = c → 50 ≤ c → c < 53 → newarray.typeOf t = ty → (tysK K)[c - 50]? = some (kA K (c - 50), ty) → defaultValue ty = .int 0 → componentBytes ty ≤ 4 → (Cond.arrayClass (newarray.typeOf t)).before args s = true → (∀ z, va_RA s z ty → s.vm.findClass ("[" ++ ty.toString) = some z) →
            W p l e R s mid args below meth cd H locs cells slots Q (F0 mid pc ls (.int n' :: r'.map (tr K))) := by
          intro ty cc ec c1 c2 ety etys edv ecb hw hra
          have he : elt K (nG G (akd t) (ix n')) (nI0 G I) G.1 = .inl (kA K (cc - 50), ix n', .inl (fun _ => 0)) := by
            rw [elt_int (c := cc) (by rw [nG_new, ec]) c1 c2, nI0_new]
            unfold ln
            rw [nG_new]
          refine va_newa (a0 := (ix n', .inl (fun _ => 0))) hx hb hw ety hX.1 hP.1 hD hSv hA ?_ hneg rfl ?_ (by omega) (by show slots + ix n' ≤ _; omega) hd (fun q cA H1 hK1 hP1 hD1 hS1 => W_sz fun hz => ?_)
          · intro z
            rw [edv]
            rfl
          · have := Nat.mul_le_mul hix ecb
            show ix n' * componentBytes ty ≤ _
            omega
          · have z1 := hK1.2 (tysK K).length (cA, ty) (by rw [List.getElem?_append_right (Nat.le_refl _), Nat.sub_self]; rfl)
            have z2 := hX.1.2 _ _ etys
            have z3 : cA = kA K (cc - 50) := Option.some.inj ((hra _ z1.2).symm.trans (hra _ z2.2))
            rw [z3] at hP1 hD1
            obtain ⟨e1, hP2⟩ := HP_new hP he q H1 (by omega) hD1 hP1
            rw [e1]
            exact goG hrun hP2 hS1
        obtain ⟨r1, r2, r3, -, -⟩ := wd_arr
        rcases hk2 with ⟨rfl, e⟩ | ⟨rfl, e⟩ | ⟨rfl, e⟩
        · exact key .int 50 e (by decide) (by decide) rfl rfl rfl (by decide) (hts _ (wd_in r1)) (fun z h => h)
        · exact key .boolean 51 e (by decide) (by decide) rfl rfl rfl (by decide) (hts _ (wd_in r2)) (fun z h => h)
        · exact key .char 52 e (by decide) (by decide) rfl rfl rfl (by decide) (hts _ (wd_in r3)) (fun z h => h)
      · exact (rn_no hrun).elim
    | anewarray k =>
      have hn1 : 3 = n := hn_of hg rfl
      subst hn1
      simp only [sdi] at hrun
      split at hrun
      · rename_i n' r'
        obtain ⟨h0, hrun⟩ := rn_gd hrun
        simp only [Bool.and_eq_true, decide_eq_true_eq] at h0
        obtain ⟨hk, hn0, hn1⟩ := h0
        have hm := run_grow _ _ _ _ _ _ _ _ _ _ hrun
        have g1 : (nG G (54 - kL (pC m) k) (ix n')).1 = G.1 + 1 := rfl
        have g2 : (nG G (54 - kL (pC m) k) (ix n')).2.1 = G.2.1 + ix n' := rfl
        rw [g1, g2] at hm
        have hix : ix n' ≤ 1000 := by show n'.toInt.toNat ≤ 1000; omega
        have hneg : ¬ n' < 0 := by rw [Int32.lt_iff_toInt_lt, Int32.toInt_zero]; omega
        have hlk := (wd_kl _ (kL_mem (show kL (pC m) k < 8 by omega))).1
        have key : ∀ (C : String) (c : Nat), 54 - kL (pC m) k = c → 53 ≤ c → clC (kL (pC m) k) = C → (tysK K)[c - 50]? = some (kA K (c - 50), .object C) → va_AO C s →
            W p l e R s mid args below meth cd H locs cells slots Q (F0 mid pc ls (.int n' :: r'.map (tr K))) := by
          intro C cc ec c1 eC etys hao
          have he : elt K (nG G (54 - kL (pC m) k) (ix n')) (nI0 G I) G.1 = .inl (kA K (cc - 50), ix n', .inr (.inr (.inr (.inr (fun _ => none))))) := by
            rw [elt_ref (c := cc) (by rw [nG_new, ec]) c1]
            simp only [nG_rf0]
            unfold ln
            rw [nG_new]
            rfl
          simp only at hlk
          rw [eC] at hlk
          refine va_newq hx hb hown (hts _ hlk) hao hX.1 hP.1 hD hSv hA hneg rfl (by show ix n' * 4 ≤ _; omega) (by omega) (by show slots + ix n' ≤ _; omega) hd (fun q cA H1 hK1 hP1 hD1 hS1 => W_sz fun hz => ?_)
          have z1 := hK1.2 (tysK K).length (cA, .object C) (by rw [List.getElem?_append_right (Nat.le_refl _), Nat.sub_self]; rfl)
          have z2 := hX.1.2 _ _ etys
          obtain ⟨_, _, _, _, _, y1⟩ := z1.2
          obtain ⟨_, _, _, _, _, y2⟩ := z2.2
          have z3 : cA = kA K (cc - 50) := Option.some.inj (y1.symm.trans y2)
          rw [z3] at hP1 hD1
          obtain ⟨e1, hP2⟩ := HP_new hP he q H1 (by omega) hD1 hP1
          rw [e1]
          exact goG hrun hP2 hS1
        have : kL (pC m) k = 0 ∨ kL (pC m) k = 1 := by omega
        rcases this with z | z
        · exact key RX0 54 (by rw [z]) (by decide) (by rw [z]; rfl) rfl hX.2.2.2
        · exact key RX1 53 (by rw [z]) (by decide) (by rw [z]; rfl) rfl hX.2.2.1
      · exact (rn_no hrun).elim
    | invokevirtual k =>
      have hn1 : 3 = n := hn_of hg rfl
      subst hn1
      exact st_invokevirtual hS hF hP hSv hL hn hcz hc hsf hcf hsf' hret hd hrun
    | invokestatic k =>
      have hn1 : 3 = n := hn_of hg rfl
      subst hn1
      exact st_invokestatic hS hF hP hSv hL hn hcz hc hsf hcf hsf' hret hd hrun
    | invokespecial k =>
      have hn1 : 3 = n := hn_of hg rfl
      subst hn1
      exact st_invokespecial hS hF hP hSv hL hn hcz hc hsf hcf hsf' hret hd hrun
    | ireturn =>
      have hn1 : 1 = n := hn_of hg rfl
      subst hn1
      simp only [sdi] at hrun
      split at hrun
      · rename_i v
        obtain ⟨h0, hrun⟩ := rn_gd hrun
        have e1 : some (some (Value.int v), G, I) = some (r, G', I') := hrun
        simp only [Option.some.injEq, Prod.mk.injEq] at e1
        obtain ⟨rfl, rfl, rfl⟩ := e1
        have e1 : cf = cells := by omega
        have e2 : sf = slots := by omega
        subst e1; subst e2
        exact hret pc ls H locs hP hSv ⟨hd, h0⟩
      · exact (rn_no hrun).elim
    | areturn =>
      have hn1 : 1 = n := hn_of hg rfl
      subst hn1
      simp only [sdi] at hrun
      split at hrun
      · rename_i v
        obtain ⟨h0, hrun⟩ := rn_gd hrun
        have e1 : some (some (Value.ref v), G, I) = some (r, G', I') := hrun
        simp only [Option.some.injEq, Prod.mk.injEq] at e1
        obtain ⟨rfl, rfl, rfl⟩ := e1
        have e1 : cf = cells := by omega
        have e2 : sf = slots := by omega
        subst e1; subst e2
        exact hret pc ls H locs hP hSv ⟨hd, h0⟩
      · exact (rn_no hrun).elim
    | return_ =>
      have hn1 : 1 = n := hn_of hg rfl
      subst hn1
      simp only [sdi] at hrun
      split at hrun
      · obtain ⟨h0, hrun⟩ := rn_gd hrun
        have e1 : some ((none : Option Value), G, I) = some (r, G', I') := hrun
        simp only [Option.some.injEq, Prod.mk.injEq] at e1
        obtain ⟨rfl, rfl, rfl⟩ := e1
        have e1 : cf = cells := by omega
        have e2 : sf = slots := by omega
        subst e1; subst e2
        exact hret pc ls H locs hP hSv ⟨hd, by simpa using h0⟩
      · exact (rn_no hrun).elim
    | _ => exact (rn_no hrun).elim
theorem sim_all (l : Launch) (K : KT) : ∀ f : Nat, SIM l K f := by
  intro f
  induction f with
  | zero => intro m pc als st G I r G' I' h; simp [run] at h
  | succ f ih => exact sim_step ih
end
