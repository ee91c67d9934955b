theorem mB0 : pB 0 = cX0_init := rfl
theorem mC0 : pC 0 = 0 := rfl
theorem mR0 : pR 0 = none := rfl
theorem mN0 : pN 0 = 1 := rfl
theorem mK0 : pK 0 = 2 := rfl
theorem mB1 : pB 1 = cX0_copyFrom := rfl
theorem mC1 : pC 1 = 0 := rfl
theorem mR1 : pR 1 = none := rfl
theorem mN1 : pN 1 = 1 := rfl
theorem mB2 : pB 2 = cX0_isPowered := rfl
theorem mC2 : pC 2 = 0 := rfl
theorem mR2 : pR 2 = (some .boolean) := rfl
theorem mN2 : pN 2 = 0 := rfl
theorem mB3 : pB 3 = cX0_isReady := rfl
theorem mC3 : pC 3 = 0 := rfl
theorem mR3 : pR 3 = (some .boolean) := rfl
theorem mN3 : pN 3 = 0 := rfl
theorem mB4 : pB 4 = cX0_writesLeft := rfl
theorem mC4 : pC 4 = 0 := rfl
theorem mR4 : pR 4 = (some .int) := rfl
theorem mN4 : pN 4 = 0 := rfl
theorem mB5 : pB 5 = cX0_active := rfl
theorem mC5 : pC 5 = 0 := rfl
theorem mR5 : pR 5 = (some .int) := rfl
theorem mN5 : pN 5 = 0 := rfl
theorem mB6 : pB 6 = cX0_version := rfl
theorem mC6 : pC 6 = 0 := rfl
theorem mR6 : pR 6 = (some .int) := rfl
theorem mN6 : pN 6 = 0 := rfl
theorem mB7 : pB 7 = cX0_sequence := rfl
theorem mC7 : pC 7 = 0 := rfl
theorem mR7 : pR 7 = (some .int) := rfl
theorem mN7 : pN 7 = 0 := rfl
theorem mB8 : pB 8 = cX0_badRecords := rfl
theorem mC8 : pC 8 = 0 := rfl
theorem mR8 : pR 8 = (some .int) := rfl
theorem mN8 : pN 8 = 0 := rfl
theorem mB9 : pB 9 = cX0_pageOf := rfl
theorem mC9 : pC 9 = 0 := rfl
theorem mR9 : pR 9 = (some (.object "SettingsVault$Page")) := rfl
theorem mN9 : pN 9 = 1 := rfl
theorem mB10 : pB 10 = cX0_presentLayout := rfl
theorem mC10 : pC 10 = 0 := rfl
theorem mR10 : pR 10 = (some (.object "SettingsVault$Layout")) := rfl
theorem mN10 : pN 10 = 0 := rfl
theorem mB11 : pB 11 = cX0_valueOf := rfl
theorem mC11 : pC 11 = 0 := rfl
theorem mR11 : pR 11 = (some .int) := rfl
theorem mN11 : pN 11 = 1 := rfl
theorem mB12 : pB 12 = cX0_placeOf := rfl
theorem mC12 : pC 12 = 0 := rfl
theorem mR12 : pR 12 = (some .int) := rfl
theorem mN12 : pN 12 = 1 := rfl
theorem mB13 : pB 13 = cX0_countRoom := rfl
theorem mC13 : pC 13 = 0 := rfl
theorem mR13 : pR 13 = (some .int) := rfl
theorem mN13 : pN 13 = 0 := rfl
theorem mB14 : pB 14 = cX0_countSettings := rfl
theorem mC14 : pC 14 = 0 := rfl
theorem mR14 : pR 14 = (some .int) := rfl
theorem mN14 : pN 14 = 0 := rfl
theorem mB15 : pB 15 = cX0_countChangedSettings := rfl
theorem mC15 : pC 15 = 0 := rfl
theorem mR15 : pR 15 = (some .int) := rfl
theorem mN15 : pN 15 = 0 := rfl
theorem mB16 : pB 16 = cX0_failBehind := rfl
theorem mC16 : pC 16 = 0 := rfl
theorem mR16 : pR 16 = none := rfl
theorem mN16 : pN 16 = 1 := rfl
theorem mB17 : pB 17 = cX0_restart := rfl
theorem mC17 : pC 17 = 0 := rfl
theorem mR17 : pR 17 = none := rfl
theorem mN17 : pN 17 = 0 := rfl
theorem mB18 : pB 18 = cX0_findActive := rfl
theorem mC18 : pC 18 = 0 := rfl
theorem mR18 : pR 18 = (some .int) := rfl
theorem mN18 : pN 18 = 0 := rfl
theorem mB19 : pB 19 = cX0_takeDefaults := rfl
theorem mC19 : pC 19 = 0 := rfl
theorem mR19 : pR 19 = none := rfl
theorem mN19 : pN 19 = 0 := rfl
theorem mB20 : pB 20 = cX0_readRecords := rfl
theorem mC20 : pC 20 = 0 := rfl
theorem mR20 : pR 20 = none := rfl
theorem mN20 : pN 20 = 1 := rfl
theorem mB21 : pB 21 = cX0_change := rfl
theorem mC21 : pC 21 = 0 := rfl
theorem mR21 : pR 21 = (some .int) := rfl
theorem mN21 : pN 21 = 2 := rfl
theorem mB22 : pB 22 = cX0_moveTo := rfl
theorem mC22 : pC 22 = 0 := rfl
theorem mR22 : pR 22 = (some .int) := rfl
theorem mN22 : pN 22 = 1 := rfl
theorem mB23 : pB 23 = cX0_migratedValueOf := rfl
theorem mC23 : pC 23 = 0 := rfl
theorem mR23 : pR 23 = (some .int) := rfl
theorem mN23 : pN 23 = 2 := rfl
theorem mB24 : pB 24 = cX0_migrateValues := rfl
theorem mC24 : pC 24 = 0 := rfl
theorem mR24 : pR 24 = none := rfl
theorem mN24 : pN 24 = 1 := rfl
theorem mB25 : pB 25 = cX0_reset := rfl
theorem mC25 : pC 25 = 0 := rfl
theorem mR25 : pR 25 = (some .int) := rfl
theorem mN25 : pN 25 = 1 := rfl
theorem mB26 : pB 26 = cX0_fillOther := rfl
theorem mC26 : pC 26 = 0 := rfl
theorem mR26 : pR 26 = (some .int) := rfl
theorem mN26 : pN 26 = 1 := rfl
theorem mB27 : pB 27 = cX0_writeRecord := rfl
theorem mC27 : pC 27 = 0 := rfl
theorem mR27 : pR 27 = (some .int) := rfl
theorem mN27 : pN 27 = 5 := rfl
theorem mB28 : pB 28 = cX0_writeHead := rfl
theorem mC28 : pC 28 = 0 := rfl
theorem mR28 : pR 28 = (some .int) := rfl
theorem mN28 : pN 28 = 3 := rfl
theorem mB29 : pB 29 = cX0_writeThree := rfl
theorem mC29 : pC 29 = 0 := rfl
theorem mR29 : pR 29 = (some .int) := rfl
theorem mN29 : pN 29 = 5 := rfl
theorem mB30 : pB 30 = cX0_writeCell := rfl
theorem mC30 : pC 30 = 0 := rfl
theorem mR30 : pR 30 = (some .int) := rfl
theorem mN30 : pN 30 = 3 := rfl
theorem mB31 : pB 31 = cX1_init := rfl
theorem mC31 : pC 31 = 1 := rfl
theorem mR31 : pR 31 = none := rfl
theorem mN31 : pN 31 = 0 := rfl
theorem mK31 : pK 31 = 2 := rfl
theorem mB32 : pB 32 = cX1_has := rfl
theorem mC32 : pC 32 = 1 := rfl
theorem mR32 : pR 32 = (some .boolean) := rfl
theorem mN32 : pN 32 = 1 := rfl
theorem mB33 : pB 33 = cX1_greatestOf := rfl
theorem mC33 : pC 33 = 1 := rfl
theorem mR33 : pR 33 = (some .int) := rfl
theorem mN33 : pN 33 = 1 := rfl
theorem mB34 : pB 34 = cX1_defaultOf := rfl
theorem mC34 : pC 34 = 1 := rfl
theorem mR34 : pR 34 = (some .int) := rfl
theorem mN34 : pN 34 = 1 := rfl
theorem mB35 : pB 35 = cX1_nameBefore := rfl
theorem mC35 : pC 35 = 1 := rfl
theorem mR35 : pR 35 = (some .int) := rfl
theorem mN35 : pN 35 = 1 := rfl
theorem mB36 : pB 36 = cX1_takes := rfl
theorem mC36 : pC 36 = 1 := rfl
theorem mR36 : pR 36 = (some .boolean) := rfl
theorem mN36 : pN 36 = 2 := rfl
theorem mB37 : pB 37 = cX1_makeFrom := rfl
theorem mC37 : pC 37 = 1 := rfl
theorem mR37 : pR 37 = (some .boolean) := rfl
theorem mN37 : pN 37 = 2 := rfl
theorem mB38 : pB 38 = cX1_addSetting := rfl
theorem mC38 : pC 38 = 1 := rfl
theorem mR38 : pR 38 = (some .boolean) := rfl
theorem mN38 : pN 38 = 3 := rfl
theorem mB39 : pB 39 = cX1_dropSetting := rfl
theorem mC39 : pC 39 = 1 := rfl
theorem mR39 : pR 39 = (some .boolean) := rfl
theorem mN39 : pN 39 = 1 := rfl
theorem mB40 : pB 40 = cX1_renameSetting := rfl
theorem mC40 : pC 40 = 1 := rfl
theorem mR40 : pR 40 = (some .boolean) := rfl
theorem mN40 : pN 40 = 2 := rfl
theorem mB41 : pB 41 = cX1_scaleSetting := rfl
theorem mC41 : pC 41 = 1 := rfl
theorem mR41 : pR 41 = (some .boolean) := rfl
theorem mN41 : pN 41 = 3 := rfl
theorem mB42 : pB 42 = cX1_carryOver := rfl
theorem mC42 : pC 42 = 1 := rfl
theorem mR42 : pR 42 = none := rfl
theorem mN42 : pN 42 = 1 := rfl
theorem mB43 : pB 43 = cX2_init := rfl
theorem mC43 : pC 43 = 2 := rfl
theorem mR43 : pR 43 = none := rfl
theorem mN43 : pN 43 = 0 := rfl
theorem mK43 : pK 43 = 2 := rfl
theorem mB44 : pB 44 = cX2_count := rfl
theorem mC44 : pC 44 = 2 := rfl
theorem mR44 : pR 44 = (some .int) := rfl
theorem mN44 : pN 44 = 0 := rfl
theorem mB45 : pB 45 = cX2_has := rfl
theorem mC45 : pC 45 = 2 := rfl
theorem mR45 : pR 45 = (some .boolean) := rfl
theorem mN45 : pN 45 = 1 := rfl
theorem mB46 : pB 46 = cX2_of := rfl
theorem mC46 : pC 46 = 2 := rfl
theorem mR46 : pR 46 = (some (.object "SettingsVault$Layout")) := rfl
theorem mN46 : pN 46 = 1 := rfl
theorem mB47 : pB 47 = cX2_extend := rfl
theorem mC47 : pC 47 = 2 := rfl
theorem mR47 : pR 47 = (some .boolean) := rfl
theorem mN47 : pN 47 = 1 := rfl
theorem mB48 : pB 48 = cX2_carryOver := rfl
theorem mC48 : pC 48 = 2 := rfl
theorem mR48 : pR 48 = none := rfl
theorem mN48 : pN 48 = 3 := rfl
theorem mB49 : pB 49 = cX3_init := rfl
theorem mC49 : pC 49 = 3 := rfl
theorem mR49 : pR 49 = none := rfl
theorem mN49 : pN 49 = 0 := rfl
theorem mK49 : pK 49 = 2 := rfl
theorem mB50 : pB 50 = cX3_length := rfl
theorem mC50 : pC 50 = 3 := rfl
theorem mR50 : pR 50 = (some .int) := rfl
theorem mN50 : pN 50 = 0 := rfl
theorem mB51 : pB 51 = cX3_steps := rfl
theorem mC51 : pC 51 = 3 := rfl
theorem mR51 : pR 51 = (some (.object "SettingsVault$Steps")) := rfl
theorem mN51 : pN 51 = 0 := rfl
theorem mB52 : pB 52 = cX3_clear := rfl
theorem mC52 : pC 52 = 3 := rfl
theorem mR52 : pR 52 = none := rfl
theorem mN52 : pN 52 = 0 := rfl
theorem mB53 : pB 53 = cX3_append := rfl
theorem mC53 : pC 53 = 3 := rfl
theorem mR53 : pR 53 = (some .int) := rfl
theorem mN53 : pN 53 = 1 := rfl
theorem mB54 : pB 54 = cX3_countCharacters := rfl
theorem mC54 : pC 54 = 3 := rfl
theorem mR54 : pR 54 = (some .int) := rfl
theorem mN54 : pN 54 = 1 := rfl
theorem mB55 : pB 55 = cX3_read := rfl
theorem mC55 : pC 55 = 3 := rfl
theorem mR55 : pR 55 = (some .int) := rfl
theorem mN55 : pN 55 = 0 := rfl
theorem mB56 : pB 56 = cX3_readStep := rfl
theorem mC56 : pC 56 = 3 := rfl
theorem mR56 : pR 56 = (some .boolean) := rfl
theorem mN56 : pN 56 = 0 := rfl
theorem mB57 : pB 57 = cX3_readAdding := rfl
theorem mC57 : pC 57 = 3 := rfl
theorem mR57 : pR 57 = (some .boolean) := rfl
theorem mN57 : pN 57 = 0 := rfl
theorem mB58 : pB 58 = cX3_readNewName := rfl
theorem mC58 : pC 58 = 3 := rfl
theorem mR58 : pR 58 = (some .boolean) := rfl
theorem mN58 : pN 58 = 2 := rfl
theorem mB59 : pB 59 = cX3_readFactor := rfl
theorem mC59 : pC 59 = 3 := rfl
theorem mR59 : pR 59 = (some .boolean) := rfl
theorem mN59 : pN 59 = 2 := rfl
theorem mB60 : pB 60 = cX3_readLimit := rfl
theorem mC60 : pC 60 = 3 := rfl
theorem mR60 : pR 60 = (some .boolean) := rfl
theorem mN60 : pN 60 = 1 := rfl
theorem mB61 : pB 61 = cX3_readNumber := rfl
theorem mC61 : pC 61 = 3 := rfl
theorem mR61 : pR 61 = (some .int) := rfl
theorem mN61 : pN 61 = 0 := rfl
theorem mB62 : pB 62 = cX3_readName := rfl
theorem mC62 : pC 62 = 3 := rfl
theorem mR62 : pR 62 = (some .int) := rfl
theorem mN62 : pN 62 = 0 := rfl
theorem mB63 : pB 63 = cX3_readDigit := rfl
theorem mC63 : pC 63 = 3 := rfl
theorem mR63 : pR 63 = (some .int) := rfl
theorem mN63 : pN 63 = 2 := rfl
theorem mB64 : pB 64 = cX3_readSign := rfl
theorem mC64 : pC 64 = 3 := rfl
theorem mR64 : pR 64 = (some .boolean) := rfl
theorem mN64 : pN 64 = 1 := rfl
theorem mB65 : pB 65 = cX3_readOffset := rfl
theorem mC65 : pC 65 = 3 := rfl
theorem mR65 : pR 65 = (some .int) := rfl
theorem mN65 : pN 65 = 3 := rfl
theorem mB66 : pB 66 = cX4_init := rfl
theorem mC66 : pC 66 = 4 := rfl
theorem mR66 : pR 66 = none := rfl
theorem mN66 : pN 66 = 0 := rfl
theorem mK66 : pK 66 = 2 := rfl
theorem mB67 : pB 67 = cX4_writes := rfl
theorem mC67 : pC 67 = 4 := rfl
theorem mR67 : pR 67 = (some .int) := rfl
theorem mN67 : pN 67 = 0 := rfl
theorem mB68 : pB 68 = cX4_erasures := rfl
theorem mC68 : pC 68 = 4 := rfl
theorem mR68 : pR 68 = (some .int) := rfl
theorem mN68 : pN 68 = 0 := rfl
theorem mB69 : pB 69 = cX4_copyFrom := rfl
theorem mC69 : pC 69 = 4 := rfl
theorem mR69 : pR 69 = none := rfl
theorem mN69 : pN 69 = 1 := rfl
theorem mB70 : pB 70 = cX4_erase := rfl
theorem mC70 : pC 70 = 4 := rfl
theorem mR70 : pR 70 = none := rfl
theorem mN70 : pN 70 = 0 := rfl
theorem mB71 : pB 71 = cX4_valueAt := rfl
theorem mC71 : pC 71 = 4 := rfl
theorem mR71 : pR 71 = (some .int) := rfl
theorem mN71 : pN 71 = 1 := rfl
theorem mB72 : pB 72 = cX4_replace := rfl
theorem mC72 : pC 72 = 4 := rfl
theorem mR72 : pR 72 = none := rfl
theorem mN72 : pN 72 = 2 := rfl
theorem mB73 : pB 73 = cX4_countWrite := rfl
theorem mC73 : pC 73 = 4 := rfl
theorem mR73 : pR 73 = none := rfl
theorem mN73 : pN 73 = 0 := rfl
theorem mB74 : pB 74 = cX4_countFilledCells := rfl
theorem mC74 : pC 74 = 4 := rfl
theorem mR74 : pR 74 = (some .int) := rfl
theorem mN74 : pN 74 = 0 := rfl
theorem mB75 : pB 75 = cX4_version := rfl
theorem mC75 : pC 75 = 4 := rfl
theorem mR75 : pR 75 = (some .int) := rfl
theorem mN75 : pN 75 = 0 := rfl
theorem mB76 : pB 76 = cX4_sequence := rfl
theorem mC76 : pC 76 = 4 := rfl
theorem mR76 : pR 76 = (some .int) := rfl
theorem mN76 : pN 76 = 0 := rfl
theorem mB77 : pB 77 = cX4_hasGoodHead := rfl
theorem mC77 : pC 77 = 4 := rfl
theorem mR77 : pR 77 = (some .boolean) := rfl
theorem mN77 : pN 77 = 1 := rfl
theorem mB78 : pB 78 = cX4_hasRecordAt := rfl
theorem mC78 : pC 78 = 4 := rfl
theorem mR78 : pR 78 = (some .boolean) := rfl
theorem mN78 : pN 78 = 1 := rfl
theorem mB79 : pB 79 = cX4_hasGoodRecordAt := rfl
theorem mC79 : pC 79 = 4 := rfl
theorem mR79 : pR 79 = (some .boolean) := rfl
theorem mN79 : pN 79 = 3 := rfl
theorem mB80 : pB 80 = cX4_nameAt := rfl
theorem mC80 : pC 80 = 4 := rfl
theorem mR80 : pR 80 = (some .int) := rfl
theorem mN80 : pN 80 = 1 := rfl
theorem mB81 : pB 81 = cX4_countRecords := rfl
theorem mC81 : pC 81 = 4 := rfl
theorem mR81 : pR 81 = (some .int) := rfl
theorem mN81 : pN 81 = 2 := rfl
theorem mB82 : pB 82 = cX4_hasThreeAt := rfl
theorem mC82 : pC 82 = 4 := rfl
theorem mR82 : pR 82 = (some .boolean) := rfl
theorem mN82 : pN 82 = 1 := rfl
theorem mB83 : pB 83 = cX4_headCheck := rfl
theorem mC83 : pC 83 = 4 := rfl
theorem mR83 : pR 83 = (some .int) := rfl
theorem mN83 : pN 83 = 2 := rfl
theorem mB84 : pB 84 = cX4_recordCheck := rfl
theorem mC84 : pC 84 = 4 := rfl
theorem mR84 : pR 84 = (some .int) := rfl
theorem mN84 : pN 84 = 3 := rfl
theorem mB85 : pB 85 = cX5_init := rfl
theorem mC85 : pC 85 = 5 := rfl
theorem mR85 : pR 85 = none := rfl
theorem mN85 : pN 85 = 0 := rfl
theorem mK85 : pK 85 = 2 := rfl
theorem mB86 : pB 86 = cX5_clear := rfl
theorem mC86 : pC 86 = 5 := rfl
theorem mR86 : pR 86 = none := rfl
theorem mN86 : pN 86 = 0 := rfl
theorem mB87 : pB 87 = cX5_append := rfl
theorem mC87 : pC 87 = 5 := rfl
theorem mR87 : pR 87 = none := rfl
theorem mN87 : pN 87 = 4 := rfl
theorem mB88 : pB 88 = cX5_copyFrom := rfl
theorem mC88 : pC 88 = 5 := rfl
theorem mR88 : pR 88 = none := rfl
theorem mN88 : pN 88 = 1 := rfl
theorem mB89 : pB 89 = cX5_applyTo := rfl
theorem mC89 : pC 89 = 5 := rfl
theorem mR89 : pR 89 = (some .boolean) := rfl
theorem mN89 : pN 89 = 1 := rfl
theorem mB90 : pB 90 = cX5_applyStep := rfl
theorem mC90 : pC 90 = 5 := rfl
theorem mR90 : pR 90 = (some .boolean) := rfl
theorem mN90 : pN 90 = 5 := rfl
theorem mB91 : pB 91 = cX5_carryOver := rfl
theorem mC91 : pC 91 = 5 := rfl
theorem mR91 : pR 91 = none := rfl
theorem mN91 : pN 91 = 1 := rfl
theorem mB92 : pB 92 = cX5_scaled := rfl
theorem mC92 : pC 92 = 5 := rfl
theorem mR92 : pR 92 = (some .int) := rfl
theorem mN92 : pN 92 = 3 := rfl
theorem mB93 : pB 93 = cX6_init := rfl
theorem mC93 : pC 93 = 6 := rfl
theorem mR93 : pR 93 = none := rfl
theorem mN93 : pN 93 = 0 := rfl
theorem mK93 : pK 93 = 2 := rfl
theorem mB94 : pB 94 = cX6_define := rfl
theorem mC94 : pC 94 = 6 := rfl
theorem mR94 : pR 94 = (some .int) := rfl
theorem mN94 : pN 94 = 0 := rfl
theorem mB95 : pB 95 = cX6_layout := rfl
theorem mC95 : pC 95 = 6 := rfl
theorem mR95 : pR 95 = (some .int) := rfl
theorem mN95 : pN 95 = 3 := rfl
theorem mB96 : pB 96 = cX6_fail := rfl
theorem mC96 : pC 96 = 6 := rfl
theorem mR96 : pR 96 = (some .int) := rfl
theorem mN96 : pN 96 = 1 := rfl
theorem mB97 : pB 97 = cX6_start := rfl
theorem mC97 : pC 97 = 6 := rfl
theorem mR97 : pR 97 = (some .int) := rfl
theorem mN97 : pN 97 = 0 := rfl
theorem mB98 : pB 98 = cX6_get := rfl
theorem mC98 : pC 98 = 6 := rfl
theorem mR98 : pR 98 = (some .int) := rfl
theorem mN98 : pN 98 = 1 := rfl
theorem mB99 : pB 99 = cX6_set := rfl
theorem mC99 : pC 99 = 6 := rfl
theorem mR99 : pR 99 = (some .int) := rfl
theorem mN99 : pN 99 = 2 := rfl
theorem mB100 : pB 100 = cX6_compact := rfl
theorem mC100 : pC 100 = 6 := rfl
theorem mR100 : pR 100 = (some .int) := rfl
theorem mN100 : pN 100 = 0 := rfl
theorem mB101 : pB 101 = cX6_migrate := rfl
theorem mC101 : pC 101 = 6 := rfl
theorem mR101 : pR 101 = (some .int) := rfl
theorem mN101 : pN 101 = 1 := rfl
theorem mB102 : pB 102 = cX6_factory := rfl
theorem mC102 : pC 102 = 6 := rfl
theorem mR102 : pR 102 = (some .int) := rfl
theorem mN102 : pN 102 = 1 := rfl
theorem mB103 : pB 103 = cX6_cell := rfl
theorem mC103 : pC 103 = 6 := rfl
theorem mR103 : pR 103 = (some .int) := rfl
theorem mN103 : pN 103 = 2 := rfl
theorem mB104 : pB 104 = cX6_spoil := rfl
theorem mC104 : pC 104 = 6 := rfl
theorem mR104 : pR 104 = (some .int) := rfl
theorem mN104 : pN 104 = 3 := rfl
theorem mB105 : pB 105 = cX6_page := rfl
theorem mC105 : pC 105 = 6 := rfl
theorem mR105 : pR 105 = (some .int) := rfl
theorem mN105 : pN 105 = 2 := rfl
theorem mB106 : pB 106 = cX6_state := rfl
theorem mC106 : pC 106 = 6 := rfl
theorem mR106 : pR 106 = (some .int) := rfl
theorem mN106 : pN 106 = 1 := rfl
theorem mB107 : pB 107 = cX6_record := rfl
theorem mC107 : pC 107 = 6 := rfl
theorem mR107 : pR 107 = (some .int) := rfl
theorem mN107 : pN 107 = 1 := rfl
theorem mB108 : pB 108 = cX6_ifMigrated := rfl
theorem mC108 : pC 108 = 6 := rfl
theorem mR108 : pR 108 = (some .int) := rfl
theorem mN108 : pN 108 = 2 := rfl
theorem mB109 : pB 109 = cX6_ifFailed := rfl
theorem mC109 : pC 109 = 6 := rfl
theorem mR109 : pR 109 = (some .int) := rfl
theorem mN109 : pN 109 = 4 := rfl
theorem mB110 : pB 110 = cX6_put := rfl
theorem mC110 : pC 110 = 6 := rfl
theorem mR110 : pR 110 = (some .int) := rfl
theorem mN110 : pN 110 = 1 := rfl
theorem mB111 : pB 111 = cX6_wipe := rfl
theorem mC111 : pC 111 = 6 := rfl
theorem mR111 : pR 111 = (some .int) := rfl
theorem mN111 : pN 111 = 0 := rfl
theorem mB112 : pB 112 = cX6_fault := rfl
theorem mC112 : pC 112 = 6 := rfl
theorem mR112 : pR 112 = (some .int) := rfl
theorem mN112 : pN 112 = 0 := rfl
theorem mB113 : pB 113 = cX6_keep := rfl
theorem mC113 : pC 113 = 6 := rfl
theorem mR113 : pR 113 = (some .int) := rfl
theorem mN113 : pN 113 = 1 := rfl
theorem mB114 : pB 114 = cX6_back := rfl
theorem mC114 : pC 114 = 6 := rfl
theorem mR114 : pR 114 = (some .int) := rfl
theorem mN114 : pN 114 = 1 := rfl
theorem mB115 : pB 115 = cX6_isPage := rfl
theorem mC115 : pC 115 = 6 := rfl
theorem mR115 : pR 115 = (some .boolean) := rfl
theorem mN115 : pN 115 = 1 := rfl
theorem mB116 : pB 116 = cX6_isCell := rfl
theorem mC116 : pC 116 = 6 := rfl
theorem mR116 : pR 116 = (some .boolean) := rfl
theorem mN116 : pN 116 = 2 := rfl
theorem mB117 : pB 117 = cX6_isImage := rfl
theorem mC117 : pC 117 = 6 := rfl
theorem mR117 : pR 117 = (some .boolean) := rfl
theorem mN117 : pN 117 = 1 := rfl
theorem mB118 : pB 118 = cX6_isCountOfWrites := rfl
theorem mC118 : pC 118 = 6 := rfl
theorem mR118 : pR 118 = (some .boolean) := rfl
theorem mN118 : pN 118 = 1 := rfl
theorem mB119 : pB 119 = cX6_isName := rfl
theorem mC119 : pC 119 = 6 := rfl
theorem mR119 : pR 119 = (some .boolean) := rfl
theorem mN119 : pN 119 = 1 := rfl
theorem mB120 : pB 120 = cJ9_floorMod_7cf53 := rfl
theorem mC120 : pC 120 = 9 := rfl
theorem mR120 : pR 120 = (some .int) := rfl
theorem mN120 : pN 120 = 2 := rfl
theorem mB121 : pB 121 = cJ9_min_7cf53 := rfl
theorem mC121 : pC 121 = 9 := rfl
theorem mR121 : pR 121 = (some .int) := rfl
theorem mN121 : pN 121 = 2 := rfl
theorem mB122 : pB 122 = cL_cell := rfl
theorem mC122 : pC 122 = 8 := rfl
theorem mR122 : pR 122 = (some .int) := rfl
theorem mN122 : pN 122 = 2 := rfl
theorem mB123 : pB 123 = cL_up := rfl
theorem mC123 : pC 123 = 8 := rfl
theorem mR123 : pR 123 = (some .int) := rfl
theorem mN123 : pN 123 = 2 := rfl
theorem mB124 : pB 124 = cL_number := rfl
theorem mC124 : pC 124 = 8 := rfl
theorem mR124 : pR 124 = none := rfl
theorem mN124 : pN 124 = 2 := rfl
theorem mB125 : pB 125 = cL_later := rfl
theorem mC125 : pC 125 = 8 := rfl
theorem mR125 : pR 125 = (some .boolean) := rfl
theorem mN125 : pN 125 = 2 := rfl
theorem mB126 : pB 126 = cL_cells := rfl
theorem mC126 : pC 126 = 8 := rfl
theorem mR126 : pR 126 = (some .int) := rfl
theorem mN126 : pN 126 = 1 := rfl
theorem mB127 : pB 127 = cL_act := rfl
theorem mC127 : pC 127 = 8 := rfl
theorem mR127 : pR 127 = (some .boolean) := rfl
theorem mN127 : pN 127 = 4 := rfl
theorem mB128 : pB 128 = cL_interrupted := rfl
theorem mC128 : pC 128 = 8 := rfl
theorem mR128 : pR 128 = (some .boolean) := rfl
theorem mN128 : pN 128 = 4 := rfl
theorem mB129 : pB 129 = cL_stands := rfl
theorem mC129 : pC 129 = 8 := rfl
theorem mR129 : pR 129 = (some .boolean) := rfl
theorem mN129 : pN 129 = 1 := rfl
theorem mB130 : pB 130 = cL_again := rfl
theorem mC130 : pC 130 = 8 := rfl
theorem mR130 : pR 130 = (some .boolean) := rfl
theorem mN130 : pN 130 = 1 := rfl
theorem mB131 : pB 131 = cL_spoils := rfl
theorem mC131 : pC 131 = 8 := rfl
theorem mR131 : pR 131 = (some .boolean) := rfl
theorem mN131 : pN 131 = 2 := rfl
theorem mB132 : pB 132 = cL_moves := rfl
theorem mC132 : pC 132 = 8 := rfl
theorem mR132 : pR 132 = (some .boolean) := rfl
theorem mN132 : pN 132 = 2 := rfl
theorem mB133 : pB 133 = cL_kept := rfl
theorem mC133 : pC 133 = 8 := rfl
theorem mR133 : pR 133 = (some .boolean) := rfl
theorem mN133 : pN 133 = 2 := rfl
theorem mB134 : pB 134 = cL_refused := rfl
theorem mC134 : pC 134 = 8 := rfl
theorem mR134 : pR 134 = (some .boolean) := rfl
theorem mN134 : pN 134 = 2 := rfl
theorem mB135 : pB 135 = cL_law := rfl
theorem mC135 : pC 135 = 8 := rfl
theorem mR135 : pR 135 = (some .boolean) := rfl
theorem mN135 : pN 135 = 1 := rfl
theorem f_5_9 : fL 5 9 = (5, 0) := by decide +kernel
theorem f_5_15 : fL 5 15 = (5, 1) := by decide +kernel
theorem f_5_18 : fL 5 18 = (5, 2) := by decide +kernel
theorem f_5_21 : fL 5 21 = (5, 3) := by decide +kernel
theorem f_5_24 : fL 5 24 = (5, 4) := by decide +kernel
theorem f_3_9 : fL 3 9 = (3, 0) := by decide +kernel
theorem f_3_18 : fL 3 18 = (3, 1) := by decide +kernel
theorem f_3_22 : fL 3 22 = (3, 2) := by decide +kernel
theorem f_3_36 : fL 3 36 = (3, 3) := by decide +kernel
theorem f_1_9 : fL 1 9 = (1, 0) := by decide +kernel
theorem f_1_15 : fL 1 15 = (1, 1) := by decide +kernel
theorem f_1_19 : fL 1 19 = (1, 2) := by decide +kernel
theorem f_1_22 : fL 1 22 = (1, 3) := by decide +kernel
theorem f_1_28 : fL 1 28 = (1, 4) := by decide +kernel
theorem f_2_12 : fL 2 12 = (2, 0) := by decide +kernel
theorem f_2_18 : fL 2 18 = (2, 1) := by decide +kernel
theorem f_2_22 : fL 2 22 = (2, 2) := by decide +kernel
theorem f_4_9 : fL 4 9 = (4, 0) := by decide +kernel
theorem f_4_15 : fL 4 15 = (4, 1) := by decide +kernel
theorem f_4_19 : fL 4 19 = (4, 2) := by decide +kernel
theorem f_0_54 : fL 0 54 = (0, 0) := by decide +kernel
theorem f_0_12 : fL 0 12 = (0, 1) := by decide +kernel
theorem f_0_18 : fL 0 18 = (0, 2) := by decide +kernel
theorem f_0_21 : fL 0 21 = (0, 3) := by decide +kernel
theorem f_0_25 : fL 0 25 = (0, 4) := by decide +kernel
theorem f_0_29 : fL 0 29 = (0, 5) := by decide +kernel
theorem f_0_32 : fL 0 32 = (0, 6) := by decide +kernel
theorem f_0_35 : fL 0 35 = (0, 7) := by decide +kernel
theorem f_0_38 : fL 0 38 = (0, 8) := by decide +kernel
theorem f_0_62 : fL 0 62 = (0, 9) := by decide +kernel
theorem f_0_41 : fL 0 41 = (0, 10) := by decide +kernel
theorem f_0_45 : fL 0 45 = (0, 11) := by decide +kernel
theorem f_0_48 : fL 0 48 = (0, 12) := by decide +kernel
theorem f_0_51 : fL 0 51 = (0, 13) := by decide +kernel
theorem f_6_10 : fL 6 10 = (6, 0) := by decide +kernel
theorem f_6_19 : fL 6 19 = (6, 1) := by decide +kernel
theorem f_6_28 : fL 6 28 = (6, 2) := by decide +kernel
theorem f_6_32 : fL 6 32 = (6, 3) := by decide +kernel
theorem f_6_35 : fL 6 35 = (6, 4) := by decide +kernel
theorem f_6_39 : fL 6 39 = (6, 5) := by decide +kernel
theorem q_8_11 : mL 8 11 = (93, 2) := by decide +kernel
theorem q_6_9 : mL 6 9 = (49, 4) := by decide +kernel
theorem q_3_17 : mL 3 17 = (85, 4) := by decide +kernel
theorem q_6_18 : mL 6 18 = (43, 2) := by decide +kernel
theorem q_2_11 : mL 2 11 = (31, 4) := by decide +kernel
theorem q_1_27 : mL 1 27 = (85, 4) := by decide +kernel
theorem q_6_25 : mL 6 25 = (0, 2) := by decide +kernel
theorem q_0_11 : mL 0 11 = (66, 2) := by decide +kernel
theorem q_8_40 : mL 8 40 = (94, 0) := by decide +kernel
theorem q_6_43 : mL 6 43 = (55, 0) := by decide +kernel
theorem q_3_39 : mL 3 39 = (86, 0) := by decide +kernel
theorem q_3_42 : mL 3 42 = (56, 0) := by decide +kernel
theorem q_3_46 : mL 3 46 = (64, 0) := by decide +kernel
theorem q_3_84 : mL 3 84 = (65, 0) := by decide +kernel
theorem q_3_50 : mL 3 50 = (57, 0) := by decide +kernel
theorem q_3_57 : mL 3 57 = (62, 0) := by decide +kernel
theorem q_3_68 : mL 3 68 = (61, 0) := by decide +kernel
theorem q_3_75 : mL 3 75 = (63, 0) := by decide +kernel
theorem q_3_79 : mL 3 79 = (121, 1) := by decide +kernel
theorem q_3_71 : mL 3 71 = (87, 0) := by decide +kernel
theorem q_3_53 : mL 3 53 = (58, 0) := by decide +kernel
theorem q_3_61 : mL 3 61 = (59, 0) := by decide +kernel
theorem q_3_64 : mL 3 64 = (60, 0) := by decide +kernel
theorem q_6_47 : mL 6 47 = (44, 0) := by decide +kernel
theorem q_6_50 : mL 6 50 = (51, 0) := by decide +kernel
theorem q_6_54 : mL 6 54 = (47, 0) := by decide +kernel
theorem q_2_30 : mL 2 30 = (46, 0) := by decide +kernel
theorem q_2_26 : mL 2 26 = (45, 0) := by decide +kernel
theorem q_2_34 : mL 2 34 = (37, 0) := by decide +kernel
theorem q_1_36 : mL 1 36 = (88, 0) := by decide +kernel
theorem q_1_40 : mL 1 40 = (89, 0) := by decide +kernel
theorem q_5_34 : mL 5 34 = (90, 1) := by decide +kernel
theorem q_5_38 : mL 5 38 = (38, 0) := by decide +kernel
theorem q_1_44 : mL 1 44 = (119, 3) := by decide +kernel
theorem q_5_44 : mL 5 44 = (39, 0) := by decide +kernel
theorem q_1_32 : mL 1 32 = (32, 0) := by decide +kernel
theorem q_5_48 : mL 5 48 = (40, 0) := by decide +kernel
theorem q_5_52 : mL 5 52 = (41, 0) := by decide +kernel
theorem q_1_47 : mL 1 47 = (92, 1) := by decide +kernel
theorem q_5_62 : mL 5 62 = (121, 1) := by decide +kernel
theorem q_6_58 : mL 6 58 = (52, 0) := by decide +kernel
theorem q_8_44 : mL 8 44 = (102, 0) := by decide +kernel
theorem q_6_84 : mL 6 84 = (2, 0) := by decide +kernel
theorem q_6_125 : mL 6 125 = (45, 0) := by decide +kernel
theorem q_6_126 : mL 6 126 = (25, 0) := by decide +kernel
theorem q_0_150 : mL 0 150 = (70, 0) := by decide +kernel
theorem q_0_153 : mL 0 153 = (28, 0) := by decide +kernel
theorem q_0_164 : mL 0 164 = (83, 1) := by decide +kernel
theorem q_0_161 : mL 0 161 = (29, 0) := by decide +kernel
theorem q_0_167 : mL 0 167 = (30, 0) := by decide +kernel
theorem q_0_170 : mL 0 170 = (72, 0) := by decide +kernel
theorem q_0_174 : mL 0 174 = (73, 0) := by decide +kernel
theorem q_0_106 : mL 0 106 = (19, 0) := by decide +kernel
theorem q_0_81 : mL 0 81 = (10, 0) := by decide +kernel
theorem q_0_71 : mL 0 71 = (46, 0) := by decide +kernel
theorem q_0_90 : mL 0 90 = (34, 0) := by decide +kernel
theorem q_8_48 : mL 8 48 = (106, 0) := by decide +kernel
theorem q_6_98 : mL 6 98 = (5, 0) := by decide +kernel
theorem q_6_119 : mL 6 119 = (6, 0) := by decide +kernel
theorem q_6_165 : mL 6 165 = (7, 0) := by decide +kernel
theorem q_6_168 : mL 6 168 = (13, 0) := by decide +kernel
theorem q_6_171 : mL 6 171 = (8, 0) := by decide +kernel
theorem q_6_174 : mL 6 174 = (14, 0) := by decide +kernel
theorem q_0_85 : mL 0 85 = (32, 0) := by decide +kernel
theorem q_6_177 : mL 6 177 = (15, 0) := by decide +kernel
theorem q_6_88 : mL 6 88 = (4, 0) := by decide +kernel
theorem q_6_132 : mL 6 132 = (9, 0) := by decide +kernel
theorem q_6_148 : mL 6 148 = (67, 0) := by decide +kernel
theorem q_6_151 : mL 6 151 = (68, 0) := by decide +kernel
theorem q_6_180 : mL 6 180 = (50, 0) := by decide +kernel
theorem q_8_24 : mL 8 24 = (110, 0) := by decide +kernel
theorem q_6_193 : mL 6 193 = (53, 0) := by decide +kernel
theorem q_3_26 : mL 3 26 = (54, 1) := by decide +kernel
theorem q_8_12 : mL 8 12 = (122, 1) := by decide +kernel
theorem q_8_30 : mL 8 30 = (123, 1) := by decide +kernel
theorem q_8_34 : mL 8 34 = (124, 1) := by decide +kernel
theorem q_8_51 : mL 8 51 = (125, 1) := by decide +kernel
theorem q_8_76 : mL 8 76 = (112, 0) := by decide +kernel
theorem q_8_79 : mL 8 79 = (95, 0) := by decide +kernel
theorem q_6_61 : mL 6 61 = (46, 0) := by decide +kernel
theorem q_6_65 : mL 6 65 = (32, 0) := by decide +kernel
theorem q_6_71 : mL 6 71 = (33, 0) := by decide +kernel
theorem q_6_75 : mL 6 75 = (34, 0) := by decide +kernel
theorem q_6_78 : mL 6 78 = (35, 0) := by decide +kernel
theorem q_8_54 : mL 8 54 = (127, 1) := by decide +kernel
theorem q_8_85 : mL 8 85 = (100, 0) := by decide +kernel
theorem q_6_116 : mL 6 116 = (3, 0) := by decide +kernel
theorem q_6_122 : mL 6 122 = (22, 0) := by decide +kernel
theorem q_0_142 : mL 0 142 = (24, 0) := by decide +kernel
theorem q_0_146 : mL 0 146 = (48, 0) := by decide +kernel
theorem q_2_38 : mL 2 38 = (42, 0) := by decide +kernel
theorem q_1_51 : mL 1 51 = (91, 0) := by decide +kernel
theorem q_5_55 : mL 5 55 = (119, 3) := by decide +kernel
theorem q_5_58 : mL 5 58 = (92, 1) := by decide +kernel
theorem q_0_135 : mL 0 135 = (26, 0) := by decide +kernel
theorem q_0_98 : mL 0 98 = (9, 0) := by decide +kernel
theorem q_0_138 : mL 0 138 = (27, 0) := by decide +kernel
theorem q_0_157 : mL 0 157 = (84, 1) := by decide +kernel
theorem q_8_88 : mL 8 88 = (105, 0) := by decide +kernel
theorem q_6_145 : mL 6 145 = (115, 1) := by decide +kernel
theorem q_6_154 : mL 6 154 = (77, 0) := by decide +kernel
theorem q_4_32 : mL 4 32 = (82, 0) := by decide +kernel
theorem q_4_28 : mL 4 28 = (71, 0) := by decide +kernel
theorem q_4_36 : mL 4 36 = (75, 0) := by decide +kernel
theorem q_4_40 : mL 4 40 = (45, 0) := by decide +kernel
theorem q_4_45 : mL 4 45 = (76, 0) := by decide +kernel
theorem q_4_48 : mL 4 48 = (83, 1) := by decide +kernel
theorem q_6_158 : mL 6 158 = (81, 0) := by decide +kernel
theorem q_4_65 : mL 4 65 = (77, 0) := by decide +kernel
theorem q_4_69 : mL 4 69 = (46, 0) := by decide +kernel
theorem q_4_73 : mL 4 73 = (78, 0) := by decide +kernel
theorem q_4_76 : mL 4 76 = (79, 0) := by decide +kernel
theorem q_4_52 : mL 4 52 = (80, 0) := by decide +kernel
theorem q_4_55 : mL 4 55 = (36, 0) := by decide +kernel
theorem q_4_61 : mL 4 61 = (84, 1) := by decide +kernel
theorem q_6_162 : mL 6 162 = (74, 0) := by decide +kernel
theorem q_8_91 : mL 8 91 = (101, 0) := by decide +kernel
theorem q_8_94 : mL 8 94 = (108, 0) := by decide +kernel
theorem q_6_186 : mL 6 186 = (23, 0) := by decide +kernel
theorem q_0_77 : mL 0 77 = (119, 3) := by decide +kernel
theorem q_8_97 : mL 8 97 = (98, 0) := by decide +kernel
theorem q_6_101 : mL 6 101 = (10, 0) := by decide +kernel
theorem q_6_105 : mL 6 105 = (11, 0) := by decide +kernel
theorem q_8_100 : mL 8 100 = (128, 1) := by decide +kernel
theorem q_8_112 : mL 8 112 = (109, 0) := by decide +kernel
theorem q_6_108 : mL 6 108 = (36, 0) := by decide +kernel
theorem q_6_81 : mL 6 81 = (118, 1) := by decide +kernel
theorem q_6_189 : mL 6 189 = (1, 0) := by decide +kernel
theorem q_0_58 : mL 0 58 = (69, 0) := by decide +kernel
theorem q_6_91 : mL 6 91 = (16, 0) := by decide +kernel
theorem q_6_112 : mL 6 112 = (21, 0) := by decide +kernel
theorem q_6_95 : mL 6 95 = (17, 0) := by decide +kernel
theorem q_0_94 : mL 0 94 = (18, 0) := by decide +kernel
theorem q_0_112 : mL 0 112 = (77, 0) := by decide +kernel
theorem q_0_104 : mL 0 104 = (76, 0) := by decide +kernel
theorem q_0_116 : mL 0 116 = (120, 1) := by decide +kernel
theorem q_0_102 : mL 0 102 = (75, 0) := by decide +kernel
theorem q_0_109 : mL 0 109 = (20, 0) := by decide +kernel
theorem q_0_122 : mL 0 122 = (78, 0) := by decide +kernel
theorem q_0_125 : mL 0 125 = (80, 0) := by decide +kernel
theorem q_0_128 : mL 0 128 = (79, 0) := by decide +kernel
theorem q_0_132 : mL 0 132 = (71, 0) := by decide +kernel
theorem q_8_116 : mL 8 116 = (96, 0) := by decide +kernel
theorem q_8_106 : mL 8 106 = (99, 0) := by decide +kernel
theorem q_8_103 : mL 8 103 = (97, 0) := by decide +kernel
theorem q_8_109 : mL 8 109 = (107, 0) := by decide +kernel
theorem q_6_183 : mL 6 183 = (12, 0) := by decide +kernel
theorem q_8_83 : mL 8 83 = (103, 0) := by decide +kernel
theorem q_6_129 : mL 6 129 = (116, 1) := by decide +kernel
theorem q_6_136 : mL 6 136 = (71, 0) := by decide +kernel
theorem q_8_58 : mL 8 58 = (129, 1) := by decide +kernel
theorem q_8_62 : mL 8 62 = (130, 1) := by decide +kernel
theorem q_8_119 : mL 8 119 = (126, 1) := by decide +kernel
theorem q_8_65 : mL 8 65 = (131, 1) := by decide +kernel
theorem q_8_123 : mL 8 123 = (113, 0) := by decide +kernel
theorem q_6_197 : mL 6 197 = (117, 1) := by decide +kernel
theorem q_8_126 : mL 8 126 = (104, 0) := by decide +kernel
theorem q_6_141 : mL 6 141 = (72, 0) := by decide +kernel
theorem q_8_129 : mL 8 129 = (114, 0) := by decide +kernel
theorem q_8_68 : mL 8 68 = (132, 1) := by decide +kernel
theorem q_8_71 : mL 8 71 = (133, 1) := by decide +kernel
theorem q_8_136 : mL 8 136 = (111, 0) := by decide +kernel
theorem q_8_18 : mL 8 18 = (134, 1) := by decide +kernel
theorem kl_8_9 : kL 8 9 = 6 := by decide +kernel
theorem kl_6_7 : kL 6 7 = 3 := by decide +kernel
theorem kl_3_15 : kL 3 15 = 5 := by decide +kernel
theorem kl_6_16 : kL 6 16 = 2 := by decide +kernel
theorem kl_2_9 : kL 2 9 = 1 := by decide +kernel
theorem kl_1_25 : kL 1 25 = 5 := by decide +kernel
theorem kl_6_23 : kL 6 23 = 0 := by decide +kernel
theorem kl_0_9 : kL 0 9 = 4 := by decide +kernel
theorem ll_3_30 : lL 3 30 = some 255 := by decide +kernel
theorem ll_3_32 : lL 3 32 = some 33 := by decide +kernel
theorem ll_3_34 : lL 3 34 = some 126 := by decide +kernel
theorem ll_8_22 : lL 8 22 = some 44 := by decide +kernel
theorem ll_8_74 : lL 8 74 = some 60 := by decide +kernel
theorem ll_8_132 : lL 8 132 = some 45 := by decide +kernel
theorem ll_8_134 : lL 8 134 = some 97 := by decide +kernel
theorem ll_8_28 : lL 8 28 = some 11008 := by decide +kernel
theorem ll_8_38 : lL 8 38 = some 61 := by decide +kernel
theorem cc_8_7 : cL 8 7 = some 73244475 := by decide +kernel
theorem cc_8_8 : cL 8 8 = some 2147483647 := by decide +kernel
theorem cc_8_139 : cL 8 139 = some 1000000 := by decide +kernel
theorem ki_m1 : Int32.ofInt (-1) = ((-1) : Int32) := by decide +kernel
theorem ki_0 : Int32.ofInt 0 = (0 : Int32) := by decide +kernel
theorem ki_1 : Int32.ofInt 1 = (1 : Int32) := by decide +kernel
theorem ki_2 : Int32.ofInt 2 = (2 : Int32) := by decide +kernel
theorem ki_3 : Int32.ofInt 3 = (3 : Int32) := by decide +kernel
theorem ki_4 : Int32.ofInt 4 = (4 : Int32) := by decide +kernel
theorem ki_5 : Int32.ofInt 5 = (5 : Int32) := by decide +kernel
theorem kb_m7 : (Int8.ofInt (-7)).toInt32 = ((-7) : Int32) := by decide +kernel
theorem kb_m6 : (Int8.ofInt (-6)).toInt32 = ((-6) : Int32) := by decide +kernel
theorem kb_m5 : (Int8.ofInt (-5)).toInt32 = ((-5) : Int32) := by decide +kernel
theorem kb_m4 : (Int8.ofInt (-4)).toInt32 = ((-4) : Int32) := by decide +kernel
theorem kb_m3 : (Int8.ofInt (-3)).toInt32 = ((-3) : Int32) := by decide +kernel
theorem kb_m2 : (Int8.ofInt (-2)).toInt32 = ((-2) : Int32) := by decide +kernel
theorem kb_6 : (Int8.ofInt 6).toInt32 = (6 : Int32) := by decide +kernel
theorem kb_7 : (Int8.ofInt 7).toInt32 = (7 : Int32) := by decide +kernel
theorem kb_8 : (Int8.ofInt 8).toInt32 = (8 : Int32) := by decide +kernel
theorem kb_9 : (Int8.ofInt 9).toInt32 = (9 : Int32) := by decide +kernel
theorem kb_10 : (Int8.ofInt 10).toInt32 = (10 : Int32) := by decide +kernel
theorem kb_11 : (Int8.ofInt 11).toInt32 = (11 : Int32) := by decide +kernel
theorem kb_12 : (Int8.ofInt 12).toInt32 = (12 : Int32) := by decide +kernel
theorem kb_13 : (Int8.ofInt 13).toInt32 = (13 : Int32) := by decide +kernel
theorem kb_14 : (Int8.ofInt 14).toInt32 = (14 : Int32) := by decide +kernel
theorem kb_15 : (Int8.ofInt 15).toInt32 = (15 : Int32) := by decide +kernel
theorem kb_16 : (Int8.ofInt 16).toInt32 = (16 : Int32) := by decide +kernel
theorem kb_24 : (Int8.ofInt 24).toInt32 = (24 : Int32) := by decide +kernel
theorem kb_27 : (Int8.ofInt 27).toInt32 = (27 : Int32) := by decide +kernel
theorem kb_31 : (Int8.ofInt 31).toInt32 = (31 : Int32) := by decide +kernel
theorem kb_42 : (Int8.ofInt 42).toInt32 = (42 : Int32) := by decide +kernel
theorem kb_43 : (Int8.ofInt 43).toInt32 = (43 : Int32) := by decide +kernel
theorem kb_44 : (Int8.ofInt 44).toInt32 = (44 : Int32) := by decide +kernel
theorem kb_45 : (Int8.ofInt 45).toInt32 = (45 : Int32) := by decide +kernel
theorem kb_47 : (Int8.ofInt 47).toInt32 = (47 : Int32) := by decide +kernel
theorem kb_48 : (Int8.ofInt 48).toInt32 = (48 : Int32) := by decide +kernel
theorem kb_60 : (Int8.ofInt 60).toInt32 = (60 : Int32) := by decide +kernel
theorem kb_61 : (Int8.ofInt 61).toInt32 = (61 : Int32) := by decide +kernel
theorem kb_62 : (Int8.ofInt 62).toInt32 = (62 : Int32) := by decide +kernel
theorem kb_80 : (Int8.ofInt 80).toInt32 = (80 : Int32) := by decide +kernel
theorem kb_96 : (Int8.ofInt 96).toInt32 = (96 : Int32) := by decide +kernel
theorem kb_97 : (Int8.ofInt 97).toInt32 = (97 : Int32) := by decide +kernel
theorem kb_99 : (Int8.ofInt 99).toInt32 = (99 : Int32) := by decide +kernel
theorem kb_100 : (Int8.ofInt 100).toInt32 = (100 : Int32) := by decide +kernel
theorem ks_190 : (Int16.ofInt 190).toInt32 = (190 : Int32) := by decide +kernel
theorem ks_200 : (Int16.ofInt 200).toInt32 = (200 : Int32) := by decide +kernel
theorem ks_249 : (Int16.ofInt 249).toInt32 = (249 : Int32) := by decide +kernel
theorem ks_251 : (Int16.ofInt 251).toInt32 = (251 : Int32) := by decide +kernel
theorem ks_255 : (Int16.ofInt 255).toInt32 = (255 : Int32) := by decide +kernel
theorem ks_256 : (Int16.ofInt 256).toInt32 = (256 : Int32) := by decide +kernel
theorem ks_1607 : (Int16.ofInt 1607).toInt32 = (1607 : Int32) := by decide +kernel
theorem x_0 : ix 0 = 0 := by decide +kernel
theorem x_1 : ix 1 = 1 := by decide +kernel
theorem x_2 : ix 2 = 2 := by decide +kernel
theorem x_3 : ix 3 = 3 := by decide +kernel
theorem x_4 : ix 4 = 4 := by decide +kernel
theorem x_5 : ix 5 = 5 := by decide +kernel
theorem x_6 : ix 6 = 6 := by decide +kernel
theorem x_7 : ix 7 = 7 := by decide +kernel
theorem x_8 : ix 8 = 8 := by decide +kernel
theorem x_9 : ix 9 = 9 := by decide +kernel
theorem x_10 : ix 10 = 10 := by decide +kernel
theorem x_11 : ix 11 = 11 := by decide +kernel
theorem x_12 : ix 12 = 12 := by decide +kernel
theorem x_13 : ix 13 = 13 := by decide +kernel
theorem x_14 : ix 14 = 14 := by decide +kernel
theorem x_15 : ix 15 = 15 := by decide +kernel
theorem x_16 : ix 16 = 16 := by decide +kernel
theorem x_24 : ix 24 = 24 := by decide +kernel
theorem x_27 : ix 27 = 27 := by decide +kernel
theorem x_31 : ix 31 = 31 := by decide +kernel
theorem x_42 : ix 42 = 42 := by decide +kernel
theorem x_43 : ix 43 = 43 := by decide +kernel
theorem x_44 : ix 44 = 44 := by decide +kernel
theorem x_45 : ix 45 = 45 := by decide +kernel
theorem x_47 : ix 47 = 47 := by decide +kernel
theorem x_48 : ix 48 = 48 := by decide +kernel
theorem x_60 : ix 60 = 60 := by decide +kernel
theorem x_61 : ix 61 = 61 := by decide +kernel
theorem x_62 : ix 62 = 62 := by decide +kernel
theorem x_80 : ix 80 = 80 := by decide +kernel
theorem x_96 : ix 96 = 96 := by decide +kernel
theorem x_97 : ix 97 = 97 := by decide +kernel
theorem x_99 : ix 99 = 99 := by decide +kernel
theorem x_100 : ix 100 = 100 := by decide +kernel
theorem x_190 : ix 190 = 190 := by decide +kernel
theorem x_200 : ix 200 = 200 := by decide +kernel
theorem x_249 : ix 249 = 249 := by decide +kernel
theorem x_251 : ix 251 = 251 := by decide +kernel
theorem x_255 : ix 255 = 255 := by decide +kernel
theorem x_256 : ix 256 = 256 := by decide +kernel
theorem x_1607 : ix 1607 = 1607 := by decide +kernel
theorem kl_0L : Int64.ofNat 0 = (0 : Int64) := by decide +kernel
theorem kl_1L : Int64.ofNat 1 = (1 : Int64) := by decide +kernel
