-- the classes by their numbers: 0 .. 7 as in vwCl, 8 the law's, 9 Math
def pOl : List String := [RX0, RX1, RX2, RX3, RX4, RX5, RX6, RX7, RL, RJ9]
def pO (c : Nat) : String := pOl.getD c ""
-- the methods: bytes, locals, name, answer, class, kind (0 static, 1 of an object, 2 <init>), parameters, frames below, words below
abbrev pTy : Type := ByteArray × Nat × MethodName × Option FieldType × Nat × Nat × Nat × Nat × Nat
def pT0 : List pTy := [(cX0_init, 2, yX0_init, none, 0, 2, 1, 2, 41),
  (cX0_copyFrom, 2, yX0_copyFrom, none, 0, 1, 1, 2, 47),
  (cX0_isPowered, 1, yX0_isPowered, (some .boolean), 0, 1, 0, 0, 0),
  (cX0_isReady, 1, yX0_isReady, (some .boolean), 0, 1, 0, 0, 0),
  (cX0_writesLeft, 1, yX0_writesLeft, (some .int), 0, 1, 0, 0, 0),
  (cX0_active, 1, yX0_active, (some .int), 0, 1, 0, 0, 0),
  (cX0_version, 1, yX0_version, (some .int), 0, 1, 0, 0, 0),
  (cX0_sequence, 1, yX0_sequence, (some .int), 0, 1, 0, 0, 0),
  (cX0_badRecords, 1, yX0_badRecords, (some .int), 0, 1, 0, 0, 0),
  (cX0_pageOf, 2, yX0_pageOf, (some (.object "SettingsVault$Page")), 0, 1, 1, 0, 0),
  (cX0_presentLayout, 1, yX0_presentLayout, (some (.object "SettingsVault$Layout")), 0, 1, 0, 2, 42),
  (cX0_valueOf, 2, yX0_valueOf, (some .int), 0, 1, 1, 1, 20),
  (cX0_placeOf, 2, yX0_placeOf, (some .int), 0, 1, 1, 1, 20),
  (cX0_countRoom, 1, yX0_countRoom, (some .int), 0, 1, 0, 0, 0),
  (cX0_countSettings, 3, yX0_countSettings, (some .int), 0, 1, 0, 3, 62),
  (cX0_countChangedSettings, 3, yX0_countChangedSettings, (some .int), 0, 1, 0, 3, 62),
  (cX0_failBehind, 2, yX0_failBehind, none, 0, 1, 1, 0, 0),
  (cX0_restart, 1, yX0_restart, none, 0, 1, 0, 4, 89),
  (cX0_findActive, 4, yX0_findActive, (some .int), 0, 1, 0, 3, 63),
  (cX0_takeDefaults, 2, yX0_takeDefaults, none, 0, 1, 0, 3, 62),
  (cX0_readRecords, 4, yX0_readRecords, none, 0, 1, 1, 3, 66),
  (cX0_change, 4, yX0_change, (some .int), 0, 1, 2, 5, 125),
  (cX0_moveTo, 2, yX0_moveTo, (some .int), 0, 1, 1, 6, 133),
  (cX0_migratedValueOf, 3, yX0_migratedValueOf, (some .int), 0, 1, 2, 6, 133),
  (cX0_migrateValues, 2, yX0_migrateValues, none, 0, 1, 1, 5, 112),
  (cX0_reset, 3, yX0_reset, (some .int), 0, 1, 1, 4, 95),
  (cX0_fillOther, 9, yX0_fillOther, (some .int), 0, 1, 1, 4, 97),
  (cX0_writeRecord, 7, yX0_writeRecord, (some .int), 0, 1, 5, 3, 71),
  (cX0_writeHead, 5, yX0_writeHead, (some .int), 0, 1, 3, 3, 71),
  (cX0_writeThree, 7, yX0_writeThree, (some .int), 0, 1, 5, 2, 45),
  (cX0_writeCell, 4, yX0_writeCell, (some .int), 0, 1, 3, 1, 22),
  (cX1_init, 1, yX1_init, none, 1, 2, 0, 2, 40),
  (cX1_has, 2, yX1_has, (some .boolean), 1, 1, 1, 0, 0),
  (cX1_greatestOf, 2, yX1_greatestOf, (some .int), 1, 1, 1, 1, 21),
  (cX1_defaultOf, 2, yX1_defaultOf, (some .int), 1, 1, 1, 1, 21),
  (cX1_nameBefore, 2, yX1_nameBefore, (some .int), 1, 1, 1, 1, 21),
  (cX1_takes, 3, yX1_takes, (some .boolean), 1, 1, 2, 1, 21),
  (cX1_makeFrom, 4, yX1_makeFrom, (some .boolean), 1, 1, 2, 5, 112),
  (cX1_addSetting, 4, yX1_addSetting, (some .boolean), 1, 1, 3, 1, 20),
  (cX1_dropSetting, 2, yX1_dropSetting, (some .boolean), 1, 1, 1, 1, 21),
  (cX1_renameSetting, 3, yX1_renameSetting, (some .boolean), 1, 1, 2, 1, 21),
  (cX1_scaleSetting, 4, yX1_scaleSetting, (some .boolean), 1, 1, 3, 2, 43),
  (cX1_carryOver, 2, yX1_carryOver, none, 1, 1, 1, 3, 67),
  (cX2_init, 2, yX2_init, none, 2, 2, 0, 3, 60),
  (cX2_count, 1, yX2_count, (some .int), 2, 1, 0, 0, 0),
  (cX2_has, 2, yX2_has, (some .boolean), 2, 1, 1, 0, 0)]
def pT1 : List pTy := [(cX2_of, 2, yX2_of, (some (.object "SettingsVault$Layout")), 2, 1, 1, 1, 21),
  (cX2_extend, 2, yX2_extend, (some .boolean), 2, 1, 1, 6, 135),
  (cX2_carryOver, 5, yX2_carryOver, none, 2, 1, 3, 4, 88),
  (cX3_init, 1, yX3_init, none, 3, 2, 0, 2, 40),
  (cX3_length, 1, yX3_length, (some .int), 3, 1, 0, 0, 0),
  (cX3_steps, 1, yX3_steps, (some (.object "SettingsVault$Steps")), 3, 1, 0, 0, 0),
  (cX3_clear, 1, yX3_clear, none, 3, 1, 0, 0, 0),
  (cX3_append, 5, yX3_append, (some .int), 3, 1, 1, 1, 26),
  (cX3_countCharacters, 7, yX3_countCharacters, (some .int), 3, 0, 1, 0, 0),
  (cX3_read, 2, yX3_read, (some .int), 3, 1, 0, 5, 113),
  (cX3_readStep, 2, yX3_readStep, (some .boolean), 3, 1, 0, 4, 92),
  (cX3_readAdding, 4, yX3_readAdding, (some .boolean), 3, 1, 0, 3, 69),
  (cX3_readNewName, 4, yX3_readNewName, (some .boolean), 3, 1, 2, 2, 44),
  (cX3_readFactor, 4, yX3_readFactor, (some .boolean), 3, 1, 2, 2, 46),
  (cX3_readLimit, 3, yX3_readLimit, (some .boolean), 3, 1, 1, 3, 69),
  (cX3_readNumber, 4, yX3_readNumber, (some .int), 3, 1, 0, 2, 46),
  (cX3_readName, 1, yX3_readName, (some .int), 3, 1, 0, 1, 24),
  (cX3_readDigit, 3, yX3_readDigit, (some .int), 3, 1, 2, 1, 24),
  (cX3_readSign, 2, yX3_readSign, (some .boolean), 3, 1, 1, 1, 24),
  (cX3_readOffset, 5, yX3_readOffset, (some .int), 3, 1, 3, 0, 0),
  (cX4_init, 2, yX4_init, none, 4, 2, 0, 1, 20),
  (cX4_writes, 1, yX4_writes, (some .int), 4, 1, 0, 0, 0),
  (cX4_erasures, 1, yX4_erasures, (some .int), 4, 1, 0, 0, 0),
  (cX4_copyFrom, 2, yX4_copyFrom, none, 4, 1, 1, 1, 26),
  (cX4_erase, 2, yX4_erase, none, 4, 1, 0, 0, 0),
  (cX4_valueAt, 2, yX4_valueAt, (some .int), 4, 1, 1, 0, 0),
  (cX4_replace, 3, yX4_replace, none, 4, 1, 2, 0, 0),
  (cX4_countWrite, 1, yX4_countWrite, none, 4, 1, 0, 0, 0),
  (cX4_countFilledCells, 3, yX4_countFilledCells, (some .int), 4, 1, 0, 0, 0),
  (cX4_version, 1, yX4_version, (some .int), 4, 1, 0, 1, 21),
  (cX4_sequence, 1, yX4_sequence, (some .int), 4, 1, 0, 1, 21),
  (cX4_hasGoodHead, 2, yX4_hasGoodHead, (some .boolean), 4, 1, 1, 2, 42),
  (cX4_hasRecordAt, 2, yX4_hasRecordAt, (some .boolean), 4, 1, 1, 0, 0),
  (cX4_hasGoodRecordAt, 4, yX4_hasGoodRecordAt, (some .boolean), 4, 1, 3, 2, 43),
  (cX4_nameAt, 2, yX4_nameAt, (some .int), 4, 1, 1, 1, 21),
  (cX4_countRecords, 6, yX4_countRecords, (some .int), 4, 1, 2, 3, 66),
  (cX4_hasThreeAt, 2, yX4_hasThreeAt, (some .boolean), 4, 1, 1, 1, 21),
  (cX4_headCheck, 2, yX4_headCheck, (some .int), 4, 0, 2, 0, 0),
  (cX4_recordCheck, 3, yX4_recordCheck, (some .int), 4, 0, 3, 0, 0),
  (cX5_init, 1, yX5_init, none, 5, 2, 0, 1, 20),
  (cX5_clear, 1, yX5_clear, none, 5, 1, 0, 0, 0),
  (cX5_append, 5, yX5_append, none, 5, 1, 4, 0, 0),
  (cX5_copyFrom, 2, yX5_copyFrom, none, 5, 1, 1, 1, 26),
  (cX5_applyTo, 3, yX5_applyTo, (some .boolean), 5, 1, 1, 4, 90),
  (cX5_applyStep, 5, yX5_applyStep, (some .boolean), 5, 0, 5, 3, 66),
  (cX5_carryOver, 5, yX5_carryOver, none, 5, 1, 1, 2, 43)]
def pT2 : List pTy := [(cX5_scaled, 3, yX5_scaled, (some .int), 5, 0, 3, 1, 21),
  (cX6_init, 2, yX6_init, none, 6, 2, 0, 4, 81),
  (cX6_define, 1, yX6_define, (some .int), 6, 1, 0, 7, 156),
  (cX6_layout, 5, yX6_layout, (some .int), 6, 1, 3, 2, 42),
  (cX6_fail, 3, yX6_fail, (some .int), 6, 1, 1, 1, 21),
  (cX6_start, 1, yX6_start, (some .int), 6, 1, 0, 5, 109),
  (cX6_get, 2, yX6_get, (some .int), 6, 1, 1, 3, 62),
  (cX6_set, 3, yX6_set, (some .int), 6, 1, 2, 6, 148),
  (cX6_compact, 1, yX6_compact, (some .int), 6, 1, 0, 7, 154),
  (cX6_migrate, 2, yX6_migrate, (some .int), 6, 1, 1, 7, 154),
  (cX6_factory, 2, yX6_factory, (some .int), 6, 1, 1, 5, 117),
  (cX6_cell, 3, yX6_cell, (some .int), 6, 1, 2, 2, 41),
  (cX6_spoil, 5, yX6_spoil, (some .int), 6, 1, 3, 2, 41),
  (cX6_page, 4, yX6_page, (some .int), 6, 1, 2, 4, 91),
  (cX6_state, 2, yX6_state, (some .int), 6, 1, 1, 4, 84),
  (cX6_record, 2, yX6_record, (some .int), 6, 1, 1, 3, 62),
  (cX6_ifMigrated, 3, yX6_ifMigrated, (some .int), 6, 1, 2, 7, 155),
  (cX6_ifFailed, 6, yX6_ifFailed, (some .int), 6, 1, 4, 6, 148),
  (cX6_put, 3, yX6_put, (some .int), 6, 1, 1, 2, 50),
  (cX6_wipe, 2, yX6_wipe, (some .int), 6, 1, 0, 1, 20),
  (cX6_fault, 1, yX6_fault, (some .int), 6, 1, 0, 6, 134),
  (cX6_keep, 2, yX6_keep, (some .int), 6, 1, 1, 3, 68),
  (cX6_back, 2, yX6_back, (some .int), 6, 1, 1, 3, 68),
  (cX6_isPage, 1, yX6_isPage, (some .boolean), 6, 0, 1, 0, 0),
  (cX6_isCell, 2, yX6_isCell, (some .boolean), 6, 0, 2, 1, 20),
  (cX6_isImage, 1, yX6_isImage, (some .boolean), 6, 0, 1, 0, 0),
  (cX6_isCountOfWrites, 1, yX6_isCountOfWrites, (some .boolean), 6, 0, 1, 0, 0),
  (cX6_isName, 1, yX6_isName, (some .boolean), 6, 0, 1, 0, 0),
  (cJ9_floorMod_7cf53, 3, yJ9_floorMod_7cf53, (some .int), 9, 0, 2, 0, 0),
  (cJ9_min_7cf53, 2, yJ9_min_7cf53, (some .int), 9, 0, 2, 0, 0),
  (cL_cell, 2, yL_cell, (some .int), 8, 0, 2, 0, 0),
  (cL_up, 2, yL_up, (some .int), 8, 0, 2, 0, 0),
  (cL_number, 2, yL_number, none, 8, 0, 2, 3, 72),
  (cL_later, 11, yL_later, (some .boolean), 8, 0, 2, 8, 176),
  (cL_cells, 3, yL_cells, (some .int), 8, 0, 1, 3, 63),
  (cL_act, 15, yL_act, (some .boolean), 8, 0, 4, 8, 202),
  (cL_interrupted, 10, yL_interrupted, (some .boolean), 8, 0, 4, 7, 173),
  (cL_stands, 7, yL_stands, (some .boolean), 8, 0, 1, 5, 114),
  (cL_again, 7, yL_again, (some .boolean), 8, 0, 1, 6, 129),
  (cL_spoils, 10, yL_spoils, (some .boolean), 8, 0, 2, 6, 129),
  (cL_moves, 8, yL_moves, (some .boolean), 8, 0, 2, 8, 177),
  (cL_kept, 9, yL_kept, (some .boolean), 8, 0, 2, 8, 176),
  (cL_refused, 3, yL_refused, (some .boolean), 8, 0, 2, 8, 177),
  (cL_law, 5, yL_law, (some .boolean), 8, 0, 1, 9, 236)]
def pT : List pTy := pT0 ++ (pT1 ++ (pT2))
def pD : pTy := (⟨#[]⟩, 0, ⟨"", "", ""⟩, none, 99, 0, 0, 0, 0)
def pB (m : Nat) : ByteArray := (pT.getD m pD).1
def pL (m : Nat) : Nat := (pT.getD m pD).2.1
def pY (m : Nat) : MethodName := (pT.getD m pD).2.2.1
def pR (m : Nat) : Option FieldType := (pT.getD m pD).2.2.2.1
def pC (m : Nat) : Nat := (pT.getD m pD).2.2.2.2.1
def pK (m : Nat) : Nat := (pT.getD m pD).2.2.2.2.2.1
def pN (m : Nat) : Nat := (pT.getD m pD).2.2.2.2.2.2.1
def pF (m : Nat) : Nat := (pT.getD m pD).2.2.2.2.2.2.2.1
def pW (m : Nat) : Nat := (pT.getD m pD).2.2.2.2.2.2.2.2
-- fields that an entry of a class links: (class, entry, the field's class, its place)
def fTl : List (Nat × Nat × Nat × Nat) := [(5, 9, 5, 0), (5, 15, 5, 1), (5, 18, 5, 2), (5, 21, 5, 3), (5, 24, 5, 4), (3, 9, 3, 0), (3, 18, 3, 1), (3, 22, 3, 2), (3, 36, 3, 3), (1, 9, 1, 0), (1, 15, 1, 1), (1, 19, 1, 2), (1, 22, 1, 3), (1, 28, 1, 4), (2, 12, 2, 0), (2, 18, 2, 1), (2, 22, 2, 2), (4, 9, 4, 0), (4, 15, 4, 1), (4, 19, 4, 2), (0, 54, 0, 0), (0, 12, 0, 1), (0, 18, 0, 2), (0, 21, 0, 3), (0, 25, 0, 4), (0, 29, 0, 5), (0, 32, 0, 6), (0, 35, 0, 7), (0, 38, 0, 8), (0, 62, 0, 9), (0, 41, 0, 10), (0, 45, 0, 11), (0, 48, 0, 12), (0, 51, 0, 13), (6, 10, 6, 0), (6, 19, 6, 1), (6, 28, 6, 2), (6, 32, 6, 3), (6, 35, 6, 4), (6, 39, 6, 5)]
def fL (c i : Nat) : Nat × Nat := match fTl.find? (fun q => q.1 == c && q.2.1 == i) with
  | some q => q.2.2
  | none => (99, 0)
-- methods that an entry of a class links: (class, entry, method, how: 0 virtual, 1 static, 2 <init>, 3 static of a nest mate, 4 <init> of a nest mate)
def mTl : List (Nat × Nat × Nat × Nat) := [(8, 11, 93, 2), (6, 9, 49, 4), (3, 17, 85, 4), (6, 18, 43, 2), (2, 11, 31, 4), (1, 27, 85, 4), (6, 25, 0, 2), (0, 11, 66, 2), (8, 40, 94, 0), (6, 43, 55, 0), (3, 39, 86, 0), (3, 42, 56, 0), (3, 46, 64, 0), (3, 84, 65, 0), (3, 50, 57, 0), (3, 57, 62, 0), (3, 68, 61, 0), (3, 75, 63, 0), (3, 79, 121, 1), (3, 71, 87, 0), (3, 53, 58, 0), (3, 61, 59, 0), (3, 64, 60, 0), (6, 47, 44, 0), (6, 50, 51, 0), (6, 54, 47, 0), (2, 30, 46, 0), (2, 26, 45, 0), (2, 34, 37, 0), (1, 36, 88, 0), (1, 40, 89, 0), (5, 34, 90, 1), (5, 38, 38, 0), (1, 44, 119, 3), (5, 44, 39, 0), (1, 32, 32, 0), (5, 48, 40, 0), (5, 52, 41, 0), (1, 47, 92, 1), (5, 62, 121, 1), (6, 58, 52, 0), (8, 44, 102, 0), (6, 84, 2, 0), (6, 125, 45, 0), (6, 126, 25, 0), (0, 150, 70, 0), (0, 153, 28, 0), (0, 164, 83, 1), (0, 161, 29, 0), (0, 167, 30, 0), (0, 170, 72, 0), (0, 174, 73, 0), (0, 106, 19, 0), (0, 81, 10, 0), (0, 71, 46, 0), (0, 90, 34, 0), (8, 48, 106, 0), (6, 98, 5, 0), (6, 119, 6, 0), (6, 165, 7, 0), (6, 168, 13, 0), (6, 171, 8, 0), (6, 174, 14, 0), (0, 85, 32, 0), (6, 177, 15, 0), (6, 88, 4, 0), (6, 132, 9, 0), (6, 148, 67, 0), (6, 151, 68, 0), (6, 180, 50, 0), (8, 24, 110, 0), (6, 193, 53, 0), (3, 26, 54, 1), (8, 12, 122, 1), (8, 30, 123, 1), (8, 34, 124, 1), (8, 51, 125, 1), (8, 76, 112, 0), (8, 79, 95, 0), (6, 61, 46, 0), (6, 65, 32, 0), (6, 71, 33, 0), (6, 75, 34, 0), (6, 78, 35, 0), (8, 54, 127, 1), (8, 85, 100, 0), (6, 116, 3, 0), (6, 122, 22, 0), (0, 142, 24, 0), (0, 146, 48, 0), (2, 38, 42, 0), (1, 51, 91, 0), (5, 55, 119, 3), (5, 58, 92, 1), (0, 135, 26, 0), (0, 98, 9, 0), (0, 138, 27, 0), (0, 157, 84, 1), (8, 88, 105, 0), (6, 145, 115, 1), (6, 154, 77, 0), (4, 32, 82, 0), (4, 28, 71, 0), (4, 36, 75, 0), (4, 40, 45, 0), (4, 45, 76, 0), (4, 48, 83, 1), (6, 158, 81, 0), (4, 65, 77, 0), (4, 69, 46, 0), (4, 73, 78, 0), (4, 76, 79, 0), (4, 52, 80, 0), (4, 55, 36, 0), (4, 61, 84, 1), (6, 162, 74, 0), (8, 91, 101, 0), (8, 94, 108, 0), (6, 186, 23, 0), (0, 77, 119, 3), (8, 97, 98, 0), (6, 101, 10, 0), (6, 105, 11, 0), (8, 100, 128, 1), (8, 112, 109, 0), (6, 108, 36, 0), (6, 81, 118, 1), (6, 189, 1, 0), (0, 58, 69, 0), (6, 91, 16, 0), (6, 112, 21, 0), (6, 95, 17, 0), (0, 94, 18, 0), (0, 112, 77, 0), (0, 104, 76, 0), (0, 116, 120, 1), (0, 102, 75, 0), (0, 109, 20, 0), (0, 122, 78, 0), (0, 125, 80, 0), (0, 128, 79, 0), (0, 132, 71, 0), (8, 116, 96, 0), (8, 106, 99, 0), (8, 103, 97, 0), (8, 109, 107, 0), (6, 183, 12, 0), (8, 83, 103, 0), (6, 129, 116, 1), (6, 136, 71, 0), (8, 58, 129, 1), (8, 62, 130, 1), (8, 119, 126, 1), (8, 65, 131, 1), (8, 123, 113, 0), (6, 197, 117, 1), (8, 126, 104, 0), (6, 141, 72, 0), (8, 129, 114, 0), (8, 68, 132, 1), (8, 71, 133, 1), (8, 136, 111, 0), (8, 18, 134, 1)]
def mL (c i : Nat) : Nat × Nat := match mTl.find? (fun q => q.1 == c && q.2.1 == i) with
  | some q => q.2.2
  | none => (999, 99)
-- entries that link Object.<init>, System.arraycopy, classes, long constants
def oTl : List (Nat × Nat) := [(6, 1), (3, 3), (5, 3), (2, 3), (1, 3), (0, 3), (4, 3)]
def aTl : List (Nat × Nat) := [(5, 28), (0, 65), (4, 22)]
def kTl : List (Nat × Nat × Nat) := [(8, 9, 6), (6, 7, 3), (3, 15, 5), (6, 16, 2), (2, 9, 1), (1, 25, 5), (6, 23, 0), (0, 9, 4)]
def kL (c i : Nat) : Nat := match kTl.find? (fun q => q.1 == c && q.2.1 == i) with
  | some q => q.2.2
  | none => 99
def lTl : List (Nat × Nat × Int64) := [(3, 30, 255), (3, 32, 33), (3, 34, 126), (8, 22, 44), (8, 74, 60), (8, 132, 45), (8, 134, 97), (8, 28, 11008), (8, 38, 61)]
def lL (c i : Nat) : Option Int64 := match lTl.find? (fun q => q.1 == c && q.2.1 == i) with
  | some q => some q.2.2
  | none => none
def cTl : List (Nat × Nat × Int32) := [(8, 7, 73244475), (8, 8, 2147483647), (8, 139, 1000000)]
def cL (c i : Nat) : Option Int32 := match cTl.find? (fun q => q.1 == c && q.2.1 == i) with
  | some q => some q.2.2
  | none => none
def nTl : List (Nat × Nat × Nat) := [(6, 9, 49), (3, 17, 85), (2, 11, 31), (1, 27, 85), (1, 44, 119), (5, 55, 119), (0, 77, 119)]
def clC (c : Nat) : String := pO c
def clT (c : Nat) : u_T := match c with
  | 0 => TX0
  | 1 => TX1
  | 2 => TX2
  | 3 => TX3
  | 4 => TX4
  | 5 => TX5
  | _ => TX6
def clY (c : Nat) : Nat → FieldType := match c with
  | 0 => tyX0
  | 1 => tyX1
  | 2 => tyX2
  | 3 => tyX3
  | 4 => tyX4
  | 5 => tyX5
  | _ => tyX6
def clN (c : Nat) : Nat := [14, 5, 3, 4, 3, 5, 6].getD c 0
-- what a field holds: 0 an int, 1 a boolean, 2 a reference; whether it is final
def fTt : List (List Nat) := [[2, 2, 2, 1, 0, 0, 0, 0, 0, 0, 2, 2, 2, 2], [2, 2, 2, 2, 2], [2, 2, 0], [2, 2, 0, 0], [2, 0, 0], [2, 2, 2, 2, 0], [2, 2, 2, 2, 2, 2]]
def fFt : List (List Bool) := [[true, true, true, false, false, false, false, false, false, false, true, true, true, true], [true, true, true, true, true], [true, true, false], [true, true, false, false], [true, false, false], [true, true, true, true, false], [true, true, true, true, true, true]]
def fT (c k : Nat) : Nat := (fTt.getD c []).getD k 9
def fF (c k : Nat) : Bool := (fFt.getD c []).getD k true
