theorem sL2_k {ls : List (Option Value)} {i : Nat} {v : Value} {ls' : List (Option Value)} (h1 : Nat.blt (i + 1) ls.length = true) (h2 : i = 0 ∨ isJ ls[i - 1]? = false) (h5 : isJ ls[i + 1]? = false) (h3 : (ls.set i (some v)).set (i + 1) none = ls') : sL2 ls i v = some ls' := by
  have h4 : i + 1 < ls.length := Nat.le_of_ble_eq_true h1
  unfold sL2
  rw [← h3]
  have e : (decide (i + 1 < ls.length) && (decide (i = 0) || !isJ ls[i - 1]?) && !isJ ls[i + 1]?) = true := by
    rw [decide_eq_true h4, h5]
    rcases h2 with h | h
    · rw [decide_eq_true h]; rfl
    · rw [h]; simp
  rw [e]
theorem rk_1_69 : rok 1 69 = true := by decide +kernel
theorem rk_10_46 : rok 10 46 = true := by decide +kernel
theorem rk_11_119 : rok 11 119 = true := by decide +kernel
theorem rk_12_119 : rok 12 119 = true := by decide +kernel
theorem rk_14_10 : rok 14 10 = true := by decide +kernel
theorem rk_14_32 : rok 14 32 = true := by decide +kernel
theorem rk_15_10 : rok 15 10 = true := by decide +kernel
theorem rk_15_32 : rok 15 32 = true := by decide +kernel
theorem rk_15_34 : rok 15 34 = true := by decide +kernel
theorem rk_17_9 : rok 17 9 = true := by decide +kernel
theorem rk_17_18 : rok 17 18 = true := by decide +kernel
theorem rk_17_19 : rok 17 19 = true := by decide +kernel
theorem rk_17_20 : rok 17 20 = true := by decide +kernel
theorem rk_17_75 : rok 17 75 = true := by decide +kernel
theorem rk_17_76 : rok 17 76 = true := by decide +kernel
theorem rk_18_76 : rok 18 76 = true := by decide +kernel
theorem rk_18_77 : rok 18 77 = true := by decide +kernel
theorem rk_18_120 : rok 18 120 = true := by decide +kernel
theorem rk_19_10 : rok 19 10 = true := by decide +kernel
theorem rk_19_34 : rok 19 34 = true := by decide +kernel
theorem rk_20_10 : rok 20 10 = true := by decide +kernel
theorem rk_20_71 : rok 20 71 = true := by decide +kernel
theorem rk_20_78 : rok 20 78 = true := by decide +kernel
theorem rk_20_79 : rok 20 79 = true := by decide +kernel
theorem rk_20_80 : rok 20 80 = true := by decide +kernel
theorem rk_20_119 : rok 20 119 = true := by decide +kernel
theorem rk_21_9 : rok 21 9 = true := by decide +kernel
theorem rk_21_26 : rok 21 26 = true := by decide +kernel
theorem rk_21_27 : rok 21 27 = true := by decide +kernel
theorem rk_21_119 : rok 21 119 = true := by decide +kernel
theorem rk_22_24 : rok 22 24 = true := by decide +kernel
theorem rk_22_26 : rok 22 26 = true := by decide +kernel
theorem rk_23_24 : rok 23 24 = true := by decide +kernel
theorem rk_23_119 : rok 23 119 = true := by decide +kernel
theorem rk_24_48 : rok 24 48 = true := by decide +kernel
theorem rk_25_19 : rok 25 19 = true := by decide +kernel
theorem rk_25_28 : rok 25 28 = true := by decide +kernel
theorem rk_25_70 : rok 25 70 = true := by decide +kernel
theorem rk_26_9 : rok 26 9 = true := by decide +kernel
theorem rk_26_27 : rok 26 27 = true := by decide +kernel
theorem rk_26_28 : rok 26 28 = true := by decide +kernel
theorem rk_26_32 : rok 26 32 = true := by decide +kernel
theorem rk_26_34 : rok 26 34 = true := by decide +kernel
theorem rk_26_46 : rok 26 46 = true := by decide +kernel
theorem rk_26_70 : rok 26 70 = true := by decide +kernel
theorem rk_27_29 : rok 27 29 = true := by decide +kernel
theorem rk_27_84 : rok 27 84 = true := by decide +kernel
theorem rk_28_29 : rok 28 29 = true := by decide +kernel
theorem rk_28_83 : rok 28 83 = true := by decide +kernel
theorem rk_29_30 : rok 29 30 = true := by decide +kernel
theorem rk_30_72 : rok 30 72 = true := by decide +kernel
theorem rk_30_73 : rok 30 73 = true := by decide +kernel
theorem rk_33_32 : rok 33 32 = true := by decide +kernel
theorem rk_34_32 : rok 34 32 = true := by decide +kernel
theorem rk_35_32 : rok 35 32 = true := by decide +kernel
theorem rk_36_32 : rok 36 32 = true := by decide +kernel
theorem rk_37_88 : rok 37 88 = true := by decide +kernel
theorem rk_37_89 : rok 37 89 = true := by decide +kernel
theorem rk_38_119 : rok 38 119 = true := by decide +kernel
theorem rk_39_32 : rok 39 32 = true := by decide +kernel
theorem rk_40_32 : rok 40 32 = true := by decide +kernel
theorem rk_40_119 : rok 40 119 = true := by decide +kernel
theorem rk_41_32 : rok 41 32 = true := by decide +kernel
theorem rk_41_92 : rok 41 92 = true := by decide +kernel
theorem rk_42_91 : rok 42 91 = true := by decide +kernel
theorem rk_46_45 : rok 46 45 = true := by decide +kernel
theorem rk_47_37 : rok 47 37 = true := by decide +kernel
theorem rk_47_46 : rok 47 46 = true := by decide +kernel
theorem rk_48_42 : rok 48 42 = true := by decide +kernel
theorem rk_48_46 : rok 48 46 = true := by decide +kernel
theorem rk_53_54 : rok 53 54 = true := by decide +kernel
theorem rk_55_56 : rok 55 56 = true := by decide +kernel
theorem rk_55_64 : rok 55 64 = true := by decide +kernel
theorem rk_55_86 : rok 55 86 = true := by decide +kernel
theorem rk_56_57 : rok 56 57 = true := by decide +kernel
theorem rk_56_58 : rok 56 58 = true := by decide +kernel
theorem rk_56_59 : rok 56 59 = true := by decide +kernel
theorem rk_56_60 : rok 56 60 = true := by decide +kernel
theorem rk_56_62 : rok 56 62 = true := by decide +kernel
theorem rk_56_64 : rok 56 64 = true := by decide +kernel
theorem rk_57_61 : rok 57 61 = true := by decide +kernel
theorem rk_57_62 : rok 57 62 = true := by decide +kernel
theorem rk_57_64 : rok 57 64 = true := by decide +kernel
theorem rk_57_87 : rok 57 87 = true := by decide +kernel
theorem rk_58_62 : rok 58 62 = true := by decide +kernel
theorem rk_58_87 : rok 58 87 = true := by decide +kernel
theorem rk_59_63 : rok 59 63 = true := by decide +kernel
theorem rk_59_87 : rok 59 87 = true := by decide +kernel
theorem rk_60_61 : rok 60 61 = true := by decide +kernel
theorem rk_60_87 : rok 60 87 = true := by decide +kernel
theorem rk_61_63 : rok 61 63 = true := by decide +kernel
theorem rk_61_121 : rok 61 121 = true := by decide +kernel
theorem rk_62_65 : rok 62 65 = true := by decide +kernel
theorem rk_63_65 : rok 63 65 = true := by decide +kernel
theorem rk_64_65 : rok 64 65 = true := by decide +kernel
theorem rk_75_71 : rok 75 71 = true := by decide +kernel
theorem rk_76_71 : rok 76 71 = true := by decide +kernel
theorem rk_77_45 : rok 77 45 = true := by decide +kernel
theorem rk_77_71 : rok 77 71 = true := by decide +kernel
theorem rk_77_75 : rok 77 75 = true := by decide +kernel
theorem rk_77_76 : rok 77 76 = true := by decide +kernel
theorem rk_77_82 : rok 77 82 = true := by decide +kernel
theorem rk_77_83 : rok 77 83 = true := by decide +kernel
theorem rk_79_36 : rok 79 36 = true := by decide +kernel
theorem rk_79_71 : rok 79 71 = true := by decide +kernel
theorem rk_79_80 : rok 79 80 = true := by decide +kernel
theorem rk_79_82 : rok 79 82 = true := by decide +kernel
theorem rk_79_84 : rok 79 84 = true := by decide +kernel
theorem rk_80_71 : rok 80 71 = true := by decide +kernel
theorem rk_81_46 : rok 81 46 = true := by decide +kernel
theorem rk_81_75 : rok 81 75 = true := by decide +kernel
theorem rk_81_77 : rok 81 77 = true := by decide +kernel
theorem rk_81_78 : rok 81 78 = true := by decide +kernel
theorem rk_81_79 : rok 81 79 = true := by decide +kernel
theorem rk_82_71 : rok 82 71 = true := by decide +kernel
theorem rk_89_90 : rok 89 90 = true := by decide +kernel
theorem rk_90_38 : rok 90 38 = true := by decide +kernel
theorem rk_90_39 : rok 90 39 = true := by decide +kernel
theorem rk_90_40 : rok 90 40 = true := by decide +kernel
theorem rk_90_41 : rok 90 41 = true := by decide +kernel
theorem rk_91_92 : rok 91 92 = true := by decide +kernel
theorem rk_91_119 : rok 91 119 = true := by decide +kernel
theorem rk_92_121 : rok 92 121 = true := by decide +kernel
theorem rk_94_44 : rok 94 44 = true := by decide +kernel
theorem rk_94_47 : rok 94 47 = true := by decide +kernel
theorem rk_94_51 : rok 94 51 = true := by decide +kernel
theorem rk_94_52 : rok 94 52 = true := by decide +kernel
theorem rk_94_55 : rok 94 55 = true := by decide +kernel
theorem rk_95_32 : rok 95 32 = true := by decide +kernel
theorem rk_95_33 : rok 95 33 = true := by decide +kernel
theorem rk_95_34 : rok 95 34 = true := by decide +kernel
theorem rk_95_35 : rok 95 35 = true := by decide +kernel
theorem rk_95_46 : rok 95 46 = true := by decide +kernel
theorem rk_96_2 : rok 96 2 = true := by decide +kernel
theorem rk_96_4 : rok 96 4 = true := by decide +kernel
theorem rk_96_16 : rok 96 16 = true := by decide +kernel
theorem rk_96_118 : rok 96 118 = true := by decide +kernel
theorem rk_97_5 : rok 97 5 = true := by decide +kernel
theorem rk_97_17 : rok 97 17 = true := by decide +kernel
theorem rk_98_2 : rok 98 2 = true := by decide +kernel
theorem rk_98_10 : rok 98 10 = true := by decide +kernel
theorem rk_98_11 : rok 98 11 = true := by decide +kernel
theorem rk_98_32 : rok 98 32 = true := by decide +kernel
theorem rk_99_2 : rok 99 2 = true := by decide +kernel
theorem rk_99_10 : rok 99 10 = true := by decide +kernel
theorem rk_99_21 : rok 99 21 = true := by decide +kernel
theorem rk_99_32 : rok 99 32 = true := by decide +kernel
theorem rk_99_36 : rok 99 36 = true := by decide +kernel
theorem rk_100_3 : rok 100 3 = true := by decide +kernel
theorem rk_100_6 : rok 100 6 = true := by decide +kernel
theorem rk_100_22 : rok 100 22 = true := by decide +kernel
theorem rk_101_3 : rok 101 3 = true := by decide +kernel
theorem rk_101_6 : rok 101 6 = true := by decide +kernel
theorem rk_101_22 : rok 101 22 = true := by decide +kernel
theorem rk_101_45 : rok 101 45 = true := by decide +kernel
theorem rk_102_2 : rok 102 2 = true := by decide +kernel
theorem rk_102_25 : rok 102 25 = true := by decide +kernel
theorem rk_102_45 : rok 102 45 = true := by decide +kernel
theorem rk_103_9 : rok 103 9 = true := by decide +kernel
theorem rk_103_71 : rok 103 71 = true := by decide +kernel
theorem rk_103_116 : rok 103 116 = true := by decide +kernel
theorem rk_104_9 : rok 104 9 = true := by decide +kernel
theorem rk_104_71 : rok 104 71 = true := by decide +kernel
theorem rk_104_72 : rok 104 72 = true := by decide +kernel
theorem rk_104_116 : rok 104 116 = true := by decide +kernel
theorem rk_105_9 : rok 105 9 = true := by decide +kernel
theorem rk_105_67 : rok 105 67 = true := by decide +kernel
theorem rk_105_68 : rok 105 68 = true := by decide +kernel
theorem rk_105_74 : rok 105 74 = true := by decide +kernel
theorem rk_105_77 : rok 105 77 = true := by decide +kernel
theorem rk_105_81 : rok 105 81 = true := by decide +kernel
theorem rk_105_115 : rok 105 115 = true := by decide +kernel
theorem rk_106_2 : rok 106 2 = true := by decide +kernel
theorem rk_106_4 : rok 106 4 = true := by decide +kernel
theorem rk_106_5 : rok 106 5 = true := by decide +kernel
theorem rk_106_6 : rok 106 6 = true := by decide +kernel
theorem rk_106_7 : rok 106 7 = true := by decide +kernel
theorem rk_106_8 : rok 106 8 = true := by decide +kernel
theorem rk_106_9 : rok 106 9 = true := by decide +kernel
theorem rk_106_13 : rok 106 13 = true := by decide +kernel
theorem rk_106_14 : rok 106 14 = true := by decide +kernel
theorem rk_106_15 : rok 106 15 = true := by decide +kernel
theorem rk_106_44 : rok 106 44 = true := by decide +kernel
theorem rk_106_50 : rok 106 50 = true := by decide +kernel
theorem rk_106_67 : rok 106 67 = true := by decide +kernel
theorem rk_106_68 : rok 106 68 = true := by decide +kernel
theorem rk_107_2 : rok 107 2 = true := by decide +kernel
theorem rk_107_10 : rok 107 10 = true := by decide +kernel
theorem rk_107_12 : rok 107 12 = true := by decide +kernel
theorem rk_107_32 : rok 107 32 = true := by decide +kernel
theorem rk_108_3 : rok 108 3 = true := by decide +kernel
theorem rk_108_6 : rok 108 6 = true := by decide +kernel
theorem rk_108_23 : rok 108 23 = true := by decide +kernel
theorem rk_108_32 : rok 108 32 = true := by decide +kernel
theorem rk_108_46 : rok 108 46 = true := by decide +kernel
theorem rk_109_1 : rok 109 1 = true := by decide +kernel
theorem rk_109_2 : rok 109 2 = true := by decide +kernel
theorem rk_109_10 : rok 109 10 = true := by decide +kernel
theorem rk_109_11 : rok 109 11 = true := by decide +kernel
theorem rk_109_16 : rok 109 16 = true := by decide +kernel
theorem rk_109_17 : rok 109 17 = true := by decide +kernel
theorem rk_109_21 : rok 109 21 = true := by decide +kernel
theorem rk_109_32 : rok 109 32 = true := by decide +kernel
theorem rk_109_36 : rok 109 36 = true := by decide +kernel
theorem rk_109_118 : rok 109 118 = true := by decide +kernel
theorem rk_110_53 : rok 110 53 = true := by decide +kernel
theorem rk_111_50 : rok 111 50 = true := by decide +kernel
theorem rk_111_52 : rok 111 52 = true := by decide +kernel
theorem rk_112_55 : rok 112 55 = true := by decide +kernel
theorem rk_113_1 : rok 113 1 = true := by decide +kernel
theorem rk_113_5 : rok 113 5 = true := by decide +kernel
theorem rk_113_117 : rok 113 117 = true := by decide +kernel
theorem rk_114_1 : rok 114 1 = true := by decide +kernel
theorem rk_114_5 : rok 114 5 = true := by decide +kernel
theorem rk_114_117 : rok 114 117 = true := by decide +kernel
theorem rk_116_115 : rok 116 115 = true := by decide +kernel
theorem rk_124_110 : rok 124 110 = true := by decide +kernel
theorem rk_125_94 : rok 125 94 = true := by decide +kernel
theorem rk_125_95 : rok 125 95 = true := by decide +kernel
theorem rk_125_106 : rok 125 106 = true := by decide +kernel
theorem rk_125_110 : rok 125 110 = true := by decide +kernel
theorem rk_125_112 : rok 125 112 = true := by decide +kernel
theorem rk_125_123 : rok 125 123 = true := by decide +kernel
theorem rk_125_124 : rok 125 124 = true := by decide +kernel
theorem rk_126_103 : rok 126 103 = true := by decide +kernel
theorem rk_127_95 : rok 127 95 = true := by decide +kernel
theorem rk_127_97 : rok 127 97 = true := by decide +kernel
theorem rk_127_98 : rok 127 98 = true := by decide +kernel
theorem rk_127_99 : rok 127 99 = true := by decide +kernel
theorem rk_127_100 : rok 127 100 = true := by decide +kernel
theorem rk_127_101 : rok 127 101 = true := by decide +kernel
theorem rk_127_103 : rok 127 103 = true := by decide +kernel
theorem rk_127_105 : rok 127 105 = true := by decide +kernel
theorem rk_127_106 : rok 127 106 = true := by decide +kernel
theorem rk_127_107 : rok 127 107 = true := by decide +kernel
theorem rk_127_108 : rok 127 108 = true := by decide +kernel
theorem rk_127_123 : rok 127 123 = true := by decide +kernel
theorem rk_127_128 : rok 127 128 = true := by decide +kernel
theorem rk_128_96 : rok 128 96 = true := by decide +kernel
theorem rk_128_97 : rok 128 97 = true := by decide +kernel
theorem rk_128_98 : rok 128 98 = true := by decide +kernel
theorem rk_128_99 : rok 128 99 = true := by decide +kernel
theorem rk_128_106 : rok 128 106 = true := by decide +kernel
theorem rk_128_109 : rok 128 109 = true := by decide +kernel
theorem rk_129_95 : rok 129 95 = true := by decide +kernel
theorem rk_129_98 : rok 129 98 = true := by decide +kernel
theorem rk_129_103 : rok 129 103 = true := by decide +kernel
theorem rk_129_105 : rok 129 105 = true := by decide +kernel
theorem rk_129_106 : rok 129 106 = true := by decide +kernel
theorem rk_129_107 : rok 129 107 = true := by decide +kernel
theorem rk_130_97 : rok 130 97 = true := by decide +kernel
theorem rk_130_98 : rok 130 98 = true := by decide +kernel
theorem rk_130_106 : rok 130 106 = true := by decide +kernel
theorem rk_130_107 : rok 130 107 = true := by decide +kernel
theorem rk_130_126 : rok 130 126 = true := by decide +kernel
theorem rk_131_95 : rok 131 95 = true := by decide +kernel
theorem rk_131_97 : rok 131 97 = true := by decide +kernel
theorem rk_131_98 : rok 131 98 = true := by decide +kernel
theorem rk_131_103 : rok 131 103 = true := by decide +kernel
theorem rk_131_104 : rok 131 104 = true := by decide +kernel
theorem rk_131_105 : rok 131 105 = true := by decide +kernel
theorem rk_131_106 : rok 131 106 = true := by decide +kernel
theorem rk_131_107 : rok 131 107 = true := by decide +kernel
theorem rk_131_113 : rok 131 113 = true := by decide +kernel
theorem rk_131_114 : rok 131 114 = true := by decide +kernel
theorem rk_131_123 : rok 131 123 = true := by decide +kernel
theorem rk_132_96 : rok 132 96 = true := by decide +kernel
theorem rk_132_97 : rok 132 97 = true := by decide +kernel
theorem rk_132_98 : rok 132 98 = true := by decide +kernel
theorem rk_132_101 : rok 132 101 = true := by decide +kernel
theorem rk_132_102 : rok 132 102 = true := by decide +kernel
theorem rk_132_105 : rok 132 105 = true := by decide +kernel
theorem rk_132_106 : rok 132 106 = true := by decide +kernel
theorem rk_132_108 : rok 132 108 = true := by decide +kernel
theorem rk_132_113 : rok 132 113 = true := by decide +kernel
theorem rk_132_114 : rok 132 114 = true := by decide +kernel
theorem rk_132_123 : rok 132 123 = true := by decide +kernel
theorem rk_132_130 : rok 132 130 = true := by decide +kernel
theorem rk_133_94 : rok 133 94 = true := by decide +kernel
theorem rk_133_95 : rok 133 95 = true := by decide +kernel
theorem rk_133_97 : rok 133 97 = true := by decide +kernel
theorem rk_133_98 : rok 133 98 = true := by decide +kernel
theorem rk_133_99 : rok 133 99 = true := by decide +kernel
theorem rk_133_100 : rok 133 100 = true := by decide +kernel
theorem rk_133_102 : rok 133 102 = true := by decide +kernel
theorem rk_133_104 : rok 133 104 = true := by decide +kernel
theorem rk_133_106 : rok 133 106 = true := by decide +kernel
theorem rk_133_110 : rok 133 110 = true := by decide +kernel
theorem rk_133_111 : rok 133 111 = true := by decide +kernel
theorem rk_133_113 : rok 133 113 = true := by decide +kernel
theorem rk_133_114 : rok 133 114 = true := by decide +kernel
theorem rk_133_123 : rok 133 123 = true := by decide +kernel
theorem rk_133_126 : rok 133 126 = true := by decide +kernel
theorem rk_134_94 : rok 134 94 = true := by decide +kernel
theorem rk_134_95 : rok 134 95 = true := by decide +kernel
theorem rk_134_96 : rok 134 96 = true := by decide +kernel
theorem rk_134_97 : rok 134 97 = true := by decide +kernel
theorem rk_134_98 : rok 134 98 = true := by decide +kernel
theorem rk_134_99 : rok 134 99 = true := by decide +kernel
theorem rk_134_100 : rok 134 100 = true := by decide +kernel
theorem rk_134_101 : rok 134 101 = true := by decide +kernel
theorem rk_134_102 : rok 134 102 = true := by decide +kernel
theorem rk_134_103 : rok 134 103 = true := by decide +kernel
theorem rk_134_104 : rok 134 104 = true := by decide +kernel
theorem rk_134_105 : rok 134 105 = true := by decide +kernel
theorem rk_134_106 : rok 134 106 = true := by decide +kernel
theorem rk_134_107 : rok 134 107 = true := by decide +kernel
theorem rk_134_108 : rok 134 108 = true := by decide +kernel
theorem rk_134_109 : rok 134 109 = true := by decide +kernel
theorem rk_134_113 : rok 134 113 = true := by decide +kernel
theorem rk_134_114 : rok 134 114 = true := by decide +kernel
theorem rk_134_123 : rok 134 123 = true := by decide +kernel
theorem rk_135_94 : rok 135 94 = true := by decide +kernel
theorem rk_135_102 : rok 135 102 = true := by decide +kernel
theorem rk_135_106 : rok 135 106 = true := by decide +kernel
theorem rk_135_110 : rok 135 110 = true := by decide +kernel
theorem rk_135_122 : rok 135 122 = true := by decide +kernel
theorem rk_135_123 : rok 135 123 = true := by decide +kernel
theorem rk_135_124 : rok 135 124 = true := by decide +kernel
theorem rk_135_125 : rok 135 125 = true := by decide +kernel
theorem rk_135_127 : rok 135 127 = true := by decide +kernel
theorem rk_135_129 : rok 135 129 = true := by decide +kernel
theorem rk_135_130 : rok 135 130 = true := by decide +kernel
theorem rk_135_131 : rok 135 131 = true := by decide +kernel
theorem rk_135_132 : rok 135 132 = true := by decide +kernel
theorem rk_135_133 : rok 135 133 = true := by decide +kernel
theorem rk_135_134 : rok 135 134 = true := by decide +kernel
theorem na_0_77 : (0, 77) ∉ aTl := by decide +kernel
theorem na_0_116 : (0, 116) ∉ aTl := by decide +kernel
theorem na_0_157 : (0, 157) ∉ aTl := by decide +kernel
theorem na_0_164 : (0, 164) ∉ aTl := by decide +kernel
theorem na_1_44 : (1, 44) ∉ aTl := by decide +kernel
theorem na_1_47 : (1, 47) ∉ aTl := by decide +kernel
theorem na_3_26 : (3, 26) ∉ aTl := by decide +kernel
theorem na_3_79 : (3, 79) ∉ aTl := by decide +kernel
theorem na_4_48 : (4, 48) ∉ aTl := by decide +kernel
theorem na_4_61 : (4, 61) ∉ aTl := by decide +kernel
theorem na_5_34 : (5, 34) ∉ aTl := by decide +kernel
theorem na_5_55 : (5, 55) ∉ aTl := by decide +kernel
theorem na_5_58 : (5, 58) ∉ aTl := by decide +kernel
theorem na_5_62 : (5, 62) ∉ aTl := by decide +kernel
theorem na_6_81 : (6, 81) ∉ aTl := by decide +kernel
theorem na_6_129 : (6, 129) ∉ aTl := by decide +kernel
theorem na_6_145 : (6, 145) ∉ aTl := by decide +kernel
theorem na_6_197 : (6, 197) ∉ aTl := by decide +kernel
theorem na_8_12 : (8, 12) ∉ aTl := by decide +kernel
theorem na_8_18 : (8, 18) ∉ aTl := by decide +kernel
theorem na_8_30 : (8, 30) ∉ aTl := by decide +kernel
theorem na_8_34 : (8, 34) ∉ aTl := by decide +kernel
theorem na_8_51 : (8, 51) ∉ aTl := by decide +kernel
theorem na_8_54 : (8, 54) ∉ aTl := by decide +kernel
theorem na_8_58 : (8, 58) ∉ aTl := by decide +kernel
theorem na_8_62 : (8, 62) ∉ aTl := by decide +kernel
theorem na_8_65 : (8, 65) ∉ aTl := by decide +kernel
theorem na_8_68 : (8, 68) ∉ aTl := by decide +kernel
theorem na_8_71 : (8, 71) ∉ aTl := by decide +kernel
theorem na_8_100 : (8, 100) ∉ aTl := by decide +kernel
theorem na_8_119 : (8, 119) ∉ aTl := by decide +kernel
theorem ca_0_65 : (0, 65) ∈ aTl := by decide +kernel
theorem ca_4_22 : (4, 22) ∈ aTl := by decide +kernel
theorem ca_5_28 : (5, 28) ∈ aTl := by decide +kernel
theorem ac_1 : (decide (1 ≤ pF 1) && decide (26 ≤ pW 1)) = true := by decide +kernel
theorem ac_21 : (decide (1 ≤ pF 21) && decide (26 ≤ pW 21)) = true := by decide +kernel
theorem ac_24 : (decide (1 ≤ pF 24) && decide (26 ≤ pW 24)) = true := by decide +kernel
theorem ac_26 : (decide (1 ≤ pF 26) && decide (26 ≤ pW 26)) = true := by decide +kernel
theorem ac_69 : (decide (1 ≤ pF 69) && decide (26 ≤ pW 69)) = true := by decide +kernel
theorem ac_88 : (decide (1 ≤ pF 88) && decide (26 ≤ pW 88)) = true := by decide +kernel
theorem ra_9 : rtA 9 = true := rfl
theorem ra_10 : rtA 10 = true := rfl
theorem ra_46 : rtA 46 = true := rfl
theorem ra_51 : rtA 51 = true := rfl
theorem mX1 : pL 1 = 2 := rfl
theorem mX2 : pL 2 = 1 := rfl
theorem mX3 : pL 3 = 1 := rfl
theorem mX4 : pL 4 = 1 := rfl
theorem mX5 : pL 5 = 1 := rfl
theorem mX6 : pL 6 = 1 := rfl
theorem mX7 : pL 7 = 1 := rfl
theorem mX8 : pL 8 = 1 := rfl
theorem mX9 : pL 9 = 2 := rfl
theorem mX10 : pL 10 = 1 := rfl
theorem mX11 : pL 11 = 2 := rfl
theorem mX12 : pL 12 = 2 := rfl
theorem mX13 : pL 13 = 1 := rfl
theorem mX14 : pL 14 = 3 := rfl
theorem mX15 : pL 15 = 3 := rfl
theorem mX16 : pL 16 = 2 := rfl
theorem mX17 : pL 17 = 1 := rfl
theorem mX18 : pL 18 = 4 := rfl
theorem mX19 : pL 19 = 2 := rfl
theorem mX20 : pL 20 = 4 := rfl
theorem mX21 : pL 21 = 4 := rfl
theorem mX22 : pL 22 = 2 := rfl
theorem mX23 : pL 23 = 3 := rfl
theorem mX24 : pL 24 = 2 := rfl
theorem mX25 : pL 25 = 3 := rfl
theorem mX26 : pL 26 = 9 := rfl
theorem mX27 : pL 27 = 7 := rfl
theorem mX28 : pL 28 = 5 := rfl
theorem mX29 : pL 29 = 7 := rfl
theorem mX30 : pL 30 = 4 := rfl
theorem mX32 : pL 32 = 2 := rfl
theorem mX33 : pL 33 = 2 := rfl
theorem mX34 : pL 34 = 2 := rfl
theorem mX35 : pL 35 = 2 := rfl
theorem mX36 : pL 36 = 3 := rfl
theorem mX37 : pL 37 = 4 := rfl
theorem mX38 : pL 38 = 4 := rfl
theorem mX39 : pL 39 = 2 := rfl
theorem mX40 : pL 40 = 3 := rfl
theorem mX41 : pL 41 = 4 := rfl
theorem mX42 : pL 42 = 2 := rfl
theorem mX44 : pL 44 = 1 := rfl
theorem mX45 : pL 45 = 2 := rfl
theorem mX46 : pL 46 = 2 := rfl
theorem mX47 : pL 47 = 2 := rfl
theorem mX48 : pL 48 = 5 := rfl
theorem mX50 : pL 50 = 1 := rfl
theorem mX51 : pL 51 = 1 := rfl
theorem mX52 : pL 52 = 1 := rfl
theorem mX53 : pL 53 = 5 := rfl
theorem mX54 : pL 54 = 7 := rfl
theorem mX55 : pL 55 = 2 := rfl
theorem mX56 : pL 56 = 2 := rfl
theorem mX57 : pL 57 = 4 := rfl
theorem mX58 : pL 58 = 4 := rfl
theorem mX59 : pL 59 = 4 := rfl
theorem mX60 : pL 60 = 3 := rfl
theorem mX61 : pL 61 = 4 := rfl
theorem mX62 : pL 62 = 1 := rfl
theorem mX63 : pL 63 = 3 := rfl
theorem mX64 : pL 64 = 2 := rfl
theorem mX65 : pL 65 = 5 := rfl
theorem mX67 : pL 67 = 1 := rfl
theorem mX68 : pL 68 = 1 := rfl
theorem mX69 : pL 69 = 2 := rfl
theorem mX70 : pL 70 = 2 := rfl
theorem mX71 : pL 71 = 2 := rfl
theorem mX72 : pL 72 = 3 := rfl
theorem mX73 : pL 73 = 1 := rfl
theorem mX74 : pL 74 = 3 := rfl
theorem mX75 : pL 75 = 1 := rfl
theorem mX76 : pL 76 = 1 := rfl
theorem mX77 : pL 77 = 2 := rfl
theorem mX78 : pL 78 = 2 := rfl
theorem mX79 : pL 79 = 4 := rfl
theorem mX80 : pL 80 = 2 := rfl
theorem mX81 : pL 81 = 6 := rfl
theorem mX82 : pL 82 = 2 := rfl
theorem mX83 : pL 83 = 2 := rfl
theorem mX84 : pL 84 = 3 := rfl
theorem mX86 : pL 86 = 1 := rfl
theorem mX87 : pL 87 = 5 := rfl
theorem mX88 : pL 88 = 2 := rfl
theorem mX89 : pL 89 = 3 := rfl
theorem mX90 : pL 90 = 5 := rfl
theorem mX91 : pL 91 = 5 := rfl
theorem mX92 : pL 92 = 3 := rfl
theorem mX94 : pL 94 = 1 := rfl
theorem mX95 : pL 95 = 5 := rfl
theorem mX96 : pL 96 = 3 := rfl
theorem mX97 : pL 97 = 1 := rfl
theorem mX98 : pL 98 = 2 := rfl
theorem mX99 : pL 99 = 3 := rfl
theorem mX100 : pL 100 = 1 := rfl
theorem mX101 : pL 101 = 2 := rfl
theorem mX102 : pL 102 = 2 := rfl
theorem mX103 : pL 103 = 3 := rfl
theorem mX104 : pL 104 = 5 := rfl
theorem mX105 : pL 105 = 4 := rfl
theorem mX106 : pL 106 = 2 := rfl
theorem mX107 : pL 107 = 2 := rfl
theorem mX108 : pL 108 = 3 := rfl
theorem mX109 : pL 109 = 6 := rfl
theorem mX110 : pL 110 = 3 := rfl
theorem mX111 : pL 111 = 2 := rfl
theorem mX112 : pL 112 = 1 := rfl
theorem mX113 : pL 113 = 2 := rfl
theorem mX114 : pL 114 = 2 := rfl
theorem mX115 : pL 115 = 1 := rfl
theorem mX116 : pL 116 = 2 := rfl
theorem mX117 : pL 117 = 1 := rfl
theorem mX118 : pL 118 = 1 := rfl
theorem mX119 : pL 119 = 1 := rfl
theorem mX120 : pL 120 = 3 := rfl
theorem mX121 : pL 121 = 2 := rfl
theorem mX122 : pL 122 = 2 := rfl
theorem mX123 : pL 123 = 2 := rfl
theorem mX124 : pL 124 = 2 := rfl
theorem mX125 : pL 125 = 11 := rfl
theorem mX126 : pL 126 = 3 := rfl
theorem mX127 : pL 127 = 15 := rfl
theorem mX128 : pL 128 = 10 := rfl
theorem mX129 : pL 129 = 7 := rfl
theorem mX130 : pL 130 = 7 := rfl
theorem mX131 : pL 131 = 10 := rfl
theorem mX132 : pL 132 = 8 := rfl
theorem mX133 : pL 133 = 9 := rfl
theorem mX134 : pL 134 = 3 := rfl
theorem t_0_0 : fT 0 0 = 2 := rfl
theorem t_0_1 : fT 0 1 = 2 := rfl
theorem t_0_2 : fT 0 2 = 2 := rfl
theorem t_0_3 : fT 0 3 = 1 := rfl
theorem tn_0_3 : fT 0 3 ≠ 2 := by decide
theorem ff_0_3 : fF 0 3 = false := rfl
theorem t_0_4 : fT 0 4 = 0 := rfl
theorem tn_0_4 : fT 0 4 ≠ 2 := by decide
theorem ff_0_4 : fF 0 4 = false := rfl
theorem t_0_5 : fT 0 5 = 0 := rfl
theorem tn_0_5 : fT 0 5 ≠ 2 := by decide
theorem ff_0_5 : fF 0 5 = false := rfl
theorem t_0_6 : fT 0 6 = 0 := rfl
theorem tn_0_6 : fT 0 6 ≠ 2 := by decide
theorem ff_0_6 : fF 0 6 = false := rfl
theorem t_0_7 : fT 0 7 = 0 := rfl
theorem tn_0_7 : fT 0 7 ≠ 2 := by decide
theorem ff_0_7 : fF 0 7 = false := rfl
theorem t_0_8 : fT 0 8 = 0 := rfl
theorem tn_0_8 : fT 0 8 ≠ 2 := by decide
theorem ff_0_8 : fF 0 8 = false := rfl
theorem t_0_9 : fT 0 9 = 0 := rfl
theorem tn_0_9 : fT 0 9 ≠ 2 := by decide
theorem ff_0_9 : fF 0 9 = false := rfl
theorem t_0_10 : fT 0 10 = 2 := rfl
theorem t_0_11 : fT 0 11 = 2 := rfl
theorem t_0_12 : fT 0 12 = 2 := rfl
theorem t_0_13 : fT 0 13 = 2 := rfl
theorem t_1_0 : fT 1 0 = 2 := rfl
theorem t_1_1 : fT 1 1 = 2 := rfl
theorem t_1_2 : fT 1 2 = 2 := rfl
theorem t_1_3 : fT 1 3 = 2 := rfl
theorem t_1_4 : fT 1 4 = 2 := rfl
theorem t_2_0 : fT 2 0 = 2 := rfl
theorem t_2_1 : fT 2 1 = 2 := rfl
theorem t_2_2 : fT 2 2 = 0 := rfl
theorem tn_2_2 : fT 2 2 ≠ 2 := by decide
theorem ff_2_2 : fF 2 2 = false := rfl
theorem t_3_0 : fT 3 0 = 2 := rfl
theorem t_3_1 : fT 3 1 = 2 := rfl
theorem t_3_2 : fT 3 2 = 0 := rfl
theorem tn_3_2 : fT 3 2 ≠ 2 := by decide
theorem ff_3_2 : fF 3 2 = false := rfl
theorem t_3_3 : fT 3 3 = 0 := rfl
theorem tn_3_3 : fT 3 3 ≠ 2 := by decide
theorem ff_3_3 : fF 3 3 = false := rfl
theorem t_4_0 : fT 4 0 = 2 := rfl
theorem t_4_1 : fT 4 1 = 0 := rfl
theorem tn_4_1 : fT 4 1 ≠ 2 := by decide
theorem ff_4_1 : fF 4 1 = false := rfl
theorem t_4_2 : fT 4 2 = 0 := rfl
theorem tn_4_2 : fT 4 2 ≠ 2 := by decide
theorem ff_4_2 : fF 4 2 = false := rfl
theorem t_5_0 : fT 5 0 = 2 := rfl
theorem t_5_1 : fT 5 1 = 2 := rfl
theorem t_5_2 : fT 5 2 = 2 := rfl
theorem t_5_3 : fT 5 3 = 2 := rfl
theorem t_5_4 : fT 5 4 = 0 := rfl
theorem tn_5_4 : fT 5 4 ≠ 2 := by decide
theorem ff_5_4 : fF 5 4 = false := rfl
theorem t_6_0 : fT 6 0 = 2 := rfl
theorem t_6_1 : fT 6 1 = 2 := rfl
theorem t_6_2 : fT 6 2 = 2 := rfl
theorem t_6_3 : fT 6 3 = 2 := rfl
theorem t_6_4 : fT 6 4 = 2 := rfl
theorem t_6_5 : fT 6 5 = 2 := rfl
theorem b1_0 : b01 0 = true := by decide +kernel
theorem b1_1 : b01 1 = true := by decide +kernel
theorem GB_l0 (L : Nat) : (GB L).2.2.1 0 = (60, L) := by
  unfold GB
  have keep : ∀ (l : List (Nat × Nat × Nat × Nat)) (G : Gt), 0 < G.1 → (l.foldl apG G).2.2.1 0 = G.2.2.1 0 := by
    intro l
    induction l with
    | nil => intro G h; rfl
    | cons q t ih =>
      intro G h
      obtain ⟨z, x, y, c⟩ := q
      rw [List.foldl_cons]
      cases z with
      | zero => exact (ih (nG G x y) (Nat.succ_pos _)).trans (nG_kd G x y 0 (by omega))
      | succ z => exact (ih (uG G x y c) h).trans rfl
  rw [keep opsL (Gi L) (Nat.succ_pos 0)]
  rfl
theorem GG_l0 (L : Nat × Nat) : ln (GG L) 0 = L.1 := by
  unfold ln GG
  rw [xG_k _ _ _ (by rw [GB_n]; decide), GB_l0]
theorem nw_3 : (decide ((0:Int) ≤ (3 : Int32).toInt ∧ (3 : Int32).toInt ≤ 1000)) = true := by decide +kernel
