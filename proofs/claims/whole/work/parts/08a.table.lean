/-! words of the tables that instructions ask; the table of methods -/
theorem zw_1_89 : Cond.methodLink RX0 1 objectInit ∈ sx_U := sx_u1 89 rfl rfl
theorem zw_1_19 : Cond.instanceMethod objectInit ∈ sx_U := sx_u1 19 rfl rfl
theorem zw_1_20 : Cond.code objectInit ⟨#[0xb1]⟩ 1 none ∈ sx_U := sx_u1 20 rfl rfl
theorem zw_1_90 : Cond.classLink RX0 11 ("[" ++ (FieldType.array .int).toString) ∈ sx_U := sx_u1 90 rfl rfl
theorem zw_1_44 : Cond.arrayClass .int ∈ sx_U := sx_u1 44 rfl rfl
theorem zw_1_91 : Cond.fieldLink RX0 13 "SlateShop$Acts" "before" "[[I" ∈ sx_U := sx_u1 91 rfl rfl
theorem zw_1_92 : Cond.fieldLink RX0 16 "SlateShop$Acts" "next" "I" ∈ sx_U := sx_u1 92 rfl rfl
theorem zw_1_93 : Cond.fieldLink RX0 20 "SlateShop$Acts" "kept" "I" ∈ sx_U := sx_u1 93 rfl rfl
theorem zw_1_77 : Cond.fieldLink RX0 23 "SlateShop$Book" "sums" "[I" ∈ sx_U := sx_u1 77 rfl rfl
theorem zw_2_62 : Cond.methodLink RX0 27 arraycopyName ∈ sx_U := sx_u2 62 rfl rfl
theorem zw_1_211 : Cond.native arraycopyName ∈ sx_U := sx_u1 211 rfl rfl
theorem zw_1_210 : Cond.static arraycopyName ∈ sx_U := sx_u1 210 rfl rfl
theorem zw_1_9 : Cond.initialized "java/lang/System" ∈ sx_U := sx_u1 9 rfl rfl
theorem zw_2_76 : Cond.methodLink RX0 33 Lib.Math.min.name ∈ sx_U := sx_u2 76 rfl rfl
theorem zw_2_77 : Cond.static Lib.Math.min.name ∈ sx_U := sx_u2 77 rfl rfl
theorem zw_1_10 : Cond.initialized "java/lang/Math" ∈ sx_U := sx_u1 10 rfl rfl
theorem zw_2_78 : Cond.code Lib.Math.min.name Lib.Math.min.code 2 (some .int) ∈ sx_U := sx_u2 78 rfl rfl
theorem zw_1_120 : Cond.methodLink RX1 1 objectInit ∈ sx_U := sx_u1 120 rfl rfl
theorem zw_1_125 : Cond.fieldLink RX1 7 "SlateShop$Asks" "book" "LSlateShop$Book;" ∈ sx_U := sx_u1 125 rfl rfl
theorem zw_1_121 : Cond.fieldLink RX1 13 "SlateShop$Asks" "begun" "[I" ∈ sx_U := sx_u1 121 rfl rfl
theorem zw_1_123 : Cond.fieldLink RX1 17 "SlateShop$Asks" "traced" "I" ∈ sx_U := sx_u1 123 rfl rfl
theorem zw_1_76 : Cond.fieldLink RX1 21 "SlateShop$Book" "sums" "[I" ∈ sx_U := sx_u1 76 rfl rfl
theorem zw_3_99 : Cond.methodLink RX1 26 yX1_size11 ∈ sx_U := sx_u3 99 rfl rfl
theorem zw_3_102 : Cond.code yX1_size11 cX1_size11 3 (some .int) ∈ sx_U := sx_u3 102 rfl rfl
theorem zw_3_101 : Cond.instanceMethod yX1_size11 ∈ sx_U := sx_u3 101 rfl rfl
theorem zw_1_7 : Cond.initialized RX1 ∈ sx_U := sx_u1 7 rfl rfl
theorem zw_0_21 : Cond.selects RX1 yX1_size11 yX1_size11 ∈ sx_U := sx_u0 21 rfl rfl
theorem zw_3_127 : Cond.methodLink RX1 30 yX1_size12 ∈ sx_U := sx_u3 127 rfl rfl
theorem zw_3_130 : Cond.code yX1_size12 cX1_size12 2 (some .int) ∈ sx_U := sx_u3 130 rfl rfl
theorem zw_3_129 : Cond.instanceMethod yX1_size12 ∈ sx_U := sx_u3 129 rfl rfl
theorem zw_0_28 : Cond.selects RX1 yX1_size12 yX1_size12 ∈ sx_U := sx_u0 28 rfl rfl
theorem zw_3_131 : Cond.methodLink RX1 33 yX1_sizeOfTwice ∈ sx_U := sx_u3 131 rfl rfl
theorem zw_3_134 : Cond.code yX1_sizeOfTwice cX1_sizeOfTwice 2 (some .int) ∈ sx_U := sx_u3 134 rfl rfl
theorem zw_3_133 : Cond.instanceMethod yX1_sizeOfTwice ∈ sx_U := sx_u3 133 rfl rfl
theorem zw_0_29 : Cond.selects RX1 yX1_sizeOfTwice yX1_sizeOfTwice ∈ sx_U := sx_u0 29 rfl rfl
theorem zw_3_107 : Cond.methodLink RX1 36 yX1_size10 ∈ sx_U := sx_u3 107 rfl rfl
theorem zw_3_110 : Cond.code yX1_size10 cX1_size10 2 (some .int) ∈ sx_U := sx_u3 110 rfl rfl
theorem zw_3_109 : Cond.instanceMethod yX1_size10 ∈ sx_U := sx_u3 109 rfl rfl
theorem zw_0_23 : Cond.selects RX1 yX1_size10 yX1_size10 ∈ sx_U := sx_u0 23 rfl rfl
theorem zw_3_111 : Cond.methodLink RX1 39 yX1_markOfSteady ∈ sx_U := sx_u3 111 rfl rfl
theorem zw_3_114 : Cond.code yX1_markOfSteady cX1_markOfSteady 2 (some .int) ∈ sx_U := sx_u3 114 rfl rfl
theorem zw_3_113 : Cond.instanceMethod yX1_markOfSteady ∈ sx_U := sx_u3 113 rfl rfl
theorem zw_0_24 : Cond.selects RX1 yX1_markOfSteady yX1_markOfSteady ∈ sx_U := sx_u0 24 rfl rfl
theorem zw_3_147 : Cond.methodLink RX1 42 yX1_mark23 ∈ sx_U := sx_u3 147 rfl rfl
theorem zw_3_150 : Cond.code yX1_mark23 cX1_mark23 3 (some .int) ∈ sx_U := sx_u3 150 rfl rfl
theorem zw_3_149 : Cond.instanceMethod yX1_mark23 ∈ sx_U := sx_u3 149 rfl rfl
theorem zw_0_32 : Cond.selects RX1 yX1_mark23 yX1_mark23 ∈ sx_U := sx_u0 32 rfl rfl
theorem zw_3_151 : Cond.methodLink RX1 45 yX1_mark20 ∈ sx_U := sx_u3 151 rfl rfl
theorem zw_3_154 : Cond.code yX1_mark20 cX1_mark20 2 (some .int) ∈ sx_U := sx_u3 154 rfl rfl
theorem zw_3_153 : Cond.instanceMethod yX1_mark20 ∈ sx_U := sx_u3 153 rfl rfl
theorem zw_0_33 : Cond.selects RX1 yX1_mark20 yX1_mark20 ∈ sx_U := sx_u0 33 rfl rfl
theorem zw_3_115 : Cond.methodLink RX1 48 yX1_mark22 ∈ sx_U := sx_u3 115 rfl rfl
theorem zw_3_118 : Cond.code yX1_mark22 cX1_mark22 2 (some .int) ∈ sx_U := sx_u3 118 rfl rfl
theorem zw_3_117 : Cond.instanceMethod yX1_mark22 ∈ sx_U := sx_u3 117 rfl rfl
theorem zw_0_25 : Cond.selects RX1 yX1_mark22 yX1_mark22 ∈ sx_U := sx_u0 25 rfl rfl
theorem zw_3_123 : Cond.methodLink RX1 51 yX1_mark24 ∈ sx_U := sx_u3 123 rfl rfl
theorem zw_3_126 : Cond.code yX1_mark24 cX1_mark24 2 (some .int) ∈ sx_U := sx_u3 126 rfl rfl
theorem zw_3_125 : Cond.instanceMethod yX1_mark24 ∈ sx_U := sx_u3 125 rfl rfl
theorem zw_0_27 : Cond.selects RX1 yX1_mark24 yX1_mark24 ∈ sx_U := sx_u0 27 rfl rfl
theorem zw_3_119 : Cond.methodLink RX1 54 yX1_mark21 ∈ sx_U := sx_u3 119 rfl rfl
theorem zw_3_122 : Cond.code yX1_mark21 cX1_mark21 2 (some .int) ∈ sx_U := sx_u3 122 rfl rfl
theorem zw_3_121 : Cond.instanceMethod yX1_mark21 ∈ sx_U := sx_u3 121 rfl rfl
theorem zw_0_26 : Cond.selects RX1 yX1_mark21 yX1_mark21 ∈ sx_U := sx_u0 26 rfl rfl
theorem zw_3_135 : Cond.methodLink RX1 57 yX1_size14 ∈ sx_U := sx_u3 135 rfl rfl
theorem zw_3_138 : Cond.code yX1_size14 cX1_size14 2 (some .int) ∈ sx_U := sx_u3 138 rfl rfl
theorem zw_3_137 : Cond.instanceMethod yX1_size14 ∈ sx_U := sx_u3 137 rfl rfl
theorem zw_0_30 : Cond.selects RX1 yX1_size14 yX1_size14 ∈ sx_U := sx_u0 30 rfl rfl
theorem zw_3_139 : Cond.methodLink RX1 60 yX1_size13 ∈ sx_U := sx_u3 139 rfl rfl
theorem zw_3_142 : Cond.code yX1_size13 cX1_size13 2 (some .int) ∈ sx_U := sx_u3 142 rfl rfl
theorem zw_3_141 : Cond.instanceMethod yX1_size13 ∈ sx_U := sx_u3 141 rfl rfl
theorem zw_0_31 : Cond.selects RX1 yX1_size13 yX1_size13 ∈ sx_U := sx_u0 31 rfl rfl
theorem zw_3_103 : Cond.methodLink RX1 63 yX1_begin ∈ sx_U := sx_u3 103 rfl rfl
theorem zw_3_106 : Cond.code yX1_begin cX1_begin 2 none ∈ sx_U := sx_u3 106 rfl rfl
theorem zw_3_105 : Cond.instanceMethod yX1_begin ∈ sx_U := sx_u3 105 rfl rfl
theorem zw_0_22 : Cond.selects RX1 yX1_begin yX1_begin ∈ sx_U := sx_u0 22 rfl rfl
theorem zw_1_74 : Cond.methodLink RX2 3 objectInit ∈ sx_U := sx_u1 74 rfl rfl
theorem zw_1_75 : Cond.fieldLink RX2 11 "SlateShop$Book" "sums" "[I" ∈ sx_U := sx_u1 75 rfl rfl
theorem zw_2_44 : Cond.methodLink RX2 15 arraycopyName ∈ sx_U := sx_u2 44 rfl rfl
theorem zw_2_91 : Cond.methodLink RX2 21 yX2_has ∈ sx_U := sx_u2 91 rfl rfl
theorem zw_2_94 : Cond.code yX2_has cX2_has 2 (some .boolean) ∈ sx_U := sx_u2 94 rfl rfl
theorem zw_2_92 : Cond.instanceMethod yX2_has ∈ sx_U := sx_u2 92 rfl rfl
theorem zw_1_4 : Cond.initialized RX2 ∈ sx_U := sx_u1 4 rfl rfl
theorem zw_2_93 : Cond.selects RX2 yX2_has yX2_has ∈ sx_U := sx_u2 93 rfl rfl
theorem zw_3_87 : Cond.methodLink RX2 25 yX2_nearestKind ∈ sx_U := sx_u3 87 rfl rfl
theorem zw_3_89 : Cond.code yX2_nearestKind cX2_nearestKind 1 (some .int) ∈ sx_U := sx_u3 89 rfl rfl
theorem zw_3_88 : Cond.static yX2_nearestKind ∈ sx_U := sx_u3 88 rfl rfl
theorem zw_2_83 : Cond.methodLink RX2 29 yX2_takeAll ∈ sx_U := sx_u2 83 rfl rfl
theorem zw_2_86 : Cond.code yX2_takeAll cX2_takeAll 2 none ∈ sx_U := sx_u2 86 rfl rfl
theorem zw_2_85 : Cond.instanceMethod yX2_takeAll ∈ sx_U := sx_u2 85 rfl rfl
theorem zw_0_8 : Cond.selects RX2 yX2_takeAll yX2_takeAll ∈ sx_U := sx_u0 8 rfl rfl
theorem zw_2_103 : Cond.methodLink RX2 32 yX2_payAll ∈ sx_U := sx_u2 103 rfl rfl
theorem zw_2_106 : Cond.code yX2_payAll cX2_payAll 3 (some .int) ∈ sx_U := sx_u2 106 rfl rfl
theorem zw_2_105 : Cond.instanceMethod yX2_payAll ∈ sx_U := sx_u2 105 rfl rfl
theorem zw_0_10 : Cond.selects RX2 yX2_payAll yX2_payAll ∈ sx_U := sx_u0 10 rfl rfl
theorem zw_2_87 : Cond.methodLink RX2 36 yX2_comes ∈ sx_U := sx_u2 87 rfl rfl
theorem zw_2_90 : Cond.code yX2_comes cX2_comes 2 (some .boolean) ∈ sx_U := sx_u2 90 rfl rfl
theorem zw_2_88 : Cond.instanceMethod yX2_comes ∈ sx_U := sx_u2 88 rfl rfl
theorem zw_2_89 : Cond.selects RX2 yX2_comes yX2_comes ∈ sx_U := sx_u2 89 rfl rfl
theorem zw_2_95 : Cond.methodLink RX2 39 yX2_take ∈ sx_U := sx_u2 95 rfl rfl
theorem zw_2_98 : Cond.code yX2_take cX2_take 4 none ∈ sx_U := sx_u2 98 rfl rfl
theorem zw_2_97 : Cond.instanceMethod yX2_take ∈ sx_U := sx_u2 97 rfl rfl
theorem zw_0_9 : Cond.selects RX2 yX2_take yX2_take ∈ sx_U := sx_u0 9 rfl rfl
theorem zw_2_99 : Cond.methodLink RX2 43 Lib.Math.max.name ∈ sx_U := sx_u2 99 rfl rfl
theorem zw_2_100 : Cond.static Lib.Math.max.name ∈ sx_U := sx_u2 100 rfl rfl
theorem zw_2_101 : Cond.code Lib.Math.max.name Lib.Math.max.code 2 (some .int) ∈ sx_U := sx_u2 101 rfl rfl
theorem zw_2_102 : Cond.methodLink RX2 49 Lib.Math.min.name ∈ sx_U := sx_u2 102 rfl rfl
theorem zw_2_107 : Cond.methodLink RX2 52 yX2_makesOff ∈ sx_U := sx_u2 107 rfl rfl
theorem zw_2_110 : Cond.code yX2_makesOff cX2_makesOff 3 (some .boolean) ∈ sx_U := sx_u2 110 rfl rfl
theorem zw_2_109 : Cond.instanceMethod yX2_makesOff ∈ sx_U := sx_u2 109 rfl rfl
theorem zw_0_11 : Cond.selects RX2 yX2_makesOff yX2_makesOff ∈ sx_U := sx_u0 11 rfl rfl
theorem zw_2_111 : Cond.methodLink RX2 55 yX2_pay ∈ sx_U := sx_u2 111 rfl rfl
theorem zw_2_114 : Cond.code yX2_pay cX2_pay 5 (some .int) ∈ sx_U := sx_u2 114 rfl rfl
theorem zw_2_113 : Cond.instanceMethod yX2_pay ∈ sx_U := sx_u2 113 rfl rfl
theorem zw_0_12 : Cond.selects RX2 yX2_pay yX2_pay ∈ sx_U := sx_u0 12 rfl rfl
theorem zw_2_115 : Cond.methodLink RX2 58 yX2_spared ∈ sx_U := sx_u2 115 rfl rfl
theorem zw_2_118 : Cond.code yX2_spared cX2_spared 3 (some .int) ∈ sx_U := sx_u2 118 rfl rfl
theorem zw_2_117 : Cond.instanceMethod yX2_spared ∈ sx_U := sx_u2 117 rfl rfl
theorem zw_0_13 : Cond.selects RX2 yX2_spared yX2_spared ∈ sx_U := sx_u0 13 rfl rfl
theorem zw_3_27 : Cond.methodLink RX2 61 yX2_aheadOf ∈ sx_U := sx_u3 27 rfl rfl
theorem zw_3_30 : Cond.code yX2_aheadOf cX2_aheadOf 5 (some .int) ∈ sx_U := sx_u3 30 rfl rfl
theorem zw_3_29 : Cond.instanceMethod yX2_aheadOf ∈ sx_U := sx_u3 29 rfl rfl
theorem zw_0_20 : Cond.selects RX2 yX2_aheadOf yX2_aheadOf ∈ sx_U := sx_u0 20 rfl rfl
theorem zw_3_31 : Cond.constant RX2 64 (-1000000) ∈ sx_U := sx_u3 31 rfl rfl
theorem zw_3_45 : Cond.methodLink RX3 9 yX3_choices ∈ sx_U := sx_u3 45 rfl rfl
theorem zw_3_47 : Cond.code yX3_choices cX3_choices 5 (some .long) ∈ sx_U := sx_u3 47 rfl rfl
theorem zw_3_46 : Cond.static yX3_choices ∈ sx_U := sx_u3 46 rfl rfl
theorem zw_1_12 : Cond.initialized RX3 ∈ sx_U := sx_u1 12 rfl rfl
theorem zw_3_48 : Cond.methodLink RX3 15 yX3_power ∈ sx_U := sx_u3 48 rfl rfl
theorem zw_3_50 : Cond.code yX3_power cX3_power 5 (some .long) ∈ sx_U := sx_u3 50 rfl rfl
theorem zw_3_49 : Cond.static yX3_power ∈ sx_U := sx_u3 49 rfl rfl
theorem zw_3_51 : Cond.methodLink RX3 18 yX3_commonDivisor ∈ sx_U := sx_u3 51 rfl rfl
theorem zw_3_53 : Cond.code yX3_commonDivisor cX3_commonDivisor 7 (some .long) ∈ sx_U := sx_u3 53 rfl rfl
theorem zw_3_52 : Cond.static yX3_commonDivisor ∈ sx_U := sx_u3 52 rfl rfl
theorem zw_3_54 : Cond.constantLong RX3 22 (-1000001) ∈ sx_U := sx_u3 54 rfl rfl
theorem zw_1_107 : Cond.methodLink RX4 3 objectInit ∈ sx_U := sx_u1 107 rfl rfl
theorem zw_1_108 : Cond.fieldLink RX4 9 "SlateShop$Foretold" "now" "LSlateShop$Book;" ∈ sx_U := sx_u1 108 rfl rfl
theorem zw_1_109 : Cond.fieldLink RX4 15 "SlateShop$Foretold" "then" "LSlateShop$Book;" ∈ sx_U := sx_u1 109 rfl rfl
theorem zw_2_164 : Cond.methodLink RX4 18 yX2_becomes ∈ sx_U := sx_u2 164 rfl rfl
theorem zw_2_43 : Cond.code yX2_becomes cX2_becomes 2 none ∈ sx_U := sx_u2 43 rfl rfl
theorem zw_2_41 : Cond.instanceMethod yX2_becomes ∈ sx_U := sx_u2 41 rfl rfl
theorem zw_2_42 : Cond.selects RX2 yX2_becomes yX2_becomes ∈ sx_U := sx_u2 42 rfl rfl
theorem zw_2_165 : Cond.methodLink RX4 24 yX4_pass ∈ sx_U := sx_u2 165 rfl rfl
theorem zw_2_168 : Cond.code yX4_pass cX4_pass 3 none ∈ sx_U := sx_u2 168 rfl rfl
theorem zw_2_167 : Cond.instanceMethod yX4_pass ∈ sx_U := sx_u2 167 rfl rfl
theorem zw_1_6 : Cond.initialized RX4 ∈ sx_U := sx_u1 6 rfl rfl
theorem zw_0_15 : Cond.selects RX4 yX4_pass yX4_pass ∈ sx_U := sx_u0 15 rfl rfl
theorem zw_2_169 : Cond.methodLink RX4 28 yX2_passWeek ∈ sx_U := sx_u2 169 rfl rfl
theorem zw_2_82 : Cond.code yX2_passWeek cX2_passWeek 2 (some .int) ∈ sx_U := sx_u2 82 rfl rfl
theorem zw_2_80 : Cond.instanceMethod yX2_passWeek ∈ sx_U := sx_u2 80 rfl rfl
theorem zw_2_81 : Cond.selects RX2 yX2_passWeek yX2_passWeek ∈ sx_U := sx_u2 81 rfl rfl
theorem zw_1_78 : Cond.fieldLink RX4 32 "SlateShop$Book" "sums" "[I" ∈ sx_U := sx_u1 78 rfl rfl
theorem zw_2_182 : Cond.constant RX4 36 (-1000000) ∈ sx_U := sx_u2 182 rfl rfl
theorem zw_2_191 : Cond.methodLink RX4 37 yX2_worth ∈ sx_U := sx_u2 191 rfl rfl
theorem zw_2_194 : Cond.code yX2_worth cX2_worth 1 (some .int) ∈ sx_U := sx_u2 194 rfl rfl
theorem zw_2_192 : Cond.instanceMethod yX2_worth ∈ sx_U := sx_u2 192 rfl rfl
theorem zw_2_193 : Cond.selects RX2 yX2_worth yX2_worth ∈ sx_U := sx_u2 193 rfl rfl
theorem zw_3_2 : Cond.methodLink RX4 40 yX4_grown ∈ sx_U := sx_u3 2 rfl rfl
theorem zw_3_5 : Cond.code yX4_grown cX4_grown 2 (some .int) ∈ sx_U := sx_u3 5 rfl rfl
theorem zw_3_4 : Cond.instanceMethod yX4_grown ∈ sx_U := sx_u3 4 rfl rfl
theorem zw_0_18 : Cond.selects RX4 yX4_grown yX4_grown ∈ sx_U := sx_u0 18 rfl rfl
theorem zw_2_203 : Cond.methodLink RX4 44 yX4_giveOnlyTo ∈ sx_U := sx_u2 203 rfl rfl
theorem zw_2_206 : Cond.code yX4_giveOnlyTo cX4_giveOnlyTo 4 none ∈ sx_U := sx_u2 206 rfl rfl
theorem zw_2_205 : Cond.instanceMethod yX4_giveOnlyTo ∈ sx_U := sx_u2 205 rfl rfl
theorem zw_0_16 : Cond.selects RX4 yX4_giveOnlyTo yX4_giveOnlyTo ∈ sx_U := sx_u0 16 rfl rfl
theorem zw_2_207 : Cond.methodLink RX4 48 yJ6_bitCount_0f7a4 ∈ sx_U := sx_u2 207 rfl rfl
theorem zw_2_209 : Cond.code yJ6_bitCount_0f7a4 cJ6_bitCount_0f7a4 1 (some .int) ∈ sx_U := sx_u2 209 rfl rfl
theorem zw_2_208 : Cond.static yJ6_bitCount_0f7a4 ∈ sx_U := sx_u2 208 rfl rfl
theorem zw_1_11 : Cond.initialized RJ6 ∈ sx_U := sx_u1 11 rfl rfl
theorem zw_2_221 : Cond.methodLink RX4 53 yX4_lasts ∈ sx_U := sx_u2 221 rfl rfl
theorem zw_2_224 : Cond.code yX4_lasts cX4_lasts 4 (some .boolean) ∈ sx_U := sx_u2 224 rfl rfl
theorem zw_2_223 : Cond.instanceMethod yX4_lasts ∈ sx_U := sx_u2 223 rfl rfl
theorem zw_0_17 : Cond.selects RX4 yX4_lasts yX4_lasts ∈ sx_U := sx_u0 17 rfl rfl
theorem zw_3_15 : Cond.methodLink RX4 57 yX4_paysAsTold ∈ sx_U := sx_u3 15 rfl rfl
theorem zw_3_18 : Cond.code yX4_paysAsTold cX4_paysAsTold 7 (some .boolean) ∈ sx_U := sx_u3 18 rfl rfl
theorem zw_3_17 : Cond.instanceMethod yX4_paysAsTold ∈ sx_U := sx_u3 17 rfl rfl
theorem zw_0_19 : Cond.selects RX4 yX4_paysAsTold yX4_paysAsTold ∈ sx_U := sx_u0 19 rfl rfl
theorem zw_3_64 : Cond.constantLong RX4 61 (16807) ∈ sx_U := sx_u3 64 rfl rfl
theorem zw_3_65 : Cond.constantLong RX4 63 (2147483647) ∈ sx_U := sx_u3 65 rfl rfl
theorem zw_3_66 : Cond.constantLong RX4 65 (10) ∈ sx_U := sx_u3 66 rfl rfl
theorem zw_3_67 : Cond.constantLong RX4 67 (5) ∈ sx_U := sx_u3 67 rfl rfl
theorem zw_1_26 : Cond.methodLink RX5 1 objectInit ∈ sx_U := sx_u1 26 rfl rfl
theorem zw_1_27 : Cond.classLink RX5 9 ("[" ++ (FieldType.array .int).toString) ∈ sx_U := sx_u1 27 rfl rfl
theorem zw_1_29 : Cond.fieldLink RX5 11 "SlateShop$Rows" "items" "[[I" ∈ sx_U := sx_u1 29 rfl rfl
theorem zw_1_31 : Cond.fieldLink RX5 14 "SlateShop$Rows" "lanes" "[I" ∈ sx_U := sx_u1 31 rfl rfl
theorem zw_1_32 : Cond.fieldLink RX5 18 "SlateShop$Rows" "sizes" "[I" ∈ sx_U := sx_u1 32 rfl rfl
theorem zw_1_33 : Cond.fieldLink RX5 21 "SlateShop$Rows" "found" "I" ∈ sx_U := sx_u1 33 rfl rfl
theorem zw_1_181 : Cond.constant RX5 25 (-1000010) ∈ sx_U := sx_u1 181 rfl rfl
theorem zw_1_177 : Cond.methodLink RX5 26 yX5_find ∈ sx_U := sx_u1 177 rfl rfl
theorem zw_1_180 : Cond.code yX5_find cX5_find 2 (some .int) ∈ sx_U := sx_u1 180 rfl rfl
theorem zw_1_178 : Cond.instanceMethod yX5_find ∈ sx_U := sx_u1 178 rfl rfl
theorem zw_1_2 : Cond.initialized RX5 ∈ sx_U := sx_u1 2 rfl rfl
theorem zw_1_179 : Cond.selects RX5 yX5_find yX5_find ∈ sx_U := sx_u1 179 rfl rfl
theorem zw_1_190 : Cond.methodLink RX5 30 yX5_look ∈ sx_U := sx_u1 190 rfl rfl
theorem zw_1_193 : Cond.code yX5_look cX5_look 4 (some .int) ∈ sx_U := sx_u1 193 rfl rfl
theorem zw_1_191 : Cond.instanceMethod yX5_look ∈ sx_U := sx_u1 191 rfl rfl
theorem zw_1_192 : Cond.selects RX5 yX5_look yX5_look ∈ sx_U := sx_u1 192 rfl rfl
theorem zw_1_198 : Cond.methodLink RX5 34 yX5_narrowed ∈ sx_U := sx_u1 198 rfl rfl
theorem zw_1_200 : Cond.code yX5_narrowed cX5_narrowed 2 (some .int) ∈ sx_U := sx_u1 200 rfl rfl
theorem zw_1_199 : Cond.static yX5_narrowed ∈ sx_U := sx_u1 199 rfl rfl
theorem zw_1_194 : Cond.methodLink RX5 38 yX5_fits ∈ sx_U := sx_u1 194 rfl rfl
theorem zw_1_197 : Cond.code yX5_fits cX5_fits 4 (some .boolean) ∈ sx_U := sx_u1 197 rfl rfl
theorem zw_1_196 : Cond.instanceMethod yX5_fits ∈ sx_U := sx_u1 196 rfl rfl
theorem zw_0_0 : Cond.selects RX5 yX5_fits yX5_fits ∈ sx_U := sx_u0 0 rfl rfl
theorem zw_1_209 : Cond.methodLink RX5 42 arraycopyName ∈ sx_U := sx_u1 209 rfl rfl
theorem zw_1_50 : Cond.methodLink RX6 3 objectInit ∈ sx_U := sx_u1 50 rfl rfl
theorem zw_1_51 : Cond.fieldLink RX6 11 "SlateShop$Tape" "letters" "[I" ∈ sx_U := sx_u1 51 rfl rfl
theorem zw_1_52 : Cond.fieldLink RX6 15 "SlateShop$Tape" "length" "I" ∈ sx_U := sx_u1 52 rfl rfl
theorem zw_1_54 : Cond.fieldLink RX6 19 "SlateShop$Tape" "place" "I" ∈ sx_U := sx_u1 54 rfl rfl
theorem zw_1_56 : Cond.fieldLink RX6 22 "SlateShop$Tape" "step" "I" ∈ sx_U := sx_u1 56 rfl rfl
theorem zw_1_57 : Cond.fieldLink RX6 25 "SlateShop$Tape" "part" "I" ∈ sx_U := sx_u1 57 rfl rfl
theorem zw_1_228 : Cond.constant RX6 28 (-1000003) ∈ sx_U := sx_u1 228 rfl rfl
theorem zw_1_237 : Cond.methodLink RX6 29 yX2_clear ∈ sx_U := sx_u1 237 rfl rfl
theorem zw_2_0 : Cond.code yX2_clear cX2_clear 2 none ∈ sx_U := sx_u2 0 rfl rfl
theorem zw_1_238 : Cond.instanceMethod yX2_clear ∈ sx_U := sx_u1 238 rfl rfl
theorem zw_1_239 : Cond.selects RX2 yX2_clear yX2_clear ∈ sx_U := sx_u1 239 rfl rfl
theorem zw_2_1 : Cond.methodLink RX6 34 yX6_readToken ∈ sx_U := sx_u2 1 rfl rfl
theorem zw_2_4 : Cond.code yX6_readToken cX6_readToken 2 (some .int) ∈ sx_U := sx_u2 4 rfl rfl
theorem zw_2_3 : Cond.instanceMethod yX6_readToken ∈ sx_U := sx_u2 3 rfl rfl
theorem zw_1_3 : Cond.initialized RX6 ∈ sx_U := sx_u1 3 rfl rfl
theorem zw_0_1 : Cond.selects RX6 yX6_readToken yX6_readToken ∈ sx_U := sx_u0 1 rfl rfl
theorem zw_2_5 : Cond.methodLink RX6 38 yX6_readLetter ∈ sx_U := sx_u2 5 rfl rfl
theorem zw_2_8 : Cond.code yX6_readLetter cX6_readLetter 4 (some .int) ∈ sx_U := sx_u2 8 rfl rfl
theorem zw_2_7 : Cond.instanceMethod yX6_readLetter ∈ sx_U := sx_u2 7 rfl rfl
theorem zw_0_2 : Cond.selects RX6 yX6_readLetter yX6_readLetter ∈ sx_U := sx_u0 2 rfl rfl
theorem zw_2_16 : Cond.methodLink RX6 41 yX6_readNumber ∈ sx_U := sx_u2 16 rfl rfl
theorem zw_2_19 : Cond.code yX6_readNumber cX6_readNumber 5 (some .int) ∈ sx_U := sx_u2 19 rfl rfl
theorem zw_2_18 : Cond.instanceMethod yX6_readNumber ∈ sx_U := sx_u2 18 rfl rfl
theorem zw_0_4 : Cond.selects RX6 yX6_readNumber yX6_readNumber ∈ sx_U := sx_u0 4 rfl rfl
theorem zw_2_9 : Cond.methodLink RX6 44 yX6_readSign ∈ sx_U := sx_u2 9 rfl rfl
theorem zw_2_12 : Cond.code yX6_readSign cX6_readSign 2 (some .int) ∈ sx_U := sx_u2 12 rfl rfl
theorem zw_2_11 : Cond.instanceMethod yX6_readSign ∈ sx_U := sx_u2 11 rfl rfl
theorem zw_0_3 : Cond.selects RX6 yX6_readSign yX6_readSign ∈ sx_U := sx_u0 3 rfl rfl
theorem zw_2_13 : Cond.methodLink RX6 48 yX6_kindOf ∈ sx_U := sx_u2 13 rfl rfl
theorem zw_2_15 : Cond.code yX6_kindOf cX6_kindOf 1 (some .int) ∈ sx_U := sx_u2 15 rfl rfl
theorem zw_2_14 : Cond.static yX6_kindOf ∈ sx_U := sx_u2 14 rfl rfl
theorem zw_1_79 : Cond.fieldLink RX6 52 "SlateShop$Book" "sums" "[I" ∈ sx_U := sx_u1 79 rfl rfl
theorem zw_2_20 : Cond.methodLink RX6 55 yX6_isFigure ∈ sx_U := sx_u2 20 rfl rfl
theorem zw_2_22 : Cond.code yX6_isFigure cX6_isFigure 1 (some .boolean) ∈ sx_U := sx_u2 22 rfl rfl
theorem zw_2_21 : Cond.static yX6_isFigure ∈ sx_U := sx_u2 21 rfl rfl
theorem zw_2_23 : Cond.methodLink RX6 59 yX6_leastTold ∈ sx_U := sx_u2 23 rfl rfl
theorem zw_2_26 : Cond.code yX6_leastTold cX6_leastTold 1 (some .int) ∈ sx_U := sx_u2 26 rfl rfl
theorem zw_2_25 : Cond.instanceMethod yX6_leastTold ∈ sx_U := sx_u2 25 rfl rfl
theorem zw_0_5 : Cond.selects RX6 yX6_leastTold yX6_leastTold ∈ sx_U := sx_u0 5 rfl rfl
theorem zw_2_27 : Cond.methodLink RX6 63 yX6_mostTold ∈ sx_U := sx_u2 27 rfl rfl
theorem zw_2_30 : Cond.code yX6_mostTold cX6_mostTold 1 (some .int) ∈ sx_U := sx_u2 30 rfl rfl
theorem zw_2_29 : Cond.instanceMethod yX6_mostTold ∈ sx_U := sx_u2 29 rfl rfl
theorem zw_0_6 : Cond.selects RX6 yX6_mostTold yX6_mostTold ∈ sx_U := sx_u0 6 rfl rfl
theorem zw_2_31 : Cond.methodLink RX6 66 yX6_placeTold ∈ sx_U := sx_u2 31 rfl rfl
theorem zw_2_34 : Cond.code yX6_placeTold cX6_placeTold 2 (some .int) ∈ sx_U := sx_u2 34 rfl rfl
theorem zw_2_33 : Cond.instanceMethod yX6_placeTold ∈ sx_U := sx_u2 33 rfl rfl
theorem zw_0_7 : Cond.selects RX6 yX6_placeTold yX6_placeTold ∈ sx_U := sx_u0 7 rfl rfl
theorem zw_1_18 : Cond.methodLink RX7 1 objectInit ∈ sx_U := sx_u1 18 rfl rfl
theorem zw_1_21 : Cond.classLink RX7 7 RX5 ∈ sx_U := sx_u1 21 rfl rfl
theorem zw_1_22 : Cond.instantiable RX5 4 ∈ sx_U := sx_u1 22 rfl rfl
theorem zw_1_23 : Cond.methodLink RX7 9 yX5_init ∈ sx_U := sx_u1 23 rfl rfl
theorem zw_1_25 : Cond.code yX5_init cX5_init 2 none ∈ sx_U := sx_u1 25 rfl rfl
theorem zw_1_24 : Cond.instanceMethod yX5_init ∈ sx_U := sx_u1 24 rfl rfl
theorem zw_1_134 : Cond.fieldLink RX7 10 "SlateShop" "rows" "LSlateShop$Rows;" ∈ sx_U := sx_u1 134 rfl rfl
theorem zw_1_45 : Cond.classLink RX7 16 RX6 ∈ sx_U := sx_u1 45 rfl rfl
theorem zw_1_46 : Cond.instantiable RX6 5 ∈ sx_U := sx_u1 46 rfl rfl
theorem zw_1_47 : Cond.methodLink RX7 18 yX6_init ∈ sx_U := sx_u1 47 rfl rfl
theorem zw_1_49 : Cond.code yX6_init cX6_init 1 none ∈ sx_U := sx_u1 49 rfl rfl
theorem zw_1_48 : Cond.instanceMethod yX6_init ∈ sx_U := sx_u1 48 rfl rfl
theorem zw_1_135 : Cond.fieldLink RX7 19 "SlateShop" "tape" "LSlateShop$Tape;" ∈ sx_U := sx_u1 135 rfl rfl
theorem zw_1_69 : Cond.classLink RX7 23 RX2 ∈ sx_U := sx_u1 69 rfl rfl
theorem zw_1_70 : Cond.instantiable RX2 1 ∈ sx_U := sx_u1 70 rfl rfl
theorem zw_1_71 : Cond.methodLink RX7 25 yX2_init ∈ sx_U := sx_u1 71 rfl rfl
theorem zw_1_73 : Cond.code yX2_init cX2_init 1 none ∈ sx_U := sx_u1 73 rfl rfl
theorem zw_1_72 : Cond.instanceMethod yX2_init ∈ sx_U := sx_u1 72 rfl rfl
theorem zw_1_136 : Cond.fieldLink RX7 26 "SlateShop" "book" "LSlateShop$Book;" ∈ sx_U := sx_u1 136 rfl rfl
theorem zw_1_137 : Cond.fieldLink RX7 30 "SlateShop" "spare" "LSlateShop$Book;" ∈ sx_U := sx_u1 137 rfl rfl
theorem zw_1_84 : Cond.classLink RX7 33 RX0 ∈ sx_U := sx_u1 84 rfl rfl
theorem zw_1_85 : Cond.instantiable RX0 3 ∈ sx_U := sx_u1 85 rfl rfl
theorem zw_1_5 : Cond.initialized RX0 ∈ sx_U := sx_u1 5 rfl rfl
theorem zw_1_86 : Cond.methodLink RX7 35 yX0_init ∈ sx_U := sx_u1 86 rfl rfl
theorem zw_1_88 : Cond.code yX0_init cX0_init 1 none ∈ sx_U := sx_u1 88 rfl rfl
theorem zw_1_87 : Cond.instanceMethod yX0_init ∈ sx_U := sx_u1 87 rfl rfl
theorem zw_1_138 : Cond.fieldLink RX7 36 "SlateShop" "acts" "LSlateShop$Acts;" ∈ sx_U := sx_u1 138 rfl rfl
theorem zw_1_102 : Cond.classLink RX7 40 RX4 ∈ sx_U := sx_u1 102 rfl rfl
theorem zw_1_103 : Cond.instantiable RX4 2 ∈ sx_U := sx_u1 103 rfl rfl
theorem zw_1_104 : Cond.methodLink RX7 42 yX4_init ∈ sx_U := sx_u1 104 rfl rfl
theorem zw_1_106 : Cond.code yX4_init cX4_init 3 none ∈ sx_U := sx_u1 106 rfl rfl
theorem zw_1_105 : Cond.instanceMethod yX4_init ∈ sx_U := sx_u1 105 rfl rfl
theorem zw_1_139 : Cond.fieldLink RX7 45 "SlateShop" "foretold" "LSlateShop$Foretold;" ∈ sx_U := sx_u1 139 rfl rfl
theorem zw_1_115 : Cond.classLink RX7 49 RX1 ∈ sx_U := sx_u1 115 rfl rfl
theorem zw_1_116 : Cond.instantiable RX1 3 ∈ sx_U := sx_u1 116 rfl rfl
theorem zw_1_117 : Cond.methodLink RX7 51 yX1_init ∈ sx_U := sx_u1 117 rfl rfl
theorem zw_1_119 : Cond.code yX1_init cX1_init 2 none ∈ sx_U := sx_u1 119 rfl rfl
theorem zw_1_118 : Cond.instanceMethod yX1_init ∈ sx_U := sx_u1 118 rfl rfl
theorem zw_1_140 : Cond.fieldLink RX7 54 "SlateShop" "asks" "LSlateShop$Asks;" ∈ sx_U := sx_u1 140 rfl rfl
theorem zw_1_141 : Cond.fieldLink RX7 58 "SlateShop" "images" "[LSlateShop$Book;" ∈ sx_U := sx_u1 141 rfl rfl
theorem zw_1_142 : Cond.fieldLink RX7 62 "SlateShop" "latestFault" "I" ∈ sx_U := sx_u1 142 rfl rfl
theorem zw_1_166 : Cond.methodLink RX7 66 yX5_isRow ∈ sx_U := sx_u1 166 rfl rfl
theorem zw_1_168 : Cond.code yX5_isRow cX5_isRow 1 (some .boolean) ∈ sx_U := sx_u1 168 rfl rfl
theorem zw_1_167 : Cond.static yX5_isRow ∈ sx_U := sx_u1 167 rfl rfl
theorem zw_1_169 : Cond.methodLink RX7 70 yX7_within ∈ sx_U := sx_u1 169 rfl rfl
theorem zw_1_171 : Cond.code yX7_within cX7_within 3 (some .boolean) ∈ sx_U := sx_u1 171 rfl rfl
theorem zw_1_170 : Cond.static yX7_within ∈ sx_U := sx_u1 170 rfl rfl
theorem zw_1_1 : Cond.initialized RX7 ∈ sx_U := sx_u1 1 rfl rfl
theorem zw_1_172 : Cond.constant RX7 74 (-1000001) ∈ sx_U := sx_u1 172 rfl rfl
theorem zw_1_173 : Cond.methodLink RX7 75 yX5_make ∈ sx_U := sx_u1 173 rfl rfl
theorem zw_1_176 : Cond.code yX5_make cX5_make 5 (some .int) ∈ sx_U := sx_u1 176 rfl rfl
theorem zw_1_174 : Cond.instanceMethod yX5_make ∈ sx_U := sx_u1 174 rfl rfl
theorem zw_1_175 : Cond.selects RX5 yX5_make yX5_make ∈ sx_U := sx_u1 175 rfl rfl
theorem zw_1_186 : Cond.methodLink RX7 79 yX5_put ∈ sx_U := sx_u1 186 rfl rfl
theorem zw_1_189 : Cond.code yX5_put cX5_put 5 (some .int) ∈ sx_U := sx_u1 189 rfl rfl
theorem zw_1_187 : Cond.instanceMethod yX5_put ∈ sx_U := sx_u1 187 rfl rfl
theorem zw_1_188 : Cond.selects RX5 yX5_put yX5_put ∈ sx_U := sx_u1 188 rfl rfl
theorem zw_1_205 : Cond.methodLink RX7 82 yX5_carry ∈ sx_U := sx_u1 205 rfl rfl
theorem zw_1_208 : Cond.code yX5_carry cX5_carry 6 (some .int) ∈ sx_U := sx_u1 208 rfl rfl
theorem zw_1_206 : Cond.instanceMethod yX5_carry ∈ sx_U := sx_u1 206 rfl rfl
theorem zw_1_207 : Cond.selects RX5 yX5_carry yX5_carry ∈ sx_U := sx_u1 207 rfl rfl
theorem zw_1_216 : Cond.methodLink RX7 86 yX5_lose ∈ sx_U := sx_u1 216 rfl rfl
theorem zw_1_219 : Cond.code yX5_lose cX5_lose 3 (some .int) ∈ sx_U := sx_u1 219 rfl rfl
theorem zw_1_217 : Cond.instanceMethod yX5_lose ∈ sx_U := sx_u1 217 rfl rfl
theorem zw_1_218 : Cond.selects RX5 yX5_lose yX5_lose ∈ sx_U := sx_u1 218 rfl rfl
theorem zw_1_224 : Cond.methodLink RX7 90 yX6_add ∈ sx_U := sx_u1 224 rfl rfl
theorem zw_1_227 : Cond.code yX6_add cX6_add 2 (some .int) ∈ sx_U := sx_u1 227 rfl rfl
theorem zw_1_225 : Cond.instanceMethod yX6_add ∈ sx_U := sx_u1 225 rfl rfl
theorem zw_1_226 : Cond.selects RX6 yX6_add yX6_add ∈ sx_U := sx_u1 226 rfl rfl
theorem zw_1_233 : Cond.methodLink RX7 93 yX6_read ∈ sx_U := sx_u1 233 rfl rfl
theorem zw_1_236 : Cond.code yX6_read cX6_read 4 (some .int) ∈ sx_U := sx_u1 236 rfl rfl
theorem zw_1_234 : Cond.instanceMethod yX6_read ∈ sx_U := sx_u1 234 rfl rfl
theorem zw_1_235 : Cond.selects RX6 yX6_read yX6_read ∈ sx_U := sx_u1 235 rfl rfl
theorem zw_1_55 : Cond.fieldLink RX7 97 "SlateShop$Tape" "place" "I" ∈ sx_U := sx_u1 55 rfl rfl
theorem zw_2_35 : Cond.methodLink RX7 100 yX6_empty ∈ sx_U := sx_u2 35 rfl rfl
theorem zw_2_38 : Cond.code yX6_empty cX6_empty 1 none ∈ sx_U := sx_u2 38 rfl rfl
theorem zw_2_36 : Cond.instanceMethod yX6_empty ∈ sx_U := sx_u2 36 rfl rfl
theorem zw_2_37 : Cond.selects RX6 yX6_empty yX6_empty ∈ sx_U := sx_u2 37 rfl rfl
theorem zw_2_39 : Cond.constant RX7 103 (-1000100) ∈ sx_U := sx_u2 39 rfl rfl
theorem zw_2_40 : Cond.methodLink RX7 104 yX2_becomes ∈ sx_U := sx_u2 40 rfl rfl
theorem zw_2_45 : Cond.methodLink RX7 107 yX0_forget ∈ sx_U := sx_u2 45 rfl rfl
theorem zw_2_48 : Cond.code yX0_forget cX0_forget 1 none ∈ sx_U := sx_u2 48 rfl rfl
theorem zw_2_46 : Cond.instanceMethod yX0_forget ∈ sx_U := sx_u2 46 rfl rfl
theorem zw_2_47 : Cond.selects RX0 yX0_forget yX0_forget ∈ sx_U := sx_u2 47 rfl rfl
theorem zw_1_80 : Cond.fieldLink RX7 110 "SlateShop$Book" "sums" "[I" ∈ sx_U := sx_u1 80 rfl rfl
theorem zw_1_94 : Cond.fieldLink RX7 114 "SlateShop$Acts" "kept" "I" ∈ sx_U := sx_u1 94 rfl rfl
theorem zw_2_57 : Cond.constant RX7 117 (-1000002) ∈ sx_U := sx_u2 57 rfl rfl
theorem zw_2_58 : Cond.methodLink RX7 118 yX0_takeBack ∈ sx_U := sx_u2 58 rfl rfl
theorem zw_2_61 : Cond.code yX0_takeBack cX0_takeBack 2 (some .int) ∈ sx_U := sx_u2 61 rfl rfl
theorem zw_2_59 : Cond.instanceMethod yX0_takeBack ∈ sx_U := sx_u2 59 rfl rfl
theorem zw_2_60 : Cond.selects RX0 yX0_takeBack yX0_takeBack ∈ sx_U := sx_u2 60 rfl rfl
theorem zw_2_67 : Cond.methodLink RX7 121 yX2_isThere ∈ sx_U := sx_u2 67 rfl rfl
theorem zw_2_70 : Cond.code yX2_isThere cX2_isThere 1 (some .boolean) ∈ sx_U := sx_u2 70 rfl rfl
theorem zw_2_68 : Cond.instanceMethod yX2_isThere ∈ sx_U := sx_u2 68 rfl rfl
theorem zw_2_69 : Cond.selects RX2 yX2_isThere yX2_isThere ∈ sx_U := sx_u2 69 rfl rfl
theorem zw_2_71 : Cond.constant RX7 125 (-1000003) ∈ sx_U := sx_u2 71 rfl rfl
theorem zw_2_72 : Cond.methodLink RX7 126 yX0_keep ∈ sx_U := sx_u2 72 rfl rfl
theorem zw_2_75 : Cond.code yX0_keep cX0_keep 2 none ∈ sx_U := sx_u2 75 rfl rfl
theorem zw_2_73 : Cond.instanceMethod yX0_keep ∈ sx_U := sx_u2 73 rfl rfl
theorem zw_2_74 : Cond.selects RX0 yX0_keep yX0_keep ∈ sx_U := sx_u2 74 rfl rfl
theorem zw_2_79 : Cond.methodLink RX7 129 yX2_passWeek ∈ sx_U := sx_u2 79 rfl rfl
theorem zw_2_123 : Cond.methodLink RX7 133 yX2_has ∈ sx_U := sx_u2 123 rfl rfl
theorem zw_2_124 : Cond.methodLink RX7 136 yX7_change ∈ sx_U := sx_u2 124 rfl rfl
theorem zw_2_127 : Cond.code yX7_change cX7_change 4 (some .int) ∈ sx_U := sx_u2 127 rfl rfl
theorem zw_2_126 : Cond.instanceMethod yX7_change ∈ sx_U := sx_u2 126 rfl rfl
theorem zw_0_14 : Cond.selects RX7 yX7_change yX7_change ∈ sx_U := sx_u0 14 rfl rfl
theorem zw_2_136 : Cond.methodLink RX7 140 yX2_lost ∈ sx_U := sx_u2 136 rfl rfl
theorem zw_2_139 : Cond.code yX2_lost cX2_lost 3 (some .int) ∈ sx_U := sx_u2 139 rfl rfl
theorem zw_2_137 : Cond.instanceMethod yX2_lost ∈ sx_U := sx_u2 137 rfl rfl
theorem zw_2_138 : Cond.selects RX2 yX2_lost yX2_lost ∈ sx_U := sx_u2 138 rfl rfl
theorem zw_2_152 : Cond.methodLink RX7 143 yX2_allDebts ∈ sx_U := sx_u2 152 rfl rfl
theorem zw_2_155 : Cond.code yX2_allDebts cX2_allDebts 3 (some .int) ∈ sx_U := sx_u2 155 rfl rfl
theorem zw_2_153 : Cond.instanceMethod yX2_allDebts ∈ sx_U := sx_u2 153 rfl rfl
theorem zw_2_154 : Cond.selects RX2 yX2_allDebts yX2_allDebts ∈ sx_U := sx_u2 154 rfl rfl
theorem zw_2_160 : Cond.methodLink RX7 146 yX4_look ∈ sx_U := sx_u2 160 rfl rfl
theorem zw_2_163 : Cond.code yX4_look cX4_look 2 none ∈ sx_U := sx_u2 163 rfl rfl
theorem zw_2_161 : Cond.instanceMethod yX4_look ∈ sx_U := sx_u2 161 rfl rfl
theorem zw_2_162 : Cond.selects RX4 yX4_look yX4_look ∈ sx_U := sx_u2 162 rfl rfl
theorem zw_2_178 : Cond.methodLink RX7 150 yX4_weeksUntilShut ∈ sx_U := sx_u2 178 rfl rfl
theorem zw_2_181 : Cond.code yX4_weeksUntilShut cX4_weeksUntilShut 3 (some .int) ∈ sx_U := sx_u2 181 rfl rfl
theorem zw_2_179 : Cond.instanceMethod yX4_weeksUntilShut ∈ sx_U := sx_u2 179 rfl rfl
theorem zw_2_180 : Cond.selects RX4 yX4_weeksUntilShut yX4_weeksUntilShut ∈ sx_U := sx_u2 180 rfl rfl
theorem zw_2_187 : Cond.methodLink RX7 153 yX4_stopForShop ∈ sx_U := sx_u2 187 rfl rfl
theorem zw_2_190 : Cond.code yX4_stopForShop cX4_stopForShop 8 (some .int) ∈ sx_U := sx_u2 190 rfl rfl
theorem zw_2_188 : Cond.instanceMethod yX4_stopForShop ∈ sx_U := sx_u2 188 rfl rfl
theorem zw_2_189 : Cond.selects RX4 yX4_stopForShop yX4_stopForShop ∈ sx_U := sx_u2 189 rfl rfl
theorem zw_2_199 : Cond.methodLink RX7 156 yX4_bestSet ∈ sx_U := sx_u2 199 rfl rfl
theorem zw_2_202 : Cond.code yX4_bestSet cX4_bestSet 9 (some .int) ∈ sx_U := sx_u2 202 rfl rfl
theorem zw_2_200 : Cond.instanceMethod yX4_bestSet ∈ sx_U := sx_u2 200 rfl rfl
theorem zw_2_201 : Cond.selects RX4 yX4_bestSet yX4_bestSet ∈ sx_U := sx_u2 201 rfl rfl
theorem zw_2_217 : Cond.methodLink RX7 159 yX4_longestStrike ∈ sx_U := sx_u2 217 rfl rfl
theorem zw_2_220 : Cond.code yX4_longestStrike cX4_longestStrike 2 (some .int) ∈ sx_U := sx_u2 220 rfl rfl
theorem zw_2_218 : Cond.instanceMethod yX4_longestStrike ∈ sx_U := sx_u2 218 rfl rfl
theorem zw_2_219 : Cond.selects RX4 yX4_longestStrike yX4_longestStrike ∈ sx_U := sx_u2 219 rfl rfl
theorem zw_2_229 : Cond.methodLink RX7 162 yX4_leastDearer ∈ sx_U := sx_u2 229 rfl rfl
theorem zw_2_232 : Cond.code yX4_leastDearer cX4_leastDearer 3 (some .int) ∈ sx_U := sx_u2 232 rfl rfl
theorem zw_2_230 : Cond.instanceMethod yX4_leastDearer ∈ sx_U := sx_u2 230 rfl rfl
theorem zw_2_231 : Cond.selects RX4 yX4_leastDearer yX4_leastDearer ∈ sx_U := sx_u2 231 rfl rfl
theorem zw_2_237 : Cond.methodLink RX7 165 yX2_comes ∈ sx_U := sx_u2 237 rfl rfl
theorem zw_2_238 : Cond.methodLink RX7 168 yX4_stopForRogue ∈ sx_U := sx_u2 238 rfl rfl
theorem zw_3_1 : Cond.code yX4_stopForRogue cX4_stopForRogue 8 (some .int) ∈ sx_U := sx_u3 1 rfl rfl
theorem zw_2_239 : Cond.instanceMethod yX4_stopForRogue ∈ sx_U := sx_u2 239 rfl rfl
theorem zw_3_0 : Cond.selects RX4 yX4_stopForRogue yX4_stopForRogue ∈ sx_U := sx_u3 0 rfl rfl
theorem zw_3_10 : Cond.methodLink RX7 171 yX5_look ∈ sx_U := sx_u3 10 rfl rfl
theorem zw_1_30 : Cond.fieldLink RX7 173 "SlateShop$Rows" "items" "[[I" ∈ sx_U := sx_u1 30 rfl rfl
theorem zw_3_11 : Cond.methodLink RX7 177 yX4_kindsThatPay ∈ sx_U := sx_u3 11 rfl rfl
theorem zw_3_14 : Cond.code yX4_kindsThatPay cX4_kindsThatPay 7 (some .int) ∈ sx_U := sx_u3 14 rfl rfl
theorem zw_3_12 : Cond.instanceMethod yX4_kindsThatPay ∈ sx_U := sx_u3 12 rfl rfl
theorem zw_3_13 : Cond.selects RX4 yX4_kindsThatPay yX4_kindsThatPay ∈ sx_U := sx_u3 13 rfl rfl
theorem zw_3_23 : Cond.methodLink RX7 181 yX2_owingMost ∈ sx_U := sx_u3 23 rfl rfl
theorem zw_3_26 : Cond.code yX2_owingMost cX2_owingMost 3 (some .int) ∈ sx_U := sx_u3 26 rfl rfl
theorem zw_3_24 : Cond.instanceMethod yX2_owingMost ∈ sx_U := sx_u3 24 rfl rfl
theorem zw_3_25 : Cond.selects RX2 yX2_owingMost yX2_owingMost ∈ sx_U := sx_u3 25 rfl rfl
theorem zw_3_36 : Cond.constantLong RX7 184 (-1000002) ∈ sx_U := sx_u3 36 rfl rfl
theorem zw_3_37 : Cond.methodLink RX7 186 yX2_howManyCome ∈ sx_U := sx_u3 37 rfl rfl
theorem zw_3_40 : Cond.code yX2_howManyCome cX2_howManyCome 3 (some .int) ∈ sx_U := sx_u3 40 rfl rfl
theorem zw_3_38 : Cond.instanceMethod yX2_howManyCome ∈ sx_U := sx_u3 38 rfl rfl
theorem zw_3_39 : Cond.selects RX2 yX2_howManyCome yX2_howManyCome ∈ sx_U := sx_u3 39 rfl rfl
theorem zw_3_41 : Cond.constantLong RX7 191 (-1000001) ∈ sx_U := sx_u3 41 rfl rfl
theorem zw_3_42 : Cond.methodLink RX7 193 yX3_atLeast ∈ sx_U := sx_u3 42 rfl rfl
theorem zw_3_44 : Cond.code yX3_atLeast cX3_atLeast 10 (some .long) ∈ sx_U := sx_u3 44 rfl rfl
theorem zw_3_43 : Cond.static yX3_atLeast ∈ sx_U := sx_u3 43 rfl rfl
theorem zw_3_59 : Cond.constant RX7 197 (999999) ∈ sx_U := sx_u3 59 rfl rfl
theorem zw_3_60 : Cond.methodLink RX7 198 yX4_idleWeeks ∈ sx_U := sx_u3 60 rfl rfl
theorem zw_3_63 : Cond.code yX4_idleWeeks cX4_idleWeeks 7 (some .int) ∈ sx_U := sx_u3 63 rfl rfl
theorem zw_3_61 : Cond.instanceMethod yX4_idleWeeks ∈ sx_U := sx_u3 61 rfl rfl
theorem zw_3_62 : Cond.selects RX4 yX4_idleWeeks yX4_idleWeeks ∈ sx_U := sx_u3 62 rfl rfl
theorem zw_3_84 : Cond.methodLink RX7 201 yX2_isKind ∈ sx_U := sx_u3 84 rfl rfl
theorem zw_3_86 : Cond.code yX2_isKind cX2_isKind 3 (some .boolean) ∈ sx_U := sx_u3 86 rfl rfl
theorem zw_3_85 : Cond.static yX2_isKind ∈ sx_U := sx_u3 85 rfl rfl
theorem zw_3_90 : Cond.methodLink RX7 205 yX5_find ∈ sx_U := sx_u3 90 rfl rfl
theorem zw_1_34 : Cond.fieldLink RX7 208 "SlateShop$Rows" "found" "I" ∈ sx_U := sx_u1 34 rfl rfl
theorem zw_1_124 : Cond.fieldLink RX7 211 "SlateShop$Asks" "traced" "I" ∈ sx_U := sx_u1 124 rfl rfl
theorem zw_3_95 : Cond.methodLink RX7 214 yX1_sizeOf ∈ sx_U := sx_u3 95 rfl rfl
theorem zw_3_98 : Cond.code yX1_sizeOf cX1_sizeOf 2 (some .int) ∈ sx_U := sx_u3 98 rfl rfl
theorem zw_3_96 : Cond.instanceMethod yX1_sizeOf ∈ sx_U := sx_u3 96 rfl rfl
theorem zw_3_97 : Cond.selects RX1 yX1_sizeOf yX1_sizeOf ∈ sx_U := sx_u3 97 rfl rfl
theorem zw_3_143 : Cond.methodLink RX7 217 yX1_markOf ∈ sx_U := sx_u3 143 rfl rfl
theorem zw_3_146 : Cond.code yX1_markOf cX1_markOf 2 (some .int) ∈ sx_U := sx_u3 146 rfl rfl
theorem zw_3_144 : Cond.instanceMethod yX1_markOf ∈ sx_U := sx_u3 144 rfl rfl
theorem zw_3_145 : Cond.selects RX1 yX1_markOf yX1_markOf ∈ sx_U := sx_u3 145 rfl rfl
theorem zw_1_122 : Cond.fieldLink RX7 220 "SlateShop$Asks" "begun" "[I" ∈ sx_U := sx_u1 122 rfl rfl
theorem zw_3_159 : Cond.constant RX7 223 (-1000000) ∈ sx_U := sx_u3 159 rfl rfl
theorem zw_3_164 : Cond.methodLink RX7 224 yX5_present ∈ sx_U := sx_u3 164 rfl rfl
theorem zw_3_167 : Cond.code yX5_present cX5_present 3 (some .int) ∈ sx_U := sx_u3 167 rfl rfl
theorem zw_3_165 : Cond.instanceMethod yX5_present ∈ sx_U := sx_u3 165 rfl rfl
theorem zw_3_166 : Cond.selects RX5 yX5_present yX5_present ∈ sx_U := sx_u3 166 rfl rfl
theorem zw_3_168 : Cond.methodLink RX7 227 yX2_bits ∈ sx_U := sx_u3 168 rfl rfl
theorem zw_3_171 : Cond.code yX2_bits cX2_bits 4 (some .int) ∈ sx_U := sx_u3 171 rfl rfl
theorem zw_3_169 : Cond.instanceMethod yX2_bits ∈ sx_U := sx_u3 169 rfl rfl
theorem zw_3_170 : Cond.selects RX2 yX2_bits yX2_bits ∈ sx_U := sx_u3 170 rfl rfl
theorem zw_1_53 : Cond.fieldLink RX7 230 "SlateShop$Tape" "length" "I" ∈ sx_U := sx_u1 53 rfl rfl
theorem zw_3_181 : Cond.methodLink RX8 1 objectInit ∈ sx_U := sx_u3 181 rfl rfl
theorem zw_3_184 : Cond.fieldLink RX8 7 "SlateShopModel" "lane" "[I" ∈ sx_U := sx_u3 184 rfl rfl
theorem zw_3_185 : Cond.fieldLink RX8 13 "SlateShopModel" "many" "[I" ∈ sx_U := sx_u3 185 rfl rfl
theorem zw_3_186 : Cond.fieldLink RX8 16 "SlateShopModel" "item" "[I" ∈ sx_U := sx_u3 186 rfl rfl
theorem zw_3_187 : Cond.fieldLink RX8 19 "SlateShopModel" "shop" "[I" ∈ sx_U := sx_u3 187 rfl rfl
theorem zw_3_188 : Cond.fieldLink RX8 22 "SlateShopModel" "fresh" "[I" ∈ sx_U := sx_u3 188 rfl rfl
theorem zw_3_189 : Cond.fieldLink RX8 25 "SlateShopModel" "then" "[I" ∈ sx_U := sx_u3 189 rfl rfl
theorem zw_3_190 : Cond.fieldLink RX8 28 "SlateShopModel" "was" "[I" ∈ sx_U := sx_u3 190 rfl rfl
theorem zw_3_192 : Cond.fieldLink RX8 31 "SlateShopModel" "tape" "[I" ∈ sx_U := sx_u3 192 rfl rfl
theorem zw_4_12 : Cond.arrayClass .boolean ∈ sx_U := sx_u4 12 rfl rfl
theorem zw_3_201 : Cond.fieldLink RX8 34 "SlateShopModel" "isKept" "[Z" ∈ sx_U := sx_u3 201 rfl rfl
theorem zw_3_202 : Cond.fieldLink RX8 38 "SlateShopModel" "kept" "[I" ∈ sx_U := sx_u3 202 rfl rfl
theorem zw_3_203 : Cond.fieldLink RX8 41 "SlateShopModel" "trace" "[I" ∈ sx_U := sx_u3 203 rfl rfl
theorem zw_3_183 : Cond.fieldLink RX8 48 "SlateShopModel" "status" "I" ∈ sx_U := sx_u3 183 rfl rfl
theorem zw_4_30 : Cond.constant RX8 51 (-1000010) ∈ sx_U := sx_u4 30 rfl rfl
theorem zw_4_20 : Cond.constantLong RX8 52 (7) ∈ sx_U := sx_u4 20 rfl rfl
theorem zw_4_21 : Cond.methodLink RX8 54 yX8_in ∈ sx_U := sx_u4 21 rfl rfl
theorem zw_4_23 : Cond.code yX8_in cX8_in 6 (some .boolean) ∈ sx_U := sx_u4 23 rfl rfl
theorem zw_4_22 : Cond.static yX8_in ∈ sx_U := sx_u4 22 rfl rfl
theorem zw_1_8 : Cond.initialized RX8 ∈ sx_U := sx_u1 8 rfl rfl
theorem zw_3_182 : Cond.fieldLink RX8 44 "SlateShopModel" "thrown" "I" ∈ sx_U := sx_u3 182 rfl rfl
theorem zw_4_17 : Cond.methodLink RX8 58 yX8_isRow ∈ sx_U := sx_u4 17 rfl rfl
theorem zw_4_19 : Cond.code yX8_isRow cX8_isRow 1 (some .boolean) ∈ sx_U := sx_u4 19 rfl rfl
theorem zw_4_18 : Cond.static yX8_isRow ∈ sx_U := sx_u4 18 rfl rfl
theorem zw_4_24 : Cond.constantLong RX8 62 (2) ∈ sx_U := sx_u4 24 rfl rfl
theorem zw_4_25 : Cond.constant RX8 64 (-1000001) ∈ sx_U := sx_u4 25 rfl rfl
theorem zw_4_26 : Cond.methodLink RX8 65 yX8_finding ∈ sx_U := sx_u4 26 rfl rfl
theorem zw_4_29 : Cond.code yX8_finding cX8_finding 2 (some .int) ∈ sx_U := sx_u4 29 rfl rfl
theorem zw_4_28 : Cond.instanceMethod yX8_finding ∈ sx_U := sx_u4 28 rfl rfl
theorem zw_0_34 : Cond.selects RX8 yX8_finding yX8_finding ∈ sx_U := sx_u0 34 rfl rfl
theorem zw_4_47 : Cond.constantLong RX8 69 (255) ∈ sx_U := sx_u4 47 rfl rfl
theorem zw_3_193 : Cond.fieldLink RX8 71 "SlateShopModel" "taped" "I" ∈ sx_U := sx_u3 193 rfl rfl
theorem zw_4_48 : Cond.constant RX8 74 (-1000003) ∈ sx_U := sx_u4 48 rfl rfl
theorem zw_3_198 : Cond.fieldLink RX8 75 "SlateShopModel" "fault" "I" ∈ sx_U := sx_u3 198 rfl rfl
theorem zw_3_195 : Cond.fieldLink RX8 78 "SlateShopModel" "start" "I" ∈ sx_U := sx_u3 195 rfl rfl
theorem zw_3_199 : Cond.fieldLink RX8 81 "SlateShopModel" "faultAt" "I" ∈ sx_U := sx_u3 199 rfl rfl
theorem zw_3_194 : Cond.fieldLink RX8 84 "SlateShopModel" "cursor" "I" ∈ sx_U := sx_u3 194 rfl rfl
theorem zw_4_65 : Cond.constant RX8 87 (-1000000) ∈ sx_U := sx_u4 65 rfl rfl
theorem zw_3_197 : Cond.fieldLink RX8 88 "SlateShopModel" "value" "I" ∈ sx_U := sx_u3 197 rfl rfl
theorem zw_4_66 : Cond.constantLong RX8 91 (97) ∈ sx_U := sx_u4 66 rfl rfl
theorem zw_4_67 : Cond.constantLong RX8 93 (122) ∈ sx_U := sx_u4 67 rfl rfl
theorem zw_4_68 : Cond.constantLong RX8 95 (48) ∈ sx_U := sx_u4 68 rfl rfl
theorem zw_4_69 : Cond.constantLong RX8 97 (57) ∈ sx_U := sx_u4 69 rfl rfl
theorem zw_3_196 : Cond.fieldLink RX8 99 "SlateShopModel" "token" "I" ∈ sx_U := sx_u3 196 rfl rfl
theorem zw_4_78 : Cond.methodLink RX8 102 yX8_bad ∈ sx_U := sx_u4 78 rfl rfl
theorem zw_4_81 : Cond.code yX8_bad cX8_bad 2 none ∈ sx_U := sx_u4 81 rfl rfl
theorem zw_4_80 : Cond.instanceMethod yX8_bad ∈ sx_U := sx_u4 80 rfl rfl
theorem zw_0_39 : Cond.selects RX8 yX8_bad yX8_bad ∈ sx_U := sx_u0 39 rfl rfl
theorem zw_4_61 : Cond.methodLink RX8 106 yX8_nextToken ∈ sx_U := sx_u4 61 rfl rfl
theorem zw_4_64 : Cond.code yX8_nextToken cX8_nextToken 1 none ∈ sx_U := sx_u4 64 rfl rfl
theorem zw_4_63 : Cond.instanceMethod yX8_nextToken ∈ sx_U := sx_u4 63 rfl rfl
theorem zw_0_36 : Cond.selects RX8 yX8_nextToken yX8_nextToken ∈ sx_U := sx_u0 36 rfl rfl
theorem zw_4_74 : Cond.methodLink RX8 109 yX8_must ∈ sx_U := sx_u4 74 rfl rfl
theorem zw_4_77 : Cond.code yX8_must cX8_must 2 none ∈ sx_U := sx_u4 77 rfl rfl
theorem zw_4_76 : Cond.instanceMethod yX8_must ∈ sx_U := sx_u4 76 rfl rfl
theorem zw_0_38 : Cond.selects RX8 yX8_must yX8_must ∈ sx_U := sx_u0 38 rfl rfl
theorem zw_3_200 : Cond.fieldLink RX8 113 "SlateShopModel" "latest" "I" ∈ sx_U := sx_u3 200 rfl rfl
theorem zw_4_94 : Cond.methodLink RX8 116 yX8_kindBy ∈ sx_U := sx_u4 94 rfl rfl
theorem zw_4_96 : Cond.code yX8_kindBy cX8_kindBy 1 (some .int) ∈ sx_U := sx_u4 96 rfl rfl
theorem zw_4_95 : Cond.static yX8_kindBy ∈ sx_U := sx_u4 95 rfl rfl
theorem zw_4_82 : Cond.methodLink RX8 119 yX8_number ∈ sx_U := sx_u4 82 rfl rfl
theorem zw_4_85 : Cond.code yX8_number cX8_number 4 (some .int) ∈ sx_U := sx_u4 85 rfl rfl
theorem zw_4_84 : Cond.instanceMethod yX8_number ∈ sx_U := sx_u4 84 rfl rfl
theorem zw_0_40 : Cond.selects RX8 yX8_number yX8_number ∈ sx_U := sx_u0 40 rfl rfl
theorem zw_4_86 : Cond.methodLink RX8 123 yX8_mustSign ∈ sx_U := sx_u4 86 rfl rfl
theorem zw_4_89 : Cond.code yX8_mustSign cX8_mustSign 2 none ∈ sx_U := sx_u4 89 rfl rfl
theorem zw_4_88 : Cond.instanceMethod yX8_mustSign ∈ sx_U := sx_u4 88 rfl rfl
theorem zw_0_41 : Cond.selects RX8 yX8_mustSign yX8_mustSign ∈ sx_U := sx_u0 41 rfl rfl
theorem zw_4_57 : Cond.methodLink RX8 126 yX8_begin ∈ sx_U := sx_u4 57 rfl rfl
theorem zw_4_60 : Cond.code yX8_begin cX8_begin 1 none ∈ sx_U := sx_u4 60 rfl rfl
theorem zw_4_59 : Cond.instanceMethod yX8_begin ∈ sx_U := sx_u4 59 rfl rfl
theorem zw_0_35 : Cond.selects RX8 yX8_begin yX8_begin ∈ sx_U := sx_u0 35 rfl rfl
theorem zw_4_70 : Cond.methodLink RX8 129 yX8_isLetter ∈ sx_U := sx_u4 70 rfl rfl
theorem zw_4_73 : Cond.code yX8_isLetter cX8_isLetter 2 (some .boolean) ∈ sx_U := sx_u4 73 rfl rfl
theorem zw_4_72 : Cond.instanceMethod yX8_isLetter ∈ sx_U := sx_u4 72 rfl rfl
theorem zw_0_37 : Cond.selects RX8 yX8_isLetter yX8_isLetter ∈ sx_U := sx_u0 37 rfl rfl
theorem zw_4_90 : Cond.methodLink RX8 132 yX8_isSort ∈ sx_U := sx_u4 90 rfl rfl
theorem zw_4_93 : Cond.code yX8_isSort cX8_isSort 1 (some .boolean) ∈ sx_U := sx_u4 93 rfl rfl
theorem zw_4_92 : Cond.instanceMethod yX8_isSort ∈ sx_U := sx_u4 92 rfl rfl
theorem zw_0_42 : Cond.selects RX8 yX8_isSort yX8_isSort ∈ sx_U := sx_u0 42 rfl rfl
theorem zw_4_97 : Cond.methodLink RX8 136 yX8_readDebtor ∈ sx_U := sx_u4 97 rfl rfl
theorem zw_4_100 : Cond.code yX8_readDebtor cX8_readDebtor 6 none ∈ sx_U := sx_u4 100 rfl rfl
theorem zw_4_99 : Cond.instanceMethod yX8_readDebtor ∈ sx_U := sx_u4 99 rfl rfl
theorem zw_0_43 : Cond.selects RX8 yX8_readDebtor yX8_readDebtor ∈ sx_U := sx_u0 43 rfl rfl
theorem zw_4_101 : Cond.methodLink RX8 139 yX8_failed ∈ sx_U := sx_u4 101 rfl rfl
theorem zw_4_104 : Cond.code yX8_failed cX8_failed 1 (some .boolean) ∈ sx_U := sx_u4 104 rfl rfl
theorem zw_4_103 : Cond.instanceMethod yX8_failed ∈ sx_U := sx_u4 103 rfl rfl
theorem zw_0_44 : Cond.selects RX8 yX8_failed yX8_failed ∈ sx_U := sx_u0 44 rfl rfl
theorem zw_4_105 : Cond.constant RX8 142 (-1000100) ∈ sx_U := sx_u4 105 rfl rfl
theorem zw_3_191 : Cond.fieldLink RX8 143 "SlateShopModel" "acts" "I" ∈ sx_U := sx_u3 191 rfl rfl
theorem zw_4_126 : Cond.methodLink RX8 146 yX8_of ∈ sx_U := sx_u4 126 rfl rfl
theorem zw_4_128 : Cond.code yX8_of cX8_of 3 (some .int) ∈ sx_U := sx_u4 128 rfl rfl
theorem zw_4_127 : Cond.static yX8_of ∈ sx_U := sx_u4 127 rfl rfl
theorem zw_4_132 : Cond.methodLink RX8 150 yX8_least ∈ sx_U := sx_u4 132 rfl rfl
theorem zw_4_134 : Cond.code yX8_least cX8_least 2 (some .int) ∈ sx_U := sx_u4 134 rfl rfl
theorem zw_4_133 : Cond.static yX8_least ∈ sx_U := sx_u4 133 rfl rfl
theorem zw_4_138 : Cond.methodLink RX8 153 yX8_payBy ∈ sx_U := sx_u4 138 rfl rfl
theorem zw_4_140 : Cond.code yX8_payBy cX8_payBy 4 (some .int) ∈ sx_U := sx_u4 140 rfl rfl
theorem zw_4_139 : Cond.static yX8_payBy ∈ sx_U := sx_u4 139 rfl rfl
theorem zw_4_123 : Cond.methodLink RX8 157 yX8_isOut ∈ sx_U := sx_u4 123 rfl rfl
theorem zw_4_125 : Cond.code yX8_isOut cX8_isOut 2 (some .boolean) ∈ sx_U := sx_u4 125 rfl rfl
theorem zw_4_124 : Cond.static yX8_isOut ∈ sx_U := sx_u4 124 rfl rfl
theorem zw_4_129 : Cond.methodLink RX8 161 yX8_takes ∈ sx_U := sx_u4 129 rfl rfl
theorem zw_4_131 : Cond.code yX8_takes cX8_takes 5 none ∈ sx_U := sx_u4 131 rfl rfl
theorem zw_4_130 : Cond.static yX8_takes ∈ sx_U := sx_u4 130 rfl rfl
theorem zw_4_135 : Cond.methodLink RX8 165 yX8_payOne ∈ sx_U := sx_u4 135 rfl rfl
theorem zw_4_137 : Cond.code yX8_payOne cX8_payOne 4 none ∈ sx_U := sx_u4 137 rfl rfl
theorem zw_4_136 : Cond.static yX8_payOne ∈ sx_U := sx_u4 136 rfl rfl
theorem zw_4_120 : Cond.methodLink RX8 168 yX8_week ∈ sx_U := sx_u4 120 rfl rfl
theorem zw_4_122 : Cond.code yX8_week cX8_week 2 none ∈ sx_U := sx_u4 122 rfl rfl
theorem zw_4_121 : Cond.static yX8_week ∈ sx_U := sx_u4 121 rfl rfl
theorem zw_4_110 : Cond.methodLink RX8 172 yX8_isThere ∈ sx_U := sx_u4 110 rfl rfl
theorem zw_4_113 : Cond.code yX8_isThere cX8_isThere 1 (some .boolean) ∈ sx_U := sx_u4 113 rfl rfl
theorem zw_4_112 : Cond.instanceMethod yX8_isThere ∈ sx_U := sx_u4 112 rfl rfl
theorem zw_0_45 : Cond.selects RX8 yX8_isThere yX8_isThere ∈ sx_U := sx_u0 45 rfl rfl
theorem zw_4_114 : Cond.constant RX8 175 (-1000002) ∈ sx_U := sx_u4 114 rfl rfl
theorem zw_4_115 : Cond.constantLong RX8 176 (24) ∈ sx_U := sx_u4 115 rfl rfl
theorem zw_4_116 : Cond.methodLink RX8 178 yX8_keep ∈ sx_U := sx_u4 116 rfl rfl
theorem zw_4_119 : Cond.code yX8_keep cX8_keep 2 none ∈ sx_U := sx_u4 119 rfl rfl
theorem zw_4_118 : Cond.instanceMethod yX8_keep ∈ sx_U := sx_u4 118 rfl rfl
theorem zw_0_46 : Cond.selects RX8 yX8_keep yX8_keep ∈ sx_U := sx_u0 46 rfl rfl
theorem zw_4_145 : Cond.methodLink RX8 181 yX8_isDebtor ∈ sx_U := sx_u4 145 rfl rfl
theorem zw_4_148 : Cond.code yX8_isDebtor cX8_isDebtor 2 (some .boolean) ∈ sx_U := sx_u4 148 rfl rfl
theorem zw_4_147 : Cond.instanceMethod yX8_isDebtor ∈ sx_U := sx_u4 147 rfl rfl
theorem zw_0_47 : Cond.selects RX8 yX8_isDebtor yX8_isDebtor ∈ sx_U := sx_u0 47 rfl rfl
theorem zw_4_149 : Cond.constantLong RX8 184 (99) ∈ sx_U := sx_u4 149 rfl rfl
theorem zw_4_154 : Cond.constantLong RX8 186 (20) ∈ sx_U := sx_u4 154 rfl rfl
theorem zw_4_159 : Cond.methodLink RX8 188 yX8_lostOf ∈ sx_U := sx_u4 159 rfl rfl
theorem zw_4_161 : Cond.code yX8_lostOf cX8_lostOf 3 (some .int) ∈ sx_U := sx_u4 161 rfl rfl
theorem zw_4_160 : Cond.static yX8_lostOf ∈ sx_U := sx_u4 160 rfl rfl
theorem zw_4_178 : Cond.methodLink RX8 192 yX8_debtsOf ∈ sx_U := sx_u4 178 rfl rfl
theorem zw_4_180 : Cond.code yX8_debtsOf cX8_debtsOf 3 (some .int) ∈ sx_U := sx_u4 180 rfl rfl
theorem zw_4_179 : Cond.static yX8_debtsOf ∈ sx_U := sx_u4 179 rfl rfl
theorem zw_4_185 : Cond.constantLong RX8 195 (60) ∈ sx_U := sx_u4 185 rfl rfl
theorem zw_4_186 : Cond.methodLink RX8 197 yX8_layThen ∈ sx_U := sx_u4 186 rfl rfl
theorem zw_4_189 : Cond.code yX8_layThen cX8_layThen 2 none ∈ sx_U := sx_u4 189 rfl rfl
theorem zw_4_188 : Cond.instanceMethod yX8_layThen ∈ sx_U := sx_u4 188 rfl rfl
theorem zw_0_48 : Cond.selects RX8 yX8_layThen yX8_layThen ∈ sx_U := sx_u0 48 rfl rfl
theorem zw_4_190 : Cond.methodLink RX8 200 yX8_weeksOf ∈ sx_U := sx_u4 190 rfl rfl
theorem zw_4_192 : Cond.code yX8_weeksOf cX8_weeksOf 3 none ∈ sx_U := sx_u4 192 rfl rfl
theorem zw_4_191 : Cond.static yX8_weeksOf ∈ sx_U := sx_u4 191 rfl rfl
theorem zw_4_209 : Cond.methodLink RX8 203 yX8_bits ∈ sx_U := sx_u4 209 rfl rfl
theorem zw_4_211 : Cond.code yX8_bits cX8_bits 3 (some .int) ∈ sx_U := sx_u4 211 rfl rfl
theorem zw_4_210 : Cond.static yX8_bits ∈ sx_U := sx_u4 210 rfl rfl
theorem zw_4_228 : Cond.constantLong RX8 206 (12) ∈ sx_U := sx_u4 228 rfl rfl
theorem zw_4_233 : Cond.constantLong RX8 208 (5) ∈ sx_U := sx_u4 233 rfl rfl
theorem zw_4_238 : Cond.constantLong RX8 210 (-1000002) ∈ sx_U := sx_u4 238 rfl rfl
theorem zw_4_239 : Cond.constantLong RX8 212 (10) ∈ sx_U := sx_u4 239 rfl rfl
theorem zw_5_0 : Cond.constantLong RX8 214 (-1000001) ∈ sx_U := sx_u5 0 rfl rfl
theorem zw_5_5 : Cond.constantLong RX8 216 (999999) ∈ sx_U := sx_u5 5 rfl rfl
theorem zw_5_6 : Cond.constantLong RX8 218 (16807) ∈ sx_U := sx_u5 6 rfl rfl
theorem zw_5_7 : Cond.constantLong RX8 220 (2147483647) ∈ sx_U := sx_u5 7 rfl rfl
theorem zw_5_24 : Cond.methodLink RX8 222 yX8_isOf ∈ sx_U := sx_u5 24 rfl rfl
theorem zw_5_26 : Cond.code yX8_isOf cX8_isOf 2 (some .boolean) ∈ sx_U := sx_u5 26 rfl rfl
theorem zw_5_25 : Cond.static yX8_isOf ∈ sx_U := sx_u5 25 rfl rfl
theorem zw_3_204 : Cond.fieldLink RX8 226 "SlateShopModel" "traced" "I" ∈ sx_U := sx_u3 204 rfl rfl
theorem zw_5_39 : Cond.methodLink RX8 229 yX8_began ∈ sx_U := sx_u5 39 rfl rfl
theorem zw_5_42 : Cond.code yX8_began cX8_began 2 none ∈ sx_U := sx_u5 42 rfl rfl
theorem zw_5_41 : Cond.instanceMethod yX8_began ∈ sx_U := sx_u5 41 rfl rfl
theorem zw_0_51 : Cond.selects RX8 yX8_began yX8_began ∈ sx_U := sx_u0 51 rfl rfl
theorem zw_5_43 : Cond.methodLink RX8 232 yX8_plainSize ∈ sx_U := sx_u5 43 rfl rfl
theorem zw_5_46 : Cond.code yX8_plainSize cX8_plainSize 2 (some .int) ∈ sx_U := sx_u5 46 rfl rfl
theorem zw_5_45 : Cond.instanceMethod yX8_plainSize ∈ sx_U := sx_u5 45 rfl rfl
theorem zw_0_52 : Cond.selects RX8 yX8_plainSize yX8_plainSize ∈ sx_U := sx_u0 52 rfl rfl
theorem zw_5_35 : Cond.methodLink RX8 235 yX8_twiceSize ∈ sx_U := sx_u5 35 rfl rfl
theorem zw_5_38 : Cond.code yX8_twiceSize cX8_twiceSize 4 (some .int) ∈ sx_U := sx_u5 38 rfl rfl
theorem zw_5_37 : Cond.instanceMethod yX8_twiceSize ∈ sx_U := sx_u5 37 rfl rfl
theorem zw_0_50 : Cond.selects RX8 yX8_twiceSize yX8_twiceSize ∈ sx_U := sx_u0 50 rfl rfl
theorem zw_5_47 : Cond.methodLink RX8 238 yX8_markOf ∈ sx_U := sx_u5 47 rfl rfl
theorem zw_5_50 : Cond.code yX8_markOf cX8_markOf 4 (some .int) ∈ sx_U := sx_u5 50 rfl rfl
theorem zw_5_49 : Cond.instanceMethod yX8_markOf ∈ sx_U := sx_u5 49 rfl rfl
theorem zw_0_53 : Cond.selects RX8 yX8_markOf yX8_markOf ∈ sx_U := sx_u0 53 rfl rfl
theorem zw_5_31 : Cond.methodLink RX8 241 yX8_sizeOf ∈ sx_U := sx_u5 31 rfl rfl
theorem zw_5_34 : Cond.code yX8_sizeOf cX8_sizeOf 4 (some .int) ∈ sx_U := sx_u5 34 rfl rfl
theorem zw_5_33 : Cond.instanceMethod yX8_sizeOf ∈ sx_U := sx_u5 33 rfl rfl
theorem zw_0_49 : Cond.selects RX8 yX8_sizeOf yX8_sizeOf ∈ sx_U := sx_u0 49 rfl rfl
theorem zw_5_59 : Cond.methodLink RX8 244 yX8_setOf ∈ sx_U := sx_u5 59 rfl rfl
theorem zw_5_62 : Cond.code yX8_setOf cX8_setOf 4 (some .int) ∈ sx_U := sx_u5 62 rfl rfl
theorem zw_5_61 : Cond.instanceMethod yX8_setOf ∈ sx_U := sx_u5 61 rfl rfl
theorem zw_0_54 : Cond.selects RX8 yX8_setOf yX8_setOf ∈ sx_U := sx_u0 54 rfl rfl
theorem zw_2_210 : Cond.constant RJ6 265 (1431655765) ∈ sx_U := sx_u2 210 rfl rfl
theorem zw_2_211 : Cond.constant RJ6 266 (858993459) ∈ sx_U := sx_u2 211 rfl rfl
theorem zw_2_212 : Cond.constant RJ6 267 (252645135) ∈ sx_U := sx_u2 212 rfl rfl
theorem zw_1_13 : Cond.classLink RL 7 RX7 ∈ sx_U := sx_u1 13 rfl rfl
theorem zw_1_14 : Cond.instantiable RX7 9 ∈ sx_U := sx_u1 14 rfl rfl
theorem zw_1_15 : Cond.methodLink RL 9 yX7_init ∈ sx_U := sx_u1 15 rfl rfl
theorem zw_1_17 : Cond.code yX7_init cX7_init 1 none ∈ sx_U := sx_u1 17 rfl rfl
theorem zw_1_16 : Cond.instanceMethod yX7_init ∈ sx_U := sx_u1 16 rfl rfl
theorem zw_3_176 : Cond.classLink RL 10 RX8 ∈ sx_U := sx_u3 176 rfl rfl
theorem zw_3_177 : Cond.instantiable RX8 23 ∈ sx_U := sx_u3 177 rfl rfl
theorem zw_3_178 : Cond.methodLink RL 12 yX8_init ∈ sx_U := sx_u3 178 rfl rfl
theorem zw_3_180 : Cond.code yX8_init cX8_init 1 none ∈ sx_U := sx_u3 180 rfl rfl
theorem zw_3_179 : Cond.instanceMethod yX8_init ∈ sx_U := sx_u3 179 rfl rfl
theorem zw_1_162 : Cond.methodLink RL 13 yX7_row ∈ sx_U := sx_u1 162 rfl rfl
theorem zw_1_165 : Cond.code yX7_row cX7_row 4 (some .int) ∈ sx_U := sx_u1 165 rfl rfl
theorem zw_1_163 : Cond.instanceMethod yX7_row ∈ sx_U := sx_u1 163 rfl rfl
theorem zw_1_164 : Cond.selects RX7 yX7_row yX7_row ∈ sx_U := sx_u1 164 rfl rfl
theorem zw_4_13 : Cond.methodLink RL 17 yX8_row ∈ sx_U := sx_u4 13 rfl rfl
theorem zw_4_16 : Cond.code yX8_row cX8_row 5 (some .int) ∈ sx_U := sx_u4 16 rfl rfl
theorem zw_4_14 : Cond.instanceMethod yX8_row ∈ sx_U := sx_u4 14 rfl rfl
theorem zw_4_15 : Cond.selects RX8 yX8_row yX8_row ∈ sx_U := sx_u4 15 rfl rfl
theorem zw_1_182 : Cond.methodLink RL 18 yX7_set ∈ sx_U := sx_u1 182 rfl rfl
theorem zw_1_185 : Cond.code yX7_set cX7_set 4 (some .int) ∈ sx_U := sx_u1 185 rfl rfl
theorem zw_1_183 : Cond.instanceMethod yX7_set ∈ sx_U := sx_u1 183 rfl rfl
theorem zw_1_184 : Cond.selects RX7 yX7_set yX7_set ∈ sx_U := sx_u1 184 rfl rfl
theorem zw_4_31 : Cond.methodLink RL 21 yX8_set ∈ sx_U := sx_u4 31 rfl rfl
theorem zw_4_34 : Cond.code yX8_set cX8_set 4 (some .int) ∈ sx_U := sx_u4 34 rfl rfl
theorem zw_4_32 : Cond.instanceMethod yX8_set ∈ sx_U := sx_u4 32 rfl rfl
theorem zw_4_33 : Cond.selects RX8 yX8_set yX8_set ∈ sx_U := sx_u4 33 rfl rfl
theorem zw_1_201 : Cond.methodLink RL 22 yX7_copy ∈ sx_U := sx_u1 201 rfl rfl
theorem zw_1_204 : Cond.code yX7_copy cX7_copy 6 (some .int) ∈ sx_U := sx_u1 204 rfl rfl
theorem zw_1_202 : Cond.instanceMethod yX7_copy ∈ sx_U := sx_u1 202 rfl rfl
theorem zw_1_203 : Cond.selects RX7 yX7_copy yX7_copy ∈ sx_U := sx_u1 203 rfl rfl
theorem zw_4_35 : Cond.methodLink RL 26 yX8_copy ∈ sx_U := sx_u4 35 rfl rfl
theorem zw_4_38 : Cond.code yX8_copy cX8_copy 9 (some .int) ∈ sx_U := sx_u4 38 rfl rfl
theorem zw_4_36 : Cond.instanceMethod yX8_copy ∈ sx_U := sx_u4 36 rfl rfl
theorem zw_4_37 : Cond.selects RX8 yX8_copy yX8_copy ∈ sx_U := sx_u4 37 rfl rfl
theorem zw_1_212 : Cond.methodLink RL 27 yX7_drop ∈ sx_U := sx_u1 212 rfl rfl
theorem zw_1_215 : Cond.code yX7_drop cX7_drop 2 (some .int) ∈ sx_U := sx_u1 215 rfl rfl
theorem zw_1_213 : Cond.instanceMethod yX7_drop ∈ sx_U := sx_u1 213 rfl rfl
theorem zw_1_214 : Cond.selects RX7 yX7_drop yX7_drop ∈ sx_U := sx_u1 214 rfl rfl
theorem zw_4_39 : Cond.methodLink RL 31 yX8_drop ∈ sx_U := sx_u4 39 rfl rfl
theorem zw_4_42 : Cond.code yX8_drop cX8_drop 2 (some .int) ∈ sx_U := sx_u4 42 rfl rfl
theorem zw_4_40 : Cond.instanceMethod yX8_drop ∈ sx_U := sx_u4 40 rfl rfl
theorem zw_4_41 : Cond.selects RX8 yX8_drop yX8_drop ∈ sx_U := sx_u4 41 rfl rfl
theorem zw_1_220 : Cond.methodLink RL 32 yX7_feed ∈ sx_U := sx_u1 220 rfl rfl
theorem zw_1_223 : Cond.code yX7_feed cX7_feed 2 (some .int) ∈ sx_U := sx_u1 223 rfl rfl
theorem zw_1_221 : Cond.instanceMethod yX7_feed ∈ sx_U := sx_u1 221 rfl rfl
theorem zw_1_222 : Cond.selects RX7 yX7_feed yX7_feed ∈ sx_U := sx_u1 222 rfl rfl
theorem zw_4_43 : Cond.methodLink RL 35 yX8_feed ∈ sx_U := sx_u4 43 rfl rfl
theorem zw_4_46 : Cond.code yX8_feed cX8_feed 2 (some .int) ∈ sx_U := sx_u4 46 rfl rfl
theorem zw_4_44 : Cond.instanceMethod yX8_feed ∈ sx_U := sx_u4 44 rfl rfl
theorem zw_4_45 : Cond.selects RX8 yX8_feed yX8_feed ∈ sx_U := sx_u4 45 rfl rfl
theorem zw_1_229 : Cond.methodLink RL 36 yX7_shop ∈ sx_U := sx_u1 229 rfl rfl
theorem zw_1_232 : Cond.code yX7_shop cX7_shop 3 (some .int) ∈ sx_U := sx_u1 232 rfl rfl
theorem zw_1_230 : Cond.instanceMethod yX7_shop ∈ sx_U := sx_u1 230 rfl rfl
theorem zw_1_231 : Cond.selects RX7 yX7_shop yX7_shop ∈ sx_U := sx_u1 231 rfl rfl
theorem zw_4_53 : Cond.methodLink RL 40 yX8_shop ∈ sx_U := sx_u4 53 rfl rfl
theorem zw_4_56 : Cond.code yX8_shop cX8_shop 2 (some .int) ∈ sx_U := sx_u4 56 rfl rfl
theorem zw_4_54 : Cond.instanceMethod yX8_shop ∈ sx_U := sx_u4 54 rfl rfl
theorem zw_4_55 : Cond.selects RX8 yX8_shop yX8_shop ∈ sx_U := sx_u4 55 rfl rfl
theorem zw_2_49 : Cond.methodLink RL 41 yX7_fault ∈ sx_U := sx_u2 49 rfl rfl
theorem zw_2_52 : Cond.code yX7_fault cX7_fault 1 (some .int) ∈ sx_U := sx_u2 52 rfl rfl
theorem zw_2_50 : Cond.instanceMethod yX7_fault ∈ sx_U := sx_u2 50 rfl rfl
theorem zw_2_51 : Cond.selects RX7 yX7_fault yX7_fault ∈ sx_U := sx_u2 51 rfl rfl
theorem zw_4_49 : Cond.methodLink RL 44 yX8_fault ∈ sx_U := sx_u4 49 rfl rfl
theorem zw_4_52 : Cond.code yX8_fault cX8_fault 1 (some .int) ∈ sx_U := sx_u4 52 rfl rfl
theorem zw_4_50 : Cond.instanceMethod yX8_fault ∈ sx_U := sx_u4 50 rfl rfl
theorem zw_4_51 : Cond.selects RX8 yX8_fault yX8_fault ∈ sx_U := sx_u4 51 rfl rfl
theorem zw_2_53 : Cond.methodLink RL 45 yX7_undo ∈ sx_U := sx_u2 53 rfl rfl
theorem zw_2_56 : Cond.code yX7_undo cX7_undo 1 (some .int) ∈ sx_U := sx_u2 56 rfl rfl
theorem zw_2_54 : Cond.instanceMethod yX7_undo ∈ sx_U := sx_u2 54 rfl rfl
theorem zw_2_55 : Cond.selects RX7 yX7_undo yX7_undo ∈ sx_U := sx_u2 55 rfl rfl
theorem zw_4_166 : Cond.methodLink RL 48 yX8_undo ∈ sx_U := sx_u4 166 rfl rfl
theorem zw_4_169 : Cond.code yX8_undo cX8_undo 2 (some .int) ∈ sx_U := sx_u4 169 rfl rfl
theorem zw_4_167 : Cond.instanceMethod yX8_undo ∈ sx_U := sx_u4 167 rfl rfl
theorem zw_4_168 : Cond.selects RX8 yX8_undo yX8_undo ∈ sx_U := sx_u4 168 rfl rfl
theorem zw_2_63 : Cond.methodLink RL 49 yX7_weeks ∈ sx_U := sx_u2 63 rfl rfl
theorem zw_2_66 : Cond.code yX7_weeks cX7_weeks 3 (some .int) ∈ sx_U := sx_u2 66 rfl rfl
theorem zw_2_64 : Cond.instanceMethod yX7_weeks ∈ sx_U := sx_u2 64 rfl rfl
theorem zw_2_65 : Cond.selects RX7 yX7_weeks yX7_weeks ∈ sx_U := sx_u2 65 rfl rfl
theorem zw_4_106 : Cond.methodLink RL 52 yX8_weeks ∈ sx_U := sx_u4 106 rfl rfl
theorem zw_4_109 : Cond.code yX8_weeks cX8_weeks 3 (some .int) ∈ sx_U := sx_u4 109 rfl rfl
theorem zw_4_107 : Cond.instanceMethod yX8_weeks ∈ sx_U := sx_u4 107 rfl rfl
theorem zw_4_108 : Cond.selects RX8 yX8_weeks yX8_weeks ∈ sx_U := sx_u4 108 rfl rfl
theorem zw_2_119 : Cond.methodLink RL 53 yX7_stop ∈ sx_U := sx_u2 119 rfl rfl
theorem zw_2_122 : Cond.code yX7_stop cX7_stop 3 (some .int) ∈ sx_U := sx_u2 122 rfl rfl
theorem zw_2_120 : Cond.instanceMethod yX7_stop ∈ sx_U := sx_u2 120 rfl rfl
theorem zw_2_121 : Cond.selects RX7 yX7_stop yX7_stop ∈ sx_U := sx_u2 121 rfl rfl
theorem zw_4_141 : Cond.methodLink RL 57 yX8_stop ∈ sx_U := sx_u4 141 rfl rfl
theorem zw_4_144 : Cond.code yX8_stop cX8_stop 4 (some .int) ∈ sx_U := sx_u4 144 rfl rfl
theorem zw_4_142 : Cond.instanceMethod yX8_stop ∈ sx_U := sx_u4 142 rfl rfl
theorem zw_4_143 : Cond.selects RX8 yX8_stop yX8_stop ∈ sx_U := sx_u4 143 rfl rfl
theorem zw_2_128 : Cond.methodLink RL 58 yX7_strike ∈ sx_U := sx_u2 128 rfl rfl
theorem zw_2_131 : Cond.code yX7_strike cX7_strike 2 (some .int) ∈ sx_U := sx_u2 131 rfl rfl
theorem zw_2_129 : Cond.instanceMethod yX7_strike ∈ sx_U := sx_u2 129 rfl rfl
theorem zw_2_130 : Cond.selects RX7 yX7_strike yX7_strike ∈ sx_U := sx_u2 130 rfl rfl
theorem zw_4_150 : Cond.methodLink RL 61 yX8_strike ∈ sx_U := sx_u4 150 rfl rfl
theorem zw_4_153 : Cond.code yX8_strike cX8_strike 3 (some .int) ∈ sx_U := sx_u4 153 rfl rfl
theorem zw_4_151 : Cond.instanceMethod yX8_strike ∈ sx_U := sx_u4 151 rfl rfl
theorem zw_4_152 : Cond.selects RX8 yX8_strike yX8_strike ∈ sx_U := sx_u4 152 rfl rfl
theorem zw_2_132 : Cond.methodLink RL 62 yX7_cross ∈ sx_U := sx_u2 132 rfl rfl
theorem zw_2_135 : Cond.code yX7_cross cX7_cross 3 (some .int) ∈ sx_U := sx_u2 135 rfl rfl
theorem zw_2_133 : Cond.instanceMethod yX7_cross ∈ sx_U := sx_u2 133 rfl rfl
theorem zw_2_134 : Cond.selects RX7 yX7_cross yX7_cross ∈ sx_U := sx_u2 134 rfl rfl
theorem zw_4_155 : Cond.methodLink RL 65 yX8_cross ∈ sx_U := sx_u4 155 rfl rfl
theorem zw_4_158 : Cond.code yX8_cross cX8_cross 4 (some .int) ∈ sx_U := sx_u4 158 rfl rfl
theorem zw_4_156 : Cond.instanceMethod yX8_cross ∈ sx_U := sx_u4 156 rfl rfl
theorem zw_4_157 : Cond.selects RX8 yX8_cross yX8_cross ∈ sx_U := sx_u4 157 rfl rfl
theorem zw_2_140 : Cond.methodLink RL 66 yX7_dearer ∈ sx_U := sx_u2 140 rfl rfl
theorem zw_2_143 : Cond.code yX7_dearer cX7_dearer 2 (some .int) ∈ sx_U := sx_u2 143 rfl rfl
theorem zw_2_141 : Cond.instanceMethod yX7_dearer ∈ sx_U := sx_u2 141 rfl rfl
theorem zw_2_142 : Cond.selects RX7 yX7_dearer yX7_dearer ∈ sx_U := sx_u2 142 rfl rfl
theorem zw_4_162 : Cond.methodLink RL 69 yX8_dearer ∈ sx_U := sx_u4 162 rfl rfl
theorem zw_4_165 : Cond.code yX8_dearer cX8_dearer 3 (some .int) ∈ sx_U := sx_u4 165 rfl rfl
theorem zw_4_163 : Cond.instanceMethod yX8_dearer ∈ sx_U := sx_u4 163 rfl rfl
theorem zw_4_164 : Cond.selects RX8 yX8_dearer yX8_dearer ∈ sx_U := sx_u4 164 rfl rfl
theorem zw_2_144 : Cond.methodLink RL 70 yX7_debtor ∈ sx_U := sx_u2 144 rfl rfl
theorem zw_2_147 : Cond.code yX7_debtor cX7_debtor 3 (some .int) ∈ sx_U := sx_u2 147 rfl rfl
theorem zw_2_145 : Cond.instanceMethod yX7_debtor ∈ sx_U := sx_u2 145 rfl rfl
theorem zw_2_146 : Cond.selects RX7 yX7_debtor yX7_debtor ∈ sx_U := sx_u2 146 rfl rfl
theorem zw_4_170 : Cond.methodLink RL 73 yX8_debtor ∈ sx_U := sx_u4 170 rfl rfl
theorem zw_4_173 : Cond.code yX8_debtor cX8_debtor 4 (some .int) ∈ sx_U := sx_u4 173 rfl rfl
theorem zw_4_171 : Cond.instanceMethod yX8_debtor ∈ sx_U := sx_u4 171 rfl rfl
theorem zw_4_172 : Cond.selects RX8 yX8_debtor yX8_debtor ∈ sx_U := sx_u4 172 rfl rfl
theorem zw_2_148 : Cond.methodLink RL 74 yX7_shopHas ∈ sx_U := sx_u2 148 rfl rfl
theorem zw_2_151 : Cond.code yX7_shopHas cX7_shopHas 2 (some .int) ∈ sx_U := sx_u2 151 rfl rfl
theorem zw_2_149 : Cond.instanceMethod yX7_shopHas ∈ sx_U := sx_u2 149 rfl rfl
theorem zw_2_150 : Cond.selects RX7 yX7_shopHas yX7_shopHas ∈ sx_U := sx_u2 150 rfl rfl
theorem zw_4_174 : Cond.methodLink RL 77 yX8_shopHas ∈ sx_U := sx_u4 174 rfl rfl
theorem zw_4_177 : Cond.code yX8_shopHas cX8_shopHas 2 (some .int) ∈ sx_U := sx_u4 177 rfl rfl
theorem zw_4_175 : Cond.instanceMethod yX8_shopHas ∈ sx_U := sx_u4 175 rfl rfl
theorem zw_4_176 : Cond.selects RX8 yX8_shopHas yX8_shopHas ∈ sx_U := sx_u4 176 rfl rfl
theorem zw_2_156 : Cond.methodLink RL 78 yX7_ahead ∈ sx_U := sx_u2 156 rfl rfl
theorem zw_2_159 : Cond.code yX7_ahead cX7_ahead 3 (some .int) ∈ sx_U := sx_u2 159 rfl rfl
theorem zw_2_157 : Cond.instanceMethod yX7_ahead ∈ sx_U := sx_u2 157 rfl rfl
theorem zw_2_158 : Cond.selects RX7 yX7_ahead yX7_ahead ∈ sx_U := sx_u2 158 rfl rfl
theorem zw_4_181 : Cond.methodLink RL 81 yX8_ahead ∈ sx_U := sx_u4 181 rfl rfl
theorem zw_4_184 : Cond.code yX8_ahead cX8_ahead 3 (some .int) ∈ sx_U := sx_u4 184 rfl rfl
theorem zw_4_182 : Cond.instanceMethod yX8_ahead ∈ sx_U := sx_u4 182 rfl rfl
theorem zw_4_183 : Cond.selects RX8 yX8_ahead yX8_ahead ∈ sx_U := sx_u4 183 rfl rfl
theorem zw_2_170 : Cond.methodLink RL 82 yX7_debt ∈ sx_U := sx_u2 170 rfl rfl
theorem zw_2_173 : Cond.code yX7_debt cX7_debt 3 (some .int) ∈ sx_U := sx_u2 173 rfl rfl
theorem zw_2_171 : Cond.instanceMethod yX7_debt ∈ sx_U := sx_u2 171 rfl rfl
theorem zw_2_172 : Cond.selects RX7 yX7_debt yX7_debt ∈ sx_U := sx_u2 172 rfl rfl
theorem zw_4_193 : Cond.methodLink RL 85 yX8_debt ∈ sx_U := sx_u4 193 rfl rfl
theorem zw_4_196 : Cond.code yX8_debt cX8_debt 3 (some .int) ∈ sx_U := sx_u4 196 rfl rfl
theorem zw_4_194 : Cond.instanceMethod yX8_debt ∈ sx_U := sx_u4 194 rfl rfl
theorem zw_4_195 : Cond.selects RX8 yX8_debt yX8_debt ∈ sx_U := sx_u4 195 rfl rfl
theorem zw_2_174 : Cond.methodLink RL 86 yX7_shuts ∈ sx_U := sx_u2 174 rfl rfl
theorem zw_2_177 : Cond.code yX7_shuts cX7_shuts 1 (some .int) ∈ sx_U := sx_u2 177 rfl rfl
theorem zw_2_175 : Cond.instanceMethod yX7_shuts ∈ sx_U := sx_u2 175 rfl rfl
theorem zw_2_176 : Cond.selects RX7 yX7_shuts yX7_shuts ∈ sx_U := sx_u2 176 rfl rfl
theorem zw_4_197 : Cond.methodLink RL 89 yX8_shuts ∈ sx_U := sx_u4 197 rfl rfl
theorem zw_4_200 : Cond.code yX8_shuts cX8_shuts 2 (some .int) ∈ sx_U := sx_u4 200 rfl rfl
theorem zw_4_198 : Cond.instanceMethod yX8_shuts ∈ sx_U := sx_u4 198 rfl rfl
theorem zw_4_199 : Cond.selects RX8 yX8_shuts yX8_shuts ∈ sx_U := sx_u4 199 rfl rfl
theorem zw_2_183 : Cond.methodLink RL 90 yX7_bestStop ∈ sx_U := sx_u2 183 rfl rfl
theorem zw_2_186 : Cond.code yX7_bestStop cX7_bestStop 4 (some .int) ∈ sx_U := sx_u2 186 rfl rfl
theorem zw_2_184 : Cond.instanceMethod yX7_bestStop ∈ sx_U := sx_u2 184 rfl rfl
theorem zw_2_185 : Cond.selects RX7 yX7_bestStop yX7_bestStop ∈ sx_U := sx_u2 185 rfl rfl
theorem zw_4_201 : Cond.methodLink RL 93 yX8_bestStop ∈ sx_U := sx_u4 201 rfl rfl
theorem zw_4_204 : Cond.code yX8_bestStop cX8_bestStop 9 (some .int) ∈ sx_U := sx_u4 204 rfl rfl
theorem zw_4_202 : Cond.instanceMethod yX8_bestStop ∈ sx_U := sx_u4 202 rfl rfl
theorem zw_4_203 : Cond.selects RX8 yX8_bestStop yX8_bestStop ∈ sx_U := sx_u4 203 rfl rfl
theorem zw_2_195 : Cond.methodLink RL 94 yX7_whom ∈ sx_U := sx_u2 195 rfl rfl
theorem zw_2_198 : Cond.code yX7_whom cX7_whom 3 (some .int) ∈ sx_U := sx_u2 198 rfl rfl
theorem zw_2_196 : Cond.instanceMethod yX7_whom ∈ sx_U := sx_u2 196 rfl rfl
theorem zw_2_197 : Cond.selects RX7 yX7_whom yX7_whom ∈ sx_U := sx_u2 197 rfl rfl
theorem zw_4_205 : Cond.methodLink RL 97 yX8_whom ∈ sx_U := sx_u4 205 rfl rfl
theorem zw_4_208 : Cond.code yX8_whom cX8_whom 8 (some .int) ∈ sx_U := sx_u4 208 rfl rfl
theorem zw_4_206 : Cond.instanceMethod yX8_whom ∈ sx_U := sx_u4 206 rfl rfl
theorem zw_4_207 : Cond.selects RX8 yX8_whom yX8_whom ∈ sx_U := sx_u4 207 rfl rfl
theorem zw_2_213 : Cond.methodLink RL 98 yX7_stands ∈ sx_U := sx_u2 213 rfl rfl
theorem zw_2_216 : Cond.code yX7_stands cX7_stands 1 (some .int) ∈ sx_U := sx_u2 216 rfl rfl
theorem zw_2_214 : Cond.instanceMethod yX7_stands ∈ sx_U := sx_u2 214 rfl rfl
theorem zw_2_215 : Cond.selects RX7 yX7_stands yX7_stands ∈ sx_U := sx_u2 215 rfl rfl
theorem zw_4_212 : Cond.methodLink RL 101 yX8_stands ∈ sx_U := sx_u4 212 rfl rfl
theorem zw_4_215 : Cond.code yX8_stands cX8_stands 2 (some .int) ∈ sx_U := sx_u4 215 rfl rfl
theorem zw_4_213 : Cond.instanceMethod yX8_stands ∈ sx_U := sx_u4 213 rfl rfl
theorem zw_4_214 : Cond.selects RX8 yX8_stands yX8_stands ∈ sx_U := sx_u4 214 rfl rfl
theorem zw_2_225 : Cond.methodLink RL 102 yX7_dear ∈ sx_U := sx_u2 225 rfl rfl
theorem zw_2_228 : Cond.code yX7_dear cX7_dear 2 (some .int) ∈ sx_U := sx_u2 228 rfl rfl
theorem zw_2_226 : Cond.instanceMethod yX7_dear ∈ sx_U := sx_u2 226 rfl rfl
theorem zw_2_227 : Cond.selects RX7 yX7_dear yX7_dear ∈ sx_U := sx_u2 227 rfl rfl
theorem zw_4_216 : Cond.methodLink RL 105 yX8_dear ∈ sx_U := sx_u4 216 rfl rfl
theorem zw_4_219 : Cond.code yX8_dear cX8_dear 3 (some .int) ∈ sx_U := sx_u4 219 rfl rfl
theorem zw_4_217 : Cond.instanceMethod yX8_dear ∈ sx_U := sx_u4 217 rfl rfl
theorem zw_4_218 : Cond.selects RX8 yX8_dear yX8_dear ∈ sx_U := sx_u4 218 rfl rfl
theorem zw_2_233 : Cond.methodLink RL 106 yX7_rogue ∈ sx_U := sx_u2 233 rfl rfl
theorem zw_2_236 : Cond.code yX7_rogue cX7_rogue 4 (some .int) ∈ sx_U := sx_u2 236 rfl rfl
theorem zw_2_234 : Cond.instanceMethod yX7_rogue ∈ sx_U := sx_u2 234 rfl rfl
theorem zw_2_235 : Cond.selects RX7 yX7_rogue yX7_rogue ∈ sx_U := sx_u2 235 rfl rfl
theorem zw_4_220 : Cond.methodLink RL 109 yX8_rogue ∈ sx_U := sx_u4 220 rfl rfl
theorem zw_4_223 : Cond.code yX8_rogue cX8_rogue 10 (some .int) ∈ sx_U := sx_u4 223 rfl rfl
theorem zw_4_221 : Cond.instanceMethod yX8_rogue ∈ sx_U := sx_u4 221 rfl rfl
theorem zw_4_222 : Cond.selects RX8 yX8_rogue yX8_rogue ∈ sx_U := sx_u4 222 rfl rfl
theorem zw_3_6 : Cond.methodLink RL 110 yX7_who ∈ sx_U := sx_u3 6 rfl rfl
theorem zw_3_9 : Cond.code yX7_who cX7_who 6 (some .int) ∈ sx_U := sx_u3 9 rfl rfl
theorem zw_3_7 : Cond.instanceMethod yX7_who ∈ sx_U := sx_u3 7 rfl rfl
theorem zw_3_8 : Cond.selects RX7 yX7_who yX7_who ∈ sx_U := sx_u3 8 rfl rfl
theorem zw_4_224 : Cond.methodLink RL 114 yX8_who ∈ sx_U := sx_u4 224 rfl rfl
theorem zw_4_227 : Cond.code yX8_who cX8_who 10 (some .int) ∈ sx_U := sx_u4 227 rfl rfl
theorem zw_4_225 : Cond.instanceMethod yX8_who ∈ sx_U := sx_u4 225 rfl rfl
theorem zw_4_226 : Cond.selects RX8 yX8_who yX8_who ∈ sx_U := sx_u4 226 rfl rfl
theorem zw_3_19 : Cond.methodLink RL 115 yX7_atDoor ∈ sx_U := sx_u3 19 rfl rfl
theorem zw_3_22 : Cond.code yX7_atDoor cX7_atDoor 2 (some .int) ∈ sx_U := sx_u3 22 rfl rfl
theorem zw_3_20 : Cond.instanceMethod yX7_atDoor ∈ sx_U := sx_u3 20 rfl rfl
theorem zw_3_21 : Cond.selects RX7 yX7_atDoor yX7_atDoor ∈ sx_U := sx_u3 21 rfl rfl
theorem zw_4_229 : Cond.methodLink RL 118 yX8_atDoor ∈ sx_U := sx_u4 229 rfl rfl
theorem zw_4_232 : Cond.code yX8_atDoor cX8_atDoor 7 (some .int) ∈ sx_U := sx_u4 232 rfl rfl
theorem zw_4_230 : Cond.instanceMethod yX8_atDoor ∈ sx_U := sx_u4 230 rfl rfl
theorem zw_4_231 : Cond.selects RX8 yX8_atDoor yX8_atDoor ∈ sx_U := sx_u4 231 rfl rfl
theorem zw_3_32 : Cond.methodLink RL 119 yX7_pays ∈ sx_U := sx_u3 32 rfl rfl
theorem zw_3_35 : Cond.code yX7_pays cX7_pays 5 (some .long) ∈ sx_U := sx_u3 35 rfl rfl
theorem zw_3_33 : Cond.instanceMethod yX7_pays ∈ sx_U := sx_u3 33 rfl rfl
theorem zw_3_34 : Cond.selects RX7 yX7_pays yX7_pays ∈ sx_U := sx_u3 34 rfl rfl
theorem zw_4_234 : Cond.methodLink RL 123 yX8_pays ∈ sx_U := sx_u4 234 rfl rfl
theorem zw_4_237 : Cond.code yX8_pays cX8_pays 15 (some .long) ∈ sx_U := sx_u4 237 rfl rfl
theorem zw_4_235 : Cond.instanceMethod yX8_pays ∈ sx_U := sx_u4 235 rfl rfl
theorem zw_4_236 : Cond.selects RX8 yX8_pays yX8_pays ∈ sx_U := sx_u4 236 rfl rfl
theorem zw_3_55 : Cond.methodLink RL 124 yX7_drawn ∈ sx_U := sx_u3 55 rfl rfl
theorem zw_3_58 : Cond.code yX7_drawn cX7_drawn 5 (some .int) ∈ sx_U := sx_u3 58 rfl rfl
theorem zw_3_56 : Cond.instanceMethod yX7_drawn ∈ sx_U := sx_u3 56 rfl rfl
theorem zw_3_57 : Cond.selects RX7 yX7_drawn yX7_drawn ∈ sx_U := sx_u3 57 rfl rfl
theorem zw_5_1 : Cond.methodLink RL 127 yX8_drawn ∈ sx_U := sx_u5 1 rfl rfl
theorem zw_5_4 : Cond.code yX8_drawn cX8_drawn 8 (some .int) ∈ sx_U := sx_u5 4 rfl rfl
theorem zw_5_2 : Cond.instanceMethod yX8_drawn ∈ sx_U := sx_u5 2 rfl rfl
theorem zw_5_3 : Cond.selects RX8 yX8_drawn yX8_drawn ∈ sx_U := sx_u5 3 rfl rfl
theorem zw_3_68 : Cond.methodLink RL 128 yX7_image ∈ sx_U := sx_u3 68 rfl rfl
theorem zw_3_71 : Cond.code yX7_image cX7_image 2 (some .int) ∈ sx_U := sx_u3 71 rfl rfl
theorem zw_3_69 : Cond.instanceMethod yX7_image ∈ sx_U := sx_u3 69 rfl rfl
theorem zw_3_70 : Cond.selects RX7 yX7_image yX7_image ∈ sx_U := sx_u3 70 rfl rfl
theorem zw_5_8 : Cond.methodLink RL 131 yX8_image ∈ sx_U := sx_u5 8 rfl rfl
theorem zw_5_11 : Cond.code yX8_image cX8_image 3 (some .int) ∈ sx_U := sx_u5 11 rfl rfl
theorem zw_5_9 : Cond.instanceMethod yX8_image ∈ sx_U := sx_u5 9 rfl rfl
theorem zw_5_10 : Cond.selects RX8 yX8_image yX8_image ∈ sx_U := sx_u5 10 rfl rfl
theorem zw_3_72 : Cond.methodLink RL 132 yX7_restore ∈ sx_U := sx_u3 72 rfl rfl
theorem zw_3_75 : Cond.code yX7_restore cX7_restore 2 (some .int) ∈ sx_U := sx_u3 75 rfl rfl
theorem zw_3_73 : Cond.instanceMethod yX7_restore ∈ sx_U := sx_u3 73 rfl rfl
theorem zw_3_74 : Cond.selects RX7 yX7_restore yX7_restore ∈ sx_U := sx_u3 74 rfl rfl
theorem zw_5_12 : Cond.methodLink RL 135 yX8_restore ∈ sx_U := sx_u5 12 rfl rfl
theorem zw_5_15 : Cond.code yX8_restore cX8_restore 3 (some .int) ∈ sx_U := sx_u5 15 rfl rfl
theorem zw_5_13 : Cond.instanceMethod yX8_restore ∈ sx_U := sx_u5 13 rfl rfl
theorem zw_5_14 : Cond.selects RX8 yX8_restore yX8_restore ∈ sx_U := sx_u5 14 rfl rfl
theorem zw_3_76 : Cond.methodLink RL 136 yX7_kind ∈ sx_U := sx_u3 76 rfl rfl
theorem zw_3_79 : Cond.code yX7_kind cX7_kind 2 (some .int) ∈ sx_U := sx_u3 79 rfl rfl
theorem zw_3_77 : Cond.instanceMethod yX7_kind ∈ sx_U := sx_u3 77 rfl rfl
theorem zw_3_78 : Cond.selects RX7 yX7_kind yX7_kind ∈ sx_U := sx_u3 78 rfl rfl
theorem zw_5_16 : Cond.methodLink RL 139 yX8_kind ∈ sx_U := sx_u5 16 rfl rfl
theorem zw_5_19 : Cond.code yX8_kind cX8_kind 2 (some .int) ∈ sx_U := sx_u5 19 rfl rfl
theorem zw_5_17 : Cond.instanceMethod yX8_kind ∈ sx_U := sx_u5 17 rfl rfl
theorem zw_5_18 : Cond.selects RX8 yX8_kind yX8_kind ∈ sx_U := sx_u5 18 rfl rfl
theorem zw_3_80 : Cond.methodLink RL 140 yX7_as ∈ sx_U := sx_u3 80 rfl rfl
theorem zw_3_83 : Cond.code yX7_as cX7_as 3 (some .int) ∈ sx_U := sx_u3 83 rfl rfl
theorem zw_3_81 : Cond.instanceMethod yX7_as ∈ sx_U := sx_u3 81 rfl rfl
theorem zw_3_82 : Cond.selects RX7 yX7_as yX7_as ∈ sx_U := sx_u3 82 rfl rfl
theorem zw_5_20 : Cond.methodLink RL 143 yX8_as ∈ sx_U := sx_u5 20 rfl rfl
theorem zw_5_23 : Cond.code yX8_as cX8_as 3 (some .int) ∈ sx_U := sx_u5 23 rfl rfl
theorem zw_5_21 : Cond.instanceMethod yX8_as ∈ sx_U := sx_u5 21 rfl rfl
theorem zw_5_22 : Cond.selects RX8 yX8_as yX8_as ∈ sx_U := sx_u5 22 rfl rfl
theorem zw_3_91 : Cond.methodLink RL 144 yX7_ask ∈ sx_U := sx_u3 91 rfl rfl
theorem zw_3_94 : Cond.code yX7_ask cX7_ask 3 (some .int) ∈ sx_U := sx_u3 94 rfl rfl
theorem zw_3_92 : Cond.instanceMethod yX7_ask ∈ sx_U := sx_u3 92 rfl rfl
theorem zw_3_93 : Cond.selects RX7 yX7_ask yX7_ask ∈ sx_U := sx_u3 93 rfl rfl
theorem zw_5_27 : Cond.methodLink RL 147 yX8_ask ∈ sx_U := sx_u5 27 rfl rfl
theorem zw_5_30 : Cond.code yX8_ask cX8_ask 3 (some .int) ∈ sx_U := sx_u5 30 rfl rfl
theorem zw_5_28 : Cond.instanceMethod yX8_ask ∈ sx_U := sx_u5 28 rfl rfl
theorem zw_5_29 : Cond.selects RX8 yX8_ask yX8_ask ∈ sx_U := sx_u5 29 rfl rfl
theorem zw_3_155 : Cond.methodLink RL 148 yX7_trace ∈ sx_U := sx_u3 155 rfl rfl
theorem zw_3_158 : Cond.code yX7_trace cX7_trace 2 (some .int) ∈ sx_U := sx_u3 158 rfl rfl
theorem zw_3_156 : Cond.instanceMethod yX7_trace ∈ sx_U := sx_u3 156 rfl rfl
theorem zw_3_157 : Cond.selects RX7 yX7_trace yX7_trace ∈ sx_U := sx_u3 157 rfl rfl
theorem zw_5_51 : Cond.methodLink RL 151 yX8_trace ∈ sx_U := sx_u5 51 rfl rfl
theorem zw_5_54 : Cond.code yX8_trace cX8_trace 2 (some .int) ∈ sx_U := sx_u5 54 rfl rfl
theorem zw_5_52 : Cond.instanceMethod yX8_trace ∈ sx_U := sx_u5 52 rfl rfl
theorem zw_5_53 : Cond.selects RX8 yX8_trace yX8_trace ∈ sx_U := sx_u5 53 rfl rfl
theorem zw_3_160 : Cond.methodLink RL 152 yX7_count ∈ sx_U := sx_u3 160 rfl rfl
theorem zw_3_163 : Cond.code yX7_count cX7_count 2 (some .int) ∈ sx_U := sx_u3 163 rfl rfl
theorem zw_3_161 : Cond.instanceMethod yX7_count ∈ sx_U := sx_u3 161 rfl rfl
theorem zw_3_162 : Cond.selects RX7 yX7_count yX7_count ∈ sx_U := sx_u3 162 rfl rfl
theorem zw_5_55 : Cond.methodLink RL 155 yX8_count ∈ sx_U := sx_u5 55 rfl rfl
theorem zw_5_58 : Cond.code yX8_count cX8_count 4 (some .int) ∈ sx_U := sx_u5 58 rfl rfl
theorem zw_5_56 : Cond.instanceMethod yX8_count ∈ sx_U := sx_u5 56 rfl rfl
theorem zw_5_57 : Cond.selects RX8 yX8_count yX8_count ∈ sx_U := sx_u5 57 rfl rfl
theorem zw_3_172 : Cond.methodLink RL 156 yX7_status ∈ sx_U := sx_u3 172 rfl rfl
theorem zw_3_175 : Cond.code yX7_status cX7_status 1 (some .int) ∈ sx_U := sx_u3 175 rfl rfl
theorem zw_3_173 : Cond.instanceMethod yX7_status ∈ sx_U := sx_u3 173 rfl rfl
theorem zw_3_174 : Cond.selects RX7 yX7_status yX7_status ∈ sx_U := sx_u3 174 rfl rfl
theorem zw_5_63 : Cond.methodLink RL 159 yX8_status ∈ sx_U := sx_u5 63 rfl rfl
theorem zw_5_66 : Cond.code yX8_status cX8_status 1 (some .int) ∈ sx_U := sx_u5 66 rfl rfl
theorem zw_5_64 : Cond.instanceMethod yX8_status ∈ sx_U := sx_u5 64 rfl rfl
theorem zw_5_65 : Cond.selects RX8 yX8_status yX8_status ∈ sx_U := sx_u5 65 rfl rfl
theorem zw_1_95 : Cond.laysFinal RX0 "SlateShop$Acts" "before" "[[I" ∈ sx_U := sx_u1 95 rfl rfl
theorem zw_1_97 : Cond.lays RX0 "SlateShop$Acts" "next" "I" ∈ sx_U := sx_u1 97 rfl rfl
theorem zw_1_99 : Cond.lays RX0 "SlateShop$Acts" "kept" "I" ∈ sx_U := sx_u1 99 rfl rfl
theorem zw_1_126 : Cond.laysFinal RX1 "SlateShop$Asks" "begun" "[I" ∈ sx_U := sx_u1 126 rfl rfl
theorem zw_1_128 : Cond.lays RX1 "SlateShop$Asks" "traced" "I" ∈ sx_U := sx_u1 128 rfl rfl
theorem zw_1_130 : Cond.laysFinal RX1 "SlateShop$Asks" "book" "LSlateShop$Book;" ∈ sx_U := sx_u1 130 rfl rfl
theorem zw_1_81 : Cond.laysFinal RX2 "SlateShop$Book" "sums" "[I" ∈ sx_U := sx_u1 81 rfl rfl
theorem zw_1_110 : Cond.laysFinal RX4 "SlateShop$Foretold" "now" "LSlateShop$Book;" ∈ sx_U := sx_u1 110 rfl rfl
theorem zw_1_112 : Cond.laysFinal RX4 "SlateShop$Foretold" "then" "LSlateShop$Book;" ∈ sx_U := sx_u1 112 rfl rfl
theorem zw_1_35 : Cond.laysFinal RX5 "SlateShop$Rows" "items" "[[I" ∈ sx_U := sx_u1 35 rfl rfl
theorem zw_1_37 : Cond.laysFinal RX5 "SlateShop$Rows" "lanes" "[I" ∈ sx_U := sx_u1 37 rfl rfl
theorem zw_1_39 : Cond.laysFinal RX5 "SlateShop$Rows" "sizes" "[I" ∈ sx_U := sx_u1 39 rfl rfl
theorem zw_1_41 : Cond.lays RX5 "SlateShop$Rows" "found" "I" ∈ sx_U := sx_u1 41 rfl rfl
theorem zw_1_58 : Cond.laysFinal RX6 "SlateShop$Tape" "letters" "[I" ∈ sx_U := sx_u1 58 rfl rfl
theorem zw_1_60 : Cond.lays RX6 "SlateShop$Tape" "length" "I" ∈ sx_U := sx_u1 60 rfl rfl
theorem zw_1_62 : Cond.lays RX6 "SlateShop$Tape" "place" "I" ∈ sx_U := sx_u1 62 rfl rfl
theorem zw_1_64 : Cond.lays RX6 "SlateShop$Tape" "step" "I" ∈ sx_U := sx_u1 64 rfl rfl
theorem zw_1_66 : Cond.lays RX6 "SlateShop$Tape" "part" "I" ∈ sx_U := sx_u1 66 rfl rfl
theorem zw_1_143 : Cond.laysFinal RX7 "SlateShop" "rows" "LSlateShop$Rows;" ∈ sx_U := sx_u1 143 rfl rfl
theorem zw_1_145 : Cond.laysFinal RX7 "SlateShop" "tape" "LSlateShop$Tape;" ∈ sx_U := sx_u1 145 rfl rfl
theorem zw_1_147 : Cond.laysFinal RX7 "SlateShop" "book" "LSlateShop$Book;" ∈ sx_U := sx_u1 147 rfl rfl
theorem zw_1_149 : Cond.laysFinal RX7 "SlateShop" "spare" "LSlateShop$Book;" ∈ sx_U := sx_u1 149 rfl rfl
theorem zw_1_151 : Cond.laysFinal RX7 "SlateShop" "acts" "LSlateShop$Acts;" ∈ sx_U := sx_u1 151 rfl rfl
theorem zw_1_153 : Cond.laysFinal RX7 "SlateShop" "foretold" "LSlateShop$Foretold;" ∈ sx_U := sx_u1 153 rfl rfl
theorem zw_1_155 : Cond.laysFinal RX7 "SlateShop" "asks" "LSlateShop$Asks;" ∈ sx_U := sx_u1 155 rfl rfl
theorem zw_1_157 : Cond.laysFinal RX7 "SlateShop" "images" "[LSlateShop$Book;" ∈ sx_U := sx_u1 157 rfl rfl
theorem zw_1_159 : Cond.lays RX7 "SlateShop" "latestFault" "I" ∈ sx_U := sx_u1 159 rfl rfl
theorem zw_3_205 : Cond.lays RX8 "SlateShopModel" "thrown" "I" ∈ sx_U := sx_u3 205 rfl rfl
theorem zw_3_207 : Cond.lays RX8 "SlateShopModel" "status" "I" ∈ sx_U := sx_u3 207 rfl rfl
theorem zw_3_209 : Cond.laysFinal RX8 "SlateShopModel" "lane" "[I" ∈ sx_U := sx_u3 209 rfl rfl
theorem zw_3_211 : Cond.laysFinal RX8 "SlateShopModel" "many" "[I" ∈ sx_U := sx_u3 211 rfl rfl
theorem zw_3_213 : Cond.laysFinal RX8 "SlateShopModel" "item" "[I" ∈ sx_U := sx_u3 213 rfl rfl
theorem zw_3_215 : Cond.laysFinal RX8 "SlateShopModel" "shop" "[I" ∈ sx_U := sx_u3 215 rfl rfl
theorem zw_3_217 : Cond.laysFinal RX8 "SlateShopModel" "fresh" "[I" ∈ sx_U := sx_u3 217 rfl rfl
theorem zw_3_219 : Cond.laysFinal RX8 "SlateShopModel" "then" "[I" ∈ sx_U := sx_u3 219 rfl rfl
theorem zw_3_221 : Cond.laysFinal RX8 "SlateShopModel" "was" "[I" ∈ sx_U := sx_u3 221 rfl rfl
theorem zw_3_223 : Cond.lays RX8 "SlateShopModel" "acts" "I" ∈ sx_U := sx_u3 223 rfl rfl
theorem zw_3_225 : Cond.laysFinal RX8 "SlateShopModel" "tape" "[I" ∈ sx_U := sx_u3 225 rfl rfl
theorem zw_3_227 : Cond.lays RX8 "SlateShopModel" "taped" "I" ∈ sx_U := sx_u3 227 rfl rfl
theorem zw_3_229 : Cond.lays RX8 "SlateShopModel" "cursor" "I" ∈ sx_U := sx_u3 229 rfl rfl
theorem zw_3_231 : Cond.lays RX8 "SlateShopModel" "start" "I" ∈ sx_U := sx_u3 231 rfl rfl
theorem zw_3_233 : Cond.lays RX8 "SlateShopModel" "token" "I" ∈ sx_U := sx_u3 233 rfl rfl
theorem zw_3_235 : Cond.lays RX8 "SlateShopModel" "value" "I" ∈ sx_U := sx_u3 235 rfl rfl
theorem zw_3_237 : Cond.lays RX8 "SlateShopModel" "fault" "I" ∈ sx_U := sx_u3 237 rfl rfl
theorem zw_3_239 : Cond.lays RX8 "SlateShopModel" "faultAt" "I" ∈ sx_U := sx_u3 239 rfl rfl
theorem zw_4_1 : Cond.lays RX8 "SlateShopModel" "latest" "I" ∈ sx_U := sx_u4 1 rfl rfl
theorem zw_4_3 : Cond.laysFinal RX8 "SlateShopModel" "isKept" "[Z" ∈ sx_U := sx_u4 3 rfl rfl
theorem zw_4_5 : Cond.laysFinal RX8 "SlateShopModel" "kept" "[I" ∈ sx_U := sx_u4 5 rfl rfl
theorem zw_4_7 : Cond.laysFinal RX8 "SlateShopModel" "trace" "[I" ∈ sx_U := sx_u4 7 rfl rfl
theorem zw_4_9 : Cond.lays RX8 "SlateShopModel" "traced" "I" ∈ sx_U := sx_u4 9 rfl rfl
theorem zinX0 : ∀ w ∈ u_ws RX0 TX0 3, w ∈ sx_U := by
  intro w hw
  obtain ⟨k, hk, rfl⟩ := List.mem_map.mp hw
  have hk := List.mem_range.mp hk
  match k, hk with
  | 0, _ => exact zw_1_95
  | 1, _ => exact zw_1_97
  | 2, _ => exact zw_1_99
  | k + 3, h => exact absurd h (by omega)
theorem zdfX0 : ∀ (ad : Nat → Nat) (j : Nat), j < 3 → defaultValue (tyX0 j) = vp_V (([sx_r none, sx_i 0, sx_i 0] : List sx_V).map (sx_cv ad)) j := by
  intro ad j hj
  match j, hj with
  | 0, _ => rfl
  | 1, _ => rfl
  | 2, _ => rfl
  | k + 3, h => exact absurd h (by omega)
theorem zinX1 : ∀ w ∈ u_ws RX1 TX1 3, w ∈ sx_U := by
  intro w hw
  obtain ⟨k, hk, rfl⟩ := List.mem_map.mp hw
  have hk := List.mem_range.mp hk
  match k, hk with
  | 0, _ => exact zw_1_126
  | 1, _ => exact zw_1_128
  | 2, _ => exact zw_1_130
  | k + 3, h => exact absurd h (by omega)
theorem zdfX1 : ∀ (ad : Nat → Nat) (j : Nat), j < 3 → defaultValue (tyX1 j) = vp_V (([sx_r none, sx_i 0, sx_r none] : List sx_V).map (sx_cv ad)) j := by
  intro ad j hj
  match j, hj with
  | 0, _ => rfl
  | 1, _ => rfl
  | 2, _ => rfl
  | k + 3, h => exact absurd h (by omega)
theorem zinX2 : ∀ w ∈ u_ws RX2 TX2 1, w ∈ sx_U := by
  intro w hw
  obtain ⟨k, hk, rfl⟩ := List.mem_map.mp hw
  have hk := List.mem_range.mp hk
  match k, hk with
  | 0, _ => exact zw_1_81
  | k + 1, h => exact absurd h (by omega)
theorem zdfX2 : ∀ (ad : Nat → Nat) (j : Nat), j < 1 → defaultValue (tyX2 j) = vp_V (([sx_r none] : List sx_V).map (sx_cv ad)) j := by
  intro ad j hj
  match j, hj with
  | 0, _ => rfl
  | k + 1, h => exact absurd h (by omega)
theorem zinX4 : ∀ w ∈ u_ws RX4 TX4 2, w ∈ sx_U := by
  intro w hw
  obtain ⟨k, hk, rfl⟩ := List.mem_map.mp hw
  have hk := List.mem_range.mp hk
  match k, hk with
  | 0, _ => exact zw_1_110
  | 1, _ => exact zw_1_112
  | k + 2, h => exact absurd h (by omega)
theorem zdfX4 : ∀ (ad : Nat → Nat) (j : Nat), j < 2 → defaultValue (tyX4 j) = vp_V (([sx_r none, sx_r none] : List sx_V).map (sx_cv ad)) j := by
  intro ad j hj
  match j, hj with
  | 0, _ => rfl
  | 1, _ => rfl
  | k + 2, h => exact absurd h (by omega)
theorem zinX5 : ∀ w ∈ u_ws RX5 TX5 4, w ∈ sx_U := by
  intro w hw
  obtain ⟨k, hk, rfl⟩ := List.mem_map.mp hw
  have hk := List.mem_range.mp hk
  match k, hk with
  | 0, _ => exact zw_1_35
  | 1, _ => exact zw_1_37
  | 2, _ => exact zw_1_39
  | 3, _ => exact zw_1_41
  | k + 4, h => exact absurd h (by omega)
theorem zdfX5 : ∀ (ad : Nat → Nat) (j : Nat), j < 4 → defaultValue (tyX5 j) = vp_V (([sx_r none, sx_r none, sx_r none, sx_i 0] : List sx_V).map (sx_cv ad)) j := by
  intro ad j hj
  match j, hj with
  | 0, _ => rfl
  | 1, _ => rfl
  | 2, _ => rfl
  | 3, _ => rfl
  | k + 4, h => exact absurd h (by omega)
theorem zinX6 : ∀ w ∈ u_ws RX6 TX6 5, w ∈ sx_U := by
  intro w hw
  obtain ⟨k, hk, rfl⟩ := List.mem_map.mp hw
  have hk := List.mem_range.mp hk
  match k, hk with
  | 0, _ => exact zw_1_58
  | 1, _ => exact zw_1_60
  | 2, _ => exact zw_1_62
  | 3, _ => exact zw_1_64
  | 4, _ => exact zw_1_66
  | k + 5, h => exact absurd h (by omega)
theorem zdfX6 : ∀ (ad : Nat → Nat) (j : Nat), j < 5 → defaultValue (tyX6 j) = vp_V (([sx_r none, sx_i 0, sx_i 0, sx_i 0, sx_i 0] : List sx_V).map (sx_cv ad)) j := by
  intro ad j hj
  match j, hj with
  | 0, _ => rfl
  | 1, _ => rfl
  | 2, _ => rfl
  | 3, _ => rfl
  | 4, _ => rfl
  | k + 5, h => exact absurd h (by omega)
theorem zinX7 : ∀ w ∈ u_ws RX7 TX7 9, w ∈ sx_U := by
  intro w hw
  obtain ⟨k, hk, rfl⟩ := List.mem_map.mp hw
  have hk := List.mem_range.mp hk
  match k, hk with
  | 0, _ => exact zw_1_143
  | 1, _ => exact zw_1_145
  | 2, _ => exact zw_1_147
  | 3, _ => exact zw_1_149
  | 4, _ => exact zw_1_151
  | 5, _ => exact zw_1_153
  | 6, _ => exact zw_1_155
  | 7, _ => exact zw_1_157
  | 8, _ => exact zw_1_159
  | k + 9, h => exact absurd h (by omega)
theorem zdfX7 : ∀ (ad : Nat → Nat) (j : Nat), j < 9 → defaultValue (tyX7 j) = vp_V (([sx_r none, sx_r none, sx_r none, sx_r none, sx_r none, sx_r none, sx_r none, sx_r none, sx_i 0] : List sx_V).map (sx_cv ad)) j := by
  intro ad j hj
  match j, hj with
  | 0, _ => rfl
  | 1, _ => rfl
  | 2, _ => rfl
  | 3, _ => rfl
  | 4, _ => rfl
  | 5, _ => rfl
  | 6, _ => rfl
  | 7, _ => rfl
  | 8, _ => rfl
  | k + 9, h => exact absurd h (by omega)
theorem zinX8 : ∀ w ∈ u_ws RX8 TX8 23, w ∈ sx_U := by
  intro w hw
  obtain ⟨k, hk, rfl⟩ := List.mem_map.mp hw
  have hk := List.mem_range.mp hk
  match k, hk with
  | 0, _ => exact zw_3_205
  | 1, _ => exact zw_3_207
  | 2, _ => exact zw_3_209
  | 3, _ => exact zw_3_211
  | 4, _ => exact zw_3_213
  | 5, _ => exact zw_3_215
  | 6, _ => exact zw_3_217
  | 7, _ => exact zw_3_219
  | 8, _ => exact zw_3_221
  | 9, _ => exact zw_3_223
  | 10, _ => exact zw_3_225
  | 11, _ => exact zw_3_227
  | 12, _ => exact zw_3_229
  | 13, _ => exact zw_3_231
  | 14, _ => exact zw_3_233
  | 15, _ => exact zw_3_235
  | 16, _ => exact zw_3_237
  | 17, _ => exact zw_3_239
  | 18, _ => exact zw_4_1
  | 19, _ => exact zw_4_3
  | 20, _ => exact zw_4_5
  | 21, _ => exact zw_4_7
  | 22, _ => exact zw_4_9
  | k + 23, h => exact absurd h (by omega)
theorem zdfX8 : ∀ (ad : Nat → Nat) (j : Nat), j < 23 → defaultValue (tyX8 j) = vp_V (([sx_i 0, sx_i 0, sx_r none, sx_r none, sx_r none, sx_r none, sx_r none, sx_r none, sx_r none, sx_i 0, sx_r none, sx_i 0, sx_i 0, sx_i 0, sx_i 0, sx_i 0, sx_i 0, sx_i 0, sx_i 0, sx_r none, sx_r none, sx_r none, sx_i 0] : List sx_V).map (sx_cv ad)) j := by
  intro ad j hj
  match j, hj with
  | 0, _ => rfl
  | 1, _ => rfl
  | 2, _ => rfl
  | 3, _ => rfl
  | 4, _ => rfl
  | 5, _ => rfl
  | 6, _ => rfl
  | 7, _ => rfl
  | 8, _ => rfl
  | 9, _ => rfl
  | 10, _ => rfl
  | 11, _ => rfl
  | 12, _ => rfl
  | 13, _ => rfl
  | 14, _ => rfl
  | 15, _ => rfl
  | 16, _ => rfl
  | 17, _ => rfl
  | 18, _ => rfl
  | 19, _ => rfl
  | 20, _ => rfl
  | 21, _ => rfl
  | 22, _ => rfl
  | k + 23, h => exact absurd h (by omega)
theorem zmh_X0 : RX0 ≠ "java/lang/invoke/MethodHandle" ∧ RX0 ≠ "java/lang/invoke/VarHandle" := ⟨by decide +kernel, by decide +kernel⟩
theorem zmh_X1 : RX1 ≠ "java/lang/invoke/MethodHandle" ∧ RX1 ≠ "java/lang/invoke/VarHandle" := ⟨by decide +kernel, by decide +kernel⟩
theorem zmh_X2 : RX2 ≠ "java/lang/invoke/MethodHandle" ∧ RX2 ≠ "java/lang/invoke/VarHandle" := ⟨by decide +kernel, by decide +kernel⟩
theorem zmh_X3 : RX3 ≠ "java/lang/invoke/MethodHandle" ∧ RX3 ≠ "java/lang/invoke/VarHandle" := ⟨by decide +kernel, by decide +kernel⟩
theorem zmh_X4 : RX4 ≠ "java/lang/invoke/MethodHandle" ∧ RX4 ≠ "java/lang/invoke/VarHandle" := ⟨by decide +kernel, by decide +kernel⟩
theorem zmh_X5 : RX5 ≠ "java/lang/invoke/MethodHandle" ∧ RX5 ≠ "java/lang/invoke/VarHandle" := ⟨by decide +kernel, by decide +kernel⟩
theorem zmh_X6 : RX6 ≠ "java/lang/invoke/MethodHandle" ∧ RX6 ≠ "java/lang/invoke/VarHandle" := ⟨by decide +kernel, by decide +kernel⟩
theorem zmh_X7 : RX7 ≠ "java/lang/invoke/MethodHandle" ∧ RX7 ≠ "java/lang/invoke/VarHandle" := ⟨by decide +kernel, by decide +kernel⟩
theorem zmh_X8 : RX8 ≠ "java/lang/invoke/MethodHandle" ∧ RX8 ≠ "java/lang/invoke/VarHandle" := ⟨by decide +kernel, by decide +kernel⟩
theorem zmh_J6 : RJ6 ≠ "java/lang/invoke/MethodHandle" ∧ RJ6 ≠ "java/lang/invoke/VarHandle" := ⟨by decide +kernel, by decide +kernel⟩
theorem zmh_J9 : RJ9 ≠ "java/lang/invoke/MethodHandle" ∧ RJ9 ≠ "java/lang/invoke/VarHandle" := ⟨by decide +kernel, by decide +kernel⟩
theorem zmh_J10 : RJ10 ≠ "java/lang/invoke/MethodHandle" ∧ RJ10 ≠ "java/lang/invoke/VarHandle" := ⟨by decide +kernel, by decide +kernel⟩
def sx_tb : List sx_M := [(yX0_init, cX0_init, 1, none, { frames := 1, cells := 25, slots := 1512, locals := 20 }),
  (yX0_forget, cX0_forget, 1, none, { frames := 0, cells := 0, slots := 0, locals := 0 }),
  (yX0_keep, cX0_keep, 2, none, { frames := 1, cells := 0, slots := 0, locals := 26 }),
  (yX0_takeBack, cX0_takeBack, 2, some .int, { frames := 1, cells := 0, slots := 0, locals := 26 }),
  (yX1_init, cX1_init, 2, none, { frames := 1, cells := 1, slots := 16, locals := 20 }),
  (yX1_sizeOf, cX1_sizeOf, 2, some .int, { frames := 6, cells := 0, slots := 0, locals := 127 }),
  (yX1_markOf, cX1_markOf, 2, some .int, { frames := 6, cells := 0, slots := 0, locals := 127 }),
  (yX1_markOfSteady, cX1_markOfSteady, 2, some .int, { frames := 3, cells := 0, slots := 0, locals := 63 }),
  (yX1_sizeOfTwice, cX1_sizeOfTwice, 2, some .int, { frames := 4, cells := 0, slots := 0, locals := 84 }),
  (yX1_begin, cX1_begin, 2, none, { frames := 0, cells := 0, slots := 0, locals := 0 }),
  (yX1_size10, cX1_size10, 2, some .int, { frames := 1, cells := 0, slots := 0, locals := 21 }),
  (yX1_size11, cX1_size11, 3, some .int, { frames := 4, cells := 0, slots := 0, locals := 84 }),
  (yX1_size12, cX1_size12, 2, some .int, { frames := 5, cells := 0, slots := 0, locals := 106 }),
  (yX1_size13, cX1_size13, 2, some .int, { frames := 2, cells := 0, slots := 0, locals := 42 }),
  (yX1_size14, cX1_size14, 2, some .int, { frames := 3, cells := 0, slots := 0, locals := 63 }),
  (yX1_mark20, cX1_mark20, 2, some .int, { frames := 1, cells := 0, slots := 0, locals := 21 }),
  (yX1_mark21, cX1_mark21, 2, some .int, { frames := 1, cells := 0, slots := 0, locals := 21 }),
  (yX1_mark22, cX1_mark22, 2, some .int, { frames := 2, cells := 0, slots := 0, locals := 42 }),
  (yX1_mark23, cX1_mark23, 3, some .int, { frames := 5, cells := 0, slots := 0, locals := 105 }),
  (yX1_mark24, cX1_mark24, 2, some .int, { frames := 2, cells := 0, slots := 0, locals := 42 }),
  (yX2_init, cX2_init, 1, none, { frames := 1, cells := 1, slots := 62, locals := 20 }),
  (yX2_clear, cX2_clear, 2, none, { frames := 0, cells := 0, slots := 0, locals := 0 }),
  (yX2_becomes, cX2_becomes, 2, none, { frames := 1, cells := 0, slots := 0, locals := 26 }),
  (yX2_isThere, cX2_isThere, 1, some .boolean, { frames := 0, cells := 0, slots := 0, locals := 0 }),
  (yX2_has, cX2_has, 2, some .boolean, { frames := 0, cells := 0, slots := 0, locals := 0 }),
  (yX2_comes, cX2_comes, 2, some .boolean, { frames := 1, cells := 0, slots := 0, locals := 21 }),
  (yX2_isKind, cX2_isKind, 3, some .boolean, { frames := 1, cells := 0, slots := 0, locals := 20 }),
  (yX2_nearestKind, cX2_nearestKind, 1, some .int, { frames := 0, cells := 0, slots := 0, locals := 0 }),
  (yX2_passWeek, cX2_passWeek, 2, some .int, { frames := 3, cells := 0, slots := 0, locals := 68 }),
  (yX2_takeAll, cX2_takeAll, 2, none, { frames := 2, cells := 0, slots := 0, locals := 44 }),
  (yX2_take, cX2_take, 4, none, { frames := 1, cells := 0, slots := 0, locals := 21 }),
  (yX2_payAll, cX2_payAll, 3, some .int, { frames := 2, cells := 0, slots := 0, locals := 46 }),
  (yX2_makesOff, cX2_makesOff, 3, some .boolean, { frames := 0, cells := 0, slots := 0, locals := 0 }),
  (yX2_pay, cX2_pay, 5, some .int, { frames := 1, cells := 0, slots := 0, locals := 22 }),
  (yX2_spared, cX2_spared, 3, some .int, { frames := 0, cells := 0, slots := 0, locals := 0 }),
  (yX2_worth, cX2_worth, 1, some .int, { frames := 0, cells := 0, slots := 0, locals := 0 }),
  (yX2_allDebts, cX2_allDebts, 3, some .int, { frames := 0, cells := 0, slots := 0, locals := 0 }),
  (yX2_lost, cX2_lost, 3, some .int, { frames := 2, cells := 0, slots := 0, locals := 42 }),
  (yX2_bits, cX2_bits, 4, some .int, { frames := 0, cells := 0, slots := 0, locals := 0 }),
  (yX2_howManyCome, cX2_howManyCome, 3, some .int, { frames := 2, cells := 0, slots := 0, locals := 42 }),
  (yX2_owingMost, cX2_owingMost, 3, some .int, { frames := 3, cells := 0, slots := 0, locals := 66 }),
  (yX2_aheadOf, cX2_aheadOf, 5, some .int, { frames := 2, cells := 0, slots := 0, locals := 42 }),
  (yX3_atLeast, cX3_atLeast, 10, some .long, { frames := 1, cells := 0, slots := 0, locals := 26 }),
  (yX3_choices, cX3_choices, 5, some .long, { frames := 0, cells := 0, slots := 0, locals := 0 }),
  (yX3_power, cX3_power, 5, some .long, { frames := 0, cells := 0, slots := 0, locals := 0 }),
  (yX3_commonDivisor, cX3_commonDivisor, 7, some .long, { frames := 0, cells := 0, slots := 0, locals := 0 }),
  (yX4_init, cX4_init, 3, none, { frames := 1, cells := 0, slots := 0, locals := 20 }),
  (yX4_look, cX4_look, 2, none, { frames := 5, cells := 0, slots := 0, locals := 111 }),
  (yX4_pass, cX4_pass, 3, none, { frames := 4, cells := 0, slots := 0, locals := 89 }),
  (yX4_weeksUntilShut, cX4_weeksUntilShut, 3, some .int, { frames := 4, cells := 0, slots := 0, locals := 89 }),
  (yX4_stopForShop, cX4_stopForShop, 8, some .int, { frames := 5, cells := 0, slots := 0, locals := 111 }),
  (yX4_stopForRogue, cX4_stopForRogue, 8, some .int, { frames := 5, cells := 0, slots := 0, locals := 111 }),
  (yX4_grown, cX4_grown, 2, some .int, { frames := 0, cells := 0, slots := 0, locals := 0 }),
  (yX4_bestSet, cX4_bestSet, 9, some .int, { frames := 6, cells := 0, slots := 0, locals := 134 }),
  (yX4_giveOnlyTo, cX4_giveOnlyTo, 4, none, { frames := 5, cells := 0, slots := 0, locals := 111 }),
  (yX4_longestStrike, cX4_longestStrike, 2, some .int, { frames := 6, cells := 0, slots := 0, locals := 134 }),
  (yX4_leastDearer, cX4_leastDearer, 3, some .int, { frames := 6, cells := 0, slots := 0, locals := 134 }),
  (yX4_lasts, cX4_lasts, 4, some .boolean, { frames := 5, cells := 0, slots := 0, locals := 111 }),
  (yX4_kindsThatPay, cX4_kindsThatPay, 7, some .int, { frames := 5, cells := 0, slots := 0, locals := 115 }),
  (yX4_paysAsTold, cX4_paysAsTold, 7, some .boolean, { frames := 4, cells := 0, slots := 0, locals := 89 }),
  (yX4_idleWeeks, cX4_idleWeeks, 7, some .int, { frames := 4, cells := 0, slots := 0, locals := 89 }),
  (yX5_init, cX5_init, 2, none, { frames := 1, cells := 11, slots := 344, locals := 20 }),
  (yX5_isRow, cX5_isRow, 1, some .boolean, { frames := 0, cells := 0, slots := 0, locals := 0 }),
  (yX5_find, cX5_find, 2, some .int, { frames := 0, cells := 0, slots := 0, locals := 0 }),
  (yX5_make, cX5_make, 5, some .int, { frames := 1, cells := 0, slots := 0, locals := 21 }),
  (yX5_put, cX5_put, 5, some .int, { frames := 2, cells := 0, slots := 0, locals := 46 }),
  (yX5_carry, cX5_carry, 6, some .int, { frames := 1, cells := 0, slots := 0, locals := 26 }),
  (yX5_lose, cX5_lose, 3, some .int, { frames := 1, cells := 0, slots := 0, locals := 21 }),
  (yX5_look, cX5_look, 4, some .int, { frames := 1, cells := 0, slots := 0, locals := 23 }),
  (yX5_present, cX5_present, 3, some .int, { frames := 0, cells := 0, slots := 0, locals := 0 }),
  (yX5_fits, cX5_fits, 4, some .boolean, { frames := 0, cells := 0, slots := 0, locals := 0 }),
  (yX5_narrowed, cX5_narrowed, 2, some .int, { frames := 0, cells := 0, slots := 0, locals := 0 }),
  (yX6_init, cX6_init, 1, none, { frames := 1, cells := 1, slots := 120, locals := 20 }),
  (yX6_add, cX6_add, 2, some .int, { frames := 0, cells := 0, slots := 0, locals := 0 }),
  (yX6_empty, cX6_empty, 1, none, { frames := 0, cells := 0, slots := 0, locals := 0 }),
  (yX6_read, cX6_read, 4, some .int, { frames := 3, cells := 0, slots := 0, locals := 66 }),
  (yX6_readToken, cX6_readToken, 2, some .int, { frames := 2, cells := 0, slots := 0, locals := 45 }),
  (yX6_readSign, cX6_readSign, 2, some .int, { frames := 0, cells := 0, slots := 0, locals := 0 }),
  (yX6_readLetter, cX6_readLetter, 4, some .int, { frames := 1, cells := 0, slots := 0, locals := 21 }),
  (yX6_kindOf, cX6_kindOf, 1, some .int, { frames := 0, cells := 0, slots := 0, locals := 0 }),
  (yX6_readNumber, cX6_readNumber, 5, some .int, { frames := 1, cells := 0, slots := 0, locals := 21 }),
  (yX6_isFigure, cX6_isFigure, 1, some .boolean, { frames := 0, cells := 0, slots := 0, locals := 0 }),
  (yX6_leastTold, cX6_leastTold, 1, some .int, { frames := 0, cells := 0, slots := 0, locals := 0 }),
  (yX6_mostTold, cX6_mostTold, 1, some .int, { frames := 0, cells := 0, slots := 0, locals := 0 }),
  (yX6_placeTold, cX6_placeTold, 2, some .int, { frames := 0, cells := 0, slots := 0, locals := 0 }),
  (yX7_init, cX7_init, 1, none, { frames := 2, cells := 52, slots := 2263, locals := 42 }),
  (yX7_row, cX7_row, 4, some .int, { frames := 2, cells := 0, slots := 0, locals := 45 }),
  (yX7_set, cX7_set, 4, some .int, { frames := 3, cells := 0, slots := 0, locals := 70 }),
  (yX7_copy, cX7_copy, 6, some .int, { frames := 2, cells := 0, slots := 0, locals := 51 }),
  (yX7_drop, cX7_drop, 2, some .int, { frames := 2, cells := 0, slots := 0, locals := 43 }),
  (yX7_feed, cX7_feed, 2, some .int, { frames := 1, cells := 0, slots := 0, locals := 22 }),
  (yX7_shop, cX7_shop, 3, some .int, { frames := 4, cells := 0, slots := 0, locals := 89 }),
  (yX7_fault, cX7_fault, 1, some .int, { frames := 0, cells := 0, slots := 0, locals := 0 }),
  (yX7_undo, cX7_undo, 1, some .int, { frames := 2, cells := 0, slots := 0, locals := 47 }),
  (yX7_weeks, cX7_weeks, 3, some .int, { frames := 4, cells := 0, slots := 0, locals := 89 }),
  (yX7_stop, cX7_stop, 3, some .int, { frames := 3, cells := 0, slots := 0, locals := 70 }),
  (yX7_strike, cX7_strike, 2, some .int, { frames := 3, cells := 0, slots := 0, locals := 70 }),
  (yX7_cross, cX7_cross, 3, some .int, { frames := 3, cells := 0, slots := 0, locals := 70 }),
  (yX7_dearer, cX7_dearer, 2, some .int, { frames := 3, cells := 0, slots := 0, locals := 70 }),
  (yX7_debtor, cX7_debtor, 3, some .int, { frames := 1, cells := 0, slots := 0, locals := 22 }),
  (yX7_shopHas, cX7_shopHas, 2, some .int, { frames := 3, cells := 0, slots := 0, locals := 64 }),
  (yX7_ahead, cX7_ahead, 3, some .int, { frames := 6, cells := 0, slots := 0, locals := 132 }),
  (yX7_debt, cX7_debt, 3, some .int, { frames := 6, cells := 0, slots := 0, locals := 132 }),
  (yX7_shuts, cX7_shuts, 1, some .int, { frames := 5, cells := 0, slots := 0, locals := 111 }),
  (yX7_bestStop, cX7_bestStop, 4, some .int, { frames := 6, cells := 0, slots := 0, locals := 138 }),
  (yX7_whom, cX7_whom, 3, some .int, { frames := 7, cells := 0, slots := 0, locals := 162 }),
  (yX7_stands, cX7_stands, 1, some .int, { frames := 7, cells := 0, slots := 0, locals := 155 }),
  (yX7_dear, cX7_dear, 2, some .int, { frames := 7, cells := 0, slots := 0, locals := 156 }),
  (yX7_rogue, cX7_rogue, 4, some .int, { frames := 6, cells := 0, slots := 0, locals := 138 }),
  (yX7_who, cX7_who, 6, some .int, { frames := 6, cells := 0, slots := 0, locals := 141 }),
  (yX7_atDoor, cX7_atDoor, 2, some .int, { frames := 4, cells := 0, slots := 0, locals := 88 }),
  (yX7_pays, cX7_pays, 5, some .long, { frames := 3, cells := 0, slots := 0, locals := 64 }),
  (yX7_drawn, cX7_drawn, 5, some .int, { frames := 5, cells := 0, slots := 0, locals := 115 }),
  (yX7_image, cX7_image, 2, some .int, { frames := 2, cells := 0, slots := 0, locals := 47 }),
  (yX7_restore, cX7_restore, 2, some .int, { frames := 2, cells := 0, slots := 0, locals := 47 }),
  (yX7_kind, cX7_kind, 2, some .int, { frames := 1, cells := 0, slots := 0, locals := 21 }),
  (yX7_as, cX7_as, 3, some .int, { frames := 2, cells := 0, slots := 0, locals := 42 }),
  (yX7_ask, cX7_ask, 3, some .int, { frames := 7, cells := 0, slots := 0, locals := 148 }),
  (yX7_trace, cX7_trace, 2, some .int, { frames := 1, cells := 0, slots := 0, locals := 22 }),
  (yX7_count, cX7_count, 2, some .int, { frames := 1, cells := 0, slots := 0, locals := 23 }),
  (yX7_status, cX7_status, 1, some .int, { frames := 0, cells := 0, slots := 0, locals := 0 }),
  (yX7_within, cX7_within, 3, some .boolean, { frames := 0, cells := 0, slots := 0, locals := 0 }),
  (yX7_change, cX7_change, 4, some .int, { frames := 2, cells := 0, slots := 0, locals := 47 }),
  (yX8_init, cX8_init, 1, none, { frames := 1, cells := 11, slots := 2330, locals := 20 }),
  (yX8_in, cX8_in, 6, some .boolean, { frames := 0, cells := 0, slots := 0, locals := 0 }),
  (yX8_finding, cX8_finding, 2, some .int, { frames := 0, cells := 0, slots := 0, locals := 0 }),
  (yX8_isRow, cX8_isRow, 1, some .boolean, { frames := 1, cells := 0, slots := 0, locals := 25 }),
  (yX8_row, cX8_row, 5, some .int, { frames := 2, cells := 0, slots := 0, locals := 45 }),
  (yX8_set, cX8_set, 4, some .int, { frames := 2, cells := 0, slots := 0, locals := 45 }),
  (yX8_copy, cX8_copy, 9, some .int, { frames := 2, cells := 0, slots := 0, locals := 45 }),
  (yX8_drop, cX8_drop, 2, some .int, { frames := 2, cells := 0, slots := 0, locals := 45 }),
  (yX8_feed, cX8_feed, 2, some .int, { frames := 1, cells := 0, slots := 0, locals := 25 }),
  (yX8_bad, cX8_bad, 2, none, { frames := 0, cells := 0, slots := 0, locals := 0 }),
  (yX8_nextToken, cX8_nextToken, 1, none, { frames := 1, cells := 0, slots := 0, locals := 25 }),
  (yX8_must, cX8_must, 2, none, { frames := 2, cells := 0, slots := 0, locals := 45 }),
  (yX8_isLetter, cX8_isLetter, 2, some .boolean, { frames := 0, cells := 0, slots := 0, locals := 0 }),
  (yX8_number, cX8_number, 4, some .int, { frames := 3, cells := 0, slots := 0, locals := 66 }),
  (yX8_mustSign, cX8_mustSign, 2, none, { frames := 3, cells := 0, slots := 0, locals := 66 }),
  (yX8_begin, cX8_begin, 1, none, { frames := 2, cells := 0, slots := 0, locals := 45 }),
  (yX8_failed, cX8_failed, 1, some .boolean, { frames := 1, cells := 0, slots := 0, locals := 21 }),
  (yX8_fault, cX8_fault, 1, some .int, { frames := 0, cells := 0, slots := 0, locals := 0 }),
  (yX8_kindBy, cX8_kindBy, 1, some .int, { frames := 0, cells := 0, slots := 0, locals := 0 }),
  (yX8_isSort, cX8_isSort, 1, some .boolean, { frames := 1, cells := 0, slots := 0, locals := 20 }),
  (yX8_readDebtor, cX8_readDebtor, 6, none, { frames := 4, cells := 0, slots := 0, locals := 89 }),
  (yX8_shop, cX8_shop, 2, some .int, { frames := 5, cells := 0, slots := 0, locals := 114 }),
  (yX8_isThere, cX8_isThere, 1, some .boolean, { frames := 0, cells := 0, slots := 0, locals := 0 }),
  (yX8_isDebtor, cX8_isDebtor, 2, some .boolean, { frames := 1, cells := 0, slots := 0, locals := 25 }),
  (yX8_of, cX8_of, 3, some .int, { frames := 0, cells := 0, slots := 0, locals := 0 }),
  (yX8_isOut, cX8_isOut, 2, some .boolean, { frames := 1, cells := 0, slots := 0, locals := 22 }),
  (yX8_least, cX8_least, 2, some .int, { frames := 0, cells := 0, slots := 0, locals := 0 }),
  (yX8_takes, cX8_takes, 5, none, { frames := 1, cells := 0, slots := 0, locals := 21 }),
  (yX8_payBy, cX8_payBy, 4, some .int, { frames := 1, cells := 0, slots := 0, locals := 22 }),
  (yX8_payOne, cX8_payOne, 4, none, { frames := 2, cells := 0, slots := 0, locals := 45 }),
  (yX8_week, cX8_week, 2, none, { frames := 3, cells := 0, slots := 0, locals := 68 }),
  (yX8_weeksOf, cX8_weeksOf, 3, none, { frames := 4, cells := 0, slots := 0, locals := 89 }),
  (yX8_layThen, cX8_layThen, 2, none, { frames := 0, cells := 0, slots := 0, locals := 0 }),
  (yX8_lostOf, cX8_lostOf, 3, some .int, { frames := 2, cells := 0, slots := 0, locals := 43 }),
  (yX8_debtsOf, cX8_debtsOf, 3, some .int, { frames := 1, cells := 0, slots := 0, locals := 22 }),
  (yX8_keep, cX8_keep, 2, none, { frames := 0, cells := 0, slots := 0, locals := 0 }),
  (yX8_weeks, cX8_weeks, 3, some .int, { frames := 4, cells := 0, slots := 0, locals := 89 }),
  (yX8_stop, cX8_stop, 4, some .int, { frames := 2, cells := 0, slots := 0, locals := 46 }),
  (yX8_strike, cX8_strike, 3, some .int, { frames := 1, cells := 0, slots := 0, locals := 25 }),
  (yX8_cross, cX8_cross, 4, some .int, { frames := 3, cells := 0, slots := 0, locals := 65 }),
  (yX8_dearer, cX8_dearer, 3, some .int, { frames := 1, cells := 0, slots := 0, locals := 25 }),
  (yX8_undo, cX8_undo, 2, some .int, { frames := 0, cells := 0, slots := 0, locals := 0 }),
  (yX8_debtor, cX8_debtor, 4, some .int, { frames := 2, cells := 0, slots := 0, locals := 46 }),
  (yX8_shopHas, cX8_shopHas, 2, some .int, { frames := 3, cells := 0, slots := 0, locals := 65 }),
  (yX8_ahead, cX8_ahead, 3, some .int, { frames := 5, cells := 0, slots := 0, locals := 111 }),
  (yX8_debt, cX8_debt, 3, some .int, { frames := 5, cells := 0, slots := 0, locals := 111 }),
  (yX8_shuts, cX8_shuts, 2, some .int, { frames := 4, cells := 0, slots := 0, locals := 89 }),
  (yX8_bestStop, cX8_bestStop, 9, some .int, { frames := 5, cells := 0, slots := 0, locals := 111 }),
  (yX8_bits, cX8_bits, 3, some .int, { frames := 0, cells := 0, slots := 0, locals := 0 }),
  (yX8_whom, cX8_whom, 8, some .int, { frames := 5, cells := 0, slots := 0, locals := 111 }),
  (yX8_stands, cX8_stands, 2, some .int, { frames := 5, cells := 0, slots := 0, locals := 111 }),
  (yX8_dear, cX8_dear, 3, some .int, { frames := 5, cells := 0, slots := 0, locals := 111 }),
  (yX8_rogue, cX8_rogue, 10, some .int, { frames := 5, cells := 0, slots := 0, locals := 111 }),
  (yX8_who, cX8_who, 10, some .int, { frames := 4, cells := 0, slots := 0, locals := 89 }),
  (yX8_atDoor, cX8_atDoor, 7, some .int, { frames := 2, cells := 0, slots := 0, locals := 43 }),
  (yX8_pays, cX8_pays, 15, some .long, { frames := 2, cells := 0, slots := 0, locals := 43 }),
  (yX8_drawn, cX8_drawn, 8, some .int, { frames := 4, cells := 0, slots := 0, locals := 89 }),
  (yX8_image, cX8_image, 3, some .int, { frames := 1, cells := 0, slots := 0, locals := 25 }),
  (yX8_restore, cX8_restore, 3, some .int, { frames := 1, cells := 0, slots := 0, locals := 25 }),
  (yX8_isOf, cX8_isOf, 2, some .boolean, { frames := 0, cells := 0, slots := 0, locals := 0 }),
  (yX8_kind, cX8_kind, 2, some .int, { frames := 2, cells := 0, slots := 0, locals := 46 }),
  (yX8_as, cX8_as, 3, some .int, { frames := 2, cells := 0, slots := 0, locals := 46 }),
  (yX8_began, cX8_began, 2, none, { frames := 0, cells := 0, slots := 0, locals := 0 }),
  (yX8_plainSize, cX8_plainSize, 2, some .int, { frames := 1, cells := 0, slots := 0, locals := 22 }),
  (yX8_twiceSize, cX8_twiceSize, 4, some .int, { frames := 2, cells := 0, slots := 0, locals := 43 }),
  (yX8_markOf, cX8_markOf, 4, some .int, { frames := 3, cells := 0, slots := 0, locals := 66 }),
  (yX8_sizeOf, cX8_sizeOf, 4, some .int, { frames := 4, cells := 0, slots := 0, locals := 89 }),
  (yX8_ask, cX8_ask, 3, some .int, { frames := 5, cells := 0, slots := 0, locals := 112 }),
  (yX8_trace, cX8_trace, 2, some .int, { frames := 1, cells := 0, slots := 0, locals := 25 }),
  (yX8_setOf, cX8_setOf, 4, some .int, { frames := 1, cells := 0, slots := 0, locals := 22 }),
  (yX8_count, cX8_count, 4, some .int, { frames := 2, cells := 0, slots := 0, locals := 45 }),
  (yX8_status, cX8_status, 1, some .int, { frames := 0, cells := 0, slots := 0, locals := 0 }),
  (yJ6_bitCount_0f7a4, cJ6_bitCount_0f7a4, 1, some .int, { frames := 0, cells := 0, slots := 0, locals := 0 })]
theorem ztb_X0_init : sx_tb[0]? = some (yX0_init, cX0_init, 1, none, { frames := 1, cells := 25, slots := 1512, locals := 20 }) := rfl
theorem zpd_X0_init : (parseMethodDescriptor yX0_init.desc).map (fun d => d.parameters.length) = some 0 := by decide +kernel
theorem ztb_X0_forget : sx_tb[1]? = some (yX0_forget, cX0_forget, 1, none, { frames := 0, cells := 0, slots := 0, locals := 0 }) := rfl
theorem zpd_X0_forget : (parseMethodDescriptor yX0_forget.desc).map (fun d => d.parameters.length) = some 0 := by decide +kernel
theorem ztb_X0_keep : sx_tb[2]? = some (yX0_keep, cX0_keep, 2, none, { frames := 1, cells := 0, slots := 0, locals := 26 }) := rfl
theorem zpd_X0_keep : (parseMethodDescriptor yX0_keep.desc).map (fun d => d.parameters.length) = some 1 := by decide +kernel
theorem ztb_X0_takeBack : sx_tb[3]? = some (yX0_takeBack, cX0_takeBack, 2, some .int, { frames := 1, cells := 0, slots := 0, locals := 26 }) := rfl
theorem zpd_X0_takeBack : (parseMethodDescriptor yX0_takeBack.desc).map (fun d => d.parameters.length) = some 1 := by decide +kernel
theorem ztb_X1_init : sx_tb[4]? = some (yX1_init, cX1_init, 2, none, { frames := 1, cells := 1, slots := 16, locals := 20 }) := rfl
theorem zpd_X1_init : (parseMethodDescriptor yX1_init.desc).map (fun d => d.parameters.length) = some 1 := by decide +kernel
theorem ztb_X1_sizeOf : sx_tb[5]? = some (yX1_sizeOf, cX1_sizeOf, 2, some .int, { frames := 6, cells := 0, slots := 0, locals := 127 }) := rfl
theorem zpd_X1_sizeOf : (parseMethodDescriptor yX1_sizeOf.desc).map (fun d => d.parameters.length) = some 1 := by decide +kernel
theorem ztb_X1_markOf : sx_tb[6]? = some (yX1_markOf, cX1_markOf, 2, some .int, { frames := 6, cells := 0, slots := 0, locals := 127 }) := rfl
theorem zpd_X1_markOf : (parseMethodDescriptor yX1_markOf.desc).map (fun d => d.parameters.length) = some 1 := by decide +kernel
theorem ztb_X1_markOfSteady : sx_tb[7]? = some (yX1_markOfSteady, cX1_markOfSteady, 2, some .int, { frames := 3, cells := 0, slots := 0, locals := 63 }) := rfl
theorem zpd_X1_markOfSteady : (parseMethodDescriptor yX1_markOfSteady.desc).map (fun d => d.parameters.length) = some 1 := by decide +kernel
theorem ztb_X1_sizeOfTwice : sx_tb[8]? = some (yX1_sizeOfTwice, cX1_sizeOfTwice, 2, some .int, { frames := 4, cells := 0, slots := 0, locals := 84 }) := rfl
theorem zpd_X1_sizeOfTwice : (parseMethodDescriptor yX1_sizeOfTwice.desc).map (fun d => d.parameters.length) = some 1 := by decide +kernel
theorem ztb_X1_begin : sx_tb[9]? = some (yX1_begin, cX1_begin, 2, none, { frames := 0, cells := 0, slots := 0, locals := 0 }) := rfl
theorem zpd_X1_begin : (parseMethodDescriptor yX1_begin.desc).map (fun d => d.parameters.length) = some 1 := by decide +kernel
theorem ztb_X1_size10 : sx_tb[10]? = some (yX1_size10, cX1_size10, 2, some .int, { frames := 1, cells := 0, slots := 0, locals := 21 }) := rfl
theorem zpd_X1_size10 : (parseMethodDescriptor yX1_size10.desc).map (fun d => d.parameters.length) = some 1 := by decide +kernel
theorem ztb_X1_size11 : sx_tb[11]? = some (yX1_size11, cX1_size11, 3, some .int, { frames := 4, cells := 0, slots := 0, locals := 84 }) := rfl
theorem zpd_X1_size11 : (parseMethodDescriptor yX1_size11.desc).map (fun d => d.parameters.length) = some 1 := by decide +kernel
theorem ztb_X1_size12 : sx_tb[12]? = some (yX1_size12, cX1_size12, 2, some .int, { frames := 5, cells := 0, slots := 0, locals := 106 }) := rfl
theorem zpd_X1_size12 : (parseMethodDescriptor yX1_size12.desc).map (fun d => d.parameters.length) = some 1 := by decide +kernel
theorem ztb_X1_size13 : sx_tb[13]? = some (yX1_size13, cX1_size13, 2, some .int, { frames := 2, cells := 0, slots := 0, locals := 42 }) := rfl
theorem zpd_X1_size13 : (parseMethodDescriptor yX1_size13.desc).map (fun d => d.parameters.length) = some 1 := by decide +kernel
theorem ztb_X1_size14 : sx_tb[14]? = some (yX1_size14, cX1_size14, 2, some .int, { frames := 3, cells := 0, slots := 0, locals := 63 }) := rfl
theorem zpd_X1_size14 : (parseMethodDescriptor yX1_size14.desc).map (fun d => d.parameters.length) = some 1 := by decide +kernel
theorem ztb_X1_mark20 : sx_tb[15]? = some (yX1_mark20, cX1_mark20, 2, some .int, { frames := 1, cells := 0, slots := 0, locals := 21 }) := rfl
theorem zpd_X1_mark20 : (parseMethodDescriptor yX1_mark20.desc).map (fun d => d.parameters.length) = some 1 := by decide +kernel
theorem ztb_X1_mark21 : sx_tb[16]? = some (yX1_mark21, cX1_mark21, 2, some .int, { frames := 1, cells := 0, slots := 0, locals := 21 }) := rfl
theorem zpd_X1_mark21 : (parseMethodDescriptor yX1_mark21.desc).map (fun d => d.parameters.length) = some 1 := by decide +kernel
theorem ztb_X1_mark22 : sx_tb[17]? = some (yX1_mark22, cX1_mark22, 2, some .int, { frames := 2, cells := 0, slots := 0, locals := 42 }) := rfl
theorem zpd_X1_mark22 : (parseMethodDescriptor yX1_mark22.desc).map (fun d => d.parameters.length) = some 1 := by decide +kernel
theorem ztb_X1_mark23 : sx_tb[18]? = some (yX1_mark23, cX1_mark23, 3, some .int, { frames := 5, cells := 0, slots := 0, locals := 105 }) := rfl
theorem zpd_X1_mark23 : (parseMethodDescriptor yX1_mark23.desc).map (fun d => d.parameters.length) = some 1 := by decide +kernel
theorem ztb_X1_mark24 : sx_tb[19]? = some (yX1_mark24, cX1_mark24, 2, some .int, { frames := 2, cells := 0, slots := 0, locals := 42 }) := rfl
theorem zpd_X1_mark24 : (parseMethodDescriptor yX1_mark24.desc).map (fun d => d.parameters.length) = some 1 := by decide +kernel
theorem ztb_X2_init : sx_tb[20]? = some (yX2_init, cX2_init, 1, none, { frames := 1, cells := 1, slots := 62, locals := 20 }) := rfl
theorem zpd_X2_init : (parseMethodDescriptor yX2_init.desc).map (fun d => d.parameters.length) = some 0 := by decide +kernel
theorem ztb_X2_clear : sx_tb[21]? = some (yX2_clear, cX2_clear, 2, none, { frames := 0, cells := 0, slots := 0, locals := 0 }) := rfl
theorem zpd_X2_clear : (parseMethodDescriptor yX2_clear.desc).map (fun d => d.parameters.length) = some 0 := by decide +kernel
theorem ztb_X2_becomes : sx_tb[22]? = some (yX2_becomes, cX2_becomes, 2, none, { frames := 1, cells := 0, slots := 0, locals := 26 }) := rfl
theorem zpd_X2_becomes : (parseMethodDescriptor yX2_becomes.desc).map (fun d => d.parameters.length) = some 1 := by decide +kernel
theorem ztb_X2_isThere : sx_tb[23]? = some (yX2_isThere, cX2_isThere, 1, some .boolean, { frames := 0, cells := 0, slots := 0, locals := 0 }) := rfl
theorem zpd_X2_isThere : (parseMethodDescriptor yX2_isThere.desc).map (fun d => d.parameters.length) = some 0 := by decide +kernel
theorem ztb_X2_has : sx_tb[24]? = some (yX2_has, cX2_has, 2, some .boolean, { frames := 0, cells := 0, slots := 0, locals := 0 }) := rfl
theorem zpd_X2_has : (parseMethodDescriptor yX2_has.desc).map (fun d => d.parameters.length) = some 1 := by decide +kernel
theorem ztb_X2_comes : sx_tb[25]? = some (yX2_comes, cX2_comes, 2, some .boolean, { frames := 1, cells := 0, slots := 0, locals := 21 }) := rfl
theorem zpd_X2_comes : (parseMethodDescriptor yX2_comes.desc).map (fun d => d.parameters.length) = some 1 := by decide +kernel
theorem ztb_X2_isKind : sx_tb[26]? = some (yX2_isKind, cX2_isKind, 3, some .boolean, { frames := 1, cells := 0, slots := 0, locals := 20 }) := rfl
theorem zpd_X2_isKind : (parseMethodDescriptor yX2_isKind.desc).map (fun d => d.parameters.length) = some 2 := by decide +kernel
theorem ztb_X2_nearestKind : sx_tb[27]? = some (yX2_nearestKind, cX2_nearestKind, 1, some .int, { frames := 0, cells := 0, slots := 0, locals := 0 }) := rfl
theorem zpd_X2_nearestKind : (parseMethodDescriptor yX2_nearestKind.desc).map (fun d => d.parameters.length) = some 1 := by decide +kernel
theorem ztb_X2_passWeek : sx_tb[28]? = some (yX2_passWeek, cX2_passWeek, 2, some .int, { frames := 3, cells := 0, slots := 0, locals := 68 }) := rfl
theorem zpd_X2_passWeek : (parseMethodDescriptor yX2_passWeek.desc).map (fun d => d.parameters.length) = some 0 := by decide +kernel
theorem ztb_X2_takeAll : sx_tb[29]? = some (yX2_takeAll, cX2_takeAll, 2, none, { frames := 2, cells := 0, slots := 0, locals := 44 }) := rfl
theorem zpd_X2_takeAll : (parseMethodDescriptor yX2_takeAll.desc).map (fun d => d.parameters.length) = some 0 := by decide +kernel
theorem ztb_X2_take : sx_tb[30]? = some (yX2_take, cX2_take, 4, none, { frames := 1, cells := 0, slots := 0, locals := 21 }) := rfl
theorem zpd_X2_take : (parseMethodDescriptor yX2_take.desc).map (fun d => d.parameters.length) = some 1 := by decide +kernel
theorem ztb_X2_payAll : sx_tb[31]? = some (yX2_payAll, cX2_payAll, 3, some .int, { frames := 2, cells := 0, slots := 0, locals := 46 }) := rfl
theorem zpd_X2_payAll : (parseMethodDescriptor yX2_payAll.desc).map (fun d => d.parameters.length) = some 0 := by decide +kernel
theorem ztb_X2_makesOff : sx_tb[32]? = some (yX2_makesOff, cX2_makesOff, 3, some .boolean, { frames := 0, cells := 0, slots := 0, locals := 0 }) := rfl
theorem zpd_X2_makesOff : (parseMethodDescriptor yX2_makesOff.desc).map (fun d => d.parameters.length) = some 1 := by decide +kernel
theorem ztb_X2_pay : sx_tb[33]? = some (yX2_pay, cX2_pay, 5, some .int, { frames := 1, cells := 0, slots := 0, locals := 22 }) := rfl
theorem zpd_X2_pay : (parseMethodDescriptor yX2_pay.desc).map (fun d => d.parameters.length) = some 1 := by decide +kernel
theorem ztb_X2_spared : sx_tb[34]? = some (yX2_spared, cX2_spared, 3, some .int, { frames := 0, cells := 0, slots := 0, locals := 0 }) := rfl
theorem zpd_X2_spared : (parseMethodDescriptor yX2_spared.desc).map (fun d => d.parameters.length) = some 2 := by decide +kernel
theorem ztb_X2_worth : sx_tb[35]? = some (yX2_worth, cX2_worth, 1, some .int, { frames := 0, cells := 0, slots := 0, locals := 0 }) := rfl
theorem zpd_X2_worth : (parseMethodDescriptor yX2_worth.desc).map (fun d => d.parameters.length) = some 0 := by decide +kernel
theorem ztb_X2_allDebts : sx_tb[36]? = some (yX2_allDebts, cX2_allDebts, 3, some .int, { frames := 0, cells := 0, slots := 0, locals := 0 }) := rfl
theorem zpd_X2_allDebts : (parseMethodDescriptor yX2_allDebts.desc).map (fun d => d.parameters.length) = some 0 := by decide +kernel
theorem ztb_X2_lost : sx_tb[37]? = some (yX2_lost, cX2_lost, 3, some .int, { frames := 2, cells := 0, slots := 0, locals := 42 }) := rfl
theorem zpd_X2_lost : (parseMethodDescriptor yX2_lost.desc).map (fun d => d.parameters.length) = some 0 := by decide +kernel
theorem ztb_X2_bits : sx_tb[38]? = some (yX2_bits, cX2_bits, 4, some .int, { frames := 0, cells := 0, slots := 0, locals := 0 }) := rfl
theorem zpd_X2_bits : (parseMethodDescriptor yX2_bits.desc).map (fun d => d.parameters.length) = some 1 := by decide +kernel
theorem ztb_X2_howManyCome : sx_tb[39]? = some (yX2_howManyCome, cX2_howManyCome, 3, some .int, { frames := 2, cells := 0, slots := 0, locals := 42 }) := rfl
theorem zpd_X2_howManyCome : (parseMethodDescriptor yX2_howManyCome.desc).map (fun d => d.parameters.length) = some 0 := by decide +kernel
theorem ztb_X2_owingMost : sx_tb[40]? = some (yX2_owingMost, cX2_owingMost, 3, some .int, { frames := 3, cells := 0, slots := 0, locals := 66 }) := rfl
theorem zpd_X2_owingMost : (parseMethodDescriptor yX2_owingMost.desc).map (fun d => d.parameters.length) = some 1 := by decide +kernel
theorem ztb_X2_aheadOf : sx_tb[41]? = some (yX2_aheadOf, cX2_aheadOf, 5, some .int, { frames := 2, cells := 0, slots := 0, locals := 42 }) := rfl
theorem zpd_X2_aheadOf : (parseMethodDescriptor yX2_aheadOf.desc).map (fun d => d.parameters.length) = some 1 := by decide +kernel
theorem ztb_X3_atLeast : sx_tb[42]? = some (yX3_atLeast, cX3_atLeast, 10, some .long, { frames := 1, cells := 0, slots := 0, locals := 26 }) := rfl
theorem zpd_X3_atLeast : (parseMethodDescriptor yX3_atLeast.desc).map (fun d => d.parameters.length) = some 4 := by decide +kernel
theorem ztb_X3_choices : sx_tb[43]? = some (yX3_choices, cX3_choices, 5, some .long, { frames := 0, cells := 0, slots := 0, locals := 0 }) := rfl
theorem zpd_X3_choices : (parseMethodDescriptor yX3_choices.desc).map (fun d => d.parameters.length) = some 2 := by decide +kernel
theorem ztb_X3_power : sx_tb[44]? = some (yX3_power, cX3_power, 5, some .long, { frames := 0, cells := 0, slots := 0, locals := 0 }) := rfl
theorem zpd_X3_power : (parseMethodDescriptor yX3_power.desc).map (fun d => d.parameters.length) = some 2 := by decide +kernel
theorem ztb_X3_commonDivisor : sx_tb[45]? = some (yX3_commonDivisor, cX3_commonDivisor, 7, some .long, { frames := 0, cells := 0, slots := 0, locals := 0 }) := rfl
theorem zpd_X3_commonDivisor : (parseMethodDescriptor yX3_commonDivisor.desc).map (fun d => d.parameters.length) = some 2 := by decide +kernel
theorem ztb_X4_init : sx_tb[46]? = some (yX4_init, cX4_init, 3, none, { frames := 1, cells := 0, slots := 0, locals := 20 }) := rfl
theorem zpd_X4_init : (parseMethodDescriptor yX4_init.desc).map (fun d => d.parameters.length) = some 2 := by decide +kernel
theorem ztb_X4_look : sx_tb[47]? = some (yX4_look, cX4_look, 2, none, { frames := 5, cells := 0, slots := 0, locals := 111 }) := rfl
theorem zpd_X4_look : (parseMethodDescriptor yX4_look.desc).map (fun d => d.parameters.length) = some 1 := by decide +kernel
theorem ztb_X4_pass : sx_tb[48]? = some (yX4_pass, cX4_pass, 3, none, { frames := 4, cells := 0, slots := 0, locals := 89 }) := rfl
theorem zpd_X4_pass : (parseMethodDescriptor yX4_pass.desc).map (fun d => d.parameters.length) = some 1 := by decide +kernel
theorem ztb_X4_weeksUntilShut : sx_tb[49]? = some (yX4_weeksUntilShut, cX4_weeksUntilShut, 3, some .int, { frames := 4, cells := 0, slots := 0, locals := 89 }) := rfl
theorem zpd_X4_weeksUntilShut : (parseMethodDescriptor yX4_weeksUntilShut.desc).map (fun d => d.parameters.length) = some 1 := by decide +kernel
theorem ztb_X4_stopForShop : sx_tb[50]? = some (yX4_stopForShop, cX4_stopForShop, 8, some .int, { frames := 5, cells := 0, slots := 0, locals := 111 }) := rfl
theorem zpd_X4_stopForShop : (parseMethodDescriptor yX4_stopForShop.desc).map (fun d => d.parameters.length) = some 3 := by decide +kernel
theorem ztb_X4_stopForRogue : sx_tb[51]? = some (yX4_stopForRogue, cX4_stopForRogue, 8, some .int, { frames := 5, cells := 0, slots := 0, locals := 111 }) := rfl
theorem zpd_X4_stopForRogue : (parseMethodDescriptor yX4_stopForRogue.desc).map (fun d => d.parameters.length) = some 3 := by decide +kernel
theorem ztb_X4_grown : sx_tb[52]? = some (yX4_grown, cX4_grown, 2, some .int, { frames := 0, cells := 0, slots := 0, locals := 0 }) := rfl
theorem zpd_X4_grown : (parseMethodDescriptor yX4_grown.desc).map (fun d => d.parameters.length) = some 1 := by decide +kernel
theorem ztb_X4_bestSet : sx_tb[53]? = some (yX4_bestSet, cX4_bestSet, 9, some .int, { frames := 6, cells := 0, slots := 0, locals := 134 }) := rfl
theorem zpd_X4_bestSet : (parseMethodDescriptor yX4_bestSet.desc).map (fun d => d.parameters.length) = some 2 := by decide +kernel
theorem ztb_X4_giveOnlyTo : sx_tb[54]? = some (yX4_giveOnlyTo, cX4_giveOnlyTo, 4, none, { frames := 5, cells := 0, slots := 0, locals := 111 }) := rfl
theorem zpd_X4_giveOnlyTo : (parseMethodDescriptor yX4_giveOnlyTo.desc).map (fun d => d.parameters.length) = some 2 := by decide +kernel
theorem ztb_X4_longestStrike : sx_tb[55]? = some (yX4_longestStrike, cX4_longestStrike, 2, some .int, { frames := 6, cells := 0, slots := 0, locals := 134 }) := rfl
theorem zpd_X4_longestStrike : (parseMethodDescriptor yX4_longestStrike.desc).map (fun d => d.parameters.length) = some 0 := by decide +kernel
theorem ztb_X4_leastDearer : sx_tb[56]? = some (yX4_leastDearer, cX4_leastDearer, 3, some .int, { frames := 6, cells := 0, slots := 0, locals := 134 }) := rfl
theorem zpd_X4_leastDearer : (parseMethodDescriptor yX4_leastDearer.desc).map (fun d => d.parameters.length) = some 1 := by decide +kernel
theorem ztb_X4_lasts : sx_tb[57]? = some (yX4_lasts, cX4_lasts, 4, some .boolean, { frames := 5, cells := 0, slots := 0, locals := 111 }) := rfl
theorem zpd_X4_lasts : (parseMethodDescriptor yX4_lasts.desc).map (fun d => d.parameters.length) = some 3 := by decide +kernel
theorem ztb_X4_kindsThatPay : sx_tb[58]? = some (yX4_kindsThatPay, cX4_kindsThatPay, 7, some .int, { frames := 5, cells := 0, slots := 0, locals := 115 }) := rfl
theorem zpd_X4_kindsThatPay : (parseMethodDescriptor yX4_kindsThatPay.desc).map (fun d => d.parameters.length) = some 4 := by decide +kernel
theorem ztb_X4_paysAsTold : sx_tb[59]? = some (yX4_paysAsTold, cX4_paysAsTold, 7, some .boolean, { frames := 4, cells := 0, slots := 0, locals := 89 }) := rfl
theorem zpd_X4_paysAsTold : (parseMethodDescriptor yX4_paysAsTold.desc).map (fun d => d.parameters.length) = some 4 := by decide +kernel
theorem ztb_X4_idleWeeks : sx_tb[60]? = some (yX4_idleWeeks, cX4_idleWeeks, 7, some .int, { frames := 4, cells := 0, slots := 0, locals := 89 }) := rfl
theorem zpd_X4_idleWeeks : (parseMethodDescriptor yX4_idleWeeks.desc).map (fun d => d.parameters.length) = some 2 := by decide +kernel
theorem ztb_X5_init : sx_tb[61]? = some (yX5_init, cX5_init, 2, none, { frames := 1, cells := 11, slots := 344, locals := 20 }) := rfl
theorem zpd_X5_init : (parseMethodDescriptor yX5_init.desc).map (fun d => d.parameters.length) = some 0 := by decide +kernel
theorem ztb_X5_isRow : sx_tb[62]? = some (yX5_isRow, cX5_isRow, 1, some .boolean, { frames := 0, cells := 0, slots := 0, locals := 0 }) := rfl
theorem zpd_X5_isRow : (parseMethodDescriptor yX5_isRow.desc).map (fun d => d.parameters.length) = some 1 := by decide +kernel
theorem ztb_X5_find : sx_tb[63]? = some (yX5_find, cX5_find, 2, some .int, { frames := 0, cells := 0, slots := 0, locals := 0 }) := rfl
theorem zpd_X5_find : (parseMethodDescriptor yX5_find.desc).map (fun d => d.parameters.length) = some 1 := by decide +kernel
theorem ztb_X5_make : sx_tb[64]? = some (yX5_make, cX5_make, 5, some .int, { frames := 1, cells := 0, slots := 0, locals := 21 }) := rfl
theorem zpd_X5_make : (parseMethodDescriptor yX5_make.desc).map (fun d => d.parameters.length) = some 3 := by decide +kernel
theorem ztb_X5_put : sx_tb[65]? = some (yX5_put, cX5_put, 5, some .int, { frames := 2, cells := 0, slots := 0, locals := 46 }) := rfl
theorem zpd_X5_put : (parseMethodDescriptor yX5_put.desc).map (fun d => d.parameters.length) = some 3 := by decide +kernel
theorem ztb_X5_carry : sx_tb[66]? = some (yX5_carry, cX5_carry, 6, some .int, { frames := 1, cells := 0, slots := 0, locals := 26 }) := rfl
theorem zpd_X5_carry : (parseMethodDescriptor yX5_carry.desc).map (fun d => d.parameters.length) = some 5 := by decide +kernel
theorem ztb_X5_lose : sx_tb[67]? = some (yX5_lose, cX5_lose, 3, some .int, { frames := 1, cells := 0, slots := 0, locals := 21 }) := rfl
theorem zpd_X5_lose : (parseMethodDescriptor yX5_lose.desc).map (fun d => d.parameters.length) = some 1 := by decide +kernel
theorem ztb_X5_look : sx_tb[68]? = some (yX5_look, cX5_look, 4, some .int, { frames := 1, cells := 0, slots := 0, locals := 23 }) := rfl
theorem zpd_X5_look : (parseMethodDescriptor yX5_look.desc).map (fun d => d.parameters.length) = some 3 := by decide +kernel
theorem ztb_X5_present : sx_tb[69]? = some (yX5_present, cX5_present, 3, some .int, { frames := 0, cells := 0, slots := 0, locals := 0 }) := rfl
theorem zpd_X5_present : (parseMethodDescriptor yX5_present.desc).map (fun d => d.parameters.length) = some 0 := by decide +kernel
theorem ztb_X5_fits : sx_tb[70]? = some (yX5_fits, cX5_fits, 4, some .boolean, { frames := 0, cells := 0, slots := 0, locals := 0 }) := rfl
theorem zpd_X5_fits : (parseMethodDescriptor yX5_fits.desc).map (fun d => d.parameters.length) = some 3 := by decide +kernel
theorem ztb_X5_narrowed : sx_tb[71]? = some (yX5_narrowed, cX5_narrowed, 2, some .int, { frames := 0, cells := 0, slots := 0, locals := 0 }) := rfl
theorem zpd_X5_narrowed : (parseMethodDescriptor yX5_narrowed.desc).map (fun d => d.parameters.length) = some 2 := by decide +kernel
theorem ztb_X6_init : sx_tb[72]? = some (yX6_init, cX6_init, 1, none, { frames := 1, cells := 1, slots := 120, locals := 20 }) := rfl
theorem zpd_X6_init : (parseMethodDescriptor yX6_init.desc).map (fun d => d.parameters.length) = some 0 := by decide +kernel
theorem ztb_X6_add : sx_tb[73]? = some (yX6_add, cX6_add, 2, some .int, { frames := 0, cells := 0, slots := 0, locals := 0 }) := rfl
theorem zpd_X6_add : (parseMethodDescriptor yX6_add.desc).map (fun d => d.parameters.length) = some 1 := by decide +kernel
theorem ztb_X6_empty : sx_tb[74]? = some (yX6_empty, cX6_empty, 1, none, { frames := 0, cells := 0, slots := 0, locals := 0 }) := rfl
theorem zpd_X6_empty : (parseMethodDescriptor yX6_empty.desc).map (fun d => d.parameters.length) = some 0 := by decide +kernel
theorem ztb_X6_read : sx_tb[75]? = some (yX6_read, cX6_read, 4, some .int, { frames := 3, cells := 0, slots := 0, locals := 66 }) := rfl
theorem zpd_X6_read : (parseMethodDescriptor yX6_read.desc).map (fun d => d.parameters.length) = some 1 := by decide +kernel
theorem ztb_X6_readToken : sx_tb[76]? = some (yX6_readToken, cX6_readToken, 2, some .int, { frames := 2, cells := 0, slots := 0, locals := 45 }) := rfl
theorem zpd_X6_readToken : (parseMethodDescriptor yX6_readToken.desc).map (fun d => d.parameters.length) = some 1 := by decide +kernel
theorem ztb_X6_readSign : sx_tb[77]? = some (yX6_readSign, cX6_readSign, 2, some .int, { frames := 0, cells := 0, slots := 0, locals := 0 }) := rfl
theorem zpd_X6_readSign : (parseMethodDescriptor yX6_readSign.desc).map (fun d => d.parameters.length) = some 1 := by decide +kernel
theorem ztb_X6_readLetter : sx_tb[78]? = some (yX6_readLetter, cX6_readLetter, 4, some .int, { frames := 1, cells := 0, slots := 0, locals := 21 }) := rfl
theorem zpd_X6_readLetter : (parseMethodDescriptor yX6_readLetter.desc).map (fun d => d.parameters.length) = some 1 := by decide +kernel
theorem ztb_X6_kindOf : sx_tb[79]? = some (yX6_kindOf, cX6_kindOf, 1, some .int, { frames := 0, cells := 0, slots := 0, locals := 0 }) := rfl
theorem zpd_X6_kindOf : (parseMethodDescriptor yX6_kindOf.desc).map (fun d => d.parameters.length) = some 1 := by decide +kernel
theorem ztb_X6_readNumber : sx_tb[80]? = some (yX6_readNumber, cX6_readNumber, 5, some .int, { frames := 1, cells := 0, slots := 0, locals := 21 }) := rfl
theorem zpd_X6_readNumber : (parseMethodDescriptor yX6_readNumber.desc).map (fun d => d.parameters.length) = some 1 := by decide +kernel
theorem ztb_X6_isFigure : sx_tb[81]? = some (yX6_isFigure, cX6_isFigure, 1, some .boolean, { frames := 0, cells := 0, slots := 0, locals := 0 }) := rfl
theorem zpd_X6_isFigure : (parseMethodDescriptor yX6_isFigure.desc).map (fun d => d.parameters.length) = some 1 := by decide +kernel
theorem ztb_X6_leastTold : sx_tb[82]? = some (yX6_leastTold, cX6_leastTold, 1, some .int, { frames := 0, cells := 0, slots := 0, locals := 0 }) := rfl
theorem zpd_X6_leastTold : (parseMethodDescriptor yX6_leastTold.desc).map (fun d => d.parameters.length) = some 0 := by decide +kernel
theorem ztb_X6_mostTold : sx_tb[83]? = some (yX6_mostTold, cX6_mostTold, 1, some .int, { frames := 0, cells := 0, slots := 0, locals := 0 }) := rfl
theorem zpd_X6_mostTold : (parseMethodDescriptor yX6_mostTold.desc).map (fun d => d.parameters.length) = some 0 := by decide +kernel
theorem ztb_X6_placeTold : sx_tb[84]? = some (yX6_placeTold, cX6_placeTold, 2, some .int, { frames := 0, cells := 0, slots := 0, locals := 0 }) := rfl
theorem zpd_X6_placeTold : (parseMethodDescriptor yX6_placeTold.desc).map (fun d => d.parameters.length) = some 0 := by decide +kernel
theorem ztb_X7_init : sx_tb[85]? = some (yX7_init, cX7_init, 1, none, { frames := 2, cells := 52, slots := 2263, locals := 42 }) := rfl
theorem zpd_X7_init : (parseMethodDescriptor yX7_init.desc).map (fun d => d.parameters.length) = some 0 := by decide +kernel
theorem ztb_X7_row : sx_tb[86]? = some (yX7_row, cX7_row, 4, some .int, { frames := 2, cells := 0, slots := 0, locals := 45 }) := rfl
theorem zpd_X7_row : (parseMethodDescriptor yX7_row.desc).map (fun d => d.parameters.length) = some 3 := by decide +kernel
theorem ztb_X7_set : sx_tb[87]? = some (yX7_set, cX7_set, 4, some .int, { frames := 3, cells := 0, slots := 0, locals := 70 }) := rfl
theorem zpd_X7_set : (parseMethodDescriptor yX7_set.desc).map (fun d => d.parameters.length) = some 3 := by decide +kernel
theorem ztb_X7_copy : sx_tb[88]? = some (yX7_copy, cX7_copy, 6, some .int, { frames := 2, cells := 0, slots := 0, locals := 51 }) := rfl
theorem zpd_X7_copy : (parseMethodDescriptor yX7_copy.desc).map (fun d => d.parameters.length) = some 5 := by decide +kernel
theorem ztb_X7_drop : sx_tb[89]? = some (yX7_drop, cX7_drop, 2, some .int, { frames := 2, cells := 0, slots := 0, locals := 43 }) := rfl
theorem zpd_X7_drop : (parseMethodDescriptor yX7_drop.desc).map (fun d => d.parameters.length) = some 1 := by decide +kernel
theorem ztb_X7_feed : sx_tb[90]? = some (yX7_feed, cX7_feed, 2, some .int, { frames := 1, cells := 0, slots := 0, locals := 22 }) := rfl
theorem zpd_X7_feed : (parseMethodDescriptor yX7_feed.desc).map (fun d => d.parameters.length) = some 1 := by decide +kernel
theorem ztb_X7_shop : sx_tb[91]? = some (yX7_shop, cX7_shop, 3, some .int, { frames := 4, cells := 0, slots := 0, locals := 89 }) := rfl
theorem zpd_X7_shop : (parseMethodDescriptor yX7_shop.desc).map (fun d => d.parameters.length) = some 0 := by decide +kernel
theorem ztb_X7_fault : sx_tb[92]? = some (yX7_fault, cX7_fault, 1, some .int, { frames := 0, cells := 0, slots := 0, locals := 0 }) := rfl
theorem zpd_X7_fault : (parseMethodDescriptor yX7_fault.desc).map (fun d => d.parameters.length) = some 0 := by decide +kernel
theorem ztb_X7_undo : sx_tb[93]? = some (yX7_undo, cX7_undo, 1, some .int, { frames := 2, cells := 0, slots := 0, locals := 47 }) := rfl
theorem zpd_X7_undo : (parseMethodDescriptor yX7_undo.desc).map (fun d => d.parameters.length) = some 0 := by decide +kernel
theorem ztb_X7_weeks : sx_tb[94]? = some (yX7_weeks, cX7_weeks, 3, some .int, { frames := 4, cells := 0, slots := 0, locals := 89 }) := rfl
theorem zpd_X7_weeks : (parseMethodDescriptor yX7_weeks.desc).map (fun d => d.parameters.length) = some 1 := by decide +kernel
theorem ztb_X7_stop : sx_tb[95]? = some (yX7_stop, cX7_stop, 3, some .int, { frames := 3, cells := 0, slots := 0, locals := 70 }) := rfl
theorem zpd_X7_stop : (parseMethodDescriptor yX7_stop.desc).map (fun d => d.parameters.length) = some 2 := by decide +kernel
theorem ztb_X7_strike : sx_tb[96]? = some (yX7_strike, cX7_strike, 2, some .int, { frames := 3, cells := 0, slots := 0, locals := 70 }) := rfl
theorem zpd_X7_strike : (parseMethodDescriptor yX7_strike.desc).map (fun d => d.parameters.length) = some 1 := by decide +kernel
theorem ztb_X7_cross : sx_tb[97]? = some (yX7_cross, cX7_cross, 3, some .int, { frames := 3, cells := 0, slots := 0, locals := 70 }) := rfl
theorem zpd_X7_cross : (parseMethodDescriptor yX7_cross.desc).map (fun d => d.parameters.length) = some 2 := by decide +kernel
theorem ztb_X7_dearer : sx_tb[98]? = some (yX7_dearer, cX7_dearer, 2, some .int, { frames := 3, cells := 0, slots := 0, locals := 70 }) := rfl
theorem zpd_X7_dearer : (parseMethodDescriptor yX7_dearer.desc).map (fun d => d.parameters.length) = some 1 := by decide +kernel
theorem ztb_X7_debtor : sx_tb[99]? = some (yX7_debtor, cX7_debtor, 3, some .int, { frames := 1, cells := 0, slots := 0, locals := 22 }) := rfl
theorem zpd_X7_debtor : (parseMethodDescriptor yX7_debtor.desc).map (fun d => d.parameters.length) = some 2 := by decide +kernel
theorem ztb_X7_shopHas : sx_tb[100]? = some (yX7_shopHas, cX7_shopHas, 2, some .int, { frames := 3, cells := 0, slots := 0, locals := 64 }) := rfl
theorem zpd_X7_shopHas : (parseMethodDescriptor yX7_shopHas.desc).map (fun d => d.parameters.length) = some 1 := by decide +kernel
theorem ztb_X7_ahead : sx_tb[101]? = some (yX7_ahead, cX7_ahead, 3, some .int, { frames := 6, cells := 0, slots := 0, locals := 132 }) := rfl
theorem zpd_X7_ahead : (parseMethodDescriptor yX7_ahead.desc).map (fun d => d.parameters.length) = some 2 := by decide +kernel
theorem ztb_X7_debt : sx_tb[102]? = some (yX7_debt, cX7_debt, 3, some .int, { frames := 6, cells := 0, slots := 0, locals := 132 }) := rfl
theorem zpd_X7_debt : (parseMethodDescriptor yX7_debt.desc).map (fun d => d.parameters.length) = some 2 := by decide +kernel
theorem ztb_X7_shuts : sx_tb[103]? = some (yX7_shuts, cX7_shuts, 1, some .int, { frames := 5, cells := 0, slots := 0, locals := 111 }) := rfl
theorem zpd_X7_shuts : (parseMethodDescriptor yX7_shuts.desc).map (fun d => d.parameters.length) = some 0 := by decide +kernel
theorem ztb_X7_bestStop : sx_tb[104]? = some (yX7_bestStop, cX7_bestStop, 4, some .int, { frames := 6, cells := 0, slots := 0, locals := 138 }) := rfl
theorem zpd_X7_bestStop : (parseMethodDescriptor yX7_bestStop.desc).map (fun d => d.parameters.length) = some 3 := by decide +kernel
theorem ztb_X7_whom : sx_tb[105]? = some (yX7_whom, cX7_whom, 3, some .int, { frames := 7, cells := 0, slots := 0, locals := 162 }) := rfl
theorem zpd_X7_whom : (parseMethodDescriptor yX7_whom.desc).map (fun d => d.parameters.length) = some 2 := by decide +kernel
theorem ztb_X7_stands : sx_tb[106]? = some (yX7_stands, cX7_stands, 1, some .int, { frames := 7, cells := 0, slots := 0, locals := 155 }) := rfl
theorem zpd_X7_stands : (parseMethodDescriptor yX7_stands.desc).map (fun d => d.parameters.length) = some 0 := by decide +kernel
theorem ztb_X7_dear : sx_tb[107]? = some (yX7_dear, cX7_dear, 2, some .int, { frames := 7, cells := 0, slots := 0, locals := 156 }) := rfl
theorem zpd_X7_dear : (parseMethodDescriptor yX7_dear.desc).map (fun d => d.parameters.length) = some 1 := by decide +kernel
theorem ztb_X7_rogue : sx_tb[108]? = some (yX7_rogue, cX7_rogue, 4, some .int, { frames := 6, cells := 0, slots := 0, locals := 138 }) := rfl
theorem zpd_X7_rogue : (parseMethodDescriptor yX7_rogue.desc).map (fun d => d.parameters.length) = some 3 := by decide +kernel
theorem ztb_X7_who : sx_tb[109]? = some (yX7_who, cX7_who, 6, some .int, { frames := 6, cells := 0, slots := 0, locals := 141 }) := rfl
theorem zpd_X7_who : (parseMethodDescriptor yX7_who.desc).map (fun d => d.parameters.length) = some 4 := by decide +kernel
theorem ztb_X7_atDoor : sx_tb[110]? = some (yX7_atDoor, cX7_atDoor, 2, some .int, { frames := 4, cells := 0, slots := 0, locals := 88 }) := rfl
theorem zpd_X7_atDoor : (parseMethodDescriptor yX7_atDoor.desc).map (fun d => d.parameters.length) = some 1 := by decide +kernel
theorem ztb_X7_pays : sx_tb[111]? = some (yX7_pays, cX7_pays, 5, some .long, { frames := 3, cells := 0, slots := 0, locals := 64 }) := rfl
theorem zpd_X7_pays : (parseMethodDescriptor yX7_pays.desc).map (fun d => d.parameters.length) = some 3 := by decide +kernel
theorem ztb_X7_drawn : sx_tb[112]? = some (yX7_drawn, cX7_drawn, 5, some .int, { frames := 5, cells := 0, slots := 0, locals := 115 }) := rfl
theorem zpd_X7_drawn : (parseMethodDescriptor yX7_drawn.desc).map (fun d => d.parameters.length) = some 3 := by decide +kernel
theorem ztb_X7_image : sx_tb[113]? = some (yX7_image, cX7_image, 2, some .int, { frames := 2, cells := 0, slots := 0, locals := 47 }) := rfl
theorem zpd_X7_image : (parseMethodDescriptor yX7_image.desc).map (fun d => d.parameters.length) = some 1 := by decide +kernel
theorem ztb_X7_restore : sx_tb[114]? = some (yX7_restore, cX7_restore, 2, some .int, { frames := 2, cells := 0, slots := 0, locals := 47 }) := rfl
theorem zpd_X7_restore : (parseMethodDescriptor yX7_restore.desc).map (fun d => d.parameters.length) = some 1 := by decide +kernel
theorem ztb_X7_kind : sx_tb[115]? = some (yX7_kind, cX7_kind, 2, some .int, { frames := 1, cells := 0, slots := 0, locals := 21 }) := rfl
theorem zpd_X7_kind : (parseMethodDescriptor yX7_kind.desc).map (fun d => d.parameters.length) = some 1 := by decide +kernel
theorem ztb_X7_as : sx_tb[116]? = some (yX7_as, cX7_as, 3, some .int, { frames := 2, cells := 0, slots := 0, locals := 42 }) := rfl
theorem zpd_X7_as : (parseMethodDescriptor yX7_as.desc).map (fun d => d.parameters.length) = some 2 := by decide +kernel
theorem ztb_X7_ask : sx_tb[117]? = some (yX7_ask, cX7_ask, 3, some .int, { frames := 7, cells := 0, slots := 0, locals := 148 }) := rfl
theorem zpd_X7_ask : (parseMethodDescriptor yX7_ask.desc).map (fun d => d.parameters.length) = some 2 := by decide +kernel
theorem ztb_X7_trace : sx_tb[118]? = some (yX7_trace, cX7_trace, 2, some .int, { frames := 1, cells := 0, slots := 0, locals := 22 }) := rfl
theorem zpd_X7_trace : (parseMethodDescriptor yX7_trace.desc).map (fun d => d.parameters.length) = some 1 := by decide +kernel
theorem ztb_X7_count : sx_tb[119]? = some (yX7_count, cX7_count, 2, some .int, { frames := 1, cells := 0, slots := 0, locals := 23 }) := rfl
theorem zpd_X7_count : (parseMethodDescriptor yX7_count.desc).map (fun d => d.parameters.length) = some 1 := by decide +kernel
theorem ztb_X7_status : sx_tb[120]? = some (yX7_status, cX7_status, 1, some .int, { frames := 0, cells := 0, slots := 0, locals := 0 }) := rfl
theorem zpd_X7_status : (parseMethodDescriptor yX7_status.desc).map (fun d => d.parameters.length) = some 0 := by decide +kernel
theorem ztb_X7_within : sx_tb[121]? = some (yX7_within, cX7_within, 3, some .boolean, { frames := 0, cells := 0, slots := 0, locals := 0 }) := rfl
theorem zpd_X7_within : (parseMethodDescriptor yX7_within.desc).map (fun d => d.parameters.length) = some 3 := by decide +kernel
theorem ztb_X7_change : sx_tb[122]? = some (yX7_change, cX7_change, 4, some .int, { frames := 2, cells := 0, slots := 0, locals := 47 }) := rfl
theorem zpd_X7_change : (parseMethodDescriptor yX7_change.desc).map (fun d => d.parameters.length) = some 2 := by decide +kernel
theorem ztb_X8_init : sx_tb[123]? = some (yX8_init, cX8_init, 1, none, { frames := 1, cells := 11, slots := 2330, locals := 20 }) := rfl
theorem zpd_X8_init : (parseMethodDescriptor yX8_init.desc).map (fun d => d.parameters.length) = some 0 := by decide +kernel
theorem ztb_X8_in : sx_tb[124]? = some (yX8_in, cX8_in, 6, some .boolean, { frames := 0, cells := 0, slots := 0, locals := 0 }) := rfl
theorem zpd_X8_in : (parseMethodDescriptor yX8_in.desc).map (fun d => d.parameters.length) = some 3 := by decide +kernel
theorem ztb_X8_finding : sx_tb[125]? = some (yX8_finding, cX8_finding, 2, some .int, { frames := 0, cells := 0, slots := 0, locals := 0 }) := rfl
theorem zpd_X8_finding : (parseMethodDescriptor yX8_finding.desc).map (fun d => d.parameters.length) = some 1 := by decide +kernel
theorem ztb_X8_isRow : sx_tb[126]? = some (yX8_isRow, cX8_isRow, 1, some .boolean, { frames := 1, cells := 0, slots := 0, locals := 25 }) := rfl
theorem zpd_X8_isRow : (parseMethodDescriptor yX8_isRow.desc).map (fun d => d.parameters.length) = some 1 := by decide +kernel
theorem ztb_X8_row : sx_tb[127]? = some (yX8_row, cX8_row, 5, some .int, { frames := 2, cells := 0, slots := 0, locals := 45 }) := rfl
theorem zpd_X8_row : (parseMethodDescriptor yX8_row.desc).map (fun d => d.parameters.length) = some 3 := by decide +kernel
theorem ztb_X8_set : sx_tb[128]? = some (yX8_set, cX8_set, 4, some .int, { frames := 2, cells := 0, slots := 0, locals := 45 }) := rfl
theorem zpd_X8_set : (parseMethodDescriptor yX8_set.desc).map (fun d => d.parameters.length) = some 3 := by decide +kernel
theorem ztb_X8_copy : sx_tb[129]? = some (yX8_copy, cX8_copy, 9, some .int, { frames := 2, cells := 0, slots := 0, locals := 45 }) := rfl
theorem zpd_X8_copy : (parseMethodDescriptor yX8_copy.desc).map (fun d => d.parameters.length) = some 5 := by decide +kernel
theorem ztb_X8_drop : sx_tb[130]? = some (yX8_drop, cX8_drop, 2, some .int, { frames := 2, cells := 0, slots := 0, locals := 45 }) := rfl
theorem zpd_X8_drop : (parseMethodDescriptor yX8_drop.desc).map (fun d => d.parameters.length) = some 1 := by decide +kernel
theorem ztb_X8_feed : sx_tb[131]? = some (yX8_feed, cX8_feed, 2, some .int, { frames := 1, cells := 0, slots := 0, locals := 25 }) := rfl
theorem zpd_X8_feed : (parseMethodDescriptor yX8_feed.desc).map (fun d => d.parameters.length) = some 1 := by decide +kernel
theorem ztb_X8_bad : sx_tb[132]? = some (yX8_bad, cX8_bad, 2, none, { frames := 0, cells := 0, slots := 0, locals := 0 }) := rfl
theorem zpd_X8_bad : (parseMethodDescriptor yX8_bad.desc).map (fun d => d.parameters.length) = some 1 := by decide +kernel
theorem ztb_X8_nextToken : sx_tb[133]? = some (yX8_nextToken, cX8_nextToken, 1, none, { frames := 1, cells := 0, slots := 0, locals := 25 }) := rfl
theorem zpd_X8_nextToken : (parseMethodDescriptor yX8_nextToken.desc).map (fun d => d.parameters.length) = some 0 := by decide +kernel
theorem ztb_X8_must : sx_tb[134]? = some (yX8_must, cX8_must, 2, none, { frames := 2, cells := 0, slots := 0, locals := 45 }) := rfl
theorem zpd_X8_must : (parseMethodDescriptor yX8_must.desc).map (fun d => d.parameters.length) = some 1 := by decide +kernel
theorem ztb_X8_isLetter : sx_tb[135]? = some (yX8_isLetter, cX8_isLetter, 2, some .boolean, { frames := 0, cells := 0, slots := 0, locals := 0 }) := rfl
theorem zpd_X8_isLetter : (parseMethodDescriptor yX8_isLetter.desc).map (fun d => d.parameters.length) = some 1 := by decide +kernel
theorem ztb_X8_number : sx_tb[136]? = some (yX8_number, cX8_number, 4, some .int, { frames := 3, cells := 0, slots := 0, locals := 66 }) := rfl
theorem zpd_X8_number : (parseMethodDescriptor yX8_number.desc).map (fun d => d.parameters.length) = some 2 := by decide +kernel
theorem ztb_X8_mustSign : sx_tb[137]? = some (yX8_mustSign, cX8_mustSign, 2, none, { frames := 3, cells := 0, slots := 0, locals := 66 }) := rfl
theorem zpd_X8_mustSign : (parseMethodDescriptor yX8_mustSign.desc).map (fun d => d.parameters.length) = some 1 := by decide +kernel
theorem ztb_X8_begin : sx_tb[138]? = some (yX8_begin, cX8_begin, 1, none, { frames := 2, cells := 0, slots := 0, locals := 45 }) := rfl
theorem zpd_X8_begin : (parseMethodDescriptor yX8_begin.desc).map (fun d => d.parameters.length) = some 0 := by decide +kernel
theorem ztb_X8_failed : sx_tb[139]? = some (yX8_failed, cX8_failed, 1, some .boolean, { frames := 1, cells := 0, slots := 0, locals := 21 }) := rfl
theorem zpd_X8_failed : (parseMethodDescriptor yX8_failed.desc).map (fun d => d.parameters.length) = some 0 := by decide +kernel
theorem ztb_X8_fault : sx_tb[140]? = some (yX8_fault, cX8_fault, 1, some .int, { frames := 0, cells := 0, slots := 0, locals := 0 }) := rfl
theorem zpd_X8_fault : (parseMethodDescriptor yX8_fault.desc).map (fun d => d.parameters.length) = some 0 := by decide +kernel
theorem ztb_X8_kindBy : sx_tb[141]? = some (yX8_kindBy, cX8_kindBy, 1, some .int, { frames := 0, cells := 0, slots := 0, locals := 0 }) := rfl
theorem zpd_X8_kindBy : (parseMethodDescriptor yX8_kindBy.desc).map (fun d => d.parameters.length) = some 1 := by decide +kernel
theorem ztb_X8_isSort : sx_tb[142]? = some (yX8_isSort, cX8_isSort, 1, some .boolean, { frames := 1, cells := 0, slots := 0, locals := 20 }) := rfl
theorem zpd_X8_isSort : (parseMethodDescriptor yX8_isSort.desc).map (fun d => d.parameters.length) = some 0 := by decide +kernel
theorem ztb_X8_readDebtor : sx_tb[143]? = some (yX8_readDebtor, cX8_readDebtor, 6, none, { frames := 4, cells := 0, slots := 0, locals := 89 }) := rfl
theorem zpd_X8_readDebtor : (parseMethodDescriptor yX8_readDebtor.desc).map (fun d => d.parameters.length) = some 0 := by decide +kernel
theorem ztb_X8_shop : sx_tb[144]? = some (yX8_shop, cX8_shop, 2, some .int, { frames := 5, cells := 0, slots := 0, locals := 114 }) := rfl
theorem zpd_X8_shop : (parseMethodDescriptor yX8_shop.desc).map (fun d => d.parameters.length) = some 0 := by decide +kernel
theorem ztb_X8_isThere : sx_tb[145]? = some (yX8_isThere, cX8_isThere, 1, some .boolean, { frames := 0, cells := 0, slots := 0, locals := 0 }) := rfl
theorem zpd_X8_isThere : (parseMethodDescriptor yX8_isThere.desc).map (fun d => d.parameters.length) = some 0 := by decide +kernel
theorem ztb_X8_isDebtor : sx_tb[146]? = some (yX8_isDebtor, cX8_isDebtor, 2, some .boolean, { frames := 1, cells := 0, slots := 0, locals := 25 }) := rfl
theorem zpd_X8_isDebtor : (parseMethodDescriptor yX8_isDebtor.desc).map (fun d => d.parameters.length) = some 1 := by decide +kernel
theorem ztb_X8_of : sx_tb[147]? = some (yX8_of, cX8_of, 3, some .int, { frames := 0, cells := 0, slots := 0, locals := 0 }) := rfl
theorem zpd_X8_of : (parseMethodDescriptor yX8_of.desc).map (fun d => d.parameters.length) = some 3 := by decide +kernel
theorem ztb_X8_isOut : sx_tb[148]? = some (yX8_isOut, cX8_isOut, 2, some .boolean, { frames := 1, cells := 0, slots := 0, locals := 22 }) := rfl
theorem zpd_X8_isOut : (parseMethodDescriptor yX8_isOut.desc).map (fun d => d.parameters.length) = some 2 := by decide +kernel
theorem ztb_X8_least : sx_tb[149]? = some (yX8_least, cX8_least, 2, some .int, { frames := 0, cells := 0, slots := 0, locals := 0 }) := rfl
theorem zpd_X8_least : (parseMethodDescriptor yX8_least.desc).map (fun d => d.parameters.length) = some 2 := by decide +kernel
theorem ztb_X8_takes : sx_tb[150]? = some (yX8_takes, cX8_takes, 5, none, { frames := 1, cells := 0, slots := 0, locals := 21 }) := rfl
theorem zpd_X8_takes : (parseMethodDescriptor yX8_takes.desc).map (fun d => d.parameters.length) = some 2 := by decide +kernel
theorem ztb_X8_payBy : sx_tb[151]? = some (yX8_payBy, cX8_payBy, 4, some .int, { frames := 1, cells := 0, slots := 0, locals := 22 }) := rfl
theorem zpd_X8_payBy : (parseMethodDescriptor yX8_payBy.desc).map (fun d => d.parameters.length) = some 2 := by decide +kernel
theorem ztb_X8_payOne : sx_tb[152]? = some (yX8_payOne, cX8_payOne, 4, none, { frames := 2, cells := 0, slots := 0, locals := 45 }) := rfl
theorem zpd_X8_payOne : (parseMethodDescriptor yX8_payOne.desc).map (fun d => d.parameters.length) = some 2 := by decide +kernel
theorem ztb_X8_week : sx_tb[153]? = some (yX8_week, cX8_week, 2, none, { frames := 3, cells := 0, slots := 0, locals := 68 }) := rfl
theorem zpd_X8_week : (parseMethodDescriptor yX8_week.desc).map (fun d => d.parameters.length) = some 1 := by decide +kernel
theorem ztb_X8_weeksOf : sx_tb[154]? = some (yX8_weeksOf, cX8_weeksOf, 3, none, { frames := 4, cells := 0, slots := 0, locals := 89 }) := rfl
theorem zpd_X8_weeksOf : (parseMethodDescriptor yX8_weeksOf.desc).map (fun d => d.parameters.length) = some 2 := by decide +kernel
theorem ztb_X8_layThen : sx_tb[155]? = some (yX8_layThen, cX8_layThen, 2, none, { frames := 0, cells := 0, slots := 0, locals := 0 }) := rfl
theorem zpd_X8_layThen : (parseMethodDescriptor yX8_layThen.desc).map (fun d => d.parameters.length) = some 0 := by decide +kernel
theorem ztb_X8_lostOf : sx_tb[156]? = some (yX8_lostOf, cX8_lostOf, 3, some .int, { frames := 2, cells := 0, slots := 0, locals := 43 }) := rfl
theorem zpd_X8_lostOf : (parseMethodDescriptor yX8_lostOf.desc).map (fun d => d.parameters.length) = some 1 := by decide +kernel
theorem ztb_X8_debtsOf : sx_tb[157]? = some (yX8_debtsOf, cX8_debtsOf, 3, some .int, { frames := 1, cells := 0, slots := 0, locals := 22 }) := rfl
theorem zpd_X8_debtsOf : (parseMethodDescriptor yX8_debtsOf.desc).map (fun d => d.parameters.length) = some 1 := by decide +kernel
theorem ztb_X8_keep : sx_tb[158]? = some (yX8_keep, cX8_keep, 2, none, { frames := 0, cells := 0, slots := 0, locals := 0 }) := rfl
theorem zpd_X8_keep : (parseMethodDescriptor yX8_keep.desc).map (fun d => d.parameters.length) = some 0 := by decide +kernel
theorem ztb_X8_weeks : sx_tb[159]? = some (yX8_weeks, cX8_weeks, 3, some .int, { frames := 4, cells := 0, slots := 0, locals := 89 }) := rfl
theorem zpd_X8_weeks : (parseMethodDescriptor yX8_weeks.desc).map (fun d => d.parameters.length) = some 1 := by decide +kernel
theorem ztb_X8_stop : sx_tb[160]? = some (yX8_stop, cX8_stop, 4, some .int, { frames := 2, cells := 0, slots := 0, locals := 46 }) := rfl
theorem zpd_X8_stop : (parseMethodDescriptor yX8_stop.desc).map (fun d => d.parameters.length) = some 2 := by decide +kernel
theorem ztb_X8_strike : sx_tb[161]? = some (yX8_strike, cX8_strike, 3, some .int, { frames := 1, cells := 0, slots := 0, locals := 25 }) := rfl
theorem zpd_X8_strike : (parseMethodDescriptor yX8_strike.desc).map (fun d => d.parameters.length) = some 1 := by decide +kernel
theorem ztb_X8_cross : sx_tb[162]? = some (yX8_cross, cX8_cross, 4, some .int, { frames := 3, cells := 0, slots := 0, locals := 65 }) := rfl
theorem zpd_X8_cross : (parseMethodDescriptor yX8_cross.desc).map (fun d => d.parameters.length) = some 2 := by decide +kernel
theorem ztb_X8_dearer : sx_tb[163]? = some (yX8_dearer, cX8_dearer, 3, some .int, { frames := 1, cells := 0, slots := 0, locals := 25 }) := rfl
theorem zpd_X8_dearer : (parseMethodDescriptor yX8_dearer.desc).map (fun d => d.parameters.length) = some 1 := by decide +kernel
theorem ztb_X8_undo : sx_tb[164]? = some (yX8_undo, cX8_undo, 2, some .int, { frames := 0, cells := 0, slots := 0, locals := 0 }) := rfl
theorem zpd_X8_undo : (parseMethodDescriptor yX8_undo.desc).map (fun d => d.parameters.length) = some 0 := by decide +kernel
theorem ztb_X8_debtor : sx_tb[165]? = some (yX8_debtor, cX8_debtor, 4, some .int, { frames := 2, cells := 0, slots := 0, locals := 46 }) := rfl
theorem zpd_X8_debtor : (parseMethodDescriptor yX8_debtor.desc).map (fun d => d.parameters.length) = some 2 := by decide +kernel
theorem ztb_X8_shopHas : sx_tb[166]? = some (yX8_shopHas, cX8_shopHas, 2, some .int, { frames := 3, cells := 0, slots := 0, locals := 65 }) := rfl
theorem zpd_X8_shopHas : (parseMethodDescriptor yX8_shopHas.desc).map (fun d => d.parameters.length) = some 1 := by decide +kernel
theorem ztb_X8_ahead : sx_tb[167]? = some (yX8_ahead, cX8_ahead, 3, some .int, { frames := 5, cells := 0, slots := 0, locals := 111 }) := rfl
theorem zpd_X8_ahead : (parseMethodDescriptor yX8_ahead.desc).map (fun d => d.parameters.length) = some 2 := by decide +kernel
theorem ztb_X8_debt : sx_tb[168]? = some (yX8_debt, cX8_debt, 3, some .int, { frames := 5, cells := 0, slots := 0, locals := 111 }) := rfl
theorem zpd_X8_debt : (parseMethodDescriptor yX8_debt.desc).map (fun d => d.parameters.length) = some 2 := by decide +kernel
theorem ztb_X8_shuts : sx_tb[169]? = some (yX8_shuts, cX8_shuts, 2, some .int, { frames := 4, cells := 0, slots := 0, locals := 89 }) := rfl
theorem zpd_X8_shuts : (parseMethodDescriptor yX8_shuts.desc).map (fun d => d.parameters.length) = some 0 := by decide +kernel
theorem ztb_X8_bestStop : sx_tb[170]? = some (yX8_bestStop, cX8_bestStop, 9, some .int, { frames := 5, cells := 0, slots := 0, locals := 111 }) := rfl
theorem zpd_X8_bestStop : (parseMethodDescriptor yX8_bestStop.desc).map (fun d => d.parameters.length) = some 3 := by decide +kernel
theorem ztb_X8_bits : sx_tb[171]? = some (yX8_bits, cX8_bits, 3, some .int, { frames := 0, cells := 0, slots := 0, locals := 0 }) := rfl
theorem zpd_X8_bits : (parseMethodDescriptor yX8_bits.desc).map (fun d => d.parameters.length) = some 1 := by decide +kernel
theorem ztb_X8_whom : sx_tb[172]? = some (yX8_whom, cX8_whom, 8, some .int, { frames := 5, cells := 0, slots := 0, locals := 111 }) := rfl
theorem zpd_X8_whom : (parseMethodDescriptor yX8_whom.desc).map (fun d => d.parameters.length) = some 2 := by decide +kernel
theorem ztb_X8_stands : sx_tb[173]? = some (yX8_stands, cX8_stands, 2, some .int, { frames := 5, cells := 0, slots := 0, locals := 111 }) := rfl
theorem zpd_X8_stands : (parseMethodDescriptor yX8_stands.desc).map (fun d => d.parameters.length) = some 0 := by decide +kernel
theorem ztb_X8_dear : sx_tb[174]? = some (yX8_dear, cX8_dear, 3, some .int, { frames := 5, cells := 0, slots := 0, locals := 111 }) := rfl
theorem zpd_X8_dear : (parseMethodDescriptor yX8_dear.desc).map (fun d => d.parameters.length) = some 1 := by decide +kernel
theorem ztb_X8_rogue : sx_tb[175]? = some (yX8_rogue, cX8_rogue, 10, some .int, { frames := 5, cells := 0, slots := 0, locals := 111 }) := rfl
theorem zpd_X8_rogue : (parseMethodDescriptor yX8_rogue.desc).map (fun d => d.parameters.length) = some 3 := by decide +kernel
theorem ztb_X8_who : sx_tb[176]? = some (yX8_who, cX8_who, 10, some .int, { frames := 4, cells := 0, slots := 0, locals := 89 }) := rfl
theorem zpd_X8_who : (parseMethodDescriptor yX8_who.desc).map (fun d => d.parameters.length) = some 4 := by decide +kernel
theorem ztb_X8_atDoor : sx_tb[177]? = some (yX8_atDoor, cX8_atDoor, 7, some .int, { frames := 2, cells := 0, slots := 0, locals := 43 }) := rfl
theorem zpd_X8_atDoor : (parseMethodDescriptor yX8_atDoor.desc).map (fun d => d.parameters.length) = some 1 := by decide +kernel
theorem ztb_X8_pays : sx_tb[178]? = some (yX8_pays, cX8_pays, 15, some .long, { frames := 2, cells := 0, slots := 0, locals := 43 }) := rfl
theorem zpd_X8_pays : (parseMethodDescriptor yX8_pays.desc).map (fun d => d.parameters.length) = some 3 := by decide +kernel
theorem ztb_X8_drawn : sx_tb[179]? = some (yX8_drawn, cX8_drawn, 8, some .int, { frames := 4, cells := 0, slots := 0, locals := 89 }) := rfl
theorem zpd_X8_drawn : (parseMethodDescriptor yX8_drawn.desc).map (fun d => d.parameters.length) = some 3 := by decide +kernel
theorem ztb_X8_image : sx_tb[180]? = some (yX8_image, cX8_image, 3, some .int, { frames := 1, cells := 0, slots := 0, locals := 25 }) := rfl
theorem zpd_X8_image : (parseMethodDescriptor yX8_image.desc).map (fun d => d.parameters.length) = some 1 := by decide +kernel
theorem ztb_X8_restore : sx_tb[181]? = some (yX8_restore, cX8_restore, 3, some .int, { frames := 1, cells := 0, slots := 0, locals := 25 }) := rfl
theorem zpd_X8_restore : (parseMethodDescriptor yX8_restore.desc).map (fun d => d.parameters.length) = some 1 := by decide +kernel
theorem ztb_X8_isOf : sx_tb[182]? = some (yX8_isOf, cX8_isOf, 2, some .boolean, { frames := 0, cells := 0, slots := 0, locals := 0 }) := rfl
theorem zpd_X8_isOf : (parseMethodDescriptor yX8_isOf.desc).map (fun d => d.parameters.length) = some 2 := by decide +kernel
theorem ztb_X8_kind : sx_tb[183]? = some (yX8_kind, cX8_kind, 2, some .int, { frames := 2, cells := 0, slots := 0, locals := 46 }) := rfl
theorem zpd_X8_kind : (parseMethodDescriptor yX8_kind.desc).map (fun d => d.parameters.length) = some 1 := by decide +kernel
theorem ztb_X8_as : sx_tb[184]? = some (yX8_as, cX8_as, 3, some .int, { frames := 2, cells := 0, slots := 0, locals := 46 }) := rfl
theorem zpd_X8_as : (parseMethodDescriptor yX8_as.desc).map (fun d => d.parameters.length) = some 2 := by decide +kernel
theorem ztb_X8_began : sx_tb[185]? = some (yX8_began, cX8_began, 2, none, { frames := 0, cells := 0, slots := 0, locals := 0 }) := rfl
theorem zpd_X8_began : (parseMethodDescriptor yX8_began.desc).map (fun d => d.parameters.length) = some 1 := by decide +kernel
theorem ztb_X8_plainSize : sx_tb[186]? = some (yX8_plainSize, cX8_plainSize, 2, some .int, { frames := 1, cells := 0, slots := 0, locals := 22 }) := rfl
theorem zpd_X8_plainSize : (parseMethodDescriptor yX8_plainSize.desc).map (fun d => d.parameters.length) = some 1 := by decide +kernel
theorem ztb_X8_twiceSize : sx_tb[187]? = some (yX8_twiceSize, cX8_twiceSize, 4, some .int, { frames := 2, cells := 0, slots := 0, locals := 43 }) := rfl
theorem zpd_X8_twiceSize : (parseMethodDescriptor yX8_twiceSize.desc).map (fun d => d.parameters.length) = some 1 := by decide +kernel
theorem ztb_X8_markOf : sx_tb[188]? = some (yX8_markOf, cX8_markOf, 4, some .int, { frames := 3, cells := 0, slots := 0, locals := 66 }) := rfl
theorem zpd_X8_markOf : (parseMethodDescriptor yX8_markOf.desc).map (fun d => d.parameters.length) = some 1 := by decide +kernel
theorem ztb_X8_sizeOf : sx_tb[189]? = some (yX8_sizeOf, cX8_sizeOf, 4, some .int, { frames := 4, cells := 0, slots := 0, locals := 89 }) := rfl
theorem zpd_X8_sizeOf : (parseMethodDescriptor yX8_sizeOf.desc).map (fun d => d.parameters.length) = some 1 := by decide +kernel
theorem ztb_X8_ask : sx_tb[190]? = some (yX8_ask, cX8_ask, 3, some .int, { frames := 5, cells := 0, slots := 0, locals := 112 }) := rfl
theorem zpd_X8_ask : (parseMethodDescriptor yX8_ask.desc).map (fun d => d.parameters.length) = some 2 := by decide +kernel
theorem ztb_X8_trace : sx_tb[191]? = some (yX8_trace, cX8_trace, 2, some .int, { frames := 1, cells := 0, slots := 0, locals := 25 }) := rfl
theorem zpd_X8_trace : (parseMethodDescriptor yX8_trace.desc).map (fun d => d.parameters.length) = some 1 := by decide +kernel
theorem ztb_X8_setOf : sx_tb[192]? = some (yX8_setOf, cX8_setOf, 4, some .int, { frames := 1, cells := 0, slots := 0, locals := 22 }) := rfl
theorem zpd_X8_setOf : (parseMethodDescriptor yX8_setOf.desc).map (fun d => d.parameters.length) = some 1 := by decide +kernel
theorem ztb_X8_count : sx_tb[193]? = some (yX8_count, cX8_count, 4, some .int, { frames := 2, cells := 0, slots := 0, locals := 45 }) := rfl
theorem zpd_X8_count : (parseMethodDescriptor yX8_count.desc).map (fun d => d.parameters.length) = some 1 := by decide +kernel
theorem ztb_X8_status : sx_tb[194]? = some (yX8_status, cX8_status, 1, some .int, { frames := 0, cells := 0, slots := 0, locals := 0 }) := rfl
theorem zpd_X8_status : (parseMethodDescriptor yX8_status.desc).map (fun d => d.parameters.length) = some 0 := by decide +kernel
theorem ztb_J6_bitCount_0f7a4 : sx_tb[195]? = some (yJ6_bitCount_0f7a4, cJ6_bitCount_0f7a4, 1, some .int, { frames := 0, cells := 0, slots := 0, locals := 0 }) := rfl
theorem zpd_J6_bitCount_0f7a4 : (parseMethodDescriptor yJ6_bitCount_0f7a4.desc).map (fun d => d.parameters.length) = some 1 := by decide +kernel
