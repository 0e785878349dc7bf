/-! THE PURE PART: what the pools say -/
theorem rRX0_3 : spc RX0 3 = some 0 := by decide +kernel
theorem fRX0_9 : fld RX0 9 = some (0, 0) := by decide +kernel
theorem fRX0_15 : fld RX0 15 = some (0, 1) := by decide +kernel
theorem rRX0_18 : rsl 0 RX0 18 = some (MX7_hold, 3) := by decide +kernel
theorem fRX0_22 : fld RX0 22 = some (0, 2) := by decide +kernel
theorem rRX0_26 : spc RX0 26 = some 1 := by decide +kernel
theorem rRX0_32 : spc RX0 32 = some 2 := by decide +kernel
theorem fRX0_38 : fld RX0 38 = some (0, 3) := by decide +kernel
theorem rRX0_41 : rsl 0 RX0 41 = some (MX0_valueOf, 4) := by decide +kernel
theorem rRX0_45 : rsl 0 RX0 45 = some (MX0_joined, 3) := by decide +kernel
theorem rRX1_3 : spc RX1 3 = some 0 := by decide +kernel
theorem fRX1_9 : fld RX1 9 = some (1, 0) := by decide +kernel
theorem fRX1_15 : fld RX1 15 = some (1, 1) := by decide +kernel
theorem fRX1_18 : fld RX1 18 = some (1, 2) := by decide +kernel
theorem fRX1_21 : fld RX1 21 = some (1, 3) := by decide +kernel
theorem fRX1_24 : fld RX1 24 = some (1, 4) := by decide +kernel
theorem rRX1_27 : rsl 0 RX1 27 = some (MX7_isReach, 1) := by decide +kernel
theorem sRX1_31 : sta RX1 31 = some (vR 1 0 0) := by decide +kernel
theorem rRX1_35 : rsl 0 RX1 35 = some (MX7_isKind, 1) := by decide +kernel
theorem rRX1_38 : spc RX1 38 = some 3 := by decide +kernel
theorem rRX2_3 : spc RX2 3 = some 0 := by decide +kernel
theorem nRX2_9 : nwc RX2 9 = some 6 := by decide +kernel
theorem rRX2_11 : rsl 2 RX2 11 = some (MX6_init, 0) := by decide +kernel
theorem fRX2_12 : fld RX2 12 = some (2, 0) := by decide +kernel
theorem fRX2_18 : fld RX2 18 = some (2, 1) := by decide +kernel
theorem fRX2_22 : fld RX2 22 = some (2, 2) := by decide +kernel
theorem fRX2_25 : fld RX2 25 = some (2, 3) := by decide +kernel
theorem fRX2_29 : fld RX2 29 = some (2, 4) := by decide +kernel
theorem fRX2_32 : fld RX2 32 = some (2, 5) := by decide +kernel
theorem fRX2_35 : fld RX2 35 = some (2, 6) := by decide +kernel
theorem fRX2_38 : fld RX2 38 = some (2, 7) := by decide +kernel
theorem fRX2_41 : fld RX2 41 = some (2, 8) := by decide +kernel
theorem fRX2_44 : fld RX2 44 = some (2, 9) := by decide +kernel
theorem fRX2_47 : fld RX2 47 = some (2, 10) := by decide +kernel
theorem fRX2_50 : fld RX2 50 = some (2, 11) := by decide +kernel
theorem fRX2_54 : fld RX2 54 = some (2, 12) := by decide +kernel
theorem fRX2_57 : fld RX2 57 = some (2, 13) := by decide +kernel
theorem rRX2_60 : rsl 1 RX2 60 = some (MX2_begin, 0) := by decide +kernel
theorem rRX2_63 : rsl 1 RX2 63 = some (MX2_nextWord, 0) := by decide +kernel
theorem rRX2_67 : rsl 1 RX2 67 = some (MX2_takesKey, 0) := by decide +kernel
theorem rRX2_70 : rsl 1 RX2 70 = some (MX2_goesOn, 0) := by decide +kernel
theorem rRX2_73 : rsl 1 RX2 73 = some (MX2_closeBangs, 0) := by decide +kernel
theorem fRX2_76 : fld RX2 76 = some (6, 1) := by decide +kernel
theorem rRX2_79 : rsl 1 RX2 79 = some (MX2_closeDownTo, 1) := by decide +kernel
theorem nRX2_83 : nwc RX2 83 = some 0 := by decide +kernel
theorem rRX2_85 : rsl 2 RX2 85 = some (MX0_init, 4) := by decide +kernel
theorem rRX2_88 : rsl 1 RX2 88 = some (MX6_byteAt, 1) := by decide +kernel
theorem rRX2_92 : rsl 0 RX2 92 = some (MX2_sortOf, 1) := by decide +kernel
theorem rRX2_95 : rsl 0 RX2 95 = some (MX7_within, 3) := by decide +kernel
theorem kRX2_99 : fCst RX2 99 = none ∧ fStr RX2 99 = some 0 := ⟨by decide +kernel, by decide +kernel⟩
theorem rRX2_101 : rsl 1 RX2 101 = some (MX2_isWord, 1) := by decide +kernel
theorem kRX2_105 : fCst RX2 105 = none ∧ fStr RX2 105 = some 1 := ⟨by decide +kernel, by decide +kernel⟩
theorem kRX2_107 : fCst RX2 107 = none ∧ fStr RX2 107 = some 2 := ⟨by decide +kernel, by decide +kernel⟩
theorem rRX2_109 : rsl 1 RX2 109 = some (MJ0_length_8abf5, 0) := by decide +kernel
theorem rRX2_115 : rsl 1 RX2 115 = some (MJ0_charAt_5068e, 1) := by decide +kernel
theorem rRX2_119 : rsl 1 RX2 119 = some (MX2_takesPiece, 1) := by decide +kernel
theorem rRX2_123 : rsl 1 RX2 123 = some (MX2_takesSign, 1) := by decide +kernel
theorem rRX2_126 : rsl 1 RX2 126 = some (MX2_takesNumber, 0) := by decide +kernel
theorem rRX2_129 : rsl 1 RX2 129 = some (MX2_takesName, 1) := by decide +kernel
theorem rRX2_132 : rsl 1 RX2 132 = some (MX2_push, 1) := by decide +kernel
theorem rRX2_135 : rsl 1 RX2 135 = some (MX2_addPiece, 1) := by decide +kernel
theorem rRX2_138 : rsl 0 RX2 138 = some (MX2_namesOf, 1) := by decide +kernel
theorem rRX2_142 : rsl 1 RX2 142 = some (MJ0_indexOf_0f7a4, 1) := by decide +kernel
theorem kRX2_145 : fCst RX2 145 = none ∧ fStr RX2 145 = some 3 := ⟨by decide +kernel, by decide +kernel⟩
theorem kRX2_147 : fCst RX2 147 = none ∧ fStr RX2 147 = some 4 := ⟨by decide +kernel, by decide +kernel⟩
theorem kRX2_149 : fCst RX2 149 = none ∧ fStr RX2 149 = some 5 := ⟨by decide +kernel, by decide +kernel⟩
theorem rRX2_151 : rsl 1 RX2 151 = some (MX2_closesBracket, 0) := by decide +kernel
theorem rRX2_154 : rsl 0 RX2 154 = some (MX2_levelOf, 1) := by decide +kernel
theorem rRX2_157 : rsl 1 RX2 157 = some (MX2_pop, 0) := by decide +kernel
theorem rRX2_160 : rsl 1 RX2 160 = some (MX2_addCode, 1) := by decide +kernel
theorem rRX2_163 : rsl 1 RX2 163 = some (MX2_topSign, 0) := by decide +kernel
theorem rRX3_3 : spc RX3 3 = some 0 := by decide +kernel
theorem aRX3_9 : nwa RX3 9 = some 14 := by decide +kernel
theorem fRX3_11 : fld RX3 11 = some (3, 0) := by decide +kernel
theorem fRX3_17 : fld RX3 17 = some (3, 1) := by decide +kernel
theorem fRX3_21 : fld RX3 21 = some (3, 2) := by decide +kernel
theorem fRX3_24 : fld RX3 24 = some (3, 3) := by decide +kernel
theorem fRX3_27 : fld RX3 27 = some (3, 4) := by decide +kernel
theorem aRX3_30 : nwa RX3 30 = some 15 := by decide +kernel
theorem fRX3_32 : fld RX3 32 = some (3, 5) := by decide +kernel
theorem fRX3_36 : fld RX3 36 = some (3, 6) := by decide +kernel
theorem fRX3_40 : fld RX3 40 = some (3, 7) := by decide +kernel
theorem fRX3_43 : fld RX3 43 = some (3, 8) := by decide +kernel
theorem fRX3_46 : fld RX3 46 = some (3, 9) := by decide +kernel
theorem fRX3_49 : fld RX3 49 = some (3, 10) := by decide +kernel
theorem fRX3_52 : fld RX3 52 = some (3, 11) := by decide +kernel
theorem fRX3_55 : fld RX3 55 = some (3, 12) := by decide +kernel
theorem fRX3_58 : fld RX3 58 = some (3, 13) := by decide +kernel
theorem fRX3_61 : fld RX3 61 = some (3, 14) := by decide +kernel
theorem fRX3_64 : fld RX3 64 = some (3, 15) := by decide +kernel
theorem nRX3_9 : nwc RX3 9 = some 1 := by decide +kernel
theorem rRX3_67 : rsl 2 RX3 67 = some (MX1_init, 0) := by decide +kernel
theorem rRX3_68 : spc RX3 68 = some 1 := by decide +kernel
theorem rRX3_74 : rsl 1 RX3 74 = some (MX1_takeOver, 1) := by decide +kernel
theorem rRX3_78 : rsl 0 RX3 78 = some (MX7_within, 3) := by decide +kernel
theorem fRX3_82 : fld RX3 82 = some (1, 0) := by decide +kernel
theorem fRX3_85 : fld RX3 85 = some (1, 1) := by decide +kernel
theorem fRX3_88 : fld RX3 88 = some (1, 2) := by decide +kernel
theorem fRX3_91 : fld RX3 91 = some (1, 3) := by decide +kernel
theorem fRX3_94 : fld RX3 94 = some (1, 4) := by decide +kernel
theorem rRX3_97 : rsl 1 RX3 97 = some (MX3_draw, 0) := by decide +kernel
theorem rRX3_101 : rsl 1 RX3 101 = some (MX3_addLog, 3) := by decide +kernel
theorem rRX3_104 : rsl 1 RX3 104 = some (MX3_lawAt, 1) := by decide +kernel
theorem fRX3_108 : fld RX3 108 = some (0, 0) := by decide +kernel
theorem kRX3_111 : fCst RX3 111 = some (-1000000005) := by decide +kernel
theorem rRX3_112 : rsl 1 RX3 112 = some (MX3_lawNumberFor, 1) := by decide +kernel
theorem kRX3_116 : fCst RX3 116 = some (1103515245) := by decide +kernel
theorem rRX3_117 : spc RX3 117 = some 2 := by decide +kernel
theorem rRX3_123 : rsl 1 RX3 123 = some (MX0_give, 3) := by decide +kernel
theorem rRX3_127 : rsl 0 RX3 127 = some (MX7_hold, 3) := by decide +kernel
theorem rRX3_130 : rsl 1 RX3 130 = some (MX1_driftFrom, 2) := by decide +kernel
theorem rRX3_133 : rsl 1 RX3 133 = some (MX3_passWeek, 0) := by decide +kernel
theorem rRX3_136 : rsl 1 RX3 136 = some (MX3_countHeld, 0) := by decide +kernel
theorem rRX3_139 : rsl 1 RX3 139 = some (MX3_lawFor, 1) := by decide +kernel
theorem rRX3_142 : rsl 1 RX3 142 = some (MX3_carryFrom, 2) := by decide +kernel
theorem rRX3_146 : rsl 1 RX3 146 = some (MX3_sawByLot, 1) := by decide +kernel
theorem rRX3_150 : rsl 1 RX3 150 = some (MX1_isAfloat, 0) := by decide +kernel
theorem rRX3_154 : rsl 1 RX3 154 = some (MX3_driftOf, 2) := by decide +kernel
theorem rRX3_158 : rsl 1 RX3 158 = some (MX3_carry, 2) := by decide +kernel
theorem rRX3_162 : rsl 1 RX3 162 = some (MX3_mayLeave, 1) := by decide +kernel
theorem rRX3_166 : rsl 0 RX3 166 = some (MX7_isReach, 1) := by decide +kernel
theorem rRX3_169 : rsl 1 RX3 169 = some (MX3_hasLog, 1) := by decide +kernel
theorem rRX3_172 : rsl 1 RX3 172 = some (MX1_claimedBy, 1) := by decide +kernel
theorem rRX3_175 : rsl 1 RX3 175 = some (MX3_unusedWith, 2) := by decide +kernel
theorem rRX3_178 : rsl 0 RX3 178 = some (MJ6_bitCount_0f7a4, 1) := by decide +kernel
theorem rRX4_3 : spc RX4 3 = some 0 := by decide +kernel
theorem fRX4_9 : fld RX4 9 = some (4, 0) := by decide +kernel
theorem fRX4_15 : fld RX4 15 = some (4, 1) := by decide +kernel
theorem fRX4_19 : fld RX4 19 = some (4, 2) := by decide +kernel
theorem rRX4_22 : spc RX4 22 = some 1 := by decide +kernel
theorem rRX4_28 : rsl 1 RX4 28 = some (MX4_hasPlace, 1) := by decide +kernel
theorem kRX4_32 : fCst RX4 32 = some (-1000000005) := by decide +kernel
theorem rRX4_33 : rsl 0 RX4 33 = some (MX7_within, 3) := by decide +kernel
theorem rRX5_3 : spc RX5 3 = some 0 := by decide +kernel
theorem nRX5_9 : nwc RX5 9 = some 1 := by decide +kernel
theorem rRX5_11 : rsl 2 RX5 11 = some (MX1_init, 0) := by decide +kernel
theorem fRX5_12 : fld RX5 12 = some (5, 0) := by decide +kernel
theorem nRX5_18 : nwc RX5 18 = some 4 := by decide +kernel
theorem rRX5_20 : rsl 2 RX5 20 = some (MX4_init, 0) := by decide +kernel
theorem fRX5_21 : fld RX5 21 = some (5, 1) := by decide +kernel
theorem fRX5_25 : fld RX5 25 = some (5, 2) := by decide +kernel
theorem fRX5_29 : fld RX5 29 = some (5, 3) := by decide +kernel
theorem kRX5_32 : fCst RX5 32 = some (-1000000011) := by decide +kernel
theorem kRX5_33 : fCst RX5 33 = some (-1000000012) := by decide +kernel
theorem rRX6_3 : spc RX6 3 = some 0 := by decide +kernel
theorem fRX6_9 : fld RX6 9 = some (6, 0) := by decide +kernel
theorem fRX6_15 : fld RX6 15 = some (6, 1) := by decide +kernel
theorem rRX7_1 : spc RX7 1 = some 0 := by decide +kernel
theorem nRX7_7 : nwc RX7 7 = some 3 := by decide +kernel
theorem rRX7_9 : rsl 2 RX7 9 = some (MX3_init, 0) := by decide +kernel
theorem fRX7_10 : fld RX7 10 = some (7, 0) := by decide +kernel
theorem fRX7_16 : fld RX7 16 = some (7, 1) := by decide +kernel
theorem fRX7_19 : fld RX7 19 = some (7, 2) := by decide +kernel
theorem fRX7_22 : fld RX7 22 = some (7, 3) := by decide +kernel
theorem nRX7_25 : nwc RX7 25 = some 2 := by decide +kernel
theorem rRX7_27 : rsl 2 RX7 27 = some (MX2_init, 0) := by decide +kernel
theorem fRX7_28 : fld RX7 28 = some (7, 4) := by decide +kernel
theorem aRX7_32 : nwa RX7 32 = some 16 := by decide +kernel
theorem fRX7_34 : fld RX7 34 = some (7, 5) := by decide +kernel
theorem aRX7_38 : nwa RX7 38 = some 17 := by decide +kernel
theorem fRX7_40 : fld RX7 40 = some (7, 6) := by decide +kernel
theorem fRX7_44 : fld RX7 44 = some (7, 7) := by decide +kernel
theorem fRX7_48 : fld RX7 48 = some (7, 8) := by decide +kernel
theorem fRX7_52 : fld RX7 52 = some (7, 9) := by decide +kernel
theorem nRX7_32 : nwc RX7 32 = some 4 := by decide +kernel
theorem rRX7_56 : rsl 2 RX7 56 = some (MX4_init, 0) := by decide +kernel
theorem nRX7_38 : nwc RX7 38 = some 5 := by decide +kernel
theorem rRX7_57 : rsl 2 RX7 57 = some (MX5_init, 0) := by decide +kernel
theorem rRX7_58 : rsl 0 RX7 58 = some (MX7_isKind, 1) := by decide +kernel
theorem rRX7_62 : rsl 0 RX7 62 = some (MX7_isLetter, 1) := by decide +kernel
theorem rRX7_65 : rsl 0 RX7 65 = some (MX7_isMass, 1) := by decide +kernel
theorem kRX7_68 : fCst RX7 68 = some (-1000000001) := by decide +kernel
theorem rRX7_69 : rsl 1 RX7 69 = some (MX3_addLog, 3) := by decide +kernel
theorem fRX7_73 : fld RX7 73 = some (3, 6) := by decide +kernel
theorem kRX7_76 : fCst RX7 76 = some (-1000000003) := by decide +kernel
theorem rRX7_77 : rsl 1 RX7 77 = some (MX3_hasLog, 1) := by decide +kernel
theorem fRX7_80 : fld RX7 80 = some (3, 0) := by decide +kernel
theorem fRX7_84 : fld RX7 84 = some (1, 0) := by decide +kernel
theorem fRX7_89 : fld RX7 89 = some (1, 1) := by decide +kernel
theorem fRX7_92 : fld RX7 92 = some (1, 2) := by decide +kernel
theorem fRX7_95 : fld RX7 95 = some (1, 3) := by decide +kernel
theorem fRX7_98 : fld RX7 98 = some (1, 4) := by decide +kernel
theorem rRX7_101 : rsl 1 RX7 101 = some (MX3_lawFor, 1) := by decide +kernel
theorem rRX7_105 : rsl 1 RX7 105 = some (MX3_driftOf, 2) := by decide +kernel
theorem fRX7_109 : fld RX7 109 = some (3, 10) := by decide +kernel
theorem rRX7_112 : rsl 1 RX7 112 = some (MX1_claimedBy, 1) := by decide +kernel
theorem rRX7_116 : rsl 1 RX7 116 = some (MX1_worth, 0) := by decide +kernel
theorem rRX7_120 : rsl 1 RX7 120 = some (MX1_isOf, 1) := by decide +kernel
theorem kRX7_123 : fCst RX7 123 = some (-1000000012) := by decide +kernel
theorem rRX7_124 : rsl 0 RX7 124 = some (MX7_isReach, 1) := by decide +kernel
theorem kRX7_127 : fCst RX7 127 = some (-1000000002) := by decide +kernel
theorem rRX7_128 : rsl 0 RX7 128 = some (MX7_within, 3) := by decide +kernel
theorem fRX7_131 : fld RX7 131 = some (3, 1) := by decide +kernel
theorem fRX7_134 : fld RX7 134 = some (3, 2) := by decide +kernel
theorem fRX7_137 : fld RX7 137 = some (3, 11) := by decide +kernel
theorem fRX7_140 : fld RX7 140 = some (3, 9) := by decide +kernel
theorem rRX7_143 : rsl 1 RX7 143 = some (MX3_addLetter, 1) := by decide +kernel
theorem fRX7_146 : fld RX7 146 = some (3, 7) := by decide +kernel
theorem rRX7_149 : spc RX7 149 = some 3 := by decide +kernel
theorem rRX7_155 : rsl 1 RX7 155 = some (MX3_drawLog, 0) := by decide +kernel
theorem fRX7_158 : fld RX7 158 = some (3, 15) := by decide +kernel
theorem fRX7_161 : fld RX7 161 = some (3, 13) := by decide +kernel
theorem fRX7_164 : fld RX7 164 = some (3, 14) := by decide +kernel
theorem rRX7_167 : rsl 1 RX7 167 = some (MX3_passWeeks, 1) := by decide +kernel
theorem rRX7_171 : rsl 1 RX7 171 = some (MX3_letterRead, 1) := by decide +kernel
theorem rRX7_174 : rsl 1 RX7 174 = some (MX3_spelt, 0) := by decide +kernel
theorem rRX7_177 : rsl 1 RX7 177 = some (MX3_jammed, 0) := by decide +kernel
theorem fRX7_180 : fld RX7 180 = some (3, 12) := by decide +kernel
theorem rRX7_183 : rsl 1 RX7 183 = some (MX3_afloat, 0) := by decide +kernel
theorem rRX7_186 : rsl 1 RX7 186 = some (MX7_startThought, 0) := by decide +kernel
theorem rRX7_189 : rsl 1 RX7 189 = some (MX3_passWeek, 0) := by decide +kernel
theorem kRX7_192 : fCst RX7 192 = some (-1000000005) := by decide +kernel
theorem rRX7_193 : rsl 1 RX7 193 = some (MX1_isAfloat, 0) := by decide +kernel
theorem rRX7_197 : rsl 1 RX7 197 = some (MX7_startThoughtWithout, 1) := by decide +kernel
theorem rRX7_200 : rsl 1 RX7 200 = some (MX3_takeOver, 1) := by decide +kernel
theorem rRX7_204 : rsl 0 RX7 204 = some (MX7_isSheet, 1) := by decide +kernel
theorem rRX7_207 : rsl 1 RX7 207 = some (MX4_isMissing, 0) := by decide +kernel
theorem kRX7_210 : fCst RX7 210 = some (-1000000011) := by decide +kernel
theorem rRX7_211 : rsl 1 RX7 211 = some (MX7_apartWithMass, 3) := by decide +kernel
theorem rRX7_215 : rsl 1 RX7 215 = some (MX0_give, 3) := by decide +kernel
theorem fRX7_221 : fld RX7 221 = some (2, 0) := by decide +kernel
theorem fRX7_225 : fld RX7 225 = some (6, 1) := by decide +kernel
theorem rRX7_230 : rsl 1 RX7 230 = some (MX6_addBytesOf, 1) := by decide +kernel
theorem rRX7_233 : rsl 1 RX7 233 = some (MX2_readLaw, 0) := by decide +kernel
theorem fRX7_237 : fld RX7 237 = some (2, 3) := by decide +kernel
theorem rRX7_240 : rsl 1 RX7 240 = some (MX3_addLaw, 1) := by decide +kernel
theorem fRX7_244 : fld RX7 244 = some (3, 8) := by decide +kernel
theorem rRX7_247 : rsl 1 RX7 247 = some (MX3_lawAt, 1) := by decide +kernel
theorem fRX7_250 : fld RX7 250 = some (0, 0) := by decide +kernel
theorem fRX7_253 : fld RX7 253 = some (0, 1) := by decide +kernel
theorem rRX7_256 : rsl 1 RX7 256 = some (MX3_lawNumberFor, 1) := by decide +kernel
theorem kRX7_259 : fCst RX7 259 = some (-1000000014) := by decide +kernel
theorem rRX7_260 : rsl 1 RX7 260 = some (MX4_become, 2) := by decide +kernel
theorem fRX7_264 : fld RX7 264 = some (4, 2) := by decide +kernel
theorem rRX7_265 : rsl 1 RX7 265 = some (MX4_hasPlace, 1) := by decide +kernel
theorem kRX7_268 : fCst RX7 268 = some (-1000000013) := by decide +kernel
theorem fRX7_269 : fld RX7 269 = some (4, 1) := by decide +kernel
theorem fRX7_272 : fld RX7 272 = some (4, 0) := by decide +kernel
theorem kRX7_275 : fCst RX7 275 = some (-99999) := by decide +kernel
theorem kRX7_276 : fCst RX7 276 = some (99999) := by decide +kernel
theorem rRX7_277 : rsl 1 RX7 277 = some (MX4_hasNumber, 1) := by decide +kernel
theorem rRX7_280 : rsl 0 RX7 280 = some (MX7_hold, 3) := by decide +kernel
theorem rRX7_283 : rsl 1 RX7 283 = some (MX4_hasPlaces, 2) := by decide +kernel
theorem rRX7_287 : spc RX7 287 = some 1 := by decide +kernel
theorem rRX7_293 : rsl 0 RX7 293 = some (MX7_isSlot, 1) := by decide +kernel
theorem fRX7_296 : fld RX7 296 = some (5, 2) := by decide +kernel
theorem fRX7_299 : fld RX7 299 = some (5, 0) := by decide +kernel
theorem rRX7_303 : rsl 1 RX7 303 = some (MX1_takeOver, 1) := by decide +kernel
theorem fRX7_306 : fld RX7 306 = some (5, 1) := by decide +kernel
theorem rRX7_310 : rsl 1 RX7 310 = some (MX4_takeOver, 1) := by decide +kernel
theorem fRX7_313 : fld RX7 313 = some (5, 3) := by decide +kernel
theorem rRX7_316 : rsl 1 RX7 316 = some (MX5_findingFor, 1) := by decide +kernel
theorem rRX7_319 : rsl 1 RX7 319 = some (MX7_isWaiting, 3) := by decide +kernel
theorem rRX7_322 : rsl 1 RX7 322 = some (MX3_reachesTogether, 0) := by decide +kernel
theorem rRX7_325 : spc RX7 325 = some 4 := by decide +kernel
theorem rRX7_328 : spc RX7 328 = some 2 := by decide +kernel
theorem rRX8_1 : spc RX8 1 = some 0 := by decide +kernel
theorem fRX8_9 : fld RX8 9 = some (8, 0) := by decide +kernel
theorem fRX8_13 : fld RX8 13 = some (8, 1) := by decide +kernel
theorem fRX8_16 : fld RX8 16 = some (8, 2) := by decide +kernel
theorem fRX8_19 : fld RX8 19 = some (8, 4) := by decide +kernel
theorem fRX8_22 : fld RX8 22 = some (8, 5) := by decide +kernel
theorem fRX8_25 : fld RX8 25 = some (8, 13) := by decide +kernel
theorem fRX8_29 : fld RX8 29 = some (8, 14) := by decide +kernel
theorem fRX8_32 : fld RX8 32 = some (8, 15) := by decide +kernel
theorem fRX8_35 : fld RX8 35 = some (8, 18) := by decide +kernel
theorem fRX8_38 : fld RX8 38 = some (8, 20) := by decide +kernel
theorem fRX8_42 : fld RX8 42 = some (8, 21) := by decide +kernel
theorem fRX8_45 : fld RX8 45 = some (8, 22) := by decide +kernel
theorem fRX8_48 : fld RX8 48 = some (8, 23) := by decide +kernel
theorem fRX8_51 : fld RX8 51 = some (8, 24) := by decide +kernel
theorem fRX8_54 : fld RX8 54 = some (8, 25) := by decide +kernel
theorem fRX8_57 : fld RX8 57 = some (8, 26) := by decide +kernel
theorem fRX8_60 : fld RX8 60 = some (8, 27) := by decide +kernel
theorem fRX8_63 : fld RX8 63 = some (8, 28) := by decide +kernel
theorem fRX8_66 : fld RX8 66 = some (8, 29) := by decide +kernel
theorem fRX8_69 : fld RX8 69 = some (8, 30) := by decide +kernel
theorem fRX8_72 : fld RX8 72 = some (8, 31) := by decide +kernel
theorem rRX8_75 : rsl 0 RX8 75 = some (MX8_in, 3) := by decide +kernel
theorem rRX8_79 : rsl 1 RX8 79 = some (MX8_put, 3) := by decide +kernel
theorem kRX8_83 : fCst RX8 83 = some (-1000000001) := by decide +kernel
theorem kRX8_84 : fCst RX8 84 = some (-1000000003) := by decide +kernel
theorem rRX8_85 : rsl 1 RX8 85 = some (MX8_comes, 3) := by decide +kernel
theorem rRX8_89 : rsl 1 RX8 89 = some (MX8_counts, 1) := by decide +kernel
theorem rRX8_93 : rsl 1 RX8 93 = some (MX8_of, 2) := by decide +kernel
theorem rRX8_97 : rsl 1 RX8 97 = some (MX8_worksOut, 1) := by decide +kernel
theorem rRX8_100 : rsl 0 RX8 100 = some (MX8_within, 3) := by decide +kernel
theorem rRX8_103 : rsl 1 RX8 103 = some (MX8_isLog, 1) := by decide +kernel
theorem rRX8_107 : rsl 1 RX8 107 = some (MX8_driftsOf, 1) := by decide +kernel
theorem rRX8_110 : rsl 1 RX8 110 = some (MX8_claimedOf, 1) := by decide +kernel
theorem rRX8_113 : rsl 1 RX8 113 = some (MX8_worthOf, 1) := by decide +kernel
theorem rRX8_116 : rsl 0 RX8 116 = some (MX8_isUnder, 2) := by decide +kernel
theorem kRX8_120 : fCst RX8 120 = some (-1000000012) := by decide +kernel
theorem rRX8_121 : rsl 1 RX8 121 = some (MX8_becomes, 2) := by decide +kernel
theorem rRX8_124 : rsl 0 RX8 124 = some (MX8_isReach, 1) := by decide +kernel
theorem kRX8_127 : fCst RX8 127 = some (-1000000002) := by decide +kernel
theorem kRX8_128 : fCst RX8 128 = some (1103515245) := by decide +kernel
theorem rRX8_129 : rsl 1 RX8 129 = some (MX8_draw, 0) := by decide +kernel
theorem rRX8_133 : rsl 1 RX8 133 = some (MX8_manyAt, 1) := by decide +kernel
theorem rRX8_136 : rsl 1 RX8 136 = some (MX8_goesDown, 1) := by decide +kernel
theorem rRX8_140 : rsl 1 RX8 140 = some (MX8_saws, 0) := by decide +kernel
theorem rRX8_143 : rsl 1 RX8 143 = some (MX8_week, 0) := by decide +kernel
theorem rRX8_146 : rsl 1 RX8 146 = some (MX8_goesOn, 1) := by decide +kernel
theorem kRX8_149 : fCst RX8 149 = some (-1000000005) := by decide +kernel
theorem rRX8_150 : rsl 1 RX8 150 = some (MX8_spelt, 0) := by decide +kernel
theorem rRX8_153 : rsl 1 RX8 153 = some (MX8_jam, 0) := by decide +kernel
theorem rRX8_156 : rsl 1 RX8 156 = some (MX8_thinks, 0) := by decide +kernel
theorem rRX8_159 : rsl 1 RX8 159 = some (MX8_putsBack, 0) := by decide +kernel
theorem rRX8_162 : rsl 1 RX8 162 = some (MX8_comeBehind, 1) := by decide +kernel
theorem rRX8_165 : rsl 1 RX8 165 = some (MX8_speltBehind, 1) := by decide +kernel
theorem rRX8_168 : rsl 0 RX8 168 = some (MX8_isSheet, 1) := by decide +kernel
theorem kRX8_171 : fCst RX8 171 = some (-1000000011) := by decide +kernel
theorem rRX8_172 : rsl 1 RX8 172 = some (MX8_offBy, 3) := by decide +kernel
theorem fRX8_176 : fld RX8 176 = some (8, 6) := by decide +kernel
theorem fRX8_180 : fld RX8 180 = some (8, 7) := by decide +kernel
theorem fRX8_183 : fld RX8 183 = some (8, 8) := by decide +kernel
theorem fRX8_186 : fld RX8 186 = some (8, 11) := by decide +kernel
theorem fRX8_189 : fld RX8 189 = some (8, 9) := by decide +kernel
theorem rRX8_192 : rsl 1 RX8 192 = some (MX8_isLetter, 1) := by decide +kernel
theorem fRX8_195 : fld RX8 195 = some (8, 10) := by decide +kernel
theorem rRX8_198 : rsl 1 RX8 198 = some (MX8_isFigure, 1) := by decide +kernel
theorem fRX8_201 : fld RX8 201 = some (8, 12) := by decide +kernel
theorem rRX8_204 : rsl 1 RX8 204 = some (MX8_go, 0) := by decide +kernel
theorem fRX8_207 : fld RX8 207 = some (8, 19) := by decide +kernel
theorem rRX8_210 : rsl 0 RX8 210 = some (MX8_rank, 1) := by decide +kernel
theorem fRX8_213 : fld RX8 213 = some (8, 16) := by decide +kernel
theorem rRX8_216 : rsl 1 RX8 216 = some (MX8_nameOf, 1) := by decide +kernel
theorem fRX8_219 : fld RX8 219 = some (8, 17) := by decide +kernel
theorem rRX8_222 : rsl 1 RX8 222 = some (MX8_settle, 1) := by decide +kernel
theorem rRX8_225 : rsl 1 RX8 225 = some (MX8_takesPart, 0) := by decide +kernel
theorem rRX8_229 : rsl 1 RX8 229 = some (MX8_notsOpen, 0) := by decide +kernel
theorem rRX8_232 : rsl 1 RX8 232 = some (MX8_signHere, 0) := by decide +kernel
theorem rRX8_235 : rsl 1 RX8 235 = some (MX8_takesKey, 0) := by decide +kernel
theorem rRX8_238 : rsl 1 RX8 238 = some (MX8_takesE, 0) := by decide +kernel
theorem rRX8_241 : rsl 0 RX8 241 = some (MX8_two, 3) := by decide +kernel
theorem kRX8_244 : fCst RX8 244 = some (-1000000014) := by decide +kernel
theorem kRX8_245 : fCst RX8 245 = some (-1000000013) := by decide +kernel
theorem kRX8_246 : fCst RX8 246 = some (-99999) := by decide +kernel
theorem kRX8_247 : fCst RX8 247 = some (99999) := by decide +kernel
theorem rRX8_248 : rsl 0 RX8 248 = some (MX8_isSlot, 1) := by decide +kernel
theorem fRX8_251 : fld RX8 251 = some (8, 32) := by decide +kernel
theorem fRX8_254 : fld RX8 254 = some (8, 3) := by decide +kernel
theorem rRX8_258 : rsl 0 RX8 258 = some (MX8_copyAll, 2) := by decide +kernel
theorem rRX8_262 : rsl 1 RX8 262 = some (MX8_allReaches, 0) := by decide +kernel
theorem kRJ6_265 : fCst RJ6 265 = some (1431655765) := by decide +kernel
theorem kRJ6_266 : fCst RJ6 266 = some (858993459) := by decide +kernel
theorem kRJ6_267 : fCst RJ6 267 = some (252645135) := by decide +kernel
theorem fRJ0_9 : fld RJ0 9 = some (20, 1) := by decide +kernel
theorem rRJ0_335 : rsl 1 RJ0 335 = some (MJ0_coder_7d493, 0) := by decide +kernel
theorem rRJ0_492 : rsl 1 RJ0 492 = some (MJ0_isLatin1_aae02, 0) := by decide +kernel
theorem rRJ0_495 : rsl 0 RJ0 495 = some (MJ1_charAt_3b067, 2) := by decide +kernel
theorem rRJ0_633 : rsl 1 RJ0 633 = some (MJ0_indexOf_7cf53, 2) := by decide +kernel
theorem rRJ0_505 : rsl 1 RJ0 505 = some (MJ0_length_8abf5, 0) := by decide +kernel
theorem rRJ0_637 : rsl 0 RJ0 637 = some (MJ1_indexOf_4cfef, 4) := by decide +kernel
theorem sRJ0_38 : sta RJ0 38 = some (vI 1) := by decide +kernel
theorem fRJ0_15 : fld RJ0 15 = some (20, 0) := by decide +kernel
theorem sRJ0_1053 : sta RJ0 1053 = some (vR 4 0 0) := by decide +kernel
theorem rRJ0_1059 : rsl 0 RJ0 1059 = some (MJ3_checkIndex_8e157, 3) := by decide +kernel
theorem rRJ1_9 : rsl 0 RJ1 9 = some (MJ0_checkIndex_df160, 2) := by decide +kernel
theorem rRJ1_88 : rsl 0 RJ1 88 = some (MJ1_canEncode_9a6ad, 1) := by decide +kernel
theorem rRJ1_92 : spc RJ1 92 = some 2 := by decide +kernel
theorem rRJ1_38 : spc RJ1 38 = some 3 := by decide +kernel
theorem rRJ1_95 : rsl 0 RJ1 95 = some (MJ1_indexOfChar_4cfef, 4) := by decide +kernel
theorem nRL_7 : nwc "LogLettersLaw" 7 = some 7 := by decide +kernel
theorem rRL_9 : rsl 2 "LogLettersLaw" 9 = some (MX7_init, 0) := by decide +kernel
theorem nRL_10 : nwc "LogLettersLaw" 10 = some 8 := by decide +kernel
theorem rRL_12 : rsl 2 "LogLettersLaw" 12 = some (MX8_init, 0) := by decide +kernel
theorem rRL_13 : rsl 1 "LogLettersLaw" 13 = some (MX7_log, 3) := by decide +kernel
theorem rRL_17 : rsl 1 "LogLettersLaw" 17 = some (MX8_log, 3) := by decide +kernel
theorem rRL_18 : rsl 1 "LogLettersLaw" 18 = some (MX7_told, 2) := by decide +kernel
theorem rRL_22 : rsl 1 "LogLettersLaw" 22 = some (MX8_told, 2) := by decide +kernel
theorem rRL_23 : rsl 1 "LogLettersLaw" 23 = some (MX7_as, 2) := by decide +kernel
theorem rRL_26 : rsl 1 "LogLettersLaw" 26 = some (MX8_as, 2) := by decide +kernel
theorem rRL_27 : rsl 1 "LogLettersLaw" 27 = some (MX7_turns, 2) := by decide +kernel
theorem rRL_30 : rsl 1 "LogLettersLaw" 30 = some (MX8_turns, 2) := by decide +kernel
theorem rRL_31 : rsl 1 "LogLettersLaw" 31 = some (MX7_set, 3) := by decide +kernel
theorem rRL_34 : rsl 1 "LogLettersLaw" 34 = some (MX8_set, 3) := by decide +kernel
theorem rRL_35 : rsl 1 "LogLettersLaw" 35 = some (MX7_lays, 2) := by decide +kernel
theorem rRL_38 : rsl 1 "LogLettersLaw" 38 = some (MX8_lays, 2) := by decide +kernel
theorem rRL_39 : rsl 1 "LogLettersLaw" 39 = some (MX7_reach, 3) := by decide +kernel
theorem rRL_42 : rsl 1 "LogLettersLaw" 42 = some (MX8_reach, 3) := by decide +kernel
theorem rRL_43 : rsl 1 "LogLettersLaw" 43 = some (MX7_rule, 2) := by decide +kernel
theorem rRL_46 : rsl 1 "LogLettersLaw" 46 = some (MX8_rule, 2) := by decide +kernel
theorem rRL_47 : rsl 1 "LogLettersLaw" 47 = some (MX7_word, 1) := by decide +kernel
theorem rRL_51 : rsl 1 "LogLettersLaw" 51 = some (MX8_word, 1) := by decide +kernel
theorem rRL_52 : rsl 1 "LogLettersLaw" 52 = some (MX7_unword, 0) := by decide +kernel
theorem rRL_56 : rsl 1 "LogLettersLaw" 56 = some (MX8_unword, 0) := by decide +kernel
theorem rRL_57 : rsl 1 "LogLettersLaw" 57 = some (MX7_deal, 1) := by decide +kernel
theorem rRL_60 : rsl 1 "LogLettersLaw" 60 = some (MX8_deal, 1) := by decide +kernel
theorem rRL_61 : rsl 1 "LogLettersLaw" 61 = some (MX7_seed, 1) := by decide +kernel
theorem rRL_64 : rsl 1 "LogLettersLaw" 64 = some (MX8_seed, 1) := by decide +kernel
theorem rRL_65 : rsl 1 "LogLettersLaw" 65 = some (MX7_weeks, 1) := by decide +kernel
theorem rRL_68 : rsl 1 "LogLettersLaw" 68 = some (MX8_weeks, 1) := by decide +kernel
theorem rRL_69 : rsl 1 "LogLettersLaw" 69 = some (MX7_read, 1) := by decide +kernel
theorem rRL_72 : rsl 1 "LogLettersLaw" 72 = some (MX8_read, 1) := by decide +kernel
theorem rRL_73 : rsl 1 "LogLettersLaw" 73 = some (MX7_river, 1) := by decide +kernel
theorem rRL_76 : rsl 1 "LogLettersLaw" 76 = some (MX8_river, 1) := by decide +kernel
theorem rRL_77 : rsl 1 "LogLettersLaw" 77 = some (MX7_behind, 2) := by decide +kernel
theorem rRL_80 : rsl 1 "LogLettersLaw" 80 = some (MX8_behind, 2) := by decide +kernel
theorem rRL_81 : rsl 1 "LogLettersLaw" 81 = some (MX7_whole, 0) := by decide +kernel
theorem rRL_84 : rsl 1 "LogLettersLaw" 84 = some (MX8_whole, 0) := by decide +kernel
theorem rRL_85 : rsl 1 "LogLettersLaw" 85 = some (MX7_frees, 2) := by decide +kernel
theorem rRL_88 : rsl 1 "LogLettersLaw" 88 = some (MX8_frees, 2) := by decide +kernel
theorem rRL_89 : rsl 1 "LogLettersLaw" 89 = some (MX7_lost, 1) := by decide +kernel
theorem rRL_92 : rsl 1 "LogLettersLaw" 92 = some (MX8_lost, 1) := by decide +kernel
theorem rRL_93 : rsl 1 "LogLettersLaw" 93 = some (MX7_wider, 2) := by decide +kernel
theorem rRL_96 : rsl 1 "LogLettersLaw" 96 = some (MX8_wider, 2) := by decide +kernel
theorem rRL_97 : rsl 1 "LogLettersLaw" 97 = some (MX7_opened, 1) := by decide +kernel
theorem rRL_100 : rsl 1 "LogLettersLaw" 100 = some (MX8_opened, 1) := by decide +kernel
theorem rRL_101 : rsl 1 "LogLettersLaw" 101 = some (MX7_rolled, 2) := by decide +kernel
theorem rRL_104 : rsl 1 "LogLettersLaw" 104 = some (MX8_rolled, 2) := by decide +kernel
theorem rRL_105 : rsl 1 "LogLettersLaw" 105 = some (MX7_looked, 3) := by decide +kernel
theorem rRL_108 : rsl 1 "LogLettersLaw" 108 = some (MX8_looked, 3) := by decide +kernel
theorem rRL_109 : rsl 1 "LogLettersLaw" 109 = some (MX7_fee, 0) := by decide +kernel
theorem rRL_112 : rsl 1 "LogLettersLaw" 112 = some (MX8_fee, 0) := by decide +kernel
theorem rRL_113 : rsl 1 "LogLettersLaw" 113 = some (MX7_fine, 1) := by decide +kernel
theorem rRL_116 : rsl 1 "LogLettersLaw" 116 = some (MX8_fine, 1) := by decide +kernel
theorem rRL_117 : rsl 1 "LogLettersLaw" 117 = some (MX7_feed, 3) := by decide +kernel
theorem rRL_120 : rsl 1 "LogLettersLaw" 120 = some (MX8_feed, 3) := by decide +kernel
theorem rRL_121 : rsl 1 "LogLettersLaw" 121 = some (MX7_trim, 1) := by decide +kernel
theorem rRL_124 : rsl 1 "LogLettersLaw" 124 = some (MX8_trim, 1) := by decide +kernel
theorem rRL_125 : rsl 1 "LogLettersLaw" 125 = some (MX7_text, 0) := by decide +kernel
theorem rRL_128 : rsl 1 "LogLettersLaw" 128 = some (MX8_text, 0) := by decide +kernel
theorem rRL_129 : rsl 1 "LogLettersLaw" 129 = some (MX7_textTold, 2) := by decide +kernel
theorem rRL_132 : rsl 1 "LogLettersLaw" 132 = some (MX8_textTold, 2) := by decide +kernel
theorem rRL_133 : rsl 1 "LogLettersLaw" 133 = some (MX7_why, 1) := by decide +kernel
theorem rRL_136 : rsl 1 "LogLettersLaw" 136 = some (MX8_why, 1) := by decide +kernel
theorem rRL_137 : rsl 1 "LogLettersLaw" 137 = some (MX7_sheet, 3) := by decide +kernel
theorem rRL_140 : rsl 1 "LogLettersLaw" 140 = some (MX8_sheet, 3) := by decide +kernel
theorem rRL_141 : rsl 1 "LogLettersLaw" 141 = some (MX7_mark, 3) := by decide +kernel
theorem rRL_144 : rsl 1 "LogLettersLaw" 144 = some (MX8_mark, 3) := by decide +kernel
theorem rRL_145 : rsl 1 "LogLettersLaw" 145 = some (MX7_pour, 1) := by decide +kernel
theorem rRL_148 : rsl 1 "LogLettersLaw" 148 = some (MX8_pour, 1) := by decide +kernel
theorem rRL_149 : rsl 1 "LogLettersLaw" 149 = some (MX7_reads, 1) := by decide +kernel
theorem rRL_152 : rsl 1 "LogLettersLaw" 152 = some (MX8_reads, 1) := by decide +kernel
theorem rRL_153 : rsl 1 "LogLettersLaw" 153 = some (MX7_copy, 5) := by decide +kernel
theorem rRL_157 : rsl 1 "LogLettersLaw" 157 = some (MX8_copy, 5) := by decide +kernel
theorem rRL_158 : rsl 1 "LogLettersLaw" 158 = some (MX7_lay, 3) := by decide +kernel
theorem rRL_161 : rsl 1 "LogLettersLaw" 161 = some (MX8_lay, 3) := by decide +kernel
theorem rRL_162 : rsl 1 "LogLettersLaw" 162 = some (MX7_ask, 2) := by decide +kernel
theorem rRL_165 : rsl 1 "LogLettersLaw" 165 = some (MX8_ask, 2) := by decide +kernel
theorem rRL_166 : rsl 1 "LogLettersLaw" 166 = some (MX7_item, 2) := by decide +kernel
theorem rRL_169 : rsl 1 "LogLettersLaw" 169 = some (MX8_item, 2) := by decide +kernel
theorem rRL_170 : rsl 1 "LogLettersLaw" 170 = some (MX7_rest, 2) := by decide +kernel
theorem rRL_173 : rsl 1 "LogLettersLaw" 173 = some (MX8_rest, 2) := by decide +kernel
theorem rRL_174 : rsl 1 "LogLettersLaw" 174 = some (MX7_tell, 1) := by decide +kernel
theorem rRL_177 : rsl 1 "LogLettersLaw" 177 = some (MX8_tell, 1) := by decide +kernel
theorem rRL_178 : rsl 1 "LogLettersLaw" 178 = some (MX7_check, 1) := by decide +kernel
theorem rRL_181 : rsl 1 "LogLettersLaw" 181 = some (MX8_check, 1) := by decide +kernel
theorem rRL_182 : rsl 1 "LogLettersLaw" 182 = some (MX7_keep, 0) := by decide +kernel
theorem rRL_185 : rsl 1 "LogLettersLaw" 185 = some (MX8_keep, 0) := by decide +kernel
theorem rRL_186 : rsl 1 "LogLettersLaw" 186 = some (MX7_back, 0) := by decide +kernel
theorem rRL_189 : rsl 1 "LogLettersLaw" 189 = some (MX8_back, 0) := by decide +kernel
theorem rRL_190 : rsl 1 "LogLettersLaw" 190 = some (MX7_count, 1) := by decide +kernel
theorem rRL_193 : rsl 1 "LogLettersLaw" 193 = some (MX8_count, 1) := by decide +kernel
