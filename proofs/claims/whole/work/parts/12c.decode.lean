/-! THE PURE PART: the rows that decode (12c) -/
theorem dX8_init_0 : decode cX8_init 0 = .ok (.aload_n 0, 1) := by decide +kernel
theorem dX8_init_1 : decode cX8_init 1 = .ok (.invokespecial 1, 3) := by decide +kernel
theorem dX8_init_4 : decode cX8_init 4 = .ok (.aload_n 0, 1) := by decide +kernel
theorem dX8_init_5 : decode cX8_init 5 = .ok (.sipush 1477, 3) := by decide +kernel
theorem dX8_init_8 : decode cX8_init 8 = .ok (.newarray .int, 2) := by decide +kernel
theorem dX8_init_10 : decode cX8_init 10 = .ok (.putfield 9, 3) := by decide +kernel
theorem dX8_init_13 : decode cX8_init 13 = .ok (.aload_n 0, 1) := by decide +kernel
theorem dX8_init_14 : decode cX8_init 14 = .ok (.sipush 1477, 3) := by decide +kernel
theorem dX8_init_17 : decode cX8_init 17 = .ok (.newarray .int, 2) := by decide +kernel
theorem dX8_init_19 : decode cX8_init 19 = .ok (.putfield 13, 3) := by decide +kernel
theorem dX8_init_22 : decode cX8_init 22 = .ok (.aload_n 0, 1) := by decide +kernel
theorem dX8_init_23 : decode cX8_init 23 = .ok (.sipush 1477, 3) := by decide +kernel
theorem dX8_init_26 : decode cX8_init 26 = .ok (.newarray .int, 2) := by decide +kernel
theorem dX8_init_28 : decode cX8_init 28 = .ok (.putfield 16, 3) := by decide +kernel
theorem dX8_init_31 : decode cX8_init 31 = .ok (.aload_n 0, 1) := by decide +kernel
theorem dX8_init_32 : decode cX8_init 32 = .ok (.bipush 105, 2) := by decide +kernel
theorem dX8_init_34 : decode cX8_init 34 = .ok (.newarray .int, 2) := by decide +kernel
theorem dX8_init_36 : decode cX8_init 36 = .ok (.putfield 19, 3) := by decide +kernel
theorem dX8_init_39 : decode cX8_init 39 = .ok (.aload_n 0, 1) := by decide +kernel
theorem dX8_init_40 : decode cX8_init 40 = .ok (.bipush 96, 2) := by decide +kernel
theorem dX8_init_42 : decode cX8_init 42 = .ok (.newarray .int, 2) := by decide +kernel
theorem dX8_init_44 : decode cX8_init 44 = .ok (.putfield 22, 3) := by decide +kernel
theorem dX8_init_47 : decode cX8_init 47 = .ok (.aload_n 0, 1) := by decide +kernel
theorem dX8_init_48 : decode cX8_init 48 = .ok (.bipush 12, 2) := by decide +kernel
theorem dX8_init_50 : decode cX8_init 50 = .ok (.newarray .char, 2) := by decide +kernel
theorem dX8_init_52 : decode cX8_init 52 = .ok (.dup, 1) := by decide +kernel
theorem dX8_init_53 : decode cX8_init 53 = .ok (.iconst 0, 1) := by decide +kernel
theorem dX8_init_54 : decode cX8_init 54 = .ok (.bipush 100, 2) := by decide +kernel
theorem dX8_init_56 : decode cX8_init 56 = .ok (.castore, 1) := by decide +kernel
theorem dX8_init_57 : decode cX8_init 57 = .ok (.dup, 1) := by decide +kernel
theorem dX8_init_58 : decode cX8_init 58 = .ok (.iconst 1, 1) := by decide +kernel
theorem dX8_init_59 : decode cX8_init 59 = .ok (.bipush 114, 2) := by decide +kernel
theorem dX8_init_61 : decode cX8_init 61 = .ok (.castore, 1) := by decide +kernel
theorem dX8_init_62 : decode cX8_init 62 = .ok (.dup, 1) := by decide +kernel
theorem dX8_init_63 : decode cX8_init 63 = .ok (.iconst 2, 1) := by decide +kernel
theorem dX8_init_64 : decode cX8_init 64 = .ok (.bipush 105, 2) := by decide +kernel
theorem dX8_init_66 : decode cX8_init 66 = .ok (.castore, 1) := by decide +kernel
theorem dX8_init_67 : decode cX8_init 67 = .ok (.dup, 1) := by decide +kernel
theorem dX8_init_68 : decode cX8_init 68 = .ok (.iconst 3, 1) := by decide +kernel
theorem dX8_init_69 : decode cX8_init 69 = .ok (.bipush 102, 2) := by decide +kernel
theorem dX8_init_71 : decode cX8_init 71 = .ok (.castore, 1) := by decide +kernel
theorem dX8_init_72 : decode cX8_init 72 = .ok (.dup, 1) := by decide +kernel
theorem dX8_init_73 : decode cX8_init 73 = .ok (.iconst 4, 1) := by decide +kernel
theorem dX8_init_74 : decode cX8_init 74 = .ok (.bipush 116, 2) := by decide +kernel
theorem dX8_init_76 : decode cX8_init 76 = .ok (.castore, 1) := by decide +kernel
theorem dX8_init_77 : decode cX8_init 77 = .ok (.dup, 1) := by decide +kernel
theorem dX8_init_78 : decode cX8_init 78 = .ok (.iconst 5, 1) := by decide +kernel
theorem dX8_init_79 : decode cX8_init 79 = .ok (.bipush 102, 2) := by decide +kernel
theorem dX8_init_81 : decode cX8_init 81 = .ok (.castore, 1) := by decide +kernel
theorem dX8_init_82 : decode cX8_init 82 = .ok (.dup, 1) := by decide +kernel
theorem dX8_init_83 : decode cX8_init 83 = .ok (.bipush 6, 2) := by decide +kernel
theorem dX8_init_85 : decode cX8_init 85 = .ok (.bipush 101, 2) := by decide +kernel
theorem dX8_init_87 : decode cX8_init 87 = .ok (.castore, 1) := by decide +kernel
theorem dX8_init_88 : decode cX8_init 88 = .ok (.dup, 1) := by decide +kernel
theorem dX8_init_89 : decode cX8_init 89 = .ok (.bipush 7, 2) := by decide +kernel
theorem dX8_init_91 : decode cX8_init 91 = .ok (.bipush 101, 2) := by decide +kernel
theorem dX8_init_93 : decode cX8_init 93 = .ok (.castore, 1) := by decide +kernel
theorem dX8_init_94 : decode cX8_init 94 = .ok (.dup, 1) := by decide +kernel
theorem dX8_init_95 : decode cX8_init 95 = .ok (.bipush 8, 2) := by decide +kernel
theorem dX8_init_97 : decode cX8_init 97 = .ok (.bipush 102, 2) := by decide +kernel
theorem dX8_init_99 : decode cX8_init 99 = .ok (.castore, 1) := by decide +kernel
theorem dX8_init_100 : decode cX8_init 100 = .ok (.dup, 1) := by decide +kernel
theorem dX8_init_101 : decode cX8_init 101 = .ok (.bipush 9, 2) := by decide +kernel
theorem dX8_init_103 : decode cX8_init 103 = .ok (.bipush 105, 2) := by decide +kernel
theorem dX8_init_105 : decode cX8_init 105 = .ok (.castore, 1) := by decide +kernel
theorem dX8_init_106 : decode cX8_init 106 = .ok (.dup, 1) := by decide +kernel
theorem dX8_init_107 : decode cX8_init 107 = .ok (.bipush 10, 2) := by decide +kernel
theorem dX8_init_109 : decode cX8_init 109 = .ok (.bipush 110, 2) := by decide +kernel
theorem dX8_init_111 : decode cX8_init 111 = .ok (.castore, 1) := by decide +kernel
theorem dX8_init_112 : decode cX8_init 112 = .ok (.dup, 1) := by decide +kernel
theorem dX8_init_113 : decode cX8_init 113 = .ok (.bipush 11, 2) := by decide +kernel
theorem dX8_init_115 : decode cX8_init 115 = .ok (.bipush 101, 2) := by decide +kernel
theorem dX8_init_117 : decode cX8_init 117 = .ok (.castore, 1) := by decide +kernel
theorem dX8_init_118 : decode cX8_init 118 = .ok (.putfield 25, 3) := by decide +kernel
theorem dX8_init_121 : decode cX8_init 121 = .ok (.aload_n 0, 1) := by decide +kernel
theorem dX8_init_122 : decode cX8_init 122 = .ok (.iconst 4, 1) := by decide +kernel
theorem dX8_init_123 : decode cX8_init 123 = .ok (.newarray .int, 2) := by decide +kernel
theorem dX8_init_125 : decode cX8_init 125 = .ok (.dup, 1) := by decide +kernel
theorem dX8_init_126 : decode cX8_init 126 = .ok (.iconst 0, 1) := by decide +kernel
theorem dX8_init_127 : decode cX8_init 127 = .ok (.iconst 0, 1) := by decide +kernel
theorem dX8_init_128 : decode cX8_init 128 = .ok (.iastore, 1) := by decide +kernel
theorem dX8_init_129 : decode cX8_init 129 = .ok (.dup, 1) := by decide +kernel
theorem dX8_init_130 : decode cX8_init 130 = .ok (.iconst 1, 1) := by decide +kernel
theorem dX8_init_131 : decode cX8_init 131 = .ok (.iconst 5, 1) := by decide +kernel
theorem dX8_init_132 : decode cX8_init 132 = .ok (.iastore, 1) := by decide +kernel
theorem dX8_init_133 : decode cX8_init 133 = .ok (.dup, 1) := by decide +kernel
theorem dX8_init_134 : decode cX8_init 134 = .ok (.iconst 2, 1) := by decide +kernel
theorem dX8_init_135 : decode cX8_init 135 = .ok (.bipush 8, 2) := by decide +kernel
theorem dX8_init_137 : decode cX8_init 137 = .ok (.iastore, 1) := by decide +kernel
theorem dX8_init_138 : decode cX8_init 138 = .ok (.dup, 1) := by decide +kernel
theorem dX8_init_139 : decode cX8_init 139 = .ok (.iconst 3, 1) := by decide +kernel
theorem dX8_init_140 : decode cX8_init 140 = .ok (.bipush 12, 2) := by decide +kernel
theorem dX8_init_142 : decode cX8_init 142 = .ok (.iastore, 1) := by decide +kernel
theorem dX8_init_143 : decode cX8_init 143 = .ok (.putfield 29, 3) := by decide +kernel
theorem dX8_init_146 : decode cX8_init 146 = .ok (.aload_n 0, 1) := by decide +kernel
theorem dX8_init_147 : decode cX8_init 147 = .ok (.bipush 96, 2) := by decide +kernel
theorem dX8_init_149 : decode cX8_init 149 = .ok (.newarray .int, 2) := by decide +kernel
theorem dX8_init_151 : decode cX8_init 151 = .ok (.putfield 32, 3) := by decide +kernel
theorem dX8_init_154 : decode cX8_init 154 = .ok (.aload_n 0, 1) := by decide +kernel
theorem dX8_init_155 : decode cX8_init 155 = .ok (.bipush 96, 2) := by decide +kernel
theorem dX8_init_157 : decode cX8_init 157 = .ok (.newarray .int, 2) := by decide +kernel
theorem dX8_init_159 : decode cX8_init 159 = .ok (.putfield 35, 3) := by decide +kernel
theorem dX8_init_162 : decode cX8_init 162 = .ok (.aload_n 0, 1) := by decide +kernel
theorem dX8_init_163 : decode cX8_init 163 = .ok (.bipush 10, 2) := by decide +kernel
theorem dX8_init_165 : decode cX8_init 165 = .ok (.newarray .boolean, 2) := by decide +kernel
theorem dX8_init_167 : decode cX8_init 167 = .ok (.putfield 38, 3) := by decide +kernel
theorem dX8_init_170 : decode cX8_init 170 = .ok (.aload_n 0, 1) := by decide +kernel
theorem dX8_init_171 : decode cX8_init 171 = .ok (.bipush 96, 2) := by decide +kernel
theorem dX8_init_173 : decode cX8_init 173 = .ok (.newarray .int, 2) := by decide +kernel
theorem dX8_init_175 : decode cX8_init 175 = .ok (.putfield 42, 3) := by decide +kernel
theorem dX8_init_178 : decode cX8_init 178 = .ok (.aload_n 0, 1) := by decide +kernel
theorem dX8_init_179 : decode cX8_init 179 = .ok (.iconst 4, 1) := by decide +kernel
theorem dX8_init_180 : decode cX8_init 180 = .ok (.newarray .int, 2) := by decide +kernel
theorem dX8_init_182 : decode cX8_init 182 = .ok (.putfield 45, 3) := by decide +kernel
theorem dX8_init_185 : decode cX8_init 185 = .ok (.aload_n 0, 1) := by decide +kernel
theorem dX8_init_186 : decode cX8_init 186 = .ok (.iconst 4, 1) := by decide +kernel
theorem dX8_init_187 : decode cX8_init 187 = .ok (.newarray .int, 2) := by decide +kernel
theorem dX8_init_189 : decode cX8_init 189 = .ok (.dup, 1) := by decide +kernel
theorem dX8_init_190 : decode cX8_init 190 = .ok (.iconst 0, 1) := by decide +kernel
theorem dX8_init_191 : decode cX8_init 191 = .ok (.iconst (-1), 1) := by decide +kernel
theorem dX8_init_192 : decode cX8_init 192 = .ok (.iastore, 1) := by decide +kernel
theorem dX8_init_193 : decode cX8_init 193 = .ok (.dup, 1) := by decide +kernel
theorem dX8_init_194 : decode cX8_init 194 = .ok (.iconst 1, 1) := by decide +kernel
theorem dX8_init_195 : decode cX8_init 195 = .ok (.iconst (-1), 1) := by decide +kernel
theorem dX8_init_196 : decode cX8_init 196 = .ok (.iastore, 1) := by decide +kernel
theorem dX8_init_197 : decode cX8_init 197 = .ok (.dup, 1) := by decide +kernel
theorem dX8_init_198 : decode cX8_init 198 = .ok (.iconst 2, 1) := by decide +kernel
theorem dX8_init_199 : decode cX8_init 199 = .ok (.iconst (-1), 1) := by decide +kernel
theorem dX8_init_200 : decode cX8_init 200 = .ok (.iastore, 1) := by decide +kernel
theorem dX8_init_201 : decode cX8_init 201 = .ok (.dup, 1) := by decide +kernel
theorem dX8_init_202 : decode cX8_init 202 = .ok (.iconst 3, 1) := by decide +kernel
theorem dX8_init_203 : decode cX8_init 203 = .ok (.iconst (-1), 1) := by decide +kernel
theorem dX8_init_204 : decode cX8_init 204 = .ok (.iastore, 1) := by decide +kernel
theorem dX8_init_205 : decode cX8_init 205 = .ok (.putfield 48, 3) := by decide +kernel
theorem dX8_init_208 : decode cX8_init 208 = .ok (.aload_n 0, 1) := by decide +kernel
theorem dX8_init_209 : decode cX8_init 209 = .ok (.iconst 4, 1) := by decide +kernel
theorem dX8_init_210 : decode cX8_init 210 = .ok (.newarray .int, 2) := by decide +kernel
theorem dX8_init_212 : decode cX8_init 212 = .ok (.putfield 51, 3) := by decide +kernel
theorem dX8_init_215 : decode cX8_init 215 = .ok (.aload_n 0, 1) := by decide +kernel
theorem dX8_init_216 : decode cX8_init 216 = .ok (.bipush 96, 2) := by decide +kernel
theorem dX8_init_218 : decode cX8_init 218 = .ok (.newarray .int, 2) := by decide +kernel
theorem dX8_init_220 : decode cX8_init 220 = .ok (.putfield 54, 3) := by decide +kernel
theorem dX8_init_223 : decode cX8_init 223 = .ok (.aload_n 0, 1) := by decide +kernel
theorem dX8_init_224 : decode cX8_init 224 = .ok (.iconst 5, 1) := by decide +kernel
theorem dX8_init_225 : decode cX8_init 225 = .ok (.newarray .int, 2) := by decide +kernel
theorem dX8_init_227 : decode cX8_init 227 = .ok (.putfield 57, 3) := by decide +kernel
theorem dX8_init_230 : decode cX8_init 230 = .ok (.aload_n 0, 1) := by decide +kernel
theorem dX8_init_231 : decode cX8_init 231 = .ok (.iconst 5, 1) := by decide +kernel
theorem dX8_init_232 : decode cX8_init 232 = .ok (.newarray .int, 2) := by decide +kernel
theorem dX8_init_234 : decode cX8_init 234 = .ok (.putfield 60, 3) := by decide +kernel
theorem dX8_init_237 : decode cX8_init 237 = .ok (.aload_n 0, 1) := by decide +kernel
theorem dX8_init_238 : decode cX8_init 238 = .ok (.iconst 5, 1) := by decide +kernel
theorem dX8_init_239 : decode cX8_init 239 = .ok (.newarray .int, 2) := by decide +kernel
theorem dX8_init_241 : decode cX8_init 241 = .ok (.putfield 63, 3) := by decide +kernel
theorem dX8_init_244 : decode cX8_init 244 = .ok (.aload_n 0, 1) := by decide +kernel
theorem dX8_init_245 : decode cX8_init 245 = .ok (.bipush 120, 2) := by decide +kernel
theorem dX8_init_247 : decode cX8_init 247 = .ok (.newarray .int, 2) := by decide +kernel
theorem dX8_init_249 : decode cX8_init 249 = .ok (.putfield 66, 3) := by decide +kernel
theorem dX8_init_252 : decode cX8_init 252 = .ok (.aload_n 0, 1) := by decide +kernel
theorem dX8_init_253 : decode cX8_init 253 = .ok (.bipush 24, 2) := by decide +kernel
theorem dX8_init_255 : decode cX8_init 255 = .ok (.newarray .int, 2) := by decide +kernel
theorem dX8_init_257 : decode cX8_init 257 = .ok (.putfield 69, 3) := by decide +kernel
theorem dX8_init_260 : decode cX8_init 260 = .ok (.aload_n 0, 1) := by decide +kernel
theorem dX8_init_261 : decode cX8_init 261 = .ok (.bipush 60, 2) := by decide +kernel
theorem dX8_init_263 : decode cX8_init 263 = .ok (.newarray .int, 2) := by decide +kernel
theorem dX8_init_265 : decode cX8_init 265 = .ok (.putfield 72, 3) := by decide +kernel
theorem dX8_init_268 : decode cX8_init 268 = .ok (.aload_n 0, 1) := by decide +kernel
theorem dX8_init_269 : decode cX8_init 269 = .ok (.getfield 9, 3) := by decide +kernel
theorem dX8_init_272 : decode cX8_init 272 = .ok (.iconst 0, 1) := by decide +kernel
theorem dX8_init_273 : decode cX8_init 273 = .ok (.iconst 1, 1) := by decide +kernel
theorem dX8_init_274 : decode cX8_init 274 = .ok (.iastore, 1) := by decide +kernel
theorem dX8_init_275 : decode cX8_init 275 = .ok (.aload_n 0, 1) := by decide +kernel
theorem dX8_init_276 : decode cX8_init 276 = .ok (.getfield 9, 3) := by decide +kernel
theorem dX8_init_279 : decode cX8_init 279 = .ok (.iconst 3, 1) := by decide +kernel
theorem dX8_init_280 : decode cX8_init 280 = .ok (.iconst 3, 1) := by decide +kernel
theorem dX8_init_281 : decode cX8_init 281 = .ok (.iastore, 1) := by decide +kernel
theorem dX8_init_282 : decode cX8_init 282 = .ok (.iconst 0, 1) := by decide +kernel
theorem dX8_init_283 : decode cX8_init 283 = .ok (.istore_n 1, 1) := by decide +kernel
theorem dX8_init_284 : decode cX8_init 284 = .ok (.iload_n 1, 1) := by decide +kernel
theorem dX8_init_285 : decode cX8_init 285 = .ok (.bipush 12, 2) := by decide +kernel
theorem dX8_init_287 : decode cX8_init 287 = .ok (.if_icmp .ge 19, 3) := by decide +kernel
theorem dX8_init_290 : decode cX8_init 290 = .ok (.aload_n 0, 1) := by decide +kernel
theorem dX8_init_291 : decode cX8_init 291 = .ok (.getfield 9, 3) := by decide +kernel
theorem dX8_init_294 : decode cX8_init 294 = .ok (.bipush 21, 2) := by decide +kernel
theorem dX8_init_296 : decode cX8_init 296 = .ok (.iload_n 1, 1) := by decide +kernel
theorem dX8_init_297 : decode cX8_init 297 = .ok (.iadd, 1) := by decide +kernel
theorem dX8_init_298 : decode cX8_init 298 = .ok (.iconst 4, 1) := by decide +kernel
theorem dX8_init_299 : decode cX8_init 299 = .ok (.iastore, 1) := by decide +kernel
theorem dX8_init_300 : decode cX8_init 300 = .ok (.iinc 1 1, 3) := by decide +kernel
theorem dX8_init_303 : decode cX8_init 303 = .ok (.goto (-19), 3) := by decide +kernel
theorem dX8_init_306 : decode cX8_init 306 = .ok (.return_, 1) := by decide +kernel
theorem dX8_in_0 : decode cX8_in 0 = .ok (.iload_n 0, 1) := by decide +kernel
theorem dX8_in_1 : decode cX8_in 1 = .ok (.iload_n 1, 1) := by decide +kernel
theorem dX8_in_2 : decode cX8_in 2 = .ok (.if_icmp .lt 12, 3) := by decide +kernel
theorem dX8_in_5 : decode cX8_in 5 = .ok (.iload_n 0, 1) := by decide +kernel
theorem dX8_in_6 : decode cX8_in 6 = .ok (.iload_n 2, 1) := by decide +kernel
theorem dX8_in_7 : decode cX8_in 7 = .ok (.if_icmp .gt 7, 3) := by decide +kernel
theorem dX8_in_10 : decode cX8_in 10 = .ok (.iconst 1, 1) := by decide +kernel
theorem dX8_in_11 : decode cX8_in 11 = .ok (.goto 4, 3) := by decide +kernel
theorem dX8_in_14 : decode cX8_in 14 = .ok (.iconst 0, 1) := by decide +kernel
theorem dX8_in_15 : decode cX8_in 15 = .ok (.ireturn, 1) := by decide +kernel
theorem dX8_within_0 : decode cX8_within 0 = .ok (.iload_n 0, 1) := by decide +kernel
theorem dX8_within_1 : decode cX8_within 1 = .ok (.iload_n 1, 1) := by decide +kernel
theorem dX8_within_2 : decode cX8_within 2 = .ok (.if_icmp .ge 7, 3) := by decide +kernel
theorem dX8_within_5 : decode cX8_within 5 = .ok (.iload_n 1, 1) := by decide +kernel
theorem dX8_within_6 : decode cX8_within 6 = .ok (.goto 13, 3) := by decide +kernel
theorem dX8_within_9 : decode cX8_within 9 = .ok (.iload_n 0, 1) := by decide +kernel
theorem dX8_within_10 : decode cX8_within 10 = .ok (.iload_n 2, 1) := by decide +kernel
theorem dX8_within_11 : decode cX8_within 11 = .ok (.if_icmp .le 7, 3) := by decide +kernel
theorem dX8_within_14 : decode cX8_within 14 = .ok (.iload_n 2, 1) := by decide +kernel
theorem dX8_within_15 : decode cX8_within 15 = .ok (.goto 4, 3) := by decide +kernel
theorem dX8_within_18 : decode cX8_within 18 = .ok (.iload_n 0, 1) := by decide +kernel
theorem dX8_within_19 : decode cX8_within 19 = .ok (.ireturn, 1) := by decide +kernel
theorem dX8_copyAll_0 : decode cX8_copyAll 0 = .ok (.iconst 0, 1) := by decide +kernel
theorem dX8_copyAll_1 : decode cX8_copyAll 1 = .ok (.istore_n 2, 1) := by decide +kernel
theorem dX8_copyAll_2 : decode cX8_copyAll 2 = .ok (.iload_n 2, 1) := by decide +kernel
theorem dX8_copyAll_3 : decode cX8_copyAll 3 = .ok (.sipush 1477, 3) := by decide +kernel
theorem dX8_copyAll_6 : decode cX8_copyAll 6 = .ok (.if_icmp .ge 15, 3) := by decide +kernel
theorem dX8_copyAll_9 : decode cX8_copyAll 9 = .ok (.aload_n 1, 1) := by decide +kernel
theorem dX8_copyAll_10 : decode cX8_copyAll 10 = .ok (.iload_n 2, 1) := by decide +kernel
theorem dX8_copyAll_11 : decode cX8_copyAll 11 = .ok (.aload_n 0, 1) := by decide +kernel
theorem dX8_copyAll_12 : decode cX8_copyAll 12 = .ok (.iload_n 2, 1) := by decide +kernel
theorem dX8_copyAll_13 : decode cX8_copyAll 13 = .ok (.iaload, 1) := by decide +kernel
theorem dX8_copyAll_14 : decode cX8_copyAll 14 = .ok (.iastore, 1) := by decide +kernel
theorem dX8_copyAll_15 : decode cX8_copyAll 15 = .ok (.iinc 2 1, 3) := by decide +kernel
theorem dX8_copyAll_18 : decode cX8_copyAll 18 = .ok (.goto (-16), 3) := by decide +kernel
theorem dX8_copyAll_21 : decode cX8_copyAll 21 = .ok (.return_, 1) := by decide +kernel
theorem dX8_isLog_0 : decode cX8_isLog 0 = .ok (.iload_n 1, 1) := by decide +kernel
theorem dX8_isLog_1 : decode cX8_isLog 1 = .ok (.iconst 0, 1) := by decide +kernel
theorem dX8_isLog_2 : decode cX8_isLog 2 = .ok (.aload_n 0, 1) := by decide +kernel
theorem dX8_isLog_3 : decode cX8_isLog 3 = .ok (.getfield 9, 3) := by decide +kernel
theorem dX8_isLog_6 : decode cX8_isLog 6 = .ok (.iconst 1, 1) := by decide +kernel
theorem dX8_isLog_7 : decode cX8_isLog 7 = .ok (.iaload, 1) := by decide +kernel
theorem dX8_isLog_8 : decode cX8_isLog 8 = .ok (.iconst 1, 1) := by decide +kernel
theorem dX8_isLog_9 : decode cX8_isLog 9 = .ok (.isub, 1) := by decide +kernel
theorem dX8_isLog_10 : decode cX8_isLog 10 = .ok (.invokestatic 75, 3) := by decide +kernel
theorem dX8_isLog_13 : decode cX8_isLog 13 = .ok (.ireturn, 1) := by decide +kernel
theorem dX8_isReach_0 : decode cX8_isReach 0 = .ok (.iload_n 0, 1) := by decide +kernel
theorem dX8_isReach_1 : decode cX8_isReach 1 = .ok (.iconst 0, 1) := by decide +kernel
theorem dX8_isReach_2 : decode cX8_isReach 2 = .ok (.bipush 11, 2) := by decide +kernel
theorem dX8_isReach_4 : decode cX8_isReach 4 = .ok (.invokestatic 75, 3) := by decide +kernel
theorem dX8_isReach_7 : decode cX8_isReach 7 = .ok (.ireturn, 1) := by decide +kernel
theorem dX8_of_0 : decode cX8_of 0 = .ok (.aload_n 0, 1) := by decide +kernel
theorem dX8_of_1 : decode cX8_of 1 = .ok (.getfield 9, 3) := by decide +kernel
theorem dX8_of_4 : decode cX8_of 4 = .ok (.bipush 45, 2) := by decide +kernel
theorem dX8_of_6 : decode cX8_of 6 = .ok (.iconst 5, 1) := by decide +kernel
theorem dX8_of_7 : decode cX8_of 7 = .ok (.iload_n 1, 1) := by decide +kernel
theorem dX8_of_8 : decode cX8_of 8 = .ok (.imul, 1) := by decide +kernel
theorem dX8_of_9 : decode cX8_of 9 = .ok (.iadd, 1) := by decide +kernel
theorem dX8_of_10 : decode cX8_of 10 = .ok (.iload_n 2, 1) := by decide +kernel
theorem dX8_of_11 : decode cX8_of 11 = .ok (.iadd, 1) := by decide +kernel
theorem dX8_of_12 : decode cX8_of 12 = .ok (.iaload, 1) := by decide +kernel
theorem dX8_of_13 : decode cX8_of 13 = .ok (.ireturn, 1) := by decide +kernel
theorem dX8_put_0 : decode cX8_put 0 = .ok (.aload_n 0, 1) := by decide +kernel
theorem dX8_put_1 : decode cX8_put 1 = .ok (.getfield 9, 3) := by decide +kernel
theorem dX8_put_4 : decode cX8_put 4 = .ok (.bipush 45, 2) := by decide +kernel
theorem dX8_put_6 : decode cX8_put 6 = .ok (.iconst 5, 1) := by decide +kernel
theorem dX8_put_7 : decode cX8_put 7 = .ok (.iload_n 1, 1) := by decide +kernel
theorem dX8_put_8 : decode cX8_put 8 = .ok (.imul, 1) := by decide +kernel
theorem dX8_put_9 : decode cX8_put 9 = .ok (.iadd, 1) := by decide +kernel
theorem dX8_put_10 : decode cX8_put 10 = .ok (.iload_n 2, 1) := by decide +kernel
theorem dX8_put_11 : decode cX8_put 11 = .ok (.iadd, 1) := by decide +kernel
theorem dX8_put_12 : decode cX8_put 12 = .ok (.iload_n 3, 1) := by decide +kernel
theorem dX8_put_13 : decode cX8_put 13 = .ok (.iastore, 1) := by decide +kernel
theorem dX8_put_14 : decode cX8_put 14 = .ok (.return_, 1) := by decide +kernel
theorem dX8_becomes_0 : decode cX8_becomes 0 = .ok (.aload_n 0, 1) := by decide +kernel
theorem dX8_becomes_1 : decode cX8_becomes 1 = .ok (.getfield 9, 3) := by decide +kernel
theorem dX8_becomes_4 : decode cX8_becomes 4 = .ok (.iload_n 1, 1) := by decide +kernel
theorem dX8_becomes_5 : decode cX8_becomes 5 = .ok (.iaload, 1) := by decide +kernel
theorem dX8_becomes_6 : decode cX8_becomes 6 = .ok (.istore_n 3, 1) := by decide +kernel
theorem dX8_becomes_7 : decode cX8_becomes 7 = .ok (.aload_n 0, 1) := by decide +kernel
theorem dX8_becomes_8 : decode cX8_becomes 8 = .ok (.getfield 9, 3) := by decide +kernel
theorem dX8_becomes_11 : decode cX8_becomes 11 = .ok (.iload_n 1, 1) := by decide +kernel
theorem dX8_becomes_12 : decode cX8_becomes 12 = .ok (.iload_n 2, 1) := by decide +kernel
theorem dX8_becomes_13 : decode cX8_becomes 13 = .ok (.iastore, 1) := by decide +kernel
theorem dX8_becomes_14 : decode cX8_becomes 14 = .ok (.iload_n 3, 1) := by decide +kernel
theorem dX8_becomes_15 : decode cX8_becomes 15 = .ok (.ireturn, 1) := by decide +kernel
theorem dX8_comes_0 : decode cX8_comes 0 = .ok (.aload_n 0, 1) := by decide +kernel
theorem dX8_comes_1 : decode cX8_comes 1 = .ok (.getfield 9, 3) := by decide +kernel
theorem dX8_comes_4 : decode cX8_comes 4 = .ok (.iconst 1, 1) := by decide +kernel
theorem dX8_comes_5 : decode cX8_comes 5 = .ok (.iaload, 1) := by decide +kernel
theorem dX8_comes_6 : decode cX8_comes 6 = .ok (.istore 4, 2) := by decide +kernel
theorem dX8_comes_8 : decode cX8_comes 8 = .ok (.aload_n 0, 1) := by decide +kernel
theorem dX8_comes_9 : decode cX8_comes 9 = .ok (.getfield 9, 3) := by decide +kernel
theorem dX8_comes_12 : decode cX8_comes 12 = .ok (.iconst 1, 1) := by decide +kernel
theorem dX8_comes_13 : decode cX8_comes 13 = .ok (.dup2, 1) := by decide +kernel
theorem dX8_comes_14 : decode cX8_comes 14 = .ok (.iaload, 1) := by decide +kernel
theorem dX8_comes_15 : decode cX8_comes 15 = .ok (.iconst 1, 1) := by decide +kernel
theorem dX8_comes_16 : decode cX8_comes 16 = .ok (.iadd, 1) := by decide +kernel
theorem dX8_comes_17 : decode cX8_comes 17 = .ok (.iastore, 1) := by decide +kernel
theorem dX8_comes_18 : decode cX8_comes 18 = .ok (.aload_n 0, 1) := by decide +kernel
theorem dX8_comes_19 : decode cX8_comes 19 = .ok (.iload 4, 2) := by decide +kernel
theorem dX8_comes_21 : decode cX8_comes 21 = .ok (.iconst 0, 1) := by decide +kernel
theorem dX8_comes_22 : decode cX8_comes 22 = .ok (.iload_n 1, 1) := by decide +kernel
theorem dX8_comes_23 : decode cX8_comes 23 = .ok (.invokevirtual 79, 3) := by decide +kernel
theorem dX8_comes_26 : decode cX8_comes 26 = .ok (.aload_n 0, 1) := by decide +kernel
theorem dX8_comes_27 : decode cX8_comes 27 = .ok (.iload 4, 2) := by decide +kernel
theorem dX8_comes_29 : decode cX8_comes 29 = .ok (.iconst 1, 1) := by decide +kernel
theorem dX8_comes_30 : decode cX8_comes 30 = .ok (.iload_n 2, 1) := by decide +kernel
theorem dX8_comes_31 : decode cX8_comes 31 = .ok (.invokevirtual 79, 3) := by decide +kernel
theorem dX8_comes_34 : decode cX8_comes 34 = .ok (.aload_n 0, 1) := by decide +kernel
theorem dX8_comes_35 : decode cX8_comes 35 = .ok (.iload 4, 2) := by decide +kernel
theorem dX8_comes_37 : decode cX8_comes 37 = .ok (.iconst 2, 1) := by decide +kernel
theorem dX8_comes_38 : decode cX8_comes 38 = .ok (.iload_n 3, 1) := by decide +kernel
theorem dX8_comes_39 : decode cX8_comes 39 = .ok (.invokevirtual 79, 3) := by decide +kernel
theorem dX8_comes_42 : decode cX8_comes 42 = .ok (.aload_n 0, 1) := by decide +kernel
theorem dX8_comes_43 : decode cX8_comes 43 = .ok (.iload 4, 2) := by decide +kernel
theorem dX8_comes_45 : decode cX8_comes 45 = .ok (.iconst 3, 1) := by decide +kernel
theorem dX8_comes_46 : decode cX8_comes 46 = .ok (.iconst 0, 1) := by decide +kernel
theorem dX8_comes_47 : decode cX8_comes 47 = .ok (.invokevirtual 79, 3) := by decide +kernel
theorem dX8_comes_50 : decode cX8_comes 50 = .ok (.aload_n 0, 1) := by decide +kernel
theorem dX8_comes_51 : decode cX8_comes 51 = .ok (.iload 4, 2) := by decide +kernel
theorem dX8_comes_53 : decode cX8_comes 53 = .ok (.iconst 4, 1) := by decide +kernel
theorem dX8_comes_54 : decode cX8_comes 54 = .ok (.iconst 0, 1) := by decide +kernel
theorem dX8_comes_55 : decode cX8_comes 55 = .ok (.invokevirtual 79, 3) := by decide +kernel
theorem dX8_comes_58 : decode cX8_comes 58 = .ok (.iload 4, 2) := by decide +kernel
theorem dX8_comes_60 : decode cX8_comes 60 = .ok (.ireturn, 1) := by decide +kernel
theorem dX8_log_0 : decode cX8_log 0 = .ok (.iload_n 1, 1) := by decide +kernel
theorem dX8_log_1 : decode cX8_log 1 = .ok (.iconst 0, 1) := by decide +kernel
theorem dX8_log_2 : decode cX8_log 2 = .ok (.iconst 5, 1) := by decide +kernel
theorem dX8_log_3 : decode cX8_log 3 = .ok (.invokestatic 75, 3) := by decide +kernel
theorem dX8_log_6 : decode cX8_log 6 = .ok (.ifCond .eq 23, 3) := by decide +kernel
theorem dX8_log_9 : decode cX8_log 9 = .ok (.iload_n 2, 1) := by decide +kernel
theorem dX8_log_10 : decode cX8_log 10 = .ok (.iconst 0, 1) := by decide +kernel
theorem dX8_log_11 : decode cX8_log 11 = .ok (.bipush 25, 2) := by decide +kernel
theorem dX8_log_13 : decode cX8_log 13 = .ok (.invokestatic 75, 3) := by decide +kernel
theorem dX8_log_16 : decode cX8_log 16 = .ok (.ifCond .eq 13, 3) := by decide +kernel
theorem dX8_log_19 : decode cX8_log 19 = .ok (.iload_n 3, 1) := by decide +kernel
theorem dX8_log_20 : decode cX8_log 20 = .ok (.iconst 1, 1) := by decide +kernel
theorem dX8_log_21 : decode cX8_log 21 = .ok (.bipush 50, 2) := by decide +kernel
theorem dX8_log_23 : decode cX8_log 23 = .ok (.invokestatic 75, 3) := by decide +kernel
theorem dX8_log_26 : decode cX8_log 26 = .ok (.ifCond .ne 6, 3) := by decide +kernel
theorem dX8_log_29 : decode cX8_log 29 = .ok (.ldc 83, 2) := by decide +kernel
theorem dX8_log_31 : decode cX8_log 31 = .ok (.ireturn, 1) := by decide +kernel
theorem dX8_log_32 : decode cX8_log 32 = .ok (.aload_n 0, 1) := by decide +kernel
theorem dX8_log_33 : decode cX8_log 33 = .ok (.getfield 9, 3) := by decide +kernel
theorem dX8_log_36 : decode cX8_log 36 = .ok (.iconst 1, 1) := by decide +kernel
theorem dX8_log_37 : decode cX8_log 37 = .ok (.iaload, 1) := by decide +kernel
theorem dX8_log_38 : decode cX8_log 38 = .ok (.bipush 12, 2) := by decide +kernel
theorem dX8_log_40 : decode cX8_log 40 = .ok (.if_icmp .ne 8, 3) := by decide +kernel
theorem dX8_log_43 : decode cX8_log 43 = .ok (.ldc 84, 2) := by decide +kernel
theorem dX8_log_45 : decode cX8_log 45 = .ok (.goto 10, 3) := by decide +kernel
theorem dX8_log_48 : decode cX8_log 48 = .ok (.aload_n 0, 1) := by decide +kernel
theorem dX8_log_49 : decode cX8_log 49 = .ok (.iload_n 1, 1) := by decide +kernel
theorem dX8_log_50 : decode cX8_log 50 = .ok (.iload_n 2, 1) := by decide +kernel
theorem dX8_log_51 : decode cX8_log 51 = .ok (.iload_n 3, 1) := by decide +kernel
theorem dX8_log_52 : decode cX8_log 52 = .ok (.invokevirtual 85, 3) := by decide +kernel
theorem dX8_log_55 : decode cX8_log 55 = .ok (.ireturn, 1) := by decide +kernel
theorem dX8_driftsOf_0 : decode cX8_driftsOf 0 = .ok (.aload_n 0, 1) := by decide +kernel
theorem dX8_driftsOf_1 : decode cX8_driftsOf 1 = .ok (.iconst 0, 1) := by decide +kernel
theorem dX8_driftsOf_2 : decode cX8_driftsOf 2 = .ok (.invokevirtual 89, 3) := by decide +kernel
theorem dX8_driftsOf_5 : decode cX8_driftsOf 5 = .ok (.istore_n 2, 1) := by decide +kernel
theorem dX8_driftsOf_6 : decode cX8_driftsOf 6 = .ok (.aload_n 0, 1) := by decide +kernel
theorem dX8_driftsOf_7 : decode cX8_driftsOf 7 = .ok (.getfield 45, 3) := by decide +kernel
theorem dX8_driftsOf_10 : decode cX8_driftsOf 10 = .ok (.iconst 0, 1) := by decide +kernel
theorem dX8_driftsOf_11 : decode cX8_driftsOf 11 = .ok (.aload_n 0, 1) := by decide +kernel
theorem dX8_driftsOf_12 : decode cX8_driftsOf 12 = .ok (.getfield 9, 3) := by decide +kernel
theorem dX8_driftsOf_15 : decode cX8_driftsOf 15 = .ok (.iconst 3, 1) := by decide +kernel
theorem dX8_driftsOf_16 : decode cX8_driftsOf 16 = .ok (.iaload, 1) := by decide +kernel
theorem dX8_driftsOf_17 : decode cX8_driftsOf 17 = .ok (.iastore, 1) := by decide +kernel
theorem dX8_driftsOf_18 : decode cX8_driftsOf 18 = .ok (.aload_n 0, 1) := by decide +kernel
theorem dX8_driftsOf_19 : decode cX8_driftsOf 19 = .ok (.getfield 45, 3) := by decide +kernel
theorem dX8_driftsOf_22 : decode cX8_driftsOf 22 = .ok (.iconst 1, 1) := by decide +kernel
theorem dX8_driftsOf_23 : decode cX8_driftsOf 23 = .ok (.aload_n 0, 1) := by decide +kernel
theorem dX8_driftsOf_24 : decode cX8_driftsOf 24 = .ok (.iload_n 1, 1) := by decide +kernel
theorem dX8_driftsOf_25 : decode cX8_driftsOf 25 = .ok (.iconst 2, 1) := by decide +kernel
theorem dX8_driftsOf_26 : decode cX8_driftsOf 26 = .ok (.invokevirtual 93, 3) := by decide +kernel
theorem dX8_driftsOf_29 : decode cX8_driftsOf 29 = .ok (.iastore, 1) := by decide +kernel
theorem dX8_driftsOf_30 : decode cX8_driftsOf 30 = .ok (.aload_n 0, 1) := by decide +kernel
theorem dX8_driftsOf_31 : decode cX8_driftsOf 31 = .ok (.getfield 45, 3) := by decide +kernel
theorem dX8_driftsOf_34 : decode cX8_driftsOf 34 = .ok (.iconst 2, 1) := by decide +kernel
theorem dX8_driftsOf_35 : decode cX8_driftsOf 35 = .ok (.aload_n 0, 1) := by decide +kernel
theorem dX8_driftsOf_36 : decode cX8_driftsOf 36 = .ok (.iload_n 1, 1) := by decide +kernel
theorem dX8_driftsOf_37 : decode cX8_driftsOf 37 = .ok (.iconst 3, 1) := by decide +kernel
theorem dX8_driftsOf_38 : decode cX8_driftsOf 38 = .ok (.invokevirtual 93, 3) := by decide +kernel
theorem dX8_driftsOf_41 : decode cX8_driftsOf 41 = .ok (.iastore, 1) := by decide +kernel
theorem dX8_driftsOf_42 : decode cX8_driftsOf 42 = .ok (.iload_n 2, 1) := by decide +kernel
theorem dX8_driftsOf_43 : decode cX8_driftsOf 43 = .ok (.ifCond .ge 22, 3) := by decide +kernel
theorem dX8_driftsOf_46 : decode cX8_driftsOf 46 = .ok (.aload_n 0, 1) := by decide +kernel
theorem dX8_driftsOf_47 : decode cX8_driftsOf 47 = .ok (.getfield 9, 3) := by decide +kernel
theorem dX8_driftsOf_50 : decode cX8_driftsOf 50 = .ok (.iconst 3, 1) := by decide +kernel
theorem dX8_driftsOf_51 : decode cX8_driftsOf 51 = .ok (.iaload, 1) := by decide +kernel
theorem dX8_driftsOf_52 : decode cX8_driftsOf 52 = .ok (.aload_n 0, 1) := by decide +kernel
theorem dX8_driftsOf_53 : decode cX8_driftsOf 53 = .ok (.iload_n 1, 1) := by decide +kernel
theorem dX8_driftsOf_54 : decode cX8_driftsOf 54 = .ok (.iconst 2, 1) := by decide +kernel
theorem dX8_driftsOf_55 : decode cX8_driftsOf 55 = .ok (.invokevirtual 93, 3) := by decide +kernel
theorem dX8_driftsOf_58 : decode cX8_driftsOf 58 = .ok (.bipush 10, 2) := by decide +kernel
theorem dX8_driftsOf_60 : decode cX8_driftsOf 60 = .ok (.idiv, 1) := by decide +kernel
theorem dX8_driftsOf_61 : decode cX8_driftsOf 61 = .ok (.isub, 1) := by decide +kernel
theorem dX8_driftsOf_62 : decode cX8_driftsOf 62 = .ok (.goto 8, 3) := by decide +kernel
theorem dX8_driftsOf_65 : decode cX8_driftsOf 65 = .ok (.aload_n 0, 1) := by decide +kernel
theorem dX8_driftsOf_66 : decode cX8_driftsOf 66 = .ok (.iload_n 2, 1) := by decide +kernel
theorem dX8_driftsOf_67 : decode cX8_driftsOf 67 = .ok (.invokevirtual 97, 3) := by decide +kernel
theorem dX8_driftsOf_70 : decode cX8_driftsOf 70 = .ok (.iconst 0, 1) := by decide +kernel
theorem dX8_driftsOf_71 : decode cX8_driftsOf 71 = .ok (.bipush 12, 2) := by decide +kernel
theorem dX8_driftsOf_73 : decode cX8_driftsOf 73 = .ok (.invokestatic 100, 3) := by decide +kernel
theorem dX8_driftsOf_76 : decode cX8_driftsOf 76 = .ok (.istore_n 3, 1) := by decide +kernel
theorem dX8_driftsOf_77 : decode cX8_driftsOf 77 = .ok (.aload_n 0, 1) := by decide +kernel
theorem dX8_driftsOf_78 : decode cX8_driftsOf 78 = .ok (.iload_n 1, 1) := by decide +kernel
theorem dX8_driftsOf_79 : decode cX8_driftsOf 79 = .ok (.iconst 0, 1) := by decide +kernel
theorem dX8_driftsOf_80 : decode cX8_driftsOf 80 = .ok (.invokevirtual 93, 3) := by decide +kernel
theorem dX8_driftsOf_83 : decode cX8_driftsOf 83 = .ok (.tableswitch 70 1 5 #[33, 37, 41, 59, 68], 33) := by decide +kernel
theorem dX8_driftsOf_116 : decode cX8_driftsOf 116 = .ok (.iload_n 3, 1) := by decide +kernel
theorem dX8_driftsOf_117 : decode cX8_driftsOf 117 = .ok (.iconst 2, 1) := by decide +kernel
theorem dX8_driftsOf_118 : decode cX8_driftsOf 118 = .ok (.idiv, 1) := by decide +kernel
theorem dX8_driftsOf_119 : decode cX8_driftsOf 119 = .ok (.ireturn, 1) := by decide +kernel
theorem dX8_driftsOf_120 : decode cX8_driftsOf 120 = .ok (.iload_n 3, 1) := by decide +kernel
theorem dX8_driftsOf_121 : decode cX8_driftsOf 121 = .ok (.iconst 1, 1) := by decide +kernel
theorem dX8_driftsOf_122 : decode cX8_driftsOf 122 = .ok (.iadd, 1) := by decide +kernel
theorem dX8_driftsOf_123 : decode cX8_driftsOf 123 = .ok (.ireturn, 1) := by decide +kernel
theorem dX8_driftsOf_124 : decode cX8_driftsOf 124 = .ok (.aload_n 0, 1) := by decide +kernel
theorem dX8_driftsOf_125 : decode cX8_driftsOf 125 = .ok (.getfield 9, 3) := by decide +kernel
theorem dX8_driftsOf_128 : decode cX8_driftsOf 128 = .ok (.iconst 3, 1) := by decide +kernel
theorem dX8_driftsOf_129 : decode cX8_driftsOf 129 = .ok (.iaload, 1) := by decide +kernel
theorem dX8_driftsOf_130 : decode cX8_driftsOf 130 = .ok (.iconst 5, 1) := by decide +kernel
theorem dX8_driftsOf_131 : decode cX8_driftsOf 131 = .ok (.if_icmp .ge 7, 3) := by decide +kernel
theorem dX8_driftsOf_134 : decode cX8_driftsOf 134 = .ok (.iconst 0, 1) := by decide +kernel
theorem dX8_driftsOf_135 : decode cX8_driftsOf 135 = .ok (.goto 6, 3) := by decide +kernel
theorem dX8_driftsOf_138 : decode cX8_driftsOf 138 = .ok (.iload_n 3, 1) := by decide +kernel
theorem dX8_driftsOf_139 : decode cX8_driftsOf 139 = .ok (.iconst 2, 1) := by decide +kernel
theorem dX8_driftsOf_140 : decode cX8_driftsOf 140 = .ok (.idiv, 1) := by decide +kernel
theorem dX8_driftsOf_141 : decode cX8_driftsOf 141 = .ok (.ireturn, 1) := by decide +kernel
theorem dX8_driftsOf_142 : decode cX8_driftsOf 142 = .ok (.iload_n 3, 1) := by decide +kernel
theorem dX8_driftsOf_143 : decode cX8_driftsOf 143 = .ok (.iconst 1, 1) := by decide +kernel
theorem dX8_driftsOf_144 : decode cX8_driftsOf 144 = .ok (.iadd, 1) := by decide +kernel
theorem dX8_driftsOf_145 : decode cX8_driftsOf 145 = .ok (.iconst 0, 1) := by decide +kernel
theorem dX8_driftsOf_146 : decode cX8_driftsOf 146 = .ok (.iconst 3, 1) := by decide +kernel
theorem dX8_driftsOf_147 : decode cX8_driftsOf 147 = .ok (.invokestatic 100, 3) := by decide +kernel
theorem dX8_driftsOf_150 : decode cX8_driftsOf 150 = .ok (.ireturn, 1) := by decide +kernel
theorem dX8_driftsOf_151 : decode cX8_driftsOf 151 = .ok (.iconst 0, 1) := by decide +kernel
theorem dX8_driftsOf_152 : decode cX8_driftsOf 152 = .ok (.ireturn, 1) := by decide +kernel
theorem dX8_driftsOf_153 : decode cX8_driftsOf 153 = .ok (.iload_n 3, 1) := by decide +kernel
theorem dX8_driftsOf_154 : decode cX8_driftsOf 154 = .ok (.ireturn, 1) := by decide +kernel
theorem dX8_claimedOf_0 : decode cX8_claimedOf 0 = .ok (.aload_n 0, 1) := by decide +kernel
theorem dX8_claimedOf_1 : decode cX8_claimedOf 1 = .ok (.iload_n 1, 1) := by decide +kernel
theorem dX8_claimedOf_2 : decode cX8_claimedOf 2 = .ok (.iconst 0, 1) := by decide +kernel
theorem dX8_claimedOf_3 : decode cX8_claimedOf 3 = .ok (.invokevirtual 93, 3) := by decide +kernel
theorem dX8_claimedOf_6 : decode cX8_claimedOf 6 = .ok (.tableswitch 51 2 5 #[30, 40, 49, 49], 30) := by decide +kernel
theorem dX8_claimedOf_36 : decode cX8_claimedOf 36 = .ok (.aload_n 0, 1) := by decide +kernel
theorem dX8_claimedOf_37 : decode cX8_claimedOf 37 = .ok (.getfield 9, 3) := by decide +kernel
theorem dX8_claimedOf_40 : decode cX8_claimedOf 40 = .ok (.iconst 5, 1) := by decide +kernel
theorem dX8_claimedOf_41 : decode cX8_claimedOf 41 = .ok (.iaload, 1) := by decide +kernel
theorem dX8_claimedOf_42 : decode cX8_claimedOf 42 = .ok (.bipush 10, 2) := by decide +kernel
theorem dX8_claimedOf_44 : decode cX8_claimedOf 44 = .ok (.iadd, 1) := by decide +kernel
theorem dX8_claimedOf_45 : decode cX8_claimedOf 45 = .ok (.ireturn, 1) := by decide +kernel
theorem dX8_claimedOf_46 : decode cX8_claimedOf 46 = .ok (.aload_n 0, 1) := by decide +kernel
theorem dX8_claimedOf_47 : decode cX8_claimedOf 47 = .ok (.getfield 9, 3) := by decide +kernel
theorem dX8_claimedOf_50 : decode cX8_claimedOf 50 = .ok (.iconst 5, 1) := by decide +kernel
theorem dX8_claimedOf_51 : decode cX8_claimedOf 51 = .ok (.iaload, 1) := by decide +kernel
theorem dX8_claimedOf_52 : decode cX8_claimedOf 52 = .ok (.iconst 2, 1) := by decide +kernel
theorem dX8_claimedOf_53 : decode cX8_claimedOf 53 = .ok (.idiv, 1) := by decide +kernel
theorem dX8_claimedOf_54 : decode cX8_claimedOf 54 = .ok (.ireturn, 1) := by decide +kernel
theorem dX8_claimedOf_55 : decode cX8_claimedOf 55 = .ok (.iconst 0, 1) := by decide +kernel
theorem dX8_claimedOf_56 : decode cX8_claimedOf 56 = .ok (.ireturn, 1) := by decide +kernel
theorem dX8_claimedOf_57 : decode cX8_claimedOf 57 = .ok (.aload_n 0, 1) := by decide +kernel
theorem dX8_claimedOf_58 : decode cX8_claimedOf 58 = .ok (.getfield 9, 3) := by decide +kernel
theorem dX8_claimedOf_61 : decode cX8_claimedOf 61 = .ok (.iconst 5, 1) := by decide +kernel
theorem dX8_claimedOf_62 : decode cX8_claimedOf 62 = .ok (.iaload, 1) := by decide +kernel
theorem dX8_claimedOf_63 : decode cX8_claimedOf 63 = .ok (.ireturn, 1) := by decide +kernel
theorem dX8_worthOf_0 : decode cX8_worthOf 0 = .ok (.aload_n 0, 1) := by decide +kernel
theorem dX8_worthOf_1 : decode cX8_worthOf 1 = .ok (.iload_n 1, 1) := by decide +kernel
theorem dX8_worthOf_2 : decode cX8_worthOf 2 = .ok (.iconst 2, 1) := by decide +kernel
theorem dX8_worthOf_3 : decode cX8_worthOf 3 = .ok (.invokevirtual 93, 3) := by decide +kernel
theorem dX8_worthOf_6 : decode cX8_worthOf 6 = .ok (.istore_n 2, 1) := by decide +kernel
theorem dX8_worthOf_7 : decode cX8_worthOf 7 = .ok (.aload_n 0, 1) := by decide +kernel
theorem dX8_worthOf_8 : decode cX8_worthOf 8 = .ok (.iload_n 1, 1) := by decide +kernel
theorem dX8_worthOf_9 : decode cX8_worthOf 9 = .ok (.iconst 0, 1) := by decide +kernel
theorem dX8_worthOf_10 : decode cX8_worthOf 10 = .ok (.invokevirtual 93, 3) := by decide +kernel
theorem dX8_worthOf_13 : decode cX8_worthOf 13 = .ok (.tableswitch 59 1 5 #[35, 40, 45, 52, 57], 35) := by decide +kernel
theorem dX8_worthOf_48 : decode cX8_worthOf 48 = .ok (.iload_n 2, 1) := by decide +kernel
theorem dX8_worthOf_49 : decode cX8_worthOf 49 = .ok (.bipush 7, 2) := by decide +kernel
theorem dX8_worthOf_51 : decode cX8_worthOf 51 = .ok (.iadd, 1) := by decide +kernel
theorem dX8_worthOf_52 : decode cX8_worthOf 52 = .ok (.ireturn, 1) := by decide +kernel
theorem dX8_worthOf_53 : decode cX8_worthOf 53 = .ok (.bipush 99, 2) := by decide +kernel
theorem dX8_worthOf_55 : decode cX8_worthOf 55 = .ok (.iload_n 2, 1) := by decide +kernel
theorem dX8_worthOf_56 : decode cX8_worthOf 56 = .ok (.isub, 1) := by decide +kernel
theorem dX8_worthOf_57 : decode cX8_worthOf 57 = .ok (.ireturn, 1) := by decide +kernel
theorem dX8_worthOf_58 : decode cX8_worthOf 58 = .ok (.iconst 2, 1) := by decide +kernel
theorem dX8_worthOf_59 : decode cX8_worthOf 59 = .ok (.iload_n 2, 1) := by decide +kernel
theorem dX8_worthOf_60 : decode cX8_worthOf 60 = .ok (.bipush 7, 2) := by decide +kernel
theorem dX8_worthOf_62 : decode cX8_worthOf 62 = .ok (.iadd, 1) := by decide +kernel
theorem dX8_worthOf_63 : decode cX8_worthOf 63 = .ok (.imul, 1) := by decide +kernel
theorem dX8_worthOf_64 : decode cX8_worthOf 64 = .ok (.ireturn, 1) := by decide +kernel
theorem dX8_worthOf_65 : decode cX8_worthOf 65 = .ok (.bipush 94, 2) := by decide +kernel
theorem dX8_worthOf_67 : decode cX8_worthOf 67 = .ok (.iload_n 2, 1) := by decide +kernel
theorem dX8_worthOf_68 : decode cX8_worthOf 68 = .ok (.isub, 1) := by decide +kernel
theorem dX8_worthOf_69 : decode cX8_worthOf 69 = .ok (.ireturn, 1) := by decide +kernel
theorem dX8_worthOf_70 : decode cX8_worthOf 70 = .ok (.iconst 1, 1) := by decide +kernel
theorem dX8_worthOf_71 : decode cX8_worthOf 71 = .ok (.ireturn, 1) := by decide +kernel
theorem dX8_worthOf_72 : decode cX8_worthOf 72 = .ok (.iload_n 2, 1) := by decide +kernel
theorem dX8_worthOf_73 : decode cX8_worthOf 73 = .ok (.ireturn, 1) := by decide +kernel
theorem dX8_told_0 : decode cX8_told 0 = .ok (.aload_n 0, 1) := by decide +kernel
theorem dX8_told_1 : decode cX8_told 1 = .ok (.iload_n 1, 1) := by decide +kernel
theorem dX8_told_2 : decode cX8_told 2 = .ok (.invokevirtual 103, 3) := by decide +kernel
theorem dX8_told_5 : decode cX8_told 5 = .ok (.ifCond .eq 13, 3) := by decide +kernel
theorem dX8_told_8 : decode cX8_told 8 = .ok (.iload_n 2, 1) := by decide +kernel
theorem dX8_told_9 : decode cX8_told 9 = .ok (.iconst 0, 1) := by decide +kernel
theorem dX8_told_10 : decode cX8_told 10 = .ok (.bipush 7, 2) := by decide +kernel
theorem dX8_told_12 : decode cX8_told 12 = .ok (.invokestatic 75, 3) := by decide +kernel
theorem dX8_told_15 : decode cX8_told 15 = .ok (.ifCond .ne 6, 3) := by decide +kernel
theorem dX8_told_18 : decode cX8_told 18 = .ok (.ldc 83, 2) := by decide +kernel
theorem dX8_told_20 : decode cX8_told 20 = .ok (.ireturn, 1) := by decide +kernel
theorem dX8_told_21 : decode cX8_told 21 = .ok (.iload_n 2, 1) := by decide +kernel
theorem dX8_told_22 : decode cX8_told 22 = .ok (.iconst 5, 1) := by decide +kernel
theorem dX8_told_23 : decode cX8_told 23 = .ok (.if_icmp .ge 12, 3) := by decide +kernel
theorem dX8_told_26 : decode cX8_told 26 = .ok (.aload_n 0, 1) := by decide +kernel
theorem dX8_told_27 : decode cX8_told 27 = .ok (.iload_n 1, 1) := by decide +kernel
theorem dX8_told_28 : decode cX8_told 28 = .ok (.iload_n 2, 1) := by decide +kernel
theorem dX8_told_29 : decode cX8_told 29 = .ok (.invokevirtual 93, 3) := by decide +kernel
theorem dX8_told_32 : decode cX8_told 32 = .ok (.goto 35, 3) := by decide +kernel
theorem dX8_told_35 : decode cX8_told 35 = .ok (.iload_n 2, 1) := by decide +kernel
theorem dX8_told_36 : decode cX8_told 36 = .ok (.iconst 5, 1) := by decide +kernel
theorem dX8_told_37 : decode cX8_told 37 = .ok (.if_icmp .ne 11, 3) := by decide +kernel
theorem dX8_told_40 : decode cX8_told 40 = .ok (.aload_n 0, 1) := by decide +kernel
theorem dX8_told_41 : decode cX8_told 41 = .ok (.iload_n 1, 1) := by decide +kernel
theorem dX8_told_42 : decode cX8_told 42 = .ok (.invokevirtual 107, 3) := by decide +kernel
theorem dX8_told_45 : decode cX8_told 45 = .ok (.goto 22, 3) := by decide +kernel
theorem dX8_told_48 : decode cX8_told 48 = .ok (.iload_n 2, 1) := by decide +kernel
theorem dX8_told_49 : decode cX8_told 49 = .ok (.bipush 6, 2) := by decide +kernel
theorem dX8_told_51 : decode cX8_told 51 = .ok (.if_icmp .ne 11, 3) := by decide +kernel
theorem dX8_told_54 : decode cX8_told 54 = .ok (.aload_n 0, 1) := by decide +kernel
theorem dX8_told_55 : decode cX8_told 55 = .ok (.iload_n 1, 1) := by decide +kernel
theorem dX8_told_56 : decode cX8_told 56 = .ok (.invokevirtual 110, 3) := by decide +kernel
theorem dX8_told_59 : decode cX8_told 59 = .ok (.goto 8, 3) := by decide +kernel
theorem dX8_told_62 : decode cX8_told 62 = .ok (.aload_n 0, 1) := by decide +kernel
theorem dX8_told_63 : decode cX8_told 63 = .ok (.iload_n 1, 1) := by decide +kernel
theorem dX8_told_64 : decode cX8_told 64 = .ok (.invokevirtual 113, 3) := by decide +kernel
theorem dX8_told_67 : decode cX8_told 67 = .ok (.ireturn, 1) := by decide +kernel
theorem dX8_isUnder_0 : decode cX8_isUnder 0 = .ok (.iload_n 1, 1) := by decide +kernel
theorem dX8_isUnder_1 : decode cX8_isUnder 1 = .ok (.ifCond .eq 28, 3) := by decide +kernel
theorem dX8_isUnder_4 : decode cX8_isUnder 4 = .ok (.iload_n 0, 1) := by decide +kernel
theorem dX8_isUnder_5 : decode cX8_isUnder 5 = .ok (.iload_n 1, 1) := by decide +kernel
theorem dX8_isUnder_6 : decode cX8_isUnder 6 = .ok (.if_icmp .eq 23, 3) := by decide +kernel
theorem dX8_isUnder_9 : decode cX8_isUnder 9 = .ok (.iload_n 1, 1) := by decide +kernel
theorem dX8_isUnder_10 : decode cX8_isUnder 10 = .ok (.iconst 1, 1) := by decide +kernel
theorem dX8_isUnder_11 : decode cX8_isUnder 11 = .ok (.if_icmp .ne 8, 3) := by decide +kernel
theorem dX8_isUnder_14 : decode cX8_isUnder 14 = .ok (.iload_n 0, 1) := by decide +kernel
theorem dX8_isUnder_15 : decode cX8_isUnder 15 = .ok (.iconst 3, 1) := by decide +kernel
theorem dX8_isUnder_16 : decode cX8_isUnder 16 = .ok (.if_icmp .eq 13, 3) := by decide +kernel
theorem dX8_isUnder_19 : decode cX8_isUnder 19 = .ok (.iload_n 1, 1) := by decide +kernel
theorem dX8_isUnder_20 : decode cX8_isUnder 20 = .ok (.iconst 2, 1) := by decide +kernel
theorem dX8_isUnder_21 : decode cX8_isUnder 21 = .ok (.if_icmp .ne 12, 3) := by decide +kernel
theorem dX8_isUnder_24 : decode cX8_isUnder 24 = .ok (.iload_n 0, 1) := by decide +kernel
theorem dX8_isUnder_25 : decode cX8_isUnder 25 = .ok (.iconst 4, 1) := by decide +kernel
theorem dX8_isUnder_26 : decode cX8_isUnder 26 = .ok (.if_icmp .ne 7, 3) := by decide +kernel
theorem dX8_isUnder_29 : decode cX8_isUnder 29 = .ok (.iconst 1, 1) := by decide +kernel
theorem dX8_isUnder_30 : decode cX8_isUnder 30 = .ok (.goto 4, 3) := by decide +kernel
theorem dX8_isUnder_33 : decode cX8_isUnder 33 = .ok (.iconst 0, 1) := by decide +kernel
theorem dX8_isUnder_34 : decode cX8_isUnder 34 = .ok (.ireturn, 1) := by decide +kernel
theorem dX8_as_0 : decode cX8_as 0 = .ok (.aload_n 0, 1) := by decide +kernel
theorem dX8_as_1 : decode cX8_as 1 = .ok (.iload_n 1, 1) := by decide +kernel
theorem dX8_as_2 : decode cX8_as 2 = .ok (.invokevirtual 103, 3) := by decide +kernel
theorem dX8_as_5 : decode cX8_as 5 = .ok (.ifCond .eq 12, 3) := by decide +kernel
theorem dX8_as_8 : decode cX8_as 8 = .ok (.iload_n 2, 1) := by decide +kernel
theorem dX8_as_9 : decode cX8_as 9 = .ok (.iconst 0, 1) := by decide +kernel
theorem dX8_as_10 : decode cX8_as 10 = .ok (.iconst 5, 1) := by decide +kernel
theorem dX8_as_11 : decode cX8_as 11 = .ok (.invokestatic 75, 3) := by decide +kernel
theorem dX8_as_14 : decode cX8_as 14 = .ok (.ifCond .ne 6, 3) := by decide +kernel
theorem dX8_as_17 : decode cX8_as 17 = .ok (.ldc 83, 2) := by decide +kernel
theorem dX8_as_19 : decode cX8_as 19 = .ok (.ireturn, 1) := by decide +kernel
theorem dX8_as_20 : decode cX8_as 20 = .ok (.aload_n 0, 1) := by decide +kernel
theorem dX8_as_21 : decode cX8_as 21 = .ok (.iload_n 1, 1) := by decide +kernel
theorem dX8_as_22 : decode cX8_as 22 = .ok (.iconst 0, 1) := by decide +kernel
theorem dX8_as_23 : decode cX8_as 23 = .ok (.invokevirtual 93, 3) := by decide +kernel
theorem dX8_as_26 : decode cX8_as 26 = .ok (.iload_n 2, 1) := by decide +kernel
theorem dX8_as_27 : decode cX8_as 27 = .ok (.invokestatic 116, 3) := by decide +kernel
theorem dX8_as_30 : decode cX8_as 30 = .ok (.ifCond .eq 12, 3) := by decide +kernel
theorem dX8_as_33 : decode cX8_as 33 = .ok (.aload_n 0, 1) := by decide +kernel
theorem dX8_as_34 : decode cX8_as 34 = .ok (.iload_n 1, 1) := by decide +kernel
theorem dX8_as_35 : decode cX8_as 35 = .ok (.iconst 2, 1) := by decide +kernel
theorem dX8_as_36 : decode cX8_as 36 = .ok (.invokevirtual 93, 3) := by decide +kernel
theorem dX8_as_39 : decode cX8_as 39 = .ok (.goto 5, 3) := by decide +kernel
theorem dX8_as_42 : decode cX8_as 42 = .ok (.ldc 120, 2) := by decide +kernel
theorem dX8_as_44 : decode cX8_as 44 = .ok (.ireturn, 1) := by decide +kernel
theorem dX8_turns_0 : decode cX8_turns 0 = .ok (.aload_n 0, 1) := by decide +kernel
theorem dX8_turns_1 : decode cX8_turns 1 = .ok (.iload_n 1, 1) := by decide +kernel
theorem dX8_turns_2 : decode cX8_turns 2 = .ok (.invokevirtual 103, 3) := by decide +kernel
theorem dX8_turns_5 : decode cX8_turns 5 = .ok (.ifCond .eq 26, 3) := by decide +kernel
theorem dX8_turns_8 : decode cX8_turns 8 = .ok (.iload_n 2, 1) := by decide +kernel
theorem dX8_turns_9 : decode cX8_turns 9 = .ok (.iconst 0, 1) := by decide +kernel
theorem dX8_turns_10 : decode cX8_turns 10 = .ok (.iconst 5, 1) := by decide +kernel
theorem dX8_turns_11 : decode cX8_turns 11 = .ok (.invokestatic 75, 3) := by decide +kernel
theorem dX8_turns_14 : decode cX8_turns 14 = .ok (.ifCond .eq 17, 3) := by decide +kernel
theorem dX8_turns_17 : decode cX8_turns 17 = .ok (.aload_n 0, 1) := by decide +kernel
theorem dX8_turns_18 : decode cX8_turns 18 = .ok (.bipush 45, 2) := by decide +kernel
theorem dX8_turns_20 : decode cX8_turns 20 = .ok (.iconst 5, 1) := by decide +kernel
theorem dX8_turns_21 : decode cX8_turns 21 = .ok (.iload_n 1, 1) := by decide +kernel
theorem dX8_turns_22 : decode cX8_turns 22 = .ok (.imul, 1) := by decide +kernel
theorem dX8_turns_23 : decode cX8_turns 23 = .ok (.iadd, 1) := by decide +kernel
theorem dX8_turns_24 : decode cX8_turns 24 = .ok (.iload_n 2, 1) := by decide +kernel
theorem dX8_turns_25 : decode cX8_turns 25 = .ok (.invokevirtual 121, 3) := by decide +kernel
theorem dX8_turns_28 : decode cX8_turns 28 = .ok (.goto 5, 3) := by decide +kernel
theorem dX8_turns_31 : decode cX8_turns 31 = .ok (.ldc 83, 2) := by decide +kernel
theorem dX8_turns_33 : decode cX8_turns 33 = .ok (.ireturn, 1) := by decide +kernel
theorem dX8_set_0 : decode cX8_set 0 = .ok (.aload_n 0, 1) := by decide +kernel
theorem dX8_set_1 : decode cX8_set 1 = .ok (.iload_n 1, 1) := by decide +kernel
theorem dX8_set_2 : decode cX8_set 2 = .ok (.invokevirtual 103, 3) := by decide +kernel
theorem dX8_set_5 : decode cX8_set 5 = .ok (.ifCond .eq 50, 3) := by decide +kernel
theorem dX8_set_8 : decode cX8_set 8 = .ok (.iload_n 2, 1) := by decide +kernel
theorem dX8_set_9 : decode cX8_set 9 = .ok (.iconst 1, 1) := by decide +kernel
theorem dX8_set_10 : decode cX8_set 10 = .ok (.iconst 2, 1) := by decide +kernel
theorem dX8_set_11 : decode cX8_set 11 = .ok (.invokestatic 75, 3) := by decide +kernel
theorem dX8_set_14 : decode cX8_set 14 = .ok (.ifCond .eq 41, 3) := by decide +kernel
theorem dX8_set_17 : decode cX8_set 17 = .ok (.iload_n 3, 1) := by decide +kernel
theorem dX8_set_18 : decode cX8_set 18 = .ok (.iload_n 2, 1) := by decide +kernel
theorem dX8_set_19 : decode cX8_set 19 = .ok (.iconst 1, 1) := by decide +kernel
theorem dX8_set_20 : decode cX8_set 20 = .ok (.isub, 1) := by decide +kernel
theorem dX8_set_21 : decode cX8_set 21 = .ok (.iload_n 2, 1) := by decide +kernel
theorem dX8_set_22 : decode cX8_set 22 = .ok (.iconst 1, 1) := by decide +kernel
theorem dX8_set_23 : decode cX8_set 23 = .ok (.if_icmp .ne 8, 3) := by decide +kernel
theorem dX8_set_26 : decode cX8_set 26 = .ok (.bipush 25, 2) := by decide +kernel
theorem dX8_set_28 : decode cX8_set 28 = .ok (.goto 5, 3) := by decide +kernel
theorem dX8_set_31 : decode cX8_set 31 = .ok (.bipush 50, 2) := by decide +kernel
theorem dX8_set_33 : decode cX8_set 33 = .ok (.invokestatic 75, 3) := by decide +kernel
theorem dX8_set_36 : decode cX8_set 36 = .ok (.ifCond .eq 19, 3) := by decide +kernel
theorem dX8_set_39 : decode cX8_set 39 = .ok (.aload_n 0, 1) := by decide +kernel
theorem dX8_set_40 : decode cX8_set 40 = .ok (.bipush 45, 2) := by decide +kernel
theorem dX8_set_42 : decode cX8_set 42 = .ok (.iconst 5, 1) := by decide +kernel
theorem dX8_set_43 : decode cX8_set 43 = .ok (.iload_n 1, 1) := by decide +kernel
theorem dX8_set_44 : decode cX8_set 44 = .ok (.imul, 1) := by decide +kernel
theorem dX8_set_45 : decode cX8_set 45 = .ok (.iadd, 1) := by decide +kernel
theorem dX8_set_46 : decode cX8_set 46 = .ok (.iload_n 2, 1) := by decide +kernel
theorem dX8_set_47 : decode cX8_set 47 = .ok (.iadd, 1) := by decide +kernel
theorem dX8_set_48 : decode cX8_set 48 = .ok (.iload_n 3, 1) := by decide +kernel
theorem dX8_set_49 : decode cX8_set 49 = .ok (.invokevirtual 121, 3) := by decide +kernel
theorem dX8_set_52 : decode cX8_set 52 = .ok (.goto 5, 3) := by decide +kernel
theorem dX8_set_55 : decode cX8_set 55 = .ok (.ldc 83, 2) := by decide +kernel
theorem dX8_set_57 : decode cX8_set 57 = .ok (.ireturn, 1) := by decide +kernel
theorem dX8_lays_0 : decode cX8_lays 0 = .ok (.aload_n 0, 1) := by decide +kernel
theorem dX8_lays_1 : decode cX8_lays 1 = .ok (.iload_n 1, 1) := by decide +kernel
theorem dX8_lays_2 : decode cX8_lays 2 = .ok (.invokevirtual 103, 3) := by decide +kernel
theorem dX8_lays_5 : decode cX8_lays 5 = .ok (.ifCond .eq 16, 3) := by decide +kernel
theorem dX8_lays_8 : decode cX8_lays 8 = .ok (.iload_n 2, 1) := by decide +kernel
theorem dX8_lays_9 : decode cX8_lays 9 = .ok (.invokestatic 124, 3) := by decide +kernel
theorem dX8_lays_12 : decode cX8_lays 12 = .ok (.ifCond .ne 12, 3) := by decide +kernel
theorem dX8_lays_15 : decode cX8_lays 15 = .ok (.iload_n 2, 1) := by decide +kernel
theorem dX8_lays_16 : decode cX8_lays 16 = .ok (.bipush 13, 2) := by decide +kernel
theorem dX8_lays_18 : decode cX8_lays 18 = .ok (.if_icmp .eq 6, 3) := by decide +kernel
theorem dX8_lays_21 : decode cX8_lays 21 = .ok (.ldc 83, 2) := by decide +kernel
theorem dX8_lays_23 : decode cX8_lays 23 = .ok (.ireturn, 1) := by decide +kernel
theorem dX8_lays_24 : decode cX8_lays 24 = .ok (.aload_n 0, 1) := by decide +kernel
theorem dX8_lays_25 : decode cX8_lays 25 = .ok (.iload_n 1, 1) := by decide +kernel
theorem dX8_lays_26 : decode cX8_lays 26 = .ok (.iconst 3, 1) := by decide +kernel
theorem dX8_lays_27 : decode cX8_lays 27 = .ok (.invokevirtual 93, 3) := by decide +kernel
theorem dX8_lays_30 : decode cX8_lays 30 = .ok (.bipush 12, 2) := by decide +kernel
theorem dX8_lays_32 : decode cX8_lays 32 = .ok (.if_icmp .ne 8, 3) := by decide +kernel
theorem dX8_lays_35 : decode cX8_lays 35 = .ok (.ldc 127, 2) := by decide +kernel
theorem dX8_lays_37 : decode cX8_lays 37 = .ok (.goto 16, 3) := by decide +kernel
theorem dX8_lays_40 : decode cX8_lays 40 = .ok (.aload_n 0, 1) := by decide +kernel
theorem dX8_lays_41 : decode cX8_lays 41 = .ok (.bipush 45, 2) := by decide +kernel
theorem dX8_lays_43 : decode cX8_lays 43 = .ok (.iconst 5, 1) := by decide +kernel
theorem dX8_lays_44 : decode cX8_lays 44 = .ok (.iload_n 1, 1) := by decide +kernel
theorem dX8_lays_45 : decode cX8_lays 45 = .ok (.imul, 1) := by decide +kernel
theorem dX8_lays_46 : decode cX8_lays 46 = .ok (.iadd, 1) := by decide +kernel
theorem dX8_lays_47 : decode cX8_lays 47 = .ok (.iconst 3, 1) := by decide +kernel
theorem dX8_lays_48 : decode cX8_lays 48 = .ok (.iadd, 1) := by decide +kernel
theorem dX8_lays_49 : decode cX8_lays 49 = .ok (.iload_n 2, 1) := by decide +kernel
theorem dX8_lays_50 : decode cX8_lays 50 = .ok (.invokevirtual 121, 3) := by decide +kernel
theorem dX8_lays_53 : decode cX8_lays 53 = .ok (.ireturn, 1) := by decide +kernel
theorem dX8_reach_0 : decode cX8_reach 0 = .ok (.iload_n 1, 1) := by decide +kernel
theorem dX8_reach_1 : decode cX8_reach 1 = .ok (.invokestatic 124, 3) := by decide +kernel
theorem dX8_reach_4 : decode cX8_reach 4 = .ok (.ifCond .eq 49, 3) := by decide +kernel
theorem dX8_reach_7 : decode cX8_reach 7 = .ok (.iload_n 2, 1) := by decide +kernel
theorem dX8_reach_8 : decode cX8_reach 8 = .ok (.iconst 0, 1) := by decide +kernel
theorem dX8_reach_9 : decode cX8_reach 9 = .ok (.iconst 1, 1) := by decide +kernel
theorem dX8_reach_10 : decode cX8_reach 10 = .ok (.invokestatic 75, 3) := by decide +kernel
theorem dX8_reach_13 : decode cX8_reach 13 = .ok (.ifCond .eq 40, 3) := by decide +kernel
theorem dX8_reach_16 : decode cX8_reach 16 = .ok (.iload_n 3, 1) := by decide +kernel
theorem dX8_reach_17 : decode cX8_reach 17 = .ok (.iconst 1, 1) := by decide +kernel
theorem dX8_reach_18 : decode cX8_reach 18 = .ok (.iload_n 2, 1) := by decide +kernel
theorem dX8_reach_19 : decode cX8_reach 19 = .ok (.isub, 1) := by decide +kernel
theorem dX8_reach_20 : decode cX8_reach 20 = .ok (.iload_n 2, 1) := by decide +kernel
theorem dX8_reach_21 : decode cX8_reach 21 = .ok (.ifCond .ne 8, 3) := by decide +kernel
theorem dX8_reach_24 : decode cX8_reach 24 = .ok (.bipush 12, 2) := by decide +kernel
theorem dX8_reach_26 : decode cX8_reach 26 = .ok (.goto 4, 3) := by decide +kernel
theorem dX8_reach_29 : decode cX8_reach 29 = .ok (.iconst 1, 1) := by decide +kernel
theorem dX8_reach_30 : decode cX8_reach 30 = .ok (.invokestatic 75, 3) := by decide +kernel
theorem dX8_reach_33 : decode cX8_reach 33 = .ok (.ifCond .eq 20, 3) := by decide +kernel
theorem dX8_reach_36 : decode cX8_reach 36 = .ok (.aload_n 0, 1) := by decide +kernel
theorem dX8_reach_37 : decode cX8_reach 37 = .ok (.bipush 21, 2) := by decide +kernel
theorem dX8_reach_39 : decode cX8_reach 39 = .ok (.bipush 12, 2) := by decide +kernel
theorem dX8_reach_41 : decode cX8_reach 41 = .ok (.iload_n 2, 1) := by decide +kernel
theorem dX8_reach_42 : decode cX8_reach 42 = .ok (.imul, 1) := by decide +kernel
theorem dX8_reach_43 : decode cX8_reach 43 = .ok (.iadd, 1) := by decide +kernel
theorem dX8_reach_44 : decode cX8_reach 44 = .ok (.iload_n 1, 1) := by decide +kernel
theorem dX8_reach_45 : decode cX8_reach 45 = .ok (.iadd, 1) := by decide +kernel
theorem dX8_reach_46 : decode cX8_reach 46 = .ok (.iload_n 3, 1) := by decide +kernel
theorem dX8_reach_47 : decode cX8_reach 47 = .ok (.invokevirtual 121, 3) := by decide +kernel
theorem dX8_reach_50 : decode cX8_reach 50 = .ok (.goto 5, 3) := by decide +kernel
theorem dX8_reach_53 : decode cX8_reach 53 = .ok (.ldc 83, 2) := by decide +kernel
theorem dX8_reach_55 : decode cX8_reach 55 = .ok (.ireturn, 1) := by decide +kernel
theorem dX8_rule_0 : decode cX8_rule 0 = .ok (.iload_n 1, 1) := by decide +kernel
theorem dX8_rule_1 : decode cX8_rule 1 = .ok (.iconst 0, 1) := by decide +kernel
theorem dX8_rule_2 : decode cX8_rule 2 = .ok (.iconst 2, 1) := by decide +kernel
theorem dX8_rule_3 : decode cX8_rule 3 = .ok (.invokestatic 75, 3) := by decide +kernel
theorem dX8_rule_6 : decode cX8_rule 6 = .ok (.ifCond .eq 23, 3) := by decide +kernel
theorem dX8_rule_9 : decode cX8_rule 9 = .ok (.iload_n 2, 1) := by decide +kernel
theorem dX8_rule_10 : decode cX8_rule 10 = .ok (.iconst 0, 1) := by decide +kernel
theorem dX8_rule_11 : decode cX8_rule 11 = .ok (.iload_n 1, 1) := by decide +kernel
theorem dX8_rule_12 : decode cX8_rule 12 = .ok (.iconst 1, 1) := by decide +kernel
theorem dX8_rule_13 : decode cX8_rule 13 = .ok (.if_icmp .ne 8, 3) := by decide +kernel
theorem dX8_rule_16 : decode cX8_rule 16 = .ok (.bipush 100, 2) := by decide +kernel
theorem dX8_rule_18 : decode cX8_rule 18 = .ok (.goto 5, 3) := by decide +kernel
theorem dX8_rule_21 : decode cX8_rule 21 = .ok (.bipush 9, 2) := by decide +kernel
theorem dX8_rule_23 : decode cX8_rule 23 = .ok (.invokestatic 75, 3) := by decide +kernel
theorem dX8_rule_26 : decode cX8_rule 26 = .ok (.ifCond .ne 6, 3) := by decide +kernel
theorem dX8_rule_29 : decode cX8_rule 29 = .ok (.ldc 83, 2) := by decide +kernel
theorem dX8_rule_31 : decode cX8_rule 31 = .ok (.ireturn, 1) := by decide +kernel
theorem dX8_rule_32 : decode cX8_rule 32 = .ok (.aload_n 0, 1) := by decide +kernel
theorem dX8_rule_33 : decode cX8_rule 33 = .ok (.iload_n 1, 1) := by decide +kernel
theorem dX8_rule_34 : decode cX8_rule 34 = .ok (.ifCond .ne 7, 3) := by decide +kernel
theorem dX8_rule_37 : decode cX8_rule 37 = .ok (.iconst 4, 1) := by decide +kernel
theorem dX8_rule_38 : decode cX8_rule 38 = .ok (.goto 13, 3) := by decide +kernel
theorem dX8_rule_41 : decode cX8_rule 41 = .ok (.iload_n 1, 1) := by decide +kernel
theorem dX8_rule_42 : decode cX8_rule 42 = .ok (.iconst 1, 1) := by decide +kernel
theorem dX8_rule_43 : decode cX8_rule 43 = .ok (.if_icmp .ne 7, 3) := by decide +kernel
theorem dX8_rule_46 : decode cX8_rule 46 = .ok (.iconst 5, 1) := by decide +kernel
theorem dX8_rule_47 : decode cX8_rule 47 = .ok (.goto 4, 3) := by decide +kernel
theorem dX8_rule_50 : decode cX8_rule 50 = .ok (.iconst 3, 1) := by decide +kernel
theorem dX8_rule_51 : decode cX8_rule 51 = .ok (.iload_n 2, 1) := by decide +kernel
theorem dX8_rule_52 : decode cX8_rule 52 = .ok (.invokevirtual 121, 3) := by decide +kernel
theorem dX8_rule_55 : decode cX8_rule 55 = .ok (.ireturn, 1) := by decide +kernel
theorem dX8_word_0 : decode cX8_word 0 = .ok (.iload_n 1, 1) := by decide +kernel
theorem dX8_word_1 : decode cX8_word 1 = .ok (.iconst 0, 1) := by decide +kernel
theorem dX8_word_2 : decode cX8_word 2 = .ok (.bipush 25, 2) := by decide +kernel
theorem dX8_word_4 : decode cX8_word 4 = .ok (.invokestatic 75, 3) := by decide +kernel
theorem dX8_word_7 : decode cX8_word 7 = .ok (.ifCond .ne 6, 3) := by decide +kernel
theorem dX8_word_10 : decode cX8_word 10 = .ok (.ldc 83, 2) := by decide +kernel
theorem dX8_word_12 : decode cX8_word 12 = .ok (.ireturn, 1) := by decide +kernel
theorem dX8_word_13 : decode cX8_word 13 = .ok (.aload_n 0, 1) := by decide +kernel
theorem dX8_word_14 : decode cX8_word 14 = .ok (.getfield 9, 3) := by decide +kernel
theorem dX8_word_17 : decode cX8_word 17 = .ok (.bipush 7, 2) := by decide +kernel
theorem dX8_word_19 : decode cX8_word 19 = .ok (.iaload, 1) := by decide +kernel
theorem dX8_word_20 : decode cX8_word 20 = .ok (.bipush 12, 2) := by decide +kernel
theorem dX8_word_22 : decode cX8_word 22 = .ok (.if_icmp .ne 6, 3) := by decide +kernel
theorem dX8_word_25 : decode cX8_word 25 = .ok (.ldc 84, 2) := by decide +kernel
theorem dX8_word_27 : decode cX8_word 27 = .ok (.ireturn, 1) := by decide +kernel
theorem dX8_word_28 : decode cX8_word 28 = .ok (.aload_n 0, 1) := by decide +kernel
theorem dX8_word_29 : decode cX8_word 29 = .ok (.getfield 9, 3) := by decide +kernel
theorem dX8_word_32 : decode cX8_word 32 = .ok (.bipush 9, 2) := by decide +kernel
theorem dX8_word_34 : decode cX8_word 34 = .ok (.aload_n 0, 1) := by decide +kernel
theorem dX8_word_35 : decode cX8_word 35 = .ok (.getfield 9, 3) := by decide +kernel
theorem dX8_word_38 : decode cX8_word 38 = .ok (.bipush 7, 2) := by decide +kernel
theorem dX8_word_40 : decode cX8_word 40 = .ok (.iaload, 1) := by decide +kernel
theorem dX8_word_41 : decode cX8_word 41 = .ok (.iadd, 1) := by decide +kernel
theorem dX8_word_42 : decode cX8_word 42 = .ok (.iload_n 1, 1) := by decide +kernel
theorem dX8_word_43 : decode cX8_word 43 = .ok (.iastore, 1) := by decide +kernel
theorem dX8_word_44 : decode cX8_word 44 = .ok (.aload_n 0, 1) := by decide +kernel
theorem dX8_word_45 : decode cX8_word 45 = .ok (.getfield 9, 3) := by decide +kernel
theorem dX8_word_48 : decode cX8_word 48 = .ok (.bipush 7, 2) := by decide +kernel
theorem dX8_word_50 : decode cX8_word 50 = .ok (.dup2, 1) := by decide +kernel
theorem dX8_word_51 : decode cX8_word 51 = .ok (.iaload, 1) := by decide +kernel
theorem dX8_word_52 : decode cX8_word 52 = .ok (.iconst 1, 1) := by decide +kernel
theorem dX8_word_53 : decode cX8_word 53 = .ok (.iadd, 1) := by decide +kernel
theorem dX8_word_54 : decode cX8_word 54 = .ok (.iastore, 1) := by decide +kernel
theorem dX8_word_55 : decode cX8_word 55 = .ok (.aload_n 0, 1) := by decide +kernel
theorem dX8_word_56 : decode cX8_word 56 = .ok (.getfield 9, 3) := by decide +kernel
theorem dX8_word_59 : decode cX8_word 59 = .ok (.bipush 7, 2) := by decide +kernel
theorem dX8_word_61 : decode cX8_word 61 = .ok (.iaload, 1) := by decide +kernel
theorem dX8_word_62 : decode cX8_word 62 = .ok (.ireturn, 1) := by decide +kernel
theorem dX8_unword_0 : decode cX8_unword 0 = .ok (.aload_n 0, 1) := by decide +kernel
theorem dX8_unword_1 : decode cX8_unword 1 = .ok (.bipush 7, 2) := by decide +kernel
theorem dX8_unword_3 : decode cX8_unword 3 = .ok (.iconst 0, 1) := by decide +kernel
theorem dX8_unword_4 : decode cX8_unword 4 = .ok (.invokevirtual 121, 3) := by decide +kernel
theorem dX8_unword_7 : decode cX8_unword 7 = .ok (.ireturn, 1) := by decide +kernel
theorem dX8_draw_0 : decode cX8_draw 0 = .ok (.aload_n 0, 1) := by decide +kernel
theorem dX8_draw_1 : decode cX8_draw 1 = .ok (.getfield 9, 3) := by decide +kernel
theorem dX8_draw_4 : decode cX8_draw 4 = .ok (.iconst 0, 1) := by decide +kernel
theorem dX8_draw_5 : decode cX8_draw 5 = .ok (.aload_n 0, 1) := by decide +kernel
theorem dX8_draw_6 : decode cX8_draw 6 = .ok (.getfield 9, 3) := by decide +kernel
theorem dX8_draw_9 : decode cX8_draw 9 = .ok (.iconst 0, 1) := by decide +kernel
theorem dX8_draw_10 : decode cX8_draw 10 = .ok (.iaload, 1) := by decide +kernel
theorem dX8_draw_11 : decode cX8_draw 11 = .ok (.ldc 128, 2) := by decide +kernel
theorem dX8_draw_13 : decode cX8_draw 13 = .ok (.imul, 1) := by decide +kernel
theorem dX8_draw_14 : decode cX8_draw 14 = .ok (.sipush 12345, 3) := by decide +kernel
theorem dX8_draw_17 : decode cX8_draw 17 = .ok (.iadd, 1) := by decide +kernel
theorem dX8_draw_18 : decode cX8_draw 18 = .ok (.iastore, 1) := by decide +kernel
theorem dX8_draw_19 : decode cX8_draw 19 = .ok (.aload_n 0, 1) := by decide +kernel
theorem dX8_draw_20 : decode cX8_draw 20 = .ok (.getfield 9, 3) := by decide +kernel
theorem dX8_draw_23 : decode cX8_draw 23 = .ok (.iconst 0, 1) := by decide +kernel
theorem dX8_draw_24 : decode cX8_draw 24 = .ok (.iaload, 1) := by decide +kernel
theorem dX8_draw_25 : decode cX8_draw 25 = .ok (.bipush 8, 2) := by decide +kernel
theorem dX8_draw_27 : decode cX8_draw 27 = .ok (.iushr, 1) := by decide +kernel
theorem dX8_draw_28 : decode cX8_draw 28 = .ok (.ireturn, 1) := by decide +kernel
theorem dX8_deal_0 : decode cX8_deal 0 = .ok (.iload_n 1, 1) := by decide +kernel
theorem dX8_deal_1 : decode cX8_deal 1 = .ok (.iconst 1, 1) := by decide +kernel
theorem dX8_deal_2 : decode cX8_deal 2 = .ok (.bipush 12, 2) := by decide +kernel
theorem dX8_deal_4 : decode cX8_deal 4 = .ok (.invokestatic 75, 3) := by decide +kernel
theorem dX8_deal_7 : decode cX8_deal 7 = .ok (.ifCond .ne 6, 3) := by decide +kernel
theorem dX8_deal_10 : decode cX8_deal 10 = .ok (.ldc 83, 2) := by decide +kernel
theorem dX8_deal_12 : decode cX8_deal 12 = .ok (.ireturn, 1) := by decide +kernel
theorem dX8_deal_13 : decode cX8_deal 13 = .ok (.iconst 0, 1) := by decide +kernel
theorem dX8_deal_14 : decode cX8_deal 14 = .ok (.istore_n 2, 1) := by decide +kernel
theorem dX8_deal_15 : decode cX8_deal 15 = .ok (.iload_n 2, 1) := by decide +kernel
theorem dX8_deal_16 : decode cX8_deal 16 = .ok (.iload_n 1, 1) := by decide +kernel
theorem dX8_deal_17 : decode cX8_deal 17 = .ok (.if_icmp .ge 55, 3) := by decide +kernel
theorem dX8_deal_20 : decode cX8_deal 20 = .ok (.aload_n 0, 1) := by decide +kernel
theorem dX8_deal_21 : decode cX8_deal 21 = .ok (.getfield 9, 3) := by decide +kernel
theorem dX8_deal_24 : decode cX8_deal 24 = .ok (.iconst 1, 1) := by decide +kernel
theorem dX8_deal_25 : decode cX8_deal 25 = .ok (.iaload, 1) := by decide +kernel
theorem dX8_deal_26 : decode cX8_deal 26 = .ok (.bipush 12, 2) := by decide +kernel
theorem dX8_deal_28 : decode cX8_deal 28 = .ok (.if_icmp .ge 44, 3) := by decide +kernel
theorem dX8_deal_31 : decode cX8_deal 31 = .ok (.aload_n 0, 1) := by decide +kernel
theorem dX8_deal_32 : decode cX8_deal 32 = .ok (.invokevirtual 129, 3) := by decide +kernel
theorem dX8_deal_35 : decode cX8_deal 35 = .ok (.bipush 6, 2) := by decide +kernel
theorem dX8_deal_37 : decode cX8_deal 37 = .ok (.irem, 1) := by decide +kernel
theorem dX8_deal_38 : decode cX8_deal 38 = .ok (.istore_n 3, 1) := by decide +kernel
theorem dX8_deal_39 : decode cX8_deal 39 = .ok (.aload_n 0, 1) := by decide +kernel
theorem dX8_deal_40 : decode cX8_deal 40 = .ok (.invokevirtual 129, 3) := by decide +kernel
theorem dX8_deal_43 : decode cX8_deal 43 = .ok (.bipush 26, 2) := by decide +kernel
theorem dX8_deal_45 : decode cX8_deal 45 = .ok (.irem, 1) := by decide +kernel
theorem dX8_deal_46 : decode cX8_deal 46 = .ok (.istore 4, 2) := by decide +kernel
theorem dX8_deal_48 : decode cX8_deal 48 = .ok (.aload_n 0, 1) := by decide +kernel
theorem dX8_deal_49 : decode cX8_deal 49 = .ok (.iload_n 3, 1) := by decide +kernel
theorem dX8_deal_50 : decode cX8_deal 50 = .ok (.iload 4, 2) := by decide +kernel
theorem dX8_deal_52 : decode cX8_deal 52 = .ok (.iconst 1, 1) := by decide +kernel
theorem dX8_deal_53 : decode cX8_deal 53 = .ok (.aload_n 0, 1) := by decide +kernel
theorem dX8_deal_54 : decode cX8_deal 54 = .ok (.invokevirtual 129, 3) := by decide +kernel
theorem dX8_deal_57 : decode cX8_deal 57 = .ok (.bipush 50, 2) := by decide +kernel
theorem dX8_deal_59 : decode cX8_deal 59 = .ok (.irem, 1) := by decide +kernel
theorem dX8_deal_60 : decode cX8_deal 60 = .ok (.iadd, 1) := by decide +kernel
theorem dX8_deal_61 : decode cX8_deal 61 = .ok (.invokevirtual 85, 3) := by decide +kernel
theorem dX8_deal_64 : decode cX8_deal 64 = .ok (.istore 5, 2) := by decide +kernel
theorem dX8_deal_66 : decode cX8_deal 66 = .ok (.iinc 2 1, 3) := by decide +kernel
theorem dX8_deal_69 : decode cX8_deal 69 = .ok (.goto (-54), 3) := by decide +kernel
theorem dX8_deal_72 : decode cX8_deal 72 = .ok (.iload_n 2, 1) := by decide +kernel
theorem dX8_deal_73 : decode cX8_deal 73 = .ok (.ireturn, 1) := by decide +kernel
theorem dX8_seed_0 : decode cX8_seed 0 = .ok (.aload_n 0, 1) := by decide +kernel
theorem dX8_seed_1 : decode cX8_seed 1 = .ok (.iconst 0, 1) := by decide +kernel
theorem dX8_seed_2 : decode cX8_seed 2 = .ok (.iload_n 1, 1) := by decide +kernel
theorem dX8_seed_3 : decode cX8_seed 3 = .ok (.invokevirtual 121, 3) := by decide +kernel
theorem dX8_seed_6 : decode cX8_seed 6 = .ok (.ireturn, 1) := by decide +kernel
theorem dX8_manyAt_0 : decode cX8_manyAt 0 = .ok (.iconst 0, 1) := by decide +kernel
theorem dX8_manyAt_1 : decode cX8_manyAt 1 = .ok (.istore_n 2, 1) := by decide +kernel
theorem dX8_manyAt_2 : decode cX8_manyAt 2 = .ok (.iconst 0, 1) := by decide +kernel
theorem dX8_manyAt_3 : decode cX8_manyAt 3 = .ok (.istore_n 3, 1) := by decide +kernel
theorem dX8_manyAt_4 : decode cX8_manyAt 4 = .ok (.iload_n 3, 1) := by decide +kernel
theorem dX8_manyAt_5 : decode cX8_manyAt 5 = .ok (.aload_n 0, 1) := by decide +kernel
theorem dX8_manyAt_6 : decode cX8_manyAt 6 = .ok (.getfield 9, 3) := by decide +kernel
theorem dX8_manyAt_9 : decode cX8_manyAt 9 = .ok (.iconst 1, 1) := by decide +kernel
theorem dX8_manyAt_10 : decode cX8_manyAt 10 = .ok (.iaload, 1) := by decide +kernel
theorem dX8_manyAt_11 : decode cX8_manyAt 11 = .ok (.if_icmp .ge 27, 3) := by decide +kernel
theorem dX8_manyAt_14 : decode cX8_manyAt 14 = .ok (.iload_n 2, 1) := by decide +kernel
theorem dX8_manyAt_15 : decode cX8_manyAt 15 = .ok (.aload_n 0, 1) := by decide +kernel
theorem dX8_manyAt_16 : decode cX8_manyAt 16 = .ok (.iload_n 3, 1) := by decide +kernel
theorem dX8_manyAt_17 : decode cX8_manyAt 17 = .ok (.iconst 3, 1) := by decide +kernel
theorem dX8_manyAt_18 : decode cX8_manyAt 18 = .ok (.invokevirtual 93, 3) := by decide +kernel
theorem dX8_manyAt_21 : decode cX8_manyAt 21 = .ok (.iload_n 1, 1) := by decide +kernel
theorem dX8_manyAt_22 : decode cX8_manyAt 22 = .ok (.if_icmp .ne 7, 3) := by decide +kernel
theorem dX8_manyAt_25 : decode cX8_manyAt 25 = .ok (.iconst 1, 1) := by decide +kernel
theorem dX8_manyAt_26 : decode cX8_manyAt 26 = .ok (.goto 4, 3) := by decide +kernel
theorem dX8_manyAt_29 : decode cX8_manyAt 29 = .ok (.iconst 0, 1) := by decide +kernel
theorem dX8_manyAt_30 : decode cX8_manyAt 30 = .ok (.iadd, 1) := by decide +kernel
theorem dX8_manyAt_31 : decode cX8_manyAt 31 = .ok (.istore_n 2, 1) := by decide +kernel
theorem dX8_manyAt_32 : decode cX8_manyAt 32 = .ok (.iinc 3 1, 3) := by decide +kernel
theorem dX8_manyAt_35 : decode cX8_manyAt 35 = .ok (.goto (-31), 3) := by decide +kernel
theorem dX8_manyAt_38 : decode cX8_manyAt 38 = .ok (.iload_n 2, 1) := by decide +kernel
theorem dX8_manyAt_39 : decode cX8_manyAt 39 = .ok (.ireturn, 1) := by decide +kernel
theorem dX8_goesDown_0 : decode cX8_goesDown 0 = .ok (.aload_n 0, 1) := by decide +kernel
theorem dX8_goesDown_1 : decode cX8_goesDown 1 = .ok (.iload_n 1, 1) := by decide +kernel
theorem dX8_goesDown_2 : decode cX8_goesDown 2 = .ok (.invokevirtual 107, 3) := by decide +kernel
theorem dX8_goesDown_5 : decode cX8_goesDown 5 = .ok (.istore_n 2, 1) := by decide +kernel
theorem dX8_goesDown_6 : decode cX8_goesDown 6 = .ok (.iconst 1, 1) := by decide +kernel
theorem dX8_goesDown_7 : decode cX8_goesDown 7 = .ok (.istore_n 3, 1) := by decide +kernel
theorem dX8_goesDown_8 : decode cX8_goesDown 8 = .ok (.iload_n 2, 1) := by decide +kernel
theorem dX8_goesDown_9 : decode cX8_goesDown 9 = .ok (.ifCond .le 138, 3) := by decide +kernel
theorem dX8_goesDown_12 : decode cX8_goesDown 12 = .ok (.iload_n 3, 1) := by decide +kernel
theorem dX8_goesDown_13 : decode cX8_goesDown 13 = .ok (.ifCond .eq 134, 3) := by decide +kernel
theorem dX8_goesDown_16 : decode cX8_goesDown 16 = .ok (.aload_n 0, 1) := by decide +kernel
theorem dX8_goesDown_17 : decode cX8_goesDown 17 = .ok (.iload_n 1, 1) := by decide +kernel
theorem dX8_goesDown_18 : decode cX8_goesDown 18 = .ok (.iconst 3, 1) := by decide +kernel
theorem dX8_goesDown_19 : decode cX8_goesDown 19 = .ok (.invokevirtual 93, 3) := by decide +kernel
theorem dX8_goesDown_22 : decode cX8_goesDown 22 = .ok (.istore 4, 2) := by decide +kernel
theorem dX8_goesDown_24 : decode cX8_goesDown 24 = .ok (.iload 4, 2) := by decide +kernel
theorem dX8_goesDown_26 : decode cX8_goesDown 26 = .ok (.bipush 12, 2) := by decide +kernel
theorem dX8_goesDown_28 : decode cX8_goesDown 28 = .ok (.if_icmp .ge 50, 3) := by decide +kernel
theorem dX8_goesDown_31 : decode cX8_goesDown 31 = .ok (.aload_n 0, 1) := by decide +kernel
theorem dX8_goesDown_32 : decode cX8_goesDown 32 = .ok (.getfield 9, 3) := by decide +kernel
theorem dX8_goesDown_35 : decode cX8_goesDown 35 = .ok (.bipush 33, 2) := by decide +kernel
theorem dX8_goesDown_37 : decode cX8_goesDown 37 = .ok (.iload 4, 2) := by decide +kernel
theorem dX8_goesDown_39 : decode cX8_goesDown 39 = .ok (.iadd, 1) := by decide +kernel
theorem dX8_goesDown_40 : decode cX8_goesDown 40 = .ok (.iaload, 1) := by decide +kernel
theorem dX8_goesDown_41 : decode cX8_goesDown 41 = .ok (.ifCond .ne 37, 3) := by decide +kernel
theorem dX8_goesDown_44 : decode cX8_goesDown 44 = .ok (.iload 4, 2) := by decide +kernel
theorem dX8_goesDown_46 : decode cX8_goesDown 46 = .ok (.bipush 11, 2) := by decide +kernel
theorem dX8_goesDown_48 : decode cX8_goesDown 48 = .ok (.if_icmp .eq 26, 3) := by decide +kernel
theorem dX8_goesDown_51 : decode cX8_goesDown 51 = .ok (.aload_n 0, 1) := by decide +kernel
theorem dX8_goesDown_52 : decode cX8_goesDown 52 = .ok (.iload 4, 2) := by decide +kernel
theorem dX8_goesDown_54 : decode cX8_goesDown 54 = .ok (.iconst 1, 1) := by decide +kernel
theorem dX8_goesDown_55 : decode cX8_goesDown 55 = .ok (.iadd, 1) := by decide +kernel
theorem dX8_goesDown_56 : decode cX8_goesDown 56 = .ok (.invokevirtual 133, 3) := by decide +kernel
theorem dX8_goesDown_59 : decode cX8_goesDown 59 = .ok (.aload_n 0, 1) := by decide +kernel
theorem dX8_goesDown_60 : decode cX8_goesDown 60 = .ok (.getfield 9, 3) := by decide +kernel
theorem dX8_goesDown_63 : decode cX8_goesDown 63 = .ok (.bipush 21, 2) := by decide +kernel
theorem dX8_goesDown_65 : decode cX8_goesDown 65 = .ok (.iload 4, 2) := by decide +kernel
theorem dX8_goesDown_67 : decode cX8_goesDown 67 = .ok (.iadd, 1) := by decide +kernel
theorem dX8_goesDown_68 : decode cX8_goesDown 68 = .ok (.iconst 1, 1) := by decide +kernel
theorem dX8_goesDown_69 : decode cX8_goesDown 69 = .ok (.iadd, 1) := by decide +kernel
theorem dX8_goesDown_70 : decode cX8_goesDown 70 = .ok (.iaload, 1) := by decide +kernel
theorem dX8_goesDown_71 : decode cX8_goesDown 71 = .ok (.if_icmp .ge 7, 3) := by decide +kernel
theorem dX8_goesDown_74 : decode cX8_goesDown 74 = .ok (.iconst 1, 1) := by decide +kernel
theorem dX8_goesDown_75 : decode cX8_goesDown 75 = .ok (.goto 4, 3) := by decide +kernel
theorem dX8_goesDown_78 : decode cX8_goesDown 78 = .ok (.iconst 0, 1) := by decide +kernel
theorem dX8_goesDown_79 : decode cX8_goesDown 79 = .ok (.istore_n 3, 1) := by decide +kernel
theorem dX8_goesDown_80 : decode cX8_goesDown 80 = .ok (.iload_n 3, 1) := by decide +kernel
theorem dX8_goesDown_81 : decode cX8_goesDown 81 = .ok (.ifCond .eq 24, 3) := by decide +kernel
theorem dX8_goesDown_84 : decode cX8_goesDown 84 = .ok (.iload 4, 2) := by decide +kernel
theorem dX8_goesDown_86 : decode cX8_goesDown 86 = .ok (.bipush 11, 2) := by decide +kernel
theorem dX8_goesDown_88 : decode cX8_goesDown 88 = .ok (.if_icmp .ne 17, 3) := by decide +kernel
theorem dX8_goesDown_91 : decode cX8_goesDown 91 = .ok (.aload_n 0, 1) := by decide +kernel
theorem dX8_goesDown_92 : decode cX8_goesDown 92 = .ok (.iload_n 1, 1) := by decide +kernel
theorem dX8_goesDown_93 : decode cX8_goesDown 93 = .ok (.iconst 4, 1) := by decide +kernel
theorem dX8_goesDown_94 : decode cX8_goesDown 94 = .ok (.aload_n 0, 1) := by decide +kernel
theorem dX8_goesDown_95 : decode cX8_goesDown 95 = .ok (.bipush 12, 2) := by decide +kernel
theorem dX8_goesDown_97 : decode cX8_goesDown 97 = .ok (.invokevirtual 133, 3) := by decide +kernel
theorem dX8_goesDown_100 : decode cX8_goesDown 100 = .ok (.iconst 1, 1) := by decide +kernel
theorem dX8_goesDown_101 : decode cX8_goesDown 101 = .ok (.iadd, 1) := by decide +kernel
theorem dX8_goesDown_102 : decode cX8_goesDown 102 = .ok (.invokevirtual 79, 3) := by decide +kernel
theorem dX8_goesDown_105 : decode cX8_goesDown 105 = .ok (.aload_n 0, 1) := by decide +kernel
theorem dX8_goesDown_106 : decode cX8_goesDown 106 = .ok (.iload_n 1, 1) := by decide +kernel
theorem dX8_goesDown_107 : decode cX8_goesDown 107 = .ok (.iconst 3, 1) := by decide +kernel
theorem dX8_goesDown_108 : decode cX8_goesDown 108 = .ok (.iload_n 3, 1) := by decide +kernel
theorem dX8_goesDown_109 : decode cX8_goesDown 109 = .ok (.ifCond .eq 10, 3) := by decide +kernel
theorem dX8_goesDown_112 : decode cX8_goesDown 112 = .ok (.iload 4, 2) := by decide +kernel
theorem dX8_goesDown_114 : decode cX8_goesDown 114 = .ok (.iconst 1, 1) := by decide +kernel
theorem dX8_goesDown_115 : decode cX8_goesDown 115 = .ok (.iadd, 1) := by decide +kernel
theorem dX8_goesDown_116 : decode cX8_goesDown 116 = .ok (.goto 5, 3) := by decide +kernel
theorem dX8_goesDown_119 : decode cX8_goesDown 119 = .ok (.iload 4, 2) := by decide +kernel
theorem dX8_goesDown_121 : decode cX8_goesDown 121 = .ok (.invokevirtual 79, 3) := by decide +kernel
theorem dX8_goesDown_124 : decode cX8_goesDown 124 = .ok (.iinc 2 (-1), 3) := by decide +kernel
theorem dX8_goesDown_127 : decode cX8_goesDown 127 = .ok (.iload_n 3, 1) := by decide +kernel
theorem dX8_goesDown_128 : decode cX8_goesDown 128 = .ok (.ifCond .eq 14, 3) := by decide +kernel
theorem dX8_goesDown_131 : decode cX8_goesDown 131 = .ok (.iload 4, 2) := by decide +kernel
theorem dX8_goesDown_133 : decode cX8_goesDown 133 = .ok (.bipush 11, 2) := by decide +kernel
theorem dX8_goesDown_135 : decode cX8_goesDown 135 = .ok (.if_icmp .ge 7, 3) := by decide +kernel
theorem dX8_goesDown_138 : decode cX8_goesDown 138 = .ok (.iconst 1, 1) := by decide +kernel
theorem dX8_goesDown_139 : decode cX8_goesDown 139 = .ok (.goto 4, 3) := by decide +kernel
theorem dX8_goesDown_142 : decode cX8_goesDown 142 = .ok (.iconst 0, 1) := by decide +kernel
theorem dX8_goesDown_143 : decode cX8_goesDown 143 = .ok (.istore_n 3, 1) := by decide +kernel
theorem dX8_goesDown_144 : decode cX8_goesDown 144 = .ok (.goto (-136), 3) := by decide +kernel
theorem dX8_goesDown_147 : decode cX8_goesDown 147 = .ok (.return_, 1) := by decide +kernel
theorem dX8_saws_0 : decode cX8_saws 0 = .ok (.aload_n 0, 1) := by decide +kernel
theorem dX8_saws_1 : decode cX8_saws 1 = .ok (.invokevirtual 129, 3) := by decide +kernel
theorem dX8_saws_4 : decode cX8_saws 4 = .ok (.aload_n 0, 1) := by decide +kernel
theorem dX8_saws_5 : decode cX8_saws 5 = .ok (.getfield 9, 3) := by decide +kernel
theorem dX8_saws_8 : decode cX8_saws 8 = .ok (.iconst 1, 1) := by decide +kernel
theorem dX8_saws_9 : decode cX8_saws 9 = .ok (.iaload, 1) := by decide +kernel
theorem dX8_saws_10 : decode cX8_saws 10 = .ok (.irem, 1) := by decide +kernel
theorem dX8_saws_11 : decode cX8_saws 11 = .ok (.istore_n 1, 1) := by decide +kernel
theorem dX8_saws_12 : decode cX8_saws 12 = .ok (.aload_n 0, 1) := by decide +kernel
theorem dX8_saws_13 : decode cX8_saws 13 = .ok (.iload_n 1, 1) := by decide +kernel
theorem dX8_saws_14 : decode cX8_saws 14 = .ok (.iconst 3, 1) := by decide +kernel
theorem dX8_saws_15 : decode cX8_saws 15 = .ok (.invokevirtual 93, 3) := by decide +kernel
theorem dX8_saws_18 : decode cX8_saws 18 = .ok (.bipush 12, 2) := by decide +kernel
theorem dX8_saws_20 : decode cX8_saws 20 = .ok (.if_icmp .ge 37, 3) := by decide +kernel
theorem dX8_saws_23 : decode cX8_saws 23 = .ok (.aload_n 0, 1) := by decide +kernel
theorem dX8_saws_24 : decode cX8_saws 24 = .ok (.invokevirtual 129, 3) := by decide +kernel
theorem dX8_saws_27 : decode cX8_saws 27 = .ok (.bipush 100, 2) := by decide +kernel
theorem dX8_saws_29 : decode cX8_saws 29 = .ok (.irem, 1) := by decide +kernel
theorem dX8_saws_30 : decode cX8_saws 30 = .ok (.aload_n 0, 1) := by decide +kernel
theorem dX8_saws_31 : decode cX8_saws 31 = .ok (.iload_n 1, 1) := by decide +kernel
theorem dX8_saws_32 : decode cX8_saws 32 = .ok (.invokevirtual 110, 3) := by decide +kernel
theorem dX8_saws_35 : decode cX8_saws 35 = .ok (.if_icmp .ge 22, 3) := by decide +kernel
theorem dX8_saws_38 : decode cX8_saws 38 = .ok (.aload_n 0, 1) := by decide +kernel
theorem dX8_saws_39 : decode cX8_saws 39 = .ok (.iload_n 1, 1) := by decide +kernel
theorem dX8_saws_40 : decode cX8_saws 40 = .ok (.iconst 3, 1) := by decide +kernel
theorem dX8_saws_41 : decode cX8_saws 41 = .ok (.bipush 13, 2) := by decide +kernel
theorem dX8_saws_43 : decode cX8_saws 43 = .ok (.invokevirtual 79, 3) := by decide +kernel
theorem dX8_saws_46 : decode cX8_saws 46 = .ok (.aload_n 0, 1) := by decide +kernel
theorem dX8_saws_47 : decode cX8_saws 47 = .ok (.getfield 9, 3) := by decide +kernel
theorem dX8_saws_50 : decode cX8_saws 50 = .ok (.bipush 6, 2) := by decide +kernel
theorem dX8_saws_52 : decode cX8_saws 52 = .ok (.dup2, 1) := by decide +kernel
theorem dX8_saws_53 : decode cX8_saws 53 = .ok (.iaload, 1) := by decide +kernel
theorem dX8_saws_54 : decode cX8_saws 54 = .ok (.iconst 1, 1) := by decide +kernel
theorem dX8_saws_55 : decode cX8_saws 55 = .ok (.iadd, 1) := by decide +kernel
theorem dX8_saws_56 : decode cX8_saws 56 = .ok (.iastore, 1) := by decide +kernel
theorem dX8_saws_57 : decode cX8_saws 57 = .ok (.return_, 1) := by decide +kernel
theorem dX8_week_0 : decode cX8_week 0 = .ok (.aload_n 0, 1) := by decide +kernel
theorem dX8_week_1 : decode cX8_week 1 = .ok (.getfield 9, 3) := by decide +kernel
theorem dX8_week_4 : decode cX8_week 4 = .ok (.iconst 3, 1) := by decide +kernel
theorem dX8_week_5 : decode cX8_week 5 = .ok (.aload_n 0, 1) := by decide +kernel
theorem dX8_week_6 : decode cX8_week 6 = .ok (.invokevirtual 129, 3) := by decide +kernel
theorem dX8_week_9 : decode cX8_week 9 = .ok (.bipush 10, 2) := by decide +kernel
theorem dX8_week_11 : decode cX8_week 11 = .ok (.irem, 1) := by decide +kernel
theorem dX8_week_12 : decode cX8_week 12 = .ok (.aload_n 0, 1) := by decide +kernel
theorem dX8_week_13 : decode cX8_week 13 = .ok (.getfield 9, 3) := by decide +kernel
theorem dX8_week_16 : decode cX8_week 16 = .ok (.iconst 4, 1) := by decide +kernel
theorem dX8_week_17 : decode cX8_week 17 = .ok (.iaload, 1) := by decide +kernel
theorem dX8_week_18 : decode cX8_week 18 = .ok (.isub, 1) := by decide +kernel
theorem dX8_week_19 : decode cX8_week 19 = .ok (.iconst 0, 1) := by decide +kernel
theorem dX8_week_20 : decode cX8_week 20 = .ok (.bipush 9, 2) := by decide +kernel
theorem dX8_week_22 : decode cX8_week 22 = .ok (.invokestatic 100, 3) := by decide +kernel
theorem dX8_week_25 : decode cX8_week 25 = .ok (.iastore, 1) := by decide +kernel
theorem dX8_week_26 : decode cX8_week 26 = .ok (.bipush 11, 2) := by decide +kernel
theorem dX8_week_28 : decode cX8_week 28 = .ok (.istore_n 1, 1) := by decide +kernel
theorem dX8_week_29 : decode cX8_week 29 = .ok (.iload_n 1, 1) := by decide +kernel
theorem dX8_week_30 : decode cX8_week 30 = .ok (.ifCond .lt 42, 3) := by decide +kernel
theorem dX8_week_33 : decode cX8_week 33 = .ok (.iconst 0, 1) := by decide +kernel
theorem dX8_week_34 : decode cX8_week 34 = .ok (.istore_n 2, 1) := by decide +kernel
theorem dX8_week_35 : decode cX8_week 35 = .ok (.iload_n 2, 1) := by decide +kernel
theorem dX8_week_36 : decode cX8_week 36 = .ok (.aload_n 0, 1) := by decide +kernel
theorem dX8_week_37 : decode cX8_week 37 = .ok (.getfield 9, 3) := by decide +kernel
theorem dX8_week_40 : decode cX8_week 40 = .ok (.iconst 1, 1) := by decide +kernel
theorem dX8_week_41 : decode cX8_week 41 = .ok (.iaload, 1) := by decide +kernel
theorem dX8_week_42 : decode cX8_week 42 = .ok (.if_icmp .ge 24, 3) := by decide +kernel
theorem dX8_week_45 : decode cX8_week 45 = .ok (.aload_n 0, 1) := by decide +kernel
theorem dX8_week_46 : decode cX8_week 46 = .ok (.iload_n 2, 1) := by decide +kernel
theorem dX8_week_47 : decode cX8_week 47 = .ok (.iconst 3, 1) := by decide +kernel
theorem dX8_week_48 : decode cX8_week 48 = .ok (.invokevirtual 93, 3) := by decide +kernel
theorem dX8_week_51 : decode cX8_week 51 = .ok (.iload_n 1, 1) := by decide +kernel
theorem dX8_week_52 : decode cX8_week 52 = .ok (.if_icmp .ne 8, 3) := by decide +kernel
theorem dX8_week_55 : decode cX8_week 55 = .ok (.aload_n 0, 1) := by decide +kernel
theorem dX8_week_56 : decode cX8_week 56 = .ok (.iload_n 2, 1) := by decide +kernel
theorem dX8_week_57 : decode cX8_week 57 = .ok (.invokevirtual 136, 3) := by decide +kernel
theorem dX8_week_60 : decode cX8_week 60 = .ok (.iinc 2 1, 3) := by decide +kernel
theorem dX8_week_63 : decode cX8_week 63 = .ok (.goto (-28), 3) := by decide +kernel
theorem dX8_week_66 : decode cX8_week 66 = .ok (.iinc 1 (-1), 3) := by decide +kernel
theorem dX8_week_69 : decode cX8_week 69 = .ok (.goto (-40), 3) := by decide +kernel
theorem dX8_week_72 : decode cX8_week 72 = .ok (.aload_n 0, 1) := by decide +kernel
theorem dX8_week_73 : decode cX8_week 73 = .ok (.getfield 9, 3) := by decide +kernel
theorem dX8_week_76 : decode cX8_week 76 = .ok (.iconst 5, 1) := by decide +kernel
theorem dX8_week_77 : decode cX8_week 77 = .ok (.iaload, 1) := by decide +kernel
theorem dX8_week_78 : decode cX8_week 78 = .ok (.ifCond .le 16, 3) := by decide +kernel
theorem dX8_week_81 : decode cX8_week 81 = .ok (.aload_n 0, 1) := by decide +kernel
theorem dX8_week_82 : decode cX8_week 82 = .ok (.getfield 9, 3) := by decide +kernel
theorem dX8_week_85 : decode cX8_week 85 = .ok (.iconst 1, 1) := by decide +kernel
theorem dX8_week_86 : decode cX8_week 86 = .ok (.iaload, 1) := by decide +kernel
theorem dX8_week_87 : decode cX8_week 87 = .ok (.ifCond .le 7, 3) := by decide +kernel
theorem dX8_week_90 : decode cX8_week 90 = .ok (.aload_n 0, 1) := by decide +kernel
theorem dX8_week_91 : decode cX8_week 91 = .ok (.invokevirtual 140, 3) := by decide +kernel
theorem dX8_week_94 : decode cX8_week 94 = .ok (.aload_n 0, 1) := by decide +kernel
theorem dX8_week_95 : decode cX8_week 95 = .ok (.getfield 9, 3) := by decide +kernel
theorem dX8_week_98 : decode cX8_week 98 = .ok (.iconst 2, 1) := by decide +kernel
theorem dX8_week_99 : decode cX8_week 99 = .ok (.dup2, 1) := by decide +kernel
theorem dX8_week_100 : decode cX8_week 100 = .ok (.iaload, 1) := by decide +kernel
theorem dX8_week_101 : decode cX8_week 101 = .ok (.iconst 1, 1) := by decide +kernel
theorem dX8_week_102 : decode cX8_week 102 = .ok (.iadd, 1) := by decide +kernel
theorem dX8_week_103 : decode cX8_week 103 = .ok (.iastore, 1) := by decide +kernel
theorem dX8_week_104 : decode cX8_week 104 = .ok (.return_, 1) := by decide +kernel
theorem dX8_goesOn_0 : decode cX8_goesOn 0 = .ok (.iconst 0, 1) := by decide +kernel
theorem dX8_goesOn_1 : decode cX8_goesOn 1 = .ok (.istore_n 2, 1) := by decide +kernel
theorem dX8_goesOn_2 : decode cX8_goesOn 2 = .ok (.iload_n 2, 1) := by decide +kernel
theorem dX8_goesOn_3 : decode cX8_goesOn 3 = .ok (.iload_n 1, 1) := by decide +kernel
theorem dX8_goesOn_4 : decode cX8_goesOn 4 = .ok (.if_icmp .ge 13, 3) := by decide +kernel
theorem dX8_goesOn_7 : decode cX8_goesOn 7 = .ok (.aload_n 0, 1) := by decide +kernel
theorem dX8_goesOn_8 : decode cX8_goesOn 8 = .ok (.invokevirtual 143, 3) := by decide +kernel
theorem dX8_goesOn_11 : decode cX8_goesOn 11 = .ok (.iinc 2 1, 3) := by decide +kernel
theorem dX8_goesOn_14 : decode cX8_goesOn 14 = .ok (.goto (-12), 3) := by decide +kernel
theorem dX8_goesOn_17 : decode cX8_goesOn 17 = .ok (.return_, 1) := by decide +kernel
theorem dX8_weeks_0 : decode cX8_weeks 0 = .ok (.iload_n 1, 1) := by decide +kernel
theorem dX8_weeks_1 : decode cX8_weeks 1 = .ok (.iconst 1, 1) := by decide +kernel
theorem dX8_weeks_2 : decode cX8_weeks 2 = .ok (.bipush 60, 2) := by decide +kernel
theorem dX8_weeks_4 : decode cX8_weeks 4 = .ok (.invokestatic 75, 3) := by decide +kernel
theorem dX8_weeks_7 : decode cX8_weeks 7 = .ok (.ifCond .ne 6, 3) := by decide +kernel
theorem dX8_weeks_10 : decode cX8_weeks 10 = .ok (.ldc 83, 2) := by decide +kernel
theorem dX8_weeks_12 : decode cX8_weeks 12 = .ok (.ireturn, 1) := by decide +kernel
theorem dX8_weeks_13 : decode cX8_weeks 13 = .ok (.aload_n 0, 1) := by decide +kernel
theorem dX8_weeks_14 : decode cX8_weeks 14 = .ok (.bipush 12, 2) := by decide +kernel
theorem dX8_weeks_16 : decode cX8_weeks 16 = .ok (.invokevirtual 133, 3) := by decide +kernel
theorem dX8_weeks_19 : decode cX8_weeks 19 = .ok (.istore_n 2, 1) := by decide +kernel
theorem dX8_weeks_20 : decode cX8_weeks 20 = .ok (.aload_n 0, 1) := by decide +kernel
theorem dX8_weeks_21 : decode cX8_weeks 21 = .ok (.sipush 9999, 3) := by decide +kernel
theorem dX8_weeks_24 : decode cX8_weeks 24 = .ok (.aload_n 0, 1) := by decide +kernel
theorem dX8_weeks_25 : decode cX8_weeks 25 = .ok (.getfield 9, 3) := by decide +kernel
theorem dX8_weeks_28 : decode cX8_weeks 28 = .ok (.iconst 2, 1) := by decide +kernel
theorem dX8_weeks_29 : decode cX8_weeks 29 = .ok (.iaload, 1) := by decide +kernel
theorem dX8_weeks_30 : decode cX8_weeks 30 = .ok (.isub, 1) := by decide +kernel
theorem dX8_weeks_31 : decode cX8_weeks 31 = .ok (.iconst 0, 1) := by decide +kernel
theorem dX8_weeks_32 : decode cX8_weeks 32 = .ok (.iload_n 1, 1) := by decide +kernel
theorem dX8_weeks_33 : decode cX8_weeks 33 = .ok (.invokestatic 100, 3) := by decide +kernel
theorem dX8_weeks_36 : decode cX8_weeks 36 = .ok (.invokevirtual 146, 3) := by decide +kernel
theorem dX8_weeks_39 : decode cX8_weeks 39 = .ok (.aload_n 0, 1) := by decide +kernel
theorem dX8_weeks_40 : decode cX8_weeks 40 = .ok (.bipush 12, 2) := by decide +kernel
theorem dX8_weeks_42 : decode cX8_weeks 42 = .ok (.invokevirtual 133, 3) := by decide +kernel
theorem dX8_weeks_45 : decode cX8_weeks 45 = .ok (.iload_n 2, 1) := by decide +kernel
theorem dX8_weeks_46 : decode cX8_weeks 46 = .ok (.isub, 1) := by decide +kernel
theorem dX8_weeks_47 : decode cX8_weeks 47 = .ok (.ireturn, 1) := by decide +kernel
theorem dX8_read_0 : decode cX8_read 0 = .ok (.iload_n 1, 1) := by decide +kernel
theorem dX8_read_1 : decode cX8_read 1 = .ok (.iconst (-1), 1) := by decide +kernel
theorem dX8_read_2 : decode cX8_read 2 = .ok (.bipush 11, 2) := by decide +kernel
theorem dX8_read_4 : decode cX8_read 4 = .ok (.invokestatic 75, 3) := by decide +kernel
theorem dX8_read_7 : decode cX8_read 7 = .ok (.ifCond .ne 6, 3) := by decide +kernel
theorem dX8_read_10 : decode cX8_read 10 = .ok (.ldc 83, 2) := by decide +kernel
theorem dX8_read_12 : decode cX8_read 12 = .ok (.ireturn, 1) := by decide +kernel
theorem dX8_read_13 : decode cX8_read 13 = .ok (.iload_n 1, 1) := by decide +kernel
theorem dX8_read_14 : decode cX8_read 14 = .ok (.ifCond .ge 10, 3) := by decide +kernel
theorem dX8_read_17 : decode cX8_read 17 = .ok (.aload_n 0, 1) := by decide +kernel
theorem dX8_read_18 : decode cX8_read 18 = .ok (.bipush 12, 2) := by decide +kernel
theorem dX8_read_20 : decode cX8_read 20 = .ok (.invokevirtual 133, 3) := by decide +kernel
theorem dX8_read_23 : decode cX8_read 23 = .ok (.ireturn, 1) := by decide +kernel
theorem dX8_read_24 : decode cX8_read 24 = .ok (.ldc 149, 2) := by decide +kernel
theorem dX8_read_26 : decode cX8_read 26 = .ok (.istore_n 2, 1) := by decide +kernel
theorem dX8_read_27 : decode cX8_read 27 = .ok (.iconst 0, 1) := by decide +kernel
theorem dX8_read_28 : decode cX8_read 28 = .ok (.istore_n 3, 1) := by decide +kernel
theorem dX8_read_29 : decode cX8_read 29 = .ok (.iload_n 3, 1) := by decide +kernel
theorem dX8_read_30 : decode cX8_read 30 = .ok (.aload_n 0, 1) := by decide +kernel
theorem dX8_read_31 : decode cX8_read 31 = .ok (.getfield 9, 3) := by decide +kernel
theorem dX8_read_34 : decode cX8_read 34 = .ok (.iconst 1, 1) := by decide +kernel
theorem dX8_read_35 : decode cX8_read 35 = .ok (.iaload, 1) := by decide +kernel
theorem dX8_read_36 : decode cX8_read 36 = .ok (.if_icmp .ge 32, 3) := by decide +kernel
theorem dX8_read_39 : decode cX8_read 39 = .ok (.aload_n 0, 1) := by decide +kernel
theorem dX8_read_40 : decode cX8_read 40 = .ok (.iload_n 3, 1) := by decide +kernel
theorem dX8_read_41 : decode cX8_read 41 = .ok (.iconst 4, 1) := by decide +kernel
theorem dX8_read_42 : decode cX8_read 42 = .ok (.invokevirtual 93, 3) := by decide +kernel
theorem dX8_read_45 : decode cX8_read 45 = .ok (.iload_n 1, 1) := by decide +kernel
theorem dX8_read_46 : decode cX8_read 46 = .ok (.iconst 1, 1) := by decide +kernel
theorem dX8_read_47 : decode cX8_read 47 = .ok (.iadd, 1) := by decide +kernel
theorem dX8_read_48 : decode cX8_read 48 = .ok (.if_icmp .ne 12, 3) := by decide +kernel
theorem dX8_read_51 : decode cX8_read 51 = .ok (.aload_n 0, 1) := by decide +kernel
theorem dX8_read_52 : decode cX8_read 52 = .ok (.iload_n 3, 1) := by decide +kernel
theorem dX8_read_53 : decode cX8_read 53 = .ok (.iconst 1, 1) := by decide +kernel
theorem dX8_read_54 : decode cX8_read 54 = .ok (.invokevirtual 93, 3) := by decide +kernel
theorem dX8_read_57 : decode cX8_read 57 = .ok (.goto 4, 3) := by decide +kernel
theorem dX8_read_60 : decode cX8_read 60 = .ok (.iload_n 2, 1) := by decide +kernel
theorem dX8_read_61 : decode cX8_read 61 = .ok (.istore_n 2, 1) := by decide +kernel
theorem dX8_read_62 : decode cX8_read 62 = .ok (.iinc 3 1, 3) := by decide +kernel
theorem dX8_read_65 : decode cX8_read 65 = .ok (.goto (-36), 3) := by decide +kernel
theorem dX8_read_68 : decode cX8_read 68 = .ok (.iload_n 2, 1) := by decide +kernel
theorem dX8_read_69 : decode cX8_read 69 = .ok (.ireturn, 1) := by decide +kernel
theorem dX8_spelt_0 : decode cX8_spelt 0 = .ok (.iconst 0, 1) := by decide +kernel
theorem dX8_spelt_1 : decode cX8_spelt 1 = .ok (.istore_n 1, 1) := by decide +kernel
theorem dX8_spelt_2 : decode cX8_spelt 2 = .ok (.iconst 0, 1) := by decide +kernel
theorem dX8_spelt_3 : decode cX8_spelt 3 = .ok (.istore_n 2, 1) := by decide +kernel
theorem dX8_spelt_4 : decode cX8_spelt 4 = .ok (.iload_n 2, 1) := by decide +kernel
theorem dX8_spelt_5 : decode cX8_spelt 5 = .ok (.bipush 26, 2) := by decide +kernel
theorem dX8_spelt_7 : decode cX8_spelt 7 = .ok (.if_icmp .ge 129, 3) := by decide +kernel
theorem dX8_spelt_10 : decode cX8_spelt 10 = .ok (.iconst 0, 1) := by decide +kernel
theorem dX8_spelt_11 : decode cX8_spelt 11 = .ok (.istore_n 3, 1) := by decide +kernel
theorem dX8_spelt_12 : decode cX8_spelt 12 = .ok (.iconst 0, 1) := by decide +kernel
theorem dX8_spelt_13 : decode cX8_spelt 13 = .ok (.istore 4, 2) := by decide +kernel
theorem dX8_spelt_15 : decode cX8_spelt 15 = .ok (.iload 4, 2) := by decide +kernel
theorem dX8_spelt_17 : decode cX8_spelt 17 = .ok (.aload_n 0, 1) := by decide +kernel
theorem dX8_spelt_18 : decode cX8_spelt 18 = .ok (.getfield 9, 3) := by decide +kernel
theorem dX8_spelt_21 : decode cX8_spelt 21 = .ok (.bipush 7, 2) := by decide +kernel
theorem dX8_spelt_23 : decode cX8_spelt 23 = .ok (.iaload, 1) := by decide +kernel
theorem dX8_spelt_24 : decode cX8_spelt 24 = .ok (.if_icmp .ge 31, 3) := by decide +kernel
theorem dX8_spelt_27 : decode cX8_spelt 27 = .ok (.iload_n 3, 1) := by decide +kernel
theorem dX8_spelt_28 : decode cX8_spelt 28 = .ok (.aload_n 0, 1) := by decide +kernel
theorem dX8_spelt_29 : decode cX8_spelt 29 = .ok (.getfield 9, 3) := by decide +kernel
theorem dX8_spelt_32 : decode cX8_spelt 32 = .ok (.bipush 9, 2) := by decide +kernel
theorem dX8_spelt_34 : decode cX8_spelt 34 = .ok (.iload 4, 2) := by decide +kernel
theorem dX8_spelt_36 : decode cX8_spelt 36 = .ok (.iadd, 1) := by decide +kernel
theorem dX8_spelt_37 : decode cX8_spelt 37 = .ok (.iaload, 1) := by decide +kernel
theorem dX8_spelt_38 : decode cX8_spelt 38 = .ok (.iload_n 2, 1) := by decide +kernel
theorem dX8_spelt_39 : decode cX8_spelt 39 = .ok (.if_icmp .ne 7, 3) := by decide +kernel
theorem dX8_spelt_42 : decode cX8_spelt 42 = .ok (.iconst 1, 1) := by decide +kernel
theorem dX8_spelt_43 : decode cX8_spelt 43 = .ok (.goto 4, 3) := by decide +kernel
theorem dX8_spelt_46 : decode cX8_spelt 46 = .ok (.iconst 0, 1) := by decide +kernel
theorem dX8_spelt_47 : decode cX8_spelt 47 = .ok (.iadd, 1) := by decide +kernel
theorem dX8_spelt_48 : decode cX8_spelt 48 = .ok (.istore_n 3, 1) := by decide +kernel
theorem dX8_spelt_49 : decode cX8_spelt 49 = .ok (.iinc 4 1, 3) := by decide +kernel
theorem dX8_spelt_52 : decode cX8_spelt 52 = .ok (.goto (-37), 3) := by decide +kernel
theorem dX8_spelt_55 : decode cX8_spelt 55 = .ok (.iconst 0, 1) := by decide +kernel
theorem dX8_spelt_56 : decode cX8_spelt 56 = .ok (.istore 4, 2) := by decide +kernel
theorem dX8_spelt_58 : decode cX8_spelt 58 = .ok (.iconst 0, 1) := by decide +kernel
theorem dX8_spelt_59 : decode cX8_spelt 59 = .ok (.istore 5, 2) := by decide +kernel
theorem dX8_spelt_61 : decode cX8_spelt 61 = .ok (.iload 5, 2) := by decide +kernel
theorem dX8_spelt_63 : decode cX8_spelt 63 = .ok (.aload_n 0, 1) := by decide +kernel
theorem dX8_spelt_64 : decode cX8_spelt 64 = .ok (.getfield 9, 3) := by decide +kernel
theorem dX8_spelt_67 : decode cX8_spelt 67 = .ok (.iconst 1, 1) := by decide +kernel
theorem dX8_spelt_68 : decode cX8_spelt 68 = .ok (.iaload, 1) := by decide +kernel
theorem dX8_spelt_69 : decode cX8_spelt 69 = .ok (.if_icmp .ge 46, 3) := by decide +kernel
theorem dX8_spelt_72 : decode cX8_spelt 72 = .ok (.iload_n 3, 1) := by decide +kernel
theorem dX8_spelt_73 : decode cX8_spelt 73 = .ok (.ifCond .le 42, 3) := by decide +kernel
theorem dX8_spelt_76 : decode cX8_spelt 76 = .ok (.iload 4, 2) := by decide +kernel
theorem dX8_spelt_78 : decode cX8_spelt 78 = .ok (.aload_n 0, 1) := by decide +kernel
theorem dX8_spelt_79 : decode cX8_spelt 79 = .ok (.iload 5, 2) := by decide +kernel
theorem dX8_spelt_81 : decode cX8_spelt 81 = .ok (.iconst 3, 1) := by decide +kernel
theorem dX8_spelt_82 : decode cX8_spelt 82 = .ok (.invokevirtual 93, 3) := by decide +kernel
theorem dX8_spelt_85 : decode cX8_spelt 85 = .ok (.bipush 12, 2) := by decide +kernel
theorem dX8_spelt_87 : decode cX8_spelt 87 = .ok (.if_icmp .ne 18, 3) := by decide +kernel
theorem dX8_spelt_90 : decode cX8_spelt 90 = .ok (.aload_n 0, 1) := by decide +kernel
theorem dX8_spelt_91 : decode cX8_spelt 91 = .ok (.iload 5, 2) := by decide +kernel
theorem dX8_spelt_93 : decode cX8_spelt 93 = .ok (.iconst 1, 1) := by decide +kernel
theorem dX8_spelt_94 : decode cX8_spelt 94 = .ok (.invokevirtual 93, 3) := by decide +kernel
theorem dX8_spelt_97 : decode cX8_spelt 97 = .ok (.iload_n 2, 1) := by decide +kernel
theorem dX8_spelt_98 : decode cX8_spelt 98 = .ok (.if_icmp .ne 7, 3) := by decide +kernel
theorem dX8_spelt_101 : decode cX8_spelt 101 = .ok (.iconst 1, 1) := by decide +kernel
theorem dX8_spelt_102 : decode cX8_spelt 102 = .ok (.goto 4, 3) := by decide +kernel
theorem dX8_spelt_105 : decode cX8_spelt 105 = .ok (.iconst 0, 1) := by decide +kernel
theorem dX8_spelt_106 : decode cX8_spelt 106 = .ok (.iadd, 1) := by decide +kernel
theorem dX8_spelt_107 : decode cX8_spelt 107 = .ok (.istore 4, 2) := by decide +kernel
theorem dX8_spelt_109 : decode cX8_spelt 109 = .ok (.iinc 5 1, 3) := by decide +kernel
theorem dX8_spelt_112 : decode cX8_spelt 112 = .ok (.goto (-51), 3) := by decide +kernel
theorem dX8_spelt_115 : decode cX8_spelt 115 = .ok (.iload_n 1, 1) := by decide +kernel
theorem dX8_spelt_116 : decode cX8_spelt 116 = .ok (.iload 4, 2) := by decide +kernel
theorem dX8_spelt_118 : decode cX8_spelt 118 = .ok (.iload_n 3, 1) := by decide +kernel
theorem dX8_spelt_119 : decode cX8_spelt 119 = .ok (.if_icmp .ge 8, 3) := by decide +kernel
theorem dX8_spelt_122 : decode cX8_spelt 122 = .ok (.iload 4, 2) := by decide +kernel
theorem dX8_spelt_124 : decode cX8_spelt 124 = .ok (.goto 4, 3) := by decide +kernel
theorem dX8_spelt_127 : decode cX8_spelt 127 = .ok (.iload_n 3, 1) := by decide +kernel
theorem dX8_spelt_128 : decode cX8_spelt 128 = .ok (.iadd, 1) := by decide +kernel
theorem dX8_spelt_129 : decode cX8_spelt 129 = .ok (.istore_n 1, 1) := by decide +kernel
theorem dX8_spelt_130 : decode cX8_spelt 130 = .ok (.iinc 2 1, 3) := by decide +kernel
theorem dX8_spelt_133 : decode cX8_spelt 133 = .ok (.goto (-129), 3) := by decide +kernel
theorem dX8_spelt_136 : decode cX8_spelt 136 = .ok (.iload_n 1, 1) := by decide +kernel
theorem dX8_spelt_137 : decode cX8_spelt 137 = .ok (.ireturn, 1) := by decide +kernel
theorem dX8_jam_0 : decode cX8_jam 0 = .ok (.iconst 0, 1) := by decide +kernel
theorem dX8_jam_1 : decode cX8_jam 1 = .ok (.istore_n 1, 1) := by decide +kernel
theorem dX8_jam_2 : decode cX8_jam 2 = .ok (.iconst 0, 1) := by decide +kernel
theorem dX8_jam_3 : decode cX8_jam 3 = .ok (.istore_n 2, 1) := by decide +kernel
theorem dX8_jam_4 : decode cX8_jam 4 = .ok (.iload_n 2, 1) := by decide +kernel
theorem dX8_jam_5 : decode cX8_jam 5 = .ok (.bipush 12, 2) := by decide +kernel
theorem dX8_jam_7 : decode cX8_jam 7 = .ok (.if_icmp .ge 36, 3) := by decide +kernel
theorem dX8_jam_10 : decode cX8_jam 10 = .ok (.aload_n 0, 1) := by decide +kernel
theorem dX8_jam_11 : decode cX8_jam 11 = .ok (.iload_n 2, 1) := by decide +kernel
theorem dX8_jam_12 : decode cX8_jam 12 = .ok (.invokevirtual 133, 3) := by decide +kernel
theorem dX8_jam_15 : decode cX8_jam 15 = .ok (.istore_n 3, 1) := by decide +kernel
theorem dX8_jam_16 : decode cX8_jam 16 = .ok (.iload_n 1, 1) := by decide +kernel
theorem dX8_jam_17 : decode cX8_jam 17 = .ok (.iload_n 3, 1) := by decide +kernel
theorem dX8_jam_18 : decode cX8_jam 18 = .ok (.aload_n 0, 1) := by decide +kernel
theorem dX8_jam_19 : decode cX8_jam 19 = .ok (.getfield 9, 3) := by decide +kernel
theorem dX8_jam_22 : decode cX8_jam 22 = .ok (.bipush 21, 2) := by decide +kernel
theorem dX8_jam_24 : decode cX8_jam 24 = .ok (.iload_n 2, 1) := by decide +kernel
theorem dX8_jam_25 : decode cX8_jam 25 = .ok (.iadd, 1) := by decide +kernel
theorem dX8_jam_26 : decode cX8_jam 26 = .ok (.iaload, 1) := by decide +kernel
theorem dX8_jam_27 : decode cX8_jam 27 = .ok (.if_icmp .ge 7, 3) := by decide +kernel
theorem dX8_jam_30 : decode cX8_jam 30 = .ok (.iconst 0, 1) := by decide +kernel
theorem dX8_jam_31 : decode cX8_jam 31 = .ok (.goto 4, 3) := by decide +kernel
theorem dX8_jam_34 : decode cX8_jam 34 = .ok (.iload_n 3, 1) := by decide +kernel
theorem dX8_jam_35 : decode cX8_jam 35 = .ok (.iadd, 1) := by decide +kernel
theorem dX8_jam_36 : decode cX8_jam 36 = .ok (.istore_n 1, 1) := by decide +kernel
theorem dX8_jam_37 : decode cX8_jam 37 = .ok (.iinc 2 1, 3) := by decide +kernel
theorem dX8_jam_40 : decode cX8_jam 40 = .ok (.goto (-36), 3) := by decide +kernel
theorem dX8_jam_43 : decode cX8_jam 43 = .ok (.iload_n 1, 1) := by decide +kernel
theorem dX8_jam_44 : decode cX8_jam 44 = .ok (.ireturn, 1) := by decide +kernel
theorem dX8_river_0 : decode cX8_river 0 = .ok (.iload_n 1, 1) := by decide +kernel
theorem dX8_river_1 : decode cX8_river 1 = .ok (.tableswitch 103 0 4 #[35, 40, 45, 53, 60], 35) := by decide +kernel
theorem dX8_river_36 : decode cX8_river 36 = .ok (.aload_n 0, 1) := by decide +kernel
theorem dX8_river_37 : decode cX8_river 37 = .ok (.invokevirtual 150, 3) := by decide +kernel
theorem dX8_river_40 : decode cX8_river 40 = .ok (.ireturn, 1) := by decide +kernel
theorem dX8_river_41 : decode cX8_river 41 = .ok (.aload_n 0, 1) := by decide +kernel
theorem dX8_river_42 : decode cX8_river 42 = .ok (.invokevirtual 153, 3) := by decide +kernel
theorem dX8_river_45 : decode cX8_river 45 = .ok (.ireturn, 1) := by decide +kernel
theorem dX8_river_46 : decode cX8_river 46 = .ok (.aload_n 0, 1) := by decide +kernel
theorem dX8_river_47 : decode cX8_river 47 = .ok (.getfield 9, 3) := by decide +kernel
theorem dX8_river_50 : decode cX8_river 50 = .ok (.bipush 6, 2) := by decide +kernel
theorem dX8_river_52 : decode cX8_river 52 = .ok (.iaload, 1) := by decide +kernel
theorem dX8_river_53 : decode cX8_river 53 = .ok (.ireturn, 1) := by decide +kernel
theorem dX8_river_54 : decode cX8_river 54 = .ok (.aload_n 0, 1) := by decide +kernel
theorem dX8_river_55 : decode cX8_river 55 = .ok (.bipush 12, 2) := by decide +kernel
theorem dX8_river_57 : decode cX8_river 57 = .ok (.invokevirtual 133, 3) := by decide +kernel
theorem dX8_river_60 : decode cX8_river 60 = .ok (.ireturn, 1) := by decide +kernel
theorem dX8_river_61 : decode cX8_river 61 = .ok (.iconst 0, 1) := by decide +kernel
theorem dX8_river_62 : decode cX8_river 62 = .ok (.istore_n 2, 1) := by decide +kernel
theorem dX8_river_63 : decode cX8_river 63 = .ok (.iconst 0, 1) := by decide +kernel
theorem dX8_river_64 : decode cX8_river 64 = .ok (.istore_n 3, 1) := by decide +kernel
theorem dX8_river_65 : decode cX8_river 65 = .ok (.iload_n 3, 1) := by decide +kernel
theorem dX8_river_66 : decode cX8_river 66 = .ok (.aload_n 0, 1) := by decide +kernel
theorem dX8_river_67 : decode cX8_river 67 = .ok (.getfield 9, 3) := by decide +kernel
theorem dX8_river_70 : decode cX8_river 70 = .ok (.iconst 1, 1) := by decide +kernel
theorem dX8_river_71 : decode cX8_river 71 = .ok (.iaload, 1) := by decide +kernel
theorem dX8_river_72 : decode cX8_river 72 = .ok (.if_icmp .ge 30, 3) := by decide +kernel
theorem dX8_river_75 : decode cX8_river 75 = .ok (.iload_n 2, 1) := by decide +kernel
theorem dX8_river_76 : decode cX8_river 76 = .ok (.aload_n 0, 1) := by decide +kernel
theorem dX8_river_77 : decode cX8_river 77 = .ok (.iload_n 3, 1) := by decide +kernel
theorem dX8_river_78 : decode cX8_river 78 = .ok (.iconst 3, 1) := by decide +kernel
theorem dX8_river_79 : decode cX8_river 79 = .ok (.invokevirtual 93, 3) := by decide +kernel
theorem dX8_river_82 : decode cX8_river 82 = .ok (.bipush 12, 2) := by decide +kernel
theorem dX8_river_84 : decode cX8_river 84 = .ok (.if_icmp .ge 9, 3) := by decide +kernel
theorem dX8_river_87 : decode cX8_river 87 = .ok (.iconst 1, 1) := by decide +kernel
theorem dX8_river_88 : decode cX8_river 88 = .ok (.iload_n 3, 1) := by decide +kernel
theorem dX8_river_89 : decode cX8_river 89 = .ok (.ishl, 1) := by decide +kernel
theorem dX8_river_90 : decode cX8_river 90 = .ok (.goto 4, 3) := by decide +kernel
theorem dX8_river_93 : decode cX8_river 93 = .ok (.iconst 0, 1) := by decide +kernel
theorem dX8_river_94 : decode cX8_river 94 = .ok (.ior, 1) := by decide +kernel
theorem dX8_river_95 : decode cX8_river 95 = .ok (.istore_n 2, 1) := by decide +kernel
theorem dX8_river_96 : decode cX8_river 96 = .ok (.iinc 3 1, 3) := by decide +kernel
theorem dX8_river_99 : decode cX8_river 99 = .ok (.goto (-34), 3) := by decide +kernel
theorem dX8_river_102 : decode cX8_river 102 = .ok (.iload_n 2, 1) := by decide +kernel
theorem dX8_river_103 : decode cX8_river 103 = .ok (.ireturn, 1) := by decide +kernel
theorem dX8_river_104 : decode cX8_river 104 = .ok (.ldc 83, 2) := by decide +kernel
theorem dX8_river_106 : decode cX8_river 106 = .ok (.ireturn, 1) := by decide +kernel
theorem dX8_thinks_0 : decode cX8_thinks 0 = .ok (.iconst 0, 1) := by decide +kernel
theorem dX8_thinks_1 : decode cX8_thinks 1 = .ok (.istore_n 1, 1) := by decide +kernel
theorem dX8_thinks_2 : decode cX8_thinks 2 = .ok (.iload_n 1, 1) := by decide +kernel
theorem dX8_thinks_3 : decode cX8_thinks 3 = .ok (.bipush 105, 2) := by decide +kernel
theorem dX8_thinks_5 : decode cX8_thinks 5 = .ok (.if_icmp .ge 21, 3) := by decide +kernel
theorem dX8_thinks_8 : decode cX8_thinks 8 = .ok (.aload_n 0, 1) := by decide +kernel
theorem dX8_thinks_9 : decode cX8_thinks 9 = .ok (.getfield 19, 3) := by decide +kernel
theorem dX8_thinks_12 : decode cX8_thinks 12 = .ok (.iload_n 1, 1) := by decide +kernel
theorem dX8_thinks_13 : decode cX8_thinks 13 = .ok (.aload_n 0, 1) := by decide +kernel
theorem dX8_thinks_14 : decode cX8_thinks 14 = .ok (.getfield 9, 3) := by decide +kernel
theorem dX8_thinks_17 : decode cX8_thinks 17 = .ok (.iload_n 1, 1) := by decide +kernel
theorem dX8_thinks_18 : decode cX8_thinks 18 = .ok (.iaload, 1) := by decide +kernel
theorem dX8_thinks_19 : decode cX8_thinks 19 = .ok (.iastore, 1) := by decide +kernel
theorem dX8_thinks_20 : decode cX8_thinks 20 = .ok (.iinc 1 1, 3) := by decide +kernel
theorem dX8_thinks_23 : decode cX8_thinks 23 = .ok (.goto (-21), 3) := by decide +kernel
theorem dX8_thinks_26 : decode cX8_thinks 26 = .ok (.return_, 1) := by decide +kernel
theorem dX8_putsBack_0 : decode cX8_putsBack 0 = .ok (.iconst 0, 1) := by decide +kernel
theorem dX8_putsBack_1 : decode cX8_putsBack 1 = .ok (.istore_n 1, 1) := by decide +kernel
theorem dX8_putsBack_2 : decode cX8_putsBack 2 = .ok (.iload_n 1, 1) := by decide +kernel
theorem dX8_putsBack_3 : decode cX8_putsBack 3 = .ok (.bipush 105, 2) := by decide +kernel
theorem dX8_putsBack_5 : decode cX8_putsBack 5 = .ok (.if_icmp .ge 21, 3) := by decide +kernel
theorem dX8_putsBack_8 : decode cX8_putsBack 8 = .ok (.aload_n 0, 1) := by decide +kernel
theorem dX8_putsBack_9 : decode cX8_putsBack 9 = .ok (.getfield 9, 3) := by decide +kernel
theorem dX8_putsBack_12 : decode cX8_putsBack 12 = .ok (.iload_n 1, 1) := by decide +kernel
theorem dX8_putsBack_13 : decode cX8_putsBack 13 = .ok (.aload_n 0, 1) := by decide +kernel
theorem dX8_putsBack_14 : decode cX8_putsBack 14 = .ok (.getfield 19, 3) := by decide +kernel
theorem dX8_putsBack_17 : decode cX8_putsBack 17 = .ok (.iload_n 1, 1) := by decide +kernel
theorem dX8_putsBack_18 : decode cX8_putsBack 18 = .ok (.iaload, 1) := by decide +kernel
theorem dX8_putsBack_19 : decode cX8_putsBack 19 = .ok (.iastore, 1) := by decide +kernel
theorem dX8_putsBack_20 : decode cX8_putsBack 20 = .ok (.iinc 1 1, 3) := by decide +kernel
theorem dX8_putsBack_23 : decode cX8_putsBack 23 = .ok (.goto (-21), 3) := by decide +kernel
theorem dX8_putsBack_26 : decode cX8_putsBack 26 = .ok (.return_, 1) := by decide +kernel
theorem dX8_behind_0 : decode cX8_behind 0 = .ok (.iload_n 1, 1) := by decide +kernel
theorem dX8_behind_1 : decode cX8_behind 1 = .ok (.iconst 0, 1) := by decide +kernel
theorem dX8_behind_2 : decode cX8_behind 2 = .ok (.bipush 60, 2) := by decide +kernel
theorem dX8_behind_4 : decode cX8_behind 4 = .ok (.invokestatic 75, 3) := by decide +kernel
theorem dX8_behind_7 : decode cX8_behind 7 = .ok (.ifCond .eq 22, 3) := by decide +kernel
theorem dX8_behind_10 : decode cX8_behind 10 = .ok (.iload_n 2, 1) := by decide +kernel
theorem dX8_behind_11 : decode cX8_behind 11 = .ok (.ifCond .lt 18, 3) := by decide +kernel
theorem dX8_behind_14 : decode cX8_behind 14 = .ok (.iload_n 2, 1) := by decide +kernel
theorem dX8_behind_15 : decode cX8_behind 15 = .ok (.iconst 2, 1) := by decide +kernel
theorem dX8_behind_16 : decode cX8_behind 16 = .ok (.if_icmp .le 16, 3) := by decide +kernel
theorem dX8_behind_19 : decode cX8_behind 19 = .ok (.aload_n 0, 1) := by decide +kernel
theorem dX8_behind_20 : decode cX8_behind 20 = .ok (.iload_n 2, 1) := by decide +kernel
theorem dX8_behind_21 : decode cX8_behind 21 = .ok (.iconst 3, 1) := by decide +kernel
theorem dX8_behind_22 : decode cX8_behind 22 = .ok (.isub, 1) := by decide +kernel
theorem dX8_behind_23 : decode cX8_behind 23 = .ok (.invokevirtual 103, 3) := by decide +kernel
theorem dX8_behind_26 : decode cX8_behind 26 = .ok (.ifCond .ne 6, 3) := by decide +kernel
theorem dX8_behind_29 : decode cX8_behind 29 = .ok (.ldc 83, 2) := by decide +kernel
theorem dX8_behind_31 : decode cX8_behind 31 = .ok (.ireturn, 1) := by decide +kernel
theorem dX8_behind_32 : decode cX8_behind 32 = .ok (.aload_n 0, 1) := by decide +kernel
theorem dX8_behind_33 : decode cX8_behind 33 = .ok (.invokevirtual 156, 3) := by decide +kernel
theorem dX8_behind_36 : decode cX8_behind 36 = .ok (.aload_n 0, 1) := by decide +kernel
theorem dX8_behind_37 : decode cX8_behind 37 = .ok (.iload_n 1, 1) := by decide +kernel
theorem dX8_behind_38 : decode cX8_behind 38 = .ok (.invokevirtual 146, 3) := by decide +kernel
theorem dX8_behind_41 : decode cX8_behind 41 = .ok (.iload_n 2, 1) := by decide +kernel
theorem dX8_behind_42 : decode cX8_behind 42 = .ok (.ifCond .ne 12, 3) := by decide +kernel
theorem dX8_behind_45 : decode cX8_behind 45 = .ok (.aload_n 0, 1) := by decide +kernel
theorem dX8_behind_46 : decode cX8_behind 46 = .ok (.bipush 12, 2) := by decide +kernel
theorem dX8_behind_48 : decode cX8_behind 48 = .ok (.invokevirtual 133, 3) := by decide +kernel
theorem dX8_behind_51 : decode cX8_behind 51 = .ok (.goto 38, 3) := by decide +kernel
theorem dX8_behind_54 : decode cX8_behind 54 = .ok (.iload_n 2, 1) := by decide +kernel
theorem dX8_behind_55 : decode cX8_behind 55 = .ok (.iconst 1, 1) := by decide +kernel
theorem dX8_behind_56 : decode cX8_behind 56 = .ok (.if_icmp .ne 13, 3) := by decide +kernel
theorem dX8_behind_59 : decode cX8_behind 59 = .ok (.aload_n 0, 1) := by decide +kernel
theorem dX8_behind_60 : decode cX8_behind 60 = .ok (.getfield 9, 3) := by decide +kernel
theorem dX8_behind_63 : decode cX8_behind 63 = .ok (.bipush 6, 2) := by decide +kernel
theorem dX8_behind_65 : decode cX8_behind 65 = .ok (.iaload, 1) := by decide +kernel
theorem dX8_behind_66 : decode cX8_behind 66 = .ok (.goto 23, 3) := by decide +kernel
theorem dX8_behind_69 : decode cX8_behind 69 = .ok (.iload_n 2, 1) := by decide +kernel
theorem dX8_behind_70 : decode cX8_behind 70 = .ok (.iconst 2, 1) := by decide +kernel
theorem dX8_behind_71 : decode cX8_behind 71 = .ok (.if_icmp .ne 10, 3) := by decide +kernel
theorem dX8_behind_74 : decode cX8_behind 74 = .ok (.aload_n 0, 1) := by decide +kernel
theorem dX8_behind_75 : decode cX8_behind 75 = .ok (.invokevirtual 150, 3) := by decide +kernel
theorem dX8_behind_78 : decode cX8_behind 78 = .ok (.goto 11, 3) := by decide +kernel
theorem dX8_behind_81 : decode cX8_behind 81 = .ok (.aload_n 0, 1) := by decide +kernel
theorem dX8_behind_82 : decode cX8_behind 82 = .ok (.iload_n 2, 1) := by decide +kernel
theorem dX8_behind_83 : decode cX8_behind 83 = .ok (.iconst 3, 1) := by decide +kernel
theorem dX8_behind_84 : decode cX8_behind 84 = .ok (.isub, 1) := by decide +kernel
theorem dX8_behind_85 : decode cX8_behind 85 = .ok (.iconst 3, 1) := by decide +kernel
theorem dX8_behind_86 : decode cX8_behind 86 = .ok (.invokevirtual 93, 3) := by decide +kernel
theorem dX8_behind_89 : decode cX8_behind 89 = .ok (.istore_n 3, 1) := by decide +kernel
theorem dX8_behind_90 : decode cX8_behind 90 = .ok (.aload_n 0, 1) := by decide +kernel
theorem dX8_behind_91 : decode cX8_behind 91 = .ok (.invokevirtual 159, 3) := by decide +kernel
theorem dX8_behind_94 : decode cX8_behind 94 = .ok (.iload_n 3, 1) := by decide +kernel
theorem dX8_behind_95 : decode cX8_behind 95 = .ok (.ireturn, 1) := by decide +kernel
theorem dX8_whole_0 : decode cX8_whole 0 = .ok (.aload_n 0, 1) := by decide +kernel
theorem dX8_whole_1 : decode cX8_whole 1 = .ok (.invokevirtual 156, 3) := by decide +kernel
theorem dX8_whole_4 : decode cX8_whole 4 = .ok (.iconst 0, 1) := by decide +kernel
theorem dX8_whole_5 : decode cX8_whole 5 = .ok (.istore_n 1, 1) := by decide +kernel
theorem dX8_whole_6 : decode cX8_whole 6 = .ok (.iload_n 1, 1) := by decide +kernel
theorem dX8_whole_7 : decode cX8_whole 7 = .ok (.sipush 200, 3) := by decide +kernel
theorem dX8_whole_10 : decode cX8_whole 10 = .ok (.if_icmp .gt 27, 3) := by decide +kernel
theorem dX8_whole_13 : decode cX8_whole 13 = .ok (.aload_n 0, 1) := by decide +kernel
theorem dX8_whole_14 : decode cX8_whole 14 = .ok (.invokevirtual 150, 3) := by decide +kernel
theorem dX8_whole_17 : decode cX8_whole 17 = .ok (.aload_n 0, 1) := by decide +kernel
theorem dX8_whole_18 : decode cX8_whole 18 = .ok (.getfield 9, 3) := by decide +kernel
theorem dX8_whole_21 : decode cX8_whole 21 = .ok (.bipush 7, 2) := by decide +kernel
theorem dX8_whole_23 : decode cX8_whole 23 = .ok (.iaload, 1) := by decide +kernel
theorem dX8_whole_24 : decode cX8_whole 24 = .ok (.if_icmp .ge 13, 3) := by decide +kernel
theorem dX8_whole_27 : decode cX8_whole 27 = .ok (.aload_n 0, 1) := by decide +kernel
theorem dX8_whole_28 : decode cX8_whole 28 = .ok (.invokevirtual 143, 3) := by decide +kernel
theorem dX8_whole_31 : decode cX8_whole 31 = .ok (.iinc 1 1, 3) := by decide +kernel
theorem dX8_whole_34 : decode cX8_whole 34 = .ok (.goto (-28), 3) := by decide +kernel
theorem dX8_whole_37 : decode cX8_whole 37 = .ok (.aload_n 0, 1) := by decide +kernel
theorem dX8_whole_38 : decode cX8_whole 38 = .ok (.invokevirtual 159, 3) := by decide +kernel
theorem dX8_whole_41 : decode cX8_whole 41 = .ok (.iload_n 1, 1) := by decide +kernel
theorem dX8_whole_42 : decode cX8_whole 42 = .ok (.sipush 200, 3) := by decide +kernel
theorem dX8_whole_45 : decode cX8_whole 45 = .ok (.if_icmp .le 8, 3) := by decide +kernel
theorem dX8_whole_48 : decode cX8_whole 48 = .ok (.ldc 149, 2) := by decide +kernel
theorem dX8_whole_50 : decode cX8_whole 50 = .ok (.goto 4, 3) := by decide +kernel
theorem dX8_whole_53 : decode cX8_whole 53 = .ok (.iload_n 1, 1) := by decide +kernel
theorem dX8_whole_54 : decode cX8_whole 54 = .ok (.ireturn, 1) := by decide +kernel
theorem dX8_comeBehind_0 : decode cX8_comeBehind 0 = .ok (.aload_n 0, 1) := by decide +kernel
theorem dX8_comeBehind_1 : decode cX8_comeBehind 1 = .ok (.iload_n 1, 1) := by decide +kernel
theorem dX8_comeBehind_2 : decode cX8_comeBehind 2 = .ok (.invokevirtual 146, 3) := by decide +kernel
theorem dX8_comeBehind_5 : decode cX8_comeBehind 5 = .ok (.aload_n 0, 1) := by decide +kernel
theorem dX8_comeBehind_6 : decode cX8_comeBehind 6 = .ok (.bipush 12, 2) := by decide +kernel
theorem dX8_comeBehind_8 : decode cX8_comeBehind 8 = .ok (.invokevirtual 133, 3) := by decide +kernel
theorem dX8_comeBehind_11 : decode cX8_comeBehind 11 = .ok (.istore_n 2, 1) := by decide +kernel
theorem dX8_comeBehind_12 : decode cX8_comeBehind 12 = .ok (.aload_n 0, 1) := by decide +kernel
theorem dX8_comeBehind_13 : decode cX8_comeBehind 13 = .ok (.invokevirtual 159, 3) := by decide +kernel
theorem dX8_comeBehind_16 : decode cX8_comeBehind 16 = .ok (.iload_n 2, 1) := by decide +kernel
theorem dX8_comeBehind_17 : decode cX8_comeBehind 17 = .ok (.ireturn, 1) := by decide +kernel
theorem dX8_frees_0 : decode cX8_frees 0 = .ok (.iload_n 1, 1) := by decide +kernel
theorem dX8_frees_1 : decode cX8_frees 1 = .ok (.iconst 1, 1) := by decide +kernel
theorem dX8_frees_2 : decode cX8_frees 2 = .ok (.bipush 40, 2) := by decide +kernel
theorem dX8_frees_4 : decode cX8_frees 4 = .ok (.invokestatic 75, 3) := by decide +kernel
theorem dX8_frees_7 : decode cX8_frees 7 = .ok (.ifCond .eq 12, 3) := by decide +kernel
theorem dX8_frees_10 : decode cX8_frees 10 = .ok (.iload_n 2, 1) := by decide +kernel
theorem dX8_frees_11 : decode cX8_frees 11 = .ok (.iconst 0, 1) := by decide +kernel
theorem dX8_frees_12 : decode cX8_frees 12 = .ok (.iconst 1, 1) := by decide +kernel
theorem dX8_frees_13 : decode cX8_frees 13 = .ok (.invokestatic 75, 3) := by decide +kernel
theorem dX8_frees_16 : decode cX8_frees 16 = .ok (.ifCond .ne 6, 3) := by decide +kernel
theorem dX8_frees_19 : decode cX8_frees 19 = .ok (.ldc 83, 2) := by decide +kernel
theorem dX8_frees_21 : decode cX8_frees 21 = .ok (.ireturn, 1) := by decide +kernel
theorem dX8_frees_22 : decode cX8_frees 22 = .ok (.aload_n 0, 1) := by decide +kernel
theorem dX8_frees_23 : decode cX8_frees 23 = .ok (.invokevirtual 156, 3) := by decide +kernel
theorem dX8_frees_26 : decode cX8_frees 26 = .ok (.iconst (-1), 1) := by decide +kernel
theorem dX8_frees_27 : decode cX8_frees 27 = .ok (.istore_n 3, 1) := by decide +kernel
theorem dX8_frees_28 : decode cX8_frees 28 = .ok (.iconst (-1), 1) := by decide +kernel
theorem dX8_frees_29 : decode cX8_frees 29 = .ok (.istore 4, 2) := by decide +kernel
theorem dX8_frees_31 : decode cX8_frees 31 = .ok (.iconst 0, 1) := by decide +kernel
theorem dX8_frees_32 : decode cX8_frees 32 = .ok (.istore 5, 2) := by decide +kernel
theorem dX8_frees_34 : decode cX8_frees 34 = .ok (.iload 5, 2) := by decide +kernel
theorem dX8_frees_36 : decode cX8_frees 36 = .ok (.aload_n 0, 1) := by decide +kernel
theorem dX8_frees_37 : decode cX8_frees 37 = .ok (.getfield 9, 3) := by decide +kernel
theorem dX8_frees_40 : decode cX8_frees 40 = .ok (.iconst 1, 1) := by decide +kernel
theorem dX8_frees_41 : decode cX8_frees 41 = .ok (.iaload, 1) := by decide +kernel
theorem dX8_frees_42 : decode cX8_frees 42 = .ok (.if_icmp .ge 67, 3) := by decide +kernel
theorem dX8_frees_45 : decode cX8_frees 45 = .ok (.aload_n 0, 1) := by decide +kernel
theorem dX8_frees_46 : decode cX8_frees 46 = .ok (.iload 5, 2) := by decide +kernel
theorem dX8_frees_48 : decode cX8_frees 48 = .ok (.iconst 3, 1) := by decide +kernel
theorem dX8_frees_49 : decode cX8_frees 49 = .ok (.invokevirtual 93, 3) := by decide +kernel
theorem dX8_frees_52 : decode cX8_frees 52 = .ok (.bipush 12, 2) := by decide +kernel
theorem dX8_frees_54 : decode cX8_frees 54 = .ok (.if_icmp .ge 49, 3) := by decide +kernel
theorem dX8_frees_57 : decode cX8_frees 57 = .ok (.aload_n 0, 1) := by decide +kernel
theorem dX8_frees_58 : decode cX8_frees 58 = .ok (.iload 5, 2) := by decide +kernel
theorem dX8_frees_60 : decode cX8_frees 60 = .ok (.iconst 3, 1) := by decide +kernel
theorem dX8_frees_61 : decode cX8_frees 61 = .ok (.bipush 13, 2) := by decide +kernel
theorem dX8_frees_63 : decode cX8_frees 63 = .ok (.invokevirtual 79, 3) := by decide +kernel
theorem dX8_frees_66 : decode cX8_frees 66 = .ok (.aload_n 0, 1) := by decide +kernel
theorem dX8_frees_67 : decode cX8_frees 67 = .ok (.iload_n 1, 1) := by decide +kernel
theorem dX8_frees_68 : decode cX8_frees 68 = .ok (.invokevirtual 162, 3) := by decide +kernel
theorem dX8_frees_71 : decode cX8_frees 71 = .ok (.istore 6, 2) := by decide +kernel
theorem dX8_frees_73 : decode cX8_frees 73 = .ok (.iload 6, 2) := by decide +kernel
theorem dX8_frees_75 : decode cX8_frees 75 = .ok (.iload 4, 2) := by decide +kernel
theorem dX8_frees_77 : decode cX8_frees 77 = .ok (.if_icmp .le 8, 3) := by decide +kernel
theorem dX8_frees_80 : decode cX8_frees 80 = .ok (.iload 5, 2) := by decide +kernel
theorem dX8_frees_82 : decode cX8_frees 82 = .ok (.goto 4, 3) := by decide +kernel
theorem dX8_frees_85 : decode cX8_frees 85 = .ok (.iload_n 3, 1) := by decide +kernel
theorem dX8_frees_86 : decode cX8_frees 86 = .ok (.istore_n 3, 1) := by decide +kernel
theorem dX8_frees_87 : decode cX8_frees 87 = .ok (.iload 6, 2) := by decide +kernel
theorem dX8_frees_89 : decode cX8_frees 89 = .ok (.iload 4, 2) := by decide +kernel
theorem dX8_frees_91 : decode cX8_frees 91 = .ok (.if_icmp .le 8, 3) := by decide +kernel
theorem dX8_frees_94 : decode cX8_frees 94 = .ok (.iload 6, 2) := by decide +kernel
theorem dX8_frees_96 : decode cX8_frees 96 = .ok (.goto 5, 3) := by decide +kernel
theorem dX8_frees_99 : decode cX8_frees 99 = .ok (.iload 4, 2) := by decide +kernel
theorem dX8_frees_101 : decode cX8_frees 101 = .ok (.istore 4, 2) := by decide +kernel
theorem dX8_frees_103 : decode cX8_frees 103 = .ok (.iinc 5 1, 3) := by decide +kernel
theorem dX8_frees_106 : decode cX8_frees 106 = .ok (.goto (-72), 3) := by decide +kernel
theorem dX8_frees_109 : decode cX8_frees 109 = .ok (.iload_n 3, 1) := by decide +kernel
theorem dX8_frees_110 : decode cX8_frees 110 = .ok (.ifCond .ge 8, 3) := by decide +kernel
theorem dX8_frees_113 : decode cX8_frees 113 = .ok (.ldc 149, 2) := by decide +kernel
theorem dX8_frees_115 : decode cX8_frees 115 = .ok (.goto 13, 3) := by decide +kernel
theorem dX8_frees_118 : decode cX8_frees 118 = .ok (.iload_n 2, 1) := by decide +kernel
theorem dX8_frees_119 : decode cX8_frees 119 = .ok (.ifCond .ne 7, 3) := by decide +kernel
theorem dX8_frees_122 : decode cX8_frees 122 = .ok (.iload_n 3, 1) := by decide +kernel
theorem dX8_frees_123 : decode cX8_frees 123 = .ok (.goto 5, 3) := by decide +kernel
theorem dX8_frees_126 : decode cX8_frees 126 = .ok (.iload 4, 2) := by decide +kernel
theorem dX8_frees_128 : decode cX8_frees 128 = .ok (.ireturn, 1) := by decide +kernel
theorem dX8_speltBehind_0 : decode cX8_speltBehind 0 = .ok (.aload_n 0, 1) := by decide +kernel
theorem dX8_speltBehind_1 : decode cX8_speltBehind 1 = .ok (.iload_n 1, 1) := by decide +kernel
theorem dX8_speltBehind_2 : decode cX8_speltBehind 2 = .ok (.invokevirtual 146, 3) := by decide +kernel
theorem dX8_speltBehind_5 : decode cX8_speltBehind 5 = .ok (.aload_n 0, 1) := by decide +kernel
theorem dX8_speltBehind_6 : decode cX8_speltBehind 6 = .ok (.invokevirtual 150, 3) := by decide +kernel
theorem dX8_speltBehind_9 : decode cX8_speltBehind 9 = .ok (.istore_n 2, 1) := by decide +kernel
theorem dX8_speltBehind_10 : decode cX8_speltBehind 10 = .ok (.aload_n 0, 1) := by decide +kernel
theorem dX8_speltBehind_11 : decode cX8_speltBehind 11 = .ok (.invokevirtual 159, 3) := by decide +kernel
theorem dX8_speltBehind_14 : decode cX8_speltBehind 14 = .ok (.iload_n 2, 1) := by decide +kernel
theorem dX8_speltBehind_15 : decode cX8_speltBehind 15 = .ok (.ireturn, 1) := by decide +kernel
