/-! THE PURE PART: the rows that decode (12a) -/
theorem dX0_init_0 : decode cX0_init 0 = .ok (.aload_n 0, 1) := by decide +kernel
theorem dX0_init_1 : decode cX0_init 1 = .ok (.invokespecial 3, 3) := by decide +kernel
theorem dX0_init_4 : decode cX0_init 4 = .ok (.aload_n 0, 1) := by decide +kernel
theorem dX0_init_5 : decode cX0_init 5 = .ok (.iload_n 1, 1) := by decide +kernel
theorem dX0_init_6 : decode cX0_init 6 = .ok (.putfield 9, 3) := by decide +kernel
theorem dX0_init_9 : decode cX0_init 9 = .ok (.aload_n 0, 1) := by decide +kernel
theorem dX0_init_10 : decode cX0_init 10 = .ok (.iload_n 2, 1) := by decide +kernel
theorem dX0_init_11 : decode cX0_init 11 = .ok (.putfield 15, 3) := by decide +kernel
theorem dX0_init_14 : decode cX0_init 14 = .ok (.iload 4, 2) := by decide +kernel
theorem dX0_init_16 : decode cX0_init 16 = .ok (.iconst 0, 1) := by decide +kernel
theorem dX0_init_17 : decode cX0_init 17 = .ok (.aload_n 3, 1) := by decide +kernel
theorem dX0_init_18 : decode cX0_init 18 = .ok (.arraylength, 1) := by decide +kernel
theorem dX0_init_19 : decode cX0_init 19 = .ok (.invokestatic 18, 3) := by decide +kernel
theorem dX0_init_22 : decode cX0_init 22 = .ok (.istore 5, 2) := by decide +kernel
theorem dX0_init_24 : decode cX0_init 24 = .ok (.aload_n 0, 1) := by decide +kernel
theorem dX0_init_25 : decode cX0_init 25 = .ok (.iload 5, 2) := by decide +kernel
theorem dX0_init_27 : decode cX0_init 27 = .ok (.newarray .int, 2) := by decide +kernel
theorem dX0_init_29 : decode cX0_init 29 = .ok (.putfield 22, 3) := by decide +kernel
theorem dX0_init_32 : decode cX0_init 32 = .ok (.aload_n 3, 1) := by decide +kernel
theorem dX0_init_33 : decode cX0_init 33 = .ok (.iconst 0, 1) := by decide +kernel
theorem dX0_init_34 : decode cX0_init 34 = .ok (.aload_n 0, 1) := by decide +kernel
theorem dX0_init_35 : decode cX0_init 35 = .ok (.getfield 22, 3) := by decide +kernel
theorem dX0_init_38 : decode cX0_init 38 = .ok (.iconst 0, 1) := by decide +kernel
theorem dX0_init_39 : decode cX0_init 39 = .ok (.iload 5, 2) := by decide +kernel
theorem dX0_init_41 : decode cX0_init 41 = .ok (.invokestatic 26, 3) := by decide +kernel
theorem dX0_init_44 : decode cX0_init 44 = .ok (.aload_n 0, 1) := by decide +kernel
theorem dX0_init_45 : decode cX0_init 45 = .ok (.iconst 1, 1) := by decide +kernel
theorem dX0_init_46 : decode cX0_init 46 = .ok (.iload 5, 2) := by decide +kernel
theorem dX0_init_48 : decode cX0_init 48 = .ok (.invokestatic 32, 3) := by decide +kernel
theorem dX0_init_51 : decode cX0_init 51 = .ok (.newarray .int, 2) := by decide +kernel
theorem dX0_init_53 : decode cX0_init 53 = .ok (.putfield 38, 3) := by decide +kernel
theorem dX0_init_56 : decode cX0_init 56 = .ok (.return_, 1) := by decide +kernel
theorem dX0_give_0 : decode cX0_give 0 = .ok (.iconst 0, 1) := by decide +kernel
theorem dX0_give_1 : decode cX0_give 1 = .ok (.istore 4, 2) := by decide +kernel
theorem dX0_give_3 : decode cX0_give 3 = .ok (.iconst 0, 1) := by decide +kernel
theorem dX0_give_4 : decode cX0_give 4 = .ok (.istore 5, 2) := by decide +kernel
theorem dX0_give_6 : decode cX0_give 6 = .ok (.iload 5, 2) := by decide +kernel
theorem dX0_give_8 : decode cX0_give 8 = .ok (.aload_n 0, 1) := by decide +kernel
theorem dX0_give_9 : decode cX0_give 9 = .ok (.getfield 22, 3) := by decide +kernel
theorem dX0_give_12 : decode cX0_give 12 = .ok (.arraylength, 1) := by decide +kernel
theorem dX0_give_13 : decode cX0_give 13 = .ok (.if_icmp .ge 142, 3) := by decide +kernel
theorem dX0_give_16 : decode cX0_give 16 = .ok (.aload_n 0, 1) := by decide +kernel
theorem dX0_give_17 : decode cX0_give 17 = .ok (.getfield 22, 3) := by decide +kernel
theorem dX0_give_20 : decode cX0_give 20 = .ok (.iload 5, 2) := by decide +kernel
theorem dX0_give_22 : decode cX0_give 22 = .ok (.iaload, 1) := by decide +kernel
theorem dX0_give_23 : decode cX0_give 23 = .ok (.istore 6, 2) := by decide +kernel
theorem dX0_give_25 : decode cX0_give 25 = .ok (.iload 6, 2) := by decide +kernel
theorem dX0_give_27 : decode cX0_give 27 = .ok (.sipush 20000, 3) := by decide +kernel
theorem dX0_give_30 : decode cX0_give 30 = .ok (.if_icmp .ge 34, 3) := by decide +kernel
theorem dX0_give_33 : decode cX0_give 33 = .ok (.iload 4, 2) := by decide +kernel
theorem dX0_give_35 : decode cX0_give 35 = .ok (.aload_n 0, 1) := by decide +kernel
theorem dX0_give_36 : decode cX0_give 36 = .ok (.getfield 38, 3) := by decide +kernel
theorem dX0_give_39 : decode cX0_give 39 = .ok (.arraylength, 1) := by decide +kernel
theorem dX0_give_40 : decode cX0_give 40 = .ok (.if_icmp .ge 24, 3) := by decide +kernel
theorem dX0_give_43 : decode cX0_give 43 = .ok (.aload_n 0, 1) := by decide +kernel
theorem dX0_give_44 : decode cX0_give 44 = .ok (.getfield 38, 3) := by decide +kernel
theorem dX0_give_47 : decode cX0_give 47 = .ok (.iload 4, 2) := by decide +kernel
theorem dX0_give_49 : decode cX0_give 49 = .ok (.iload 6, 2) := by decide +kernel
theorem dX0_give_51 : decode cX0_give 51 = .ok (.iload_n 1, 1) := by decide +kernel
theorem dX0_give_52 : decode cX0_give 52 = .ok (.iload_n 2, 1) := by decide +kernel
theorem dX0_give_53 : decode cX0_give 53 = .ok (.iload_n 3, 1) := by decide +kernel
theorem dX0_give_54 : decode cX0_give 54 = .ok (.invokestatic 41, 3) := by decide +kernel
theorem dX0_give_57 : decode cX0_give 57 = .ok (.iastore, 1) := by decide +kernel
theorem dX0_give_58 : decode cX0_give 58 = .ok (.iinc 4 1, 3) := by decide +kernel
theorem dX0_give_61 : decode cX0_give 61 = .ok (.goto 88, 3) := by decide +kernel
theorem dX0_give_64 : decode cX0_give 64 = .ok (.iload 6, 2) := by decide +kernel
theorem dX0_give_66 : decode cX0_give 66 = .ok (.sipush 20033, 3) := by decide +kernel
theorem dX0_give_69 : decode cX0_give 69 = .ok (.if_icmp .ne 37, 3) := by decide +kernel
theorem dX0_give_72 : decode cX0_give 72 = .ok (.iload 4, 2) := by decide +kernel
theorem dX0_give_74 : decode cX0_give 74 = .ok (.ifCond .le 32, 3) := by decide +kernel
theorem dX0_give_77 : decode cX0_give 77 = .ok (.aload_n 0, 1) := by decide +kernel
theorem dX0_give_78 : decode cX0_give 78 = .ok (.getfield 38, 3) := by decide +kernel
theorem dX0_give_81 : decode cX0_give 81 = .ok (.iload 4, 2) := by decide +kernel
theorem dX0_give_83 : decode cX0_give 83 = .ok (.iconst 1, 1) := by decide +kernel
theorem dX0_give_84 : decode cX0_give 84 = .ok (.isub, 1) := by decide +kernel
theorem dX0_give_85 : decode cX0_give 85 = .ok (.aload_n 0, 1) := by decide +kernel
theorem dX0_give_86 : decode cX0_give 86 = .ok (.getfield 38, 3) := by decide +kernel
theorem dX0_give_89 : decode cX0_give 89 = .ok (.iload 4, 2) := by decide +kernel
theorem dX0_give_91 : decode cX0_give 91 = .ok (.iconst 1, 1) := by decide +kernel
theorem dX0_give_92 : decode cX0_give 92 = .ok (.isub, 1) := by decide +kernel
theorem dX0_give_93 : decode cX0_give 93 = .ok (.iaload, 1) := by decide +kernel
theorem dX0_give_94 : decode cX0_give 94 = .ok (.ifCond .ne 7, 3) := by decide +kernel
theorem dX0_give_97 : decode cX0_give 97 = .ok (.iconst 1, 1) := by decide +kernel
theorem dX0_give_98 : decode cX0_give 98 = .ok (.goto 4, 3) := by decide +kernel
theorem dX0_give_101 : decode cX0_give 101 = .ok (.iconst 0, 1) := by decide +kernel
theorem dX0_give_102 : decode cX0_give 102 = .ok (.iastore, 1) := by decide +kernel
theorem dX0_give_103 : decode cX0_give 103 = .ok (.goto 46, 3) := by decide +kernel
theorem dX0_give_106 : decode cX0_give 106 = .ok (.iload 4, 2) := by decide +kernel
theorem dX0_give_108 : decode cX0_give 108 = .ok (.iconst 1, 1) := by decide +kernel
theorem dX0_give_109 : decode cX0_give 109 = .ok (.if_icmp .le 40, 3) := by decide +kernel
theorem dX0_give_112 : decode cX0_give 112 = .ok (.iinc 4 (-1), 3) := by decide +kernel
theorem dX0_give_115 : decode cX0_give 115 = .ok (.aload_n 0, 1) := by decide +kernel
theorem dX0_give_116 : decode cX0_give 116 = .ok (.getfield 38, 3) := by decide +kernel
theorem dX0_give_119 : decode cX0_give 119 = .ok (.iload 4, 2) := by decide +kernel
theorem dX0_give_121 : decode cX0_give 121 = .ok (.iconst 1, 1) := by decide +kernel
theorem dX0_give_122 : decode cX0_give 122 = .ok (.isub, 1) := by decide +kernel
theorem dX0_give_123 : decode cX0_give 123 = .ok (.iload 6, 2) := by decide +kernel
theorem dX0_give_125 : decode cX0_give 125 = .ok (.sipush 20000, 3) := by decide +kernel
theorem dX0_give_128 : decode cX0_give 128 = .ok (.isub, 1) := by decide +kernel
theorem dX0_give_129 : decode cX0_give 129 = .ok (.aload_n 0, 1) := by decide +kernel
theorem dX0_give_130 : decode cX0_give 130 = .ok (.getfield 38, 3) := by decide +kernel
theorem dX0_give_133 : decode cX0_give 133 = .ok (.iload 4, 2) := by decide +kernel
theorem dX0_give_135 : decode cX0_give 135 = .ok (.iconst 1, 1) := by decide +kernel
theorem dX0_give_136 : decode cX0_give 136 = .ok (.isub, 1) := by decide +kernel
theorem dX0_give_137 : decode cX0_give 137 = .ok (.iaload, 1) := by decide +kernel
theorem dX0_give_138 : decode cX0_give 138 = .ok (.aload_n 0, 1) := by decide +kernel
theorem dX0_give_139 : decode cX0_give 139 = .ok (.getfield 38, 3) := by decide +kernel
theorem dX0_give_142 : decode cX0_give 142 = .ok (.iload 4, 2) := by decide +kernel
theorem dX0_give_144 : decode cX0_give 144 = .ok (.iaload, 1) := by decide +kernel
theorem dX0_give_145 : decode cX0_give 145 = .ok (.invokestatic 45, 3) := by decide +kernel
theorem dX0_give_148 : decode cX0_give 148 = .ok (.iastore, 1) := by decide +kernel
theorem dX0_give_149 : decode cX0_give 149 = .ok (.iinc 5 1, 3) := by decide +kernel
theorem dX0_give_152 : decode cX0_give 152 = .ok (.goto (-146), 3) := by decide +kernel
theorem dX0_give_155 : decode cX0_give 155 = .ok (.aload_n 0, 1) := by decide +kernel
theorem dX0_give_156 : decode cX0_give 156 = .ok (.getfield 38, 3) := by decide +kernel
theorem dX0_give_159 : decode cX0_give 159 = .ok (.iconst 0, 1) := by decide +kernel
theorem dX0_give_160 : decode cX0_give 160 = .ok (.iaload, 1) := by decide +kernel
theorem dX0_give_161 : decode cX0_give 161 = .ok (.ireturn, 1) := by decide +kernel
theorem dX0_valueOf_0 : decode cX0_valueOf 0 = .ok (.iload_n 0, 1) := by decide +kernel
theorem dX0_valueOf_1 : decode cX0_valueOf 1 = .ok (.tableswitch 33 10000 10002 #[27, 29, 31], 27) := by decide +kernel
theorem dX0_valueOf_28 : decode cX0_valueOf 28 = .ok (.iload_n 1, 1) := by decide +kernel
theorem dX0_valueOf_29 : decode cX0_valueOf 29 = .ok (.ireturn, 1) := by decide +kernel
theorem dX0_valueOf_30 : decode cX0_valueOf 30 = .ok (.iload_n 2, 1) := by decide +kernel
theorem dX0_valueOf_31 : decode cX0_valueOf 31 = .ok (.ireturn, 1) := by decide +kernel
theorem dX0_valueOf_32 : decode cX0_valueOf 32 = .ok (.iload_n 3, 1) := by decide +kernel
theorem dX0_valueOf_33 : decode cX0_valueOf 33 = .ok (.ireturn, 1) := by decide +kernel
theorem dX0_valueOf_34 : decode cX0_valueOf 34 = .ok (.iload_n 0, 1) := by decide +kernel
theorem dX0_valueOf_35 : decode cX0_valueOf 35 = .ok (.ireturn, 1) := by decide +kernel
theorem dX0_joined_0 : decode cX0_joined 0 = .ok (.iload_n 0, 1) := by decide +kernel
theorem dX0_joined_1 : decode cX0_joined 1 = .ok (.lookupswitch 168 #[(38, 97), (42, 152), (43, 144), (45, 148), (47, 156), (60, 111), (61, 122), (62, 133), (124, 83)], 83) := by decide +kernel
theorem dX0_joined_84 : decode cX0_joined 84 = .ok (.iload_n 1, 1) := by decide +kernel
theorem dX0_joined_85 : decode cX0_joined 85 = .ok (.ifCond .ne 7, 3) := by decide +kernel
theorem dX0_joined_88 : decode cX0_joined 88 = .ok (.iload_n 2, 1) := by decide +kernel
theorem dX0_joined_89 : decode cX0_joined 89 = .ok (.ifCond .eq 7, 3) := by decide +kernel
theorem dX0_joined_92 : decode cX0_joined 92 = .ok (.iconst 1, 1) := by decide +kernel
theorem dX0_joined_93 : decode cX0_joined 93 = .ok (.goto 4, 3) := by decide +kernel
theorem dX0_joined_96 : decode cX0_joined 96 = .ok (.iconst 0, 1) := by decide +kernel
theorem dX0_joined_97 : decode cX0_joined 97 = .ok (.ireturn, 1) := by decide +kernel
theorem dX0_joined_98 : decode cX0_joined 98 = .ok (.iload_n 1, 1) := by decide +kernel
theorem dX0_joined_99 : decode cX0_joined 99 = .ok (.ifCond .eq 11, 3) := by decide +kernel
theorem dX0_joined_102 : decode cX0_joined 102 = .ok (.iload_n 2, 1) := by decide +kernel
theorem dX0_joined_103 : decode cX0_joined 103 = .ok (.ifCond .eq 7, 3) := by decide +kernel
theorem dX0_joined_106 : decode cX0_joined 106 = .ok (.iconst 1, 1) := by decide +kernel
theorem dX0_joined_107 : decode cX0_joined 107 = .ok (.goto 4, 3) := by decide +kernel
theorem dX0_joined_110 : decode cX0_joined 110 = .ok (.iconst 0, 1) := by decide +kernel
theorem dX0_joined_111 : decode cX0_joined 111 = .ok (.ireturn, 1) := by decide +kernel
theorem dX0_joined_112 : decode cX0_joined 112 = .ok (.iload_n 1, 1) := by decide +kernel
theorem dX0_joined_113 : decode cX0_joined 113 = .ok (.iload_n 2, 1) := by decide +kernel
theorem dX0_joined_114 : decode cX0_joined 114 = .ok (.if_icmp .ge 7, 3) := by decide +kernel
theorem dX0_joined_117 : decode cX0_joined 117 = .ok (.iconst 1, 1) := by decide +kernel
theorem dX0_joined_118 : decode cX0_joined 118 = .ok (.goto 4, 3) := by decide +kernel
theorem dX0_joined_121 : decode cX0_joined 121 = .ok (.iconst 0, 1) := by decide +kernel
theorem dX0_joined_122 : decode cX0_joined 122 = .ok (.ireturn, 1) := by decide +kernel
theorem dX0_joined_123 : decode cX0_joined 123 = .ok (.iload_n 1, 1) := by decide +kernel
theorem dX0_joined_124 : decode cX0_joined 124 = .ok (.iload_n 2, 1) := by decide +kernel
theorem dX0_joined_125 : decode cX0_joined 125 = .ok (.if_icmp .ne 7, 3) := by decide +kernel
theorem dX0_joined_128 : decode cX0_joined 128 = .ok (.iconst 1, 1) := by decide +kernel
theorem dX0_joined_129 : decode cX0_joined 129 = .ok (.goto 4, 3) := by decide +kernel
theorem dX0_joined_132 : decode cX0_joined 132 = .ok (.iconst 0, 1) := by decide +kernel
theorem dX0_joined_133 : decode cX0_joined 133 = .ok (.ireturn, 1) := by decide +kernel
theorem dX0_joined_134 : decode cX0_joined 134 = .ok (.iload_n 1, 1) := by decide +kernel
theorem dX0_joined_135 : decode cX0_joined 135 = .ok (.iload_n 2, 1) := by decide +kernel
theorem dX0_joined_136 : decode cX0_joined 136 = .ok (.if_icmp .le 7, 3) := by decide +kernel
theorem dX0_joined_139 : decode cX0_joined 139 = .ok (.iconst 1, 1) := by decide +kernel
theorem dX0_joined_140 : decode cX0_joined 140 = .ok (.goto 4, 3) := by decide +kernel
theorem dX0_joined_143 : decode cX0_joined 143 = .ok (.iconst 0, 1) := by decide +kernel
theorem dX0_joined_144 : decode cX0_joined 144 = .ok (.ireturn, 1) := by decide +kernel
theorem dX0_joined_145 : decode cX0_joined 145 = .ok (.iload_n 1, 1) := by decide +kernel
theorem dX0_joined_146 : decode cX0_joined 146 = .ok (.iload_n 2, 1) := by decide +kernel
theorem dX0_joined_147 : decode cX0_joined 147 = .ok (.iadd, 1) := by decide +kernel
theorem dX0_joined_148 : decode cX0_joined 148 = .ok (.ireturn, 1) := by decide +kernel
theorem dX0_joined_149 : decode cX0_joined 149 = .ok (.iload_n 1, 1) := by decide +kernel
theorem dX0_joined_150 : decode cX0_joined 150 = .ok (.iload_n 2, 1) := by decide +kernel
theorem dX0_joined_151 : decode cX0_joined 151 = .ok (.isub, 1) := by decide +kernel
theorem dX0_joined_152 : decode cX0_joined 152 = .ok (.ireturn, 1) := by decide +kernel
theorem dX0_joined_153 : decode cX0_joined 153 = .ok (.iload_n 1, 1) := by decide +kernel
theorem dX0_joined_154 : decode cX0_joined 154 = .ok (.iload_n 2, 1) := by decide +kernel
theorem dX0_joined_155 : decode cX0_joined 155 = .ok (.imul, 1) := by decide +kernel
theorem dX0_joined_156 : decode cX0_joined 156 = .ok (.ireturn, 1) := by decide +kernel
theorem dX0_joined_157 : decode cX0_joined 157 = .ok (.iload_n 2, 1) := by decide +kernel
theorem dX0_joined_158 : decode cX0_joined 158 = .ok (.ifCond .ne 7, 3) := by decide +kernel
theorem dX0_joined_161 : decode cX0_joined 161 = .ok (.iconst 0, 1) := by decide +kernel
theorem dX0_joined_162 : decode cX0_joined 162 = .ok (.goto 6, 3) := by decide +kernel
theorem dX0_joined_165 : decode cX0_joined 165 = .ok (.iload_n 1, 1) := by decide +kernel
theorem dX0_joined_166 : decode cX0_joined 166 = .ok (.iload_n 2, 1) := by decide +kernel
theorem dX0_joined_167 : decode cX0_joined 167 = .ok (.idiv, 1) := by decide +kernel
theorem dX0_joined_168 : decode cX0_joined 168 = .ok (.ireturn, 1) := by decide +kernel
theorem dX0_joined_169 : decode cX0_joined 169 = .ok (.iconst 0, 1) := by decide +kernel
theorem dX0_joined_170 : decode cX0_joined 170 = .ok (.ireturn, 1) := by decide +kernel
theorem dX1_init_0 : decode cX1_init 0 = .ok (.aload_n 0, 1) := by decide +kernel
theorem dX1_init_1 : decode cX1_init 1 = .ok (.invokespecial 3, 3) := by decide +kernel
theorem dX1_init_4 : decode cX1_init 4 = .ok (.aload_n 0, 1) := by decide +kernel
theorem dX1_init_5 : decode cX1_init 5 = .ok (.iconst 0, 1) := by decide +kernel
theorem dX1_init_6 : decode cX1_init 6 = .ok (.putfield 9, 3) := by decide +kernel
theorem dX1_init_9 : decode cX1_init 9 = .ok (.aload_n 0, 1) := by decide +kernel
theorem dX1_init_10 : decode cX1_init 10 = .ok (.iconst 0, 1) := by decide +kernel
theorem dX1_init_11 : decode cX1_init 11 = .ok (.putfield 15, 3) := by decide +kernel
theorem dX1_init_14 : decode cX1_init 14 = .ok (.aload_n 0, 1) := by decide +kernel
theorem dX1_init_15 : decode cX1_init 15 = .ok (.iconst 1, 1) := by decide +kernel
theorem dX1_init_16 : decode cX1_init 16 = .ok (.putfield 18, 3) := by decide +kernel
theorem dX1_init_19 : decode cX1_init 19 = .ok (.aload_n 0, 1) := by decide +kernel
theorem dX1_init_20 : decode cX1_init 20 = .ok (.iconst 0, 1) := by decide +kernel
theorem dX1_init_21 : decode cX1_init 21 = .ok (.putfield 21, 3) := by decide +kernel
theorem dX1_init_24 : decode cX1_init 24 = .ok (.aload_n 0, 1) := by decide +kernel
theorem dX1_init_25 : decode cX1_init 25 = .ok (.iconst 0, 1) := by decide +kernel
theorem dX1_init_26 : decode cX1_init 26 = .ok (.putfield 24, 3) := by decide +kernel
theorem dX1_init_29 : decode cX1_init 29 = .ok (.return_, 1) := by decide +kernel
theorem dX1_takeOver_0 : decode cX1_takeOver 0 = .ok (.aload_n 0, 1) := by decide +kernel
theorem dX1_takeOver_1 : decode cX1_takeOver 1 = .ok (.aload_n 1, 1) := by decide +kernel
theorem dX1_takeOver_2 : decode cX1_takeOver 2 = .ok (.getfield 9, 3) := by decide +kernel
theorem dX1_takeOver_5 : decode cX1_takeOver 5 = .ok (.putfield 9, 3) := by decide +kernel
theorem dX1_takeOver_8 : decode cX1_takeOver 8 = .ok (.aload_n 0, 1) := by decide +kernel
theorem dX1_takeOver_9 : decode cX1_takeOver 9 = .ok (.aload_n 1, 1) := by decide +kernel
theorem dX1_takeOver_10 : decode cX1_takeOver 10 = .ok (.getfield 15, 3) := by decide +kernel
theorem dX1_takeOver_13 : decode cX1_takeOver 13 = .ok (.putfield 15, 3) := by decide +kernel
theorem dX1_takeOver_16 : decode cX1_takeOver 16 = .ok (.aload_n 0, 1) := by decide +kernel
theorem dX1_takeOver_17 : decode cX1_takeOver 17 = .ok (.aload_n 1, 1) := by decide +kernel
theorem dX1_takeOver_18 : decode cX1_takeOver 18 = .ok (.getfield 18, 3) := by decide +kernel
theorem dX1_takeOver_21 : decode cX1_takeOver 21 = .ok (.putfield 18, 3) := by decide +kernel
theorem dX1_takeOver_24 : decode cX1_takeOver 24 = .ok (.aload_n 0, 1) := by decide +kernel
theorem dX1_takeOver_25 : decode cX1_takeOver 25 = .ok (.aload_n 1, 1) := by decide +kernel
theorem dX1_takeOver_26 : decode cX1_takeOver 26 = .ok (.getfield 21, 3) := by decide +kernel
theorem dX1_takeOver_29 : decode cX1_takeOver 29 = .ok (.putfield 21, 3) := by decide +kernel
theorem dX1_takeOver_32 : decode cX1_takeOver 32 = .ok (.aload_n 0, 1) := by decide +kernel
theorem dX1_takeOver_33 : decode cX1_takeOver 33 = .ok (.aload_n 1, 1) := by decide +kernel
theorem dX1_takeOver_34 : decode cX1_takeOver 34 = .ok (.getfield 24, 3) := by decide +kernel
theorem dX1_takeOver_37 : decode cX1_takeOver 37 = .ok (.putfield 24, 3) := by decide +kernel
theorem dX1_takeOver_40 : decode cX1_takeOver 40 = .ok (.return_, 1) := by decide +kernel
theorem dX1_isAfloat_0 : decode cX1_isAfloat 0 = .ok (.aload_n 0, 1) := by decide +kernel
theorem dX1_isAfloat_1 : decode cX1_isAfloat 1 = .ok (.getfield 21, 3) := by decide +kernel
theorem dX1_isAfloat_4 : decode cX1_isAfloat 4 = .ok (.invokestatic 27, 3) := by decide +kernel
theorem dX1_isAfloat_7 : decode cX1_isAfloat 7 = .ok (.ireturn, 1) := by decide +kernel
theorem dX1_isOf_0 : decode cX1_isOf 0 = .ok (.aload_n 0, 1) := by decide +kernel
theorem dX1_isOf_1 : decode cX1_isOf 1 = .ok (.getfield 9, 3) := by decide +kernel
theorem dX1_isOf_4 : decode cX1_isOf 4 = .ok (.istore_n 2, 1) := by decide +kernel
theorem dX1_isOf_5 : decode cX1_isOf 5 = .ok (.iconst 0, 1) := by decide +kernel
theorem dX1_isOf_6 : decode cX1_isOf 6 = .ok (.istore_n 3, 1) := by decide +kernel
theorem dX1_isOf_7 : decode cX1_isOf 7 = .ok (.iload_n 3, 1) := by decide +kernel
theorem dX1_isOf_8 : decode cX1_isOf 8 = .ok (.getstatic 31, 3) := by decide +kernel
theorem dX1_isOf_11 : decode cX1_isOf 11 = .ok (.arraylength, 1) := by decide +kernel
theorem dX1_isOf_12 : decode cX1_isOf 12 = .ok (.if_icmp .ge 29, 3) := by decide +kernel
theorem dX1_isOf_15 : decode cX1_isOf 15 = .ok (.iload_n 2, 1) := by decide +kernel
theorem dX1_isOf_16 : decode cX1_isOf 16 = .ok (.invokestatic 35, 3) := by decide +kernel
theorem dX1_isOf_19 : decode cX1_isOf 19 = .ok (.ifCond .eq 22, 3) := by decide +kernel
theorem dX1_isOf_22 : decode cX1_isOf 22 = .ok (.iload_n 2, 1) := by decide +kernel
theorem dX1_isOf_23 : decode cX1_isOf 23 = .ok (.iload_n 1, 1) := by decide +kernel
theorem dX1_isOf_24 : decode cX1_isOf 24 = .ok (.if_icmp .ne 5, 3) := by decide +kernel
theorem dX1_isOf_27 : decode cX1_isOf 27 = .ok (.iconst 1, 1) := by decide +kernel
theorem dX1_isOf_28 : decode cX1_isOf 28 = .ok (.ireturn, 1) := by decide +kernel
theorem dX1_isOf_29 : decode cX1_isOf 29 = .ok (.getstatic 31, 3) := by decide +kernel
theorem dX1_isOf_32 : decode cX1_isOf 32 = .ok (.iload_n 2, 1) := by decide +kernel
theorem dX1_isOf_33 : decode cX1_isOf 33 = .ok (.iaload, 1) := by decide +kernel
theorem dX1_isOf_34 : decode cX1_isOf 34 = .ok (.istore_n 2, 1) := by decide +kernel
theorem dX1_isOf_35 : decode cX1_isOf 35 = .ok (.iinc 3 1, 3) := by decide +kernel
theorem dX1_isOf_38 : decode cX1_isOf 38 = .ok (.goto (-31), 3) := by decide +kernel
theorem dX1_isOf_41 : decode cX1_isOf 41 = .ok (.iconst 0, 1) := by decide +kernel
theorem dX1_isOf_42 : decode cX1_isOf 42 = .ok (.ireturn, 1) := by decide +kernel
theorem dX1_driftFrom_0 : decode cX1_driftFrom 0 = .ok (.aload_n 0, 1) := by decide +kernel
theorem dX1_driftFrom_1 : decode cX1_driftFrom 1 = .ok (.getfield 9, 3) := by decide +kernel
theorem dX1_driftFrom_4 : decode cX1_driftFrom 4 = .ok (.tableswitch 67 1 5 #[36, 53, 40, 57, 65], 36) := by decide +kernel
theorem dX1_driftFrom_40 : decode cX1_driftFrom 40 = .ok (.iload_n 1, 1) := by decide +kernel
theorem dX1_driftFrom_41 : decode cX1_driftFrom 41 = .ok (.iconst 2, 1) := by decide +kernel
theorem dX1_driftFrom_42 : decode cX1_driftFrom 42 = .ok (.idiv, 1) := by decide +kernel
theorem dX1_driftFrom_43 : decode cX1_driftFrom 43 = .ok (.ireturn, 1) := by decide +kernel
theorem dX1_driftFrom_44 : decode cX1_driftFrom 44 = .ok (.iload_n 2, 1) := by decide +kernel
theorem dX1_driftFrom_45 : decode cX1_driftFrom 45 = .ok (.iconst 5, 1) := by decide +kernel
theorem dX1_driftFrom_46 : decode cX1_driftFrom 46 = .ok (.if_icmp .ge 7, 3) := by decide +kernel
theorem dX1_driftFrom_49 : decode cX1_driftFrom 49 = .ok (.iconst 0, 1) := by decide +kernel
theorem dX1_driftFrom_50 : decode cX1_driftFrom 50 = .ok (.goto 6, 3) := by decide +kernel
theorem dX1_driftFrom_53 : decode cX1_driftFrom 53 = .ok (.iload_n 1, 1) := by decide +kernel
theorem dX1_driftFrom_54 : decode cX1_driftFrom 54 = .ok (.iconst 2, 1) := by decide +kernel
theorem dX1_driftFrom_55 : decode cX1_driftFrom 55 = .ok (.idiv, 1) := by decide +kernel
theorem dX1_driftFrom_56 : decode cX1_driftFrom 56 = .ok (.ireturn, 1) := by decide +kernel
theorem dX1_driftFrom_57 : decode cX1_driftFrom 57 = .ok (.iload_n 1, 1) := by decide +kernel
theorem dX1_driftFrom_58 : decode cX1_driftFrom 58 = .ok (.iconst 1, 1) := by decide +kernel
theorem dX1_driftFrom_59 : decode cX1_driftFrom 59 = .ok (.iadd, 1) := by decide +kernel
theorem dX1_driftFrom_60 : decode cX1_driftFrom 60 = .ok (.ireturn, 1) := by decide +kernel
theorem dX1_driftFrom_61 : decode cX1_driftFrom 61 = .ok (.iconst 3, 1) := by decide +kernel
theorem dX1_driftFrom_62 : decode cX1_driftFrom 62 = .ok (.iload_n 1, 1) := by decide +kernel
theorem dX1_driftFrom_63 : decode cX1_driftFrom 63 = .ok (.iconst 1, 1) := by decide +kernel
theorem dX1_driftFrom_64 : decode cX1_driftFrom 64 = .ok (.iadd, 1) := by decide +kernel
theorem dX1_driftFrom_65 : decode cX1_driftFrom 65 = .ok (.invokestatic 38, 3) := by decide +kernel
theorem dX1_driftFrom_68 : decode cX1_driftFrom 68 = .ok (.ireturn, 1) := by decide +kernel
theorem dX1_driftFrom_69 : decode cX1_driftFrom 69 = .ok (.iconst 0, 1) := by decide +kernel
theorem dX1_driftFrom_70 : decode cX1_driftFrom 70 = .ok (.ireturn, 1) := by decide +kernel
theorem dX1_driftFrom_71 : decode cX1_driftFrom 71 = .ok (.iload_n 1, 1) := by decide +kernel
theorem dX1_driftFrom_72 : decode cX1_driftFrom 72 = .ok (.ireturn, 1) := by decide +kernel
theorem dX1_claimedBy_0 : decode cX1_claimedBy 0 = .ok (.aload_n 0, 1) := by decide +kernel
theorem dX1_claimedBy_1 : decode cX1_claimedBy 1 = .ok (.getfield 9, 3) := by decide +kernel
theorem dX1_claimedBy_4 : decode cX1_claimedBy 4 = .ok (.tableswitch 45 2 5 #[36, 32, 41, 43], 32) := by decide +kernel
theorem dX1_claimedBy_36 : decode cX1_claimedBy 36 = .ok (.iload_n 1, 1) := by decide +kernel
theorem dX1_claimedBy_37 : decode cX1_claimedBy 37 = .ok (.iconst 2, 1) := by decide +kernel
theorem dX1_claimedBy_38 : decode cX1_claimedBy 38 = .ok (.idiv, 1) := by decide +kernel
theorem dX1_claimedBy_39 : decode cX1_claimedBy 39 = .ok (.ireturn, 1) := by decide +kernel
theorem dX1_claimedBy_40 : decode cX1_claimedBy 40 = .ok (.iload_n 1, 1) := by decide +kernel
theorem dX1_claimedBy_41 : decode cX1_claimedBy 41 = .ok (.bipush 10, 2) := by decide +kernel
theorem dX1_claimedBy_43 : decode cX1_claimedBy 43 = .ok (.iadd, 1) := by decide +kernel
theorem dX1_claimedBy_44 : decode cX1_claimedBy 44 = .ok (.ireturn, 1) := by decide +kernel
theorem dX1_claimedBy_45 : decode cX1_claimedBy 45 = .ok (.iconst 0, 1) := by decide +kernel
theorem dX1_claimedBy_46 : decode cX1_claimedBy 46 = .ok (.ireturn, 1) := by decide +kernel
theorem dX1_claimedBy_47 : decode cX1_claimedBy 47 = .ok (.iconst 0, 1) := by decide +kernel
theorem dX1_claimedBy_48 : decode cX1_claimedBy 48 = .ok (.ireturn, 1) := by decide +kernel
theorem dX1_claimedBy_49 : decode cX1_claimedBy 49 = .ok (.iload_n 1, 1) := by decide +kernel
theorem dX1_claimedBy_50 : decode cX1_claimedBy 50 = .ok (.ireturn, 1) := by decide +kernel
theorem dX1_worth_0 : decode cX1_worth 0 = .ok (.aload_n 0, 1) := by decide +kernel
theorem dX1_worth_1 : decode cX1_worth 1 = .ok (.getfield 9, 3) := by decide +kernel
theorem dX1_worth_4 : decode cX1_worth 4 = .ok (.tableswitch 74 1 5 #[36, 54, 44, 62, 72], 36) := by decide +kernel
theorem dX1_worth_40 : decode cX1_worth 40 = .ok (.aload_n 0, 1) := by decide +kernel
theorem dX1_worth_41 : decode cX1_worth 41 = .ok (.getfield 18, 3) := by decide +kernel
theorem dX1_worth_44 : decode cX1_worth 44 = .ok (.bipush 7, 2) := by decide +kernel
theorem dX1_worth_46 : decode cX1_worth 46 = .ok (.iadd, 1) := by decide +kernel
theorem dX1_worth_47 : decode cX1_worth 47 = .ok (.ireturn, 1) := by decide +kernel
theorem dX1_worth_48 : decode cX1_worth 48 = .ok (.iconst 2, 1) := by decide +kernel
theorem dX1_worth_49 : decode cX1_worth 49 = .ok (.aload_n 0, 1) := by decide +kernel
theorem dX1_worth_50 : decode cX1_worth 50 = .ok (.getfield 18, 3) := by decide +kernel
theorem dX1_worth_53 : decode cX1_worth 53 = .ok (.bipush 7, 2) := by decide +kernel
theorem dX1_worth_55 : decode cX1_worth 55 = .ok (.iadd, 1) := by decide +kernel
theorem dX1_worth_56 : decode cX1_worth 56 = .ok (.imul, 1) := by decide +kernel
theorem dX1_worth_57 : decode cX1_worth 57 = .ok (.ireturn, 1) := by decide +kernel
theorem dX1_worth_58 : decode cX1_worth 58 = .ok (.bipush 99, 2) := by decide +kernel
theorem dX1_worth_60 : decode cX1_worth 60 = .ok (.aload_n 0, 1) := by decide +kernel
theorem dX1_worth_61 : decode cX1_worth 61 = .ok (.getfield 18, 3) := by decide +kernel
theorem dX1_worth_64 : decode cX1_worth 64 = .ok (.isub, 1) := by decide +kernel
theorem dX1_worth_65 : decode cX1_worth 65 = .ok (.ireturn, 1) := by decide +kernel
theorem dX1_worth_66 : decode cX1_worth 66 = .ok (.bipush 99, 2) := by decide +kernel
theorem dX1_worth_68 : decode cX1_worth 68 = .ok (.aload_n 0, 1) := by decide +kernel
theorem dX1_worth_69 : decode cX1_worth 69 = .ok (.getfield 18, 3) := by decide +kernel
theorem dX1_worth_72 : decode cX1_worth 72 = .ok (.isub, 1) := by decide +kernel
theorem dX1_worth_73 : decode cX1_worth 73 = .ok (.iconst 5, 1) := by decide +kernel
theorem dX1_worth_74 : decode cX1_worth 74 = .ok (.isub, 1) := by decide +kernel
theorem dX1_worth_75 : decode cX1_worth 75 = .ok (.ireturn, 1) := by decide +kernel
theorem dX1_worth_76 : decode cX1_worth 76 = .ok (.iconst 1, 1) := by decide +kernel
theorem dX1_worth_77 : decode cX1_worth 77 = .ok (.ireturn, 1) := by decide +kernel
theorem dX1_worth_78 : decode cX1_worth 78 = .ok (.aload_n 0, 1) := by decide +kernel
theorem dX1_worth_79 : decode cX1_worth 79 = .ok (.getfield 18, 3) := by decide +kernel
theorem dX1_worth_82 : decode cX1_worth 82 = .ok (.ireturn, 1) := by decide +kernel
theorem dX2_init_0 : decode cX2_init 0 = .ok (.aload_n 0, 1) := by decide +kernel
theorem dX2_init_1 : decode cX2_init 1 = .ok (.invokespecial 3, 3) := by decide +kernel
theorem dX2_init_4 : decode cX2_init 4 = .ok (.aload_n 0, 1) := by decide +kernel
theorem dX2_init_5 : decode cX2_init 5 = .ok (.new 9, 3) := by decide +kernel
theorem dX2_init_8 : decode cX2_init 8 = .ok (.dup, 1) := by decide +kernel
theorem dX2_init_9 : decode cX2_init 9 = .ok (.invokespecial 11, 3) := by decide +kernel
theorem dX2_init_12 : decode cX2_init 12 = .ok (.putfield 12, 3) := by decide +kernel
theorem dX2_init_15 : decode cX2_init 15 = .ok (.aload_n 0, 1) := by decide +kernel
theorem dX2_init_16 : decode cX2_init 16 = .ok (.bipush 96, 2) := by decide +kernel
theorem dX2_init_18 : decode cX2_init 18 = .ok (.newarray .int, 2) := by decide +kernel
theorem dX2_init_20 : decode cX2_init 20 = .ok (.putfield 18, 3) := by decide +kernel
theorem dX2_init_23 : decode cX2_init 23 = .ok (.aload_n 0, 1) := by decide +kernel
theorem dX2_init_24 : decode cX2_init 24 = .ok (.bipush 96, 2) := by decide +kernel
theorem dX2_init_26 : decode cX2_init 26 = .ok (.newarray .int, 2) := by decide +kernel
theorem dX2_init_28 : decode cX2_init 28 = .ok (.putfield 22, 3) := by decide +kernel
theorem dX2_init_31 : decode cX2_init 31 = .ok (.aload_n 0, 1) := by decide +kernel
theorem dX2_init_32 : decode cX2_init 32 = .ok (.iconst 0, 1) := by decide +kernel
theorem dX2_init_33 : decode cX2_init 33 = .ok (.putfield 25, 3) := by decide +kernel
theorem dX2_init_36 : decode cX2_init 36 = .ok (.aload_n 0, 1) := by decide +kernel
theorem dX2_init_37 : decode cX2_init 37 = .ok (.iconst 0, 1) := by decide +kernel
theorem dX2_init_38 : decode cX2_init 38 = .ok (.putfield 29, 3) := by decide +kernel
theorem dX2_init_41 : decode cX2_init 41 = .ok (.aload_n 0, 1) := by decide +kernel
theorem dX2_init_42 : decode cX2_init 42 = .ok (.iconst 0, 1) := by decide +kernel
theorem dX2_init_43 : decode cX2_init 43 = .ok (.putfield 32, 3) := by decide +kernel
theorem dX2_init_46 : decode cX2_init 46 = .ok (.aload_n 0, 1) := by decide +kernel
theorem dX2_init_47 : decode cX2_init 47 = .ok (.iconst 0, 1) := by decide +kernel
theorem dX2_init_48 : decode cX2_init 48 = .ok (.putfield 35, 3) := by decide +kernel
theorem dX2_init_51 : decode cX2_init 51 = .ok (.aload_n 0, 1) := by decide +kernel
theorem dX2_init_52 : decode cX2_init 52 = .ok (.iconst 0, 1) := by decide +kernel
theorem dX2_init_53 : decode cX2_init 53 = .ok (.putfield 38, 3) := by decide +kernel
theorem dX2_init_56 : decode cX2_init 56 = .ok (.aload_n 0, 1) := by decide +kernel
theorem dX2_init_57 : decode cX2_init 57 = .ok (.iconst 0, 1) := by decide +kernel
theorem dX2_init_58 : decode cX2_init 58 = .ok (.putfield 41, 3) := by decide +kernel
theorem dX2_init_61 : decode cX2_init 61 = .ok (.aload_n 0, 1) := by decide +kernel
theorem dX2_init_62 : decode cX2_init 62 = .ok (.iconst 0, 1) := by decide +kernel
theorem dX2_init_63 : decode cX2_init 63 = .ok (.putfield 44, 3) := by decide +kernel
theorem dX2_init_66 : decode cX2_init 66 = .ok (.aload_n 0, 1) := by decide +kernel
theorem dX2_init_67 : decode cX2_init 67 = .ok (.iconst 0, 1) := by decide +kernel
theorem dX2_init_68 : decode cX2_init 68 = .ok (.putfield 47, 3) := by decide +kernel
theorem dX2_init_71 : decode cX2_init 71 = .ok (.aload_n 0, 1) := by decide +kernel
theorem dX2_init_72 : decode cX2_init 72 = .ok (.iconst 1, 1) := by decide +kernel
theorem dX2_init_73 : decode cX2_init 73 = .ok (.putfield 50, 3) := by decide +kernel
theorem dX2_init_76 : decode cX2_init 76 = .ok (.aload_n 0, 1) := by decide +kernel
theorem dX2_init_77 : decode cX2_init 77 = .ok (.iconst 0, 1) := by decide +kernel
theorem dX2_init_78 : decode cX2_init 78 = .ok (.putfield 54, 3) := by decide +kernel
theorem dX2_init_81 : decode cX2_init 81 = .ok (.aload_n 0, 1) := by decide +kernel
theorem dX2_init_82 : decode cX2_init 82 = .ok (.iconst 0, 1) := by decide +kernel
theorem dX2_init_83 : decode cX2_init 83 = .ok (.putfield 57, 3) := by decide +kernel
theorem dX2_init_86 : decode cX2_init 86 = .ok (.return_, 1) := by decide +kernel
theorem dX2_readLaw_0 : decode cX2_readLaw 0 = .ok (.aload_n 0, 1) := by decide +kernel
theorem dX2_readLaw_1 : decode cX2_readLaw 1 = .ok (.invokevirtual 60, 3) := by decide +kernel
theorem dX2_readLaw_4 : decode cX2_readLaw 4 = .ok (.aload_n 0, 1) := by decide +kernel
theorem dX2_readLaw_5 : decode cX2_readLaw 5 = .ok (.invokevirtual 63, 3) := by decide +kernel
theorem dX2_readLaw_8 : decode cX2_readLaw 8 = .ok (.ifCond .eq 10, 3) := by decide +kernel
theorem dX2_readLaw_11 : decode cX2_readLaw 11 = .ok (.aload_n 0, 1) := by decide +kernel
theorem dX2_readLaw_12 : decode cX2_readLaw 12 = .ok (.invokevirtual 67, 3) := by decide +kernel
theorem dX2_readLaw_15 : decode cX2_readLaw 15 = .ok (.ifCond .ne 13, 3) := by decide +kernel
theorem dX2_readLaw_18 : decode cX2_readLaw 18 = .ok (.aload_n 0, 1) := by decide +kernel
theorem dX2_readLaw_19 : decode cX2_readLaw 19 = .ok (.aload_n 0, 1) := by decide +kernel
theorem dX2_readLaw_20 : decode cX2_readLaw 20 = .ok (.getfield 54, 3) := by decide +kernel
theorem dX2_readLaw_23 : decode cX2_readLaw 23 = .ok (.putfield 25, 3) := by decide +kernel
theorem dX2_readLaw_26 : decode cX2_readLaw 26 = .ok (.aconst_null, 1) := by decide +kernel
theorem dX2_readLaw_27 : decode cX2_readLaw 27 = .ok (.areturn, 1) := by decide +kernel
theorem dX2_readLaw_28 : decode cX2_readLaw 28 = .ok (.iconst 0, 1) := by decide +kernel
theorem dX2_readLaw_29 : decode cX2_readLaw 29 = .ok (.istore_n 1, 1) := by decide +kernel
theorem dX2_readLaw_30 : decode cX2_readLaw 30 = .ok (.iload_n 1, 1) := by decide +kernel
theorem dX2_readLaw_31 : decode cX2_readLaw 31 = .ok (.bipush 96, 2) := by decide +kernel
theorem dX2_readLaw_33 : decode cX2_readLaw 33 = .ok (.if_icmp .ge 44, 3) := by decide +kernel
theorem dX2_readLaw_36 : decode cX2_readLaw 36 = .ok (.aload_n 0, 1) := by decide +kernel
theorem dX2_readLaw_37 : decode cX2_readLaw 37 = .ok (.invokevirtual 63, 3) := by decide +kernel
theorem dX2_readLaw_40 : decode cX2_readLaw 40 = .ok (.ifCond .eq 37, 3) := by decide +kernel
theorem dX2_readLaw_43 : decode cX2_readLaw 43 = .ok (.aload_n 0, 1) := by decide +kernel
theorem dX2_readLaw_44 : decode cX2_readLaw 44 = .ok (.invokevirtual 70, 3) := by decide +kernel
theorem dX2_readLaw_47 : decode cX2_readLaw 47 = .ok (.ifCond .ne 13, 3) := by decide +kernel
theorem dX2_readLaw_50 : decode cX2_readLaw 50 = .ok (.aload_n 0, 1) := by decide +kernel
theorem dX2_readLaw_51 : decode cX2_readLaw 51 = .ok (.aload_n 0, 1) := by decide +kernel
theorem dX2_readLaw_52 : decode cX2_readLaw 52 = .ok (.getfield 54, 3) := by decide +kernel
theorem dX2_readLaw_55 : decode cX2_readLaw 55 = .ok (.putfield 25, 3) := by decide +kernel
theorem dX2_readLaw_58 : decode cX2_readLaw 58 = .ok (.aconst_null, 1) := by decide +kernel
theorem dX2_readLaw_59 : decode cX2_readLaw 59 = .ok (.areturn, 1) := by decide +kernel
theorem dX2_readLaw_60 : decode cX2_readLaw 60 = .ok (.aload_n 0, 1) := by decide +kernel
theorem dX2_readLaw_61 : decode cX2_readLaw 61 = .ok (.getfield 50, 3) := by decide +kernel
theorem dX2_readLaw_64 : decode cX2_readLaw 64 = .ok (.ifCond .ne 7, 3) := by decide +kernel
theorem dX2_readLaw_67 : decode cX2_readLaw 67 = .ok (.aload_n 0, 1) := by decide +kernel
theorem dX2_readLaw_68 : decode cX2_readLaw 68 = .ok (.invokevirtual 73, 3) := by decide +kernel
theorem dX2_readLaw_71 : decode cX2_readLaw 71 = .ok (.iinc 1 1, 3) := by decide +kernel
theorem dX2_readLaw_74 : decode cX2_readLaw 74 = .ok (.goto (-44), 3) := by decide +kernel
theorem dX2_readLaw_77 : decode cX2_readLaw 77 = .ok (.aload_n 0, 1) := by decide +kernel
theorem dX2_readLaw_78 : decode cX2_readLaw 78 = .ok (.getfield 50, 3) := by decide +kernel
theorem dX2_readLaw_81 : decode cX2_readLaw 81 = .ok (.ifCond .ne 10, 3) := by decide +kernel
theorem dX2_readLaw_84 : decode cX2_readLaw 84 = .ok (.aload_n 0, 1) := by decide +kernel
theorem dX2_readLaw_85 : decode cX2_readLaw 85 = .ok (.getfield 41, 3) := by decide +kernel
theorem dX2_readLaw_88 : decode cX2_readLaw 88 = .ok (.ifCond .le 16, 3) := by decide +kernel
theorem dX2_readLaw_91 : decode cX2_readLaw 91 = .ok (.aload_n 0, 1) := by decide +kernel
theorem dX2_readLaw_92 : decode cX2_readLaw 92 = .ok (.aload_n 0, 1) := by decide +kernel
theorem dX2_readLaw_93 : decode cX2_readLaw 93 = .ok (.getfield 12, 3) := by decide +kernel
theorem dX2_readLaw_96 : decode cX2_readLaw 96 = .ok (.getfield 76, 3) := by decide +kernel
theorem dX2_readLaw_99 : decode cX2_readLaw 99 = .ok (.putfield 25, 3) := by decide +kernel
theorem dX2_readLaw_102 : decode cX2_readLaw 102 = .ok (.aconst_null, 1) := by decide +kernel
theorem dX2_readLaw_103 : decode cX2_readLaw 103 = .ok (.areturn, 1) := by decide +kernel
theorem dX2_readLaw_104 : decode cX2_readLaw 104 = .ok (.aload_n 0, 1) := by decide +kernel
theorem dX2_readLaw_105 : decode cX2_readLaw 105 = .ok (.iconst 1, 1) := by decide +kernel
theorem dX2_readLaw_106 : decode cX2_readLaw 106 = .ok (.invokevirtual 79, 3) := by decide +kernel
theorem dX2_readLaw_109 : decode cX2_readLaw 109 = .ok (.new 83, 3) := by decide +kernel
theorem dX2_readLaw_112 : decode cX2_readLaw 112 = .ok (.dup, 1) := by decide +kernel
theorem dX2_readLaw_113 : decode cX2_readLaw 113 = .ok (.aload_n 0, 1) := by decide +kernel
theorem dX2_readLaw_114 : decode cX2_readLaw 114 = .ok (.getfield 35, 3) := by decide +kernel
theorem dX2_readLaw_117 : decode cX2_readLaw 117 = .ok (.aload_n 0, 1) := by decide +kernel
theorem dX2_readLaw_118 : decode cX2_readLaw 118 = .ok (.getfield 38, 3) := by decide +kernel
theorem dX2_readLaw_121 : decode cX2_readLaw 121 = .ok (.aload_n 0, 1) := by decide +kernel
theorem dX2_readLaw_122 : decode cX2_readLaw 122 = .ok (.getfield 18, 3) := by decide +kernel
theorem dX2_readLaw_125 : decode cX2_readLaw 125 = .ok (.aload_n 0, 1) := by decide +kernel
theorem dX2_readLaw_126 : decode cX2_readLaw 126 = .ok (.getfield 29, 3) := by decide +kernel
theorem dX2_readLaw_129 : decode cX2_readLaw 129 = .ok (.invokespecial 85, 3) := by decide +kernel
theorem dX2_readLaw_132 : decode cX2_readLaw 132 = .ok (.areturn, 1) := by decide +kernel
theorem dX2_begin_0 : decode cX2_begin 0 = .ok (.aload_n 0, 1) := by decide +kernel
theorem dX2_begin_1 : decode cX2_begin 1 = .ok (.iconst 0, 1) := by decide +kernel
theorem dX2_begin_2 : decode cX2_begin 2 = .ok (.putfield 29, 3) := by decide +kernel
theorem dX2_begin_5 : decode cX2_begin 5 = .ok (.aload_n 0, 1) := by decide +kernel
theorem dX2_begin_6 : decode cX2_begin 6 = .ok (.iconst 0, 1) := by decide +kernel
theorem dX2_begin_7 : decode cX2_begin 7 = .ok (.putfield 32, 3) := by decide +kernel
theorem dX2_begin_10 : decode cX2_begin 10 = .ok (.aload_n 0, 1) := by decide +kernel
theorem dX2_begin_11 : decode cX2_begin 11 = .ok (.iconst 0, 1) := by decide +kernel
theorem dX2_begin_12 : decode cX2_begin 12 = .ok (.putfield 38, 3) := by decide +kernel
theorem dX2_begin_15 : decode cX2_begin 15 = .ok (.aload_n 0, 1) := by decide +kernel
theorem dX2_begin_16 : decode cX2_begin 16 = .ok (.iconst 0, 1) := by decide +kernel
theorem dX2_begin_17 : decode cX2_begin 17 = .ok (.putfield 41, 3) := by decide +kernel
theorem dX2_begin_20 : decode cX2_begin 20 = .ok (.aload_n 0, 1) := by decide +kernel
theorem dX2_begin_21 : decode cX2_begin 21 = .ok (.iconst 0, 1) := by decide +kernel
theorem dX2_begin_22 : decode cX2_begin 22 = .ok (.putfield 44, 3) := by decide +kernel
theorem dX2_begin_25 : decode cX2_begin 25 = .ok (.aload_n 0, 1) := by decide +kernel
theorem dX2_begin_26 : decode cX2_begin 26 = .ok (.iconst 0, 1) := by decide +kernel
theorem dX2_begin_27 : decode cX2_begin 27 = .ok (.putfield 47, 3) := by decide +kernel
theorem dX2_begin_30 : decode cX2_begin 30 = .ok (.aload_n 0, 1) := by decide +kernel
theorem dX2_begin_31 : decode cX2_begin 31 = .ok (.iconst 1, 1) := by decide +kernel
theorem dX2_begin_32 : decode cX2_begin 32 = .ok (.putfield 50, 3) := by decide +kernel
theorem dX2_begin_35 : decode cX2_begin 35 = .ok (.aload_n 0, 1) := by decide +kernel
theorem dX2_begin_36 : decode cX2_begin 36 = .ok (.iconst 0, 1) := by decide +kernel
theorem dX2_begin_37 : decode cX2_begin 37 = .ok (.putfield 54, 3) := by decide +kernel
theorem dX2_begin_40 : decode cX2_begin 40 = .ok (.aload_n 0, 1) := by decide +kernel
theorem dX2_begin_41 : decode cX2_begin 41 = .ok (.iconst 0, 1) := by decide +kernel
theorem dX2_begin_42 : decode cX2_begin 42 = .ok (.putfield 57, 3) := by decide +kernel
theorem dX2_begin_45 : decode cX2_begin 45 = .ok (.return_, 1) := by decide +kernel
theorem dX2_nextWord_0 : decode cX2_nextWord 0 = .ok (.aload_n 0, 1) := by decide +kernel
theorem dX2_nextWord_1 : decode cX2_nextWord 1 = .ok (.aload_n 0, 1) := by decide +kernel
theorem dX2_nextWord_2 : decode cX2_nextWord 2 = .ok (.getfield 57, 3) := by decide +kernel
theorem dX2_nextWord_5 : decode cX2_nextWord 5 = .ok (.putfield 54, 3) := by decide +kernel
theorem dX2_nextWord_8 : decode cX2_nextWord 8 = .ok (.aload_n 0, 1) := by decide +kernel
theorem dX2_nextWord_9 : decode cX2_nextWord 9 = .ok (.getfield 54, 3) := by decide +kernel
theorem dX2_nextWord_12 : decode cX2_nextWord 12 = .ok (.aload_n 0, 1) := by decide +kernel
theorem dX2_nextWord_13 : decode cX2_nextWord 13 = .ok (.getfield 12, 3) := by decide +kernel
theorem dX2_nextWord_16 : decode cX2_nextWord 16 = .ok (.getfield 76, 3) := by decide +kernel
theorem dX2_nextWord_19 : decode cX2_nextWord 19 = .ok (.if_icmp .ge 32, 3) := by decide +kernel
theorem dX2_nextWord_22 : decode cX2_nextWord 22 = .ok (.aload_n 0, 1) := by decide +kernel
theorem dX2_nextWord_23 : decode cX2_nextWord 23 = .ok (.getfield 12, 3) := by decide +kernel
theorem dX2_nextWord_26 : decode cX2_nextWord 26 = .ok (.aload_n 0, 1) := by decide +kernel
theorem dX2_nextWord_27 : decode cX2_nextWord 27 = .ok (.getfield 54, 3) := by decide +kernel
theorem dX2_nextWord_30 : decode cX2_nextWord 30 = .ok (.invokevirtual 88, 3) := by decide +kernel
theorem dX2_nextWord_33 : decode cX2_nextWord 33 = .ok (.bipush 32, 2) := by decide +kernel
theorem dX2_nextWord_35 : decode cX2_nextWord 35 = .ok (.if_icmp .ne 16, 3) := by decide +kernel
theorem dX2_nextWord_38 : decode cX2_nextWord 38 = .ok (.aload_n 0, 1) := by decide +kernel
theorem dX2_nextWord_39 : decode cX2_nextWord 39 = .ok (.dup, 1) := by decide +kernel
theorem dX2_nextWord_40 : decode cX2_nextWord 40 = .ok (.getfield 54, 3) := by decide +kernel
theorem dX2_nextWord_43 : decode cX2_nextWord 43 = .ok (.iconst 1, 1) := by decide +kernel
theorem dX2_nextWord_44 : decode cX2_nextWord 44 = .ok (.iadd, 1) := by decide +kernel
theorem dX2_nextWord_45 : decode cX2_nextWord 45 = .ok (.putfield 54, 3) := by decide +kernel
theorem dX2_nextWord_48 : decode cX2_nextWord 48 = .ok (.goto (-40), 3) := by decide +kernel
theorem dX2_nextWord_51 : decode cX2_nextWord 51 = .ok (.aload_n 0, 1) := by decide +kernel
theorem dX2_nextWord_52 : decode cX2_nextWord 52 = .ok (.aload_n 0, 1) := by decide +kernel
theorem dX2_nextWord_53 : decode cX2_nextWord 53 = .ok (.getfield 54, 3) := by decide +kernel
theorem dX2_nextWord_56 : decode cX2_nextWord 56 = .ok (.putfield 57, 3) := by decide +kernel
theorem dX2_nextWord_59 : decode cX2_nextWord 59 = .ok (.aload_n 0, 1) := by decide +kernel
theorem dX2_nextWord_60 : decode cX2_nextWord 60 = .ok (.getfield 54, 3) := by decide +kernel
theorem dX2_nextWord_63 : decode cX2_nextWord 63 = .ok (.aload_n 0, 1) := by decide +kernel
theorem dX2_nextWord_64 : decode cX2_nextWord 64 = .ok (.getfield 12, 3) := by decide +kernel
theorem dX2_nextWord_67 : decode cX2_nextWord 67 = .ok (.getfield 76, 3) := by decide +kernel
theorem dX2_nextWord_70 : decode cX2_nextWord 70 = .ok (.if_icmp .lt 5, 3) := by decide +kernel
theorem dX2_nextWord_73 : decode cX2_nextWord 73 = .ok (.iconst 0, 1) := by decide +kernel
theorem dX2_nextWord_74 : decode cX2_nextWord 74 = .ok (.ireturn, 1) := by decide +kernel
theorem dX2_nextWord_75 : decode cX2_nextWord 75 = .ok (.aload_n 0, 1) := by decide +kernel
theorem dX2_nextWord_76 : decode cX2_nextWord 76 = .ok (.getfield 12, 3) := by decide +kernel
theorem dX2_nextWord_79 : decode cX2_nextWord 79 = .ok (.aload_n 0, 1) := by decide +kernel
theorem dX2_nextWord_80 : decode cX2_nextWord 80 = .ok (.getfield 54, 3) := by decide +kernel
theorem dX2_nextWord_83 : decode cX2_nextWord 83 = .ok (.invokevirtual 88, 3) := by decide +kernel
theorem dX2_nextWord_86 : decode cX2_nextWord 86 = .ok (.invokestatic 92, 3) := by decide +kernel
theorem dX2_nextWord_89 : decode cX2_nextWord 89 = .ok (.istore_n 1, 1) := by decide +kernel
theorem dX2_nextWord_90 : decode cX2_nextWord 90 = .ok (.aload_n 0, 1) := by decide +kernel
theorem dX2_nextWord_91 : decode cX2_nextWord 91 = .ok (.dup, 1) := by decide +kernel
theorem dX2_nextWord_92 : decode cX2_nextWord 92 = .ok (.getfield 57, 3) := by decide +kernel
theorem dX2_nextWord_95 : decode cX2_nextWord 95 = .ok (.iconst 1, 1) := by decide +kernel
theorem dX2_nextWord_96 : decode cX2_nextWord 96 = .ok (.iadd, 1) := by decide +kernel
theorem dX2_nextWord_97 : decode cX2_nextWord 97 = .ok (.putfield 57, 3) := by decide +kernel
theorem dX2_nextWord_100 : decode cX2_nextWord 100 = .ok (.iload_n 1, 1) := by decide +kernel
theorem dX2_nextWord_101 : decode cX2_nextWord 101 = .ok (.ifCond .eq 48, 3) := by decide +kernel
theorem dX2_nextWord_104 : decode cX2_nextWord 104 = .ok (.aload_n 0, 1) := by decide +kernel
theorem dX2_nextWord_105 : decode cX2_nextWord 105 = .ok (.getfield 57, 3) := by decide +kernel
theorem dX2_nextWord_108 : decode cX2_nextWord 108 = .ok (.aload_n 0, 1) := by decide +kernel
theorem dX2_nextWord_109 : decode cX2_nextWord 109 = .ok (.getfield 12, 3) := by decide +kernel
theorem dX2_nextWord_112 : decode cX2_nextWord 112 = .ok (.getfield 76, 3) := by decide +kernel
theorem dX2_nextWord_115 : decode cX2_nextWord 115 = .ok (.if_icmp .ge 34, 3) := by decide +kernel
theorem dX2_nextWord_118 : decode cX2_nextWord 118 = .ok (.aload_n 0, 1) := by decide +kernel
theorem dX2_nextWord_119 : decode cX2_nextWord 119 = .ok (.getfield 12, 3) := by decide +kernel
theorem dX2_nextWord_122 : decode cX2_nextWord 122 = .ok (.aload_n 0, 1) := by decide +kernel
theorem dX2_nextWord_123 : decode cX2_nextWord 123 = .ok (.getfield 57, 3) := by decide +kernel
theorem dX2_nextWord_126 : decode cX2_nextWord 126 = .ok (.invokevirtual 88, 3) := by decide +kernel
theorem dX2_nextWord_129 : decode cX2_nextWord 129 = .ok (.invokestatic 92, 3) := by decide +kernel
theorem dX2_nextWord_132 : decode cX2_nextWord 132 = .ok (.iload_n 1, 1) := by decide +kernel
theorem dX2_nextWord_133 : decode cX2_nextWord 133 = .ok (.if_icmp .ne 16, 3) := by decide +kernel
theorem dX2_nextWord_136 : decode cX2_nextWord 136 = .ok (.aload_n 0, 1) := by decide +kernel
theorem dX2_nextWord_137 : decode cX2_nextWord 137 = .ok (.dup, 1) := by decide +kernel
theorem dX2_nextWord_138 : decode cX2_nextWord 138 = .ok (.getfield 57, 3) := by decide +kernel
theorem dX2_nextWord_141 : decode cX2_nextWord 141 = .ok (.iconst 1, 1) := by decide +kernel
theorem dX2_nextWord_142 : decode cX2_nextWord 142 = .ok (.iadd, 1) := by decide +kernel
theorem dX2_nextWord_143 : decode cX2_nextWord 143 = .ok (.putfield 57, 3) := by decide +kernel
theorem dX2_nextWord_146 : decode cX2_nextWord 146 = .ok (.goto (-46), 3) := by decide +kernel
theorem dX2_nextWord_149 : decode cX2_nextWord 149 = .ok (.iconst 1, 1) := by decide +kernel
theorem dX2_nextWord_150 : decode cX2_nextWord 150 = .ok (.ireturn, 1) := by decide +kernel
theorem dX2_sortOf_0 : decode cX2_sortOf 0 = .ok (.iload_n 0, 1) := by decide +kernel
theorem dX2_sortOf_1 : decode cX2_sortOf 1 = .ok (.bipush 97, 2) := by decide +kernel
theorem dX2_sortOf_3 : decode cX2_sortOf 3 = .ok (.bipush 122, 2) := by decide +kernel
theorem dX2_sortOf_5 : decode cX2_sortOf 5 = .ok (.invokestatic 95, 3) := by decide +kernel
theorem dX2_sortOf_8 : decode cX2_sortOf 8 = .ok (.ifCond .eq 5, 3) := by decide +kernel
theorem dX2_sortOf_11 : decode cX2_sortOf 11 = .ok (.iconst 1, 1) := by decide +kernel
theorem dX2_sortOf_12 : decode cX2_sortOf 12 = .ok (.ireturn, 1) := by decide +kernel
theorem dX2_sortOf_13 : decode cX2_sortOf 13 = .ok (.iload_n 0, 1) := by decide +kernel
theorem dX2_sortOf_14 : decode cX2_sortOf 14 = .ok (.bipush 48, 2) := by decide +kernel
theorem dX2_sortOf_16 : decode cX2_sortOf 16 = .ok (.bipush 57, 2) := by decide +kernel
theorem dX2_sortOf_18 : decode cX2_sortOf 18 = .ok (.invokestatic 95, 3) := by decide +kernel
theorem dX2_sortOf_21 : decode cX2_sortOf 21 = .ok (.ifCond .eq 7, 3) := by decide +kernel
theorem dX2_sortOf_24 : decode cX2_sortOf 24 = .ok (.iconst 2, 1) := by decide +kernel
theorem dX2_sortOf_25 : decode cX2_sortOf 25 = .ok (.goto 4, 3) := by decide +kernel
theorem dX2_sortOf_28 : decode cX2_sortOf 28 = .ok (.iconst 0, 1) := by decide +kernel
theorem dX2_sortOf_29 : decode cX2_sortOf 29 = .ok (.ireturn, 1) := by decide +kernel
theorem dX2_takesKey_0 : decode cX2_takesKey 0 = .ok (.aload_n 0, 1) := by decide +kernel
theorem dX2_takesKey_1 : decode cX2_takesKey 1 = .ok (.ldc 99, 2) := by decide +kernel
theorem dX2_takesKey_3 : decode cX2_takesKey 3 = .ok (.invokevirtual 101, 3) := by decide +kernel
theorem dX2_takesKey_6 : decode cX2_takesKey 6 = .ok (.ifCond .eq 11, 3) := by decide +kernel
theorem dX2_takesKey_9 : decode cX2_takesKey 9 = .ok (.aload_n 0, 1) := by decide +kernel
theorem dX2_takesKey_10 : decode cX2_takesKey 10 = .ok (.iconst 0, 1) := by decide +kernel
theorem dX2_takesKey_11 : decode cX2_takesKey 11 = .ok (.putfield 35, 3) := by decide +kernel
theorem dX2_takesKey_14 : decode cX2_takesKey 14 = .ok (.goto 39, 3) := by decide +kernel
theorem dX2_takesKey_17 : decode cX2_takesKey 17 = .ok (.aload_n 0, 1) := by decide +kernel
theorem dX2_takesKey_18 : decode cX2_takesKey 18 = .ok (.ldc 105, 2) := by decide +kernel
theorem dX2_takesKey_20 : decode cX2_takesKey 20 = .ok (.invokevirtual 101, 3) := by decide +kernel
theorem dX2_takesKey_23 : decode cX2_takesKey 23 = .ok (.ifCond .eq 11, 3) := by decide +kernel
theorem dX2_takesKey_26 : decode cX2_takesKey 26 = .ok (.aload_n 0, 1) := by decide +kernel
theorem dX2_takesKey_27 : decode cX2_takesKey 27 = .ok (.iconst 1, 1) := by decide +kernel
theorem dX2_takesKey_28 : decode cX2_takesKey 28 = .ok (.putfield 35, 3) := by decide +kernel
theorem dX2_takesKey_31 : decode cX2_takesKey 31 = .ok (.goto 22, 3) := by decide +kernel
theorem dX2_takesKey_34 : decode cX2_takesKey 34 = .ok (.aload_n 0, 1) := by decide +kernel
theorem dX2_takesKey_35 : decode cX2_takesKey 35 = .ok (.ldc 107, 2) := by decide +kernel
theorem dX2_takesKey_37 : decode cX2_takesKey 37 = .ok (.invokevirtual 101, 3) := by decide +kernel
theorem dX2_takesKey_40 : decode cX2_takesKey 40 = .ok (.ifCond .eq 11, 3) := by decide +kernel
theorem dX2_takesKey_43 : decode cX2_takesKey 43 = .ok (.aload_n 0, 1) := by decide +kernel
theorem dX2_takesKey_44 : decode cX2_takesKey 44 = .ok (.iconst 2, 1) := by decide +kernel
theorem dX2_takesKey_45 : decode cX2_takesKey 45 = .ok (.putfield 35, 3) := by decide +kernel
theorem dX2_takesKey_48 : decode cX2_takesKey 48 = .ok (.goto 5, 3) := by decide +kernel
theorem dX2_takesKey_51 : decode cX2_takesKey 51 = .ok (.iconst 0, 1) := by decide +kernel
theorem dX2_takesKey_52 : decode cX2_takesKey 52 = .ok (.ireturn, 1) := by decide +kernel
theorem dX2_takesKey_53 : decode cX2_takesKey 53 = .ok (.iconst 1, 1) := by decide +kernel
theorem dX2_takesKey_54 : decode cX2_takesKey 54 = .ok (.ireturn, 1) := by decide +kernel
theorem dX2_isWord_0 : decode cX2_isWord 0 = .ok (.aload_n 0, 1) := by decide +kernel
theorem dX2_isWord_1 : decode cX2_isWord 1 = .ok (.getfield 57, 3) := by decide +kernel
theorem dX2_isWord_4 : decode cX2_isWord 4 = .ok (.aload_n 0, 1) := by decide +kernel
theorem dX2_isWord_5 : decode cX2_isWord 5 = .ok (.getfield 54, 3) := by decide +kernel
theorem dX2_isWord_8 : decode cX2_isWord 8 = .ok (.isub, 1) := by decide +kernel
theorem dX2_isWord_9 : decode cX2_isWord 9 = .ok (.aload_n 1, 1) := by decide +kernel
theorem dX2_isWord_10 : decode cX2_isWord 10 = .ok (.invokevirtual 109, 3) := by decide +kernel
theorem dX2_isWord_13 : decode cX2_isWord 13 = .ok (.if_icmp .eq 5, 3) := by decide +kernel
theorem dX2_isWord_16 : decode cX2_isWord 16 = .ok (.iconst 0, 1) := by decide +kernel
theorem dX2_isWord_17 : decode cX2_isWord 17 = .ok (.ireturn, 1) := by decide +kernel
theorem dX2_isWord_18 : decode cX2_isWord 18 = .ok (.iconst 0, 1) := by decide +kernel
theorem dX2_isWord_19 : decode cX2_isWord 19 = .ok (.istore_n 2, 1) := by decide +kernel
theorem dX2_isWord_20 : decode cX2_isWord 20 = .ok (.iload_n 2, 1) := by decide +kernel
theorem dX2_isWord_21 : decode cX2_isWord 21 = .ok (.aload_n 1, 1) := by decide +kernel
theorem dX2_isWord_22 : decode cX2_isWord 22 = .ok (.invokevirtual 109, 3) := by decide +kernel
theorem dX2_isWord_25 : decode cX2_isWord 25 = .ok (.if_icmp .ge 32, 3) := by decide +kernel
theorem dX2_isWord_28 : decode cX2_isWord 28 = .ok (.aload_n 0, 1) := by decide +kernel
theorem dX2_isWord_29 : decode cX2_isWord 29 = .ok (.getfield 12, 3) := by decide +kernel
theorem dX2_isWord_32 : decode cX2_isWord 32 = .ok (.aload_n 0, 1) := by decide +kernel
theorem dX2_isWord_33 : decode cX2_isWord 33 = .ok (.getfield 54, 3) := by decide +kernel
theorem dX2_isWord_36 : decode cX2_isWord 36 = .ok (.iload_n 2, 1) := by decide +kernel
theorem dX2_isWord_37 : decode cX2_isWord 37 = .ok (.iadd, 1) := by decide +kernel
theorem dX2_isWord_38 : decode cX2_isWord 38 = .ok (.invokevirtual 88, 3) := by decide +kernel
theorem dX2_isWord_41 : decode cX2_isWord 41 = .ok (.aload_n 1, 1) := by decide +kernel
theorem dX2_isWord_42 : decode cX2_isWord 42 = .ok (.iload_n 2, 1) := by decide +kernel
theorem dX2_isWord_43 : decode cX2_isWord 43 = .ok (.invokevirtual 115, 3) := by decide +kernel
theorem dX2_isWord_46 : decode cX2_isWord 46 = .ok (.if_icmp .eq 5, 3) := by decide +kernel
theorem dX2_isWord_49 : decode cX2_isWord 49 = .ok (.iconst 0, 1) := by decide +kernel
theorem dX2_isWord_50 : decode cX2_isWord 50 = .ok (.ireturn, 1) := by decide +kernel
theorem dX2_isWord_51 : decode cX2_isWord 51 = .ok (.iinc 2 1, 3) := by decide +kernel
theorem dX2_isWord_54 : decode cX2_isWord 54 = .ok (.goto (-34), 3) := by decide +kernel
theorem dX2_isWord_57 : decode cX2_isWord 57 = .ok (.iconst 1, 1) := by decide +kernel
theorem dX2_isWord_58 : decode cX2_isWord 58 = .ok (.ireturn, 1) := by decide +kernel
theorem dX2_goesOn_0 : decode cX2_goesOn 0 = .ok (.aload_n 0, 1) := by decide +kernel
theorem dX2_goesOn_1 : decode cX2_goesOn 1 = .ok (.getfield 12, 3) := by decide +kernel
theorem dX2_goesOn_4 : decode cX2_goesOn 4 = .ok (.aload_n 0, 1) := by decide +kernel
theorem dX2_goesOn_5 : decode cX2_goesOn 5 = .ok (.getfield 54, 3) := by decide +kernel
theorem dX2_goesOn_8 : decode cX2_goesOn 8 = .ok (.invokevirtual 88, 3) := by decide +kernel
theorem dX2_goesOn_11 : decode cX2_goesOn 11 = .ok (.istore_n 1, 1) := by decide +kernel
theorem dX2_goesOn_12 : decode cX2_goesOn 12 = .ok (.iload_n 1, 1) := by decide +kernel
theorem dX2_goesOn_13 : decode cX2_goesOn 13 = .ok (.invokestatic 92, 3) := by decide +kernel
theorem dX2_goesOn_16 : decode cX2_goesOn 16 = .ok (.ifCond .eq 24, 3) := by decide +kernel
theorem dX2_goesOn_19 : decode cX2_goesOn 19 = .ok (.aload_n 0, 1) := by decide +kernel
theorem dX2_goesOn_20 : decode cX2_goesOn 20 = .ok (.getfield 12, 3) := by decide +kernel
theorem dX2_goesOn_23 : decode cX2_goesOn 23 = .ok (.aload_n 0, 1) := by decide +kernel
theorem dX2_goesOn_24 : decode cX2_goesOn 24 = .ok (.getfield 54, 3) := by decide +kernel
theorem dX2_goesOn_27 : decode cX2_goesOn 27 = .ok (.iconst 1, 1) := by decide +kernel
theorem dX2_goesOn_28 : decode cX2_goesOn 28 = .ok (.isub, 1) := by decide +kernel
theorem dX2_goesOn_29 : decode cX2_goesOn 29 = .ok (.invokevirtual 88, 3) := by decide +kernel
theorem dX2_goesOn_32 : decode cX2_goesOn 32 = .ok (.invokestatic 92, 3) := by decide +kernel
theorem dX2_goesOn_35 : decode cX2_goesOn 35 = .ok (.ifCond .eq 5, 3) := by decide +kernel
theorem dX2_goesOn_38 : decode cX2_goesOn 38 = .ok (.iconst 0, 1) := by decide +kernel
theorem dX2_goesOn_39 : decode cX2_goesOn 39 = .ok (.ireturn, 1) := by decide +kernel
theorem dX2_goesOn_40 : decode cX2_goesOn 40 = .ok (.aload_n 0, 1) := by decide +kernel
theorem dX2_goesOn_41 : decode cX2_goesOn 41 = .ok (.getfield 50, 3) := by decide +kernel
theorem dX2_goesOn_44 : decode cX2_goesOn 44 = .ok (.ifCond .eq 11, 3) := by decide +kernel
theorem dX2_goesOn_47 : decode cX2_goesOn 47 = .ok (.aload_n 0, 1) := by decide +kernel
theorem dX2_goesOn_48 : decode cX2_goesOn 48 = .ok (.iload_n 1, 1) := by decide +kernel
theorem dX2_goesOn_49 : decode cX2_goesOn 49 = .ok (.invokevirtual 119, 3) := by decide +kernel
theorem dX2_goesOn_52 : decode cX2_goesOn 52 = .ok (.goto 8, 3) := by decide +kernel
theorem dX2_goesOn_55 : decode cX2_goesOn 55 = .ok (.aload_n 0, 1) := by decide +kernel
theorem dX2_goesOn_56 : decode cX2_goesOn 56 = .ok (.iload_n 1, 1) := by decide +kernel
theorem dX2_goesOn_57 : decode cX2_goesOn 57 = .ok (.invokevirtual 123, 3) := by decide +kernel
theorem dX2_goesOn_60 : decode cX2_goesOn 60 = .ok (.ireturn, 1) := by decide +kernel
theorem dX2_takesPiece_0 : decode cX2_takesPiece 0 = .ok (.iload_n 1, 1) := by decide +kernel
theorem dX2_takesPiece_1 : decode cX2_takesPiece 1 = .ok (.invokestatic 92, 3) := by decide +kernel
theorem dX2_takesPiece_4 : decode cX2_takesPiece 4 = .ok (.iconst 2, 1) := by decide +kernel
theorem dX2_takesPiece_5 : decode cX2_takesPiece 5 = .ok (.if_icmp .ne 8, 3) := by decide +kernel
theorem dX2_takesPiece_8 : decode cX2_takesPiece 8 = .ok (.aload_n 0, 1) := by decide +kernel
theorem dX2_takesPiece_9 : decode cX2_takesPiece 9 = .ok (.invokevirtual 126, 3) := by decide +kernel
theorem dX2_takesPiece_12 : decode cX2_takesPiece 12 = .ok (.ireturn, 1) := by decide +kernel
theorem dX2_takesPiece_13 : decode cX2_takesPiece 13 = .ok (.iload_n 1, 1) := by decide +kernel
theorem dX2_takesPiece_14 : decode cX2_takesPiece 14 = .ok (.invokestatic 92, 3) := by decide +kernel
theorem dX2_takesPiece_17 : decode cX2_takesPiece 17 = .ok (.iconst 1, 1) := by decide +kernel
theorem dX2_takesPiece_18 : decode cX2_takesPiece 18 = .ok (.if_icmp .ne 9, 3) := by decide +kernel
theorem dX2_takesPiece_21 : decode cX2_takesPiece 21 = .ok (.aload_n 0, 1) := by decide +kernel
theorem dX2_takesPiece_22 : decode cX2_takesPiece 22 = .ok (.iload_n 1, 1) := by decide +kernel
theorem dX2_takesPiece_23 : decode cX2_takesPiece 23 = .ok (.invokevirtual 129, 3) := by decide +kernel
theorem dX2_takesPiece_26 : decode cX2_takesPiece 26 = .ok (.ireturn, 1) := by decide +kernel
theorem dX2_takesPiece_27 : decode cX2_takesPiece 27 = .ok (.iload_n 1, 1) := by decide +kernel
theorem dX2_takesPiece_28 : decode cX2_takesPiece 28 = .ok (.bipush 40, 2) := by decide +kernel
theorem dX2_takesPiece_30 : decode cX2_takesPiece 30 = .ok (.if_icmp .ne 46, 3) := by decide +kernel
theorem dX2_takesPiece_33 : decode cX2_takesPiece 33 = .ok (.aload_n 0, 1) := by decide +kernel
theorem dX2_takesPiece_34 : decode cX2_takesPiece 34 = .ok (.getfield 41, 3) := by decide +kernel
theorem dX2_takesPiece_37 : decode cX2_takesPiece 37 = .ok (.bipush 8, 2) := by decide +kernel
theorem dX2_takesPiece_39 : decode cX2_takesPiece 39 = .ok (.if_icmp .ge 37, 3) := by decide +kernel
theorem dX2_takesPiece_42 : decode cX2_takesPiece 42 = .ok (.aload_n 0, 1) := by decide +kernel
theorem dX2_takesPiece_43 : decode cX2_takesPiece 43 = .ok (.iload_n 1, 1) := by decide +kernel
theorem dX2_takesPiece_44 : decode cX2_takesPiece 44 = .ok (.invokevirtual 132, 3) := by decide +kernel
theorem dX2_takesPiece_47 : decode cX2_takesPiece 47 = .ok (.aload_n 0, 1) := by decide +kernel
theorem dX2_takesPiece_48 : decode cX2_takesPiece 48 = .ok (.dup, 1) := by decide +kernel
theorem dX2_takesPiece_49 : decode cX2_takesPiece 49 = .ok (.getfield 41, 3) := by decide +kernel
theorem dX2_takesPiece_52 : decode cX2_takesPiece 52 = .ok (.iconst 1, 1) := by decide +kernel
theorem dX2_takesPiece_53 : decode cX2_takesPiece 53 = .ok (.iadd, 1) := by decide +kernel
theorem dX2_takesPiece_54 : decode cX2_takesPiece 54 = .ok (.putfield 41, 3) := by decide +kernel
theorem dX2_takesPiece_57 : decode cX2_takesPiece 57 = .ok (.aload_n 0, 1) := by decide +kernel
theorem dX2_takesPiece_58 : decode cX2_takesPiece 58 = .ok (.dup, 1) := by decide +kernel
theorem dX2_takesPiece_59 : decode cX2_takesPiece 59 = .ok (.getfield 47, 3) := by decide +kernel
theorem dX2_takesPiece_62 : decode cX2_takesPiece 62 = .ok (.iconst 1, 1) := by decide +kernel
theorem dX2_takesPiece_63 : decode cX2_takesPiece 63 = .ok (.aload_n 0, 1) := by decide +kernel
theorem dX2_takesPiece_64 : decode cX2_takesPiece 64 = .ok (.getfield 41, 3) := by decide +kernel
theorem dX2_takesPiece_67 : decode cX2_takesPiece 67 = .ok (.ishl, 1) := by decide +kernel
theorem dX2_takesPiece_68 : decode cX2_takesPiece 68 = .ok (.iconst (-1), 1) := by decide +kernel
theorem dX2_takesPiece_69 : decode cX2_takesPiece 69 = .ok (.ixor, 1) := by decide +kernel
theorem dX2_takesPiece_70 : decode cX2_takesPiece 70 = .ok (.iand, 1) := by decide +kernel
theorem dX2_takesPiece_71 : decode cX2_takesPiece 71 = .ok (.putfield 47, 3) := by decide +kernel
theorem dX2_takesPiece_74 : decode cX2_takesPiece 74 = .ok (.iconst 1, 1) := by decide +kernel
theorem dX2_takesPiece_75 : decode cX2_takesPiece 75 = .ok (.ireturn, 1) := by decide +kernel
theorem dX2_takesPiece_76 : decode cX2_takesPiece 76 = .ok (.iload_n 1, 1) := by decide +kernel
theorem dX2_takesPiece_77 : decode cX2_takesPiece 77 = .ok (.bipush 33, 2) := by decide +kernel
theorem dX2_takesPiece_79 : decode cX2_takesPiece 79 = .ok (.if_icmp .ne 29, 3) := by decide +kernel
theorem dX2_takesPiece_82 : decode cX2_takesPiece 82 = .ok (.aload_n 0, 1) := by decide +kernel
theorem dX2_takesPiece_83 : decode cX2_takesPiece 83 = .ok (.getfield 44, 3) := by decide +kernel
theorem dX2_takesPiece_86 : decode cX2_takesPiece 86 = .ok (.bipush 8, 2) := by decide +kernel
theorem dX2_takesPiece_88 : decode cX2_takesPiece 88 = .ok (.if_icmp .ge 20, 3) := by decide +kernel
theorem dX2_takesPiece_91 : decode cX2_takesPiece 91 = .ok (.aload_n 0, 1) := by decide +kernel
theorem dX2_takesPiece_92 : decode cX2_takesPiece 92 = .ok (.iload_n 1, 1) := by decide +kernel
theorem dX2_takesPiece_93 : decode cX2_takesPiece 93 = .ok (.invokevirtual 132, 3) := by decide +kernel
theorem dX2_takesPiece_96 : decode cX2_takesPiece 96 = .ok (.aload_n 0, 1) := by decide +kernel
theorem dX2_takesPiece_97 : decode cX2_takesPiece 97 = .ok (.dup, 1) := by decide +kernel
theorem dX2_takesPiece_98 : decode cX2_takesPiece 98 = .ok (.getfield 44, 3) := by decide +kernel
theorem dX2_takesPiece_101 : decode cX2_takesPiece 101 = .ok (.iconst 1, 1) := by decide +kernel
theorem dX2_takesPiece_102 : decode cX2_takesPiece 102 = .ok (.iadd, 1) := by decide +kernel
theorem dX2_takesPiece_103 : decode cX2_takesPiece 103 = .ok (.putfield 44, 3) := by decide +kernel
theorem dX2_takesPiece_106 : decode cX2_takesPiece 106 = .ok (.iconst 1, 1) := by decide +kernel
theorem dX2_takesPiece_107 : decode cX2_takesPiece 107 = .ok (.ireturn, 1) := by decide +kernel
theorem dX2_takesPiece_108 : decode cX2_takesPiece 108 = .ok (.iconst 0, 1) := by decide +kernel
theorem dX2_takesPiece_109 : decode cX2_takesPiece 109 = .ok (.ireturn, 1) := by decide +kernel
theorem dX2_takesNumber_0 : decode cX2_takesNumber 0 = .ok (.aload_n 0, 1) := by decide +kernel
theorem dX2_takesNumber_1 : decode cX2_takesNumber 1 = .ok (.getfield 57, 3) := by decide +kernel
theorem dX2_takesNumber_4 : decode cX2_takesNumber 4 = .ok (.aload_n 0, 1) := by decide +kernel
theorem dX2_takesNumber_5 : decode cX2_takesNumber 5 = .ok (.getfield 54, 3) := by decide +kernel
theorem dX2_takesNumber_8 : decode cX2_takesNumber 8 = .ok (.isub, 1) := by decide +kernel
theorem dX2_takesNumber_9 : decode cX2_takesNumber 9 = .ok (.iconst 4, 1) := by decide +kernel
theorem dX2_takesNumber_10 : decode cX2_takesNumber 10 = .ok (.if_icmp .le 5, 3) := by decide +kernel
theorem dX2_takesNumber_13 : decode cX2_takesNumber 13 = .ok (.iconst 0, 1) := by decide +kernel
theorem dX2_takesNumber_14 : decode cX2_takesNumber 14 = .ok (.ireturn, 1) := by decide +kernel
theorem dX2_takesNumber_15 : decode cX2_takesNumber 15 = .ok (.iconst 0, 1) := by decide +kernel
theorem dX2_takesNumber_16 : decode cX2_takesNumber 16 = .ok (.istore_n 1, 1) := by decide +kernel
theorem dX2_takesNumber_17 : decode cX2_takesNumber 17 = .ok (.aload_n 0, 1) := by decide +kernel
theorem dX2_takesNumber_18 : decode cX2_takesNumber 18 = .ok (.getfield 54, 3) := by decide +kernel
theorem dX2_takesNumber_21 : decode cX2_takesNumber 21 = .ok (.istore_n 2, 1) := by decide +kernel
theorem dX2_takesNumber_22 : decode cX2_takesNumber 22 = .ok (.iload_n 2, 1) := by decide +kernel
theorem dX2_takesNumber_23 : decode cX2_takesNumber 23 = .ok (.aload_n 0, 1) := by decide +kernel
theorem dX2_takesNumber_24 : decode cX2_takesNumber 24 = .ok (.getfield 57, 3) := by decide +kernel
theorem dX2_takesNumber_27 : decode cX2_takesNumber 27 = .ok (.if_icmp .ge 26, 3) := by decide +kernel
theorem dX2_takesNumber_30 : decode cX2_takesNumber 30 = .ok (.iload_n 1, 1) := by decide +kernel
theorem dX2_takesNumber_31 : decode cX2_takesNumber 31 = .ok (.bipush 10, 2) := by decide +kernel
theorem dX2_takesNumber_33 : decode cX2_takesNumber 33 = .ok (.imul, 1) := by decide +kernel
theorem dX2_takesNumber_34 : decode cX2_takesNumber 34 = .ok (.aload_n 0, 1) := by decide +kernel
theorem dX2_takesNumber_35 : decode cX2_takesNumber 35 = .ok (.getfield 12, 3) := by decide +kernel
theorem dX2_takesNumber_38 : decode cX2_takesNumber 38 = .ok (.iload_n 2, 1) := by decide +kernel
theorem dX2_takesNumber_39 : decode cX2_takesNumber 39 = .ok (.invokevirtual 88, 3) := by decide +kernel
theorem dX2_takesNumber_42 : decode cX2_takesNumber 42 = .ok (.iadd, 1) := by decide +kernel
theorem dX2_takesNumber_43 : decode cX2_takesNumber 43 = .ok (.bipush 48, 2) := by decide +kernel
theorem dX2_takesNumber_45 : decode cX2_takesNumber 45 = .ok (.isub, 1) := by decide +kernel
theorem dX2_takesNumber_46 : decode cX2_takesNumber 46 = .ok (.istore_n 1, 1) := by decide +kernel
theorem dX2_takesNumber_47 : decode cX2_takesNumber 47 = .ok (.iinc 2 1, 3) := by decide +kernel
theorem dX2_takesNumber_50 : decode cX2_takesNumber 50 = .ok (.goto (-28), 3) := by decide +kernel
theorem dX2_takesNumber_53 : decode cX2_takesNumber 53 = .ok (.aload_n 0, 1) := by decide +kernel
theorem dX2_takesNumber_54 : decode cX2_takesNumber 54 = .ok (.iload_n 1, 1) := by decide +kernel
theorem dX2_takesNumber_55 : decode cX2_takesNumber 55 = .ok (.invokevirtual 135, 3) := by decide +kernel
theorem dX2_takesNumber_58 : decode cX2_takesNumber 58 = .ok (.iconst 1, 1) := by decide +kernel
theorem dX2_takesNumber_59 : decode cX2_takesNumber 59 = .ok (.ireturn, 1) := by decide +kernel
theorem dX2_takesName_0 : decode cX2_takesName 0 = .ok (.aload_n 0, 1) := by decide +kernel
theorem dX2_takesName_1 : decode cX2_takesName 1 = .ok (.getfield 35, 3) := by decide +kernel
theorem dX2_takesName_4 : decode cX2_takesName 4 = .ok (.invokestatic 138, 3) := by decide +kernel
theorem dX2_takesName_7 : decode cX2_takesName 7 = .ok (.iload_n 1, 1) := by decide +kernel
theorem dX2_takesName_8 : decode cX2_takesName 8 = .ok (.i2c, 1) := by decide +kernel
theorem dX2_takesName_9 : decode cX2_takesName 9 = .ok (.invokevirtual 142, 3) := by decide +kernel
theorem dX2_takesName_12 : decode cX2_takesName 12 = .ok (.istore_n 2, 1) := by decide +kernel
theorem dX2_takesName_13 : decode cX2_takesName 13 = .ok (.aload_n 0, 1) := by decide +kernel
theorem dX2_takesName_14 : decode cX2_takesName 14 = .ok (.getfield 57, 3) := by decide +kernel
theorem dX2_takesName_17 : decode cX2_takesName 17 = .ok (.aload_n 0, 1) := by decide +kernel
theorem dX2_takesName_18 : decode cX2_takesName 18 = .ok (.getfield 54, 3) := by decide +kernel
theorem dX2_takesName_21 : decode cX2_takesName 21 = .ok (.isub, 1) := by decide +kernel
theorem dX2_takesName_22 : decode cX2_takesName 22 = .ok (.iconst 1, 1) := by decide +kernel
theorem dX2_takesName_23 : decode cX2_takesName 23 = .ok (.if_icmp .ne 7, 3) := by decide +kernel
theorem dX2_takesName_26 : decode cX2_takesName 26 = .ok (.iload_n 2, 1) := by decide +kernel
theorem dX2_takesName_27 : decode cX2_takesName 27 = .ok (.ifCond .ge 5, 3) := by decide +kernel
theorem dX2_takesName_30 : decode cX2_takesName 30 = .ok (.iconst 0, 1) := by decide +kernel
theorem dX2_takesName_31 : decode cX2_takesName 31 = .ok (.ireturn, 1) := by decide +kernel
theorem dX2_takesName_32 : decode cX2_takesName 32 = .ok (.aload_n 0, 1) := by decide +kernel
theorem dX2_takesName_33 : decode cX2_takesName 33 = .ok (.sipush 10000, 3) := by decide +kernel
theorem dX2_takesName_36 : decode cX2_takesName 36 = .ok (.iload_n 2, 1) := by decide +kernel
theorem dX2_takesName_37 : decode cX2_takesName 37 = .ok (.iadd, 1) := by decide +kernel
theorem dX2_takesName_38 : decode cX2_takesName 38 = .ok (.invokevirtual 135, 3) := by decide +kernel
theorem dX2_takesName_41 : decode cX2_takesName 41 = .ok (.iconst 1, 1) := by decide +kernel
theorem dX2_takesName_42 : decode cX2_takesName 42 = .ok (.ireturn, 1) := by decide +kernel
theorem dX2_namesOf_0 : decode cX2_namesOf 0 = .ok (.iload_n 0, 1) := by decide +kernel
theorem dX2_namesOf_1 : decode cX2_namesOf 1 = .ok (.lookupswitch 33 #[(0, 27), (1, 30)], 27) := by decide +kernel
theorem dX2_namesOf_28 : decode cX2_namesOf 28 = .ok (.ldc 145, 2) := by decide +kernel
theorem dX2_namesOf_30 : decode cX2_namesOf 30 = .ok (.areturn, 1) := by decide +kernel
theorem dX2_namesOf_31 : decode cX2_namesOf 31 = .ok (.ldc 147, 2) := by decide +kernel
theorem dX2_namesOf_33 : decode cX2_namesOf 33 = .ok (.areturn, 1) := by decide +kernel
theorem dX2_namesOf_34 : decode cX2_namesOf 34 = .ok (.ldc 149, 2) := by decide +kernel
theorem dX2_namesOf_36 : decode cX2_namesOf 36 = .ok (.areturn, 1) := by decide +kernel
theorem dX2_takesSign_0 : decode cX2_takesSign 0 = .ok (.iload_n 1, 1) := by decide +kernel
theorem dX2_takesSign_1 : decode cX2_takesSign 1 = .ok (.bipush 41, 2) := by decide +kernel
theorem dX2_takesSign_3 : decode cX2_takesSign 3 = .ok (.if_icmp .ne 8, 3) := by decide +kernel
theorem dX2_takesSign_6 : decode cX2_takesSign 6 = .ok (.aload_n 0, 1) := by decide +kernel
theorem dX2_takesSign_7 : decode cX2_takesSign 7 = .ok (.invokevirtual 151, 3) := by decide +kernel
theorem dX2_takesSign_10 : decode cX2_takesSign 10 = .ok (.ireturn, 1) := by decide +kernel
theorem dX2_takesSign_11 : decode cX2_takesSign 11 = .ok (.iload_n 1, 1) := by decide +kernel
theorem dX2_takesSign_12 : decode cX2_takesSign 12 = .ok (.invokestatic 154, 3) := by decide +kernel
theorem dX2_takesSign_15 : decode cX2_takesSign 15 = .ok (.istore_n 2, 1) := by decide +kernel
theorem dX2_takesSign_16 : decode cX2_takesSign 16 = .ok (.iload_n 2, 1) := by decide +kernel
theorem dX2_takesSign_17 : decode cX2_takesSign 17 = .ok (.iconst 3, 1) := by decide +kernel
theorem dX2_takesSign_18 : decode cX2_takesSign 18 = .ok (.if_icmp .ne 7, 3) := by decide +kernel
theorem dX2_takesSign_21 : decode cX2_takesSign 21 = .ok (.iconst 1, 1) := by decide +kernel
theorem dX2_takesSign_22 : decode cX2_takesSign 22 = .ok (.goto 4, 3) := by decide +kernel
theorem dX2_takesSign_25 : decode cX2_takesSign 25 = .ok (.iconst 0, 1) := by decide +kernel
theorem dX2_takesSign_26 : decode cX2_takesSign 26 = .ok (.istore_n 3, 1) := by decide +kernel
theorem dX2_takesSign_27 : decode cX2_takesSign 27 = .ok (.iload_n 2, 1) := by decide +kernel
theorem dX2_takesSign_28 : decode cX2_takesSign 28 = .ok (.ifCond .eq 21, 3) := by decide +kernel
theorem dX2_takesSign_31 : decode cX2_takesSign 31 = .ok (.iload_n 3, 1) := by decide +kernel
theorem dX2_takesSign_32 : decode cX2_takesSign 32 = .ok (.ifCond .eq 19, 3) := by decide +kernel
theorem dX2_takesSign_35 : decode cX2_takesSign 35 = .ok (.aload_n 0, 1) := by decide +kernel
theorem dX2_takesSign_36 : decode cX2_takesSign 36 = .ok (.getfield 47, 3) := by decide +kernel
theorem dX2_takesSign_39 : decode cX2_takesSign 39 = .ok (.iconst 1, 1) := by decide +kernel
theorem dX2_takesSign_40 : decode cX2_takesSign 40 = .ok (.aload_n 0, 1) := by decide +kernel
theorem dX2_takesSign_41 : decode cX2_takesSign 41 = .ok (.getfield 41, 3) := by decide +kernel
theorem dX2_takesSign_44 : decode cX2_takesSign 44 = .ok (.ishl, 1) := by decide +kernel
theorem dX2_takesSign_45 : decode cX2_takesSign 45 = .ok (.iand, 1) := by decide +kernel
theorem dX2_takesSign_46 : decode cX2_takesSign 46 = .ok (.ifCond .eq 5, 3) := by decide +kernel
theorem dX2_takesSign_49 : decode cX2_takesSign 49 = .ok (.iconst 0, 1) := by decide +kernel
theorem dX2_takesSign_50 : decode cX2_takesSign 50 = .ok (.ireturn, 1) := by decide +kernel
theorem dX2_takesSign_51 : decode cX2_takesSign 51 = .ok (.aload_n 0, 1) := by decide +kernel
theorem dX2_takesSign_52 : decode cX2_takesSign 52 = .ok (.iload_n 2, 1) := by decide +kernel
theorem dX2_takesSign_53 : decode cX2_takesSign 53 = .ok (.invokevirtual 79, 3) := by decide +kernel
theorem dX2_takesSign_56 : decode cX2_takesSign 56 = .ok (.aload_n 0, 1) := by decide +kernel
theorem dX2_takesSign_57 : decode cX2_takesSign 57 = .ok (.iload_n 1, 1) := by decide +kernel
theorem dX2_takesSign_58 : decode cX2_takesSign 58 = .ok (.invokevirtual 132, 3) := by decide +kernel
theorem dX2_takesSign_61 : decode cX2_takesSign 61 = .ok (.aload_n 0, 1) := by decide +kernel
theorem dX2_takesSign_62 : decode cX2_takesSign 62 = .ok (.iconst 1, 1) := by decide +kernel
theorem dX2_takesSign_63 : decode cX2_takesSign 63 = .ok (.putfield 50, 3) := by decide +kernel
theorem dX2_takesSign_66 : decode cX2_takesSign 66 = .ok (.iload_n 3, 1) := by decide +kernel
theorem dX2_takesSign_67 : decode cX2_takesSign 67 = .ok (.ifCond .eq 21, 3) := by decide +kernel
theorem dX2_takesSign_70 : decode cX2_takesSign 70 = .ok (.aload_n 0, 1) := by decide +kernel
theorem dX2_takesSign_71 : decode cX2_takesSign 71 = .ok (.dup, 1) := by decide +kernel
theorem dX2_takesSign_72 : decode cX2_takesSign 72 = .ok (.getfield 47, 3) := by decide +kernel
theorem dX2_takesSign_75 : decode cX2_takesSign 75 = .ok (.iconst 1, 1) := by decide +kernel
theorem dX2_takesSign_76 : decode cX2_takesSign 76 = .ok (.aload_n 0, 1) := by decide +kernel
theorem dX2_takesSign_77 : decode cX2_takesSign 77 = .ok (.getfield 41, 3) := by decide +kernel
theorem dX2_takesSign_80 : decode cX2_takesSign 80 = .ok (.ishl, 1) := by decide +kernel
theorem dX2_takesSign_81 : decode cX2_takesSign 81 = .ok (.ior, 1) := by decide +kernel
theorem dX2_takesSign_82 : decode cX2_takesSign 82 = .ok (.putfield 47, 3) := by decide +kernel
theorem dX2_takesSign_85 : decode cX2_takesSign 85 = .ok (.goto 25, 3) := by decide +kernel
theorem dX2_takesSign_88 : decode cX2_takesSign 88 = .ok (.iload_n 2, 1) := by decide +kernel
theorem dX2_takesSign_89 : decode cX2_takesSign 89 = .ok (.iconst 3, 1) := by decide +kernel
theorem dX2_takesSign_90 : decode cX2_takesSign 90 = .ok (.if_icmp .ge 20, 3) := by decide +kernel
theorem dX2_takesSign_93 : decode cX2_takesSign 93 = .ok (.aload_n 0, 1) := by decide +kernel
theorem dX2_takesSign_94 : decode cX2_takesSign 94 = .ok (.dup, 1) := by decide +kernel
theorem dX2_takesSign_95 : decode cX2_takesSign 95 = .ok (.getfield 47, 3) := by decide +kernel
theorem dX2_takesSign_98 : decode cX2_takesSign 98 = .ok (.iconst 1, 1) := by decide +kernel
theorem dX2_takesSign_99 : decode cX2_takesSign 99 = .ok (.aload_n 0, 1) := by decide +kernel
theorem dX2_takesSign_100 : decode cX2_takesSign 100 = .ok (.getfield 41, 3) := by decide +kernel
theorem dX2_takesSign_103 : decode cX2_takesSign 103 = .ok (.ishl, 1) := by decide +kernel
theorem dX2_takesSign_104 : decode cX2_takesSign 104 = .ok (.iconst (-1), 1) := by decide +kernel
theorem dX2_takesSign_105 : decode cX2_takesSign 105 = .ok (.ixor, 1) := by decide +kernel
theorem dX2_takesSign_106 : decode cX2_takesSign 106 = .ok (.iand, 1) := by decide +kernel
theorem dX2_takesSign_107 : decode cX2_takesSign 107 = .ok (.putfield 47, 3) := by decide +kernel
theorem dX2_takesSign_110 : decode cX2_takesSign 110 = .ok (.iconst 1, 1) := by decide +kernel
theorem dX2_takesSign_111 : decode cX2_takesSign 111 = .ok (.ireturn, 1) := by decide +kernel
theorem dX2_levelOf_0 : decode cX2_levelOf 0 = .ok (.iload_n 0, 1) := by decide +kernel
theorem dX2_levelOf_1 : decode cX2_levelOf 1 = .ok (.lookupswitch 93 #[(38, 85), (42, 91), (43, 89), (45, 89), (47, 91), (60, 87), (61, 87), (62, 87), (124, 83)], 83) := by decide +kernel
theorem dX2_levelOf_84 : decode cX2_levelOf 84 = .ok (.iconst 1, 1) := by decide +kernel
theorem dX2_levelOf_85 : decode cX2_levelOf 85 = .ok (.ireturn, 1) := by decide +kernel
theorem dX2_levelOf_86 : decode cX2_levelOf 86 = .ok (.iconst 2, 1) := by decide +kernel
theorem dX2_levelOf_87 : decode cX2_levelOf 87 = .ok (.ireturn, 1) := by decide +kernel
theorem dX2_levelOf_88 : decode cX2_levelOf 88 = .ok (.iconst 3, 1) := by decide +kernel
theorem dX2_levelOf_89 : decode cX2_levelOf 89 = .ok (.ireturn, 1) := by decide +kernel
theorem dX2_levelOf_90 : decode cX2_levelOf 90 = .ok (.iconst 4, 1) := by decide +kernel
theorem dX2_levelOf_91 : decode cX2_levelOf 91 = .ok (.ireturn, 1) := by decide +kernel
theorem dX2_levelOf_92 : decode cX2_levelOf 92 = .ok (.iconst 5, 1) := by decide +kernel
theorem dX2_levelOf_93 : decode cX2_levelOf 93 = .ok (.ireturn, 1) := by decide +kernel
theorem dX2_levelOf_94 : decode cX2_levelOf 94 = .ok (.iconst 0, 1) := by decide +kernel
theorem dX2_levelOf_95 : decode cX2_levelOf 95 = .ok (.ireturn, 1) := by decide +kernel
theorem dX2_closesBracket_0 : decode cX2_closesBracket 0 = .ok (.aload_n 0, 1) := by decide +kernel
theorem dX2_closesBracket_1 : decode cX2_closesBracket 1 = .ok (.getfield 41, 3) := by decide +kernel
theorem dX2_closesBracket_4 : decode cX2_closesBracket 4 = .ok (.ifCond .ne 5, 3) := by decide +kernel
theorem dX2_closesBracket_7 : decode cX2_closesBracket 7 = .ok (.iconst 0, 1) := by decide +kernel
theorem dX2_closesBracket_8 : decode cX2_closesBracket 8 = .ok (.ireturn, 1) := by decide +kernel
theorem dX2_closesBracket_9 : decode cX2_closesBracket 9 = .ok (.aload_n 0, 1) := by decide +kernel
theorem dX2_closesBracket_10 : decode cX2_closesBracket 10 = .ok (.iconst 1, 1) := by decide +kernel
theorem dX2_closesBracket_11 : decode cX2_closesBracket 11 = .ok (.invokevirtual 79, 3) := by decide +kernel
theorem dX2_closesBracket_14 : decode cX2_closesBracket 14 = .ok (.aload_n 0, 1) := by decide +kernel
theorem dX2_closesBracket_15 : decode cX2_closesBracket 15 = .ok (.invokevirtual 157, 3) := by decide +kernel
theorem dX2_closesBracket_18 : decode cX2_closesBracket 18 = .ok (.pop, 1) := by decide +kernel
theorem dX2_closesBracket_19 : decode cX2_closesBracket 19 = .ok (.aload_n 0, 1) := by decide +kernel
theorem dX2_closesBracket_20 : decode cX2_closesBracket 20 = .ok (.dup, 1) := by decide +kernel
theorem dX2_closesBracket_21 : decode cX2_closesBracket 21 = .ok (.getfield 41, 3) := by decide +kernel
theorem dX2_closesBracket_24 : decode cX2_closesBracket 24 = .ok (.iconst 1, 1) := by decide +kernel
theorem dX2_closesBracket_25 : decode cX2_closesBracket 25 = .ok (.isub, 1) := by decide +kernel
theorem dX2_closesBracket_26 : decode cX2_closesBracket 26 = .ok (.putfield 41, 3) := by decide +kernel
theorem dX2_closesBracket_29 : decode cX2_closesBracket 29 = .ok (.iconst 1, 1) := by decide +kernel
theorem dX2_closesBracket_30 : decode cX2_closesBracket 30 = .ok (.ireturn, 1) := by decide +kernel
theorem dX2_addPiece_0 : decode cX2_addPiece 0 = .ok (.aload_n 0, 1) := by decide +kernel
theorem dX2_addPiece_1 : decode cX2_addPiece 1 = .ok (.iload_n 1, 1) := by decide +kernel
theorem dX2_addPiece_2 : decode cX2_addPiece 2 = .ok (.invokevirtual 160, 3) := by decide +kernel
theorem dX2_addPiece_5 : decode cX2_addPiece 5 = .ok (.aload_n 0, 1) := by decide +kernel
theorem dX2_addPiece_6 : decode cX2_addPiece 6 = .ok (.dup, 1) := by decide +kernel
theorem dX2_addPiece_7 : decode cX2_addPiece 7 = .ok (.getfield 38, 3) := by decide +kernel
theorem dX2_addPiece_10 : decode cX2_addPiece 10 = .ok (.iconst 1, 1) := by decide +kernel
theorem dX2_addPiece_11 : decode cX2_addPiece 11 = .ok (.iadd, 1) := by decide +kernel
theorem dX2_addPiece_12 : decode cX2_addPiece 12 = .ok (.putfield 38, 3) := by decide +kernel
theorem dX2_addPiece_15 : decode cX2_addPiece 15 = .ok (.aload_n 0, 1) := by decide +kernel
theorem dX2_addPiece_16 : decode cX2_addPiece 16 = .ok (.iconst 0, 1) := by decide +kernel
theorem dX2_addPiece_17 : decode cX2_addPiece 17 = .ok (.putfield 50, 3) := by decide +kernel
theorem dX2_addPiece_20 : decode cX2_addPiece 20 = .ok (.return_, 1) := by decide +kernel
theorem dX2_closeBangs_0 : decode cX2_closeBangs 0 = .ok (.aload_n 0, 1) := by decide +kernel
theorem dX2_closeBangs_1 : decode cX2_closeBangs 1 = .ok (.getfield 32, 3) := by decide +kernel
theorem dX2_closeBangs_4 : decode cX2_closeBangs 4 = .ok (.istore_n 1, 1) := by decide +kernel
theorem dX2_closeBangs_5 : decode cX2_closeBangs 5 = .ok (.iload_n 1, 1) := by decide +kernel
theorem dX2_closeBangs_6 : decode cX2_closeBangs 6 = .ok (.ifCond .le 40, 3) := by decide +kernel
theorem dX2_closeBangs_9 : decode cX2_closeBangs 9 = .ok (.aload_n 0, 1) := by decide +kernel
theorem dX2_closeBangs_10 : decode cX2_closeBangs 10 = .ok (.invokevirtual 163, 3) := by decide +kernel
theorem dX2_closeBangs_13 : decode cX2_closeBangs 13 = .ok (.bipush 33, 2) := by decide +kernel
theorem dX2_closeBangs_15 : decode cX2_closeBangs 15 = .ok (.if_icmp .ne 31, 3) := by decide +kernel
theorem dX2_closeBangs_18 : decode cX2_closeBangs 18 = .ok (.aload_n 0, 1) := by decide +kernel
theorem dX2_closeBangs_19 : decode cX2_closeBangs 19 = .ok (.sipush 20000, 3) := by decide +kernel
theorem dX2_closeBangs_22 : decode cX2_closeBangs 22 = .ok (.aload_n 0, 1) := by decide +kernel
theorem dX2_closeBangs_23 : decode cX2_closeBangs 23 = .ok (.invokevirtual 157, 3) := by decide +kernel
theorem dX2_closeBangs_26 : decode cX2_closeBangs 26 = .ok (.iadd, 1) := by decide +kernel
theorem dX2_closeBangs_27 : decode cX2_closeBangs 27 = .ok (.invokevirtual 160, 3) := by decide +kernel
theorem dX2_closeBangs_30 : decode cX2_closeBangs 30 = .ok (.aload_n 0, 1) := by decide +kernel
theorem dX2_closeBangs_31 : decode cX2_closeBangs 31 = .ok (.dup, 1) := by decide +kernel
theorem dX2_closeBangs_32 : decode cX2_closeBangs 32 = .ok (.getfield 44, 3) := by decide +kernel
theorem dX2_closeBangs_35 : decode cX2_closeBangs 35 = .ok (.iconst 1, 1) := by decide +kernel
theorem dX2_closeBangs_36 : decode cX2_closeBangs 36 = .ok (.isub, 1) := by decide +kernel
theorem dX2_closeBangs_37 : decode cX2_closeBangs 37 = .ok (.putfield 44, 3) := by decide +kernel
theorem dX2_closeBangs_40 : decode cX2_closeBangs 40 = .ok (.iinc 1 (-1), 3) := by decide +kernel
theorem dX2_closeBangs_43 : decode cX2_closeBangs 43 = .ok (.goto (-38), 3) := by decide +kernel
theorem dX2_closeBangs_46 : decode cX2_closeBangs 46 = .ok (.return_, 1) := by decide +kernel
theorem dX2_closeDownTo_0 : decode cX2_closeDownTo 0 = .ok (.aload_n 0, 1) := by decide +kernel
theorem dX2_closeDownTo_1 : decode cX2_closeDownTo 1 = .ok (.getfield 32, 3) := by decide +kernel
theorem dX2_closeDownTo_4 : decode cX2_closeDownTo 4 = .ok (.istore_n 2, 1) := by decide +kernel
theorem dX2_closeDownTo_5 : decode cX2_closeDownTo 5 = .ok (.iload_n 2, 1) := by decide +kernel
theorem dX2_closeDownTo_6 : decode cX2_closeDownTo 6 = .ok (.ifCond .le 32, 3) := by decide +kernel
theorem dX2_closeDownTo_9 : decode cX2_closeDownTo 9 = .ok (.aload_n 0, 1) := by decide +kernel
theorem dX2_closeDownTo_10 : decode cX2_closeDownTo 10 = .ok (.invokevirtual 163, 3) := by decide +kernel
theorem dX2_closeDownTo_13 : decode cX2_closeDownTo 13 = .ok (.invokestatic 154, 3) := by decide +kernel
theorem dX2_closeDownTo_16 : decode cX2_closeDownTo 16 = .ok (.iload_n 1, 1) := by decide +kernel
theorem dX2_closeDownTo_17 : decode cX2_closeDownTo 17 = .ok (.if_icmp .lt 21, 3) := by decide +kernel
theorem dX2_closeDownTo_20 : decode cX2_closeDownTo 20 = .ok (.aload_n 0, 1) := by decide +kernel
theorem dX2_closeDownTo_21 : decode cX2_closeDownTo 21 = .ok (.sipush 20000, 3) := by decide +kernel
theorem dX2_closeDownTo_24 : decode cX2_closeDownTo 24 = .ok (.aload_n 0, 1) := by decide +kernel
theorem dX2_closeDownTo_25 : decode cX2_closeDownTo 25 = .ok (.invokevirtual 157, 3) := by decide +kernel
theorem dX2_closeDownTo_28 : decode cX2_closeDownTo 28 = .ok (.iadd, 1) := by decide +kernel
theorem dX2_closeDownTo_29 : decode cX2_closeDownTo 29 = .ok (.invokevirtual 160, 3) := by decide +kernel
theorem dX2_closeDownTo_32 : decode cX2_closeDownTo 32 = .ok (.iinc 2 (-1), 3) := by decide +kernel
theorem dX2_closeDownTo_35 : decode cX2_closeDownTo 35 = .ok (.goto (-30), 3) := by decide +kernel
theorem dX2_closeDownTo_38 : decode cX2_closeDownTo 38 = .ok (.return_, 1) := by decide +kernel
theorem dX2_topSign_0 : decode cX2_topSign 0 = .ok (.aload_n 0, 1) := by decide +kernel
theorem dX2_topSign_1 : decode cX2_topSign 1 = .ok (.getfield 32, 3) := by decide +kernel
theorem dX2_topSign_4 : decode cX2_topSign 4 = .ok (.ifCond .le 26, 3) := by decide +kernel
theorem dX2_topSign_7 : decode cX2_topSign 7 = .ok (.aload_n 0, 1) := by decide +kernel
theorem dX2_topSign_8 : decode cX2_topSign 8 = .ok (.getfield 32, 3) := by decide +kernel
theorem dX2_topSign_11 : decode cX2_topSign 11 = .ok (.bipush 96, 2) := by decide +kernel
theorem dX2_topSign_13 : decode cX2_topSign 13 = .ok (.if_icmp .gt 17, 3) := by decide +kernel
theorem dX2_topSign_16 : decode cX2_topSign 16 = .ok (.aload_n 0, 1) := by decide +kernel
theorem dX2_topSign_17 : decode cX2_topSign 17 = .ok (.getfield 22, 3) := by decide +kernel
theorem dX2_topSign_20 : decode cX2_topSign 20 = .ok (.aload_n 0, 1) := by decide +kernel
theorem dX2_topSign_21 : decode cX2_topSign 21 = .ok (.getfield 32, 3) := by decide +kernel
theorem dX2_topSign_24 : decode cX2_topSign 24 = .ok (.iconst 1, 1) := by decide +kernel
theorem dX2_topSign_25 : decode cX2_topSign 25 = .ok (.isub, 1) := by decide +kernel
theorem dX2_topSign_26 : decode cX2_topSign 26 = .ok (.iaload, 1) := by decide +kernel
theorem dX2_topSign_27 : decode cX2_topSign 27 = .ok (.goto 4, 3) := by decide +kernel
theorem dX2_topSign_30 : decode cX2_topSign 30 = .ok (.iconst 0, 1) := by decide +kernel
theorem dX2_topSign_31 : decode cX2_topSign 31 = .ok (.ireturn, 1) := by decide +kernel
theorem dX2_pop_0 : decode cX2_pop 0 = .ok (.aload_n 0, 1) := by decide +kernel
theorem dX2_pop_1 : decode cX2_pop 1 = .ok (.getfield 32, 3) := by decide +kernel
theorem dX2_pop_4 : decode cX2_pop 4 = .ok (.ifCond .le 12, 3) := by decide +kernel
theorem dX2_pop_7 : decode cX2_pop 7 = .ok (.aload_n 0, 1) := by decide +kernel
theorem dX2_pop_8 : decode cX2_pop 8 = .ok (.getfield 32, 3) := by decide +kernel
theorem dX2_pop_11 : decode cX2_pop 11 = .ok (.bipush 96, 2) := by decide +kernel
theorem dX2_pop_13 : decode cX2_pop 13 = .ok (.if_icmp .le 5, 3) := by decide +kernel
theorem dX2_pop_16 : decode cX2_pop 16 = .ok (.iconst 0, 1) := by decide +kernel
theorem dX2_pop_17 : decode cX2_pop 17 = .ok (.ireturn, 1) := by decide +kernel
theorem dX2_pop_18 : decode cX2_pop 18 = .ok (.aload_n 0, 1) := by decide +kernel
theorem dX2_pop_19 : decode cX2_pop 19 = .ok (.dup, 1) := by decide +kernel
theorem dX2_pop_20 : decode cX2_pop 20 = .ok (.getfield 32, 3) := by decide +kernel
theorem dX2_pop_23 : decode cX2_pop 23 = .ok (.iconst 1, 1) := by decide +kernel
theorem dX2_pop_24 : decode cX2_pop 24 = .ok (.isub, 1) := by decide +kernel
theorem dX2_pop_25 : decode cX2_pop 25 = .ok (.putfield 32, 3) := by decide +kernel
theorem dX2_pop_28 : decode cX2_pop 28 = .ok (.aload_n 0, 1) := by decide +kernel
theorem dX2_pop_29 : decode cX2_pop 29 = .ok (.getfield 22, 3) := by decide +kernel
theorem dX2_pop_32 : decode cX2_pop 32 = .ok (.aload_n 0, 1) := by decide +kernel
theorem dX2_pop_33 : decode cX2_pop 33 = .ok (.getfield 32, 3) := by decide +kernel
theorem dX2_pop_36 : decode cX2_pop 36 = .ok (.iaload, 1) := by decide +kernel
theorem dX2_pop_37 : decode cX2_pop 37 = .ok (.ireturn, 1) := by decide +kernel
theorem dX2_push_0 : decode cX2_push 0 = .ok (.aload_n 0, 1) := by decide +kernel
theorem dX2_push_1 : decode cX2_push 1 = .ok (.getfield 32, 3) := by decide +kernel
theorem dX2_push_4 : decode cX2_push 4 = .ok (.bipush 96, 2) := by decide +kernel
theorem dX2_push_6 : decode cX2_push 6 = .ok (.if_icmp .ge 23, 3) := by decide +kernel
theorem dX2_push_9 : decode cX2_push 9 = .ok (.aload_n 0, 1) := by decide +kernel
theorem dX2_push_10 : decode cX2_push 10 = .ok (.getfield 22, 3) := by decide +kernel
theorem dX2_push_13 : decode cX2_push 13 = .ok (.aload_n 0, 1) := by decide +kernel
theorem dX2_push_14 : decode cX2_push 14 = .ok (.getfield 32, 3) := by decide +kernel
theorem dX2_push_17 : decode cX2_push 17 = .ok (.iload_n 1, 1) := by decide +kernel
theorem dX2_push_18 : decode cX2_push 18 = .ok (.iastore, 1) := by decide +kernel
theorem dX2_push_19 : decode cX2_push 19 = .ok (.aload_n 0, 1) := by decide +kernel
theorem dX2_push_20 : decode cX2_push 20 = .ok (.dup, 1) := by decide +kernel
theorem dX2_push_21 : decode cX2_push 21 = .ok (.getfield 32, 3) := by decide +kernel
theorem dX2_push_24 : decode cX2_push 24 = .ok (.iconst 1, 1) := by decide +kernel
theorem dX2_push_25 : decode cX2_push 25 = .ok (.iadd, 1) := by decide +kernel
theorem dX2_push_26 : decode cX2_push 26 = .ok (.putfield 32, 3) := by decide +kernel
theorem dX2_push_29 : decode cX2_push 29 = .ok (.return_, 1) := by decide +kernel
theorem dX2_addCode_0 : decode cX2_addCode 0 = .ok (.aload_n 0, 1) := by decide +kernel
theorem dX2_addCode_1 : decode cX2_addCode 1 = .ok (.getfield 29, 3) := by decide +kernel
theorem dX2_addCode_4 : decode cX2_addCode 4 = .ok (.bipush 96, 2) := by decide +kernel
theorem dX2_addCode_6 : decode cX2_addCode 6 = .ok (.if_icmp .ge 23, 3) := by decide +kernel
theorem dX2_addCode_9 : decode cX2_addCode 9 = .ok (.aload_n 0, 1) := by decide +kernel
theorem dX2_addCode_10 : decode cX2_addCode 10 = .ok (.getfield 18, 3) := by decide +kernel
theorem dX2_addCode_13 : decode cX2_addCode 13 = .ok (.aload_n 0, 1) := by decide +kernel
theorem dX2_addCode_14 : decode cX2_addCode 14 = .ok (.getfield 29, 3) := by decide +kernel
theorem dX2_addCode_17 : decode cX2_addCode 17 = .ok (.iload_n 1, 1) := by decide +kernel
theorem dX2_addCode_18 : decode cX2_addCode 18 = .ok (.iastore, 1) := by decide +kernel
theorem dX2_addCode_19 : decode cX2_addCode 19 = .ok (.aload_n 0, 1) := by decide +kernel
theorem dX2_addCode_20 : decode cX2_addCode 20 = .ok (.dup, 1) := by decide +kernel
theorem dX2_addCode_21 : decode cX2_addCode 21 = .ok (.getfield 29, 3) := by decide +kernel
theorem dX2_addCode_24 : decode cX2_addCode 24 = .ok (.iconst 1, 1) := by decide +kernel
theorem dX2_addCode_25 : decode cX2_addCode 25 = .ok (.iadd, 1) := by decide +kernel
theorem dX2_addCode_26 : decode cX2_addCode 26 = .ok (.putfield 29, 3) := by decide +kernel
theorem dX2_addCode_29 : decode cX2_addCode 29 = .ok (.return_, 1) := by decide +kernel
theorem dX3_init_0 : decode cX3_init 0 = .ok (.aload_n 0, 1) := by decide +kernel
theorem dX3_init_1 : decode cX3_init 1 = .ok (.invokespecial 3, 3) := by decide +kernel
theorem dX3_init_4 : decode cX3_init 4 = .ok (.aload_n 0, 1) := by decide +kernel
theorem dX3_init_5 : decode cX3_init 5 = .ok (.bipush 12, 2) := by decide +kernel
theorem dX3_init_7 : decode cX3_init 7 = .ok (.anewarray 9, 3) := by decide +kernel
theorem dX3_init_10 : decode cX3_init 10 = .ok (.putfield 11, 3) := by decide +kernel
theorem dX3_init_13 : decode cX3_init 13 = .ok (.aload_n 0, 1) := by decide +kernel
theorem dX3_init_14 : decode cX3_init 14 = .ok (.bipush 12, 2) := by decide +kernel
theorem dX3_init_16 : decode cX3_init 16 = .ok (.newarray .int, 2) := by decide +kernel
theorem dX3_init_18 : decode cX3_init 18 = .ok (.putfield 17, 3) := by decide +kernel
theorem dX3_init_21 : decode cX3_init 21 = .ok (.aload_n 0, 1) := by decide +kernel
theorem dX3_init_22 : decode cX3_init 22 = .ok (.bipush 12, 2) := by decide +kernel
theorem dX3_init_24 : decode cX3_init 24 = .ok (.newarray .int, 2) := by decide +kernel
theorem dX3_init_26 : decode cX3_init 26 = .ok (.putfield 21, 3) := by decide +kernel
theorem dX3_init_29 : decode cX3_init 29 = .ok (.aload_n 0, 1) := by decide +kernel
theorem dX3_init_30 : decode cX3_init 30 = .ok (.bipush 12, 2) := by decide +kernel
theorem dX3_init_32 : decode cX3_init 32 = .ok (.newarray .int, 2) := by decide +kernel
theorem dX3_init_34 : decode cX3_init 34 = .ok (.putfield 24, 3) := by decide +kernel
theorem dX3_init_37 : decode cX3_init 37 = .ok (.aload_n 0, 1) := by decide +kernel
theorem dX3_init_38 : decode cX3_init 38 = .ok (.bipush 12, 2) := by decide +kernel
theorem dX3_init_40 : decode cX3_init 40 = .ok (.newarray .int, 2) := by decide +kernel
theorem dX3_init_42 : decode cX3_init 42 = .ok (.putfield 27, 3) := by decide +kernel
theorem dX3_init_45 : decode cX3_init 45 = .ok (.aload_n 0, 1) := by decide +kernel
theorem dX3_init_46 : decode cX3_init 46 = .ok (.bipush 14, 2) := by decide +kernel
theorem dX3_init_48 : decode cX3_init 48 = .ok (.anewarray 30, 3) := by decide +kernel
theorem dX3_init_51 : decode cX3_init 51 = .ok (.putfield 32, 3) := by decide +kernel
theorem dX3_init_54 : decode cX3_init 54 = .ok (.aload_n 0, 1) := by decide +kernel
theorem dX3_init_55 : decode cX3_init 55 = .ok (.iconst 0, 1) := by decide +kernel
theorem dX3_init_56 : decode cX3_init 56 = .ok (.putfield 36, 3) := by decide +kernel
theorem dX3_init_59 : decode cX3_init 59 = .ok (.aload_n 0, 1) := by decide +kernel
theorem dX3_init_60 : decode cX3_init 60 = .ok (.iconst 0, 1) := by decide +kernel
theorem dX3_init_61 : decode cX3_init 61 = .ok (.putfield 40, 3) := by decide +kernel
theorem dX3_init_64 : decode cX3_init 64 = .ok (.aload_n 0, 1) := by decide +kernel
theorem dX3_init_65 : decode cX3_init 65 = .ok (.iconst 0, 1) := by decide +kernel
theorem dX3_init_66 : decode cX3_init 66 = .ok (.putfield 43, 3) := by decide +kernel
theorem dX3_init_69 : decode cX3_init 69 = .ok (.aload_n 0, 1) := by decide +kernel
theorem dX3_init_70 : decode cX3_init 70 = .ok (.iconst 3, 1) := by decide +kernel
theorem dX3_init_71 : decode cX3_init 71 = .ok (.putfield 46, 3) := by decide +kernel
theorem dX3_init_74 : decode cX3_init 74 = .ok (.aload_n 0, 1) := by decide +kernel
theorem dX3_init_75 : decode cX3_init 75 = .ok (.iconst 0, 1) := by decide +kernel
theorem dX3_init_76 : decode cX3_init 76 = .ok (.putfield 49, 3) := by decide +kernel
theorem dX3_init_79 : decode cX3_init 79 = .ok (.aload_n 0, 1) := by decide +kernel
theorem dX3_init_80 : decode cX3_init 80 = .ok (.iconst 0, 1) := by decide +kernel
theorem dX3_init_81 : decode cX3_init 81 = .ok (.putfield 52, 3) := by decide +kernel
theorem dX3_init_84 : decode cX3_init 84 = .ok (.aload_n 0, 1) := by decide +kernel
theorem dX3_init_85 : decode cX3_init 85 = .ok (.iconst 0, 1) := by decide +kernel
theorem dX3_init_86 : decode cX3_init 86 = .ok (.putfield 55, 3) := by decide +kernel
theorem dX3_init_89 : decode cX3_init 89 = .ok (.aload_n 0, 1) := by decide +kernel
theorem dX3_init_90 : decode cX3_init 90 = .ok (.iconst 0, 1) := by decide +kernel
theorem dX3_init_91 : decode cX3_init 91 = .ok (.putfield 58, 3) := by decide +kernel
theorem dX3_init_94 : decode cX3_init 94 = .ok (.aload_n 0, 1) := by decide +kernel
theorem dX3_init_95 : decode cX3_init 95 = .ok (.iconst 0, 1) := by decide +kernel
theorem dX3_init_96 : decode cX3_init 96 = .ok (.putfield 61, 3) := by decide +kernel
theorem dX3_init_99 : decode cX3_init 99 = .ok (.aload_n 0, 1) := by decide +kernel
theorem dX3_init_100 : decode cX3_init 100 = .ok (.iconst 1, 1) := by decide +kernel
theorem dX3_init_101 : decode cX3_init 101 = .ok (.putfield 64, 3) := by decide +kernel
theorem dX3_init_104 : decode cX3_init 104 = .ok (.iconst 0, 1) := by decide +kernel
theorem dX3_init_105 : decode cX3_init 105 = .ok (.istore_n 1, 1) := by decide +kernel
theorem dX3_init_106 : decode cX3_init 106 = .ok (.iload_n 1, 1) := by decide +kernel
theorem dX3_init_107 : decode cX3_init 107 = .ok (.bipush 12, 2) := by decide +kernel
theorem dX3_init_109 : decode cX3_init 109 = .ok (.if_icmp .ge 22, 3) := by decide +kernel
theorem dX3_init_112 : decode cX3_init 112 = .ok (.aload_n 0, 1) := by decide +kernel
theorem dX3_init_113 : decode cX3_init 113 = .ok (.getfield 11, 3) := by decide +kernel
theorem dX3_init_116 : decode cX3_init 116 = .ok (.iload_n 1, 1) := by decide +kernel
theorem dX3_init_117 : decode cX3_init 117 = .ok (.new 9, 3) := by decide +kernel
theorem dX3_init_120 : decode cX3_init 120 = .ok (.dup, 1) := by decide +kernel
theorem dX3_init_121 : decode cX3_init 121 = .ok (.invokespecial 67, 3) := by decide +kernel
theorem dX3_init_124 : decode cX3_init 124 = .ok (.aastore, 1) := by decide +kernel
theorem dX3_init_125 : decode cX3_init 125 = .ok (.iinc 1 1, 3) := by decide +kernel
theorem dX3_init_128 : decode cX3_init 128 = .ok (.goto (-22), 3) := by decide +kernel
theorem dX3_init_131 : decode cX3_init 131 = .ok (.iconst 0, 1) := by decide +kernel
theorem dX3_init_132 : decode cX3_init 132 = .ok (.istore_n 1, 1) := by decide +kernel
theorem dX3_init_133 : decode cX3_init 133 = .ok (.iload_n 1, 1) := by decide +kernel
theorem dX3_init_134 : decode cX3_init 134 = .ok (.bipush 12, 2) := by decide +kernel
theorem dX3_init_136 : decode cX3_init 136 = .ok (.if_icmp .ge 16, 3) := by decide +kernel
theorem dX3_init_139 : decode cX3_init 139 = .ok (.aload_n 0, 1) := by decide +kernel
theorem dX3_init_140 : decode cX3_init 140 = .ok (.getfield 17, 3) := by decide +kernel
theorem dX3_init_143 : decode cX3_init 143 = .ok (.iload_n 1, 1) := by decide +kernel
theorem dX3_init_144 : decode cX3_init 144 = .ok (.iconst 4, 1) := by decide +kernel
theorem dX3_init_145 : decode cX3_init 145 = .ok (.iastore, 1) := by decide +kernel
theorem dX3_init_146 : decode cX3_init 146 = .ok (.iinc 1 1, 3) := by decide +kernel
theorem dX3_init_149 : decode cX3_init 149 = .ok (.goto (-16), 3) := by decide +kernel
theorem dX3_init_152 : decode cX3_init 152 = .ok (.return_, 1) := by decide +kernel
theorem dX3_takeOver_0 : decode cX3_takeOver 0 = .ok (.aload_n 0, 1) := by decide +kernel
theorem dX3_takeOver_1 : decode cX3_takeOver 1 = .ok (.aload_n 1, 1) := by decide +kernel
theorem dX3_takeOver_2 : decode cX3_takeOver 2 = .ok (.getfield 36, 3) := by decide +kernel
theorem dX3_takeOver_5 : decode cX3_takeOver 5 = .ok (.putfield 36, 3) := by decide +kernel
theorem dX3_takeOver_8 : decode cX3_takeOver 8 = .ok (.aload_n 0, 1) := by decide +kernel
theorem dX3_takeOver_9 : decode cX3_takeOver 9 = .ok (.aload_n 1, 1) := by decide +kernel
theorem dX3_takeOver_10 : decode cX3_takeOver 10 = .ok (.getfield 40, 3) := by decide +kernel
theorem dX3_takeOver_13 : decode cX3_takeOver 13 = .ok (.putfield 40, 3) := by decide +kernel
theorem dX3_takeOver_16 : decode cX3_takeOver 16 = .ok (.aload_n 0, 1) := by decide +kernel
theorem dX3_takeOver_17 : decode cX3_takeOver 17 = .ok (.aload_n 1, 1) := by decide +kernel
theorem dX3_takeOver_18 : decode cX3_takeOver 18 = .ok (.getfield 43, 3) := by decide +kernel
theorem dX3_takeOver_21 : decode cX3_takeOver 21 = .ok (.putfield 43, 3) := by decide +kernel
theorem dX3_takeOver_24 : decode cX3_takeOver 24 = .ok (.aload_n 0, 1) := by decide +kernel
theorem dX3_takeOver_25 : decode cX3_takeOver 25 = .ok (.aload_n 1, 1) := by decide +kernel
theorem dX3_takeOver_26 : decode cX3_takeOver 26 = .ok (.getfield 46, 3) := by decide +kernel
theorem dX3_takeOver_29 : decode cX3_takeOver 29 = .ok (.putfield 46, 3) := by decide +kernel
theorem dX3_takeOver_32 : decode cX3_takeOver 32 = .ok (.aload_n 0, 1) := by decide +kernel
theorem dX3_takeOver_33 : decode cX3_takeOver 33 = .ok (.aload_n 1, 1) := by decide +kernel
theorem dX3_takeOver_34 : decode cX3_takeOver 34 = .ok (.getfield 49, 3) := by decide +kernel
theorem dX3_takeOver_37 : decode cX3_takeOver 37 = .ok (.putfield 49, 3) := by decide +kernel
theorem dX3_takeOver_40 : decode cX3_takeOver 40 = .ok (.aload_n 0, 1) := by decide +kernel
theorem dX3_takeOver_41 : decode cX3_takeOver 41 = .ok (.aload_n 1, 1) := by decide +kernel
theorem dX3_takeOver_42 : decode cX3_takeOver 42 = .ok (.getfield 52, 3) := by decide +kernel
theorem dX3_takeOver_45 : decode cX3_takeOver 45 = .ok (.putfield 52, 3) := by decide +kernel
theorem dX3_takeOver_48 : decode cX3_takeOver 48 = .ok (.aload_n 0, 1) := by decide +kernel
theorem dX3_takeOver_49 : decode cX3_takeOver 49 = .ok (.aload_n 1, 1) := by decide +kernel
theorem dX3_takeOver_50 : decode cX3_takeOver 50 = .ok (.getfield 55, 3) := by decide +kernel
theorem dX3_takeOver_53 : decode cX3_takeOver 53 = .ok (.putfield 55, 3) := by decide +kernel
theorem dX3_takeOver_56 : decode cX3_takeOver 56 = .ok (.aload_n 0, 1) := by decide +kernel
theorem dX3_takeOver_57 : decode cX3_takeOver 57 = .ok (.aload_n 1, 1) := by decide +kernel
theorem dX3_takeOver_58 : decode cX3_takeOver 58 = .ok (.getfield 58, 3) := by decide +kernel
theorem dX3_takeOver_61 : decode cX3_takeOver 61 = .ok (.putfield 58, 3) := by decide +kernel
theorem dX3_takeOver_64 : decode cX3_takeOver 64 = .ok (.aload_n 0, 1) := by decide +kernel
theorem dX3_takeOver_65 : decode cX3_takeOver 65 = .ok (.aload_n 1, 1) := by decide +kernel
theorem dX3_takeOver_66 : decode cX3_takeOver 66 = .ok (.getfield 61, 3) := by decide +kernel
theorem dX3_takeOver_69 : decode cX3_takeOver 69 = .ok (.putfield 61, 3) := by decide +kernel
theorem dX3_takeOver_72 : decode cX3_takeOver 72 = .ok (.aload_n 0, 1) := by decide +kernel
theorem dX3_takeOver_73 : decode cX3_takeOver 73 = .ok (.aload_n 1, 1) := by decide +kernel
theorem dX3_takeOver_74 : decode cX3_takeOver 74 = .ok (.getfield 64, 3) := by decide +kernel
theorem dX3_takeOver_77 : decode cX3_takeOver 77 = .ok (.putfield 64, 3) := by decide +kernel
theorem dX3_takeOver_80 : decode cX3_takeOver 80 = .ok (.aload_n 1, 1) := by decide +kernel
theorem dX3_takeOver_81 : decode cX3_takeOver 81 = .ok (.getfield 17, 3) := by decide +kernel
theorem dX3_takeOver_84 : decode cX3_takeOver 84 = .ok (.iconst 0, 1) := by decide +kernel
theorem dX3_takeOver_85 : decode cX3_takeOver 85 = .ok (.aload_n 0, 1) := by decide +kernel
theorem dX3_takeOver_86 : decode cX3_takeOver 86 = .ok (.getfield 17, 3) := by decide +kernel
theorem dX3_takeOver_89 : decode cX3_takeOver 89 = .ok (.iconst 0, 1) := by decide +kernel
theorem dX3_takeOver_90 : decode cX3_takeOver 90 = .ok (.bipush 12, 2) := by decide +kernel
theorem dX3_takeOver_92 : decode cX3_takeOver 92 = .ok (.invokestatic 68, 3) := by decide +kernel
theorem dX3_takeOver_95 : decode cX3_takeOver 95 = .ok (.aload_n 1, 1) := by decide +kernel
theorem dX3_takeOver_96 : decode cX3_takeOver 96 = .ok (.getfield 21, 3) := by decide +kernel
theorem dX3_takeOver_99 : decode cX3_takeOver 99 = .ok (.iconst 0, 1) := by decide +kernel
theorem dX3_takeOver_100 : decode cX3_takeOver 100 = .ok (.aload_n 0, 1) := by decide +kernel
theorem dX3_takeOver_101 : decode cX3_takeOver 101 = .ok (.getfield 21, 3) := by decide +kernel
theorem dX3_takeOver_104 : decode cX3_takeOver 104 = .ok (.iconst 0, 1) := by decide +kernel
theorem dX3_takeOver_105 : decode cX3_takeOver 105 = .ok (.bipush 12, 2) := by decide +kernel
theorem dX3_takeOver_107 : decode cX3_takeOver 107 = .ok (.invokestatic 68, 3) := by decide +kernel
theorem dX3_takeOver_110 : decode cX3_takeOver 110 = .ok (.aload_n 1, 1) := by decide +kernel
theorem dX3_takeOver_111 : decode cX3_takeOver 111 = .ok (.getfield 27, 3) := by decide +kernel
theorem dX3_takeOver_114 : decode cX3_takeOver 114 = .ok (.iconst 0, 1) := by decide +kernel
theorem dX3_takeOver_115 : decode cX3_takeOver 115 = .ok (.aload_n 0, 1) := by decide +kernel
theorem dX3_takeOver_116 : decode cX3_takeOver 116 = .ok (.getfield 27, 3) := by decide +kernel
theorem dX3_takeOver_119 : decode cX3_takeOver 119 = .ok (.iconst 0, 1) := by decide +kernel
theorem dX3_takeOver_120 : decode cX3_takeOver 120 = .ok (.bipush 12, 2) := by decide +kernel
theorem dX3_takeOver_122 : decode cX3_takeOver 122 = .ok (.invokestatic 68, 3) := by decide +kernel
theorem dX3_takeOver_125 : decode cX3_takeOver 125 = .ok (.iconst 0, 1) := by decide +kernel
theorem dX3_takeOver_126 : decode cX3_takeOver 126 = .ok (.istore_n 2, 1) := by decide +kernel
theorem dX3_takeOver_127 : decode cX3_takeOver 127 = .ok (.iload_n 2, 1) := by decide +kernel
theorem dX3_takeOver_128 : decode cX3_takeOver 128 = .ok (.bipush 12, 2) := by decide +kernel
theorem dX3_takeOver_130 : decode cX3_takeOver 130 = .ok (.if_icmp .ge 24, 3) := by decide +kernel
theorem dX3_takeOver_133 : decode cX3_takeOver 133 = .ok (.aload_n 0, 1) := by decide +kernel
theorem dX3_takeOver_134 : decode cX3_takeOver 134 = .ok (.getfield 11, 3) := by decide +kernel
theorem dX3_takeOver_137 : decode cX3_takeOver 137 = .ok (.iload_n 2, 1) := by decide +kernel
theorem dX3_takeOver_138 : decode cX3_takeOver 138 = .ok (.aaload, 1) := by decide +kernel
theorem dX3_takeOver_139 : decode cX3_takeOver 139 = .ok (.aload_n 1, 1) := by decide +kernel
theorem dX3_takeOver_140 : decode cX3_takeOver 140 = .ok (.getfield 11, 3) := by decide +kernel
theorem dX3_takeOver_143 : decode cX3_takeOver 143 = .ok (.iload_n 2, 1) := by decide +kernel
theorem dX3_takeOver_144 : decode cX3_takeOver 144 = .ok (.aaload, 1) := by decide +kernel
theorem dX3_takeOver_145 : decode cX3_takeOver 145 = .ok (.invokevirtual 74, 3) := by decide +kernel
theorem dX3_takeOver_148 : decode cX3_takeOver 148 = .ok (.iinc 2 1, 3) := by decide +kernel
theorem dX3_takeOver_151 : decode cX3_takeOver 151 = .ok (.goto (-24), 3) := by decide +kernel
theorem dX3_takeOver_154 : decode cX3_takeOver 154 = .ok (.iconst 0, 1) := by decide +kernel
theorem dX3_takeOver_155 : decode cX3_takeOver 155 = .ok (.istore_n 2, 1) := by decide +kernel
theorem dX3_takeOver_156 : decode cX3_takeOver 156 = .ok (.iload_n 2, 1) := by decide +kernel
theorem dX3_takeOver_157 : decode cX3_takeOver 157 = .ok (.bipush 14, 2) := by decide +kernel
theorem dX3_takeOver_159 : decode cX3_takeOver 159 = .ok (.if_icmp .ge 21, 3) := by decide +kernel
theorem dX3_takeOver_162 : decode cX3_takeOver 162 = .ok (.aload_n 0, 1) := by decide +kernel
theorem dX3_takeOver_163 : decode cX3_takeOver 163 = .ok (.getfield 32, 3) := by decide +kernel
theorem dX3_takeOver_166 : decode cX3_takeOver 166 = .ok (.iload_n 2, 1) := by decide +kernel
theorem dX3_takeOver_167 : decode cX3_takeOver 167 = .ok (.aload_n 1, 1) := by decide +kernel
theorem dX3_takeOver_168 : decode cX3_takeOver 168 = .ok (.getfield 32, 3) := by decide +kernel
theorem dX3_takeOver_171 : decode cX3_takeOver 171 = .ok (.iload_n 2, 1) := by decide +kernel
theorem dX3_takeOver_172 : decode cX3_takeOver 172 = .ok (.aaload, 1) := by decide +kernel
theorem dX3_takeOver_173 : decode cX3_takeOver 173 = .ok (.aastore, 1) := by decide +kernel
theorem dX3_takeOver_174 : decode cX3_takeOver 174 = .ok (.iinc 2 1, 3) := by decide +kernel
theorem dX3_takeOver_177 : decode cX3_takeOver 177 = .ok (.goto (-21), 3) := by decide +kernel
theorem dX3_takeOver_180 : decode cX3_takeOver 180 = .ok (.return_, 1) := by decide +kernel
theorem dX3_hasLog_0 : decode cX3_hasLog 0 = .ok (.iload_n 1, 1) := by decide +kernel
theorem dX3_hasLog_1 : decode cX3_hasLog 1 = .ok (.iconst 0, 1) := by decide +kernel
theorem dX3_hasLog_2 : decode cX3_hasLog 2 = .ok (.aload_n 0, 1) := by decide +kernel
theorem dX3_hasLog_3 : decode cX3_hasLog 3 = .ok (.getfield 36, 3) := by decide +kernel
theorem dX3_hasLog_6 : decode cX3_hasLog 6 = .ok (.iconst 1, 1) := by decide +kernel
theorem dX3_hasLog_7 : decode cX3_hasLog 7 = .ok (.isub, 1) := by decide +kernel
theorem dX3_hasLog_8 : decode cX3_hasLog 8 = .ok (.invokestatic 78, 3) := by decide +kernel
theorem dX3_hasLog_11 : decode cX3_hasLog 11 = .ok (.ifCond .eq 13, 3) := by decide +kernel
theorem dX3_hasLog_14 : decode cX3_hasLog 14 = .ok (.iload_n 1, 1) := by decide +kernel
theorem dX3_hasLog_15 : decode cX3_hasLog 15 = .ok (.bipush 12, 2) := by decide +kernel
theorem dX3_hasLog_17 : decode cX3_hasLog 17 = .ok (.if_icmp .ge 7, 3) := by decide +kernel
theorem dX3_hasLog_20 : decode cX3_hasLog 20 = .ok (.iconst 1, 1) := by decide +kernel
theorem dX3_hasLog_21 : decode cX3_hasLog 21 = .ok (.goto 4, 3) := by decide +kernel
theorem dX3_hasLog_24 : decode cX3_hasLog 24 = .ok (.iconst 0, 1) := by decide +kernel
theorem dX3_hasLog_25 : decode cX3_hasLog 25 = .ok (.ireturn, 1) := by decide +kernel
theorem dX3_addLog_0 : decode cX3_addLog 0 = .ok (.aload_n 0, 1) := by decide +kernel
theorem dX3_addLog_1 : decode cX3_addLog 1 = .ok (.getfield 36, 3) := by decide +kernel
theorem dX3_addLog_4 : decode cX3_addLog 4 = .ok (.bipush 12, 2) := by decide +kernel
theorem dX3_addLog_6 : decode cX3_addLog 6 = .ok (.if_icmp .lt 5, 3) := by decide +kernel
theorem dX3_addLog_9 : decode cX3_addLog 9 = .ok (.iconst 0, 1) := by decide +kernel
theorem dX3_addLog_10 : decode cX3_addLog 10 = .ok (.ireturn, 1) := by decide +kernel
theorem dX3_addLog_11 : decode cX3_addLog 11 = .ok (.aload_n 0, 1) := by decide +kernel
theorem dX3_addLog_12 : decode cX3_addLog 12 = .ok (.getfield 11, 3) := by decide +kernel
theorem dX3_addLog_15 : decode cX3_addLog 15 = .ok (.aload_n 0, 1) := by decide +kernel
theorem dX3_addLog_16 : decode cX3_addLog 16 = .ok (.getfield 36, 3) := by decide +kernel
theorem dX3_addLog_19 : decode cX3_addLog 19 = .ok (.aaload, 1) := by decide +kernel
theorem dX3_addLog_20 : decode cX3_addLog 20 = .ok (.astore 4, 2) := by decide +kernel
theorem dX3_addLog_22 : decode cX3_addLog 22 = .ok (.aload 4, 2) := by decide +kernel
theorem dX3_addLog_24 : decode cX3_addLog 24 = .ok (.iload_n 1, 1) := by decide +kernel
theorem dX3_addLog_25 : decode cX3_addLog 25 = .ok (.putfield 82, 3) := by decide +kernel
theorem dX3_addLog_28 : decode cX3_addLog 28 = .ok (.aload 4, 2) := by decide +kernel
theorem dX3_addLog_30 : decode cX3_addLog 30 = .ok (.iload_n 2, 1) := by decide +kernel
theorem dX3_addLog_31 : decode cX3_addLog 31 = .ok (.putfield 85, 3) := by decide +kernel
theorem dX3_addLog_34 : decode cX3_addLog 34 = .ok (.aload 4, 2) := by decide +kernel
theorem dX3_addLog_36 : decode cX3_addLog 36 = .ok (.iload_n 3, 1) := by decide +kernel
theorem dX3_addLog_37 : decode cX3_addLog 37 = .ok (.putfield 88, 3) := by decide +kernel
theorem dX3_addLog_40 : decode cX3_addLog 40 = .ok (.aload 4, 2) := by decide +kernel
theorem dX3_addLog_42 : decode cX3_addLog 42 = .ok (.iconst 0, 1) := by decide +kernel
theorem dX3_addLog_43 : decode cX3_addLog 43 = .ok (.putfield 91, 3) := by decide +kernel
theorem dX3_addLog_46 : decode cX3_addLog 46 = .ok (.aload 4, 2) := by decide +kernel
theorem dX3_addLog_48 : decode cX3_addLog 48 = .ok (.iconst 0, 1) := by decide +kernel
theorem dX3_addLog_49 : decode cX3_addLog 49 = .ok (.putfield 94, 3) := by decide +kernel
theorem dX3_addLog_52 : decode cX3_addLog 52 = .ok (.aload_n 0, 1) := by decide +kernel
theorem dX3_addLog_53 : decode cX3_addLog 53 = .ok (.dup, 1) := by decide +kernel
theorem dX3_addLog_54 : decode cX3_addLog 54 = .ok (.getfield 36, 3) := by decide +kernel
theorem dX3_addLog_57 : decode cX3_addLog 57 = .ok (.iconst 1, 1) := by decide +kernel
theorem dX3_addLog_58 : decode cX3_addLog 58 = .ok (.iadd, 1) := by decide +kernel
theorem dX3_addLog_59 : decode cX3_addLog 59 = .ok (.putfield 36, 3) := by decide +kernel
theorem dX3_addLog_62 : decode cX3_addLog 62 = .ok (.iconst 1, 1) := by decide +kernel
theorem dX3_addLog_63 : decode cX3_addLog 63 = .ok (.ireturn, 1) := by decide +kernel
theorem dX3_drawLog_0 : decode cX3_drawLog 0 = .ok (.aload_n 0, 1) := by decide +kernel
theorem dX3_drawLog_1 : decode cX3_drawLog 1 = .ok (.invokevirtual 97, 3) := by decide +kernel
theorem dX3_drawLog_4 : decode cX3_drawLog 4 = .ok (.bipush 6, 2) := by decide +kernel
theorem dX3_drawLog_6 : decode cX3_drawLog 6 = .ok (.irem, 1) := by decide +kernel
theorem dX3_drawLog_7 : decode cX3_drawLog 7 = .ok (.istore_n 1, 1) := by decide +kernel
theorem dX3_drawLog_8 : decode cX3_drawLog 8 = .ok (.aload_n 0, 1) := by decide +kernel
theorem dX3_drawLog_9 : decode cX3_drawLog 9 = .ok (.invokevirtual 97, 3) := by decide +kernel
theorem dX3_drawLog_12 : decode cX3_drawLog 12 = .ok (.bipush 26, 2) := by decide +kernel
theorem dX3_drawLog_14 : decode cX3_drawLog 14 = .ok (.irem, 1) := by decide +kernel
theorem dX3_drawLog_15 : decode cX3_drawLog 15 = .ok (.istore_n 2, 1) := by decide +kernel
theorem dX3_drawLog_16 : decode cX3_drawLog 16 = .ok (.iconst 1, 1) := by decide +kernel
theorem dX3_drawLog_17 : decode cX3_drawLog 17 = .ok (.aload_n 0, 1) := by decide +kernel
theorem dX3_drawLog_18 : decode cX3_drawLog 18 = .ok (.invokevirtual 97, 3) := by decide +kernel
theorem dX3_drawLog_21 : decode cX3_drawLog 21 = .ok (.bipush 50, 2) := by decide +kernel
theorem dX3_drawLog_23 : decode cX3_drawLog 23 = .ok (.irem, 1) := by decide +kernel
theorem dX3_drawLog_24 : decode cX3_drawLog 24 = .ok (.iadd, 1) := by decide +kernel
theorem dX3_drawLog_25 : decode cX3_drawLog 25 = .ok (.istore_n 3, 1) := by decide +kernel
theorem dX3_drawLog_26 : decode cX3_drawLog 26 = .ok (.aload_n 0, 1) := by decide +kernel
theorem dX3_drawLog_27 : decode cX3_drawLog 27 = .ok (.iload_n 1, 1) := by decide +kernel
theorem dX3_drawLog_28 : decode cX3_drawLog 28 = .ok (.iload_n 2, 1) := by decide +kernel
theorem dX3_drawLog_29 : decode cX3_drawLog 29 = .ok (.iload_n 3, 1) := by decide +kernel
theorem dX3_drawLog_30 : decode cX3_drawLog 30 = .ok (.invokevirtual 101, 3) := by decide +kernel
theorem dX3_drawLog_33 : decode cX3_drawLog 33 = .ok (.pop, 1) := by decide +kernel
theorem dX3_drawLog_34 : decode cX3_drawLog 34 = .ok (.return_, 1) := by decide +kernel
theorem dX3_addLetter_0 : decode cX3_addLetter 0 = .ok (.aload_n 0, 1) := by decide +kernel
theorem dX3_addLetter_1 : decode cX3_addLetter 1 = .ok (.getfield 40, 3) := by decide +kernel
theorem dX3_addLetter_4 : decode cX3_addLetter 4 = .ok (.bipush 12, 2) := by decide +kernel
theorem dX3_addLetter_6 : decode cX3_addLetter 6 = .ok (.if_icmp .lt 5, 3) := by decide +kernel
theorem dX3_addLetter_9 : decode cX3_addLetter 9 = .ok (.iconst 0, 1) := by decide +kernel
theorem dX3_addLetter_10 : decode cX3_addLetter 10 = .ok (.ireturn, 1) := by decide +kernel
theorem dX3_addLetter_11 : decode cX3_addLetter 11 = .ok (.aload_n 0, 1) := by decide +kernel
theorem dX3_addLetter_12 : decode cX3_addLetter 12 = .ok (.getfield 27, 3) := by decide +kernel
theorem dX3_addLetter_15 : decode cX3_addLetter 15 = .ok (.aload_n 0, 1) := by decide +kernel
theorem dX3_addLetter_16 : decode cX3_addLetter 16 = .ok (.getfield 40, 3) := by decide +kernel
theorem dX3_addLetter_19 : decode cX3_addLetter 19 = .ok (.iload_n 1, 1) := by decide +kernel
theorem dX3_addLetter_20 : decode cX3_addLetter 20 = .ok (.iastore, 1) := by decide +kernel
theorem dX3_addLetter_21 : decode cX3_addLetter 21 = .ok (.aload_n 0, 1) := by decide +kernel
theorem dX3_addLetter_22 : decode cX3_addLetter 22 = .ok (.dup, 1) := by decide +kernel
theorem dX3_addLetter_23 : decode cX3_addLetter 23 = .ok (.getfield 40, 3) := by decide +kernel
theorem dX3_addLetter_26 : decode cX3_addLetter 26 = .ok (.iconst 1, 1) := by decide +kernel
theorem dX3_addLetter_27 : decode cX3_addLetter 27 = .ok (.iadd, 1) := by decide +kernel
theorem dX3_addLetter_28 : decode cX3_addLetter 28 = .ok (.putfield 40, 3) := by decide +kernel
theorem dX3_addLetter_31 : decode cX3_addLetter 31 = .ok (.iconst 1, 1) := by decide +kernel
theorem dX3_addLetter_32 : decode cX3_addLetter 32 = .ok (.ireturn, 1) := by decide +kernel
theorem dX3_addLaw_0 : decode cX3_addLaw 0 = .ok (.aload_n 0, 1) := by decide +kernel
theorem dX3_addLaw_1 : decode cX3_addLaw 1 = .ok (.getfield 43, 3) := by decide +kernel
theorem dX3_addLaw_4 : decode cX3_addLaw 4 = .ok (.bipush 14, 2) := by decide +kernel
theorem dX3_addLaw_6 : decode cX3_addLaw 6 = .ok (.if_icmp .lt 5, 3) := by decide +kernel
theorem dX3_addLaw_9 : decode cX3_addLaw 9 = .ok (.iconst 0, 1) := by decide +kernel
theorem dX3_addLaw_10 : decode cX3_addLaw 10 = .ok (.ireturn, 1) := by decide +kernel
theorem dX3_addLaw_11 : decode cX3_addLaw 11 = .ok (.aload_n 0, 1) := by decide +kernel
theorem dX3_addLaw_12 : decode cX3_addLaw 12 = .ok (.getfield 32, 3) := by decide +kernel
theorem dX3_addLaw_15 : decode cX3_addLaw 15 = .ok (.aload_n 0, 1) := by decide +kernel
theorem dX3_addLaw_16 : decode cX3_addLaw 16 = .ok (.getfield 43, 3) := by decide +kernel
theorem dX3_addLaw_19 : decode cX3_addLaw 19 = .ok (.aload_n 1, 1) := by decide +kernel
theorem dX3_addLaw_20 : decode cX3_addLaw 20 = .ok (.aastore, 1) := by decide +kernel
theorem dX3_addLaw_21 : decode cX3_addLaw 21 = .ok (.aload_n 0, 1) := by decide +kernel
theorem dX3_addLaw_22 : decode cX3_addLaw 22 = .ok (.dup, 1) := by decide +kernel
theorem dX3_addLaw_23 : decode cX3_addLaw 23 = .ok (.getfield 43, 3) := by decide +kernel
theorem dX3_addLaw_26 : decode cX3_addLaw 26 = .ok (.iconst 1, 1) := by decide +kernel
theorem dX3_addLaw_27 : decode cX3_addLaw 27 = .ok (.iadd, 1) := by decide +kernel
theorem dX3_addLaw_28 : decode cX3_addLaw 28 = .ok (.putfield 43, 3) := by decide +kernel
theorem dX3_addLaw_31 : decode cX3_addLaw 31 = .ok (.iconst 1, 1) := by decide +kernel
theorem dX3_addLaw_32 : decode cX3_addLaw 32 = .ok (.ireturn, 1) := by decide +kernel
theorem dX3_lawAt_0 : decode cX3_lawAt 0 = .ok (.iload_n 1, 1) := by decide +kernel
theorem dX3_lawAt_1 : decode cX3_lawAt 1 = .ok (.ifCond .lt 26, 3) := by decide +kernel
theorem dX3_lawAt_4 : decode cX3_lawAt 4 = .ok (.iload_n 1, 1) := by decide +kernel
theorem dX3_lawAt_5 : decode cX3_lawAt 5 = .ok (.aload_n 0, 1) := by decide +kernel
theorem dX3_lawAt_6 : decode cX3_lawAt 6 = .ok (.getfield 43, 3) := by decide +kernel
theorem dX3_lawAt_9 : decode cX3_lawAt 9 = .ok (.if_icmp .ge 18, 3) := by decide +kernel
theorem dX3_lawAt_12 : decode cX3_lawAt 12 = .ok (.iload_n 1, 1) := by decide +kernel
theorem dX3_lawAt_13 : decode cX3_lawAt 13 = .ok (.bipush 14, 2) := by decide +kernel
theorem dX3_lawAt_15 : decode cX3_lawAt 15 = .ok (.if_icmp .ge 12, 3) := by decide +kernel
theorem dX3_lawAt_18 : decode cX3_lawAt 18 = .ok (.aload_n 0, 1) := by decide +kernel
theorem dX3_lawAt_19 : decode cX3_lawAt 19 = .ok (.getfield 32, 3) := by decide +kernel
theorem dX3_lawAt_22 : decode cX3_lawAt 22 = .ok (.iload_n 1, 1) := by decide +kernel
theorem dX3_lawAt_23 : decode cX3_lawAt 23 = .ok (.aaload, 1) := by decide +kernel
theorem dX3_lawAt_24 : decode cX3_lawAt 24 = .ok (.goto 4, 3) := by decide +kernel
theorem dX3_lawAt_27 : decode cX3_lawAt 27 = .ok (.aconst_null, 1) := by decide +kernel
theorem dX3_lawAt_28 : decode cX3_lawAt 28 = .ok (.areturn, 1) := by decide +kernel
theorem dX3_lawNumberFor_0 : decode cX3_lawNumberFor 0 = .ok (.aload_n 0, 1) := by decide +kernel
theorem dX3_lawNumberFor_1 : decode cX3_lawNumberFor 1 = .ok (.getfield 43, 3) := by decide +kernel
theorem dX3_lawNumberFor_4 : decode cX3_lawNumberFor 4 = .ok (.iconst 1, 1) := by decide +kernel
theorem dX3_lawNumberFor_5 : decode cX3_lawNumberFor 5 = .ok (.isub, 1) := by decide +kernel
theorem dX3_lawNumberFor_6 : decode cX3_lawNumberFor 6 = .ok (.istore_n 2, 1) := by decide +kernel
theorem dX3_lawNumberFor_7 : decode cX3_lawNumberFor 7 = .ok (.iload_n 2, 1) := by decide +kernel
theorem dX3_lawNumberFor_8 : decode cX3_lawNumberFor 8 = .ok (.ifCond .lt 29, 3) := by decide +kernel
theorem dX3_lawNumberFor_11 : decode cX3_lawNumberFor 11 = .ok (.aload_n 0, 1) := by decide +kernel
theorem dX3_lawNumberFor_12 : decode cX3_lawNumberFor 12 = .ok (.iload_n 2, 1) := by decide +kernel
theorem dX3_lawNumberFor_13 : decode cX3_lawNumberFor 13 = .ok (.invokevirtual 104, 3) := by decide +kernel
theorem dX3_lawNumberFor_16 : decode cX3_lawNumberFor 16 = .ok (.astore_n 3, 1) := by decide +kernel
theorem dX3_lawNumberFor_17 : decode cX3_lawNumberFor 17 = .ok (.aload_n 3, 1) := by decide +kernel
theorem dX3_lawNumberFor_18 : decode cX3_lawNumberFor 18 = .ok (.ifnull 13, 3) := by decide +kernel
theorem dX3_lawNumberFor_21 : decode cX3_lawNumberFor 21 = .ok (.aload_n 3, 1) := by decide +kernel
theorem dX3_lawNumberFor_22 : decode cX3_lawNumberFor 22 = .ok (.getfield 108, 3) := by decide +kernel
theorem dX3_lawNumberFor_25 : decode cX3_lawNumberFor 25 = .ok (.iload_n 1, 1) := by decide +kernel
theorem dX3_lawNumberFor_26 : decode cX3_lawNumberFor 26 = .ok (.if_icmp .ne 5, 3) := by decide +kernel
theorem dX3_lawNumberFor_29 : decode cX3_lawNumberFor 29 = .ok (.iload_n 2, 1) := by decide +kernel
theorem dX3_lawNumberFor_30 : decode cX3_lawNumberFor 30 = .ok (.ireturn, 1) := by decide +kernel
theorem dX3_lawNumberFor_31 : decode cX3_lawNumberFor 31 = .ok (.iinc 2 (-1), 3) := by decide +kernel
theorem dX3_lawNumberFor_34 : decode cX3_lawNumberFor 34 = .ok (.goto (-27), 3) := by decide +kernel
theorem dX3_lawNumberFor_37 : decode cX3_lawNumberFor 37 = .ok (.ldc 111, 2) := by decide +kernel
theorem dX3_lawNumberFor_39 : decode cX3_lawNumberFor 39 = .ok (.ireturn, 1) := by decide +kernel
theorem dX3_lawFor_0 : decode cX3_lawFor 0 = .ok (.aload_n 0, 1) := by decide +kernel
theorem dX3_lawFor_1 : decode cX3_lawFor 1 = .ok (.aload_n 0, 1) := by decide +kernel
theorem dX3_lawFor_2 : decode cX3_lawFor 2 = .ok (.iload_n 1, 1) := by decide +kernel
theorem dX3_lawFor_3 : decode cX3_lawFor 3 = .ok (.invokevirtual 112, 3) := by decide +kernel
theorem dX3_lawFor_6 : decode cX3_lawFor 6 = .ok (.invokevirtual 104, 3) := by decide +kernel
theorem dX3_lawFor_9 : decode cX3_lawFor 9 = .ok (.areturn, 1) := by decide +kernel
theorem dX3_draw_0 : decode cX3_draw 0 = .ok (.aload_n 0, 1) := by decide +kernel
theorem dX3_draw_1 : decode cX3_draw 1 = .ok (.aload_n 0, 1) := by decide +kernel
theorem dX3_draw_2 : decode cX3_draw 2 = .ok (.getfield 64, 3) := by decide +kernel
theorem dX3_draw_5 : decode cX3_draw 5 = .ok (.ldc 116, 2) := by decide +kernel
theorem dX3_draw_7 : decode cX3_draw 7 = .ok (.imul, 1) := by decide +kernel
theorem dX3_draw_8 : decode cX3_draw 8 = .ok (.sipush 12345, 3) := by decide +kernel
theorem dX3_draw_11 : decode cX3_draw 11 = .ok (.iadd, 1) := by decide +kernel
theorem dX3_draw_12 : decode cX3_draw 12 = .ok (.putfield 64, 3) := by decide +kernel
theorem dX3_draw_15 : decode cX3_draw 15 = .ok (.aload_n 0, 1) := by decide +kernel
theorem dX3_draw_16 : decode cX3_draw 16 = .ok (.getfield 64, 3) := by decide +kernel
theorem dX3_draw_19 : decode cX3_draw 19 = .ok (.bipush 8, 2) := by decide +kernel
theorem dX3_draw_21 : decode cX3_draw 21 = .ok (.iushr, 1) := by decide +kernel
theorem dX3_draw_22 : decode cX3_draw 22 = .ok (.ireturn, 1) := by decide +kernel
theorem dX3_driftOf_0 : decode cX3_driftOf 0 = .ok (.aload_n 2, 1) := by decide +kernel
theorem dX3_driftOf_1 : decode cX3_driftOf 1 = .ok (.ifnonnull 22, 3) := by decide +kernel
theorem dX3_driftOf_4 : decode cX3_driftOf 4 = .ok (.iconst 0, 1) := by decide +kernel
theorem dX3_driftOf_5 : decode cX3_driftOf 5 = .ok (.aload_n 0, 1) := by decide +kernel
theorem dX3_driftOf_6 : decode cX3_driftOf 6 = .ok (.getfield 46, 3) := by decide +kernel
theorem dX3_driftOf_9 : decode cX3_driftOf 9 = .ok (.aload_n 1, 1) := by decide +kernel
theorem dX3_driftOf_10 : decode cX3_driftOf 10 = .ok (.getfield 88, 3) := by decide +kernel
theorem dX3_driftOf_13 : decode cX3_driftOf 13 = .ok (.bipush 10, 2) := by decide +kernel
theorem dX3_driftOf_15 : decode cX3_driftOf 15 = .ok (.idiv, 1) := by decide +kernel
theorem dX3_driftOf_16 : decode cX3_driftOf 16 = .ok (.isub, 1) := by decide +kernel
theorem dX3_driftOf_17 : decode cX3_driftOf 17 = .ok (.invokestatic 117, 3) := by decide +kernel
theorem dX3_driftOf_20 : decode cX3_driftOf 20 = .ok (.goto 25, 3) := by decide +kernel
theorem dX3_driftOf_23 : decode cX3_driftOf 23 = .ok (.aload_n 2, 1) := by decide +kernel
theorem dX3_driftOf_24 : decode cX3_driftOf 24 = .ok (.aload_n 0, 1) := by decide +kernel
theorem dX3_driftOf_25 : decode cX3_driftOf 25 = .ok (.getfield 46, 3) := by decide +kernel
theorem dX3_driftOf_28 : decode cX3_driftOf 28 = .ok (.aload_n 1, 1) := by decide +kernel
theorem dX3_driftOf_29 : decode cX3_driftOf 29 = .ok (.getfield 88, 3) := by decide +kernel
theorem dX3_driftOf_32 : decode cX3_driftOf 32 = .ok (.aload_n 1, 1) := by decide +kernel
theorem dX3_driftOf_33 : decode cX3_driftOf 33 = .ok (.getfield 91, 3) := by decide +kernel
theorem dX3_driftOf_36 : decode cX3_driftOf 36 = .ok (.invokevirtual 123, 3) := by decide +kernel
theorem dX3_driftOf_39 : decode cX3_driftOf 39 = .ok (.iconst 0, 1) := by decide +kernel
theorem dX3_driftOf_40 : decode cX3_driftOf 40 = .ok (.bipush 12, 2) := by decide +kernel
theorem dX3_driftOf_42 : decode cX3_driftOf 42 = .ok (.invokestatic 127, 3) := by decide +kernel
theorem dX3_driftOf_45 : decode cX3_driftOf 45 = .ok (.istore_n 3, 1) := by decide +kernel
theorem dX3_driftOf_46 : decode cX3_driftOf 46 = .ok (.aload_n 1, 1) := by decide +kernel
theorem dX3_driftOf_47 : decode cX3_driftOf 47 = .ok (.iload_n 3, 1) := by decide +kernel
theorem dX3_driftOf_48 : decode cX3_driftOf 48 = .ok (.aload_n 0, 1) := by decide +kernel
theorem dX3_driftOf_49 : decode cX3_driftOf 49 = .ok (.getfield 46, 3) := by decide +kernel
theorem dX3_driftOf_52 : decode cX3_driftOf 52 = .ok (.invokevirtual 130, 3) := by decide +kernel
theorem dX3_driftOf_55 : decode cX3_driftOf 55 = .ok (.ireturn, 1) := by decide +kernel
theorem dX3_passWeeks_0 : decode cX3_passWeeks 0 = .ok (.iconst 0, 1) := by decide +kernel
theorem dX3_passWeeks_1 : decode cX3_passWeeks 1 = .ok (.istore_n 2, 1) := by decide +kernel
theorem dX3_passWeeks_2 : decode cX3_passWeeks 2 = .ok (.iload_n 2, 1) := by decide +kernel
theorem dX3_passWeeks_3 : decode cX3_passWeeks 3 = .ok (.iload_n 1, 1) := by decide +kernel
theorem dX3_passWeeks_4 : decode cX3_passWeeks 4 = .ok (.if_icmp .ge 13, 3) := by decide +kernel
theorem dX3_passWeeks_7 : decode cX3_passWeeks 7 = .ok (.aload_n 0, 1) := by decide +kernel
theorem dX3_passWeeks_8 : decode cX3_passWeeks 8 = .ok (.invokevirtual 133, 3) := by decide +kernel
theorem dX3_passWeeks_11 : decode cX3_passWeeks 11 = .ok (.iinc 2 1, 3) := by decide +kernel
theorem dX3_passWeeks_14 : decode cX3_passWeeks 14 = .ok (.goto (-12), 3) := by decide +kernel
theorem dX3_passWeeks_17 : decode cX3_passWeeks 17 = .ok (.return_, 1) := by decide +kernel
theorem dX3_passWeek_0 : decode cX3_passWeek 0 = .ok (.aload_n 0, 1) := by decide +kernel
theorem dX3_passWeek_1 : decode cX3_passWeek 1 = .ok (.iconst 0, 1) := by decide +kernel
theorem dX3_passWeek_2 : decode cX3_passWeek 2 = .ok (.aload_n 0, 1) := by decide +kernel
theorem dX3_passWeek_3 : decode cX3_passWeek 3 = .ok (.invokevirtual 97, 3) := by decide +kernel
theorem dX3_passWeek_6 : decode cX3_passWeek 6 = .ok (.bipush 10, 2) := by decide +kernel
theorem dX3_passWeek_8 : decode cX3_passWeek 8 = .ok (.irem, 1) := by decide +kernel
theorem dX3_passWeek_9 : decode cX3_passWeek 9 = .ok (.aload_n 0, 1) := by decide +kernel
theorem dX3_passWeek_10 : decode cX3_passWeek 10 = .ok (.getfield 52, 3) := by decide +kernel
theorem dX3_passWeek_13 : decode cX3_passWeek 13 = .ok (.isub, 1) := by decide +kernel
theorem dX3_passWeek_14 : decode cX3_passWeek 14 = .ok (.invokestatic 117, 3) := by decide +kernel
theorem dX3_passWeek_17 : decode cX3_passWeek 17 = .ok (.putfield 46, 3) := by decide +kernel
theorem dX3_passWeek_20 : decode cX3_passWeek 20 = .ok (.aload_n 0, 1) := by decide +kernel
theorem dX3_passWeek_21 : decode cX3_passWeek 21 = .ok (.invokevirtual 136, 3) := by decide +kernel
theorem dX3_passWeek_24 : decode cX3_passWeek 24 = .ok (.aload_n 0, 1) := by decide +kernel
theorem dX3_passWeek_25 : decode cX3_passWeek 25 = .ok (.iconst 0, 1) := by decide +kernel
theorem dX3_passWeek_26 : decode cX3_passWeek 26 = .ok (.invokevirtual 139, 3) := by decide +kernel
theorem dX3_passWeek_29 : decode cX3_passWeek 29 = .ok (.astore_n 1, 1) := by decide +kernel
theorem dX3_passWeek_30 : decode cX3_passWeek 30 = .ok (.bipush 11, 2) := by decide +kernel
theorem dX3_passWeek_32 : decode cX3_passWeek 32 = .ok (.istore_n 2, 1) := by decide +kernel
theorem dX3_passWeek_33 : decode cX3_passWeek 33 = .ok (.iload_n 2, 1) := by decide +kernel
theorem dX3_passWeek_34 : decode cX3_passWeek 34 = .ok (.ifCond .lt 24, 3) := by decide +kernel
theorem dX3_passWeek_37 : decode cX3_passWeek 37 = .ok (.aload_n 0, 1) := by decide +kernel
theorem dX3_passWeek_38 : decode cX3_passWeek 38 = .ok (.getfield 24, 3) := by decide +kernel
theorem dX3_passWeek_41 : decode cX3_passWeek 41 = .ok (.iload_n 2, 1) := by decide +kernel
theorem dX3_passWeek_42 : decode cX3_passWeek 42 = .ok (.iaload, 1) := by decide +kernel
theorem dX3_passWeek_43 : decode cX3_passWeek 43 = .ok (.ifCond .le 9, 3) := by decide +kernel
theorem dX3_passWeek_46 : decode cX3_passWeek 46 = .ok (.aload_n 0, 1) := by decide +kernel
theorem dX3_passWeek_47 : decode cX3_passWeek 47 = .ok (.iload_n 2, 1) := by decide +kernel
theorem dX3_passWeek_48 : decode cX3_passWeek 48 = .ok (.aload_n 1, 1) := by decide +kernel
theorem dX3_passWeek_49 : decode cX3_passWeek 49 = .ok (.invokevirtual 142, 3) := by decide +kernel
theorem dX3_passWeek_52 : decode cX3_passWeek 52 = .ok (.iinc 2 (-1), 3) := by decide +kernel
theorem dX3_passWeek_55 : decode cX3_passWeek 55 = .ok (.goto (-22), 3) := by decide +kernel
theorem dX3_passWeek_58 : decode cX3_passWeek 58 = .ok (.aload_n 0, 1) := by decide +kernel
theorem dX3_passWeek_59 : decode cX3_passWeek 59 = .ok (.getfield 49, 3) := by decide +kernel
theorem dX3_passWeek_62 : decode cX3_passWeek 62 = .ok (.ifCond .le 23, 3) := by decide +kernel
theorem dX3_passWeek_65 : decode cX3_passWeek 65 = .ok (.aload_n 0, 1) := by decide +kernel
theorem dX3_passWeek_66 : decode cX3_passWeek 66 = .ok (.getfield 36, 3) := by decide +kernel
theorem dX3_passWeek_69 : decode cX3_passWeek 69 = .ok (.ifCond .le 16, 3) := by decide +kernel
theorem dX3_passWeek_72 : decode cX3_passWeek 72 = .ok (.aload_n 0, 1) := by decide +kernel
theorem dX3_passWeek_73 : decode cX3_passWeek 73 = .ok (.aload_n 0, 1) := by decide +kernel
theorem dX3_passWeek_74 : decode cX3_passWeek 74 = .ok (.invokevirtual 97, 3) := by decide +kernel
theorem dX3_passWeek_77 : decode cX3_passWeek 77 = .ok (.aload_n 0, 1) := by decide +kernel
theorem dX3_passWeek_78 : decode cX3_passWeek 78 = .ok (.getfield 36, 3) := by decide +kernel
theorem dX3_passWeek_81 : decode cX3_passWeek 81 = .ok (.irem, 1) := by decide +kernel
theorem dX3_passWeek_82 : decode cX3_passWeek 82 = .ok (.invokevirtual 146, 3) := by decide +kernel
theorem dX3_passWeek_85 : decode cX3_passWeek 85 = .ok (.aload_n 0, 1) := by decide +kernel
theorem dX3_passWeek_86 : decode cX3_passWeek 86 = .ok (.dup, 1) := by decide +kernel
theorem dX3_passWeek_87 : decode cX3_passWeek 87 = .ok (.getfield 61, 3) := by decide +kernel
theorem dX3_passWeek_90 : decode cX3_passWeek 90 = .ok (.iconst 1, 1) := by decide +kernel
theorem dX3_passWeek_91 : decode cX3_passWeek 91 = .ok (.iadd, 1) := by decide +kernel
theorem dX3_passWeek_92 : decode cX3_passWeek 92 = .ok (.putfield 61, 3) := by decide +kernel
theorem dX3_passWeek_95 : decode cX3_passWeek 95 = .ok (.return_, 1) := by decide +kernel
theorem dX3_countHeld_0 : decode cX3_countHeld 0 = .ok (.iconst 0, 1) := by decide +kernel
theorem dX3_countHeld_1 : decode cX3_countHeld 1 = .ok (.istore_n 1, 1) := by decide +kernel
theorem dX3_countHeld_2 : decode cX3_countHeld 2 = .ok (.iload_n 1, 1) := by decide +kernel
theorem dX3_countHeld_3 : decode cX3_countHeld 3 = .ok (.bipush 12, 2) := by decide +kernel
theorem dX3_countHeld_5 : decode cX3_countHeld 5 = .ok (.if_icmp .ge 16, 3) := by decide +kernel
theorem dX3_countHeld_8 : decode cX3_countHeld 8 = .ok (.aload_n 0, 1) := by decide +kernel
theorem dX3_countHeld_9 : decode cX3_countHeld 9 = .ok (.getfield 24, 3) := by decide +kernel
theorem dX3_countHeld_12 : decode cX3_countHeld 12 = .ok (.iload_n 1, 1) := by decide +kernel
theorem dX3_countHeld_13 : decode cX3_countHeld 13 = .ok (.iconst 0, 1) := by decide +kernel
theorem dX3_countHeld_14 : decode cX3_countHeld 14 = .ok (.iastore, 1) := by decide +kernel
theorem dX3_countHeld_15 : decode cX3_countHeld 15 = .ok (.iinc 1 1, 3) := by decide +kernel
theorem dX3_countHeld_18 : decode cX3_countHeld 18 = .ok (.goto (-16), 3) := by decide +kernel
theorem dX3_countHeld_21 : decode cX3_countHeld 21 = .ok (.iconst 0, 1) := by decide +kernel
theorem dX3_countHeld_22 : decode cX3_countHeld 22 = .ok (.istore_n 1, 1) := by decide +kernel
theorem dX3_countHeld_23 : decode cX3_countHeld 23 = .ok (.iload_n 1, 1) := by decide +kernel
theorem dX3_countHeld_24 : decode cX3_countHeld 24 = .ok (.aload_n 0, 1) := by decide +kernel
theorem dX3_countHeld_25 : decode cX3_countHeld 25 = .ok (.getfield 36, 3) := by decide +kernel
theorem dX3_countHeld_28 : decode cX3_countHeld 28 = .ok (.if_icmp .ge 39, 3) := by decide +kernel
theorem dX3_countHeld_31 : decode cX3_countHeld 31 = .ok (.aload_n 0, 1) := by decide +kernel
theorem dX3_countHeld_32 : decode cX3_countHeld 32 = .ok (.getfield 11, 3) := by decide +kernel
theorem dX3_countHeld_35 : decode cX3_countHeld 35 = .ok (.iload_n 1, 1) := by decide +kernel
theorem dX3_countHeld_36 : decode cX3_countHeld 36 = .ok (.aaload, 1) := by decide +kernel
theorem dX3_countHeld_37 : decode cX3_countHeld 37 = .ok (.invokevirtual 150, 3) := by decide +kernel
theorem dX3_countHeld_40 : decode cX3_countHeld 40 = .ok (.ifCond .eq 21, 3) := by decide +kernel
theorem dX3_countHeld_43 : decode cX3_countHeld 43 = .ok (.aload_n 0, 1) := by decide +kernel
theorem dX3_countHeld_44 : decode cX3_countHeld 44 = .ok (.getfield 24, 3) := by decide +kernel
theorem dX3_countHeld_47 : decode cX3_countHeld 47 = .ok (.aload_n 0, 1) := by decide +kernel
theorem dX3_countHeld_48 : decode cX3_countHeld 48 = .ok (.getfield 11, 3) := by decide +kernel
theorem dX3_countHeld_51 : decode cX3_countHeld 51 = .ok (.iload_n 1, 1) := by decide +kernel
theorem dX3_countHeld_52 : decode cX3_countHeld 52 = .ok (.aaload, 1) := by decide +kernel
theorem dX3_countHeld_53 : decode cX3_countHeld 53 = .ok (.getfield 91, 3) := by decide +kernel
theorem dX3_countHeld_56 : decode cX3_countHeld 56 = .ok (.dup2, 1) := by decide +kernel
theorem dX3_countHeld_57 : decode cX3_countHeld 57 = .ok (.iaload, 1) := by decide +kernel
theorem dX3_countHeld_58 : decode cX3_countHeld 58 = .ok (.iconst 1, 1) := by decide +kernel
theorem dX3_countHeld_59 : decode cX3_countHeld 59 = .ok (.iadd, 1) := by decide +kernel
theorem dX3_countHeld_60 : decode cX3_countHeld 60 = .ok (.iastore, 1) := by decide +kernel
theorem dX3_countHeld_61 : decode cX3_countHeld 61 = .ok (.iinc 1 1, 3) := by decide +kernel
theorem dX3_countHeld_64 : decode cX3_countHeld 64 = .ok (.goto (-41), 3) := by decide +kernel
theorem dX3_countHeld_67 : decode cX3_countHeld 67 = .ok (.return_, 1) := by decide +kernel
theorem dX3_carryFrom_0 : decode cX3_carryFrom 0 = .ok (.iconst 0, 1) := by decide +kernel
theorem dX3_carryFrom_1 : decode cX3_carryFrom 1 = .ok (.istore_n 3, 1) := by decide +kernel
theorem dX3_carryFrom_2 : decode cX3_carryFrom 2 = .ok (.iload_n 3, 1) := by decide +kernel
theorem dX3_carryFrom_3 : decode cX3_carryFrom 3 = .ok (.aload_n 0, 1) := by decide +kernel
theorem dX3_carryFrom_4 : decode cX3_carryFrom 4 = .ok (.getfield 36, 3) := by decide +kernel
theorem dX3_carryFrom_7 : decode cX3_carryFrom 7 = .ok (.if_icmp .ge 43, 3) := by decide +kernel
theorem dX3_carryFrom_10 : decode cX3_carryFrom 10 = .ok (.aload_n 0, 1) := by decide +kernel
theorem dX3_carryFrom_11 : decode cX3_carryFrom 11 = .ok (.getfield 11, 3) := by decide +kernel
theorem dX3_carryFrom_14 : decode cX3_carryFrom 14 = .ok (.iload_n 3, 1) := by decide +kernel
theorem dX3_carryFrom_15 : decode cX3_carryFrom 15 = .ok (.aaload, 1) := by decide +kernel
theorem dX3_carryFrom_16 : decode cX3_carryFrom 16 = .ok (.getfield 91, 3) := by decide +kernel
theorem dX3_carryFrom_19 : decode cX3_carryFrom 19 = .ok (.iload_n 1, 1) := by decide +kernel
theorem dX3_carryFrom_20 : decode cX3_carryFrom 20 = .ok (.if_icmp .ne 24, 3) := by decide +kernel
theorem dX3_carryFrom_23 : decode cX3_carryFrom 23 = .ok (.aload_n 0, 1) := by decide +kernel
theorem dX3_carryFrom_24 : decode cX3_carryFrom 24 = .ok (.aload_n 0, 1) := by decide +kernel
theorem dX3_carryFrom_25 : decode cX3_carryFrom 25 = .ok (.getfield 11, 3) := by decide +kernel
theorem dX3_carryFrom_28 : decode cX3_carryFrom 28 = .ok (.iload_n 3, 1) := by decide +kernel
theorem dX3_carryFrom_29 : decode cX3_carryFrom 29 = .ok (.aaload, 1) := by decide +kernel
theorem dX3_carryFrom_30 : decode cX3_carryFrom 30 = .ok (.aload_n 0, 1) := by decide +kernel
theorem dX3_carryFrom_31 : decode cX3_carryFrom 31 = .ok (.aload_n 0, 1) := by decide +kernel
theorem dX3_carryFrom_32 : decode cX3_carryFrom 32 = .ok (.getfield 11, 3) := by decide +kernel
theorem dX3_carryFrom_35 : decode cX3_carryFrom 35 = .ok (.iload_n 3, 1) := by decide +kernel
theorem dX3_carryFrom_36 : decode cX3_carryFrom 36 = .ok (.aaload, 1) := by decide +kernel
theorem dX3_carryFrom_37 : decode cX3_carryFrom 37 = .ok (.aload_n 2, 1) := by decide +kernel
theorem dX3_carryFrom_38 : decode cX3_carryFrom 38 = .ok (.invokevirtual 154, 3) := by decide +kernel
theorem dX3_carryFrom_41 : decode cX3_carryFrom 41 = .ok (.invokevirtual 158, 3) := by decide +kernel
theorem dX3_carryFrom_44 : decode cX3_carryFrom 44 = .ok (.iinc 3 1, 3) := by decide +kernel
theorem dX3_carryFrom_47 : decode cX3_carryFrom 47 = .ok (.goto (-45), 3) := by decide +kernel
theorem dX3_carryFrom_50 : decode cX3_carryFrom 50 = .ok (.return_, 1) := by decide +kernel
theorem dX3_carry_0 : decode cX3_carry 0 = .ok (.iconst 0, 1) := by decide +kernel
theorem dX3_carry_1 : decode cX3_carry 1 = .ok (.istore_n 3, 1) := by decide +kernel
theorem dX3_carry_2 : decode cX3_carry 2 = .ok (.iload_n 3, 1) := by decide +kernel
theorem dX3_carry_3 : decode cX3_carry 3 = .ok (.iload_n 2, 1) := by decide +kernel
theorem dX3_carry_4 : decode cX3_carry 4 = .ok (.if_icmp .ge 86, 3) := by decide +kernel
theorem dX3_carry_7 : decode cX3_carry 7 = .ok (.aload_n 0, 1) := by decide +kernel
theorem dX3_carry_8 : decode cX3_carry 8 = .ok (.aload_n 1, 1) := by decide +kernel
theorem dX3_carry_9 : decode cX3_carry 9 = .ok (.getfield 91, 3) := by decide +kernel
theorem dX3_carry_12 : decode cX3_carry 12 = .ok (.invokevirtual 162, 3) := by decide +kernel
theorem dX3_carry_15 : decode cX3_carry 15 = .ok (.ifCond .eq 75, 3) := by decide +kernel
theorem dX3_carry_18 : decode cX3_carry 18 = .ok (.aload_n 0, 1) := by decide +kernel
theorem dX3_carry_19 : decode cX3_carry 19 = .ok (.getfield 24, 3) := by decide +kernel
theorem dX3_carry_22 : decode cX3_carry 22 = .ok (.aload_n 1, 1) := by decide +kernel
theorem dX3_carry_23 : decode cX3_carry 23 = .ok (.getfield 91, 3) := by decide +kernel
theorem dX3_carry_26 : decode cX3_carry 26 = .ok (.dup2, 1) := by decide +kernel
theorem dX3_carry_27 : decode cX3_carry 27 = .ok (.iaload, 1) := by decide +kernel
theorem dX3_carry_28 : decode cX3_carry 28 = .ok (.iconst 1, 1) := by decide +kernel
theorem dX3_carry_29 : decode cX3_carry 29 = .ok (.isub, 1) := by decide +kernel
theorem dX3_carry_30 : decode cX3_carry 30 = .ok (.iastore, 1) := by decide +kernel
theorem dX3_carry_31 : decode cX3_carry 31 = .ok (.aload_n 1, 1) := by decide +kernel
theorem dX3_carry_32 : decode cX3_carry 32 = .ok (.dup, 1) := by decide +kernel
theorem dX3_carry_33 : decode cX3_carry 33 = .ok (.getfield 91, 3) := by decide +kernel
theorem dX3_carry_36 : decode cX3_carry 36 = .ok (.iconst 1, 1) := by decide +kernel
theorem dX3_carry_37 : decode cX3_carry 37 = .ok (.iadd, 1) := by decide +kernel
theorem dX3_carry_38 : decode cX3_carry 38 = .ok (.putfield 91, 3) := by decide +kernel
theorem dX3_carry_41 : decode cX3_carry 41 = .ok (.aload_n 1, 1) := by decide +kernel
theorem dX3_carry_42 : decode cX3_carry 42 = .ok (.getfield 91, 3) := by decide +kernel
theorem dX3_carry_45 : decode cX3_carry 45 = .ok (.bipush 12, 2) := by decide +kernel
theorem dX3_carry_47 : decode cX3_carry 47 = .ok (.if_icmp .ne 24, 3) := by decide +kernel
theorem dX3_carry_50 : decode cX3_carry 50 = .ok (.aload_n 0, 1) := by decide +kernel
theorem dX3_carry_51 : decode cX3_carry 51 = .ok (.dup, 1) := by decide +kernel
theorem dX3_carry_52 : decode cX3_carry 52 = .ok (.getfield 58, 3) := by decide +kernel
theorem dX3_carry_55 : decode cX3_carry 55 = .ok (.iconst 1, 1) := by decide +kernel
theorem dX3_carry_56 : decode cX3_carry 56 = .ok (.iadd, 1) := by decide +kernel
theorem dX3_carry_57 : decode cX3_carry 57 = .ok (.putfield 58, 3) := by decide +kernel
theorem dX3_carry_60 : decode cX3_carry 60 = .ok (.aload_n 1, 1) := by decide +kernel
theorem dX3_carry_61 : decode cX3_carry 61 = .ok (.aload_n 0, 1) := by decide +kernel
theorem dX3_carry_62 : decode cX3_carry 62 = .ok (.getfield 58, 3) := by decide +kernel
theorem dX3_carry_65 : decode cX3_carry 65 = .ok (.putfield 94, 3) := by decide +kernel
theorem dX3_carry_68 : decode cX3_carry 68 = .ok (.goto 16, 3) := by decide +kernel
theorem dX3_carry_71 : decode cX3_carry 71 = .ok (.aload_n 0, 1) := by decide +kernel
theorem dX3_carry_72 : decode cX3_carry 72 = .ok (.getfield 24, 3) := by decide +kernel
theorem dX3_carry_75 : decode cX3_carry 75 = .ok (.aload_n 1, 1) := by decide +kernel
theorem dX3_carry_76 : decode cX3_carry 76 = .ok (.getfield 91, 3) := by decide +kernel
theorem dX3_carry_79 : decode cX3_carry 79 = .ok (.dup2, 1) := by decide +kernel
theorem dX3_carry_80 : decode cX3_carry 80 = .ok (.iaload, 1) := by decide +kernel
theorem dX3_carry_81 : decode cX3_carry 81 = .ok (.iconst 1, 1) := by decide +kernel
theorem dX3_carry_82 : decode cX3_carry 82 = .ok (.iadd, 1) := by decide +kernel
theorem dX3_carry_83 : decode cX3_carry 83 = .ok (.iastore, 1) := by decide +kernel
theorem dX3_carry_84 : decode cX3_carry 84 = .ok (.iinc 3 1, 3) := by decide +kernel
theorem dX3_carry_87 : decode cX3_carry 87 = .ok (.goto (-85), 3) := by decide +kernel
theorem dX3_carry_90 : decode cX3_carry 90 = .ok (.return_, 1) := by decide +kernel
theorem dX3_mayLeave_0 : decode cX3_mayLeave 0 = .ok (.iload_n 1, 1) := by decide +kernel
theorem dX3_mayLeave_1 : decode cX3_mayLeave 1 = .ok (.invokestatic 166, 3) := by decide +kernel
theorem dX3_mayLeave_4 : decode cX3_mayLeave 4 = .ok (.ifCond .eq 12, 3) := by decide +kernel
theorem dX3_mayLeave_7 : decode cX3_mayLeave 7 = .ok (.aload_n 0, 1) := by decide +kernel
theorem dX3_mayLeave_8 : decode cX3_mayLeave 8 = .ok (.getfield 21, 3) := by decide +kernel
theorem dX3_mayLeave_11 : decode cX3_mayLeave 11 = .ok (.iload_n 1, 1) := by decide +kernel
theorem dX3_mayLeave_12 : decode cX3_mayLeave 12 = .ok (.iaload, 1) := by decide +kernel
theorem dX3_mayLeave_13 : decode cX3_mayLeave 13 = .ok (.ifCond .eq 5, 3) := by decide +kernel
theorem dX3_mayLeave_16 : decode cX3_mayLeave 16 = .ok (.iconst 0, 1) := by decide +kernel
theorem dX3_mayLeave_17 : decode cX3_mayLeave 17 = .ok (.ireturn, 1) := by decide +kernel
theorem dX3_mayLeave_18 : decode cX3_mayLeave 18 = .ok (.iload_n 1, 1) := by decide +kernel
theorem dX3_mayLeave_19 : decode cX3_mayLeave 19 = .ok (.iconst 1, 1) := by decide +kernel
theorem dX3_mayLeave_20 : decode cX3_mayLeave 20 = .ok (.iadd, 1) := by decide +kernel
theorem dX3_mayLeave_21 : decode cX3_mayLeave 21 = .ok (.istore_n 2, 1) := by decide +kernel
theorem dX3_mayLeave_22 : decode cX3_mayLeave 22 = .ok (.iload_n 2, 1) := by decide +kernel
theorem dX3_mayLeave_23 : decode cX3_mayLeave 23 = .ok (.bipush 12, 2) := by decide +kernel
theorem dX3_mayLeave_25 : decode cX3_mayLeave 25 = .ok (.if_icmp .eq 18, 3) := by decide +kernel
theorem dX3_mayLeave_28 : decode cX3_mayLeave 28 = .ok (.aload_n 0, 1) := by decide +kernel
theorem dX3_mayLeave_29 : decode cX3_mayLeave 29 = .ok (.getfield 24, 3) := by decide +kernel
theorem dX3_mayLeave_32 : decode cX3_mayLeave 32 = .ok (.iload_n 2, 1) := by decide +kernel
theorem dX3_mayLeave_33 : decode cX3_mayLeave 33 = .ok (.iaload, 1) := by decide +kernel
theorem dX3_mayLeave_34 : decode cX3_mayLeave 34 = .ok (.aload_n 0, 1) := by decide +kernel
theorem dX3_mayLeave_35 : decode cX3_mayLeave 35 = .ok (.getfield 17, 3) := by decide +kernel
theorem dX3_mayLeave_38 : decode cX3_mayLeave 38 = .ok (.iload_n 2, 1) := by decide +kernel
theorem dX3_mayLeave_39 : decode cX3_mayLeave 39 = .ok (.iaload, 1) := by decide +kernel
theorem dX3_mayLeave_40 : decode cX3_mayLeave 40 = .ok (.if_icmp .ge 7, 3) := by decide +kernel
theorem dX3_mayLeave_43 : decode cX3_mayLeave 43 = .ok (.iconst 1, 1) := by decide +kernel
theorem dX3_mayLeave_44 : decode cX3_mayLeave 44 = .ok (.goto 4, 3) := by decide +kernel
theorem dX3_mayLeave_47 : decode cX3_mayLeave 47 = .ok (.iconst 0, 1) := by decide +kernel
theorem dX3_mayLeave_48 : decode cX3_mayLeave 48 = .ok (.ireturn, 1) := by decide +kernel
theorem dX3_sawByLot_0 : decode cX3_sawByLot 0 = .ok (.aload_n 0, 1) := by decide +kernel
theorem dX3_sawByLot_1 : decode cX3_sawByLot 1 = .ok (.iload_n 1, 1) := by decide +kernel
theorem dX3_sawByLot_2 : decode cX3_sawByLot 2 = .ok (.invokevirtual 169, 3) := by decide +kernel
theorem dX3_sawByLot_5 : decode cX3_sawByLot 5 = .ok (.ifCond .eq 59, 3) := by decide +kernel
theorem dX3_sawByLot_8 : decode cX3_sawByLot 8 = .ok (.aload_n 0, 1) := by decide +kernel
theorem dX3_sawByLot_9 : decode cX3_sawByLot 9 = .ok (.getfield 11, 3) := by decide +kernel
theorem dX3_sawByLot_12 : decode cX3_sawByLot 12 = .ok (.iload_n 1, 1) := by decide +kernel
theorem dX3_sawByLot_13 : decode cX3_sawByLot 13 = .ok (.aaload, 1) := by decide +kernel
theorem dX3_sawByLot_14 : decode cX3_sawByLot 14 = .ok (.invokevirtual 150, 3) := by decide +kernel
theorem dX3_sawByLot_17 : decode cX3_sawByLot 17 = .ok (.ifCond .eq 47, 3) := by decide +kernel
theorem dX3_sawByLot_20 : decode cX3_sawByLot 20 = .ok (.aload_n 0, 1) := by decide +kernel
theorem dX3_sawByLot_21 : decode cX3_sawByLot 21 = .ok (.invokevirtual 97, 3) := by decide +kernel
theorem dX3_sawByLot_24 : decode cX3_sawByLot 24 = .ok (.bipush 100, 2) := by decide +kernel
theorem dX3_sawByLot_26 : decode cX3_sawByLot 26 = .ok (.irem, 1) := by decide +kernel
theorem dX3_sawByLot_27 : decode cX3_sawByLot 27 = .ok (.aload_n 0, 1) := by decide +kernel
theorem dX3_sawByLot_28 : decode cX3_sawByLot 28 = .ok (.getfield 11, 3) := by decide +kernel
theorem dX3_sawByLot_31 : decode cX3_sawByLot 31 = .ok (.iload_n 1, 1) := by decide +kernel
theorem dX3_sawByLot_32 : decode cX3_sawByLot 32 = .ok (.aaload, 1) := by decide +kernel
theorem dX3_sawByLot_33 : decode cX3_sawByLot 33 = .ok (.aload_n 0, 1) := by decide +kernel
theorem dX3_sawByLot_34 : decode cX3_sawByLot 34 = .ok (.getfield 49, 3) := by decide +kernel
theorem dX3_sawByLot_37 : decode cX3_sawByLot 37 = .ok (.invokevirtual 172, 3) := by decide +kernel
theorem dX3_sawByLot_40 : decode cX3_sawByLot 40 = .ok (.if_icmp .ge 24, 3) := by decide +kernel
theorem dX3_sawByLot_43 : decode cX3_sawByLot 43 = .ok (.aload_n 0, 1) := by decide +kernel
theorem dX3_sawByLot_44 : decode cX3_sawByLot 44 = .ok (.getfield 11, 3) := by decide +kernel
theorem dX3_sawByLot_47 : decode cX3_sawByLot 47 = .ok (.iload_n 1, 1) := by decide +kernel
theorem dX3_sawByLot_48 : decode cX3_sawByLot 48 = .ok (.aaload, 1) := by decide +kernel
theorem dX3_sawByLot_49 : decode cX3_sawByLot 49 = .ok (.bipush 13, 2) := by decide +kernel
theorem dX3_sawByLot_51 : decode cX3_sawByLot 51 = .ok (.putfield 91, 3) := by decide +kernel
theorem dX3_sawByLot_54 : decode cX3_sawByLot 54 = .ok (.aload_n 0, 1) := by decide +kernel
theorem dX3_sawByLot_55 : decode cX3_sawByLot 55 = .ok (.dup, 1) := by decide +kernel
theorem dX3_sawByLot_56 : decode cX3_sawByLot 56 = .ok (.getfield 55, 3) := by decide +kernel
theorem dX3_sawByLot_59 : decode cX3_sawByLot 59 = .ok (.iconst 1, 1) := by decide +kernel
theorem dX3_sawByLot_60 : decode cX3_sawByLot 60 = .ok (.iadd, 1) := by decide +kernel
theorem dX3_sawByLot_61 : decode cX3_sawByLot 61 = .ok (.putfield 55, 3) := by decide +kernel
theorem dX3_sawByLot_64 : decode cX3_sawByLot 64 = .ok (.return_, 1) := by decide +kernel
theorem dX3_letterRead_0 : decode cX3_letterRead 0 = .ok (.iconst 0, 1) := by decide +kernel
theorem dX3_letterRead_1 : decode cX3_letterRead 1 = .ok (.istore_n 2, 1) := by decide +kernel
theorem dX3_letterRead_2 : decode cX3_letterRead 2 = .ok (.iload_n 2, 1) := by decide +kernel
theorem dX3_letterRead_3 : decode cX3_letterRead 3 = .ok (.aload_n 0, 1) := by decide +kernel
theorem dX3_letterRead_4 : decode cX3_letterRead 4 = .ok (.getfield 36, 3) := by decide +kernel
theorem dX3_letterRead_7 : decode cX3_letterRead 7 = .ok (.if_icmp .ge 34, 3) := by decide +kernel
theorem dX3_letterRead_10 : decode cX3_letterRead 10 = .ok (.aload_n 0, 1) := by decide +kernel
theorem dX3_letterRead_11 : decode cX3_letterRead 11 = .ok (.getfield 11, 3) := by decide +kernel
theorem dX3_letterRead_14 : decode cX3_letterRead 14 = .ok (.iload_n 2, 1) := by decide +kernel
theorem dX3_letterRead_15 : decode cX3_letterRead 15 = .ok (.aaload, 1) := by decide +kernel
theorem dX3_letterRead_16 : decode cX3_letterRead 16 = .ok (.getfield 94, 3) := by decide +kernel
theorem dX3_letterRead_19 : decode cX3_letterRead 19 = .ok (.iload_n 1, 1) := by decide +kernel
theorem dX3_letterRead_20 : decode cX3_letterRead 20 = .ok (.iconst 1, 1) := by decide +kernel
theorem dX3_letterRead_21 : decode cX3_letterRead 21 = .ok (.iadd, 1) := by decide +kernel
theorem dX3_letterRead_22 : decode cX3_letterRead 22 = .ok (.if_icmp .ne 13, 3) := by decide +kernel
theorem dX3_letterRead_25 : decode cX3_letterRead 25 = .ok (.aload_n 0, 1) := by decide +kernel
theorem dX3_letterRead_26 : decode cX3_letterRead 26 = .ok (.getfield 11, 3) := by decide +kernel
theorem dX3_letterRead_29 : decode cX3_letterRead 29 = .ok (.iload_n 2, 1) := by decide +kernel
theorem dX3_letterRead_30 : decode cX3_letterRead 30 = .ok (.aaload, 1) := by decide +kernel
theorem dX3_letterRead_31 : decode cX3_letterRead 31 = .ok (.getfield 85, 3) := by decide +kernel
theorem dX3_letterRead_34 : decode cX3_letterRead 34 = .ok (.ireturn, 1) := by decide +kernel
theorem dX3_letterRead_35 : decode cX3_letterRead 35 = .ok (.iinc 2 1, 3) := by decide +kernel
theorem dX3_letterRead_38 : decode cX3_letterRead 38 = .ok (.goto (-36), 3) := by decide +kernel
theorem dX3_letterRead_41 : decode cX3_letterRead 41 = .ok (.ldc 111, 2) := by decide +kernel
theorem dX3_letterRead_43 : decode cX3_letterRead 43 = .ok (.ireturn, 1) := by decide +kernel
theorem dX3_spelt_0 : decode cX3_spelt 0 = .ok (.iconst 0, 1) := by decide +kernel
theorem dX3_spelt_1 : decode cX3_spelt 1 = .ok (.istore_n 1, 1) := by decide +kernel
theorem dX3_spelt_2 : decode cX3_spelt 2 = .ok (.iconst 0, 1) := by decide +kernel
theorem dX3_spelt_3 : decode cX3_spelt 3 = .ok (.istore_n 2, 1) := by decide +kernel
theorem dX3_spelt_4 : decode cX3_spelt 4 = .ok (.iload_n 2, 1) := by decide +kernel
theorem dX3_spelt_5 : decode cX3_spelt 5 = .ok (.aload_n 0, 1) := by decide +kernel
theorem dX3_spelt_6 : decode cX3_spelt 6 = .ok (.getfield 40, 3) := by decide +kernel
theorem dX3_spelt_9 : decode cX3_spelt 9 = .ok (.if_icmp .ge 23, 3) := by decide +kernel
theorem dX3_spelt_12 : decode cX3_spelt 12 = .ok (.iload_n 1, 1) := by decide +kernel
theorem dX3_spelt_13 : decode cX3_spelt 13 = .ok (.aload_n 0, 1) := by decide +kernel
theorem dX3_spelt_14 : decode cX3_spelt 14 = .ok (.aload_n 0, 1) := by decide +kernel
theorem dX3_spelt_15 : decode cX3_spelt 15 = .ok (.getfield 27, 3) := by decide +kernel
theorem dX3_spelt_18 : decode cX3_spelt 18 = .ok (.iload_n 2, 1) := by decide +kernel
theorem dX3_spelt_19 : decode cX3_spelt 19 = .ok (.iaload, 1) := by decide +kernel
theorem dX3_spelt_20 : decode cX3_spelt 20 = .ok (.iload_n 1, 1) := by decide +kernel
theorem dX3_spelt_21 : decode cX3_spelt 21 = .ok (.invokevirtual 175, 3) := by decide +kernel
theorem dX3_spelt_24 : decode cX3_spelt 24 = .ok (.ior, 1) := by decide +kernel
theorem dX3_spelt_25 : decode cX3_spelt 25 = .ok (.istore_n 1, 1) := by decide +kernel
theorem dX3_spelt_26 : decode cX3_spelt 26 = .ok (.iinc 2 1, 3) := by decide +kernel
theorem dX3_spelt_29 : decode cX3_spelt 29 = .ok (.goto (-25), 3) := by decide +kernel
theorem dX3_spelt_32 : decode cX3_spelt 32 = .ok (.iload_n 1, 1) := by decide +kernel
theorem dX3_spelt_33 : decode cX3_spelt 33 = .ok (.invokestatic 178, 3) := by decide +kernel
theorem dX3_spelt_36 : decode cX3_spelt 36 = .ok (.ireturn, 1) := by decide +kernel
theorem dX3_unusedWith_0 : decode cX3_unusedWith 0 = .ok (.iconst 0, 1) := by decide +kernel
theorem dX3_unusedWith_1 : decode cX3_unusedWith 1 = .ok (.istore_n 3, 1) := by decide +kernel
theorem dX3_unusedWith_2 : decode cX3_unusedWith 2 = .ok (.iload_n 3, 1) := by decide +kernel
theorem dX3_unusedWith_3 : decode cX3_unusedWith 3 = .ok (.aload_n 0, 1) := by decide +kernel
theorem dX3_unusedWith_4 : decode cX3_unusedWith 4 = .ok (.getfield 36, 3) := by decide +kernel
theorem dX3_unusedWith_7 : decode cX3_unusedWith 7 = .ok (.if_icmp .ge 51, 3) := by decide +kernel
theorem dX3_unusedWith_10 : decode cX3_unusedWith 10 = .ok (.iconst 1, 1) := by decide +kernel
theorem dX3_unusedWith_11 : decode cX3_unusedWith 11 = .ok (.iload_n 3, 1) := by decide +kernel
theorem dX3_unusedWith_12 : decode cX3_unusedWith 12 = .ok (.ishl, 1) := by decide +kernel
theorem dX3_unusedWith_13 : decode cX3_unusedWith 13 = .ok (.istore 4, 2) := by decide +kernel
theorem dX3_unusedWith_15 : decode cX3_unusedWith 15 = .ok (.aload_n 0, 1) := by decide +kernel
theorem dX3_unusedWith_16 : decode cX3_unusedWith 16 = .ok (.getfield 11, 3) := by decide +kernel
theorem dX3_unusedWith_19 : decode cX3_unusedWith 19 = .ok (.iload_n 3, 1) := by decide +kernel
theorem dX3_unusedWith_20 : decode cX3_unusedWith 20 = .ok (.aaload, 1) := by decide +kernel
theorem dX3_unusedWith_21 : decode cX3_unusedWith 21 = .ok (.getfield 91, 3) := by decide +kernel
theorem dX3_unusedWith_24 : decode cX3_unusedWith 24 = .ok (.bipush 12, 2) := by decide +kernel
theorem dX3_unusedWith_26 : decode cX3_unusedWith 26 = .ok (.if_icmp .ne 26, 3) := by decide +kernel
theorem dX3_unusedWith_29 : decode cX3_unusedWith 29 = .ok (.aload_n 0, 1) := by decide +kernel
theorem dX3_unusedWith_30 : decode cX3_unusedWith 30 = .ok (.getfield 11, 3) := by decide +kernel
theorem dX3_unusedWith_33 : decode cX3_unusedWith 33 = .ok (.iload_n 3, 1) := by decide +kernel
theorem dX3_unusedWith_34 : decode cX3_unusedWith 34 = .ok (.aaload, 1) := by decide +kernel
theorem dX3_unusedWith_35 : decode cX3_unusedWith 35 = .ok (.getfield 85, 3) := by decide +kernel
theorem dX3_unusedWith_38 : decode cX3_unusedWith 38 = .ok (.iload_n 1, 1) := by decide +kernel
theorem dX3_unusedWith_39 : decode cX3_unusedWith 39 = .ok (.if_icmp .ne 13, 3) := by decide +kernel
theorem dX3_unusedWith_42 : decode cX3_unusedWith 42 = .ok (.iload_n 2, 1) := by decide +kernel
theorem dX3_unusedWith_43 : decode cX3_unusedWith 43 = .ok (.iload 4, 2) := by decide +kernel
theorem dX3_unusedWith_45 : decode cX3_unusedWith 45 = .ok (.iand, 1) := by decide +kernel
theorem dX3_unusedWith_46 : decode cX3_unusedWith 46 = .ok (.ifCond .ne 6, 3) := by decide +kernel
theorem dX3_unusedWith_49 : decode cX3_unusedWith 49 = .ok (.iload 4, 2) := by decide +kernel
theorem dX3_unusedWith_51 : decode cX3_unusedWith 51 = .ok (.ireturn, 1) := by decide +kernel
theorem dX3_unusedWith_52 : decode cX3_unusedWith 52 = .ok (.iinc 3 1, 3) := by decide +kernel
theorem dX3_unusedWith_55 : decode cX3_unusedWith 55 = .ok (.goto (-53), 3) := by decide +kernel
theorem dX3_unusedWith_58 : decode cX3_unusedWith 58 = .ok (.iconst 0, 1) := by decide +kernel
theorem dX3_unusedWith_59 : decode cX3_unusedWith 59 = .ok (.ireturn, 1) := by decide +kernel
theorem dX3_jammed_0 : decode cX3_jammed 0 = .ok (.aload_n 0, 1) := by decide +kernel
theorem dX3_jammed_1 : decode cX3_jammed 1 = .ok (.invokevirtual 136, 3) := by decide +kernel
theorem dX3_jammed_4 : decode cX3_jammed 4 = .ok (.iconst 0, 1) := by decide +kernel
theorem dX3_jammed_5 : decode cX3_jammed 5 = .ok (.istore_n 1, 1) := by decide +kernel
theorem dX3_jammed_6 : decode cX3_jammed 6 = .ok (.iconst 0, 1) := by decide +kernel
theorem dX3_jammed_7 : decode cX3_jammed 7 = .ok (.istore_n 2, 1) := by decide +kernel
theorem dX3_jammed_8 : decode cX3_jammed 8 = .ok (.iload_n 2, 1) := by decide +kernel
theorem dX3_jammed_9 : decode cX3_jammed 9 = .ok (.bipush 12, 2) := by decide +kernel
theorem dX3_jammed_11 : decode cX3_jammed 11 = .ok (.if_icmp .ge 33, 3) := by decide +kernel
theorem dX3_jammed_14 : decode cX3_jammed 14 = .ok (.aload_n 0, 1) := by decide +kernel
theorem dX3_jammed_15 : decode cX3_jammed 15 = .ok (.getfield 24, 3) := by decide +kernel
theorem dX3_jammed_18 : decode cX3_jammed 18 = .ok (.iload_n 2, 1) := by decide +kernel
theorem dX3_jammed_19 : decode cX3_jammed 19 = .ok (.iaload, 1) := by decide +kernel
theorem dX3_jammed_20 : decode cX3_jammed 20 = .ok (.aload_n 0, 1) := by decide +kernel
theorem dX3_jammed_21 : decode cX3_jammed 21 = .ok (.getfield 17, 3) := by decide +kernel
theorem dX3_jammed_24 : decode cX3_jammed 24 = .ok (.iload_n 2, 1) := by decide +kernel
theorem dX3_jammed_25 : decode cX3_jammed 25 = .ok (.iaload, 1) := by decide +kernel
theorem dX3_jammed_26 : decode cX3_jammed 26 = .ok (.if_icmp .lt 12, 3) := by decide +kernel
theorem dX3_jammed_29 : decode cX3_jammed 29 = .ok (.iload_n 1, 1) := by decide +kernel
theorem dX3_jammed_30 : decode cX3_jammed 30 = .ok (.aload_n 0, 1) := by decide +kernel
theorem dX3_jammed_31 : decode cX3_jammed 31 = .ok (.getfield 24, 3) := by decide +kernel
theorem dX3_jammed_34 : decode cX3_jammed 34 = .ok (.iload_n 2, 1) := by decide +kernel
theorem dX3_jammed_35 : decode cX3_jammed 35 = .ok (.iaload, 1) := by decide +kernel
theorem dX3_jammed_36 : decode cX3_jammed 36 = .ok (.iadd, 1) := by decide +kernel
theorem dX3_jammed_37 : decode cX3_jammed 37 = .ok (.istore_n 1, 1) := by decide +kernel
theorem dX3_jammed_38 : decode cX3_jammed 38 = .ok (.iinc 2 1, 3) := by decide +kernel
theorem dX3_jammed_41 : decode cX3_jammed 41 = .ok (.goto (-33), 3) := by decide +kernel
theorem dX3_jammed_44 : decode cX3_jammed 44 = .ok (.iload_n 1, 1) := by decide +kernel
theorem dX3_jammed_45 : decode cX3_jammed 45 = .ok (.ireturn, 1) := by decide +kernel
theorem dX3_afloat_0 : decode cX3_afloat 0 = .ok (.iconst 0, 1) := by decide +kernel
theorem dX3_afloat_1 : decode cX3_afloat 1 = .ok (.istore_n 1, 1) := by decide +kernel
theorem dX3_afloat_2 : decode cX3_afloat 2 = .ok (.iconst 0, 1) := by decide +kernel
theorem dX3_afloat_3 : decode cX3_afloat 3 = .ok (.istore_n 2, 1) := by decide +kernel
theorem dX3_afloat_4 : decode cX3_afloat 4 = .ok (.iload_n 2, 1) := by decide +kernel
theorem dX3_afloat_5 : decode cX3_afloat 5 = .ok (.aload_n 0, 1) := by decide +kernel
theorem dX3_afloat_6 : decode cX3_afloat 6 = .ok (.getfield 36, 3) := by decide +kernel
theorem dX3_afloat_9 : decode cX3_afloat 9 = .ok (.if_icmp .ge 27, 3) := by decide +kernel
theorem dX3_afloat_12 : decode cX3_afloat 12 = .ok (.aload_n 0, 1) := by decide +kernel
theorem dX3_afloat_13 : decode cX3_afloat 13 = .ok (.getfield 11, 3) := by decide +kernel
theorem dX3_afloat_16 : decode cX3_afloat 16 = .ok (.iload_n 2, 1) := by decide +kernel
theorem dX3_afloat_17 : decode cX3_afloat 17 = .ok (.aaload, 1) := by decide +kernel
theorem dX3_afloat_18 : decode cX3_afloat 18 = .ok (.invokevirtual 150, 3) := by decide +kernel
theorem dX3_afloat_21 : decode cX3_afloat 21 = .ok (.ifCond .eq 9, 3) := by decide +kernel
theorem dX3_afloat_24 : decode cX3_afloat 24 = .ok (.iload_n 1, 1) := by decide +kernel
theorem dX3_afloat_25 : decode cX3_afloat 25 = .ok (.iconst 1, 1) := by decide +kernel
theorem dX3_afloat_26 : decode cX3_afloat 26 = .ok (.iload_n 2, 1) := by decide +kernel
theorem dX3_afloat_27 : decode cX3_afloat 27 = .ok (.ishl, 1) := by decide +kernel
theorem dX3_afloat_28 : decode cX3_afloat 28 = .ok (.ior, 1) := by decide +kernel
theorem dX3_afloat_29 : decode cX3_afloat 29 = .ok (.istore_n 1, 1) := by decide +kernel
theorem dX3_afloat_30 : decode cX3_afloat 30 = .ok (.iinc 2 1, 3) := by decide +kernel
theorem dX3_afloat_33 : decode cX3_afloat 33 = .ok (.goto (-29), 3) := by decide +kernel
theorem dX3_afloat_36 : decode cX3_afloat 36 = .ok (.iload_n 1, 1) := by decide +kernel
theorem dX3_afloat_37 : decode cX3_afloat 37 = .ok (.ireturn, 1) := by decide +kernel
theorem dX3_reachesTogether_0 : decode cX3_reachesTogether 0 = .ok (.iconst 0, 1) := by decide +kernel
theorem dX3_reachesTogether_1 : decode cX3_reachesTogether 1 = .ok (.istore_n 1, 1) := by decide +kernel
theorem dX3_reachesTogether_2 : decode cX3_reachesTogether 2 = .ok (.iconst 0, 1) := by decide +kernel
theorem dX3_reachesTogether_3 : decode cX3_reachesTogether 3 = .ok (.istore_n 2, 1) := by decide +kernel
theorem dX3_reachesTogether_4 : decode cX3_reachesTogether 4 = .ok (.iload_n 2, 1) := by decide +kernel
theorem dX3_reachesTogether_5 : decode cX3_reachesTogether 5 = .ok (.aload_n 0, 1) := by decide +kernel
theorem dX3_reachesTogether_6 : decode cX3_reachesTogether 6 = .ok (.getfield 36, 3) := by decide +kernel
theorem dX3_reachesTogether_9 : decode cX3_reachesTogether 9 = .ok (.if_icmp .ge 21, 3) := by decide +kernel
theorem dX3_reachesTogether_12 : decode cX3_reachesTogether 12 = .ok (.iload_n 1, 1) := by decide +kernel
theorem dX3_reachesTogether_13 : decode cX3_reachesTogether 13 = .ok (.aload_n 0, 1) := by decide +kernel
theorem dX3_reachesTogether_14 : decode cX3_reachesTogether 14 = .ok (.getfield 11, 3) := by decide +kernel
theorem dX3_reachesTogether_17 : decode cX3_reachesTogether 17 = .ok (.iload_n 2, 1) := by decide +kernel
theorem dX3_reachesTogether_18 : decode cX3_reachesTogether 18 = .ok (.aaload, 1) := by decide +kernel
theorem dX3_reachesTogether_19 : decode cX3_reachesTogether 19 = .ok (.getfield 91, 3) := by decide +kernel
theorem dX3_reachesTogether_22 : decode cX3_reachesTogether 22 = .ok (.iadd, 1) := by decide +kernel
theorem dX3_reachesTogether_23 : decode cX3_reachesTogether 23 = .ok (.istore_n 1, 1) := by decide +kernel
theorem dX3_reachesTogether_24 : decode cX3_reachesTogether 24 = .ok (.iinc 2 1, 3) := by decide +kernel
theorem dX3_reachesTogether_27 : decode cX3_reachesTogether 27 = .ok (.goto (-23), 3) := by decide +kernel
theorem dX3_reachesTogether_30 : decode cX3_reachesTogether 30 = .ok (.iload_n 1, 1) := by decide +kernel
theorem dX3_reachesTogether_31 : decode cX3_reachesTogether 31 = .ok (.ireturn, 1) := by decide +kernel
theorem dX4_init_0 : decode cX4_init 0 = .ok (.aload_n 0, 1) := by decide +kernel
theorem dX4_init_1 : decode cX4_init 1 = .ok (.invokespecial 3, 3) := by decide +kernel
theorem dX4_init_4 : decode cX4_init 4 = .ok (.aload_n 0, 1) := by decide +kernel
theorem dX4_init_5 : decode cX4_init 5 = .ok (.bipush 24, 2) := by decide +kernel
theorem dX4_init_7 : decode cX4_init 7 = .ok (.newarray .int, 2) := by decide +kernel
theorem dX4_init_9 : decode cX4_init 9 = .ok (.putfield 9, 3) := by decide +kernel
theorem dX4_init_12 : decode cX4_init 12 = .ok (.aload_n 0, 1) := by decide +kernel
theorem dX4_init_13 : decode cX4_init 13 = .ok (.iconst (-1), 1) := by decide +kernel
theorem dX4_init_14 : decode cX4_init 14 = .ok (.putfield 15, 3) := by decide +kernel
theorem dX4_init_17 : decode cX4_init 17 = .ok (.aload_n 0, 1) := by decide +kernel
theorem dX4_init_18 : decode cX4_init 18 = .ok (.iconst 0, 1) := by decide +kernel
theorem dX4_init_19 : decode cX4_init 19 = .ok (.putfield 19, 3) := by decide +kernel
theorem dX4_init_22 : decode cX4_init 22 = .ok (.return_, 1) := by decide +kernel
theorem dX4_become_0 : decode cX4_become 0 = .ok (.aload_n 0, 1) := by decide +kernel
theorem dX4_become_1 : decode cX4_become 1 = .ok (.iload_n 1, 1) := by decide +kernel
theorem dX4_become_2 : decode cX4_become 2 = .ok (.putfield 15, 3) := by decide +kernel
theorem dX4_become_5 : decode cX4_become 5 = .ok (.aload_n 0, 1) := by decide +kernel
theorem dX4_become_6 : decode cX4_become 6 = .ok (.iload_n 2, 1) := by decide +kernel
theorem dX4_become_7 : decode cX4_become 7 = .ok (.putfield 19, 3) := by decide +kernel
theorem dX4_become_10 : decode cX4_become 10 = .ok (.iconst 0, 1) := by decide +kernel
theorem dX4_become_11 : decode cX4_become 11 = .ok (.istore_n 3, 1) := by decide +kernel
theorem dX4_become_12 : decode cX4_become 12 = .ok (.iload_n 3, 1) := by decide +kernel
theorem dX4_become_13 : decode cX4_become 13 = .ok (.bipush 24, 2) := by decide +kernel
theorem dX4_become_15 : decode cX4_become 15 = .ok (.if_icmp .ge 16, 3) := by decide +kernel
theorem dX4_become_18 : decode cX4_become 18 = .ok (.aload_n 0, 1) := by decide +kernel
theorem dX4_become_19 : decode cX4_become 19 = .ok (.getfield 9, 3) := by decide +kernel
theorem dX4_become_22 : decode cX4_become 22 = .ok (.iload_n 3, 1) := by decide +kernel
theorem dX4_become_23 : decode cX4_become 23 = .ok (.iconst 0, 1) := by decide +kernel
theorem dX4_become_24 : decode cX4_become 24 = .ok (.iastore, 1) := by decide +kernel
theorem dX4_become_25 : decode cX4_become 25 = .ok (.iinc 3 1, 3) := by decide +kernel
theorem dX4_become_28 : decode cX4_become 28 = .ok (.goto (-16), 3) := by decide +kernel
theorem dX4_become_31 : decode cX4_become 31 = .ok (.return_, 1) := by decide +kernel
theorem dX4_takeOver_0 : decode cX4_takeOver 0 = .ok (.aload_n 0, 1) := by decide +kernel
theorem dX4_takeOver_1 : decode cX4_takeOver 1 = .ok (.aload_n 1, 1) := by decide +kernel
theorem dX4_takeOver_2 : decode cX4_takeOver 2 = .ok (.getfield 15, 3) := by decide +kernel
theorem dX4_takeOver_5 : decode cX4_takeOver 5 = .ok (.putfield 15, 3) := by decide +kernel
theorem dX4_takeOver_8 : decode cX4_takeOver 8 = .ok (.aload_n 0, 1) := by decide +kernel
theorem dX4_takeOver_9 : decode cX4_takeOver 9 = .ok (.aload_n 1, 1) := by decide +kernel
theorem dX4_takeOver_10 : decode cX4_takeOver 10 = .ok (.getfield 19, 3) := by decide +kernel
theorem dX4_takeOver_13 : decode cX4_takeOver 13 = .ok (.putfield 19, 3) := by decide +kernel
theorem dX4_takeOver_16 : decode cX4_takeOver 16 = .ok (.aload_n 1, 1) := by decide +kernel
theorem dX4_takeOver_17 : decode cX4_takeOver 17 = .ok (.getfield 9, 3) := by decide +kernel
theorem dX4_takeOver_20 : decode cX4_takeOver 20 = .ok (.iconst 0, 1) := by decide +kernel
theorem dX4_takeOver_21 : decode cX4_takeOver 21 = .ok (.aload_n 0, 1) := by decide +kernel
theorem dX4_takeOver_22 : decode cX4_takeOver 22 = .ok (.getfield 9, 3) := by decide +kernel
theorem dX4_takeOver_25 : decode cX4_takeOver 25 = .ok (.iconst 0, 1) := by decide +kernel
theorem dX4_takeOver_26 : decode cX4_takeOver 26 = .ok (.bipush 24, 2) := by decide +kernel
theorem dX4_takeOver_28 : decode cX4_takeOver 28 = .ok (.invokestatic 22, 3) := by decide +kernel
theorem dX4_takeOver_31 : decode cX4_takeOver 31 = .ok (.return_, 1) := by decide +kernel
theorem dX4_isMissing_0 : decode cX4_isMissing 0 = .ok (.aload_n 0, 1) := by decide +kernel
theorem dX4_isMissing_1 : decode cX4_isMissing 1 = .ok (.getfield 15, 3) := by decide +kernel
theorem dX4_isMissing_4 : decode cX4_isMissing 4 = .ok (.iconst (-1), 1) := by decide +kernel
theorem dX4_isMissing_5 : decode cX4_isMissing 5 = .ok (.if_icmp .ne 7, 3) := by decide +kernel
theorem dX4_isMissing_8 : decode cX4_isMissing 8 = .ok (.iconst 1, 1) := by decide +kernel
theorem dX4_isMissing_9 : decode cX4_isMissing 9 = .ok (.goto 4, 3) := by decide +kernel
theorem dX4_isMissing_12 : decode cX4_isMissing 12 = .ok (.iconst 0, 1) := by decide +kernel
theorem dX4_isMissing_13 : decode cX4_isMissing 13 = .ok (.ireturn, 1) := by decide +kernel
theorem dX4_hasPlace_0 : decode cX4_hasPlace 0 = .ok (.iload_n 1, 1) := by decide +kernel
theorem dX4_hasPlace_1 : decode cX4_hasPlace 1 = .ok (.ifCond .lt 21, 3) := by decide +kernel
theorem dX4_hasPlace_4 : decode cX4_hasPlace 4 = .ok (.iload_n 1, 1) := by decide +kernel
theorem dX4_hasPlace_5 : decode cX4_hasPlace 5 = .ok (.aload_n 0, 1) := by decide +kernel
theorem dX4_hasPlace_6 : decode cX4_hasPlace 6 = .ok (.getfield 19, 3) := by decide +kernel
theorem dX4_hasPlace_9 : decode cX4_hasPlace 9 = .ok (.if_icmp .ge 13, 3) := by decide +kernel
theorem dX4_hasPlace_12 : decode cX4_hasPlace 12 = .ok (.iload_n 1, 1) := by decide +kernel
theorem dX4_hasPlace_13 : decode cX4_hasPlace 13 = .ok (.bipush 24, 2) := by decide +kernel
theorem dX4_hasPlace_15 : decode cX4_hasPlace 15 = .ok (.if_icmp .ge 7, 3) := by decide +kernel
theorem dX4_hasPlace_18 : decode cX4_hasPlace 18 = .ok (.iconst 1, 1) := by decide +kernel
theorem dX4_hasPlace_19 : decode cX4_hasPlace 19 = .ok (.goto 4, 3) := by decide +kernel
theorem dX4_hasPlace_22 : decode cX4_hasPlace 22 = .ok (.iconst 0, 1) := by decide +kernel
theorem dX4_hasPlace_23 : decode cX4_hasPlace 23 = .ok (.ireturn, 1) := by decide +kernel
theorem dX4_hasNumber_0 : decode cX4_hasNumber 0 = .ok (.aload_n 0, 1) := by decide +kernel
theorem dX4_hasNumber_1 : decode cX4_hasNumber 1 = .ok (.iload_n 1, 1) := by decide +kernel
theorem dX4_hasNumber_2 : decode cX4_hasNumber 2 = .ok (.invokevirtual 28, 3) := by decide +kernel
theorem dX4_hasNumber_5 : decode cX4_hasNumber 5 = .ok (.ifCond .eq 18, 3) := by decide +kernel
theorem dX4_hasNumber_8 : decode cX4_hasNumber 8 = .ok (.aload_n 0, 1) := by decide +kernel
theorem dX4_hasNumber_9 : decode cX4_hasNumber 9 = .ok (.getfield 9, 3) := by decide +kernel
theorem dX4_hasNumber_12 : decode cX4_hasNumber 12 = .ok (.iload_n 1, 1) := by decide +kernel
theorem dX4_hasNumber_13 : decode cX4_hasNumber 13 = .ok (.iaload, 1) := by decide +kernel
theorem dX4_hasNumber_14 : decode cX4_hasNumber 14 = .ok (.ldc 32, 2) := by decide +kernel
theorem dX4_hasNumber_16 : decode cX4_hasNumber 16 = .ok (.if_icmp .eq 7, 3) := by decide +kernel
theorem dX4_hasNumber_19 : decode cX4_hasNumber 19 = .ok (.iconst 1, 1) := by decide +kernel
theorem dX4_hasNumber_20 : decode cX4_hasNumber 20 = .ok (.goto 4, 3) := by decide +kernel
theorem dX4_hasNumber_23 : decode cX4_hasNumber 23 = .ok (.iconst 0, 1) := by decide +kernel
theorem dX4_hasNumber_24 : decode cX4_hasNumber 24 = .ok (.ireturn, 1) := by decide +kernel
theorem dX4_hasPlaces_0 : decode cX4_hasPlaces 0 = .ok (.iload_n 1, 1) := by decide +kernel
theorem dX4_hasPlaces_1 : decode cX4_hasPlaces 1 = .ok (.iconst 0, 1) := by decide +kernel
theorem dX4_hasPlaces_2 : decode cX4_hasPlaces 2 = .ok (.aload_n 0, 1) := by decide +kernel
theorem dX4_hasPlaces_3 : decode cX4_hasPlaces 3 = .ok (.getfield 19, 3) := by decide +kernel
theorem dX4_hasPlaces_6 : decode cX4_hasPlaces 6 = .ok (.invokestatic 33, 3) := by decide +kernel
theorem dX4_hasPlaces_9 : decode cX4_hasPlaces 9 = .ok (.ifCond .eq 21, 3) := by decide +kernel
theorem dX4_hasPlaces_12 : decode cX4_hasPlaces 12 = .ok (.iload_n 2, 1) := by decide +kernel
theorem dX4_hasPlaces_13 : decode cX4_hasPlaces 13 = .ok (.iconst 0, 1) := by decide +kernel
theorem dX4_hasPlaces_14 : decode cX4_hasPlaces 14 = .ok (.aload_n 0, 1) := by decide +kernel
theorem dX4_hasPlaces_15 : decode cX4_hasPlaces 15 = .ok (.getfield 19, 3) := by decide +kernel
theorem dX4_hasPlaces_18 : decode cX4_hasPlaces 18 = .ok (.iload_n 1, 1) := by decide +kernel
theorem dX4_hasPlaces_19 : decode cX4_hasPlaces 19 = .ok (.isub, 1) := by decide +kernel
theorem dX4_hasPlaces_20 : decode cX4_hasPlaces 20 = .ok (.invokestatic 33, 3) := by decide +kernel
theorem dX4_hasPlaces_23 : decode cX4_hasPlaces 23 = .ok (.ifCond .eq 7, 3) := by decide +kernel
theorem dX4_hasPlaces_26 : decode cX4_hasPlaces 26 = .ok (.iconst 1, 1) := by decide +kernel
theorem dX4_hasPlaces_27 : decode cX4_hasPlaces 27 = .ok (.goto 4, 3) := by decide +kernel
theorem dX4_hasPlaces_30 : decode cX4_hasPlaces 30 = .ok (.iconst 0, 1) := by decide +kernel
theorem dX4_hasPlaces_31 : decode cX4_hasPlaces 31 = .ok (.ireturn, 1) := by decide +kernel
theorem dX5_init_0 : decode cX5_init 0 = .ok (.aload_n 0, 1) := by decide +kernel
theorem dX5_init_1 : decode cX5_init 1 = .ok (.invokespecial 3, 3) := by decide +kernel
theorem dX5_init_4 : decode cX5_init 4 = .ok (.aload_n 0, 1) := by decide +kernel
theorem dX5_init_5 : decode cX5_init 5 = .ok (.new 9, 3) := by decide +kernel
theorem dX5_init_8 : decode cX5_init 8 = .ok (.dup, 1) := by decide +kernel
theorem dX5_init_9 : decode cX5_init 9 = .ok (.invokespecial 11, 3) := by decide +kernel
theorem dX5_init_12 : decode cX5_init 12 = .ok (.putfield 12, 3) := by decide +kernel
theorem dX5_init_15 : decode cX5_init 15 = .ok (.aload_n 0, 1) := by decide +kernel
theorem dX5_init_16 : decode cX5_init 16 = .ok (.new 18, 3) := by decide +kernel
theorem dX5_init_19 : decode cX5_init 19 = .ok (.dup, 1) := by decide +kernel
theorem dX5_init_20 : decode cX5_init 20 = .ok (.invokespecial 20, 3) := by decide +kernel
theorem dX5_init_23 : decode cX5_init 23 = .ok (.putfield 21, 3) := by decide +kernel
theorem dX5_init_26 : decode cX5_init 26 = .ok (.aload_n 0, 1) := by decide +kernel
theorem dX5_init_27 : decode cX5_init 27 = .ok (.iconst 0, 1) := by decide +kernel
theorem dX5_init_28 : decode cX5_init 28 = .ok (.putfield 25, 3) := by decide +kernel
theorem dX5_init_31 : decode cX5_init 31 = .ok (.aload_n 0, 1) := by decide +kernel
theorem dX5_init_32 : decode cX5_init 32 = .ok (.iconst 0, 1) := by decide +kernel
theorem dX5_init_33 : decode cX5_init 33 = .ok (.putfield 29, 3) := by decide +kernel
theorem dX5_init_36 : decode cX5_init 36 = .ok (.return_, 1) := by decide +kernel
theorem dX5_findingFor_0 : decode cX5_findingFor 0 = .ok (.aload_n 0, 1) := by decide +kernel
theorem dX5_findingFor_1 : decode cX5_findingFor 1 = .ok (.getfield 25, 3) := by decide +kernel
theorem dX5_findingFor_4 : decode cX5_findingFor 4 = .ok (.ifCond .ne 6, 3) := by decide +kernel
theorem dX5_findingFor_7 : decode cX5_findingFor 7 = .ok (.ldc 32, 2) := by decide +kernel
theorem dX5_findingFor_9 : decode cX5_findingFor 9 = .ok (.ireturn, 1) := by decide +kernel
theorem dX5_findingFor_10 : decode cX5_findingFor 10 = .ok (.aload_n 0, 1) := by decide +kernel
theorem dX5_findingFor_11 : decode cX5_findingFor 11 = .ok (.getfield 25, 3) := by decide +kernel
theorem dX5_findingFor_14 : decode cX5_findingFor 14 = .ok (.iload_n 1, 1) := by decide +kernel
theorem dX5_findingFor_15 : decode cX5_findingFor 15 = .ok (.if_icmp .ne 7, 3) := by decide +kernel
theorem dX5_findingFor_18 : decode cX5_findingFor 18 = .ok (.iconst 0, 1) := by decide +kernel
theorem dX5_findingFor_19 : decode cX5_findingFor 19 = .ok (.goto 5, 3) := by decide +kernel
theorem dX5_findingFor_22 : decode cX5_findingFor 22 = .ok (.ldc 33, 2) := by decide +kernel
theorem dX5_findingFor_24 : decode cX5_findingFor 24 = .ok (.ireturn, 1) := by decide +kernel
theorem dX6_init_0 : decode cX6_init 0 = .ok (.aload_n 0, 1) := by decide +kernel
theorem dX6_init_1 : decode cX6_init 1 = .ok (.invokespecial 3, 3) := by decide +kernel
theorem dX6_init_4 : decode cX6_init 4 = .ok (.aload_n 0, 1) := by decide +kernel
theorem dX6_init_5 : decode cX6_init 5 = .ok (.bipush 96, 2) := by decide +kernel
theorem dX6_init_7 : decode cX6_init 7 = .ok (.newarray .byte, 2) := by decide +kernel
theorem dX6_init_9 : decode cX6_init 9 = .ok (.putfield 9, 3) := by decide +kernel
theorem dX6_init_12 : decode cX6_init 12 = .ok (.aload_n 0, 1) := by decide +kernel
theorem dX6_init_13 : decode cX6_init 13 = .ok (.iconst 0, 1) := by decide +kernel
theorem dX6_init_14 : decode cX6_init 14 = .ok (.putfield 15, 3) := by decide +kernel
theorem dX6_init_17 : decode cX6_init 17 = .ok (.return_, 1) := by decide +kernel
theorem dX6_addBytesOf_0 : decode cX6_addBytesOf 0 = .ok (.bipush 24, 2) := by decide +kernel
theorem dX6_addBytesOf_2 : decode cX6_addBytesOf 2 = .ok (.istore_n 2, 1) := by decide +kernel
theorem dX6_addBytesOf_3 : decode cX6_addBytesOf 3 = .ok (.iload_n 2, 1) := by decide +kernel
theorem dX6_addBytesOf_4 : decode cX6_addBytesOf 4 = .ok (.ifCond .lt 41, 3) := by decide +kernel
theorem dX6_addBytesOf_7 : decode cX6_addBytesOf 7 = .ok (.aload_n 0, 1) := by decide +kernel
theorem dX6_addBytesOf_8 : decode cX6_addBytesOf 8 = .ok (.getfield 15, 3) := by decide +kernel
theorem dX6_addBytesOf_11 : decode cX6_addBytesOf 11 = .ok (.bipush 96, 2) := by decide +kernel
theorem dX6_addBytesOf_13 : decode cX6_addBytesOf 13 = .ok (.if_icmp .ge 32, 3) := by decide +kernel
theorem dX6_addBytesOf_16 : decode cX6_addBytesOf 16 = .ok (.aload_n 0, 1) := by decide +kernel
theorem dX6_addBytesOf_17 : decode cX6_addBytesOf 17 = .ok (.getfield 9, 3) := by decide +kernel
theorem dX6_addBytesOf_20 : decode cX6_addBytesOf 20 = .ok (.aload_n 0, 1) := by decide +kernel
theorem dX6_addBytesOf_21 : decode cX6_addBytesOf 21 = .ok (.getfield 15, 3) := by decide +kernel
theorem dX6_addBytesOf_24 : decode cX6_addBytesOf 24 = .ok (.iload_n 1, 1) := by decide +kernel
theorem dX6_addBytesOf_25 : decode cX6_addBytesOf 25 = .ok (.iload_n 2, 1) := by decide +kernel
theorem dX6_addBytesOf_26 : decode cX6_addBytesOf 26 = .ok (.iushr, 1) := by decide +kernel
theorem dX6_addBytesOf_27 : decode cX6_addBytesOf 27 = .ok (.i2b, 1) := by decide +kernel
theorem dX6_addBytesOf_28 : decode cX6_addBytesOf 28 = .ok (.bastore, 1) := by decide +kernel
theorem dX6_addBytesOf_29 : decode cX6_addBytesOf 29 = .ok (.aload_n 0, 1) := by decide +kernel
theorem dX6_addBytesOf_30 : decode cX6_addBytesOf 30 = .ok (.dup, 1) := by decide +kernel
theorem dX6_addBytesOf_31 : decode cX6_addBytesOf 31 = .ok (.getfield 15, 3) := by decide +kernel
theorem dX6_addBytesOf_34 : decode cX6_addBytesOf 34 = .ok (.iconst 1, 1) := by decide +kernel
theorem dX6_addBytesOf_35 : decode cX6_addBytesOf 35 = .ok (.iadd, 1) := by decide +kernel
theorem dX6_addBytesOf_36 : decode cX6_addBytesOf 36 = .ok (.putfield 15, 3) := by decide +kernel
theorem dX6_addBytesOf_39 : decode cX6_addBytesOf 39 = .ok (.iinc 2 (-8), 3) := by decide +kernel
theorem dX6_addBytesOf_42 : decode cX6_addBytesOf 42 = .ok (.goto (-39), 3) := by decide +kernel
theorem dX6_addBytesOf_45 : decode cX6_addBytesOf 45 = .ok (.return_, 1) := by decide +kernel
theorem dX6_byteAt_0 : decode cX6_byteAt 0 = .ok (.iload_n 1, 1) := by decide +kernel
theorem dX6_byteAt_1 : decode cX6_byteAt 1 = .ok (.ifCond .lt 26, 3) := by decide +kernel
theorem dX6_byteAt_4 : decode cX6_byteAt 4 = .ok (.iload_n 1, 1) := by decide +kernel
theorem dX6_byteAt_5 : decode cX6_byteAt 5 = .ok (.aload_n 0, 1) := by decide +kernel
theorem dX6_byteAt_6 : decode cX6_byteAt 6 = .ok (.getfield 15, 3) := by decide +kernel
theorem dX6_byteAt_9 : decode cX6_byteAt 9 = .ok (.if_icmp .ge 18, 3) := by decide +kernel
theorem dX6_byteAt_12 : decode cX6_byteAt 12 = .ok (.iload_n 1, 1) := by decide +kernel
theorem dX6_byteAt_13 : decode cX6_byteAt 13 = .ok (.bipush 96, 2) := by decide +kernel
theorem dX6_byteAt_15 : decode cX6_byteAt 15 = .ok (.if_icmp .ge 12, 3) := by decide +kernel
theorem dX6_byteAt_18 : decode cX6_byteAt 18 = .ok (.aload_n 0, 1) := by decide +kernel
theorem dX6_byteAt_19 : decode cX6_byteAt 19 = .ok (.getfield 9, 3) := by decide +kernel
theorem dX6_byteAt_22 : decode cX6_byteAt 22 = .ok (.iload_n 1, 1) := by decide +kernel
theorem dX6_byteAt_23 : decode cX6_byteAt 23 = .ok (.baload, 1) := by decide +kernel
theorem dX6_byteAt_24 : decode cX6_byteAt 24 = .ok (.goto 5, 3) := by decide +kernel
theorem dX6_byteAt_27 : decode cX6_byteAt 27 = .ok (.bipush 32, 2) := by decide +kernel
theorem dX6_byteAt_29 : decode cX6_byteAt 29 = .ok (.ireturn, 1) := by decide +kernel
theorem dJ6_bitCount_0f7a4_0 : decode cJ6_bitCount_0f7a4 0 = .ok (.iload_n 0, 1) := by decide +kernel
theorem dJ6_bitCount_0f7a4_1 : decode cJ6_bitCount_0f7a4 1 = .ok (.iload_n 0, 1) := by decide +kernel
theorem dJ6_bitCount_0f7a4_2 : decode cJ6_bitCount_0f7a4 2 = .ok (.iconst 1, 1) := by decide +kernel
theorem dJ6_bitCount_0f7a4_3 : decode cJ6_bitCount_0f7a4 3 = .ok (.iushr, 1) := by decide +kernel
theorem dJ6_bitCount_0f7a4_4 : decode cJ6_bitCount_0f7a4 4 = .ok (.ldc_w 265, 3) := by decide +kernel
theorem dJ6_bitCount_0f7a4_7 : decode cJ6_bitCount_0f7a4 7 = .ok (.iand, 1) := by decide +kernel
theorem dJ6_bitCount_0f7a4_8 : decode cJ6_bitCount_0f7a4 8 = .ok (.isub, 1) := by decide +kernel
theorem dJ6_bitCount_0f7a4_9 : decode cJ6_bitCount_0f7a4 9 = .ok (.istore_n 0, 1) := by decide +kernel
theorem dJ6_bitCount_0f7a4_10 : decode cJ6_bitCount_0f7a4 10 = .ok (.iload_n 0, 1) := by decide +kernel
theorem dJ6_bitCount_0f7a4_11 : decode cJ6_bitCount_0f7a4 11 = .ok (.ldc_w 266, 3) := by decide +kernel
theorem dJ6_bitCount_0f7a4_14 : decode cJ6_bitCount_0f7a4 14 = .ok (.iand, 1) := by decide +kernel
theorem dJ6_bitCount_0f7a4_15 : decode cJ6_bitCount_0f7a4 15 = .ok (.iload_n 0, 1) := by decide +kernel
theorem dJ6_bitCount_0f7a4_16 : decode cJ6_bitCount_0f7a4 16 = .ok (.iconst 2, 1) := by decide +kernel
theorem dJ6_bitCount_0f7a4_17 : decode cJ6_bitCount_0f7a4 17 = .ok (.iushr, 1) := by decide +kernel
theorem dJ6_bitCount_0f7a4_18 : decode cJ6_bitCount_0f7a4 18 = .ok (.ldc_w 266, 3) := by decide +kernel
theorem dJ6_bitCount_0f7a4_21 : decode cJ6_bitCount_0f7a4 21 = .ok (.iand, 1) := by decide +kernel
theorem dJ6_bitCount_0f7a4_22 : decode cJ6_bitCount_0f7a4 22 = .ok (.iadd, 1) := by decide +kernel
theorem dJ6_bitCount_0f7a4_23 : decode cJ6_bitCount_0f7a4 23 = .ok (.istore_n 0, 1) := by decide +kernel
theorem dJ6_bitCount_0f7a4_24 : decode cJ6_bitCount_0f7a4 24 = .ok (.iload_n 0, 1) := by decide +kernel
theorem dJ6_bitCount_0f7a4_25 : decode cJ6_bitCount_0f7a4 25 = .ok (.iload_n 0, 1) := by decide +kernel
theorem dJ6_bitCount_0f7a4_26 : decode cJ6_bitCount_0f7a4 26 = .ok (.iconst 4, 1) := by decide +kernel
theorem dJ6_bitCount_0f7a4_27 : decode cJ6_bitCount_0f7a4 27 = .ok (.iushr, 1) := by decide +kernel
theorem dJ6_bitCount_0f7a4_28 : decode cJ6_bitCount_0f7a4 28 = .ok (.iadd, 1) := by decide +kernel
theorem dJ6_bitCount_0f7a4_29 : decode cJ6_bitCount_0f7a4 29 = .ok (.ldc_w 267, 3) := by decide +kernel
theorem dJ6_bitCount_0f7a4_32 : decode cJ6_bitCount_0f7a4 32 = .ok (.iand, 1) := by decide +kernel
theorem dJ6_bitCount_0f7a4_33 : decode cJ6_bitCount_0f7a4 33 = .ok (.istore_n 0, 1) := by decide +kernel
theorem dJ6_bitCount_0f7a4_34 : decode cJ6_bitCount_0f7a4 34 = .ok (.iload_n 0, 1) := by decide +kernel
theorem dJ6_bitCount_0f7a4_35 : decode cJ6_bitCount_0f7a4 35 = .ok (.iload_n 0, 1) := by decide +kernel
theorem dJ6_bitCount_0f7a4_36 : decode cJ6_bitCount_0f7a4 36 = .ok (.bipush 8, 2) := by decide +kernel
theorem dJ6_bitCount_0f7a4_38 : decode cJ6_bitCount_0f7a4 38 = .ok (.iushr, 1) := by decide +kernel
theorem dJ6_bitCount_0f7a4_39 : decode cJ6_bitCount_0f7a4 39 = .ok (.iadd, 1) := by decide +kernel
theorem dJ6_bitCount_0f7a4_40 : decode cJ6_bitCount_0f7a4 40 = .ok (.istore_n 0, 1) := by decide +kernel
theorem dJ6_bitCount_0f7a4_41 : decode cJ6_bitCount_0f7a4 41 = .ok (.iload_n 0, 1) := by decide +kernel
theorem dJ6_bitCount_0f7a4_42 : decode cJ6_bitCount_0f7a4 42 = .ok (.iload_n 0, 1) := by decide +kernel
theorem dJ6_bitCount_0f7a4_43 : decode cJ6_bitCount_0f7a4 43 = .ok (.bipush 16, 2) := by decide +kernel
theorem dJ6_bitCount_0f7a4_45 : decode cJ6_bitCount_0f7a4 45 = .ok (.iushr, 1) := by decide +kernel
theorem dJ6_bitCount_0f7a4_46 : decode cJ6_bitCount_0f7a4 46 = .ok (.iadd, 1) := by decide +kernel
theorem dJ6_bitCount_0f7a4_47 : decode cJ6_bitCount_0f7a4 47 = .ok (.istore_n 0, 1) := by decide +kernel
theorem dJ6_bitCount_0f7a4_48 : decode cJ6_bitCount_0f7a4 48 = .ok (.iload_n 0, 1) := by decide +kernel
theorem dJ6_bitCount_0f7a4_49 : decode cJ6_bitCount_0f7a4 49 = .ok (.bipush 63, 2) := by decide +kernel
theorem dJ6_bitCount_0f7a4_51 : decode cJ6_bitCount_0f7a4 51 = .ok (.iand, 1) := by decide +kernel
theorem dJ6_bitCount_0f7a4_52 : decode cJ6_bitCount_0f7a4 52 = .ok (.ireturn, 1) := by decide +kernel
theorem dJ9_abs_0f7a4_0 : decode cJ9_abs_0f7a4 0 = .ok (.iload_n 0, 1) := by decide +kernel
theorem dJ9_abs_0f7a4_1 : decode cJ9_abs_0f7a4 1 = .ok (.ifCond .ge 8, 3) := by decide +kernel
theorem dJ9_abs_0f7a4_4 : decode cJ9_abs_0f7a4 4 = .ok (.iload_n 0, 1) := by decide +kernel
theorem dJ9_abs_0f7a4_5 : decode cJ9_abs_0f7a4 5 = .ok (.ineg, 1) := by decide +kernel
theorem dJ9_abs_0f7a4_6 : decode cJ9_abs_0f7a4 6 = .ok (.goto 4, 3) := by decide +kernel
theorem dJ9_abs_0f7a4_9 : decode cJ9_abs_0f7a4 9 = .ok (.iload_n 0, 1) := by decide +kernel
theorem dJ9_abs_0f7a4_10 : decode cJ9_abs_0f7a4 10 = .ok (.ireturn, 1) := by decide +kernel
theorem dJ9_max_7cf53_0 : decode cJ9_max_7cf53 0 = .ok (.iload_n 0, 1) := by decide +kernel
theorem dJ9_max_7cf53_1 : decode cJ9_max_7cf53 1 = .ok (.iload_n 1, 1) := by decide +kernel
theorem dJ9_max_7cf53_2 : decode cJ9_max_7cf53 2 = .ok (.if_icmp .lt 7, 3) := by decide +kernel
theorem dJ9_max_7cf53_5 : decode cJ9_max_7cf53 5 = .ok (.iload_n 0, 1) := by decide +kernel
theorem dJ9_max_7cf53_6 : decode cJ9_max_7cf53 6 = .ok (.goto 4, 3) := by decide +kernel
theorem dJ9_max_7cf53_9 : decode cJ9_max_7cf53 9 = .ok (.iload_n 1, 1) := by decide +kernel
theorem dJ9_max_7cf53_10 : decode cJ9_max_7cf53 10 = .ok (.ireturn, 1) := by decide +kernel
theorem dJ9_min_7cf53_0 : decode cJ9_min_7cf53 0 = .ok (.iload_n 0, 1) := by decide +kernel
theorem dJ9_min_7cf53_1 : decode cJ9_min_7cf53 1 = .ok (.iload_n 1, 1) := by decide +kernel
theorem dJ9_min_7cf53_2 : decode cJ9_min_7cf53 2 = .ok (.if_icmp .gt 7, 3) := by decide +kernel
theorem dJ9_min_7cf53_5 : decode cJ9_min_7cf53 5 = .ok (.iload_n 0, 1) := by decide +kernel
theorem dJ9_min_7cf53_6 : decode cJ9_min_7cf53 6 = .ok (.goto 4, 3) := by decide +kernel
theorem dJ9_min_7cf53_9 : decode cJ9_min_7cf53 9 = .ok (.iload_n 1, 1) := by decide +kernel
theorem dJ9_min_7cf53_10 : decode cJ9_min_7cf53 10 = .ok (.ireturn, 1) := by decide +kernel
theorem dJ0_length_8abf5_0 : decode cJ0_length_8abf5 0 = .ok (.aload_n 0, 1) := by decide +kernel
theorem dJ0_length_8abf5_1 : decode cJ0_length_8abf5 1 = .ok (.getfield 9, 3) := by decide +kernel
theorem dJ0_length_8abf5_4 : decode cJ0_length_8abf5 4 = .ok (.arraylength, 1) := by decide +kernel
theorem dJ0_length_8abf5_5 : decode cJ0_length_8abf5 5 = .ok (.aload_n 0, 1) := by decide +kernel
theorem dJ0_length_8abf5_6 : decode cJ0_length_8abf5 6 = .ok (.invokevirtual 335, 3) := by decide +kernel
theorem dJ0_length_8abf5_9 : decode cJ0_length_8abf5 9 = .ok (.ishr, 1) := by decide +kernel
theorem dJ0_length_8abf5_10 : decode cJ0_length_8abf5 10 = .ok (.ireturn, 1) := by decide +kernel
theorem dJ0_charAt_5068e_0 : decode cJ0_charAt_5068e 0 = .ok (.aload_n 0, 1) := by decide +kernel
theorem dJ0_charAt_5068e_1 : decode cJ0_charAt_5068e 1 = .ok (.invokevirtual 492, 3) := by decide +kernel
theorem dJ0_charAt_5068e_4 : decode cJ0_charAt_5068e 4 = .ok (.ifCond .eq 12, 3) := by decide +kernel
theorem dJ0_charAt_5068e_7 : decode cJ0_charAt_5068e 7 = .ok (.aload_n 0, 1) := by decide +kernel
theorem dJ0_charAt_5068e_8 : decode cJ0_charAt_5068e 8 = .ok (.getfield 9, 3) := by decide +kernel
theorem dJ0_charAt_5068e_11 : decode cJ0_charAt_5068e 11 = .ok (.iload_n 1, 1) := by decide +kernel
theorem dJ0_charAt_5068e_12 : decode cJ0_charAt_5068e 12 = .ok (.invokestatic 495, 3) := by decide +kernel
theorem dJ0_charAt_5068e_15 : decode cJ0_charAt_5068e 15 = .ok (.ireturn, 1) := by decide +kernel
theorem dJ0_charAt_5068e_16 : decode cJ0_charAt_5068e 16 = .ok (.aload_n 0, 1) := by decide +kernel
theorem dJ0_charAt_5068e_17 : decode cJ0_charAt_5068e 17 = .ok (.getfield 9, 3) := by decide +kernel
theorem dJ0_charAt_5068e_20 : decode cJ0_charAt_5068e 20 = .ok (.iload_n 1, 1) := by decide +kernel
theorem dJ0_charAt_5068e_21 : decode cJ0_charAt_5068e 21 = .ok (.invokestatic 498, 3) := by decide +kernel
theorem dJ0_charAt_5068e_24 : decode cJ0_charAt_5068e 24 = .ok (.ireturn, 1) := by decide +kernel
theorem dJ0_indexOf_0f7a4_0 : decode cJ0_indexOf_0f7a4 0 = .ok (.aload_n 0, 1) := by decide +kernel
theorem dJ0_indexOf_0f7a4_1 : decode cJ0_indexOf_0f7a4 1 = .ok (.iload_n 1, 1) := by decide +kernel
theorem dJ0_indexOf_0f7a4_2 : decode cJ0_indexOf_0f7a4 2 = .ok (.iconst 0, 1) := by decide +kernel
theorem dJ0_indexOf_0f7a4_3 : decode cJ0_indexOf_0f7a4 3 = .ok (.invokevirtual 633, 3) := by decide +kernel
theorem dJ0_indexOf_0f7a4_6 : decode cJ0_indexOf_0f7a4 6 = .ok (.ireturn, 1) := by decide +kernel
theorem dJ0_indexOf_7cf53_0 : decode cJ0_indexOf_7cf53 0 = .ok (.aload_n 0, 1) := by decide +kernel
theorem dJ0_indexOf_7cf53_1 : decode cJ0_indexOf_7cf53 1 = .ok (.invokevirtual 492, 3) := by decide +kernel
theorem dJ0_indexOf_7cf53_4 : decode cJ0_indexOf_7cf53 4 = .ok (.ifCond .eq 19, 3) := by decide +kernel
theorem dJ0_indexOf_7cf53_7 : decode cJ0_indexOf_7cf53 7 = .ok (.aload_n 0, 1) := by decide +kernel
theorem dJ0_indexOf_7cf53_8 : decode cJ0_indexOf_7cf53 8 = .ok (.getfield 9, 3) := by decide +kernel
theorem dJ0_indexOf_7cf53_11 : decode cJ0_indexOf_7cf53 11 = .ok (.iload_n 1, 1) := by decide +kernel
theorem dJ0_indexOf_7cf53_12 : decode cJ0_indexOf_7cf53 12 = .ok (.iload_n 2, 1) := by decide +kernel
theorem dJ0_indexOf_7cf53_13 : decode cJ0_indexOf_7cf53 13 = .ok (.aload_n 0, 1) := by decide +kernel
theorem dJ0_indexOf_7cf53_14 : decode cJ0_indexOf_7cf53 14 = .ok (.invokevirtual 505, 3) := by decide +kernel
theorem dJ0_indexOf_7cf53_17 : decode cJ0_indexOf_7cf53 17 = .ok (.invokestatic 637, 3) := by decide +kernel
theorem dJ0_indexOf_7cf53_20 : decode cJ0_indexOf_7cf53 20 = .ok (.goto 16, 3) := by decide +kernel
theorem dJ0_indexOf_7cf53_23 : decode cJ0_indexOf_7cf53 23 = .ok (.aload_n 0, 1) := by decide +kernel
theorem dJ0_indexOf_7cf53_24 : decode cJ0_indexOf_7cf53 24 = .ok (.getfield 9, 3) := by decide +kernel
theorem dJ0_indexOf_7cf53_27 : decode cJ0_indexOf_7cf53 27 = .ok (.iload_n 1, 1) := by decide +kernel
theorem dJ0_indexOf_7cf53_28 : decode cJ0_indexOf_7cf53 28 = .ok (.iload_n 2, 1) := by decide +kernel
theorem dJ0_indexOf_7cf53_29 : decode cJ0_indexOf_7cf53 29 = .ok (.aload_n 0, 1) := by decide +kernel
theorem dJ0_indexOf_7cf53_30 : decode cJ0_indexOf_7cf53 30 = .ok (.invokevirtual 505, 3) := by decide +kernel
theorem dJ0_indexOf_7cf53_33 : decode cJ0_indexOf_7cf53 33 = .ok (.invokestatic 640, 3) := by decide +kernel
theorem dJ0_indexOf_7cf53_36 : decode cJ0_indexOf_7cf53 36 = .ok (.ireturn, 1) := by decide +kernel
theorem dJ0_coder_7d493_0 : decode cJ0_coder_7d493 0 = .ok (.getstatic 38, 3) := by decide +kernel
theorem dJ0_coder_7d493_3 : decode cJ0_coder_7d493 3 = .ok (.ifCond .eq 10, 3) := by decide +kernel
theorem dJ0_coder_7d493_6 : decode cJ0_coder_7d493 6 = .ok (.aload_n 0, 1) := by decide +kernel
theorem dJ0_coder_7d493_7 : decode cJ0_coder_7d493 7 = .ok (.getfield 15, 3) := by decide +kernel
theorem dJ0_coder_7d493_10 : decode cJ0_coder_7d493 10 = .ok (.goto 4, 3) := by decide +kernel
theorem dJ0_coder_7d493_13 : decode cJ0_coder_7d493 13 = .ok (.iconst 1, 1) := by decide +kernel
theorem dJ0_coder_7d493_14 : decode cJ0_coder_7d493 14 = .ok (.ireturn, 1) := by decide +kernel
theorem dJ0_isLatin1_aae02_0 : decode cJ0_isLatin1_aae02 0 = .ok (.getstatic 38, 3) := by decide +kernel
theorem dJ0_isLatin1_aae02_3 : decode cJ0_isLatin1_aae02 3 = .ok (.ifCond .eq 14, 3) := by decide +kernel
theorem dJ0_isLatin1_aae02_6 : decode cJ0_isLatin1_aae02 6 = .ok (.aload_n 0, 1) := by decide +kernel
theorem dJ0_isLatin1_aae02_7 : decode cJ0_isLatin1_aae02 7 = .ok (.getfield 15, 3) := by decide +kernel
theorem dJ0_isLatin1_aae02_10 : decode cJ0_isLatin1_aae02 10 = .ok (.ifCond .ne 7, 3) := by decide +kernel
theorem dJ0_isLatin1_aae02_13 : decode cJ0_isLatin1_aae02 13 = .ok (.iconst 1, 1) := by decide +kernel
theorem dJ0_isLatin1_aae02_14 : decode cJ0_isLatin1_aae02 14 = .ok (.goto 4, 3) := by decide +kernel
theorem dJ0_isLatin1_aae02_17 : decode cJ0_isLatin1_aae02 17 = .ok (.iconst 0, 1) := by decide +kernel
theorem dJ0_isLatin1_aae02_18 : decode cJ0_isLatin1_aae02 18 = .ok (.ireturn, 1) := by decide +kernel
theorem dJ0_checkIndex_df160_0 : decode cJ0_checkIndex_df160 0 = .ok (.iload_n 0, 1) := by decide +kernel
theorem dJ0_checkIndex_df160_1 : decode cJ0_checkIndex_df160 1 = .ok (.iload_n 1, 1) := by decide +kernel
theorem dJ0_checkIndex_df160_2 : decode cJ0_checkIndex_df160 2 = .ok (.getstatic 1053, 3) := by decide +kernel
theorem dJ0_checkIndex_df160_5 : decode cJ0_checkIndex_df160 5 = .ok (.invokestatic 1059, 3) := by decide +kernel
theorem dJ0_checkIndex_df160_8 : decode cJ0_checkIndex_df160 8 = .ok (.pop, 1) := by decide +kernel
theorem dJ0_checkIndex_df160_9 : decode cJ0_checkIndex_df160 9 = .ok (.return_, 1) := by decide +kernel
theorem dJ1_charAt_3b067_0 : decode cJ1_charAt_3b067 0 = .ok (.iload_n 1, 1) := by decide +kernel
theorem dJ1_charAt_3b067_1 : decode cJ1_charAt_3b067 1 = .ok (.aload_n 0, 1) := by decide +kernel
theorem dJ1_charAt_3b067_2 : decode cJ1_charAt_3b067 2 = .ok (.arraylength, 1) := by decide +kernel
theorem dJ1_charAt_3b067_3 : decode cJ1_charAt_3b067 3 = .ok (.invokestatic 9, 3) := by decide +kernel
theorem dJ1_charAt_3b067_6 : decode cJ1_charAt_3b067 6 = .ok (.aload_n 0, 1) := by decide +kernel
theorem dJ1_charAt_3b067_7 : decode cJ1_charAt_3b067 7 = .ok (.iload_n 1, 1) := by decide +kernel
theorem dJ1_charAt_3b067_8 : decode cJ1_charAt_3b067 8 = .ok (.baload, 1) := by decide +kernel
theorem dJ1_charAt_3b067_9 : decode cJ1_charAt_3b067 9 = .ok (.sipush 255, 3) := by decide +kernel
theorem dJ1_charAt_3b067_12 : decode cJ1_charAt_3b067 12 = .ok (.iand, 1) := by decide +kernel
theorem dJ1_charAt_3b067_13 : decode cJ1_charAt_3b067 13 = .ok (.i2c, 1) := by decide +kernel
theorem dJ1_charAt_3b067_14 : decode cJ1_charAt_3b067 14 = .ok (.ireturn, 1) := by decide +kernel
theorem dJ1_canEncode_9a6ad_0 : decode cJ1_canEncode_9a6ad 0 = .ok (.iload_n 0, 1) := by decide +kernel
theorem dJ1_canEncode_9a6ad_1 : decode cJ1_canEncode_9a6ad 1 = .ok (.ifCond .lt 14, 3) := by decide +kernel
theorem dJ1_canEncode_9a6ad_4 : decode cJ1_canEncode_9a6ad 4 = .ok (.iload_n 0, 1) := by decide +kernel
theorem dJ1_canEncode_9a6ad_5 : decode cJ1_canEncode_9a6ad 5 = .ok (.sipush 255, 3) := by decide +kernel
theorem dJ1_canEncode_9a6ad_8 : decode cJ1_canEncode_9a6ad 8 = .ok (.if_icmp .gt 7, 3) := by decide +kernel
theorem dJ1_canEncode_9a6ad_11 : decode cJ1_canEncode_9a6ad 11 = .ok (.iconst 1, 1) := by decide +kernel
theorem dJ1_canEncode_9a6ad_12 : decode cJ1_canEncode_9a6ad 12 = .ok (.goto 4, 3) := by decide +kernel
theorem dJ1_canEncode_9a6ad_15 : decode cJ1_canEncode_9a6ad 15 = .ok (.iconst 0, 1) := by decide +kernel
theorem dJ1_canEncode_9a6ad_16 : decode cJ1_canEncode_9a6ad 16 = .ok (.ireturn, 1) := by decide +kernel
theorem dJ1_indexOf_4cfef_0 : decode cJ1_indexOf_4cfef 0 = .ok (.iload_n 1, 1) := by decide +kernel
theorem dJ1_indexOf_4cfef_1 : decode cJ1_indexOf_4cfef 1 = .ok (.invokestatic 88, 3) := by decide +kernel
theorem dJ1_indexOf_4cfef_4 : decode cJ1_indexOf_4cfef 4 = .ok (.ifCond .ne 5, 3) := by decide +kernel
theorem dJ1_indexOf_4cfef_7 : decode cJ1_indexOf_4cfef 7 = .ok (.iconst (-1), 1) := by decide +kernel
theorem dJ1_indexOf_4cfef_8 : decode cJ1_indexOf_4cfef 8 = .ok (.ireturn, 1) := by decide +kernel
theorem dJ1_indexOf_4cfef_9 : decode cJ1_indexOf_4cfef 9 = .ok (.iload_n 2, 1) := by decide +kernel
theorem dJ1_indexOf_4cfef_10 : decode cJ1_indexOf_4cfef 10 = .ok (.iconst 0, 1) := by decide +kernel
theorem dJ1_indexOf_4cfef_11 : decode cJ1_indexOf_4cfef 11 = .ok (.invokestatic 92, 3) := by decide +kernel
theorem dJ1_indexOf_4cfef_14 : decode cJ1_indexOf_4cfef 14 = .ok (.istore_n 2, 1) := by decide +kernel
theorem dJ1_indexOf_4cfef_15 : decode cJ1_indexOf_4cfef 15 = .ok (.iload_n 3, 1) := by decide +kernel
theorem dJ1_indexOf_4cfef_16 : decode cJ1_indexOf_4cfef 16 = .ok (.aload_n 0, 1) := by decide +kernel
theorem dJ1_indexOf_4cfef_17 : decode cJ1_indexOf_4cfef 17 = .ok (.arraylength, 1) := by decide +kernel
theorem dJ1_indexOf_4cfef_18 : decode cJ1_indexOf_4cfef 18 = .ok (.invokestatic 38, 3) := by decide +kernel
theorem dJ1_indexOf_4cfef_21 : decode cJ1_indexOf_4cfef 21 = .ok (.istore_n 3, 1) := by decide +kernel
theorem dJ1_indexOf_4cfef_22 : decode cJ1_indexOf_4cfef 22 = .ok (.iload_n 2, 1) := by decide +kernel
theorem dJ1_indexOf_4cfef_23 : decode cJ1_indexOf_4cfef 23 = .ok (.iload_n 3, 1) := by decide +kernel
theorem dJ1_indexOf_4cfef_24 : decode cJ1_indexOf_4cfef 24 = .ok (.if_icmp .lt 5, 3) := by decide +kernel
theorem dJ1_indexOf_4cfef_27 : decode cJ1_indexOf_4cfef 27 = .ok (.iconst (-1), 1) := by decide +kernel
theorem dJ1_indexOf_4cfef_28 : decode cJ1_indexOf_4cfef 28 = .ok (.ireturn, 1) := by decide +kernel
theorem dJ1_indexOf_4cfef_29 : decode cJ1_indexOf_4cfef 29 = .ok (.aload_n 0, 1) := by decide +kernel
theorem dJ1_indexOf_4cfef_30 : decode cJ1_indexOf_4cfef 30 = .ok (.iload_n 1, 1) := by decide +kernel
theorem dJ1_indexOf_4cfef_31 : decode cJ1_indexOf_4cfef 31 = .ok (.iload_n 2, 1) := by decide +kernel
theorem dJ1_indexOf_4cfef_32 : decode cJ1_indexOf_4cfef 32 = .ok (.iload_n 3, 1) := by decide +kernel
theorem dJ1_indexOf_4cfef_33 : decode cJ1_indexOf_4cfef 33 = .ok (.invokestatic 95, 3) := by decide +kernel
theorem dJ1_indexOf_4cfef_36 : decode cJ1_indexOf_4cfef 36 = .ok (.ireturn, 1) := by decide +kernel
theorem dJ1_indexOfChar_4cfef_0 : decode cJ1_indexOfChar_4cfef 0 = .ok (.iload_n 1, 1) := by decide +kernel
theorem dJ1_indexOfChar_4cfef_1 : decode cJ1_indexOfChar_4cfef 1 = .ok (.i2b, 1) := by decide +kernel
theorem dJ1_indexOfChar_4cfef_2 : decode cJ1_indexOfChar_4cfef 2 = .ok (.istore 4, 2) := by decide +kernel
theorem dJ1_indexOfChar_4cfef_4 : decode cJ1_indexOfChar_4cfef 4 = .ok (.iload_n 2, 1) := by decide +kernel
theorem dJ1_indexOfChar_4cfef_5 : decode cJ1_indexOfChar_4cfef 5 = .ok (.istore 5, 2) := by decide +kernel
theorem dJ1_indexOfChar_4cfef_7 : decode cJ1_indexOfChar_4cfef 7 = .ok (.iload 5, 2) := by decide +kernel
theorem dJ1_indexOfChar_4cfef_9 : decode cJ1_indexOfChar_4cfef 9 = .ok (.iload_n 3, 1) := by decide +kernel
theorem dJ1_indexOfChar_4cfef_10 : decode cJ1_indexOfChar_4cfef 10 = .ok (.if_icmp .ge 21, 3) := by decide +kernel
theorem dJ1_indexOfChar_4cfef_13 : decode cJ1_indexOfChar_4cfef 13 = .ok (.aload_n 0, 1) := by decide +kernel
theorem dJ1_indexOfChar_4cfef_14 : decode cJ1_indexOfChar_4cfef 14 = .ok (.iload 5, 2) := by decide +kernel
theorem dJ1_indexOfChar_4cfef_16 : decode cJ1_indexOfChar_4cfef 16 = .ok (.baload, 1) := by decide +kernel
theorem dJ1_indexOfChar_4cfef_17 : decode cJ1_indexOfChar_4cfef 17 = .ok (.iload 4, 2) := by decide +kernel
theorem dJ1_indexOfChar_4cfef_19 : decode cJ1_indexOfChar_4cfef 19 = .ok (.if_icmp .ne 6, 3) := by decide +kernel
theorem dJ1_indexOfChar_4cfef_22 : decode cJ1_indexOfChar_4cfef 22 = .ok (.iload 5, 2) := by decide +kernel
theorem dJ1_indexOfChar_4cfef_24 : decode cJ1_indexOfChar_4cfef 24 = .ok (.ireturn, 1) := by decide +kernel
theorem dJ1_indexOfChar_4cfef_25 : decode cJ1_indexOfChar_4cfef 25 = .ok (.iinc 5 1, 3) := by decide +kernel
theorem dJ1_indexOfChar_4cfef_28 : decode cJ1_indexOfChar_4cfef 28 = .ok (.goto (-21), 3) := by decide +kernel
theorem dJ1_indexOfChar_4cfef_31 : decode cJ1_indexOfChar_4cfef 31 = .ok (.iconst (-1), 1) := by decide +kernel
theorem dJ1_indexOfChar_4cfef_32 : decode cJ1_indexOfChar_4cfef 32 = .ok (.ireturn, 1) := by decide +kernel
theorem dJ3_checkIndex_8e157_0 : decode cJ3_checkIndex_8e157 0 = .ok (.iload_n 0, 1) := by decide +kernel
theorem dJ3_checkIndex_8e157_1 : decode cJ3_checkIndex_8e157 1 = .ok (.ifCond .lt 8, 3) := by decide +kernel
theorem dJ3_checkIndex_8e157_4 : decode cJ3_checkIndex_8e157 4 = .ok (.iload_n 0, 1) := by decide +kernel
theorem dJ3_checkIndex_8e157_5 : decode cJ3_checkIndex_8e157 5 = .ok (.iload_n 1, 1) := by decide +kernel
theorem dJ3_checkIndex_8e157_6 : decode cJ3_checkIndex_8e157 6 = .ok (.if_icmp .lt 10, 3) := by decide +kernel
theorem dJ3_checkIndex_8e157_9 : decode cJ3_checkIndex_8e157 9 = .ok (.aload_n 2, 1) := by decide +kernel
theorem dJ3_checkIndex_8e157_10 : decode cJ3_checkIndex_8e157 10 = .ok (.iload_n 0, 1) := by decide +kernel
theorem dJ3_checkIndex_8e157_11 : decode cJ3_checkIndex_8e157 11 = .ok (.iload_n 1, 1) := by decide +kernel
theorem dJ3_checkIndex_8e157_12 : decode cJ3_checkIndex_8e157 12 = .ok (.invokestatic 95, 3) := by decide +kernel
theorem dJ3_checkIndex_8e157_15 : decode cJ3_checkIndex_8e157 15 = .ok (.athrow, 1) := by decide +kernel
theorem dJ3_checkIndex_8e157_16 : decode cJ3_checkIndex_8e157 16 = .ok (.iload_n 0, 1) := by decide +kernel
theorem dJ3_checkIndex_8e157_17 : decode cJ3_checkIndex_8e157 17 = .ok (.ireturn, 1) := by decide +kernel
