/-! THE PURE PART: the rows that decode (12b) -/
theorem dX7_init_0 : decode cX7_init 0 = .ok (.aload_n 0, 1) := by decide +kernel
theorem dX7_init_1 : decode cX7_init 1 = .ok (.invokespecial 1, 3) := by decide +kernel
theorem dX7_init_4 : decode cX7_init 4 = .ok (.aload_n 0, 1) := by decide +kernel
theorem dX7_init_5 : decode cX7_init 5 = .ok (.new 7, 3) := by decide +kernel
theorem dX7_init_8 : decode cX7_init 8 = .ok (.dup, 1) := by decide +kernel
theorem dX7_init_9 : decode cX7_init 9 = .ok (.invokespecial 9, 3) := by decide +kernel
theorem dX7_init_12 : decode cX7_init 12 = .ok (.putfield 10, 3) := by decide +kernel
theorem dX7_init_15 : decode cX7_init 15 = .ok (.aload_n 0, 1) := by decide +kernel
theorem dX7_init_16 : decode cX7_init 16 = .ok (.new 7, 3) := by decide +kernel
theorem dX7_init_19 : decode cX7_init 19 = .ok (.dup, 1) := by decide +kernel
theorem dX7_init_20 : decode cX7_init 20 = .ok (.invokespecial 9, 3) := by decide +kernel
theorem dX7_init_23 : decode cX7_init 23 = .ok (.putfield 16, 3) := by decide +kernel
theorem dX7_init_26 : decode cX7_init 26 = .ok (.aload_n 0, 1) := by decide +kernel
theorem dX7_init_27 : decode cX7_init 27 = .ok (.new 7, 3) := by decide +kernel
theorem dX7_init_30 : decode cX7_init 30 = .ok (.dup, 1) := by decide +kernel
theorem dX7_init_31 : decode cX7_init 31 = .ok (.invokespecial 9, 3) := by decide +kernel
theorem dX7_init_34 : decode cX7_init 34 = .ok (.putfield 19, 3) := by decide +kernel
theorem dX7_init_37 : decode cX7_init 37 = .ok (.aload_n 0, 1) := by decide +kernel
theorem dX7_init_38 : decode cX7_init 38 = .ok (.new 7, 3) := by decide +kernel
theorem dX7_init_41 : decode cX7_init 41 = .ok (.dup, 1) := by decide +kernel
theorem dX7_init_42 : decode cX7_init 42 = .ok (.invokespecial 9, 3) := by decide +kernel
theorem dX7_init_45 : decode cX7_init 45 = .ok (.putfield 22, 3) := by decide +kernel
theorem dX7_init_48 : decode cX7_init 48 = .ok (.aload_n 0, 1) := by decide +kernel
theorem dX7_init_49 : decode cX7_init 49 = .ok (.new 25, 3) := by decide +kernel
theorem dX7_init_52 : decode cX7_init 52 = .ok (.dup, 1) := by decide +kernel
theorem dX7_init_53 : decode cX7_init 53 = .ok (.invokespecial 27, 3) := by decide +kernel
theorem dX7_init_56 : decode cX7_init 56 = .ok (.putfield 28, 3) := by decide +kernel
theorem dX7_init_59 : decode cX7_init 59 = .ok (.aload_n 0, 1) := by decide +kernel
theorem dX7_init_60 : decode cX7_init 60 = .ok (.iconst 4, 1) := by decide +kernel
theorem dX7_init_61 : decode cX7_init 61 = .ok (.anewarray 32, 3) := by decide +kernel
theorem dX7_init_64 : decode cX7_init 64 = .ok (.putfield 34, 3) := by decide +kernel
theorem dX7_init_67 : decode cX7_init 67 = .ok (.aload_n 0, 1) := by decide +kernel
theorem dX7_init_68 : decode cX7_init 68 = .ok (.iconst 5, 1) := by decide +kernel
theorem dX7_init_69 : decode cX7_init 69 = .ok (.anewarray 38, 3) := by decide +kernel
theorem dX7_init_72 : decode cX7_init 72 = .ok (.putfield 40, 3) := by decide +kernel
theorem dX7_init_75 : decode cX7_init 75 = .ok (.aload_n 0, 1) := by decide +kernel
theorem dX7_init_76 : decode cX7_init 76 = .ok (.bipush 60, 2) := by decide +kernel
theorem dX7_init_78 : decode cX7_init 78 = .ok (.newarray .int, 2) := by decide +kernel
theorem dX7_init_80 : decode cX7_init 80 = .ok (.putfield 44, 3) := by decide +kernel
theorem dX7_init_83 : decode cX7_init 83 = .ok (.aload_n 0, 1) := by decide +kernel
theorem dX7_init_84 : decode cX7_init 84 = .ok (.iconst 0, 1) := by decide +kernel
theorem dX7_init_85 : decode cX7_init 85 = .ok (.putfield 48, 3) := by decide +kernel
theorem dX7_init_88 : decode cX7_init 88 = .ok (.aload_n 0, 1) := by decide +kernel
theorem dX7_init_89 : decode cX7_init 89 = .ok (.iconst 0, 1) := by decide +kernel
theorem dX7_init_90 : decode cX7_init 90 = .ok (.putfield 52, 3) := by decide +kernel
theorem dX7_init_93 : decode cX7_init 93 = .ok (.iconst 0, 1) := by decide +kernel
theorem dX7_init_94 : decode cX7_init 94 = .ok (.istore_n 1, 1) := by decide +kernel
theorem dX7_init_95 : decode cX7_init 95 = .ok (.iload_n 1, 1) := by decide +kernel
theorem dX7_init_96 : decode cX7_init 96 = .ok (.iconst 4, 1) := by decide +kernel
theorem dX7_init_97 : decode cX7_init 97 = .ok (.if_icmp .ge 22, 3) := by decide +kernel
theorem dX7_init_100 : decode cX7_init 100 = .ok (.aload_n 0, 1) := by decide +kernel
theorem dX7_init_101 : decode cX7_init 101 = .ok (.getfield 34, 3) := by decide +kernel
theorem dX7_init_104 : decode cX7_init 104 = .ok (.iload_n 1, 1) := by decide +kernel
theorem dX7_init_105 : decode cX7_init 105 = .ok (.new 32, 3) := by decide +kernel
theorem dX7_init_108 : decode cX7_init 108 = .ok (.dup, 1) := by decide +kernel
theorem dX7_init_109 : decode cX7_init 109 = .ok (.invokespecial 56, 3) := by decide +kernel
theorem dX7_init_112 : decode cX7_init 112 = .ok (.aastore, 1) := by decide +kernel
theorem dX7_init_113 : decode cX7_init 113 = .ok (.iinc 1 1, 3) := by decide +kernel
theorem dX7_init_116 : decode cX7_init 116 = .ok (.goto (-21), 3) := by decide +kernel
theorem dX7_init_119 : decode cX7_init 119 = .ok (.iconst 0, 1) := by decide +kernel
theorem dX7_init_120 : decode cX7_init 120 = .ok (.istore_n 1, 1) := by decide +kernel
theorem dX7_init_121 : decode cX7_init 121 = .ok (.iload_n 1, 1) := by decide +kernel
theorem dX7_init_122 : decode cX7_init 122 = .ok (.iconst 5, 1) := by decide +kernel
theorem dX7_init_123 : decode cX7_init 123 = .ok (.if_icmp .ge 22, 3) := by decide +kernel
theorem dX7_init_126 : decode cX7_init 126 = .ok (.aload_n 0, 1) := by decide +kernel
theorem dX7_init_127 : decode cX7_init 127 = .ok (.getfield 40, 3) := by decide +kernel
theorem dX7_init_130 : decode cX7_init 130 = .ok (.iload_n 1, 1) := by decide +kernel
theorem dX7_init_131 : decode cX7_init 131 = .ok (.new 38, 3) := by decide +kernel
theorem dX7_init_134 : decode cX7_init 134 = .ok (.dup, 1) := by decide +kernel
theorem dX7_init_135 : decode cX7_init 135 = .ok (.invokespecial 57, 3) := by decide +kernel
theorem dX7_init_138 : decode cX7_init 138 = .ok (.aastore, 1) := by decide +kernel
theorem dX7_init_139 : decode cX7_init 139 = .ok (.iinc 1 1, 3) := by decide +kernel
theorem dX7_init_142 : decode cX7_init 142 = .ok (.goto (-21), 3) := by decide +kernel
theorem dX7_init_145 : decode cX7_init 145 = .ok (.return_, 1) := by decide +kernel
theorem dX7_log_0 : decode cX7_log 0 = .ok (.iload_n 1, 1) := by decide +kernel
theorem dX7_log_1 : decode cX7_log 1 = .ok (.invokestatic 58, 3) := by decide +kernel
theorem dX7_log_4 : decode cX7_log 4 = .ok (.ifCond .eq 17, 3) := by decide +kernel
theorem dX7_log_7 : decode cX7_log 7 = .ok (.iload_n 2, 1) := by decide +kernel
theorem dX7_log_8 : decode cX7_log 8 = .ok (.invokestatic 62, 3) := by decide +kernel
theorem dX7_log_11 : decode cX7_log 11 = .ok (.ifCond .eq 10, 3) := by decide +kernel
theorem dX7_log_14 : decode cX7_log 14 = .ok (.iload_n 3, 1) := by decide +kernel
theorem dX7_log_15 : decode cX7_log 15 = .ok (.invokestatic 65, 3) := by decide +kernel
theorem dX7_log_18 : decode cX7_log 18 = .ok (.ifCond .ne 6, 3) := by decide +kernel
theorem dX7_log_21 : decode cX7_log 21 = .ok (.ldc 68, 2) := by decide +kernel
theorem dX7_log_23 : decode cX7_log 23 = .ok (.ireturn, 1) := by decide +kernel
theorem dX7_log_24 : decode cX7_log 24 = .ok (.aload_n 0, 1) := by decide +kernel
theorem dX7_log_25 : decode cX7_log 25 = .ok (.getfield 10, 3) := by decide +kernel
theorem dX7_log_28 : decode cX7_log 28 = .ok (.iload_n 1, 1) := by decide +kernel
theorem dX7_log_29 : decode cX7_log 29 = .ok (.iload_n 2, 1) := by decide +kernel
theorem dX7_log_30 : decode cX7_log 30 = .ok (.iload_n 3, 1) := by decide +kernel
theorem dX7_log_31 : decode cX7_log 31 = .ok (.invokevirtual 69, 3) := by decide +kernel
theorem dX7_log_34 : decode cX7_log 34 = .ok (.ifCond .eq 15, 3) := by decide +kernel
theorem dX7_log_37 : decode cX7_log 37 = .ok (.aload_n 0, 1) := by decide +kernel
theorem dX7_log_38 : decode cX7_log 38 = .ok (.getfield 10, 3) := by decide +kernel
theorem dX7_log_41 : decode cX7_log 41 = .ok (.getfield 73, 3) := by decide +kernel
theorem dX7_log_44 : decode cX7_log 44 = .ok (.iconst 1, 1) := by decide +kernel
theorem dX7_log_45 : decode cX7_log 45 = .ok (.isub, 1) := by decide +kernel
theorem dX7_log_46 : decode cX7_log 46 = .ok (.goto 5, 3) := by decide +kernel
theorem dX7_log_49 : decode cX7_log 49 = .ok (.ldc 76, 2) := by decide +kernel
theorem dX7_log_51 : decode cX7_log 51 = .ok (.ireturn, 1) := by decide +kernel
theorem dX7_told_0 : decode cX7_told 0 = .ok (.aload_n 0, 1) := by decide +kernel
theorem dX7_told_1 : decode cX7_told 1 = .ok (.getfield 10, 3) := by decide +kernel
theorem dX7_told_4 : decode cX7_told 4 = .ok (.iload_n 1, 1) := by decide +kernel
theorem dX7_told_5 : decode cX7_told 5 = .ok (.invokevirtual 77, 3) := by decide +kernel
theorem dX7_told_8 : decode cX7_told 8 = .ok (.ifCond .ne 6, 3) := by decide +kernel
theorem dX7_told_11 : decode cX7_told 11 = .ok (.ldc 68, 2) := by decide +kernel
theorem dX7_told_13 : decode cX7_told 13 = .ok (.ireturn, 1) := by decide +kernel
theorem dX7_told_14 : decode cX7_told 14 = .ok (.aload_n 0, 1) := by decide +kernel
theorem dX7_told_15 : decode cX7_told 15 = .ok (.getfield 10, 3) := by decide +kernel
theorem dX7_told_18 : decode cX7_told 18 = .ok (.getfield 80, 3) := by decide +kernel
theorem dX7_told_21 : decode cX7_told 21 = .ok (.iload_n 1, 1) := by decide +kernel
theorem dX7_told_22 : decode cX7_told 22 = .ok (.aaload, 1) := by decide +kernel
theorem dX7_told_23 : decode cX7_told 23 = .ok (.astore_n 3, 1) := by decide +kernel
theorem dX7_told_24 : decode cX7_told 24 = .ok (.iload_n 2, 1) := by decide +kernel
theorem dX7_told_25 : decode cX7_told 25 = .ok (.tableswitch 106 0 7 #[47, 52, 57, 62, 67, 72, 89, 101], 47) := by decide +kernel
theorem dX7_told_72 : decode cX7_told 72 = .ok (.aload_n 3, 1) := by decide +kernel
theorem dX7_told_73 : decode cX7_told 73 = .ok (.getfield 84, 3) := by decide +kernel
theorem dX7_told_76 : decode cX7_told 76 = .ok (.ireturn, 1) := by decide +kernel
theorem dX7_told_77 : decode cX7_told 77 = .ok (.aload_n 3, 1) := by decide +kernel
theorem dX7_told_78 : decode cX7_told 78 = .ok (.getfield 89, 3) := by decide +kernel
theorem dX7_told_81 : decode cX7_told 81 = .ok (.ireturn, 1) := by decide +kernel
theorem dX7_told_82 : decode cX7_told 82 = .ok (.aload_n 3, 1) := by decide +kernel
theorem dX7_told_83 : decode cX7_told 83 = .ok (.getfield 92, 3) := by decide +kernel
theorem dX7_told_86 : decode cX7_told 86 = .ok (.ireturn, 1) := by decide +kernel
theorem dX7_told_87 : decode cX7_told 87 = .ok (.aload_n 3, 1) := by decide +kernel
theorem dX7_told_88 : decode cX7_told 88 = .ok (.getfield 95, 3) := by decide +kernel
theorem dX7_told_91 : decode cX7_told 91 = .ok (.ireturn, 1) := by decide +kernel
theorem dX7_told_92 : decode cX7_told 92 = .ok (.aload_n 3, 1) := by decide +kernel
theorem dX7_told_93 : decode cX7_told 93 = .ok (.getfield 98, 3) := by decide +kernel
theorem dX7_told_96 : decode cX7_told 96 = .ok (.ireturn, 1) := by decide +kernel
theorem dX7_told_97 : decode cX7_told 97 = .ok (.aload_n 0, 1) := by decide +kernel
theorem dX7_told_98 : decode cX7_told 98 = .ok (.getfield 10, 3) := by decide +kernel
theorem dX7_told_101 : decode cX7_told 101 = .ok (.aload_n 3, 1) := by decide +kernel
theorem dX7_told_102 : decode cX7_told 102 = .ok (.aload_n 0, 1) := by decide +kernel
theorem dX7_told_103 : decode cX7_told 103 = .ok (.getfield 10, 3) := by decide +kernel
theorem dX7_told_106 : decode cX7_told 106 = .ok (.iconst 0, 1) := by decide +kernel
theorem dX7_told_107 : decode cX7_told 107 = .ok (.invokevirtual 101, 3) := by decide +kernel
theorem dX7_told_110 : decode cX7_told 110 = .ok (.invokevirtual 105, 3) := by decide +kernel
theorem dX7_told_113 : decode cX7_told 113 = .ok (.ireturn, 1) := by decide +kernel
theorem dX7_told_114 : decode cX7_told 114 = .ok (.aload_n 3, 1) := by decide +kernel
theorem dX7_told_115 : decode cX7_told 115 = .ok (.aload_n 0, 1) := by decide +kernel
theorem dX7_told_116 : decode cX7_told 116 = .ok (.getfield 10, 3) := by decide +kernel
theorem dX7_told_119 : decode cX7_told 119 = .ok (.getfield 109, 3) := by decide +kernel
theorem dX7_told_122 : decode cX7_told 122 = .ok (.invokevirtual 112, 3) := by decide +kernel
theorem dX7_told_125 : decode cX7_told 125 = .ok (.ireturn, 1) := by decide +kernel
theorem dX7_told_126 : decode cX7_told 126 = .ok (.aload_n 3, 1) := by decide +kernel
theorem dX7_told_127 : decode cX7_told 127 = .ok (.invokevirtual 116, 3) := by decide +kernel
theorem dX7_told_130 : decode cX7_told 130 = .ok (.ireturn, 1) := by decide +kernel
theorem dX7_told_131 : decode cX7_told 131 = .ok (.ldc 68, 2) := by decide +kernel
theorem dX7_told_133 : decode cX7_told 133 = .ok (.ireturn, 1) := by decide +kernel
theorem dX7_as_0 : decode cX7_as 0 = .ok (.aload_n 0, 1) := by decide +kernel
theorem dX7_as_1 : decode cX7_as 1 = .ok (.getfield 10, 3) := by decide +kernel
theorem dX7_as_4 : decode cX7_as 4 = .ok (.iload_n 1, 1) := by decide +kernel
theorem dX7_as_5 : decode cX7_as 5 = .ok (.invokevirtual 77, 3) := by decide +kernel
theorem dX7_as_8 : decode cX7_as 8 = .ok (.ifCond .eq 10, 3) := by decide +kernel
theorem dX7_as_11 : decode cX7_as 11 = .ok (.iload_n 2, 1) := by decide +kernel
theorem dX7_as_12 : decode cX7_as 12 = .ok (.invokestatic 58, 3) := by decide +kernel
theorem dX7_as_15 : decode cX7_as 15 = .ok (.ifCond .ne 6, 3) := by decide +kernel
theorem dX7_as_18 : decode cX7_as 18 = .ok (.ldc 68, 2) := by decide +kernel
theorem dX7_as_20 : decode cX7_as 20 = .ok (.ireturn, 1) := by decide +kernel
theorem dX7_as_21 : decode cX7_as 21 = .ok (.aload_n 0, 1) := by decide +kernel
theorem dX7_as_22 : decode cX7_as 22 = .ok (.getfield 10, 3) := by decide +kernel
theorem dX7_as_25 : decode cX7_as 25 = .ok (.getfield 80, 3) := by decide +kernel
theorem dX7_as_28 : decode cX7_as 28 = .ok (.iload_n 1, 1) := by decide +kernel
theorem dX7_as_29 : decode cX7_as 29 = .ok (.aaload, 1) := by decide +kernel
theorem dX7_as_30 : decode cX7_as 30 = .ok (.iload_n 2, 1) := by decide +kernel
theorem dX7_as_31 : decode cX7_as 31 = .ok (.invokevirtual 120, 3) := by decide +kernel
theorem dX7_as_34 : decode cX7_as 34 = .ok (.ifCond .eq 18, 3) := by decide +kernel
theorem dX7_as_37 : decode cX7_as 37 = .ok (.aload_n 0, 1) := by decide +kernel
theorem dX7_as_38 : decode cX7_as 38 = .ok (.getfield 10, 3) := by decide +kernel
theorem dX7_as_41 : decode cX7_as 41 = .ok (.getfield 80, 3) := by decide +kernel
theorem dX7_as_44 : decode cX7_as 44 = .ok (.iload_n 1, 1) := by decide +kernel
theorem dX7_as_45 : decode cX7_as 45 = .ok (.aaload, 1) := by decide +kernel
theorem dX7_as_46 : decode cX7_as 46 = .ok (.getfield 92, 3) := by decide +kernel
theorem dX7_as_49 : decode cX7_as 49 = .ok (.goto 5, 3) := by decide +kernel
theorem dX7_as_52 : decode cX7_as 52 = .ok (.ldc 123, 2) := by decide +kernel
theorem dX7_as_54 : decode cX7_as 54 = .ok (.ireturn, 1) := by decide +kernel
theorem dX7_turns_0 : decode cX7_turns 0 = .ok (.aload_n 0, 1) := by decide +kernel
theorem dX7_turns_1 : decode cX7_turns 1 = .ok (.getfield 10, 3) := by decide +kernel
theorem dX7_turns_4 : decode cX7_turns 4 = .ok (.iload_n 1, 1) := by decide +kernel
theorem dX7_turns_5 : decode cX7_turns 5 = .ok (.invokevirtual 77, 3) := by decide +kernel
theorem dX7_turns_8 : decode cX7_turns 8 = .ok (.ifCond .eq 10, 3) := by decide +kernel
theorem dX7_turns_11 : decode cX7_turns 11 = .ok (.iload_n 2, 1) := by decide +kernel
theorem dX7_turns_12 : decode cX7_turns 12 = .ok (.invokestatic 58, 3) := by decide +kernel
theorem dX7_turns_15 : decode cX7_turns 15 = .ok (.ifCond .ne 6, 3) := by decide +kernel
theorem dX7_turns_18 : decode cX7_turns 18 = .ok (.ldc 68, 2) := by decide +kernel
theorem dX7_turns_20 : decode cX7_turns 20 = .ok (.ireturn, 1) := by decide +kernel
theorem dX7_turns_21 : decode cX7_turns 21 = .ok (.aload_n 0, 1) := by decide +kernel
theorem dX7_turns_22 : decode cX7_turns 22 = .ok (.getfield 10, 3) := by decide +kernel
theorem dX7_turns_25 : decode cX7_turns 25 = .ok (.getfield 80, 3) := by decide +kernel
theorem dX7_turns_28 : decode cX7_turns 28 = .ok (.iload_n 1, 1) := by decide +kernel
theorem dX7_turns_29 : decode cX7_turns 29 = .ok (.aaload, 1) := by decide +kernel
theorem dX7_turns_30 : decode cX7_turns 30 = .ok (.getfield 84, 3) := by decide +kernel
theorem dX7_turns_33 : decode cX7_turns 33 = .ok (.istore_n 3, 1) := by decide +kernel
theorem dX7_turns_34 : decode cX7_turns 34 = .ok (.aload_n 0, 1) := by decide +kernel
theorem dX7_turns_35 : decode cX7_turns 35 = .ok (.getfield 10, 3) := by decide +kernel
theorem dX7_turns_38 : decode cX7_turns 38 = .ok (.getfield 80, 3) := by decide +kernel
theorem dX7_turns_41 : decode cX7_turns 41 = .ok (.iload_n 1, 1) := by decide +kernel
theorem dX7_turns_42 : decode cX7_turns 42 = .ok (.aaload, 1) := by decide +kernel
theorem dX7_turns_43 : decode cX7_turns 43 = .ok (.iload_n 2, 1) := by decide +kernel
theorem dX7_turns_44 : decode cX7_turns 44 = .ok (.putfield 84, 3) := by decide +kernel
theorem dX7_turns_47 : decode cX7_turns 47 = .ok (.iload_n 3, 1) := by decide +kernel
theorem dX7_turns_48 : decode cX7_turns 48 = .ok (.ireturn, 1) := by decide +kernel
theorem dX7_set_0 : decode cX7_set 0 = .ok (.aload_n 0, 1) := by decide +kernel
theorem dX7_set_1 : decode cX7_set 1 = .ok (.getfield 10, 3) := by decide +kernel
theorem dX7_set_4 : decode cX7_set 4 = .ok (.iload_n 1, 1) := by decide +kernel
theorem dX7_set_5 : decode cX7_set 5 = .ok (.invokevirtual 77, 3) := by decide +kernel
theorem dX7_set_8 : decode cX7_set 8 = .ok (.ifCond .ne 6, 3) := by decide +kernel
theorem dX7_set_11 : decode cX7_set 11 = .ok (.ldc 68, 2) := by decide +kernel
theorem dX7_set_13 : decode cX7_set 13 = .ok (.ireturn, 1) := by decide +kernel
theorem dX7_set_14 : decode cX7_set 14 = .ok (.aload_n 0, 1) := by decide +kernel
theorem dX7_set_15 : decode cX7_set 15 = .ok (.getfield 10, 3) := by decide +kernel
theorem dX7_set_18 : decode cX7_set 18 = .ok (.getfield 80, 3) := by decide +kernel
theorem dX7_set_21 : decode cX7_set 21 = .ok (.iload_n 1, 1) := by decide +kernel
theorem dX7_set_22 : decode cX7_set 22 = .ok (.aaload, 1) := by decide +kernel
theorem dX7_set_23 : decode cX7_set 23 = .ok (.astore 4, 2) := by decide +kernel
theorem dX7_set_25 : decode cX7_set 25 = .ok (.ldc 68, 2) := by decide +kernel
theorem dX7_set_27 : decode cX7_set 27 = .ok (.istore 5, 2) := by decide +kernel
theorem dX7_set_29 : decode cX7_set 29 = .ok (.iload_n 2, 1) := by decide +kernel
theorem dX7_set_30 : decode cX7_set 30 = .ok (.iconst 1, 1) := by decide +kernel
theorem dX7_set_31 : decode cX7_set 31 = .ok (.if_icmp .ne 26, 3) := by decide +kernel
theorem dX7_set_34 : decode cX7_set 34 = .ok (.iload_n 3, 1) := by decide +kernel
theorem dX7_set_35 : decode cX7_set 35 = .ok (.invokestatic 62, 3) := by decide +kernel
theorem dX7_set_38 : decode cX7_set 38 = .ok (.ifCond .eq 19, 3) := by decide +kernel
theorem dX7_set_41 : decode cX7_set 41 = .ok (.aload 4, 2) := by decide +kernel
theorem dX7_set_43 : decode cX7_set 43 = .ok (.getfield 89, 3) := by decide +kernel
theorem dX7_set_46 : decode cX7_set 46 = .ok (.istore 5, 2) := by decide +kernel
theorem dX7_set_48 : decode cX7_set 48 = .ok (.aload 4, 2) := by decide +kernel
theorem dX7_set_50 : decode cX7_set 50 = .ok (.iload_n 3, 1) := by decide +kernel
theorem dX7_set_51 : decode cX7_set 51 = .ok (.putfield 89, 3) := by decide +kernel
theorem dX7_set_54 : decode cX7_set 54 = .ok (.goto 28, 3) := by decide +kernel
theorem dX7_set_57 : decode cX7_set 57 = .ok (.iload_n 2, 1) := by decide +kernel
theorem dX7_set_58 : decode cX7_set 58 = .ok (.iconst 2, 1) := by decide +kernel
theorem dX7_set_59 : decode cX7_set 59 = .ok (.if_icmp .ne 23, 3) := by decide +kernel
theorem dX7_set_62 : decode cX7_set 62 = .ok (.iload_n 3, 1) := by decide +kernel
theorem dX7_set_63 : decode cX7_set 63 = .ok (.invokestatic 65, 3) := by decide +kernel
theorem dX7_set_66 : decode cX7_set 66 = .ok (.ifCond .eq 16, 3) := by decide +kernel
theorem dX7_set_69 : decode cX7_set 69 = .ok (.aload 4, 2) := by decide +kernel
theorem dX7_set_71 : decode cX7_set 71 = .ok (.getfield 92, 3) := by decide +kernel
theorem dX7_set_74 : decode cX7_set 74 = .ok (.istore 5, 2) := by decide +kernel
theorem dX7_set_76 : decode cX7_set 76 = .ok (.aload 4, 2) := by decide +kernel
theorem dX7_set_78 : decode cX7_set 78 = .ok (.iload_n 3, 1) := by decide +kernel
theorem dX7_set_79 : decode cX7_set 79 = .ok (.putfield 92, 3) := by decide +kernel
theorem dX7_set_82 : decode cX7_set 82 = .ok (.iload 5, 2) := by decide +kernel
theorem dX7_set_84 : decode cX7_set 84 = .ok (.ireturn, 1) := by decide +kernel
theorem dX7_lays_0 : decode cX7_lays 0 = .ok (.aload_n 0, 1) := by decide +kernel
theorem dX7_lays_1 : decode cX7_lays 1 = .ok (.getfield 10, 3) := by decide +kernel
theorem dX7_lays_4 : decode cX7_lays 4 = .ok (.iload_n 1, 1) := by decide +kernel
theorem dX7_lays_5 : decode cX7_lays 5 = .ok (.invokevirtual 77, 3) := by decide +kernel
theorem dX7_lays_8 : decode cX7_lays 8 = .ok (.ifCond .eq 16, 3) := by decide +kernel
theorem dX7_lays_11 : decode cX7_lays 11 = .ok (.iload_n 2, 1) := by decide +kernel
theorem dX7_lays_12 : decode cX7_lays 12 = .ok (.invokestatic 124, 3) := by decide +kernel
theorem dX7_lays_15 : decode cX7_lays 15 = .ok (.ifCond .ne 12, 3) := by decide +kernel
theorem dX7_lays_18 : decode cX7_lays 18 = .ok (.iload_n 2, 1) := by decide +kernel
theorem dX7_lays_19 : decode cX7_lays 19 = .ok (.bipush 13, 2) := by decide +kernel
theorem dX7_lays_21 : decode cX7_lays 21 = .ok (.if_icmp .eq 6, 3) := by decide +kernel
theorem dX7_lays_24 : decode cX7_lays 24 = .ok (.ldc 68, 2) := by decide +kernel
theorem dX7_lays_26 : decode cX7_lays 26 = .ok (.ireturn, 1) := by decide +kernel
theorem dX7_lays_27 : decode cX7_lays 27 = .ok (.aload_n 0, 1) := by decide +kernel
theorem dX7_lays_28 : decode cX7_lays 28 = .ok (.getfield 10, 3) := by decide +kernel
theorem dX7_lays_31 : decode cX7_lays 31 = .ok (.getfield 80, 3) := by decide +kernel
theorem dX7_lays_34 : decode cX7_lays 34 = .ok (.iload_n 1, 1) := by decide +kernel
theorem dX7_lays_35 : decode cX7_lays 35 = .ok (.aaload, 1) := by decide +kernel
theorem dX7_lays_36 : decode cX7_lays 36 = .ok (.getfield 95, 3) := by decide +kernel
theorem dX7_lays_39 : decode cX7_lays 39 = .ok (.istore_n 3, 1) := by decide +kernel
theorem dX7_lays_40 : decode cX7_lays 40 = .ok (.iload_n 3, 1) := by decide +kernel
theorem dX7_lays_41 : decode cX7_lays 41 = .ok (.bipush 12, 2) := by decide +kernel
theorem dX7_lays_43 : decode cX7_lays 43 = .ok (.if_icmp .ne 6, 3) := by decide +kernel
theorem dX7_lays_46 : decode cX7_lays 46 = .ok (.ldc 127, 2) := by decide +kernel
theorem dX7_lays_48 : decode cX7_lays 48 = .ok (.ireturn, 1) := by decide +kernel
theorem dX7_lays_49 : decode cX7_lays 49 = .ok (.aload_n 0, 1) := by decide +kernel
theorem dX7_lays_50 : decode cX7_lays 50 = .ok (.getfield 10, 3) := by decide +kernel
theorem dX7_lays_53 : decode cX7_lays 53 = .ok (.getfield 80, 3) := by decide +kernel
theorem dX7_lays_56 : decode cX7_lays 56 = .ok (.iload_n 1, 1) := by decide +kernel
theorem dX7_lays_57 : decode cX7_lays 57 = .ok (.aaload, 1) := by decide +kernel
theorem dX7_lays_58 : decode cX7_lays 58 = .ok (.iload_n 2, 1) := by decide +kernel
theorem dX7_lays_59 : decode cX7_lays 59 = .ok (.putfield 95, 3) := by decide +kernel
theorem dX7_lays_62 : decode cX7_lays 62 = .ok (.iload_n 3, 1) := by decide +kernel
theorem dX7_lays_63 : decode cX7_lays 63 = .ok (.ireturn, 1) := by decide +kernel
theorem dX7_reach_0 : decode cX7_reach 0 = .ok (.iload_n 1, 1) := by decide +kernel
theorem dX7_reach_1 : decode cX7_reach 1 = .ok (.invokestatic 124, 3) := by decide +kernel
theorem dX7_reach_4 : decode cX7_reach 4 = .ok (.ifCond .ne 6, 3) := by decide +kernel
theorem dX7_reach_7 : decode cX7_reach 7 = .ok (.ldc 68, 2) := by decide +kernel
theorem dX7_reach_9 : decode cX7_reach 9 = .ok (.ireturn, 1) := by decide +kernel
theorem dX7_reach_10 : decode cX7_reach 10 = .ok (.ldc 68, 2) := by decide +kernel
theorem dX7_reach_12 : decode cX7_reach 12 = .ok (.istore 4, 2) := by decide +kernel
theorem dX7_reach_14 : decode cX7_reach 14 = .ok (.iload_n 2, 1) := by decide +kernel
theorem dX7_reach_15 : decode cX7_reach 15 = .ok (.ifCond .ne 37, 3) := by decide +kernel
theorem dX7_reach_18 : decode cX7_reach 18 = .ok (.iload_n 3, 1) := by decide +kernel
theorem dX7_reach_19 : decode cX7_reach 19 = .ok (.iconst 1, 1) := by decide +kernel
theorem dX7_reach_20 : decode cX7_reach 20 = .ok (.bipush 12, 2) := by decide +kernel
theorem dX7_reach_22 : decode cX7_reach 22 = .ok (.invokestatic 128, 3) := by decide +kernel
theorem dX7_reach_25 : decode cX7_reach 25 = .ok (.ifCond .eq 27, 3) := by decide +kernel
theorem dX7_reach_28 : decode cX7_reach 28 = .ok (.aload_n 0, 1) := by decide +kernel
theorem dX7_reach_29 : decode cX7_reach 29 = .ok (.getfield 10, 3) := by decide +kernel
theorem dX7_reach_32 : decode cX7_reach 32 = .ok (.getfield 131, 3) := by decide +kernel
theorem dX7_reach_35 : decode cX7_reach 35 = .ok (.iload_n 1, 1) := by decide +kernel
theorem dX7_reach_36 : decode cX7_reach 36 = .ok (.iaload, 1) := by decide +kernel
theorem dX7_reach_37 : decode cX7_reach 37 = .ok (.istore 4, 2) := by decide +kernel
theorem dX7_reach_39 : decode cX7_reach 39 = .ok (.aload_n 0, 1) := by decide +kernel
theorem dX7_reach_40 : decode cX7_reach 40 = .ok (.getfield 10, 3) := by decide +kernel
theorem dX7_reach_43 : decode cX7_reach 43 = .ok (.getfield 131, 3) := by decide +kernel
theorem dX7_reach_46 : decode cX7_reach 46 = .ok (.iload_n 1, 1) := by decide +kernel
theorem dX7_reach_47 : decode cX7_reach 47 = .ok (.iload_n 3, 1) := by decide +kernel
theorem dX7_reach_48 : decode cX7_reach 48 = .ok (.iastore, 1) := by decide +kernel
theorem dX7_reach_49 : decode cX7_reach 49 = .ok (.goto 38, 3) := by decide +kernel
theorem dX7_reach_52 : decode cX7_reach 52 = .ok (.iload_n 2, 1) := by decide +kernel
theorem dX7_reach_53 : decode cX7_reach 53 = .ok (.iconst 1, 1) := by decide +kernel
theorem dX7_reach_54 : decode cX7_reach 54 = .ok (.if_icmp .ne 33, 3) := by decide +kernel
theorem dX7_reach_57 : decode cX7_reach 57 = .ok (.iload_n 3, 1) := by decide +kernel
theorem dX7_reach_58 : decode cX7_reach 58 = .ok (.iconst 0, 1) := by decide +kernel
theorem dX7_reach_59 : decode cX7_reach 59 = .ok (.iconst 1, 1) := by decide +kernel
theorem dX7_reach_60 : decode cX7_reach 60 = .ok (.invokestatic 128, 3) := by decide +kernel
theorem dX7_reach_63 : decode cX7_reach 63 = .ok (.ifCond .eq 24, 3) := by decide +kernel
theorem dX7_reach_66 : decode cX7_reach 66 = .ok (.aload_n 0, 1) := by decide +kernel
theorem dX7_reach_67 : decode cX7_reach 67 = .ok (.getfield 10, 3) := by decide +kernel
theorem dX7_reach_70 : decode cX7_reach 70 = .ok (.getfield 134, 3) := by decide +kernel
theorem dX7_reach_73 : decode cX7_reach 73 = .ok (.iload_n 1, 1) := by decide +kernel
theorem dX7_reach_74 : decode cX7_reach 74 = .ok (.iaload, 1) := by decide +kernel
theorem dX7_reach_75 : decode cX7_reach 75 = .ok (.istore 4, 2) := by decide +kernel
theorem dX7_reach_77 : decode cX7_reach 77 = .ok (.aload_n 0, 1) := by decide +kernel
theorem dX7_reach_78 : decode cX7_reach 78 = .ok (.getfield 10, 3) := by decide +kernel
theorem dX7_reach_81 : decode cX7_reach 81 = .ok (.getfield 134, 3) := by decide +kernel
theorem dX7_reach_84 : decode cX7_reach 84 = .ok (.iload_n 1, 1) := by decide +kernel
theorem dX7_reach_85 : decode cX7_reach 85 = .ok (.iload_n 3, 1) := by decide +kernel
theorem dX7_reach_86 : decode cX7_reach 86 = .ok (.iastore, 1) := by decide +kernel
theorem dX7_reach_87 : decode cX7_reach 87 = .ok (.iload 4, 2) := by decide +kernel
theorem dX7_reach_89 : decode cX7_reach 89 = .ok (.ireturn, 1) := by decide +kernel
theorem dX7_rule_0 : decode cX7_rule 0 = .ok (.ldc 68, 2) := by decide +kernel
theorem dX7_rule_2 : decode cX7_rule 2 = .ok (.istore_n 3, 1) := by decide +kernel
theorem dX7_rule_3 : decode cX7_rule 3 = .ok (.iload_n 1, 1) := by decide +kernel
theorem dX7_rule_4 : decode cX7_rule 4 = .ok (.ifCond .ne 32, 3) := by decide +kernel
theorem dX7_rule_7 : decode cX7_rule 7 = .ok (.iload_n 2, 1) := by decide +kernel
theorem dX7_rule_8 : decode cX7_rule 8 = .ok (.iconst 0, 1) := by decide +kernel
theorem dX7_rule_9 : decode cX7_rule 9 = .ok (.bipush 9, 2) := by decide +kernel
theorem dX7_rule_11 : decode cX7_rule 11 = .ok (.invokestatic 128, 3) := by decide +kernel
theorem dX7_rule_14 : decode cX7_rule 14 = .ok (.ifCond .eq 22, 3) := by decide +kernel
theorem dX7_rule_17 : decode cX7_rule 17 = .ok (.aload_n 0, 1) := by decide +kernel
theorem dX7_rule_18 : decode cX7_rule 18 = .ok (.getfield 10, 3) := by decide +kernel
theorem dX7_rule_21 : decode cX7_rule 21 = .ok (.getfield 137, 3) := by decide +kernel
theorem dX7_rule_24 : decode cX7_rule 24 = .ok (.istore_n 3, 1) := by decide +kernel
theorem dX7_rule_25 : decode cX7_rule 25 = .ok (.aload_n 0, 1) := by decide +kernel
theorem dX7_rule_26 : decode cX7_rule 26 = .ok (.getfield 10, 3) := by decide +kernel
theorem dX7_rule_29 : decode cX7_rule 29 = .ok (.iload_n 2, 1) := by decide +kernel
theorem dX7_rule_30 : decode cX7_rule 30 = .ok (.putfield 137, 3) := by decide +kernel
theorem dX7_rule_33 : decode cX7_rule 33 = .ok (.goto 68, 3) := by decide +kernel
theorem dX7_rule_36 : decode cX7_rule 36 = .ok (.iload_n 1, 1) := by decide +kernel
theorem dX7_rule_37 : decode cX7_rule 37 = .ok (.iconst 1, 1) := by decide +kernel
theorem dX7_rule_38 : decode cX7_rule 38 = .ok (.if_icmp .ne 32, 3) := by decide +kernel
theorem dX7_rule_41 : decode cX7_rule 41 = .ok (.iload_n 2, 1) := by decide +kernel
theorem dX7_rule_42 : decode cX7_rule 42 = .ok (.iconst 0, 1) := by decide +kernel
theorem dX7_rule_43 : decode cX7_rule 43 = .ok (.bipush 100, 2) := by decide +kernel
theorem dX7_rule_45 : decode cX7_rule 45 = .ok (.invokestatic 128, 3) := by decide +kernel
theorem dX7_rule_48 : decode cX7_rule 48 = .ok (.ifCond .eq 22, 3) := by decide +kernel
theorem dX7_rule_51 : decode cX7_rule 51 = .ok (.aload_n 0, 1) := by decide +kernel
theorem dX7_rule_52 : decode cX7_rule 52 = .ok (.getfield 10, 3) := by decide +kernel
theorem dX7_rule_55 : decode cX7_rule 55 = .ok (.getfield 109, 3) := by decide +kernel
theorem dX7_rule_58 : decode cX7_rule 58 = .ok (.istore_n 3, 1) := by decide +kernel
theorem dX7_rule_59 : decode cX7_rule 59 = .ok (.aload_n 0, 1) := by decide +kernel
theorem dX7_rule_60 : decode cX7_rule 60 = .ok (.getfield 10, 3) := by decide +kernel
theorem dX7_rule_63 : decode cX7_rule 63 = .ok (.iload_n 2, 1) := by decide +kernel
theorem dX7_rule_64 : decode cX7_rule 64 = .ok (.putfield 109, 3) := by decide +kernel
theorem dX7_rule_67 : decode cX7_rule 67 = .ok (.goto 34, 3) := by decide +kernel
theorem dX7_rule_70 : decode cX7_rule 70 = .ok (.iload_n 1, 1) := by decide +kernel
theorem dX7_rule_71 : decode cX7_rule 71 = .ok (.iconst 2, 1) := by decide +kernel
theorem dX7_rule_72 : decode cX7_rule 72 = .ok (.if_icmp .ne 29, 3) := by decide +kernel
theorem dX7_rule_75 : decode cX7_rule 75 = .ok (.iload_n 2, 1) := by decide +kernel
theorem dX7_rule_76 : decode cX7_rule 76 = .ok (.iconst 0, 1) := by decide +kernel
theorem dX7_rule_77 : decode cX7_rule 77 = .ok (.bipush 9, 2) := by decide +kernel
theorem dX7_rule_79 : decode cX7_rule 79 = .ok (.invokestatic 128, 3) := by decide +kernel
theorem dX7_rule_82 : decode cX7_rule 82 = .ok (.ifCond .eq 19, 3) := by decide +kernel
theorem dX7_rule_85 : decode cX7_rule 85 = .ok (.aload_n 0, 1) := by decide +kernel
theorem dX7_rule_86 : decode cX7_rule 86 = .ok (.getfield 10, 3) := by decide +kernel
theorem dX7_rule_89 : decode cX7_rule 89 = .ok (.getfield 140, 3) := by decide +kernel
theorem dX7_rule_92 : decode cX7_rule 92 = .ok (.istore_n 3, 1) := by decide +kernel
theorem dX7_rule_93 : decode cX7_rule 93 = .ok (.aload_n 0, 1) := by decide +kernel
theorem dX7_rule_94 : decode cX7_rule 94 = .ok (.getfield 10, 3) := by decide +kernel
theorem dX7_rule_97 : decode cX7_rule 97 = .ok (.iload_n 2, 1) := by decide +kernel
theorem dX7_rule_98 : decode cX7_rule 98 = .ok (.putfield 140, 3) := by decide +kernel
theorem dX7_rule_101 : decode cX7_rule 101 = .ok (.iload_n 3, 1) := by decide +kernel
theorem dX7_rule_102 : decode cX7_rule 102 = .ok (.ireturn, 1) := by decide +kernel
theorem dX7_word_0 : decode cX7_word 0 = .ok (.iload_n 1, 1) := by decide +kernel
theorem dX7_word_1 : decode cX7_word 1 = .ok (.invokestatic 62, 3) := by decide +kernel
theorem dX7_word_4 : decode cX7_word 4 = .ok (.ifCond .ne 6, 3) := by decide +kernel
theorem dX7_word_7 : decode cX7_word 7 = .ok (.ldc 68, 2) := by decide +kernel
theorem dX7_word_9 : decode cX7_word 9 = .ok (.ireturn, 1) := by decide +kernel
theorem dX7_word_10 : decode cX7_word 10 = .ok (.aload_n 0, 1) := by decide +kernel
theorem dX7_word_11 : decode cX7_word 11 = .ok (.getfield 10, 3) := by decide +kernel
theorem dX7_word_14 : decode cX7_word 14 = .ok (.iload_n 1, 1) := by decide +kernel
theorem dX7_word_15 : decode cX7_word 15 = .ok (.invokevirtual 143, 3) := by decide +kernel
theorem dX7_word_18 : decode cX7_word 18 = .ok (.ifCond .eq 13, 3) := by decide +kernel
theorem dX7_word_21 : decode cX7_word 21 = .ok (.aload_n 0, 1) := by decide +kernel
theorem dX7_word_22 : decode cX7_word 22 = .ok (.getfield 10, 3) := by decide +kernel
theorem dX7_word_25 : decode cX7_word 25 = .ok (.getfield 146, 3) := by decide +kernel
theorem dX7_word_28 : decode cX7_word 28 = .ok (.goto 5, 3) := by decide +kernel
theorem dX7_word_31 : decode cX7_word 31 = .ok (.ldc 76, 2) := by decide +kernel
theorem dX7_word_33 : decode cX7_word 33 = .ok (.ireturn, 1) := by decide +kernel
theorem dX7_unword_0 : decode cX7_unword 0 = .ok (.aload_n 0, 1) := by decide +kernel
theorem dX7_unword_1 : decode cX7_unword 1 = .ok (.getfield 10, 3) := by decide +kernel
theorem dX7_unword_4 : decode cX7_unword 4 = .ok (.getfield 146, 3) := by decide +kernel
theorem dX7_unword_7 : decode cX7_unword 7 = .ok (.istore_n 1, 1) := by decide +kernel
theorem dX7_unword_8 : decode cX7_unword 8 = .ok (.aload_n 0, 1) := by decide +kernel
theorem dX7_unword_9 : decode cX7_unword 9 = .ok (.getfield 10, 3) := by decide +kernel
theorem dX7_unword_12 : decode cX7_unword 12 = .ok (.iconst 0, 1) := by decide +kernel
theorem dX7_unword_13 : decode cX7_unword 13 = .ok (.putfield 146, 3) := by decide +kernel
theorem dX7_unword_16 : decode cX7_unword 16 = .ok (.iload_n 1, 1) := by decide +kernel
theorem dX7_unword_17 : decode cX7_unword 17 = .ok (.ireturn, 1) := by decide +kernel
theorem dX7_deal_0 : decode cX7_deal 0 = .ok (.iload_n 1, 1) := by decide +kernel
theorem dX7_deal_1 : decode cX7_deal 1 = .ok (.iconst 1, 1) := by decide +kernel
theorem dX7_deal_2 : decode cX7_deal 2 = .ok (.bipush 12, 2) := by decide +kernel
theorem dX7_deal_4 : decode cX7_deal 4 = .ok (.invokestatic 128, 3) := by decide +kernel
theorem dX7_deal_7 : decode cX7_deal 7 = .ok (.ifCond .ne 6, 3) := by decide +kernel
theorem dX7_deal_10 : decode cX7_deal 10 = .ok (.ldc 68, 2) := by decide +kernel
theorem dX7_deal_12 : decode cX7_deal 12 = .ok (.ireturn, 1) := by decide +kernel
theorem dX7_deal_13 : decode cX7_deal 13 = .ok (.iload_n 1, 1) := by decide +kernel
theorem dX7_deal_14 : decode cX7_deal 14 = .ok (.bipush 12, 2) := by decide +kernel
theorem dX7_deal_16 : decode cX7_deal 16 = .ok (.aload_n 0, 1) := by decide +kernel
theorem dX7_deal_17 : decode cX7_deal 17 = .ok (.getfield 10, 3) := by decide +kernel
theorem dX7_deal_20 : decode cX7_deal 20 = .ok (.getfield 73, 3) := by decide +kernel
theorem dX7_deal_23 : decode cX7_deal 23 = .ok (.isub, 1) := by decide +kernel
theorem dX7_deal_24 : decode cX7_deal 24 = .ok (.invokestatic 149, 3) := by decide +kernel
theorem dX7_deal_27 : decode cX7_deal 27 = .ok (.istore_n 2, 1) := by decide +kernel
theorem dX7_deal_28 : decode cX7_deal 28 = .ok (.iconst 0, 1) := by decide +kernel
theorem dX7_deal_29 : decode cX7_deal 29 = .ok (.istore_n 3, 1) := by decide +kernel
theorem dX7_deal_30 : decode cX7_deal 30 = .ok (.iload_n 3, 1) := by decide +kernel
theorem dX7_deal_31 : decode cX7_deal 31 = .ok (.iload_n 2, 1) := by decide +kernel
theorem dX7_deal_32 : decode cX7_deal 32 = .ok (.if_icmp .ge 16, 3) := by decide +kernel
theorem dX7_deal_35 : decode cX7_deal 35 = .ok (.aload_n 0, 1) := by decide +kernel
theorem dX7_deal_36 : decode cX7_deal 36 = .ok (.getfield 10, 3) := by decide +kernel
theorem dX7_deal_39 : decode cX7_deal 39 = .ok (.invokevirtual 155, 3) := by decide +kernel
theorem dX7_deal_42 : decode cX7_deal 42 = .ok (.iinc 3 1, 3) := by decide +kernel
theorem dX7_deal_45 : decode cX7_deal 45 = .ok (.goto (-15), 3) := by decide +kernel
theorem dX7_deal_48 : decode cX7_deal 48 = .ok (.iload_n 2, 1) := by decide +kernel
theorem dX7_deal_49 : decode cX7_deal 49 = .ok (.ireturn, 1) := by decide +kernel
theorem dX7_seed_0 : decode cX7_seed 0 = .ok (.aload_n 0, 1) := by decide +kernel
theorem dX7_seed_1 : decode cX7_seed 1 = .ok (.getfield 10, 3) := by decide +kernel
theorem dX7_seed_4 : decode cX7_seed 4 = .ok (.getfield 158, 3) := by decide +kernel
theorem dX7_seed_7 : decode cX7_seed 7 = .ok (.istore_n 2, 1) := by decide +kernel
theorem dX7_seed_8 : decode cX7_seed 8 = .ok (.aload_n 0, 1) := by decide +kernel
theorem dX7_seed_9 : decode cX7_seed 9 = .ok (.getfield 10, 3) := by decide +kernel
theorem dX7_seed_12 : decode cX7_seed 12 = .ok (.iload_n 1, 1) := by decide +kernel
theorem dX7_seed_13 : decode cX7_seed 13 = .ok (.putfield 158, 3) := by decide +kernel
theorem dX7_seed_16 : decode cX7_seed 16 = .ok (.iload_n 2, 1) := by decide +kernel
theorem dX7_seed_17 : decode cX7_seed 17 = .ok (.ireturn, 1) := by decide +kernel
theorem dX7_weeks_0 : decode cX7_weeks 0 = .ok (.iload_n 1, 1) := by decide +kernel
theorem dX7_weeks_1 : decode cX7_weeks 1 = .ok (.iconst 1, 1) := by decide +kernel
theorem dX7_weeks_2 : decode cX7_weeks 2 = .ok (.bipush 60, 2) := by decide +kernel
theorem dX7_weeks_4 : decode cX7_weeks 4 = .ok (.invokestatic 128, 3) := by decide +kernel
theorem dX7_weeks_7 : decode cX7_weeks 7 = .ok (.ifCond .ne 6, 3) := by decide +kernel
theorem dX7_weeks_10 : decode cX7_weeks 10 = .ok (.ldc 68, 2) := by decide +kernel
theorem dX7_weeks_12 : decode cX7_weeks 12 = .ok (.ireturn, 1) := by decide +kernel
theorem dX7_weeks_13 : decode cX7_weeks 13 = .ok (.aload_n 0, 1) := by decide +kernel
theorem dX7_weeks_14 : decode cX7_weeks 14 = .ok (.getfield 10, 3) := by decide +kernel
theorem dX7_weeks_17 : decode cX7_weeks 17 = .ok (.getfield 161, 3) := by decide +kernel
theorem dX7_weeks_20 : decode cX7_weeks 20 = .ok (.istore_n 2, 1) := by decide +kernel
theorem dX7_weeks_21 : decode cX7_weeks 21 = .ok (.aload_n 0, 1) := by decide +kernel
theorem dX7_weeks_22 : decode cX7_weeks 22 = .ok (.getfield 10, 3) := by decide +kernel
theorem dX7_weeks_25 : decode cX7_weeks 25 = .ok (.iload_n 1, 1) := by decide +kernel
theorem dX7_weeks_26 : decode cX7_weeks 26 = .ok (.sipush 9999, 3) := by decide +kernel
theorem dX7_weeks_29 : decode cX7_weeks 29 = .ok (.aload_n 0, 1) := by decide +kernel
theorem dX7_weeks_30 : decode cX7_weeks 30 = .ok (.getfield 10, 3) := by decide +kernel
theorem dX7_weeks_33 : decode cX7_weeks 33 = .ok (.getfield 164, 3) := by decide +kernel
theorem dX7_weeks_36 : decode cX7_weeks 36 = .ok (.isub, 1) := by decide +kernel
theorem dX7_weeks_37 : decode cX7_weeks 37 = .ok (.invokestatic 149, 3) := by decide +kernel
theorem dX7_weeks_40 : decode cX7_weeks 40 = .ok (.invokevirtual 167, 3) := by decide +kernel
theorem dX7_weeks_43 : decode cX7_weeks 43 = .ok (.aload_n 0, 1) := by decide +kernel
theorem dX7_weeks_44 : decode cX7_weeks 44 = .ok (.getfield 10, 3) := by decide +kernel
theorem dX7_weeks_47 : decode cX7_weeks 47 = .ok (.getfield 161, 3) := by decide +kernel
theorem dX7_weeks_50 : decode cX7_weeks 50 = .ok (.iload_n 2, 1) := by decide +kernel
theorem dX7_weeks_51 : decode cX7_weeks 51 = .ok (.isub, 1) := by decide +kernel
theorem dX7_weeks_52 : decode cX7_weeks 52 = .ok (.ireturn, 1) := by decide +kernel
theorem dX7_read_0 : decode cX7_read 0 = .ok (.iload_n 1, 1) := by decide +kernel
theorem dX7_read_1 : decode cX7_read 1 = .ok (.iconst (-1), 1) := by decide +kernel
theorem dX7_read_2 : decode cX7_read 2 = .ok (.bipush 11, 2) := by decide +kernel
theorem dX7_read_4 : decode cX7_read 4 = .ok (.invokestatic 128, 3) := by decide +kernel
theorem dX7_read_7 : decode cX7_read 7 = .ok (.ifCond .ne 6, 3) := by decide +kernel
theorem dX7_read_10 : decode cX7_read 10 = .ok (.ldc 68, 2) := by decide +kernel
theorem dX7_read_12 : decode cX7_read 12 = .ok (.ireturn, 1) := by decide +kernel
theorem dX7_read_13 : decode cX7_read 13 = .ok (.iload_n 1, 1) := by decide +kernel
theorem dX7_read_14 : decode cX7_read 14 = .ok (.iconst (-1), 1) := by decide +kernel
theorem dX7_read_15 : decode cX7_read 15 = .ok (.if_icmp .ne 13, 3) := by decide +kernel
theorem dX7_read_18 : decode cX7_read 18 = .ok (.aload_n 0, 1) := by decide +kernel
theorem dX7_read_19 : decode cX7_read 19 = .ok (.getfield 10, 3) := by decide +kernel
theorem dX7_read_22 : decode cX7_read 22 = .ok (.getfield 161, 3) := by decide +kernel
theorem dX7_read_25 : decode cX7_read 25 = .ok (.goto 11, 3) := by decide +kernel
theorem dX7_read_28 : decode cX7_read 28 = .ok (.aload_n 0, 1) := by decide +kernel
theorem dX7_read_29 : decode cX7_read 29 = .ok (.getfield 10, 3) := by decide +kernel
theorem dX7_read_32 : decode cX7_read 32 = .ok (.iload_n 1, 1) := by decide +kernel
theorem dX7_read_33 : decode cX7_read 33 = .ok (.invokevirtual 171, 3) := by decide +kernel
theorem dX7_read_36 : decode cX7_read 36 = .ok (.ireturn, 1) := by decide +kernel
theorem dX7_river_0 : decode cX7_river 0 = .ok (.iload_n 1, 1) := by decide +kernel
theorem dX7_river_1 : decode cX7_river 1 = .ok (.tableswitch 75 0 4 #[35, 43, 51, 59, 67], 35) := by decide +kernel
theorem dX7_river_36 : decode cX7_river 36 = .ok (.aload_n 0, 1) := by decide +kernel
theorem dX7_river_37 : decode cX7_river 37 = .ok (.getfield 10, 3) := by decide +kernel
theorem dX7_river_40 : decode cX7_river 40 = .ok (.invokevirtual 174, 3) := by decide +kernel
theorem dX7_river_43 : decode cX7_river 43 = .ok (.ireturn, 1) := by decide +kernel
theorem dX7_river_44 : decode cX7_river 44 = .ok (.aload_n 0, 1) := by decide +kernel
theorem dX7_river_45 : decode cX7_river 45 = .ok (.getfield 10, 3) := by decide +kernel
theorem dX7_river_48 : decode cX7_river 48 = .ok (.invokevirtual 177, 3) := by decide +kernel
theorem dX7_river_51 : decode cX7_river 51 = .ok (.ireturn, 1) := by decide +kernel
theorem dX7_river_52 : decode cX7_river 52 = .ok (.aload_n 0, 1) := by decide +kernel
theorem dX7_river_53 : decode cX7_river 53 = .ok (.getfield 10, 3) := by decide +kernel
theorem dX7_river_56 : decode cX7_river 56 = .ok (.getfield 180, 3) := by decide +kernel
theorem dX7_river_59 : decode cX7_river 59 = .ok (.ireturn, 1) := by decide +kernel
theorem dX7_river_60 : decode cX7_river 60 = .ok (.aload_n 0, 1) := by decide +kernel
theorem dX7_river_61 : decode cX7_river 61 = .ok (.getfield 10, 3) := by decide +kernel
theorem dX7_river_64 : decode cX7_river 64 = .ok (.getfield 161, 3) := by decide +kernel
theorem dX7_river_67 : decode cX7_river 67 = .ok (.ireturn, 1) := by decide +kernel
theorem dX7_river_68 : decode cX7_river 68 = .ok (.aload_n 0, 1) := by decide +kernel
theorem dX7_river_69 : decode cX7_river 69 = .ok (.getfield 10, 3) := by decide +kernel
theorem dX7_river_72 : decode cX7_river 72 = .ok (.invokevirtual 183, 3) := by decide +kernel
theorem dX7_river_75 : decode cX7_river 75 = .ok (.ireturn, 1) := by decide +kernel
theorem dX7_river_76 : decode cX7_river 76 = .ok (.ldc 68, 2) := by decide +kernel
theorem dX7_river_78 : decode cX7_river 78 = .ok (.ireturn, 1) := by decide +kernel
theorem dX7_behind_0 : decode cX7_behind 0 = .ok (.iload_n 1, 1) := by decide +kernel
theorem dX7_behind_1 : decode cX7_behind 1 = .ok (.iconst 0, 1) := by decide +kernel
theorem dX7_behind_2 : decode cX7_behind 2 = .ok (.bipush 60, 2) := by decide +kernel
theorem dX7_behind_4 : decode cX7_behind 4 = .ok (.invokestatic 128, 3) := by decide +kernel
theorem dX7_behind_7 : decode cX7_behind 7 = .ok (.ifCond .eq 25, 3) := by decide +kernel
theorem dX7_behind_10 : decode cX7_behind 10 = .ok (.iload_n 2, 1) := by decide +kernel
theorem dX7_behind_11 : decode cX7_behind 11 = .ok (.ifCond .lt 21, 3) := by decide +kernel
theorem dX7_behind_14 : decode cX7_behind 14 = .ok (.iload_n 2, 1) := by decide +kernel
theorem dX7_behind_15 : decode cX7_behind 15 = .ok (.iconst 2, 1) := by decide +kernel
theorem dX7_behind_16 : decode cX7_behind 16 = .ok (.if_icmp .le 19, 3) := by decide +kernel
theorem dX7_behind_19 : decode cX7_behind 19 = .ok (.aload_n 0, 1) := by decide +kernel
theorem dX7_behind_20 : decode cX7_behind 20 = .ok (.getfield 10, 3) := by decide +kernel
theorem dX7_behind_23 : decode cX7_behind 23 = .ok (.iload_n 2, 1) := by decide +kernel
theorem dX7_behind_24 : decode cX7_behind 24 = .ok (.iconst 3, 1) := by decide +kernel
theorem dX7_behind_25 : decode cX7_behind 25 = .ok (.isub, 1) := by decide +kernel
theorem dX7_behind_26 : decode cX7_behind 26 = .ok (.invokevirtual 77, 3) := by decide +kernel
theorem dX7_behind_29 : decode cX7_behind 29 = .ok (.ifCond .ne 6, 3) := by decide +kernel
theorem dX7_behind_32 : decode cX7_behind 32 = .ok (.ldc 68, 2) := by decide +kernel
theorem dX7_behind_34 : decode cX7_behind 34 = .ok (.ireturn, 1) := by decide +kernel
theorem dX7_behind_35 : decode cX7_behind 35 = .ok (.aload_n 0, 1) := by decide +kernel
theorem dX7_behind_36 : decode cX7_behind 36 = .ok (.invokevirtual 186, 3) := by decide +kernel
theorem dX7_behind_39 : decode cX7_behind 39 = .ok (.aload_n 0, 1) := by decide +kernel
theorem dX7_behind_40 : decode cX7_behind 40 = .ok (.getfield 19, 3) := by decide +kernel
theorem dX7_behind_43 : decode cX7_behind 43 = .ok (.iload_n 1, 1) := by decide +kernel
theorem dX7_behind_44 : decode cX7_behind 44 = .ok (.invokevirtual 167, 3) := by decide +kernel
theorem dX7_behind_47 : decode cX7_behind 47 = .ok (.iload_n 2, 1) := by decide +kernel
theorem dX7_behind_48 : decode cX7_behind 48 = .ok (.tableswitch 52 0 2 #[28, 36, 44], 28) := by decide +kernel
theorem dX7_behind_76 : decode cX7_behind 76 = .ok (.aload_n 0, 1) := by decide +kernel
theorem dX7_behind_77 : decode cX7_behind 77 = .ok (.getfield 19, 3) := by decide +kernel
theorem dX7_behind_80 : decode cX7_behind 80 = .ok (.getfield 161, 3) := by decide +kernel
theorem dX7_behind_83 : decode cX7_behind 83 = .ok (.ireturn, 1) := by decide +kernel
theorem dX7_behind_84 : decode cX7_behind 84 = .ok (.aload_n 0, 1) := by decide +kernel
theorem dX7_behind_85 : decode cX7_behind 85 = .ok (.getfield 19, 3) := by decide +kernel
theorem dX7_behind_88 : decode cX7_behind 88 = .ok (.getfield 180, 3) := by decide +kernel
theorem dX7_behind_91 : decode cX7_behind 91 = .ok (.ireturn, 1) := by decide +kernel
theorem dX7_behind_92 : decode cX7_behind 92 = .ok (.aload_n 0, 1) := by decide +kernel
theorem dX7_behind_93 : decode cX7_behind 93 = .ok (.getfield 19, 3) := by decide +kernel
theorem dX7_behind_96 : decode cX7_behind 96 = .ok (.invokevirtual 174, 3) := by decide +kernel
theorem dX7_behind_99 : decode cX7_behind 99 = .ok (.ireturn, 1) := by decide +kernel
theorem dX7_behind_100 : decode cX7_behind 100 = .ok (.aload_n 0, 1) := by decide +kernel
theorem dX7_behind_101 : decode cX7_behind 101 = .ok (.getfield 19, 3) := by decide +kernel
theorem dX7_behind_104 : decode cX7_behind 104 = .ok (.getfield 80, 3) := by decide +kernel
theorem dX7_behind_107 : decode cX7_behind 107 = .ok (.iload_n 2, 1) := by decide +kernel
theorem dX7_behind_108 : decode cX7_behind 108 = .ok (.iconst 3, 1) := by decide +kernel
theorem dX7_behind_109 : decode cX7_behind 109 = .ok (.isub, 1) := by decide +kernel
theorem dX7_behind_110 : decode cX7_behind 110 = .ok (.aaload, 1) := by decide +kernel
theorem dX7_behind_111 : decode cX7_behind 111 = .ok (.getfield 95, 3) := by decide +kernel
theorem dX7_behind_114 : decode cX7_behind 114 = .ok (.ireturn, 1) := by decide +kernel
theorem dX7_whole_0 : decode cX7_whole 0 = .ok (.aload_n 0, 1) := by decide +kernel
theorem dX7_whole_1 : decode cX7_whole 1 = .ok (.invokevirtual 186, 3) := by decide +kernel
theorem dX7_whole_4 : decode cX7_whole 4 = .ok (.iconst 0, 1) := by decide +kernel
theorem dX7_whole_5 : decode cX7_whole 5 = .ok (.istore_n 1, 1) := by decide +kernel
theorem dX7_whole_6 : decode cX7_whole 6 = .ok (.iload_n 1, 1) := by decide +kernel
theorem dX7_whole_7 : decode cX7_whole 7 = .ok (.sipush 200, 3) := by decide +kernel
theorem dX7_whole_10 : decode cX7_whole 10 = .ok (.if_icmp .gt 35, 3) := by decide +kernel
theorem dX7_whole_13 : decode cX7_whole 13 = .ok (.aload_n 0, 1) := by decide +kernel
theorem dX7_whole_14 : decode cX7_whole 14 = .ok (.getfield 19, 3) := by decide +kernel
theorem dX7_whole_17 : decode cX7_whole 17 = .ok (.invokevirtual 174, 3) := by decide +kernel
theorem dX7_whole_20 : decode cX7_whole 20 = .ok (.aload_n 0, 1) := by decide +kernel
theorem dX7_whole_21 : decode cX7_whole 21 = .ok (.getfield 19, 3) := by decide +kernel
theorem dX7_whole_24 : decode cX7_whole 24 = .ok (.getfield 146, 3) := by decide +kernel
theorem dX7_whole_27 : decode cX7_whole 27 = .ok (.if_icmp .ne 5, 3) := by decide +kernel
theorem dX7_whole_30 : decode cX7_whole 30 = .ok (.iload_n 1, 1) := by decide +kernel
theorem dX7_whole_31 : decode cX7_whole 31 = .ok (.ireturn, 1) := by decide +kernel
theorem dX7_whole_32 : decode cX7_whole 32 = .ok (.aload_n 0, 1) := by decide +kernel
theorem dX7_whole_33 : decode cX7_whole 33 = .ok (.getfield 19, 3) := by decide +kernel
theorem dX7_whole_36 : decode cX7_whole 36 = .ok (.invokevirtual 189, 3) := by decide +kernel
theorem dX7_whole_39 : decode cX7_whole 39 = .ok (.iinc 1 1, 3) := by decide +kernel
theorem dX7_whole_42 : decode cX7_whole 42 = .ok (.goto (-36), 3) := by decide +kernel
theorem dX7_whole_45 : decode cX7_whole 45 = .ok (.ldc 192, 2) := by decide +kernel
theorem dX7_whole_47 : decode cX7_whole 47 = .ok (.ireturn, 1) := by decide +kernel
theorem dX7_frees_0 : decode cX7_frees 0 = .ok (.iload_n 1, 1) := by decide +kernel
theorem dX7_frees_1 : decode cX7_frees 1 = .ok (.iconst 1, 1) := by decide +kernel
theorem dX7_frees_2 : decode cX7_frees 2 = .ok (.bipush 40, 2) := by decide +kernel
theorem dX7_frees_4 : decode cX7_frees 4 = .ok (.invokestatic 128, 3) := by decide +kernel
theorem dX7_frees_7 : decode cX7_frees 7 = .ok (.ifCond .eq 12, 3) := by decide +kernel
theorem dX7_frees_10 : decode cX7_frees 10 = .ok (.iload_n 2, 1) := by decide +kernel
theorem dX7_frees_11 : decode cX7_frees 11 = .ok (.iconst 0, 1) := by decide +kernel
theorem dX7_frees_12 : decode cX7_frees 12 = .ok (.iconst 1, 1) := by decide +kernel
theorem dX7_frees_13 : decode cX7_frees 13 = .ok (.invokestatic 128, 3) := by decide +kernel
theorem dX7_frees_16 : decode cX7_frees 16 = .ok (.ifCond .ne 6, 3) := by decide +kernel
theorem dX7_frees_19 : decode cX7_frees 19 = .ok (.ldc 68, 2) := by decide +kernel
theorem dX7_frees_21 : decode cX7_frees 21 = .ok (.ireturn, 1) := by decide +kernel
theorem dX7_frees_22 : decode cX7_frees 22 = .ok (.ldc 192, 2) := by decide +kernel
theorem dX7_frees_24 : decode cX7_frees 24 = .ok (.istore_n 3, 1) := by decide +kernel
theorem dX7_frees_25 : decode cX7_frees 25 = .ok (.ldc 192, 2) := by decide +kernel
theorem dX7_frees_27 : decode cX7_frees 27 = .ok (.istore 4, 2) := by decide +kernel
theorem dX7_frees_29 : decode cX7_frees 29 = .ok (.iconst 0, 1) := by decide +kernel
theorem dX7_frees_30 : decode cX7_frees 30 = .ok (.istore 5, 2) := by decide +kernel
theorem dX7_frees_32 : decode cX7_frees 32 = .ok (.iload 5, 2) := by decide +kernel
theorem dX7_frees_34 : decode cX7_frees 34 = .ok (.aload_n 0, 1) := by decide +kernel
theorem dX7_frees_35 : decode cX7_frees 35 = .ok (.getfield 10, 3) := by decide +kernel
theorem dX7_frees_38 : decode cX7_frees 38 = .ok (.getfield 73, 3) := by decide +kernel
theorem dX7_frees_41 : decode cX7_frees 41 = .ok (.if_icmp .ge 63, 3) := by decide +kernel
theorem dX7_frees_44 : decode cX7_frees 44 = .ok (.aload_n 0, 1) := by decide +kernel
theorem dX7_frees_45 : decode cX7_frees 45 = .ok (.getfield 10, 3) := by decide +kernel
theorem dX7_frees_48 : decode cX7_frees 48 = .ok (.getfield 80, 3) := by decide +kernel
theorem dX7_frees_51 : decode cX7_frees 51 = .ok (.iload 5, 2) := by decide +kernel
theorem dX7_frees_53 : decode cX7_frees 53 = .ok (.aaload, 1) := by decide +kernel
theorem dX7_frees_54 : decode cX7_frees 54 = .ok (.invokevirtual 193, 3) := by decide +kernel
theorem dX7_frees_57 : decode cX7_frees 57 = .ok (.ifCond .eq 41, 3) := by decide +kernel
theorem dX7_frees_60 : decode cX7_frees 60 = .ok (.aload_n 0, 1) := by decide +kernel
theorem dX7_frees_61 : decode cX7_frees 61 = .ok (.iload 5, 2) := by decide +kernel
theorem dX7_frees_63 : decode cX7_frees 63 = .ok (.invokevirtual 197, 3) := by decide +kernel
theorem dX7_frees_66 : decode cX7_frees 66 = .ok (.aload_n 0, 1) := by decide +kernel
theorem dX7_frees_67 : decode cX7_frees 67 = .ok (.getfield 19, 3) := by decide +kernel
theorem dX7_frees_70 : decode cX7_frees 70 = .ok (.iload_n 1, 1) := by decide +kernel
theorem dX7_frees_71 : decode cX7_frees 71 = .ok (.invokevirtual 167, 3) := by decide +kernel
theorem dX7_frees_74 : decode cX7_frees 74 = .ok (.aload_n 0, 1) := by decide +kernel
theorem dX7_frees_75 : decode cX7_frees 75 = .ok (.getfield 19, 3) := by decide +kernel
theorem dX7_frees_78 : decode cX7_frees 78 = .ok (.getfield 161, 3) := by decide +kernel
theorem dX7_frees_81 : decode cX7_frees 81 = .ok (.iload 4, 2) := by decide +kernel
theorem dX7_frees_83 : decode cX7_frees 83 = .ok (.if_icmp .le 15, 3) := by decide +kernel
theorem dX7_frees_86 : decode cX7_frees 86 = .ok (.iload 5, 2) := by decide +kernel
theorem dX7_frees_88 : decode cX7_frees 88 = .ok (.istore_n 3, 1) := by decide +kernel
theorem dX7_frees_89 : decode cX7_frees 89 = .ok (.aload_n 0, 1) := by decide +kernel
theorem dX7_frees_90 : decode cX7_frees 90 = .ok (.getfield 19, 3) := by decide +kernel
theorem dX7_frees_93 : decode cX7_frees 93 = .ok (.getfield 161, 3) := by decide +kernel
theorem dX7_frees_96 : decode cX7_frees 96 = .ok (.istore 4, 2) := by decide +kernel
theorem dX7_frees_98 : decode cX7_frees 98 = .ok (.iinc 5 1, 3) := by decide +kernel
theorem dX7_frees_101 : decode cX7_frees 101 = .ok (.goto (-69), 3) := by decide +kernel
theorem dX7_frees_104 : decode cX7_frees 104 = .ok (.iload_n 2, 1) := by decide +kernel
theorem dX7_frees_105 : decode cX7_frees 105 = .ok (.ifCond .ne 7, 3) := by decide +kernel
theorem dX7_frees_108 : decode cX7_frees 108 = .ok (.iload_n 3, 1) := by decide +kernel
theorem dX7_frees_109 : decode cX7_frees 109 = .ok (.goto 5, 3) := by decide +kernel
theorem dX7_frees_112 : decode cX7_frees 112 = .ok (.iload 4, 2) := by decide +kernel
theorem dX7_frees_114 : decode cX7_frees 114 = .ok (.ireturn, 1) := by decide +kernel
theorem dX7_lost_0 : decode cX7_lost 0 = .ok (.iload_n 1, 1) := by decide +kernel
theorem dX7_lost_1 : decode cX7_lost 1 = .ok (.iconst 1, 1) := by decide +kernel
theorem dX7_lost_2 : decode cX7_lost 2 = .ok (.bipush 40, 2) := by decide +kernel
theorem dX7_lost_4 : decode cX7_lost 4 = .ok (.invokestatic 128, 3) := by decide +kernel
theorem dX7_lost_7 : decode cX7_lost 7 = .ok (.ifCond .ne 6, 3) := by decide +kernel
theorem dX7_lost_10 : decode cX7_lost 10 = .ok (.ldc 68, 2) := by decide +kernel
theorem dX7_lost_12 : decode cX7_lost 12 = .ok (.ireturn, 1) := by decide +kernel
theorem dX7_lost_13 : decode cX7_lost 13 = .ok (.aload_n 0, 1) := by decide +kernel
theorem dX7_lost_14 : decode cX7_lost 14 = .ok (.invokevirtual 186, 3) := by decide +kernel
theorem dX7_lost_17 : decode cX7_lost 17 = .ok (.aload_n 0, 1) := by decide +kernel
theorem dX7_lost_18 : decode cX7_lost 18 = .ok (.getfield 19, 3) := by decide +kernel
theorem dX7_lost_21 : decode cX7_lost 21 = .ok (.iload_n 1, 1) := by decide +kernel
theorem dX7_lost_22 : decode cX7_lost 22 = .ok (.invokevirtual 167, 3) := by decide +kernel
theorem dX7_lost_25 : decode cX7_lost 25 = .ok (.aload_n 0, 1) := by decide +kernel
theorem dX7_lost_26 : decode cX7_lost 26 = .ok (.getfield 19, 3) := by decide +kernel
theorem dX7_lost_29 : decode cX7_lost 29 = .ok (.invokevirtual 174, 3) := by decide +kernel
theorem dX7_lost_32 : decode cX7_lost 32 = .ok (.istore_n 2, 1) := by decide +kernel
theorem dX7_lost_33 : decode cX7_lost 33 = .ok (.iconst 0, 1) := by decide +kernel
theorem dX7_lost_34 : decode cX7_lost 34 = .ok (.istore_n 3, 1) := by decide +kernel
theorem dX7_lost_35 : decode cX7_lost 35 = .ok (.iconst 0, 1) := by decide +kernel
theorem dX7_lost_36 : decode cX7_lost 36 = .ok (.istore 4, 2) := by decide +kernel
theorem dX7_lost_38 : decode cX7_lost 38 = .ok (.iload 4, 2) := by decide +kernel
theorem dX7_lost_40 : decode cX7_lost 40 = .ok (.aload_n 0, 1) := by decide +kernel
theorem dX7_lost_41 : decode cX7_lost 41 = .ok (.getfield 10, 3) := by decide +kernel
theorem dX7_lost_44 : decode cX7_lost 44 = .ok (.getfield 73, 3) := by decide +kernel
theorem dX7_lost_47 : decode cX7_lost 47 = .ok (.if_icmp .ge 57, 3) := by decide +kernel
theorem dX7_lost_50 : decode cX7_lost 50 = .ok (.aload_n 0, 1) := by decide +kernel
theorem dX7_lost_51 : decode cX7_lost 51 = .ok (.getfield 10, 3) := by decide +kernel
theorem dX7_lost_54 : decode cX7_lost 54 = .ok (.getfield 80, 3) := by decide +kernel
theorem dX7_lost_57 : decode cX7_lost 57 = .ok (.iload 4, 2) := by decide +kernel
theorem dX7_lost_59 : decode cX7_lost 59 = .ok (.aaload, 1) := by decide +kernel
theorem dX7_lost_60 : decode cX7_lost 60 = .ok (.invokevirtual 193, 3) := by decide +kernel
theorem dX7_lost_63 : decode cX7_lost 63 = .ok (.ifCond .eq 35, 3) := by decide +kernel
theorem dX7_lost_66 : decode cX7_lost 66 = .ok (.aload_n 0, 1) := by decide +kernel
theorem dX7_lost_67 : decode cX7_lost 67 = .ok (.iload 4, 2) := by decide +kernel
theorem dX7_lost_69 : decode cX7_lost 69 = .ok (.invokevirtual 197, 3) := by decide +kernel
theorem dX7_lost_72 : decode cX7_lost 72 = .ok (.aload_n 0, 1) := by decide +kernel
theorem dX7_lost_73 : decode cX7_lost 73 = .ok (.getfield 19, 3) := by decide +kernel
theorem dX7_lost_76 : decode cX7_lost 76 = .ok (.iload_n 1, 1) := by decide +kernel
theorem dX7_lost_77 : decode cX7_lost 77 = .ok (.invokevirtual 167, 3) := by decide +kernel
theorem dX7_lost_80 : decode cX7_lost 80 = .ok (.aload_n 0, 1) := by decide +kernel
theorem dX7_lost_81 : decode cX7_lost 81 = .ok (.getfield 19, 3) := by decide +kernel
theorem dX7_lost_84 : decode cX7_lost 84 = .ok (.invokevirtual 174, 3) := by decide +kernel
theorem dX7_lost_87 : decode cX7_lost 87 = .ok (.iload_n 2, 1) := by decide +kernel
theorem dX7_lost_88 : decode cX7_lost 88 = .ok (.if_icmp .lt 10, 3) := by decide +kernel
theorem dX7_lost_91 : decode cX7_lost 91 = .ok (.iload_n 3, 1) := by decide +kernel
theorem dX7_lost_92 : decode cX7_lost 92 = .ok (.iconst 1, 1) := by decide +kernel
theorem dX7_lost_93 : decode cX7_lost 93 = .ok (.iload 4, 2) := by decide +kernel
theorem dX7_lost_95 : decode cX7_lost 95 = .ok (.ishl, 1) := by decide +kernel
theorem dX7_lost_96 : decode cX7_lost 96 = .ok (.ior, 1) := by decide +kernel
theorem dX7_lost_97 : decode cX7_lost 97 = .ok (.istore_n 3, 1) := by decide +kernel
theorem dX7_lost_98 : decode cX7_lost 98 = .ok (.iinc 4 1, 3) := by decide +kernel
theorem dX7_lost_101 : decode cX7_lost 101 = .ok (.goto (-63), 3) := by decide +kernel
theorem dX7_lost_104 : decode cX7_lost 104 = .ok (.iload_n 3, 1) := by decide +kernel
theorem dX7_lost_105 : decode cX7_lost 105 = .ok (.ireturn, 1) := by decide +kernel
theorem dX7_wider_0 : decode cX7_wider 0 = .ok (.iload_n 1, 1) := by decide +kernel
theorem dX7_wider_1 : decode cX7_wider 1 = .ok (.iconst 1, 1) := by decide +kernel
theorem dX7_wider_2 : decode cX7_wider 2 = .ok (.bipush 40, 2) := by decide +kernel
theorem dX7_wider_4 : decode cX7_wider 4 = .ok (.invokestatic 128, 3) := by decide +kernel
theorem dX7_wider_7 : decode cX7_wider 7 = .ok (.ifCond .eq 12, 3) := by decide +kernel
theorem dX7_wider_10 : decode cX7_wider 10 = .ok (.iload_n 2, 1) := by decide +kernel
theorem dX7_wider_11 : decode cX7_wider 11 = .ok (.iconst 0, 1) := by decide +kernel
theorem dX7_wider_12 : decode cX7_wider 12 = .ok (.iconst 1, 1) := by decide +kernel
theorem dX7_wider_13 : decode cX7_wider 13 = .ok (.invokestatic 128, 3) := by decide +kernel
theorem dX7_wider_16 : decode cX7_wider 16 = .ok (.ifCond .ne 6, 3) := by decide +kernel
theorem dX7_wider_19 : decode cX7_wider 19 = .ok (.ldc 68, 2) := by decide +kernel
theorem dX7_wider_21 : decode cX7_wider 21 = .ok (.ireturn, 1) := by decide +kernel
theorem dX7_wider_22 : decode cX7_wider 22 = .ok (.ldc 192, 2) := by decide +kernel
theorem dX7_wider_24 : decode cX7_wider 24 = .ok (.istore_n 3, 1) := by decide +kernel
theorem dX7_wider_25 : decode cX7_wider 25 = .ok (.ldc 192, 2) := by decide +kernel
theorem dX7_wider_27 : decode cX7_wider 27 = .ok (.istore 4, 2) := by decide +kernel
theorem dX7_wider_29 : decode cX7_wider 29 = .ok (.iconst 0, 1) := by decide +kernel
theorem dX7_wider_30 : decode cX7_wider 30 = .ok (.istore 5, 2) := by decide +kernel
theorem dX7_wider_32 : decode cX7_wider 32 = .ok (.iload 5, 2) := by decide +kernel
theorem dX7_wider_34 : decode cX7_wider 34 = .ok (.bipush 12, 2) := by decide +kernel
theorem dX7_wider_36 : decode cX7_wider 36 = .ok (.if_icmp .ge 59, 3) := by decide +kernel
theorem dX7_wider_39 : decode cX7_wider 39 = .ok (.aload_n 0, 1) := by decide +kernel
theorem dX7_wider_40 : decode cX7_wider 40 = .ok (.invokevirtual 186, 3) := by decide +kernel
theorem dX7_wider_43 : decode cX7_wider 43 = .ok (.aload_n 0, 1) := by decide +kernel
theorem dX7_wider_44 : decode cX7_wider 44 = .ok (.getfield 19, 3) := by decide +kernel
theorem dX7_wider_47 : decode cX7_wider 47 = .ok (.getfield 131, 3) := by decide +kernel
theorem dX7_wider_50 : decode cX7_wider 50 = .ok (.iload 5, 2) := by decide +kernel
theorem dX7_wider_52 : decode cX7_wider 52 = .ok (.dup2, 1) := by decide +kernel
theorem dX7_wider_53 : decode cX7_wider 53 = .ok (.iaload, 1) := by decide +kernel
theorem dX7_wider_54 : decode cX7_wider 54 = .ok (.iconst 2, 1) := by decide +kernel
theorem dX7_wider_55 : decode cX7_wider 55 = .ok (.iadd, 1) := by decide +kernel
theorem dX7_wider_56 : decode cX7_wider 56 = .ok (.iastore, 1) := by decide +kernel
theorem dX7_wider_57 : decode cX7_wider 57 = .ok (.aload_n 0, 1) := by decide +kernel
theorem dX7_wider_58 : decode cX7_wider 58 = .ok (.getfield 19, 3) := by decide +kernel
theorem dX7_wider_61 : decode cX7_wider 61 = .ok (.iload_n 1, 1) := by decide +kernel
theorem dX7_wider_62 : decode cX7_wider 62 = .ok (.invokevirtual 167, 3) := by decide +kernel
theorem dX7_wider_65 : decode cX7_wider 65 = .ok (.aload_n 0, 1) := by decide +kernel
theorem dX7_wider_66 : decode cX7_wider 66 = .ok (.getfield 19, 3) := by decide +kernel
theorem dX7_wider_69 : decode cX7_wider 69 = .ok (.getfield 161, 3) := by decide +kernel
theorem dX7_wider_72 : decode cX7_wider 72 = .ok (.iload 4, 2) := by decide +kernel
theorem dX7_wider_74 : decode cX7_wider 74 = .ok (.if_icmp .le 15, 3) := by decide +kernel
theorem dX7_wider_77 : decode cX7_wider 77 = .ok (.iload 5, 2) := by decide +kernel
theorem dX7_wider_79 : decode cX7_wider 79 = .ok (.istore_n 3, 1) := by decide +kernel
theorem dX7_wider_80 : decode cX7_wider 80 = .ok (.aload_n 0, 1) := by decide +kernel
theorem dX7_wider_81 : decode cX7_wider 81 = .ok (.getfield 19, 3) := by decide +kernel
theorem dX7_wider_84 : decode cX7_wider 84 = .ok (.getfield 161, 3) := by decide +kernel
theorem dX7_wider_87 : decode cX7_wider 87 = .ok (.istore 4, 2) := by decide +kernel
theorem dX7_wider_89 : decode cX7_wider 89 = .ok (.iinc 5 1, 3) := by decide +kernel
theorem dX7_wider_92 : decode cX7_wider 92 = .ok (.goto (-60), 3) := by decide +kernel
theorem dX7_wider_95 : decode cX7_wider 95 = .ok (.iload_n 2, 1) := by decide +kernel
theorem dX7_wider_96 : decode cX7_wider 96 = .ok (.ifCond .ne 7, 3) := by decide +kernel
theorem dX7_wider_99 : decode cX7_wider 99 = .ok (.iload_n 3, 1) := by decide +kernel
theorem dX7_wider_100 : decode cX7_wider 100 = .ok (.goto 5, 3) := by decide +kernel
theorem dX7_wider_103 : decode cX7_wider 103 = .ok (.iload 4, 2) := by decide +kernel
theorem dX7_wider_105 : decode cX7_wider 105 = .ok (.ireturn, 1) := by decide +kernel
theorem dX7_opened_0 : decode cX7_opened 0 = .ok (.iload_n 1, 1) := by decide +kernel
theorem dX7_opened_1 : decode cX7_opened 1 = .ok (.iconst 1, 1) := by decide +kernel
theorem dX7_opened_2 : decode cX7_opened 2 = .ok (.bipush 60, 2) := by decide +kernel
theorem dX7_opened_4 : decode cX7_opened 4 = .ok (.invokestatic 128, 3) := by decide +kernel
theorem dX7_opened_7 : decode cX7_opened 7 = .ok (.ifCond .ne 6, 3) := by decide +kernel
theorem dX7_opened_10 : decode cX7_opened 10 = .ok (.ldc 68, 2) := by decide +kernel
theorem dX7_opened_12 : decode cX7_opened 12 = .ok (.ireturn, 1) := by decide +kernel
theorem dX7_opened_13 : decode cX7_opened 13 = .ok (.aload_n 0, 1) := by decide +kernel
theorem dX7_opened_14 : decode cX7_opened 14 = .ok (.invokevirtual 186, 3) := by decide +kernel
theorem dX7_opened_17 : decode cX7_opened 17 = .ok (.aload_n 0, 1) := by decide +kernel
theorem dX7_opened_18 : decode cX7_opened 18 = .ok (.getfield 19, 3) := by decide +kernel
theorem dX7_opened_21 : decode cX7_opened 21 = .ok (.iload_n 1, 1) := by decide +kernel
theorem dX7_opened_22 : decode cX7_opened 22 = .ok (.invokevirtual 167, 3) := by decide +kernel
theorem dX7_opened_25 : decode cX7_opened 25 = .ok (.aload_n 0, 1) := by decide +kernel
theorem dX7_opened_26 : decode cX7_opened 26 = .ok (.getfield 19, 3) := by decide +kernel
theorem dX7_opened_29 : decode cX7_opened 29 = .ok (.getfield 161, 3) := by decide +kernel
theorem dX7_opened_32 : decode cX7_opened 32 = .ok (.istore_n 2, 1) := by decide +kernel
theorem dX7_opened_33 : decode cX7_opened 33 = .ok (.aload_n 0, 1) := by decide +kernel
theorem dX7_opened_34 : decode cX7_opened 34 = .ok (.invokevirtual 186, 3) := by decide +kernel
theorem dX7_opened_37 : decode cX7_opened 37 = .ok (.iconst 0, 1) := by decide +kernel
theorem dX7_opened_38 : decode cX7_opened 38 = .ok (.istore_n 3, 1) := by decide +kernel
theorem dX7_opened_39 : decode cX7_opened 39 = .ok (.iload_n 3, 1) := by decide +kernel
theorem dX7_opened_40 : decode cX7_opened 40 = .ok (.bipush 12, 2) := by decide +kernel
theorem dX7_opened_42 : decode cX7_opened 42 = .ok (.if_icmp .ge 19, 3) := by decide +kernel
theorem dX7_opened_45 : decode cX7_opened 45 = .ok (.aload_n 0, 1) := by decide +kernel
theorem dX7_opened_46 : decode cX7_opened 46 = .ok (.getfield 19, 3) := by decide +kernel
theorem dX7_opened_49 : decode cX7_opened 49 = .ok (.getfield 134, 3) := by decide +kernel
theorem dX7_opened_52 : decode cX7_opened 52 = .ok (.iload_n 3, 1) := by decide +kernel
theorem dX7_opened_53 : decode cX7_opened 53 = .ok (.iconst 0, 1) := by decide +kernel
theorem dX7_opened_54 : decode cX7_opened 54 = .ok (.iastore, 1) := by decide +kernel
theorem dX7_opened_55 : decode cX7_opened 55 = .ok (.iinc 3 1, 3) := by decide +kernel
theorem dX7_opened_58 : decode cX7_opened 58 = .ok (.goto (-19), 3) := by decide +kernel
theorem dX7_opened_61 : decode cX7_opened 61 = .ok (.aload_n 0, 1) := by decide +kernel
theorem dX7_opened_62 : decode cX7_opened 62 = .ok (.getfield 19, 3) := by decide +kernel
theorem dX7_opened_65 : decode cX7_opened 65 = .ok (.iload_n 1, 1) := by decide +kernel
theorem dX7_opened_66 : decode cX7_opened 66 = .ok (.invokevirtual 167, 3) := by decide +kernel
theorem dX7_opened_69 : decode cX7_opened 69 = .ok (.aload_n 0, 1) := by decide +kernel
theorem dX7_opened_70 : decode cX7_opened 70 = .ok (.getfield 19, 3) := by decide +kernel
theorem dX7_opened_73 : decode cX7_opened 73 = .ok (.getfield 161, 3) := by decide +kernel
theorem dX7_opened_76 : decode cX7_opened 76 = .ok (.iload_n 2, 1) := by decide +kernel
theorem dX7_opened_77 : decode cX7_opened 77 = .ok (.isub, 1) := by decide +kernel
theorem dX7_opened_78 : decode cX7_opened 78 = .ok (.ireturn, 1) := by decide +kernel
theorem dX7_rolled_0 : decode cX7_rolled 0 = .ok (.aload_n 0, 1) := by decide +kernel
theorem dX7_rolled_1 : decode cX7_rolled 1 = .ok (.getfield 10, 3) := by decide +kernel
theorem dX7_rolled_4 : decode cX7_rolled 4 = .ok (.iload_n 1, 1) := by decide +kernel
theorem dX7_rolled_5 : decode cX7_rolled 5 = .ok (.invokevirtual 77, 3) := by decide +kernel
theorem dX7_rolled_8 : decode cX7_rolled 8 = .ok (.ifCond .eq 13, 3) := by decide +kernel
theorem dX7_rolled_11 : decode cX7_rolled 11 = .ok (.iload_n 2, 1) := by decide +kernel
theorem dX7_rolled_12 : decode cX7_rolled 12 = .ok (.iconst 1, 1) := by decide +kernel
theorem dX7_rolled_13 : decode cX7_rolled 13 = .ok (.bipush 40, 2) := by decide +kernel
theorem dX7_rolled_15 : decode cX7_rolled 15 = .ok (.invokestatic 128, 3) := by decide +kernel
theorem dX7_rolled_18 : decode cX7_rolled 18 = .ok (.ifCond .ne 6, 3) := by decide +kernel
theorem dX7_rolled_21 : decode cX7_rolled 21 = .ok (.ldc 68, 2) := by decide +kernel
theorem dX7_rolled_23 : decode cX7_rolled 23 = .ok (.ireturn, 1) := by decide +kernel
theorem dX7_rolled_24 : decode cX7_rolled 24 = .ok (.aload_n 0, 1) := by decide +kernel
theorem dX7_rolled_25 : decode cX7_rolled 25 = .ok (.getfield 10, 3) := by decide +kernel
theorem dX7_rolled_28 : decode cX7_rolled 28 = .ok (.getfield 80, 3) := by decide +kernel
theorem dX7_rolled_31 : decode cX7_rolled 31 = .ok (.iload_n 1, 1) := by decide +kernel
theorem dX7_rolled_32 : decode cX7_rolled 32 = .ok (.aaload, 1) := by decide +kernel
theorem dX7_rolled_33 : decode cX7_rolled 33 = .ok (.getfield 95, 3) := by decide +kernel
theorem dX7_rolled_36 : decode cX7_rolled 36 = .ok (.bipush 13, 2) := by decide +kernel
theorem dX7_rolled_38 : decode cX7_rolled 38 = .ok (.if_icmp .eq 6, 3) := by decide +kernel
theorem dX7_rolled_41 : decode cX7_rolled 41 = .ok (.ldc 127, 2) := by decide +kernel
theorem dX7_rolled_43 : decode cX7_rolled 43 = .ok (.ireturn, 1) := by decide +kernel
theorem dX7_rolled_44 : decode cX7_rolled 44 = .ok (.ldc 192, 2) := by decide +kernel
theorem dX7_rolled_46 : decode cX7_rolled 46 = .ok (.istore_n 3, 1) := by decide +kernel
theorem dX7_rolled_47 : decode cX7_rolled 47 = .ok (.aload_n 0, 1) := by decide +kernel
theorem dX7_rolled_48 : decode cX7_rolled 48 = .ok (.invokevirtual 186, 3) := by decide +kernel
theorem dX7_rolled_51 : decode cX7_rolled 51 = .ok (.iconst 0, 1) := by decide +kernel
theorem dX7_rolled_52 : decode cX7_rolled 52 = .ok (.istore 4, 2) := by decide +kernel
theorem dX7_rolled_54 : decode cX7_rolled 54 = .ok (.iload 4, 2) := by decide +kernel
theorem dX7_rolled_56 : decode cX7_rolled 56 = .ok (.iload_n 2, 1) := by decide +kernel
theorem dX7_rolled_57 : decode cX7_rolled 57 = .ok (.if_icmp .ge 71, 3) := by decide +kernel
theorem dX7_rolled_60 : decode cX7_rolled 60 = .ok (.aload_n 0, 1) := by decide +kernel
theorem dX7_rolled_61 : decode cX7_rolled 61 = .ok (.getfield 22, 3) := by decide +kernel
theorem dX7_rolled_64 : decode cX7_rolled 64 = .ok (.aload_n 0, 1) := by decide +kernel
theorem dX7_rolled_65 : decode cX7_rolled 65 = .ok (.getfield 19, 3) := by decide +kernel
theorem dX7_rolled_68 : decode cX7_rolled 68 = .ok (.invokevirtual 200, 3) := by decide +kernel
theorem dX7_rolled_71 : decode cX7_rolled 71 = .ok (.aload_n 0, 1) := by decide +kernel
theorem dX7_rolled_72 : decode cX7_rolled 72 = .ok (.getfield 22, 3) := by decide +kernel
theorem dX7_rolled_75 : decode cX7_rolled 75 = .ok (.getfield 80, 3) := by decide +kernel
theorem dX7_rolled_78 : decode cX7_rolled 78 = .ok (.iload_n 1, 1) := by decide +kernel
theorem dX7_rolled_79 : decode cX7_rolled 79 = .ok (.aaload, 1) := by decide +kernel
theorem dX7_rolled_80 : decode cX7_rolled 80 = .ok (.iconst 0, 1) := by decide +kernel
theorem dX7_rolled_81 : decode cX7_rolled 81 = .ok (.putfield 95, 3) := by decide +kernel
theorem dX7_rolled_84 : decode cX7_rolled 84 = .ok (.aload_n 0, 1) := by decide +kernel
theorem dX7_rolled_85 : decode cX7_rolled 85 = .ok (.getfield 22, 3) := by decide +kernel
theorem dX7_rolled_88 : decode cX7_rolled 88 = .ok (.iload_n 2, 1) := by decide +kernel
theorem dX7_rolled_89 : decode cX7_rolled 89 = .ok (.iload 4, 2) := by decide +kernel
theorem dX7_rolled_91 : decode cX7_rolled 91 = .ok (.isub, 1) := by decide +kernel
theorem dX7_rolled_92 : decode cX7_rolled 92 = .ok (.invokevirtual 167, 3) := by decide +kernel
theorem dX7_rolled_95 : decode cX7_rolled 95 = .ok (.aload_n 0, 1) := by decide +kernel
theorem dX7_rolled_96 : decode cX7_rolled 96 = .ok (.getfield 22, 3) := by decide +kernel
theorem dX7_rolled_99 : decode cX7_rolled 99 = .ok (.getfield 80, 3) := by decide +kernel
theorem dX7_rolled_102 : decode cX7_rolled 102 = .ok (.iload_n 1, 1) := by decide +kernel
theorem dX7_rolled_103 : decode cX7_rolled 103 = .ok (.aaload, 1) := by decide +kernel
theorem dX7_rolled_104 : decode cX7_rolled 104 = .ok (.getfield 95, 3) := by decide +kernel
theorem dX7_rolled_107 : decode cX7_rolled 107 = .ok (.bipush 12, 2) := by decide +kernel
theorem dX7_rolled_109 : decode cX7_rolled 109 = .ok (.if_icmp .ne 6, 3) := by decide +kernel
theorem dX7_rolled_112 : decode cX7_rolled 112 = .ok (.iload 4, 2) := by decide +kernel
theorem dX7_rolled_114 : decode cX7_rolled 114 = .ok (.istore_n 3, 1) := by decide +kernel
theorem dX7_rolled_115 : decode cX7_rolled 115 = .ok (.aload_n 0, 1) := by decide +kernel
theorem dX7_rolled_116 : decode cX7_rolled 116 = .ok (.getfield 19, 3) := by decide +kernel
theorem dX7_rolled_119 : decode cX7_rolled 119 = .ok (.invokevirtual 189, 3) := by decide +kernel
theorem dX7_rolled_122 : decode cX7_rolled 122 = .ok (.iinc 4 1, 3) := by decide +kernel
theorem dX7_rolled_125 : decode cX7_rolled 125 = .ok (.goto (-71), 3) := by decide +kernel
theorem dX7_rolled_128 : decode cX7_rolled 128 = .ok (.iload_n 3, 1) := by decide +kernel
theorem dX7_rolled_129 : decode cX7_rolled 129 = .ok (.ireturn, 1) := by decide +kernel
theorem dX7_looked_0 : decode cX7_looked 0 = .ok (.iload_n 1, 1) := by decide +kernel
theorem dX7_looked_1 : decode cX7_looked 1 = .ok (.invokestatic 204, 3) := by decide +kernel
theorem dX7_looked_4 : decode cX7_looked 4 = .ok (.ifCond .eq 23, 3) := by decide +kernel
theorem dX7_looked_7 : decode cX7_looked 7 = .ok (.aload_n 0, 1) := by decide +kernel
theorem dX7_looked_8 : decode cX7_looked 8 = .ok (.getfield 10, 3) := by decide +kernel
theorem dX7_looked_11 : decode cX7_looked 11 = .ok (.iload_n 2, 1) := by decide +kernel
theorem dX7_looked_12 : decode cX7_looked 12 = .ok (.invokevirtual 77, 3) := by decide +kernel
theorem dX7_looked_15 : decode cX7_looked 15 = .ok (.ifCond .eq 12, 3) := by decide +kernel
theorem dX7_looked_18 : decode cX7_looked 18 = .ok (.iload_n 3, 1) := by decide +kernel
theorem dX7_looked_19 : decode cX7_looked 19 = .ok (.iconst 0, 1) := by decide +kernel
theorem dX7_looked_20 : decode cX7_looked 20 = .ok (.iconst 1, 1) := by decide +kernel
theorem dX7_looked_21 : decode cX7_looked 21 = .ok (.invokestatic 128, 3) := by decide +kernel
theorem dX7_looked_24 : decode cX7_looked 24 = .ok (.ifCond .ne 6, 3) := by decide +kernel
theorem dX7_looked_27 : decode cX7_looked 27 = .ok (.ldc 68, 2) := by decide +kernel
theorem dX7_looked_29 : decode cX7_looked 29 = .ok (.ireturn, 1) := by decide +kernel
theorem dX7_looked_30 : decode cX7_looked 30 = .ok (.aload_n 0, 1) := by decide +kernel
theorem dX7_looked_31 : decode cX7_looked 31 = .ok (.getfield 34, 3) := by decide +kernel
theorem dX7_looked_34 : decode cX7_looked 34 = .ok (.iload_n 1, 1) := by decide +kernel
theorem dX7_looked_35 : decode cX7_looked 35 = .ok (.aaload, 1) := by decide +kernel
theorem dX7_looked_36 : decode cX7_looked 36 = .ok (.invokevirtual 207, 3) := by decide +kernel
theorem dX7_looked_39 : decode cX7_looked 39 = .ok (.ifCond .eq 6, 3) := by decide +kernel
theorem dX7_looked_42 : decode cX7_looked 42 = .ok (.ldc 210, 2) := by decide +kernel
theorem dX7_looked_44 : decode cX7_looked 44 = .ok (.ireturn, 1) := by decide +kernel
theorem dX7_looked_45 : decode cX7_looked 45 = .ok (.iconst 1, 1) := by decide +kernel
theorem dX7_looked_46 : decode cX7_looked 46 = .ok (.istore 4, 2) := by decide +kernel
theorem dX7_looked_48 : decode cX7_looked 48 = .ok (.aload_n 0, 1) := by decide +kernel
theorem dX7_looked_49 : decode cX7_looked 49 = .ok (.aload_n 0, 1) := by decide +kernel
theorem dX7_looked_50 : decode cX7_looked 50 = .ok (.getfield 34, 3) := by decide +kernel
theorem dX7_looked_53 : decode cX7_looked 53 = .ok (.iload_n 1, 1) := by decide +kernel
theorem dX7_looked_54 : decode cX7_looked 54 = .ok (.aaload, 1) := by decide +kernel
theorem dX7_looked_55 : decode cX7_looked 55 = .ok (.iload_n 2, 1) := by decide +kernel
theorem dX7_looked_56 : decode cX7_looked 56 = .ok (.iload 4, 2) := by decide +kernel
theorem dX7_looked_58 : decode cX7_looked 58 = .ok (.invokevirtual 211, 3) := by decide +kernel
theorem dX7_looked_61 : decode cX7_looked 61 = .ok (.istore 5, 2) := by decide +kernel
theorem dX7_looked_63 : decode cX7_looked 63 = .ok (.bipush 6, 2) := by decide +kernel
theorem dX7_looked_65 : decode cX7_looked 65 = .ok (.istore 6, 2) := by decide +kernel
theorem dX7_looked_67 : decode cX7_looked 67 = .ok (.iload 6, 2) := by decide +kernel
theorem dX7_looked_69 : decode cX7_looked 69 = .ok (.bipush 46, 2) := by decide +kernel
theorem dX7_looked_71 : decode cX7_looked 71 = .ok (.if_icmp .gt 39, 3) := by decide +kernel
theorem dX7_looked_74 : decode cX7_looked 74 = .ok (.aload_n 0, 1) := by decide +kernel
theorem dX7_looked_75 : decode cX7_looked 75 = .ok (.aload_n 0, 1) := by decide +kernel
theorem dX7_looked_76 : decode cX7_looked 76 = .ok (.getfield 34, 3) := by decide +kernel
theorem dX7_looked_79 : decode cX7_looked 79 = .ok (.iload_n 1, 1) := by decide +kernel
theorem dX7_looked_80 : decode cX7_looked 80 = .ok (.aaload, 1) := by decide +kernel
theorem dX7_looked_81 : decode cX7_looked 81 = .ok (.iload_n 2, 1) := by decide +kernel
theorem dX7_looked_82 : decode cX7_looked 82 = .ok (.iload 6, 2) := by decide +kernel
theorem dX7_looked_84 : decode cX7_looked 84 = .ok (.invokevirtual 211, 3) := by decide +kernel
theorem dX7_looked_87 : decode cX7_looked 87 = .ok (.istore 7, 2) := by decide +kernel
theorem dX7_looked_89 : decode cX7_looked 89 = .ok (.iload 7, 2) := by decide +kernel
theorem dX7_looked_91 : decode cX7_looked 91 = .ok (.iload 5, 2) := by decide +kernel
theorem dX7_looked_93 : decode cX7_looked 93 = .ok (.if_icmp .ge 11, 3) := by decide +kernel
theorem dX7_looked_96 : decode cX7_looked 96 = .ok (.iload 6, 2) := by decide +kernel
theorem dX7_looked_98 : decode cX7_looked 98 = .ok (.istore 4, 2) := by decide +kernel
theorem dX7_looked_100 : decode cX7_looked 100 = .ok (.iload 7, 2) := by decide +kernel
theorem dX7_looked_102 : decode cX7_looked 102 = .ok (.istore 5, 2) := by decide +kernel
theorem dX7_looked_104 : decode cX7_looked 104 = .ok (.iinc 6 5, 3) := by decide +kernel
theorem dX7_looked_107 : decode cX7_looked 107 = .ok (.goto (-40), 3) := by decide +kernel
theorem dX7_looked_110 : decode cX7_looked 110 = .ok (.iload_n 3, 1) := by decide +kernel
theorem dX7_looked_111 : decode cX7_looked 111 = .ok (.ifCond .ne 8, 3) := by decide +kernel
theorem dX7_looked_114 : decode cX7_looked 114 = .ok (.iload 4, 2) := by decide +kernel
theorem dX7_looked_116 : decode cX7_looked 116 = .ok (.goto 5, 3) := by decide +kernel
theorem dX7_looked_119 : decode cX7_looked 119 = .ok (.iload 5, 2) := by decide +kernel
theorem dX7_looked_121 : decode cX7_looked 121 = .ok (.ireturn, 1) := by decide +kernel
theorem dX7_fee_0 : decode cX7_fee 0 = .ok (.aload_n 0, 1) := by decide +kernel
theorem dX7_fee_1 : decode cX7_fee 1 = .ok (.getfield 10, 3) := by decide +kernel
theorem dX7_fee_4 : decode cX7_fee 4 = .ok (.iconst 1, 1) := by decide +kernel
theorem dX7_fee_5 : decode cX7_fee 5 = .ok (.invokevirtual 101, 3) := by decide +kernel
theorem dX7_fee_8 : decode cX7_fee 8 = .ok (.astore_n 1, 1) := by decide +kernel
theorem dX7_fee_9 : decode cX7_fee 9 = .ok (.aload_n 1, 1) := by decide +kernel
theorem dX7_fee_10 : decode cX7_fee 10 = .ok (.ifnonnull 13, 3) := by decide +kernel
theorem dX7_fee_13 : decode cX7_fee 13 = .ok (.aload_n 0, 1) := by decide +kernel
theorem dX7_fee_14 : decode cX7_fee 14 = .ok (.getfield 10, 3) := by decide +kernel
theorem dX7_fee_17 : decode cX7_fee 17 = .ok (.getfield 180, 3) := by decide +kernel
theorem dX7_fee_20 : decode cX7_fee 20 = .ok (.goto 22, 3) := by decide +kernel
theorem dX7_fee_23 : decode cX7_fee 23 = .ok (.aload_n 1, 1) := by decide +kernel
theorem dX7_fee_24 : decode cX7_fee 24 = .ok (.aload_n 0, 1) := by decide +kernel
theorem dX7_fee_25 : decode cX7_fee 25 = .ok (.getfield 10, 3) := by decide +kernel
theorem dX7_fee_28 : decode cX7_fee 28 = .ok (.getfield 180, 3) := by decide +kernel
theorem dX7_fee_31 : decode cX7_fee 31 = .ok (.aload_n 0, 1) := by decide +kernel
theorem dX7_fee_32 : decode cX7_fee 32 = .ok (.getfield 10, 3) := by decide +kernel
theorem dX7_fee_35 : decode cX7_fee 35 = .ok (.getfield 164, 3) := by decide +kernel
theorem dX7_fee_38 : decode cX7_fee 38 = .ok (.iconst 0, 1) := by decide +kernel
theorem dX7_fee_39 : decode cX7_fee 39 = .ok (.invokevirtual 215, 3) := by decide +kernel
theorem dX7_fee_42 : decode cX7_fee 42 = .ok (.ireturn, 1) := by decide +kernel
theorem dX7_fine_0 : decode cX7_fine 0 = .ok (.aload_n 0, 1) := by decide +kernel
theorem dX7_fine_1 : decode cX7_fine 1 = .ok (.getfield 10, 3) := by decide +kernel
theorem dX7_fine_4 : decode cX7_fine 4 = .ok (.iload_n 1, 1) := by decide +kernel
theorem dX7_fine_5 : decode cX7_fine 5 = .ok (.invokevirtual 77, 3) := by decide +kernel
theorem dX7_fine_8 : decode cX7_fine 8 = .ok (.ifCond .ne 6, 3) := by decide +kernel
theorem dX7_fine_11 : decode cX7_fine 11 = .ok (.ldc 68, 2) := by decide +kernel
theorem dX7_fine_13 : decode cX7_fine 13 = .ok (.ireturn, 1) := by decide +kernel
theorem dX7_fine_14 : decode cX7_fine 14 = .ok (.aload_n 0, 1) := by decide +kernel
theorem dX7_fine_15 : decode cX7_fine 15 = .ok (.getfield 10, 3) := by decide +kernel
theorem dX7_fine_18 : decode cX7_fine 18 = .ok (.getfield 80, 3) := by decide +kernel
theorem dX7_fine_21 : decode cX7_fine 21 = .ok (.iload_n 1, 1) := by decide +kernel
theorem dX7_fine_22 : decode cX7_fine 22 = .ok (.aaload, 1) := by decide +kernel
theorem dX7_fine_23 : decode cX7_fine 23 = .ok (.astore_n 2, 1) := by decide +kernel
theorem dX7_fine_24 : decode cX7_fine 24 = .ok (.aload_n 0, 1) := by decide +kernel
theorem dX7_fine_25 : decode cX7_fine 25 = .ok (.getfield 10, 3) := by decide +kernel
theorem dX7_fine_28 : decode cX7_fine 28 = .ok (.iconst 2, 1) := by decide +kernel
theorem dX7_fine_29 : decode cX7_fine 29 = .ok (.invokevirtual 101, 3) := by decide +kernel
theorem dX7_fine_32 : decode cX7_fine 32 = .ok (.astore_n 3, 1) := by decide +kernel
theorem dX7_fine_33 : decode cX7_fine 33 = .ok (.aload_n 3, 1) := by decide +kernel
theorem dX7_fine_34 : decode cX7_fine 34 = .ok (.ifnonnull 10, 3) := by decide +kernel
theorem dX7_fine_37 : decode cX7_fine 37 = .ok (.aload_n 2, 1) := by decide +kernel
theorem dX7_fine_38 : decode cX7_fine 38 = .ok (.getfield 89, 3) := by decide +kernel
theorem dX7_fine_41 : decode cX7_fine 41 = .ok (.goto 16, 3) := by decide +kernel
theorem dX7_fine_44 : decode cX7_fine 44 = .ok (.aload_n 3, 1) := by decide +kernel
theorem dX7_fine_45 : decode cX7_fine 45 = .ok (.aload_n 2, 1) := by decide +kernel
theorem dX7_fine_46 : decode cX7_fine 46 = .ok (.getfield 89, 3) := by decide +kernel
theorem dX7_fine_49 : decode cX7_fine 49 = .ok (.aload_n 2, 1) := by decide +kernel
theorem dX7_fine_50 : decode cX7_fine 50 = .ok (.getfield 92, 3) := by decide +kernel
theorem dX7_fine_53 : decode cX7_fine 53 = .ok (.iconst 0, 1) := by decide +kernel
theorem dX7_fine_54 : decode cX7_fine 54 = .ok (.invokevirtual 215, 3) := by decide +kernel
theorem dX7_fine_57 : decode cX7_fine 57 = .ok (.ireturn, 1) := by decide +kernel
theorem dX7_feed_0 : decode cX7_feed 0 = .ok (.aload_n 0, 1) := by decide +kernel
theorem dX7_feed_1 : decode cX7_feed 1 = .ok (.getfield 28, 3) := by decide +kernel
theorem dX7_feed_4 : decode cX7_feed 4 = .ok (.getfield 221, 3) := by decide +kernel
theorem dX7_feed_7 : decode cX7_feed 7 = .ok (.astore 4, 2) := by decide +kernel
theorem dX7_feed_9 : decode cX7_feed 9 = .ok (.aload 4, 2) := by decide +kernel
theorem dX7_feed_11 : decode cX7_feed 11 = .ok (.getfield 225, 3) := by decide +kernel
theorem dX7_feed_14 : decode cX7_feed 14 = .ok (.bipush 84, 2) := by decide +kernel
theorem dX7_feed_16 : decode cX7_feed 16 = .ok (.if_icmp .le 6, 3) := by decide +kernel
theorem dX7_feed_19 : decode cX7_feed 19 = .ok (.ldc 76, 2) := by decide +kernel
theorem dX7_feed_21 : decode cX7_feed 21 = .ok (.ireturn, 1) := by decide +kernel
theorem dX7_feed_22 : decode cX7_feed 22 = .ok (.aload 4, 2) := by decide +kernel
theorem dX7_feed_24 : decode cX7_feed 24 = .ok (.iload_n 1, 1) := by decide +kernel
theorem dX7_feed_25 : decode cX7_feed 25 = .ok (.invokevirtual 230, 3) := by decide +kernel
theorem dX7_feed_28 : decode cX7_feed 28 = .ok (.aload 4, 2) := by decide +kernel
theorem dX7_feed_30 : decode cX7_feed 30 = .ok (.iload_n 2, 1) := by decide +kernel
theorem dX7_feed_31 : decode cX7_feed 31 = .ok (.invokevirtual 230, 3) := by decide +kernel
theorem dX7_feed_34 : decode cX7_feed 34 = .ok (.aload 4, 2) := by decide +kernel
theorem dX7_feed_36 : decode cX7_feed 36 = .ok (.iload_n 3, 1) := by decide +kernel
theorem dX7_feed_37 : decode cX7_feed 37 = .ok (.invokevirtual 230, 3) := by decide +kernel
theorem dX7_feed_40 : decode cX7_feed 40 = .ok (.aload 4, 2) := by decide +kernel
theorem dX7_feed_42 : decode cX7_feed 42 = .ok (.getfield 225, 3) := by decide +kernel
theorem dX7_feed_45 : decode cX7_feed 45 = .ok (.ireturn, 1) := by decide +kernel
theorem dX7_trim_0 : decode cX7_trim 0 = .ok (.iload_n 1, 1) := by decide +kernel
theorem dX7_trim_1 : decode cX7_trim 1 = .ok (.iconst 0, 1) := by decide +kernel
theorem dX7_trim_2 : decode cX7_trim 2 = .ok (.aload_n 0, 1) := by decide +kernel
theorem dX7_trim_3 : decode cX7_trim 3 = .ok (.getfield 28, 3) := by decide +kernel
theorem dX7_trim_6 : decode cX7_trim 6 = .ok (.getfield 221, 3) := by decide +kernel
theorem dX7_trim_9 : decode cX7_trim 9 = .ok (.getfield 225, 3) := by decide +kernel
theorem dX7_trim_12 : decode cX7_trim 12 = .ok (.invokestatic 128, 3) := by decide +kernel
theorem dX7_trim_15 : decode cX7_trim 15 = .ok (.ifCond .ne 6, 3) := by decide +kernel
theorem dX7_trim_18 : decode cX7_trim 18 = .ok (.ldc 68, 2) := by decide +kernel
theorem dX7_trim_20 : decode cX7_trim 20 = .ok (.ireturn, 1) := by decide +kernel
theorem dX7_trim_21 : decode cX7_trim 21 = .ok (.aload_n 0, 1) := by decide +kernel
theorem dX7_trim_22 : decode cX7_trim 22 = .ok (.getfield 28, 3) := by decide +kernel
theorem dX7_trim_25 : decode cX7_trim 25 = .ok (.getfield 221, 3) := by decide +kernel
theorem dX7_trim_28 : decode cX7_trim 28 = .ok (.iload_n 1, 1) := by decide +kernel
theorem dX7_trim_29 : decode cX7_trim 29 = .ok (.putfield 225, 3) := by decide +kernel
theorem dX7_trim_32 : decode cX7_trim 32 = .ok (.iload_n 1, 1) := by decide +kernel
theorem dX7_trim_33 : decode cX7_trim 33 = .ok (.ireturn, 1) := by decide +kernel
theorem dX7_text_0 : decode cX7_text 0 = .ok (.aload_n 0, 1) := by decide +kernel
theorem dX7_text_1 : decode cX7_text 1 = .ok (.getfield 28, 3) := by decide +kernel
theorem dX7_text_4 : decode cX7_text 4 = .ok (.invokevirtual 233, 3) := by decide +kernel
theorem dX7_text_7 : decode cX7_text 7 = .ok (.astore_n 1, 1) := by decide +kernel
theorem dX7_text_8 : decode cX7_text 8 = .ok (.aload_n 0, 1) := by decide +kernel
theorem dX7_text_9 : decode cX7_text 9 = .ok (.getfield 28, 3) := by decide +kernel
theorem dX7_text_12 : decode cX7_text 12 = .ok (.getfield 221, 3) := by decide +kernel
theorem dX7_text_15 : decode cX7_text 15 = .ok (.iconst 0, 1) := by decide +kernel
theorem dX7_text_16 : decode cX7_text 16 = .ok (.putfield 225, 3) := by decide +kernel
theorem dX7_text_19 : decode cX7_text 19 = .ok (.aload_n 1, 1) := by decide +kernel
theorem dX7_text_20 : decode cX7_text 20 = .ok (.ifnonnull 14, 3) := by decide +kernel
theorem dX7_text_23 : decode cX7_text 23 = .ok (.bipush (-100), 2) := by decide +kernel
theorem dX7_text_25 : decode cX7_text 25 = .ok (.aload_n 0, 1) := by decide +kernel
theorem dX7_text_26 : decode cX7_text 26 = .ok (.getfield 28, 3) := by decide +kernel
theorem dX7_text_29 : decode cX7_text 29 = .ok (.getfield 237, 3) := by decide +kernel
theorem dX7_text_32 : decode cX7_text 32 = .ok (.isub, 1) := by decide +kernel
theorem dX7_text_33 : decode cX7_text 33 = .ok (.ireturn, 1) := by decide +kernel
theorem dX7_text_34 : decode cX7_text 34 = .ok (.aload_n 0, 1) := by decide +kernel
theorem dX7_text_35 : decode cX7_text 35 = .ok (.getfield 10, 3) := by decide +kernel
theorem dX7_text_38 : decode cX7_text 38 = .ok (.aload_n 1, 1) := by decide +kernel
theorem dX7_text_39 : decode cX7_text 39 = .ok (.invokevirtual 240, 3) := by decide +kernel
theorem dX7_text_42 : decode cX7_text 42 = .ok (.ifCond .eq 15, 3) := by decide +kernel
theorem dX7_text_45 : decode cX7_text 45 = .ok (.aload_n 0, 1) := by decide +kernel
theorem dX7_text_46 : decode cX7_text 46 = .ok (.getfield 10, 3) := by decide +kernel
theorem dX7_text_49 : decode cX7_text 49 = .ok (.getfield 244, 3) := by decide +kernel
theorem dX7_text_52 : decode cX7_text 52 = .ok (.iconst 1, 1) := by decide +kernel
theorem dX7_text_53 : decode cX7_text 53 = .ok (.isub, 1) := by decide +kernel
theorem dX7_text_54 : decode cX7_text 54 = .ok (.goto 5, 3) := by decide +kernel
theorem dX7_text_57 : decode cX7_text 57 = .ok (.ldc 76, 2) := by decide +kernel
theorem dX7_text_59 : decode cX7_text 59 = .ok (.ireturn, 1) := by decide +kernel
theorem dX7_textTold_0 : decode cX7_textTold 0 = .ok (.aload_n 0, 1) := by decide +kernel
theorem dX7_textTold_1 : decode cX7_textTold 1 = .ok (.getfield 10, 3) := by decide +kernel
theorem dX7_textTold_4 : decode cX7_textTold 4 = .ok (.iload_n 1, 1) := by decide +kernel
theorem dX7_textTold_5 : decode cX7_textTold 5 = .ok (.invokevirtual 247, 3) := by decide +kernel
theorem dX7_textTold_8 : decode cX7_textTold 8 = .ok (.astore_n 3, 1) := by decide +kernel
theorem dX7_textTold_9 : decode cX7_textTold 9 = .ok (.aload_n 3, 1) := by decide +kernel
theorem dX7_textTold_10 : decode cX7_textTold 10 = .ok (.ifnull 12, 3) := by decide +kernel
theorem dX7_textTold_13 : decode cX7_textTold 13 = .ok (.iload_n 2, 1) := by decide +kernel
theorem dX7_textTold_14 : decode cX7_textTold 14 = .ok (.iconst 0, 1) := by decide +kernel
theorem dX7_textTold_15 : decode cX7_textTold 15 = .ok (.iconst 1, 1) := by decide +kernel
theorem dX7_textTold_16 : decode cX7_textTold 16 = .ok (.invokestatic 128, 3) := by decide +kernel
theorem dX7_textTold_19 : decode cX7_textTold 19 = .ok (.ifCond .ne 6, 3) := by decide +kernel
theorem dX7_textTold_22 : decode cX7_textTold 22 = .ok (.ldc 68, 2) := by decide +kernel
theorem dX7_textTold_24 : decode cX7_textTold 24 = .ok (.ireturn, 1) := by decide +kernel
theorem dX7_textTold_25 : decode cX7_textTold 25 = .ok (.iload_n 2, 1) := by decide +kernel
theorem dX7_textTold_26 : decode cX7_textTold 26 = .ok (.ifCond .ne 10, 3) := by decide +kernel
theorem dX7_textTold_29 : decode cX7_textTold 29 = .ok (.aload_n 3, 1) := by decide +kernel
theorem dX7_textTold_30 : decode cX7_textTold 30 = .ok (.getfield 250, 3) := by decide +kernel
theorem dX7_textTold_33 : decode cX7_textTold 33 = .ok (.goto 7, 3) := by decide +kernel
theorem dX7_textTold_36 : decode cX7_textTold 36 = .ok (.aload_n 3, 1) := by decide +kernel
theorem dX7_textTold_37 : decode cX7_textTold 37 = .ok (.getfield 253, 3) := by decide +kernel
theorem dX7_textTold_40 : decode cX7_textTold 40 = .ok (.ireturn, 1) := by decide +kernel
theorem dX7_why_0 : decode cX7_why 0 = .ok (.iload_n 1, 1) := by decide +kernel
theorem dX7_why_1 : decode cX7_why 1 = .ok (.iconst 0, 1) := by decide +kernel
theorem dX7_why_2 : decode cX7_why 2 = .ok (.iconst 2, 1) := by decide +kernel
theorem dX7_why_3 : decode cX7_why 3 = .ok (.invokestatic 128, 3) := by decide +kernel
theorem dX7_why_6 : decode cX7_why 6 = .ok (.ifCond .ne 6, 3) := by decide +kernel
theorem dX7_why_9 : decode cX7_why 9 = .ok (.ldc 68, 2) := by decide +kernel
theorem dX7_why_11 : decode cX7_why 11 = .ok (.ireturn, 1) := by decide +kernel
theorem dX7_why_12 : decode cX7_why 12 = .ok (.aload_n 0, 1) := by decide +kernel
theorem dX7_why_13 : decode cX7_why 13 = .ok (.getfield 10, 3) := by decide +kernel
theorem dX7_why_16 : decode cX7_why 16 = .ok (.iload_n 1, 1) := by decide +kernel
theorem dX7_why_17 : decode cX7_why 17 = .ok (.invokevirtual 256, 3) := by decide +kernel
theorem dX7_why_20 : decode cX7_why 20 = .ok (.ireturn, 1) := by decide +kernel
theorem dX7_sheet_0 : decode cX7_sheet 0 = .ok (.iload_n 1, 1) := by decide +kernel
theorem dX7_sheet_1 : decode cX7_sheet 1 = .ok (.invokestatic 204, 3) := by decide +kernel
theorem dX7_sheet_4 : decode cX7_sheet 4 = .ok (.ifCond .eq 23, 3) := by decide +kernel
theorem dX7_sheet_7 : decode cX7_sheet 7 = .ok (.iload_n 2, 1) := by decide +kernel
theorem dX7_sheet_8 : decode cX7_sheet 8 = .ok (.iconst (-1), 1) := by decide +kernel
theorem dX7_sheet_9 : decode cX7_sheet 9 = .ok (.iconst 1, 1) := by decide +kernel
theorem dX7_sheet_10 : decode cX7_sheet 10 = .ok (.invokestatic 128, 3) := by decide +kernel
theorem dX7_sheet_13 : decode cX7_sheet 13 = .ok (.ifCond .eq 14, 3) := by decide +kernel
theorem dX7_sheet_16 : decode cX7_sheet 16 = .ok (.iload_n 2, 1) := by decide +kernel
theorem dX7_sheet_17 : decode cX7_sheet 17 = .ok (.iconst (-1), 1) := by decide +kernel
theorem dX7_sheet_18 : decode cX7_sheet 18 = .ok (.if_icmp .eq 12, 3) := by decide +kernel
theorem dX7_sheet_21 : decode cX7_sheet 21 = .ok (.iload_n 3, 1) := by decide +kernel
theorem dX7_sheet_22 : decode cX7_sheet 22 = .ok (.bipush 24, 2) := by decide +kernel
theorem dX7_sheet_24 : decode cX7_sheet 24 = .ok (.if_icmp .le 6, 3) := by decide +kernel
theorem dX7_sheet_27 : decode cX7_sheet 27 = .ok (.ldc 68, 2) := by decide +kernel
theorem dX7_sheet_29 : decode cX7_sheet 29 = .ok (.ireturn, 1) := by decide +kernel
theorem dX7_sheet_30 : decode cX7_sheet 30 = .ok (.iload_n 2, 1) := by decide +kernel
theorem dX7_sheet_31 : decode cX7_sheet 31 = .ok (.iconst (-1), 1) := by decide +kernel
theorem dX7_sheet_32 : decode cX7_sheet 32 = .ok (.if_icmp .eq 11, 3) := by decide +kernel
theorem dX7_sheet_35 : decode cX7_sheet 35 = .ok (.iload_n 3, 1) := by decide +kernel
theorem dX7_sheet_36 : decode cX7_sheet 36 = .ok (.ifCond .ge 7, 3) := by decide +kernel
theorem dX7_sheet_39 : decode cX7_sheet 39 = .ok (.ldc_w 259, 3) := by decide +kernel
theorem dX7_sheet_42 : decode cX7_sheet 42 = .ok (.ireturn, 1) := by decide +kernel
theorem dX7_sheet_43 : decode cX7_sheet 43 = .ok (.aload_n 0, 1) := by decide +kernel
theorem dX7_sheet_44 : decode cX7_sheet 44 = .ok (.getfield 34, 3) := by decide +kernel
theorem dX7_sheet_47 : decode cX7_sheet 47 = .ok (.iload_n 1, 1) := by decide +kernel
theorem dX7_sheet_48 : decode cX7_sheet 48 = .ok (.aaload, 1) := by decide +kernel
theorem dX7_sheet_49 : decode cX7_sheet 49 = .ok (.iload_n 2, 1) := by decide +kernel
theorem dX7_sheet_50 : decode cX7_sheet 50 = .ok (.iload_n 2, 1) := by decide +kernel
theorem dX7_sheet_51 : decode cX7_sheet 51 = .ok (.iconst (-1), 1) := by decide +kernel
theorem dX7_sheet_52 : decode cX7_sheet 52 = .ok (.if_icmp .ne 7, 3) := by decide +kernel
theorem dX7_sheet_55 : decode cX7_sheet 55 = .ok (.iconst 0, 1) := by decide +kernel
theorem dX7_sheet_56 : decode cX7_sheet 56 = .ok (.goto 4, 3) := by decide +kernel
theorem dX7_sheet_59 : decode cX7_sheet 59 = .ok (.iload_n 3, 1) := by decide +kernel
theorem dX7_sheet_60 : decode cX7_sheet 60 = .ok (.invokevirtual 260, 3) := by decide +kernel
theorem dX7_sheet_63 : decode cX7_sheet 63 = .ok (.aload_n 0, 1) := by decide +kernel
theorem dX7_sheet_64 : decode cX7_sheet 64 = .ok (.getfield 34, 3) := by decide +kernel
theorem dX7_sheet_67 : decode cX7_sheet 67 = .ok (.iload_n 1, 1) := by decide +kernel
theorem dX7_sheet_68 : decode cX7_sheet 68 = .ok (.aaload, 1) := by decide +kernel
theorem dX7_sheet_69 : decode cX7_sheet 69 = .ok (.getfield 264, 3) := by decide +kernel
theorem dX7_sheet_72 : decode cX7_sheet 72 = .ok (.ireturn, 1) := by decide +kernel
theorem dX7_mark_0 : decode cX7_mark 0 = .ok (.iload_n 1, 1) := by decide +kernel
theorem dX7_mark_1 : decode cX7_mark 1 = .ok (.invokestatic 204, 3) := by decide +kernel
theorem dX7_mark_4 : decode cX7_mark 4 = .ok (.ifCond .ne 6, 3) := by decide +kernel
theorem dX7_mark_7 : decode cX7_mark 7 = .ok (.ldc 68, 2) := by decide +kernel
theorem dX7_mark_9 : decode cX7_mark 9 = .ok (.ireturn, 1) := by decide +kernel
theorem dX7_mark_10 : decode cX7_mark 10 = .ok (.aload_n 0, 1) := by decide +kernel
theorem dX7_mark_11 : decode cX7_mark 11 = .ok (.getfield 34, 3) := by decide +kernel
theorem dX7_mark_14 : decode cX7_mark 14 = .ok (.iload_n 1, 1) := by decide +kernel
theorem dX7_mark_15 : decode cX7_mark 15 = .ok (.aaload, 1) := by decide +kernel
theorem dX7_mark_16 : decode cX7_mark 16 = .ok (.astore 4, 2) := by decide +kernel
theorem dX7_mark_18 : decode cX7_mark 18 = .ok (.aload 4, 2) := by decide +kernel
theorem dX7_mark_20 : decode cX7_mark 20 = .ok (.invokevirtual 207, 3) := by decide +kernel
theorem dX7_mark_23 : decode cX7_mark 23 = .ok (.ifCond .eq 6, 3) := by decide +kernel
theorem dX7_mark_26 : decode cX7_mark 26 = .ok (.ldc 210, 2) := by decide +kernel
theorem dX7_mark_28 : decode cX7_mark 28 = .ok (.ireturn, 1) := by decide +kernel
theorem dX7_mark_29 : decode cX7_mark 29 = .ok (.aload 4, 2) := by decide +kernel
theorem dX7_mark_31 : decode cX7_mark 31 = .ok (.iload_n 2, 1) := by decide +kernel
theorem dX7_mark_32 : decode cX7_mark 32 = .ok (.invokevirtual 265, 3) := by decide +kernel
theorem dX7_mark_35 : decode cX7_mark 35 = .ok (.ifCond .ne 7, 3) := by decide +kernel
theorem dX7_mark_38 : decode cX7_mark 38 = .ok (.ldc_w 268, 3) := by decide +kernel
theorem dX7_mark_41 : decode cX7_mark 41 = .ok (.ireturn, 1) := by decide +kernel
theorem dX7_mark_42 : decode cX7_mark 42 = .ok (.aload 4, 2) := by decide +kernel
theorem dX7_mark_44 : decode cX7_mark 44 = .ok (.getfield 269, 3) := by decide +kernel
theorem dX7_mark_47 : decode cX7_mark 47 = .ok (.ifCond .ne 23, 3) := by decide +kernel
theorem dX7_mark_50 : decode cX7_mark 50 = .ok (.iload_n 3, 1) := by decide +kernel
theorem dX7_mark_51 : decode cX7_mark 51 = .ok (.ldc 192, 2) := by decide +kernel
theorem dX7_mark_53 : decode cX7_mark 53 = .ok (.if_icmp .ne 6, 3) := by decide +kernel
theorem dX7_mark_56 : decode cX7_mark 56 = .ok (.ldc 123, 2) := by decide +kernel
theorem dX7_mark_58 : decode cX7_mark 58 = .ok (.ireturn, 1) := by decide +kernel
theorem dX7_mark_59 : decode cX7_mark 59 = .ok (.aload 4, 2) := by decide +kernel
theorem dX7_mark_61 : decode cX7_mark 61 = .ok (.getfield 272, 3) := by decide +kernel
theorem dX7_mark_64 : decode cX7_mark 64 = .ok (.iload_n 2, 1) := by decide +kernel
theorem dX7_mark_65 : decode cX7_mark 65 = .ok (.iload_n 3, 1) := by decide +kernel
theorem dX7_mark_66 : decode cX7_mark 66 = .ok (.i2s, 1) := by decide +kernel
theorem dX7_mark_67 : decode cX7_mark 67 = .ok (.iastore, 1) := by decide +kernel
theorem dX7_mark_68 : decode cX7_mark 68 = .ok (.iconst 1, 1) := by decide +kernel
theorem dX7_mark_69 : decode cX7_mark 69 = .ok (.ireturn, 1) := by decide +kernel
theorem dX7_mark_70 : decode cX7_mark 70 = .ok (.iload_n 3, 1) := by decide +kernel
theorem dX7_mark_71 : decode cX7_mark 71 = .ok (.ldc 192, 2) := by decide +kernel
theorem dX7_mark_73 : decode cX7_mark 73 = .ok (.if_icmp .eq 19, 3) := by decide +kernel
theorem dX7_mark_76 : decode cX7_mark 76 = .ok (.iload_n 3, 1) := by decide +kernel
theorem dX7_mark_77 : decode cX7_mark 77 = .ok (.ldc_w 275, 3) := by decide +kernel
theorem dX7_mark_80 : decode cX7_mark 80 = .ok (.ldc_w 276, 3) := by decide +kernel
theorem dX7_mark_83 : decode cX7_mark 83 = .ok (.invokestatic 128, 3) := by decide +kernel
theorem dX7_mark_86 : decode cX7_mark 86 = .ok (.ifCond .ne 6, 3) := by decide +kernel
theorem dX7_mark_89 : decode cX7_mark 89 = .ok (.ldc 68, 2) := by decide +kernel
theorem dX7_mark_91 : decode cX7_mark 91 = .ok (.ireturn, 1) := by decide +kernel
theorem dX7_mark_92 : decode cX7_mark 92 = .ok (.aload 4, 2) := by decide +kernel
theorem dX7_mark_94 : decode cX7_mark 94 = .ok (.getfield 272, 3) := by decide +kernel
theorem dX7_mark_97 : decode cX7_mark 97 = .ok (.iload_n 2, 1) := by decide +kernel
theorem dX7_mark_98 : decode cX7_mark 98 = .ok (.iload_n 3, 1) := by decide +kernel
theorem dX7_mark_99 : decode cX7_mark 99 = .ok (.iastore, 1) := by decide +kernel
theorem dX7_mark_100 : decode cX7_mark 100 = .ok (.iconst 1, 1) := by decide +kernel
theorem dX7_mark_101 : decode cX7_mark 101 = .ok (.ireturn, 1) := by decide +kernel
theorem dX7_pour_0 : decode cX7_pour 0 = .ok (.iload_n 1, 1) := by decide +kernel
theorem dX7_pour_1 : decode cX7_pour 1 = .ok (.invokestatic 204, 3) := by decide +kernel
theorem dX7_pour_4 : decode cX7_pour 4 = .ok (.ifCond .ne 6, 3) := by decide +kernel
theorem dX7_pour_7 : decode cX7_pour 7 = .ok (.ldc 68, 2) := by decide +kernel
theorem dX7_pour_9 : decode cX7_pour 9 = .ok (.ireturn, 1) := by decide +kernel
theorem dX7_pour_10 : decode cX7_pour 10 = .ok (.aload_n 0, 1) := by decide +kernel
theorem dX7_pour_11 : decode cX7_pour 11 = .ok (.getfield 34, 3) := by decide +kernel
theorem dX7_pour_14 : decode cX7_pour 14 = .ok (.iload_n 1, 1) := by decide +kernel
theorem dX7_pour_15 : decode cX7_pour 15 = .ok (.aaload, 1) := by decide +kernel
theorem dX7_pour_16 : decode cX7_pour 16 = .ok (.invokevirtual 207, 3) := by decide +kernel
theorem dX7_pour_19 : decode cX7_pour 19 = .ok (.ifCond .eq 6, 3) := by decide +kernel
theorem dX7_pour_22 : decode cX7_pour 22 = .ok (.ldc 210, 2) := by decide +kernel
theorem dX7_pour_24 : decode cX7_pour 24 = .ok (.ireturn, 1) := by decide +kernel
theorem dX7_pour_25 : decode cX7_pour 25 = .ok (.iconst 0, 1) := by decide +kernel
theorem dX7_pour_26 : decode cX7_pour 26 = .ok (.istore_n 2, 1) := by decide +kernel
theorem dX7_pour_27 : decode cX7_pour 27 = .ok (.iconst 0, 1) := by decide +kernel
theorem dX7_pour_28 : decode cX7_pour 28 = .ok (.istore_n 3, 1) := by decide +kernel
theorem dX7_pour_29 : decode cX7_pour 29 = .ok (.iload_n 3, 1) := by decide +kernel
theorem dX7_pour_30 : decode cX7_pour 30 = .ok (.bipush 12, 2) := by decide +kernel
theorem dX7_pour_32 : decode cX7_pour 32 = .ok (.if_icmp .ge 69, 3) := by decide +kernel
theorem dX7_pour_35 : decode cX7_pour 35 = .ok (.aload_n 0, 1) := by decide +kernel
theorem dX7_pour_36 : decode cX7_pour 36 = .ok (.getfield 34, 3) := by decide +kernel
theorem dX7_pour_39 : decode cX7_pour 39 = .ok (.iload_n 1, 1) := by decide +kernel
theorem dX7_pour_40 : decode cX7_pour 40 = .ok (.aaload, 1) := by decide +kernel
theorem dX7_pour_41 : decode cX7_pour 41 = .ok (.iload_n 3, 1) := by decide +kernel
theorem dX7_pour_42 : decode cX7_pour 42 = .ok (.invokevirtual 277, 3) := by decide +kernel
theorem dX7_pour_45 : decode cX7_pour 45 = .ok (.ifCond .eq 50, 3) := by decide +kernel
theorem dX7_pour_48 : decode cX7_pour 48 = .ok (.aload_n 0, 1) := by decide +kernel
theorem dX7_pour_49 : decode cX7_pour 49 = .ok (.getfield 34, 3) := by decide +kernel
theorem dX7_pour_52 : decode cX7_pour 52 = .ok (.iload_n 1, 1) := by decide +kernel
theorem dX7_pour_53 : decode cX7_pour 53 = .ok (.aaload, 1) := by decide +kernel
theorem dX7_pour_54 : decode cX7_pour 54 = .ok (.getfield 272, 3) := by decide +kernel
theorem dX7_pour_57 : decode cX7_pour 57 = .ok (.iload_n 3, 1) := by decide +kernel
theorem dX7_pour_58 : decode cX7_pour 58 = .ok (.iaload, 1) := by decide +kernel
theorem dX7_pour_59 : decode cX7_pour 59 = .ok (.iconst 1, 1) := by decide +kernel
theorem dX7_pour_60 : decode cX7_pour 60 = .ok (.bipush 12, 2) := by decide +kernel
theorem dX7_pour_62 : decode cX7_pour 62 = .ok (.invokestatic 280, 3) := by decide +kernel
theorem dX7_pour_65 : decode cX7_pour 65 = .ok (.istore 4, 2) := by decide +kernel
theorem dX7_pour_67 : decode cX7_pour 67 = .ok (.iload 4, 2) := by decide +kernel
theorem dX7_pour_69 : decode cX7_pour 69 = .ok (.aload_n 0, 1) := by decide +kernel
theorem dX7_pour_70 : decode cX7_pour 70 = .ok (.getfield 10, 3) := by decide +kernel
theorem dX7_pour_73 : decode cX7_pour 73 = .ok (.getfield 131, 3) := by decide +kernel
theorem dX7_pour_76 : decode cX7_pour 76 = .ok (.iload_n 3, 1) := by decide +kernel
theorem dX7_pour_77 : decode cX7_pour 77 = .ok (.iaload, 1) := by decide +kernel
theorem dX7_pour_78 : decode cX7_pour 78 = .ok (.if_icmp .eq 6, 3) := by decide +kernel
theorem dX7_pour_81 : decode cX7_pour 81 = .ok (.iinc 2 1, 3) := by decide +kernel
theorem dX7_pour_84 : decode cX7_pour 84 = .ok (.aload_n 0, 1) := by decide +kernel
theorem dX7_pour_85 : decode cX7_pour 85 = .ok (.getfield 10, 3) := by decide +kernel
theorem dX7_pour_88 : decode cX7_pour 88 = .ok (.getfield 131, 3) := by decide +kernel
theorem dX7_pour_91 : decode cX7_pour 91 = .ok (.iload_n 3, 1) := by decide +kernel
theorem dX7_pour_92 : decode cX7_pour 92 = .ok (.iload 4, 2) := by decide +kernel
theorem dX7_pour_94 : decode cX7_pour 94 = .ok (.iastore, 1) := by decide +kernel
theorem dX7_pour_95 : decode cX7_pour 95 = .ok (.iinc 3 1, 3) := by decide +kernel
theorem dX7_pour_98 : decode cX7_pour 98 = .ok (.goto (-69), 3) := by decide +kernel
theorem dX7_pour_101 : decode cX7_pour 101 = .ok (.iload_n 2, 1) := by decide +kernel
theorem dX7_pour_102 : decode cX7_pour 102 = .ok (.ireturn, 1) := by decide +kernel
theorem dX7_reads_0 : decode cX7_reads 0 = .ok (.iload_n 1, 1) := by decide +kernel
theorem dX7_reads_1 : decode cX7_reads 1 = .ok (.invokestatic 204, 3) := by decide +kernel
theorem dX7_reads_4 : decode cX7_reads 4 = .ok (.ifCond .ne 6, 3) := by decide +kernel
theorem dX7_reads_7 : decode cX7_reads 7 = .ok (.ldc 68, 2) := by decide +kernel
theorem dX7_reads_9 : decode cX7_reads 9 = .ok (.ireturn, 1) := by decide +kernel
theorem dX7_reads_10 : decode cX7_reads 10 = .ok (.aload_n 0, 1) := by decide +kernel
theorem dX7_reads_11 : decode cX7_reads 11 = .ok (.getfield 34, 3) := by decide +kernel
theorem dX7_reads_14 : decode cX7_reads 14 = .ok (.iload_n 1, 1) := by decide +kernel
theorem dX7_reads_15 : decode cX7_reads 15 = .ok (.aaload, 1) := by decide +kernel
theorem dX7_reads_16 : decode cX7_reads 16 = .ok (.astore_n 2, 1) := by decide +kernel
theorem dX7_reads_17 : decode cX7_reads 17 = .ok (.aload_n 2, 1) := by decide +kernel
theorem dX7_reads_18 : decode cX7_reads 18 = .ok (.invokevirtual 207, 3) := by decide +kernel
theorem dX7_reads_21 : decode cX7_reads 21 = .ok (.ifCond .eq 6, 3) := by decide +kernel
theorem dX7_reads_24 : decode cX7_reads 24 = .ok (.ldc 210, 2) := by decide +kernel
theorem dX7_reads_26 : decode cX7_reads 26 = .ok (.ireturn, 1) := by decide +kernel
theorem dX7_reads_27 : decode cX7_reads 27 = .ok (.iconst 0, 1) := by decide +kernel
theorem dX7_reads_28 : decode cX7_reads 28 = .ok (.istore_n 3, 1) := by decide +kernel
theorem dX7_reads_29 : decode cX7_reads 29 = .ok (.iload_n 3, 1) := by decide +kernel
theorem dX7_reads_30 : decode cX7_reads 30 = .ok (.aload_n 2, 1) := by decide +kernel
theorem dX7_reads_31 : decode cX7_reads 31 = .ok (.getfield 264, 3) := by decide +kernel
theorem dX7_reads_34 : decode cX7_reads 34 = .ok (.if_icmp .ge 51, 3) := by decide +kernel
theorem dX7_reads_37 : decode cX7_reads 37 = .ok (.aload_n 2, 1) := by decide +kernel
theorem dX7_reads_38 : decode cX7_reads 38 = .ok (.iload_n 3, 1) := by decide +kernel
theorem dX7_reads_39 : decode cX7_reads 39 = .ok (.invokevirtual 277, 3) := by decide +kernel
theorem dX7_reads_42 : decode cX7_reads 42 = .ok (.ifCond .eq 37, 3) := by decide +kernel
theorem dX7_reads_45 : decode cX7_reads 45 = .ok (.aload_n 0, 1) := by decide +kernel
theorem dX7_reads_46 : decode cX7_reads 46 = .ok (.getfield 10, 3) := by decide +kernel
theorem dX7_reads_49 : decode cX7_reads 49 = .ok (.iload_n 3, 1) := by decide +kernel
theorem dX7_reads_50 : decode cX7_reads 50 = .ok (.invokevirtual 77, 3) := by decide +kernel
theorem dX7_reads_53 : decode cX7_reads 53 = .ok (.ifCond .eq 24, 3) := by decide +kernel
theorem dX7_reads_56 : decode cX7_reads 56 = .ok (.aload_n 0, 1) := by decide +kernel
theorem dX7_reads_57 : decode cX7_reads 57 = .ok (.getfield 10, 3) := by decide +kernel
theorem dX7_reads_60 : decode cX7_reads 60 = .ok (.getfield 80, 3) := by decide +kernel
theorem dX7_reads_63 : decode cX7_reads 63 = .ok (.iload_n 3, 1) := by decide +kernel
theorem dX7_reads_64 : decode cX7_reads 64 = .ok (.aaload, 1) := by decide +kernel
theorem dX7_reads_65 : decode cX7_reads 65 = .ok (.getfield 95, 3) := by decide +kernel
theorem dX7_reads_68 : decode cX7_reads 68 = .ok (.aload_n 2, 1) := by decide +kernel
theorem dX7_reads_69 : decode cX7_reads 69 = .ok (.getfield 272, 3) := by decide +kernel
theorem dX7_reads_72 : decode cX7_reads 72 = .ok (.iload_n 3, 1) := by decide +kernel
theorem dX7_reads_73 : decode cX7_reads 73 = .ok (.iaload, 1) := by decide +kernel
theorem dX7_reads_74 : decode cX7_reads 74 = .ok (.if_icmp .eq 5, 3) := by decide +kernel
theorem dX7_reads_77 : decode cX7_reads 77 = .ok (.iload_n 3, 1) := by decide +kernel
theorem dX7_reads_78 : decode cX7_reads 78 = .ok (.ireturn, 1) := by decide +kernel
theorem dX7_reads_79 : decode cX7_reads 79 = .ok (.iinc 3 1, 3) := by decide +kernel
theorem dX7_reads_82 : decode cX7_reads 82 = .ok (.goto (-53), 3) := by decide +kernel
theorem dX7_reads_85 : decode cX7_reads 85 = .ok (.ldc 192, 2) := by decide +kernel
theorem dX7_reads_87 : decode cX7_reads 87 = .ok (.ireturn, 1) := by decide +kernel
theorem dX7_copy_0 : decode cX7_copy 0 = .ok (.iload_n 1, 1) := by decide +kernel
theorem dX7_copy_1 : decode cX7_copy 1 = .ok (.invokestatic 204, 3) := by decide +kernel
theorem dX7_copy_4 : decode cX7_copy 4 = .ok (.ifCond .eq 10, 3) := by decide +kernel
theorem dX7_copy_7 : decode cX7_copy 7 = .ok (.iload_n 3, 1) := by decide +kernel
theorem dX7_copy_8 : decode cX7_copy 8 = .ok (.invokestatic 204, 3) := by decide +kernel
theorem dX7_copy_11 : decode cX7_copy 11 = .ok (.ifCond .ne 6, 3) := by decide +kernel
theorem dX7_copy_14 : decode cX7_copy 14 = .ok (.ldc 68, 2) := by decide +kernel
theorem dX7_copy_16 : decode cX7_copy 16 = .ok (.ireturn, 1) := by decide +kernel
theorem dX7_copy_17 : decode cX7_copy 17 = .ok (.aload_n 0, 1) := by decide +kernel
theorem dX7_copy_18 : decode cX7_copy 18 = .ok (.getfield 34, 3) := by decide +kernel
theorem dX7_copy_21 : decode cX7_copy 21 = .ok (.iload_n 1, 1) := by decide +kernel
theorem dX7_copy_22 : decode cX7_copy 22 = .ok (.aaload, 1) := by decide +kernel
theorem dX7_copy_23 : decode cX7_copy 23 = .ok (.astore 6, 2) := by decide +kernel
theorem dX7_copy_25 : decode cX7_copy 25 = .ok (.aload_n 0, 1) := by decide +kernel
theorem dX7_copy_26 : decode cX7_copy 26 = .ok (.getfield 34, 3) := by decide +kernel
theorem dX7_copy_29 : decode cX7_copy 29 = .ok (.iload_n 3, 1) := by decide +kernel
theorem dX7_copy_30 : decode cX7_copy 30 = .ok (.aaload, 1) := by decide +kernel
theorem dX7_copy_31 : decode cX7_copy 31 = .ok (.astore 7, 2) := by decide +kernel
theorem dX7_copy_33 : decode cX7_copy 33 = .ok (.aload 6, 2) := by decide +kernel
theorem dX7_copy_35 : decode cX7_copy 35 = .ok (.invokevirtual 207, 3) := by decide +kernel
theorem dX7_copy_38 : decode cX7_copy 38 = .ok (.ifCond .ne 11, 3) := by decide +kernel
theorem dX7_copy_41 : decode cX7_copy 41 = .ok (.aload 7, 2) := by decide +kernel
theorem dX7_copy_43 : decode cX7_copy 43 = .ok (.invokevirtual 207, 3) := by decide +kernel
theorem dX7_copy_46 : decode cX7_copy 46 = .ok (.ifCond .eq 6, 3) := by decide +kernel
theorem dX7_copy_49 : decode cX7_copy 49 = .ok (.ldc 210, 2) := by decide +kernel
theorem dX7_copy_51 : decode cX7_copy 51 = .ok (.ireturn, 1) := by decide +kernel
theorem dX7_copy_52 : decode cX7_copy 52 = .ok (.aload 6, 2) := by decide +kernel
theorem dX7_copy_54 : decode cX7_copy 54 = .ok (.getfield 269, 3) := by decide +kernel
theorem dX7_copy_57 : decode cX7_copy 57 = .ok (.aload 7, 2) := by decide +kernel
theorem dX7_copy_59 : decode cX7_copy 59 = .ok (.getfield 269, 3) := by decide +kernel
theorem dX7_copy_62 : decode cX7_copy 62 = .ok (.if_icmp .eq 6, 3) := by decide +kernel
theorem dX7_copy_65 : decode cX7_copy 65 = .ok (.ldc 123, 2) := by decide +kernel
theorem dX7_copy_67 : decode cX7_copy 67 = .ok (.ireturn, 1) := by decide +kernel
theorem dX7_copy_68 : decode cX7_copy 68 = .ok (.aload 6, 2) := by decide +kernel
theorem dX7_copy_70 : decode cX7_copy 70 = .ok (.iload_n 2, 1) := by decide +kernel
theorem dX7_copy_71 : decode cX7_copy 71 = .ok (.iload 5, 2) := by decide +kernel
theorem dX7_copy_73 : decode cX7_copy 73 = .ok (.invokevirtual 283, 3) := by decide +kernel
theorem dX7_copy_76 : decode cX7_copy 76 = .ok (.ifCond .eq 15, 3) := by decide +kernel
theorem dX7_copy_79 : decode cX7_copy 79 = .ok (.aload 7, 2) := by decide +kernel
theorem dX7_copy_81 : decode cX7_copy 81 = .ok (.iload 4, 2) := by decide +kernel
theorem dX7_copy_83 : decode cX7_copy 83 = .ok (.iload 5, 2) := by decide +kernel
theorem dX7_copy_85 : decode cX7_copy 85 = .ok (.invokevirtual 283, 3) := by decide +kernel
theorem dX7_copy_88 : decode cX7_copy 88 = .ok (.ifCond .ne 7, 3) := by decide +kernel
theorem dX7_copy_91 : decode cX7_copy 91 = .ok (.ldc_w 268, 3) := by decide +kernel
theorem dX7_copy_94 : decode cX7_copy 94 = .ok (.ireturn, 1) := by decide +kernel
theorem dX7_copy_95 : decode cX7_copy 95 = .ok (.aload 6, 2) := by decide +kernel
theorem dX7_copy_97 : decode cX7_copy 97 = .ok (.getfield 272, 3) := by decide +kernel
theorem dX7_copy_100 : decode cX7_copy 100 = .ok (.iload_n 2, 1) := by decide +kernel
theorem dX7_copy_101 : decode cX7_copy 101 = .ok (.aload 7, 2) := by decide +kernel
theorem dX7_copy_103 : decode cX7_copy 103 = .ok (.getfield 272, 3) := by decide +kernel
theorem dX7_copy_106 : decode cX7_copy 106 = .ok (.iload 4, 2) := by decide +kernel
theorem dX7_copy_108 : decode cX7_copy 108 = .ok (.iload 5, 2) := by decide +kernel
theorem dX7_copy_110 : decode cX7_copy 110 = .ok (.invokestatic 287, 3) := by decide +kernel
theorem dX7_copy_113 : decode cX7_copy 113 = .ok (.iload 5, 2) := by decide +kernel
theorem dX7_copy_115 : decode cX7_copy 115 = .ok (.ireturn, 1) := by decide +kernel
theorem dX7_lay_0 : decode cX7_lay 0 = .ok (.iload_n 1, 1) := by decide +kernel
theorem dX7_lay_1 : decode cX7_lay 1 = .ok (.invokestatic 293, 3) := by decide +kernel
theorem dX7_lay_4 : decode cX7_lay 4 = .ok (.ifCond .eq 12, 3) := by decide +kernel
theorem dX7_lay_7 : decode cX7_lay 7 = .ok (.iload_n 2, 1) := by decide +kernel
theorem dX7_lay_8 : decode cX7_lay 8 = .ok (.iconst 0, 1) := by decide +kernel
theorem dX7_lay_9 : decode cX7_lay 9 = .ok (.iconst 3, 1) := by decide +kernel
theorem dX7_lay_10 : decode cX7_lay 10 = .ok (.invokestatic 128, 3) := by decide +kernel
theorem dX7_lay_13 : decode cX7_lay 13 = .ok (.ifCond .ne 6, 3) := by decide +kernel
theorem dX7_lay_16 : decode cX7_lay 16 = .ok (.ldc 68, 2) := by decide +kernel
theorem dX7_lay_18 : decode cX7_lay 18 = .ok (.ireturn, 1) := by decide +kernel
theorem dX7_lay_19 : decode cX7_lay 19 = .ok (.iload_n 2, 1) := by decide +kernel
theorem dX7_lay_20 : decode cX7_lay 20 = .ok (.iconst 1, 1) := by decide +kernel
theorem dX7_lay_21 : decode cX7_lay 21 = .ok (.if_icmp .ne 14, 3) := by decide +kernel
theorem dX7_lay_24 : decode cX7_lay 24 = .ok (.aload_n 0, 1) := by decide +kernel
theorem dX7_lay_25 : decode cX7_lay 25 = .ok (.getfield 10, 3) := by decide +kernel
theorem dX7_lay_28 : decode cX7_lay 28 = .ok (.iload_n 3, 1) := by decide +kernel
theorem dX7_lay_29 : decode cX7_lay 29 = .ok (.invokevirtual 77, 3) := by decide +kernel
theorem dX7_lay_32 : decode cX7_lay 32 = .ok (.ifCond .eq 15, 3) := by decide +kernel
theorem dX7_lay_35 : decode cX7_lay 35 = .ok (.iload_n 2, 1) := by decide +kernel
theorem dX7_lay_36 : decode cX7_lay 36 = .ok (.iconst 2, 1) := by decide +kernel
theorem dX7_lay_37 : decode cX7_lay 37 = .ok (.if_icmp .ne 13, 3) := by decide +kernel
theorem dX7_lay_40 : decode cX7_lay 40 = .ok (.iload_n 3, 1) := by decide +kernel
theorem dX7_lay_41 : decode cX7_lay 41 = .ok (.invokestatic 204, 3) := by decide +kernel
theorem dX7_lay_44 : decode cX7_lay 44 = .ok (.ifCond .ne 6, 3) := by decide +kernel
theorem dX7_lay_47 : decode cX7_lay 47 = .ok (.ldc 68, 2) := by decide +kernel
theorem dX7_lay_49 : decode cX7_lay 49 = .ok (.ireturn, 1) := by decide +kernel
theorem dX7_lay_50 : decode cX7_lay 50 = .ok (.iload_n 2, 1) := by decide +kernel
theorem dX7_lay_51 : decode cX7_lay 51 = .ok (.iconst 2, 1) := by decide +kernel
theorem dX7_lay_52 : decode cX7_lay 52 = .ok (.if_icmp .ne 18, 3) := by decide +kernel
theorem dX7_lay_55 : decode cX7_lay 55 = .ok (.aload_n 0, 1) := by decide +kernel
theorem dX7_lay_56 : decode cX7_lay 56 = .ok (.getfield 34, 3) := by decide +kernel
theorem dX7_lay_59 : decode cX7_lay 59 = .ok (.iload_n 3, 1) := by decide +kernel
theorem dX7_lay_60 : decode cX7_lay 60 = .ok (.aaload, 1) := by decide +kernel
theorem dX7_lay_61 : decode cX7_lay 61 = .ok (.invokevirtual 207, 3) := by decide +kernel
theorem dX7_lay_64 : decode cX7_lay 64 = .ok (.ifCond .eq 6, 3) := by decide +kernel
theorem dX7_lay_67 : decode cX7_lay 67 = .ok (.ldc 210, 2) := by decide +kernel
theorem dX7_lay_69 : decode cX7_lay 69 = .ok (.ireturn, 1) := by decide +kernel
theorem dX7_lay_70 : decode cX7_lay 70 = .ok (.aload_n 0, 1) := by decide +kernel
theorem dX7_lay_71 : decode cX7_lay 71 = .ok (.getfield 40, 3) := by decide +kernel
theorem dX7_lay_74 : decode cX7_lay 74 = .ok (.iload_n 1, 1) := by decide +kernel
theorem dX7_lay_75 : decode cX7_lay 75 = .ok (.aaload, 1) := by decide +kernel
theorem dX7_lay_76 : decode cX7_lay 76 = .ok (.getfield 296, 3) := by decide +kernel
theorem dX7_lay_79 : decode cX7_lay 79 = .ok (.istore 4, 2) := by decide +kernel
theorem dX7_lay_81 : decode cX7_lay 81 = .ok (.aload_n 0, 1) := by decide +kernel
theorem dX7_lay_82 : decode cX7_lay 82 = .ok (.getfield 40, 3) := by decide +kernel
theorem dX7_lay_85 : decode cX7_lay 85 = .ok (.iload_n 1, 1) := by decide +kernel
theorem dX7_lay_86 : decode cX7_lay 86 = .ok (.aaload, 1) := by decide +kernel
theorem dX7_lay_87 : decode cX7_lay 87 = .ok (.iload_n 2, 1) := by decide +kernel
theorem dX7_lay_88 : decode cX7_lay 88 = .ok (.putfield 296, 3) := by decide +kernel
theorem dX7_lay_91 : decode cX7_lay 91 = .ok (.iload_n 2, 1) := by decide +kernel
theorem dX7_lay_92 : decode cX7_lay 92 = .ok (.iconst 1, 1) := by decide +kernel
theorem dX7_lay_93 : decode cX7_lay 93 = .ok (.if_icmp .ne 27, 3) := by decide +kernel
theorem dX7_lay_96 : decode cX7_lay 96 = .ok (.aload_n 0, 1) := by decide +kernel
theorem dX7_lay_97 : decode cX7_lay 97 = .ok (.getfield 40, 3) := by decide +kernel
theorem dX7_lay_100 : decode cX7_lay 100 = .ok (.iload_n 1, 1) := by decide +kernel
theorem dX7_lay_101 : decode cX7_lay 101 = .ok (.aaload, 1) := by decide +kernel
theorem dX7_lay_102 : decode cX7_lay 102 = .ok (.getfield 299, 3) := by decide +kernel
theorem dX7_lay_105 : decode cX7_lay 105 = .ok (.aload_n 0, 1) := by decide +kernel
theorem dX7_lay_106 : decode cX7_lay 106 = .ok (.getfield 10, 3) := by decide +kernel
theorem dX7_lay_109 : decode cX7_lay 109 = .ok (.getfield 80, 3) := by decide +kernel
theorem dX7_lay_112 : decode cX7_lay 112 = .ok (.iload_n 3, 1) := by decide +kernel
theorem dX7_lay_113 : decode cX7_lay 113 = .ok (.aaload, 1) := by decide +kernel
theorem dX7_lay_114 : decode cX7_lay 114 = .ok (.invokevirtual 303, 3) := by decide +kernel
theorem dX7_lay_117 : decode cX7_lay 117 = .ok (.goto 44, 3) := by decide +kernel
theorem dX7_lay_120 : decode cX7_lay 120 = .ok (.iload_n 2, 1) := by decide +kernel
theorem dX7_lay_121 : decode cX7_lay 121 = .ok (.iconst 2, 1) := by decide +kernel
theorem dX7_lay_122 : decode cX7_lay 122 = .ok (.if_icmp .ne 24, 3) := by decide +kernel
theorem dX7_lay_125 : decode cX7_lay 125 = .ok (.aload_n 0, 1) := by decide +kernel
theorem dX7_lay_126 : decode cX7_lay 126 = .ok (.getfield 40, 3) := by decide +kernel
theorem dX7_lay_129 : decode cX7_lay 129 = .ok (.iload_n 1, 1) := by decide +kernel
theorem dX7_lay_130 : decode cX7_lay 130 = .ok (.aaload, 1) := by decide +kernel
theorem dX7_lay_131 : decode cX7_lay 131 = .ok (.getfield 306, 3) := by decide +kernel
theorem dX7_lay_134 : decode cX7_lay 134 = .ok (.aload_n 0, 1) := by decide +kernel
theorem dX7_lay_135 : decode cX7_lay 135 = .ok (.getfield 34, 3) := by decide +kernel
theorem dX7_lay_138 : decode cX7_lay 138 = .ok (.iload_n 3, 1) := by decide +kernel
theorem dX7_lay_139 : decode cX7_lay 139 = .ok (.aaload, 1) := by decide +kernel
theorem dX7_lay_140 : decode cX7_lay 140 = .ok (.invokevirtual 310, 3) := by decide +kernel
theorem dX7_lay_143 : decode cX7_lay 143 = .ok (.goto 18, 3) := by decide +kernel
theorem dX7_lay_146 : decode cX7_lay 146 = .ok (.iload_n 2, 1) := by decide +kernel
theorem dX7_lay_147 : decode cX7_lay 147 = .ok (.iconst 3, 1) := by decide +kernel
theorem dX7_lay_148 : decode cX7_lay 148 = .ok (.if_icmp .ne 13, 3) := by decide +kernel
theorem dX7_lay_151 : decode cX7_lay 151 = .ok (.aload_n 0, 1) := by decide +kernel
theorem dX7_lay_152 : decode cX7_lay 152 = .ok (.getfield 40, 3) := by decide +kernel
theorem dX7_lay_155 : decode cX7_lay 155 = .ok (.iload_n 1, 1) := by decide +kernel
theorem dX7_lay_156 : decode cX7_lay 156 = .ok (.aaload, 1) := by decide +kernel
theorem dX7_lay_157 : decode cX7_lay 157 = .ok (.iload_n 3, 1) := by decide +kernel
theorem dX7_lay_158 : decode cX7_lay 158 = .ok (.putfield 313, 3) := by decide +kernel
theorem dX7_lay_161 : decode cX7_lay 161 = .ok (.iload 4, 2) := by decide +kernel
theorem dX7_lay_163 : decode cX7_lay 163 = .ok (.ireturn, 1) := by decide +kernel
theorem dX7_ask_0 : decode cX7_ask 0 = .ok (.iload_n 1, 1) := by decide +kernel
theorem dX7_ask_1 : decode cX7_ask 1 = .ok (.invokestatic 293, 3) := by decide +kernel
theorem dX7_ask_4 : decode cX7_ask 4 = .ok (.ifCond .eq 10, 3) := by decide +kernel
theorem dX7_ask_7 : decode cX7_ask 7 = .ok (.iload_n 2, 1) := by decide +kernel
theorem dX7_ask_8 : decode cX7_ask 8 = .ok (.invokestatic 58, 3) := by decide +kernel
theorem dX7_ask_11 : decode cX7_ask 11 = .ok (.ifCond .ne 6, 3) := by decide +kernel
theorem dX7_ask_14 : decode cX7_ask 14 = .ok (.ldc 68, 2) := by decide +kernel
theorem dX7_ask_16 : decode cX7_ask 16 = .ok (.ireturn, 1) := by decide +kernel
theorem dX7_ask_17 : decode cX7_ask 17 = .ok (.aload_n 0, 1) := by decide +kernel
theorem dX7_ask_18 : decode cX7_ask 18 = .ok (.getfield 40, 3) := by decide +kernel
theorem dX7_ask_21 : decode cX7_ask 21 = .ok (.iload_n 1, 1) := by decide +kernel
theorem dX7_ask_22 : decode cX7_ask 22 = .ok (.aaload, 1) := by decide +kernel
theorem dX7_ask_23 : decode cX7_ask 23 = .ok (.iconst 1, 1) := by decide +kernel
theorem dX7_ask_24 : decode cX7_ask 24 = .ok (.invokevirtual 316, 3) := by decide +kernel
theorem dX7_ask_27 : decode cX7_ask 27 = .ok (.istore_n 3, 1) := by decide +kernel
theorem dX7_ask_28 : decode cX7_ask 28 = .ok (.iload_n 3, 1) := by decide +kernel
theorem dX7_ask_29 : decode cX7_ask 29 = .ok (.ifCond .eq 5, 3) := by decide +kernel
theorem dX7_ask_32 : decode cX7_ask 32 = .ok (.iload_n 3, 1) := by decide +kernel
theorem dX7_ask_33 : decode cX7_ask 33 = .ok (.ireturn, 1) := by decide +kernel
theorem dX7_ask_34 : decode cX7_ask 34 = .ok (.aload_n 0, 1) := by decide +kernel
theorem dX7_ask_35 : decode cX7_ask 35 = .ok (.getfield 40, 3) := by decide +kernel
theorem dX7_ask_38 : decode cX7_ask 38 = .ok (.iload_n 1, 1) := by decide +kernel
theorem dX7_ask_39 : decode cX7_ask 39 = .ok (.aaload, 1) := by decide +kernel
theorem dX7_ask_40 : decode cX7_ask 40 = .ok (.getfield 299, 3) := by decide +kernel
theorem dX7_ask_43 : decode cX7_ask 43 = .ok (.iload_n 2, 1) := by decide +kernel
theorem dX7_ask_44 : decode cX7_ask 44 = .ok (.invokevirtual 120, 3) := by decide +kernel
theorem dX7_ask_47 : decode cX7_ask 47 = .ok (.ifCond .eq 18, 3) := by decide +kernel
theorem dX7_ask_50 : decode cX7_ask 50 = .ok (.aload_n 0, 1) := by decide +kernel
theorem dX7_ask_51 : decode cX7_ask 51 = .ok (.getfield 40, 3) := by decide +kernel
theorem dX7_ask_54 : decode cX7_ask 54 = .ok (.iload_n 1, 1) := by decide +kernel
theorem dX7_ask_55 : decode cX7_ask 55 = .ok (.aaload, 1) := by decide +kernel
theorem dX7_ask_56 : decode cX7_ask 56 = .ok (.getfield 299, 3) := by decide +kernel
theorem dX7_ask_59 : decode cX7_ask 59 = .ok (.invokevirtual 116, 3) := by decide +kernel
theorem dX7_ask_62 : decode cX7_ask 62 = .ok (.goto 5, 3) := by decide +kernel
theorem dX7_ask_65 : decode cX7_ask 65 = .ok (.ldc 123, 2) := by decide +kernel
theorem dX7_ask_67 : decode cX7_ask 67 = .ok (.ireturn, 1) := by decide +kernel
theorem dX7_item_0 : decode cX7_item 0 = .ok (.iload_n 1, 1) := by decide +kernel
theorem dX7_item_1 : decode cX7_item 1 = .ok (.invokestatic 293, 3) := by decide +kernel
theorem dX7_item_4 : decode cX7_item 4 = .ok (.ifCond .ne 6, 3) := by decide +kernel
theorem dX7_item_7 : decode cX7_item 7 = .ok (.ldc 68, 2) := by decide +kernel
theorem dX7_item_9 : decode cX7_item 9 = .ok (.ireturn, 1) := by decide +kernel
theorem dX7_item_10 : decode cX7_item 10 = .ok (.aload_n 0, 1) := by decide +kernel
theorem dX7_item_11 : decode cX7_item 11 = .ok (.getfield 40, 3) := by decide +kernel
theorem dX7_item_14 : decode cX7_item 14 = .ok (.iload_n 1, 1) := by decide +kernel
theorem dX7_item_15 : decode cX7_item 15 = .ok (.aaload, 1) := by decide +kernel
theorem dX7_item_16 : decode cX7_item 16 = .ok (.iconst 2, 1) := by decide +kernel
theorem dX7_item_17 : decode cX7_item 17 = .ok (.invokevirtual 316, 3) := by decide +kernel
theorem dX7_item_20 : decode cX7_item 20 = .ok (.istore_n 3, 1) := by decide +kernel
theorem dX7_item_21 : decode cX7_item 21 = .ok (.iload_n 3, 1) := by decide +kernel
theorem dX7_item_22 : decode cX7_item 22 = .ok (.ifCond .eq 5, 3) := by decide +kernel
theorem dX7_item_25 : decode cX7_item 25 = .ok (.iload_n 3, 1) := by decide +kernel
theorem dX7_item_26 : decode cX7_item 26 = .ok (.ireturn, 1) := by decide +kernel
theorem dX7_item_27 : decode cX7_item 27 = .ok (.aload_n 0, 1) := by decide +kernel
theorem dX7_item_28 : decode cX7_item 28 = .ok (.getfield 40, 3) := by decide +kernel
theorem dX7_item_31 : decode cX7_item 31 = .ok (.iload_n 1, 1) := by decide +kernel
theorem dX7_item_32 : decode cX7_item 32 = .ok (.aaload, 1) := by decide +kernel
theorem dX7_item_33 : decode cX7_item 33 = .ok (.getfield 306, 3) := by decide +kernel
theorem dX7_item_36 : decode cX7_item 36 = .ok (.astore 4, 2) := by decide +kernel
theorem dX7_item_38 : decode cX7_item 38 = .ok (.aload 4, 2) := by decide +kernel
theorem dX7_item_40 : decode cX7_item 40 = .ok (.iload_n 2, 1) := by decide +kernel
theorem dX7_item_41 : decode cX7_item 41 = .ok (.invokevirtual 265, 3) := by decide +kernel
theorem dX7_item_44 : decode cX7_item 44 = .ok (.ifCond .ne 7, 3) := by decide +kernel
theorem dX7_item_47 : decode cX7_item 47 = .ok (.ldc_w 268, 3) := by decide +kernel
theorem dX7_item_50 : decode cX7_item 50 = .ok (.ireturn, 1) := by decide +kernel
theorem dX7_item_51 : decode cX7_item 51 = .ok (.aload 4, 2) := by decide +kernel
theorem dX7_item_53 : decode cX7_item 53 = .ok (.iload_n 2, 1) := by decide +kernel
theorem dX7_item_54 : decode cX7_item 54 = .ok (.invokevirtual 277, 3) := by decide +kernel
theorem dX7_item_57 : decode cX7_item 57 = .ok (.ifCond .eq 13, 3) := by decide +kernel
theorem dX7_item_60 : decode cX7_item 60 = .ok (.aload 4, 2) := by decide +kernel
theorem dX7_item_62 : decode cX7_item 62 = .ok (.getfield 272, 3) := by decide +kernel
theorem dX7_item_65 : decode cX7_item 65 = .ok (.iload_n 2, 1) := by decide +kernel
theorem dX7_item_66 : decode cX7_item 66 = .ok (.iaload, 1) := by decide +kernel
theorem dX7_item_67 : decode cX7_item 67 = .ok (.goto 5, 3) := by decide +kernel
theorem dX7_item_70 : decode cX7_item 70 = .ok (.ldc 123, 2) := by decide +kernel
theorem dX7_item_72 : decode cX7_item 72 = .ok (.ireturn, 1) := by decide +kernel
theorem dX7_rest_0 : decode cX7_rest 0 = .ok (.iload_n 1, 1) := by decide +kernel
theorem dX7_rest_1 : decode cX7_rest 1 = .ok (.invokestatic 293, 3) := by decide +kernel
theorem dX7_rest_4 : decode cX7_rest 4 = .ok (.ifCond .ne 6, 3) := by decide +kernel
theorem dX7_rest_7 : decode cX7_rest 7 = .ok (.ldc 68, 2) := by decide +kernel
theorem dX7_rest_9 : decode cX7_rest 9 = .ok (.ireturn, 1) := by decide +kernel
theorem dX7_rest_10 : decode cX7_rest 10 = .ok (.aload_n 0, 1) := by decide +kernel
theorem dX7_rest_11 : decode cX7_rest 11 = .ok (.getfield 40, 3) := by decide +kernel
theorem dX7_rest_14 : decode cX7_rest 14 = .ok (.iload_n 1, 1) := by decide +kernel
theorem dX7_rest_15 : decode cX7_rest 15 = .ok (.aaload, 1) := by decide +kernel
theorem dX7_rest_16 : decode cX7_rest 16 = .ok (.iconst 3, 1) := by decide +kernel
theorem dX7_rest_17 : decode cX7_rest 17 = .ok (.invokevirtual 316, 3) := by decide +kernel
theorem dX7_rest_20 : decode cX7_rest 20 = .ok (.istore_n 3, 1) := by decide +kernel
theorem dX7_rest_21 : decode cX7_rest 21 = .ok (.iload_n 3, 1) := by decide +kernel
theorem dX7_rest_22 : decode cX7_rest 22 = .ok (.ifCond .eq 5, 3) := by decide +kernel
theorem dX7_rest_25 : decode cX7_rest 25 = .ok (.iload_n 3, 1) := by decide +kernel
theorem dX7_rest_26 : decode cX7_rest 26 = .ok (.ireturn, 1) := by decide +kernel
theorem dX7_rest_27 : decode cX7_rest 27 = .ok (.iload_n 2, 1) := by decide +kernel
theorem dX7_rest_28 : decode cX7_rest 28 = .ok (.ifCond .ne 8, 3) := by decide +kernel
theorem dX7_rest_31 : decode cX7_rest 31 = .ok (.ldc 127, 2) := by decide +kernel
theorem dX7_rest_33 : decode cX7_rest 33 = .ok (.goto 14, 3) := by decide +kernel
theorem dX7_rest_36 : decode cX7_rest 36 = .ok (.aload_n 0, 1) := by decide +kernel
theorem dX7_rest_37 : decode cX7_rest 37 = .ok (.getfield 40, 3) := by decide +kernel
theorem dX7_rest_40 : decode cX7_rest 40 = .ok (.iload_n 1, 1) := by decide +kernel
theorem dX7_rest_41 : decode cX7_rest 41 = .ok (.aaload, 1) := by decide +kernel
theorem dX7_rest_42 : decode cX7_rest 42 = .ok (.getfield 313, 3) := by decide +kernel
theorem dX7_rest_45 : decode cX7_rest 45 = .ok (.iload_n 2, 1) := by decide +kernel
theorem dX7_rest_46 : decode cX7_rest 46 = .ok (.irem, 1) := by decide +kernel
theorem dX7_rest_47 : decode cX7_rest 47 = .ok (.ireturn, 1) := by decide +kernel
theorem dX7_tell_0 : decode cX7_tell 0 = .ok (.aload_n 0, 1) := by decide +kernel
theorem dX7_tell_1 : decode cX7_tell 1 = .ok (.getfield 48, 3) := by decide +kernel
theorem dX7_tell_4 : decode cX7_tell 4 = .ok (.bipush 60, 2) := by decide +kernel
theorem dX7_tell_6 : decode cX7_tell 6 = .ok (.if_icmp .lt 6, 3) := by decide +kernel
theorem dX7_tell_9 : decode cX7_tell 9 = .ok (.ldc 76, 2) := by decide +kernel
theorem dX7_tell_11 : decode cX7_tell 11 = .ok (.ireturn, 1) := by decide +kernel
theorem dX7_tell_12 : decode cX7_tell 12 = .ok (.aload_n 0, 1) := by decide +kernel
theorem dX7_tell_13 : decode cX7_tell 13 = .ok (.getfield 44, 3) := by decide +kernel
theorem dX7_tell_16 : decode cX7_tell 16 = .ok (.aload_n 0, 1) := by decide +kernel
theorem dX7_tell_17 : decode cX7_tell 17 = .ok (.getfield 48, 3) := by decide +kernel
theorem dX7_tell_20 : decode cX7_tell 20 = .ok (.iload_n 1, 1) := by decide +kernel
theorem dX7_tell_21 : decode cX7_tell 21 = .ok (.iastore, 1) := by decide +kernel
theorem dX7_tell_22 : decode cX7_tell 22 = .ok (.aload_n 0, 1) := by decide +kernel
theorem dX7_tell_23 : decode cX7_tell 23 = .ok (.dup, 1) := by decide +kernel
theorem dX7_tell_24 : decode cX7_tell 24 = .ok (.getfield 48, 3) := by decide +kernel
theorem dX7_tell_27 : decode cX7_tell 27 = .ok (.iconst 1, 1) := by decide +kernel
theorem dX7_tell_28 : decode cX7_tell 28 = .ok (.iadd, 1) := by decide +kernel
theorem dX7_tell_29 : decode cX7_tell 29 = .ok (.putfield 48, 3) := by decide +kernel
theorem dX7_tell_32 : decode cX7_tell 32 = .ok (.aload_n 0, 1) := by decide +kernel
theorem dX7_tell_33 : decode cX7_tell 33 = .ok (.getfield 48, 3) := by decide +kernel
theorem dX7_tell_36 : decode cX7_tell 36 = .ok (.ireturn, 1) := by decide +kernel
theorem dX7_check_0 : decode cX7_check 0 = .ok (.aload_n 0, 1) := by decide +kernel
theorem dX7_check_1 : decode cX7_check 1 = .ok (.getfield 48, 3) := by decide +kernel
theorem dX7_check_4 : decode cX7_check 4 = .ok (.istore_n 2, 1) := by decide +kernel
theorem dX7_check_5 : decode cX7_check 5 = .ok (.aload_n 0, 1) := by decide +kernel
theorem dX7_check_6 : decode cX7_check 6 = .ok (.iconst 0, 1) := by decide +kernel
theorem dX7_check_7 : decode cX7_check 7 = .ok (.putfield 48, 3) := by decide +kernel
theorem dX7_check_10 : decode cX7_check 10 = .ok (.iload_n 1, 1) := by decide +kernel
theorem dX7_check_11 : decode cX7_check 11 = .ok (.iconst 1, 1) := by decide +kernel
theorem dX7_check_12 : decode cX7_check 12 = .ok (.bipush 30, 2) := by decide +kernel
theorem dX7_check_14 : decode cX7_check 14 = .ok (.invokestatic 128, 3) := by decide +kernel
theorem dX7_check_17 : decode cX7_check 17 = .ok (.ifCond .ne 6, 3) := by decide +kernel
theorem dX7_check_20 : decode cX7_check 20 = .ok (.ldc 68, 2) := by decide +kernel
theorem dX7_check_22 : decode cX7_check 22 = .ok (.ireturn, 1) := by decide +kernel
theorem dX7_check_23 : decode cX7_check 23 = .ok (.aload_n 0, 1) := by decide +kernel
theorem dX7_check_24 : decode cX7_check 24 = .ok (.getfield 52, 3) := by decide +kernel
theorem dX7_check_27 : decode cX7_check 27 = .ok (.ifCond .ne 6, 3) := by decide +kernel
theorem dX7_check_30 : decode cX7_check 30 = .ok (.ldc 127, 2) := by decide +kernel
theorem dX7_check_32 : decode cX7_check 32 = .ok (.ireturn, 1) := by decide +kernel
theorem dX7_check_33 : decode cX7_check 33 = .ok (.aload_n 0, 1) := by decide +kernel
theorem dX7_check_34 : decode cX7_check 34 = .ok (.getfield 19, 3) := by decide +kernel
theorem dX7_check_37 : decode cX7_check 37 = .ok (.aload_n 0, 1) := by decide +kernel
theorem dX7_check_38 : decode cX7_check 38 = .ok (.getfield 16, 3) := by decide +kernel
theorem dX7_check_41 : decode cX7_check 41 = .ok (.invokevirtual 200, 3) := by decide +kernel
theorem dX7_check_44 : decode cX7_check 44 = .ok (.iload_n 1, 1) := by decide +kernel
theorem dX7_check_45 : decode cX7_check 45 = .ok (.sipush 9999, 3) := by decide +kernel
theorem dX7_check_48 : decode cX7_check 48 = .ok (.aload_n 0, 1) := by decide +kernel
theorem dX7_check_49 : decode cX7_check 49 = .ok (.getfield 16, 3) := by decide +kernel
theorem dX7_check_52 : decode cX7_check 52 = .ok (.getfield 164, 3) := by decide +kernel
theorem dX7_check_55 : decode cX7_check 55 = .ok (.isub, 1) := by decide +kernel
theorem dX7_check_56 : decode cX7_check 56 = .ok (.invokestatic 149, 3) := by decide +kernel
theorem dX7_check_59 : decode cX7_check 59 = .ok (.istore_n 3, 1) := by decide +kernel
theorem dX7_check_60 : decode cX7_check 60 = .ok (.iconst 0, 1) := by decide +kernel
theorem dX7_check_61 : decode cX7_check 61 = .ok (.istore 4, 2) := by decide +kernel
theorem dX7_check_63 : decode cX7_check 63 = .ok (.iload 4, 2) := by decide +kernel
theorem dX7_check_65 : decode cX7_check 65 = .ok (.iload_n 3, 1) := by decide +kernel
theorem dX7_check_66 : decode cX7_check 66 = .ok (.if_icmp .ge 70, 3) := by decide +kernel
theorem dX7_check_69 : decode cX7_check 69 = .ok (.aload_n 0, 1) := by decide +kernel
theorem dX7_check_70 : decode cX7_check 70 = .ok (.getfield 19, 3) := by decide +kernel
theorem dX7_check_73 : decode cX7_check 73 = .ok (.invokevirtual 189, 3) := by decide +kernel
theorem dX7_check_76 : decode cX7_check 76 = .ok (.aload_n 0, 1) := by decide +kernel
theorem dX7_check_77 : decode cX7_check 77 = .ok (.iconst 2, 1) := by decide +kernel
theorem dX7_check_78 : decode cX7_check 78 = .ok (.iload 4, 2) := by decide +kernel
theorem dX7_check_80 : decode cX7_check 80 = .ok (.imul, 1) := by decide +kernel
theorem dX7_check_81 : decode cX7_check 81 = .ok (.iload_n 2, 1) := by decide +kernel
theorem dX7_check_82 : decode cX7_check 82 = .ok (.aload_n 0, 1) := by decide +kernel
theorem dX7_check_83 : decode cX7_check 83 = .ok (.getfield 19, 3) := by decide +kernel
theorem dX7_check_86 : decode cX7_check 86 = .ok (.getfield 161, 3) := by decide +kernel
theorem dX7_check_89 : decode cX7_check 89 = .ok (.invokevirtual 319, 3) := by decide +kernel
theorem dX7_check_92 : decode cX7_check 92 = .ok (.ifCond .ne 10, 3) := by decide +kernel
theorem dX7_check_95 : decode cX7_check 95 = .ok (.iconst 1, 1) := by decide +kernel
theorem dX7_check_96 : decode cX7_check 96 = .ok (.iconst 2, 1) := by decide +kernel
theorem dX7_check_97 : decode cX7_check 97 = .ok (.iload 4, 2) := by decide +kernel
theorem dX7_check_99 : decode cX7_check 99 = .ok (.imul, 1) := by decide +kernel
theorem dX7_check_100 : decode cX7_check 100 = .ok (.iadd, 1) := by decide +kernel
theorem dX7_check_101 : decode cX7_check 101 = .ok (.ireturn, 1) := by decide +kernel
theorem dX7_check_102 : decode cX7_check 102 = .ok (.aload_n 0, 1) := by decide +kernel
theorem dX7_check_103 : decode cX7_check 103 = .ok (.iconst 2, 1) := by decide +kernel
theorem dX7_check_104 : decode cX7_check 104 = .ok (.iload 4, 2) := by decide +kernel
theorem dX7_check_106 : decode cX7_check 106 = .ok (.imul, 1) := by decide +kernel
theorem dX7_check_107 : decode cX7_check 107 = .ok (.iconst 1, 1) := by decide +kernel
theorem dX7_check_108 : decode cX7_check 108 = .ok (.iadd, 1) := by decide +kernel
theorem dX7_check_109 : decode cX7_check 109 = .ok (.iload_n 2, 1) := by decide +kernel
theorem dX7_check_110 : decode cX7_check 110 = .ok (.aload_n 0, 1) := by decide +kernel
theorem dX7_check_111 : decode cX7_check 111 = .ok (.getfield 19, 3) := by decide +kernel
theorem dX7_check_114 : decode cX7_check 114 = .ok (.invokevirtual 322, 3) := by decide +kernel
theorem dX7_check_117 : decode cX7_check 117 = .ok (.invokevirtual 319, 3) := by decide +kernel
theorem dX7_check_120 : decode cX7_check 120 = .ok (.ifCond .ne 10, 3) := by decide +kernel
theorem dX7_check_123 : decode cX7_check 123 = .ok (.iconst 2, 1) := by decide +kernel
theorem dX7_check_124 : decode cX7_check 124 = .ok (.iconst 2, 1) := by decide +kernel
theorem dX7_check_125 : decode cX7_check 125 = .ok (.iload 4, 2) := by decide +kernel
theorem dX7_check_127 : decode cX7_check 127 = .ok (.imul, 1) := by decide +kernel
theorem dX7_check_128 : decode cX7_check 128 = .ok (.iadd, 1) := by decide +kernel
theorem dX7_check_129 : decode cX7_check 129 = .ok (.ireturn, 1) := by decide +kernel
theorem dX7_check_130 : decode cX7_check 130 = .ok (.iinc 4 1, 3) := by decide +kernel
theorem dX7_check_133 : decode cX7_check 133 = .ok (.goto (-70), 3) := by decide +kernel
theorem dX7_check_136 : decode cX7_check 136 = .ok (.iload_n 2, 1) := by decide +kernel
theorem dX7_check_137 : decode cX7_check 137 = .ok (.iconst 2, 1) := by decide +kernel
theorem dX7_check_138 : decode cX7_check 138 = .ok (.iload_n 3, 1) := by decide +kernel
theorem dX7_check_139 : decode cX7_check 139 = .ok (.imul, 1) := by decide +kernel
theorem dX7_check_140 : decode cX7_check 140 = .ok (.if_icmp .le 11, 3) := by decide +kernel
theorem dX7_check_143 : decode cX7_check 143 = .ok (.iconst 1, 1) := by decide +kernel
theorem dX7_check_144 : decode cX7_check 144 = .ok (.iconst 2, 1) := by decide +kernel
theorem dX7_check_145 : decode cX7_check 145 = .ok (.iload_n 3, 1) := by decide +kernel
theorem dX7_check_146 : decode cX7_check 146 = .ok (.imul, 1) := by decide +kernel
theorem dX7_check_147 : decode cX7_check 147 = .ok (.iadd, 1) := by decide +kernel
theorem dX7_check_148 : decode cX7_check 148 = .ok (.goto 4, 3) := by decide +kernel
theorem dX7_check_151 : decode cX7_check 151 = .ok (.iconst 0, 1) := by decide +kernel
theorem dX7_check_152 : decode cX7_check 152 = .ok (.ireturn, 1) := by decide +kernel
theorem dX7_keep_0 : decode cX7_keep 0 = .ok (.aload_n 0, 1) := by decide +kernel
theorem dX7_keep_1 : decode cX7_keep 1 = .ok (.getfield 16, 3) := by decide +kernel
theorem dX7_keep_4 : decode cX7_keep 4 = .ok (.aload_n 0, 1) := by decide +kernel
theorem dX7_keep_5 : decode cX7_keep 5 = .ok (.getfield 10, 3) := by decide +kernel
theorem dX7_keep_8 : decode cX7_keep 8 = .ok (.invokevirtual 200, 3) := by decide +kernel
theorem dX7_keep_11 : decode cX7_keep 11 = .ok (.aload_n 0, 1) := by decide +kernel
theorem dX7_keep_12 : decode cX7_keep 12 = .ok (.iconst 1, 1) := by decide +kernel
theorem dX7_keep_13 : decode cX7_keep 13 = .ok (.putfield 52, 3) := by decide +kernel
theorem dX7_keep_16 : decode cX7_keep 16 = .ok (.aload_n 0, 1) := by decide +kernel
theorem dX7_keep_17 : decode cX7_keep 17 = .ok (.getfield 16, 3) := by decide +kernel
theorem dX7_keep_20 : decode cX7_keep 20 = .ok (.getfield 73, 3) := by decide +kernel
theorem dX7_keep_23 : decode cX7_keep 23 = .ok (.ireturn, 1) := by decide +kernel
theorem dX7_back_0 : decode cX7_back 0 = .ok (.aload_n 0, 1) := by decide +kernel
theorem dX7_back_1 : decode cX7_back 1 = .ok (.getfield 52, 3) := by decide +kernel
theorem dX7_back_4 : decode cX7_back 4 = .ok (.ifCond .ne 6, 3) := by decide +kernel
theorem dX7_back_7 : decode cX7_back 7 = .ok (.ldc 127, 2) := by decide +kernel
theorem dX7_back_9 : decode cX7_back 9 = .ok (.ireturn, 1) := by decide +kernel
theorem dX7_back_10 : decode cX7_back 10 = .ok (.aload_n 0, 1) := by decide +kernel
theorem dX7_back_11 : decode cX7_back 11 = .ok (.getfield 10, 3) := by decide +kernel
theorem dX7_back_14 : decode cX7_back 14 = .ok (.aload_n 0, 1) := by decide +kernel
theorem dX7_back_15 : decode cX7_back 15 = .ok (.getfield 16, 3) := by decide +kernel
theorem dX7_back_18 : decode cX7_back 18 = .ok (.invokevirtual 200, 3) := by decide +kernel
theorem dX7_back_21 : decode cX7_back 21 = .ok (.aload_n 0, 1) := by decide +kernel
theorem dX7_back_22 : decode cX7_back 22 = .ok (.getfield 10, 3) := by decide +kernel
theorem dX7_back_25 : decode cX7_back 25 = .ok (.getfield 73, 3) := by decide +kernel
theorem dX7_back_28 : decode cX7_back 28 = .ok (.ireturn, 1) := by decide +kernel
theorem dX7_count_0 : decode cX7_count 0 = .ok (.iload_n 1, 1) := by decide +kernel
theorem dX7_count_1 : decode cX7_count 1 = .ok (.tableswitch 135 0 9 #[55, 63, 71, 79, 87, 95, 103, 111, 116, 127], 55) := by decide +kernel
theorem dX7_count_56 : decode cX7_count 56 = .ok (.aload_n 0, 1) := by decide +kernel
theorem dX7_count_57 : decode cX7_count 57 = .ok (.getfield 10, 3) := by decide +kernel
theorem dX7_count_60 : decode cX7_count 60 = .ok (.getfield 73, 3) := by decide +kernel
theorem dX7_count_63 : decode cX7_count 63 = .ok (.ireturn, 1) := by decide +kernel
theorem dX7_count_64 : decode cX7_count 64 = .ok (.aload_n 0, 1) := by decide +kernel
theorem dX7_count_65 : decode cX7_count 65 = .ok (.getfield 10, 3) := by decide +kernel
theorem dX7_count_68 : decode cX7_count 68 = .ok (.getfield 164, 3) := by decide +kernel
theorem dX7_count_71 : decode cX7_count 71 = .ok (.ireturn, 1) := by decide +kernel
theorem dX7_count_72 : decode cX7_count 72 = .ok (.aload_n 0, 1) := by decide +kernel
theorem dX7_count_73 : decode cX7_count 73 = .ok (.getfield 10, 3) := by decide +kernel
theorem dX7_count_76 : decode cX7_count 76 = .ok (.getfield 140, 3) := by decide +kernel
theorem dX7_count_79 : decode cX7_count 79 = .ok (.ireturn, 1) := by decide +kernel
theorem dX7_count_80 : decode cX7_count 80 = .ok (.aload_n 0, 1) := by decide +kernel
theorem dX7_count_81 : decode cX7_count 81 = .ok (.getfield 10, 3) := by decide +kernel
theorem dX7_count_84 : decode cX7_count 84 = .ok (.getfield 137, 3) := by decide +kernel
theorem dX7_count_87 : decode cX7_count 87 = .ok (.ireturn, 1) := by decide +kernel
theorem dX7_count_88 : decode cX7_count 88 = .ok (.aload_n 0, 1) := by decide +kernel
theorem dX7_count_89 : decode cX7_count 89 = .ok (.getfield 10, 3) := by decide +kernel
theorem dX7_count_92 : decode cX7_count 92 = .ok (.getfield 109, 3) := by decide +kernel
theorem dX7_count_95 : decode cX7_count 95 = .ok (.ireturn, 1) := by decide +kernel
theorem dX7_count_96 : decode cX7_count 96 = .ok (.aload_n 0, 1) := by decide +kernel
theorem dX7_count_97 : decode cX7_count 97 = .ok (.getfield 10, 3) := by decide +kernel
theorem dX7_count_100 : decode cX7_count 100 = .ok (.getfield 146, 3) := by decide +kernel
theorem dX7_count_103 : decode cX7_count 103 = .ok (.ireturn, 1) := by decide +kernel
theorem dX7_count_104 : decode cX7_count 104 = .ok (.aload_n 0, 1) := by decide +kernel
theorem dX7_count_105 : decode cX7_count 105 = .ok (.getfield 10, 3) := by decide +kernel
theorem dX7_count_108 : decode cX7_count 108 = .ok (.getfield 244, 3) := by decide +kernel
theorem dX7_count_111 : decode cX7_count 111 = .ok (.ireturn, 1) := by decide +kernel
theorem dX7_count_112 : decode cX7_count 112 = .ok (.aload_n 0, 1) := by decide +kernel
theorem dX7_count_113 : decode cX7_count 113 = .ok (.getfield 48, 3) := by decide +kernel
theorem dX7_count_116 : decode cX7_count 116 = .ok (.ireturn, 1) := by decide +kernel
theorem dX7_count_117 : decode cX7_count 117 = .ok (.aload_n 0, 1) := by decide +kernel
theorem dX7_count_118 : decode cX7_count 118 = .ok (.getfield 28, 3) := by decide +kernel
theorem dX7_count_121 : decode cX7_count 121 = .ok (.getfield 221, 3) := by decide +kernel
theorem dX7_count_124 : decode cX7_count 124 = .ok (.getfield 225, 3) := by decide +kernel
theorem dX7_count_127 : decode cX7_count 127 = .ok (.ireturn, 1) := by decide +kernel
theorem dX7_count_128 : decode cX7_count 128 = .ok (.aload_n 0, 1) := by decide +kernel
theorem dX7_count_129 : decode cX7_count 129 = .ok (.getfield 10, 3) := by decide +kernel
theorem dX7_count_132 : decode cX7_count 132 = .ok (.getfield 158, 3) := by decide +kernel
theorem dX7_count_135 : decode cX7_count 135 = .ok (.ireturn, 1) := by decide +kernel
theorem dX7_count_136 : decode cX7_count 136 = .ok (.ldc 68, 2) := by decide +kernel
theorem dX7_count_138 : decode cX7_count 138 = .ok (.ireturn, 1) := by decide +kernel
theorem dX7_startThought_0 : decode cX7_startThought 0 = .ok (.aload_n 0, 1) := by decide +kernel
theorem dX7_startThought_1 : decode cX7_startThought 1 = .ok (.getfield 19, 3) := by decide +kernel
theorem dX7_startThought_4 : decode cX7_startThought 4 = .ok (.aload_n 0, 1) := by decide +kernel
theorem dX7_startThought_5 : decode cX7_startThought 5 = .ok (.getfield 10, 3) := by decide +kernel
theorem dX7_startThought_8 : decode cX7_startThought 8 = .ok (.invokevirtual 200, 3) := by decide +kernel
theorem dX7_startThought_11 : decode cX7_startThought 11 = .ok (.return_, 1) := by decide +kernel
theorem dX7_startThoughtWithout_0 : decode cX7_startThoughtWithout 0 = .ok (.aload_n 0, 1) := by decide +kernel
theorem dX7_startThoughtWithout_1 : decode cX7_startThoughtWithout 1 = .ok (.getfield 19, 3) := by decide +kernel
theorem dX7_startThoughtWithout_4 : decode cX7_startThoughtWithout 4 = .ok (.aload_n 0, 1) := by decide +kernel
theorem dX7_startThoughtWithout_5 : decode cX7_startThoughtWithout 5 = .ok (.getfield 10, 3) := by decide +kernel
theorem dX7_startThoughtWithout_8 : decode cX7_startThoughtWithout 8 = .ok (.invokevirtual 200, 3) := by decide +kernel
theorem dX7_startThoughtWithout_11 : decode cX7_startThoughtWithout 11 = .ok (.aload_n 0, 1) := by decide +kernel
theorem dX7_startThoughtWithout_12 : decode cX7_startThoughtWithout 12 = .ok (.getfield 19, 3) := by decide +kernel
theorem dX7_startThoughtWithout_15 : decode cX7_startThoughtWithout 15 = .ok (.getfield 80, 3) := by decide +kernel
theorem dX7_startThoughtWithout_18 : decode cX7_startThoughtWithout 18 = .ok (.iload_n 1, 1) := by decide +kernel
theorem dX7_startThoughtWithout_19 : decode cX7_startThoughtWithout 19 = .ok (.aaload, 1) := by decide +kernel
theorem dX7_startThoughtWithout_20 : decode cX7_startThoughtWithout 20 = .ok (.bipush 13, 2) := by decide +kernel
theorem dX7_startThoughtWithout_22 : decode cX7_startThoughtWithout 22 = .ok (.putfield 95, 3) := by decide +kernel
theorem dX7_startThoughtWithout_25 : decode cX7_startThoughtWithout 25 = .ok (.return_, 1) := by decide +kernel
theorem dX7_apartWithMass_0 : decode cX7_apartWithMass 0 = .ok (.aload_n 0, 1) := by decide +kernel
theorem dX7_apartWithMass_1 : decode cX7_apartWithMass 1 = .ok (.invokevirtual 186, 3) := by decide +kernel
theorem dX7_apartWithMass_4 : decode cX7_apartWithMass 4 = .ok (.aload_n 0, 1) := by decide +kernel
theorem dX7_apartWithMass_5 : decode cX7_apartWithMass 5 = .ok (.getfield 19, 3) := by decide +kernel
theorem dX7_apartWithMass_8 : decode cX7_apartWithMass 8 = .ok (.getfield 80, 3) := by decide +kernel
theorem dX7_apartWithMass_11 : decode cX7_apartWithMass 11 = .ok (.iload_n 2, 1) := by decide +kernel
theorem dX7_apartWithMass_12 : decode cX7_apartWithMass 12 = .ok (.aaload, 1) := by decide +kernel
theorem dX7_apartWithMass_13 : decode cX7_apartWithMass 13 = .ok (.iload_n 3, 1) := by decide +kernel
theorem dX7_apartWithMass_14 : decode cX7_apartWithMass 14 = .ok (.putfield 92, 3) := by decide +kernel
theorem dX7_apartWithMass_17 : decode cX7_apartWithMass 17 = .ok (.iconst 0, 1) := by decide +kernel
theorem dX7_apartWithMass_18 : decode cX7_apartWithMass 18 = .ok (.istore 4, 2) := by decide +kernel
theorem dX7_apartWithMass_20 : decode cX7_apartWithMass 20 = .ok (.iconst 0, 1) := by decide +kernel
theorem dX7_apartWithMass_21 : decode cX7_apartWithMass 21 = .ok (.istore 5, 2) := by decide +kernel
theorem dX7_apartWithMass_23 : decode cX7_apartWithMass 23 = .ok (.iload 5, 2) := by decide +kernel
theorem dX7_apartWithMass_25 : decode cX7_apartWithMass 25 = .ok (.aload_n 1, 1) := by decide +kernel
theorem dX7_apartWithMass_26 : decode cX7_apartWithMass 26 = .ok (.getfield 264, 3) := by decide +kernel
theorem dX7_apartWithMass_29 : decode cX7_apartWithMass 29 = .ok (.if_icmp .ge 53, 3) := by decide +kernel
theorem dX7_apartWithMass_32 : decode cX7_apartWithMass 32 = .ok (.aload_n 1, 1) := by decide +kernel
theorem dX7_apartWithMass_33 : decode cX7_apartWithMass 33 = .ok (.iload 5, 2) := by decide +kernel
theorem dX7_apartWithMass_35 : decode cX7_apartWithMass 35 = .ok (.invokevirtual 277, 3) := by decide +kernel
theorem dX7_apartWithMass_38 : decode cX7_apartWithMass 38 = .ok (.ifCond .eq 31, 3) := by decide +kernel
theorem dX7_apartWithMass_41 : decode cX7_apartWithMass 41 = .ok (.iload 4, 2) := by decide +kernel
theorem dX7_apartWithMass_43 : decode cX7_apartWithMass 43 = .ok (.aload_n 0, 1) := by decide +kernel
theorem dX7_apartWithMass_44 : decode cX7_apartWithMass 44 = .ok (.getfield 19, 3) := by decide +kernel
theorem dX7_apartWithMass_47 : decode cX7_apartWithMass 47 = .ok (.getfield 80, 3) := by decide +kernel
theorem dX7_apartWithMass_50 : decode cX7_apartWithMass 50 = .ok (.iload_n 2, 1) := by decide +kernel
theorem dX7_apartWithMass_51 : decode cX7_apartWithMass 51 = .ok (.aaload, 1) := by decide +kernel
theorem dX7_apartWithMass_52 : decode cX7_apartWithMass 52 = .ok (.getfield 95, 3) := by decide +kernel
theorem dX7_apartWithMass_55 : decode cX7_apartWithMass 55 = .ok (.aload_n 1, 1) := by decide +kernel
theorem dX7_apartWithMass_56 : decode cX7_apartWithMass 56 = .ok (.getfield 272, 3) := by decide +kernel
theorem dX7_apartWithMass_59 : decode cX7_apartWithMass 59 = .ok (.iload 5, 2) := by decide +kernel
theorem dX7_apartWithMass_61 : decode cX7_apartWithMass 61 = .ok (.iaload, 1) := by decide +kernel
theorem dX7_apartWithMass_62 : decode cX7_apartWithMass 62 = .ok (.isub, 1) := by decide +kernel
theorem dX7_apartWithMass_63 : decode cX7_apartWithMass 63 = .ok (.invokestatic 325, 3) := by decide +kernel
theorem dX7_apartWithMass_66 : decode cX7_apartWithMass 66 = .ok (.iadd, 1) := by decide +kernel
theorem dX7_apartWithMass_67 : decode cX7_apartWithMass 67 = .ok (.istore 4, 2) := by decide +kernel
theorem dX7_apartWithMass_69 : decode cX7_apartWithMass 69 = .ok (.aload_n 0, 1) := by decide +kernel
theorem dX7_apartWithMass_70 : decode cX7_apartWithMass 70 = .ok (.getfield 19, 3) := by decide +kernel
theorem dX7_apartWithMass_73 : decode cX7_apartWithMass 73 = .ok (.invokevirtual 189, 3) := by decide +kernel
theorem dX7_apartWithMass_76 : decode cX7_apartWithMass 76 = .ok (.iinc 5 1, 3) := by decide +kernel
theorem dX7_apartWithMass_79 : decode cX7_apartWithMass 79 = .ok (.goto (-56), 3) := by decide +kernel
theorem dX7_apartWithMass_82 : decode cX7_apartWithMass 82 = .ok (.iload 4, 2) := by decide +kernel
theorem dX7_apartWithMass_84 : decode cX7_apartWithMass 84 = .ok (.ireturn, 1) := by decide +kernel
theorem dX7_isWaiting_0 : decode cX7_isWaiting 0 = .ok (.iload_n 1, 1) := by decide +kernel
theorem dX7_isWaiting_1 : decode cX7_isWaiting 1 = .ok (.iload_n 2, 1) := by decide +kernel
theorem dX7_isWaiting_2 : decode cX7_isWaiting 2 = .ok (.if_icmp .ge 23, 3) := by decide +kernel
theorem dX7_isWaiting_5 : decode cX7_isWaiting 5 = .ok (.iload_n 1, 1) := by decide +kernel
theorem dX7_isWaiting_6 : decode cX7_isWaiting 6 = .ok (.bipush 60, 2) := by decide +kernel
theorem dX7_isWaiting_8 : decode cX7_isWaiting 8 = .ok (.if_icmp .ge 17, 3) := by decide +kernel
theorem dX7_isWaiting_11 : decode cX7_isWaiting 11 = .ok (.aload_n 0, 1) := by decide +kernel
theorem dX7_isWaiting_12 : decode cX7_isWaiting 12 = .ok (.getfield 44, 3) := by decide +kernel
theorem dX7_isWaiting_15 : decode cX7_isWaiting 15 = .ok (.iload_n 1, 1) := by decide +kernel
theorem dX7_isWaiting_16 : decode cX7_isWaiting 16 = .ok (.iaload, 1) := by decide +kernel
theorem dX7_isWaiting_17 : decode cX7_isWaiting 17 = .ok (.iload_n 3, 1) := by decide +kernel
theorem dX7_isWaiting_18 : decode cX7_isWaiting 18 = .ok (.if_icmp .ne 7, 3) := by decide +kernel
theorem dX7_isWaiting_21 : decode cX7_isWaiting 21 = .ok (.iconst 1, 1) := by decide +kernel
theorem dX7_isWaiting_22 : decode cX7_isWaiting 22 = .ok (.goto 4, 3) := by decide +kernel
theorem dX7_isWaiting_25 : decode cX7_isWaiting 25 = .ok (.iconst 0, 1) := by decide +kernel
theorem dX7_isWaiting_26 : decode cX7_isWaiting 26 = .ok (.ireturn, 1) := by decide +kernel
theorem dX7_within_0 : decode cX7_within 0 = .ok (.iload_n 0, 1) := by decide +kernel
theorem dX7_within_1 : decode cX7_within 1 = .ok (.iload_n 1, 1) := by decide +kernel
theorem dX7_within_2 : decode cX7_within 2 = .ok (.if_icmp .lt 12, 3) := by decide +kernel
theorem dX7_within_5 : decode cX7_within 5 = .ok (.iload_n 0, 1) := by decide +kernel
theorem dX7_within_6 : decode cX7_within 6 = .ok (.iload_n 2, 1) := by decide +kernel
theorem dX7_within_7 : decode cX7_within 7 = .ok (.if_icmp .gt 7, 3) := by decide +kernel
theorem dX7_within_10 : decode cX7_within 10 = .ok (.iconst 1, 1) := by decide +kernel
theorem dX7_within_11 : decode cX7_within 11 = .ok (.goto 4, 3) := by decide +kernel
theorem dX7_within_14 : decode cX7_within 14 = .ok (.iconst 0, 1) := by decide +kernel
theorem dX7_within_15 : decode cX7_within 15 = .ok (.ireturn, 1) := by decide +kernel
theorem dX7_hold_0 : decode cX7_hold 0 = .ok (.iload_n 1, 1) := by decide +kernel
theorem dX7_hold_1 : decode cX7_hold 1 = .ok (.iload_n 2, 1) := by decide +kernel
theorem dX7_hold_2 : decode cX7_hold 2 = .ok (.iload_n 0, 1) := by decide +kernel
theorem dX7_hold_3 : decode cX7_hold 3 = .ok (.invokestatic 149, 3) := by decide +kernel
theorem dX7_hold_6 : decode cX7_hold 6 = .ok (.invokestatic 328, 3) := by decide +kernel
theorem dX7_hold_9 : decode cX7_hold 9 = .ok (.ireturn, 1) := by decide +kernel
theorem dX7_isKind_0 : decode cX7_isKind 0 = .ok (.iload_n 0, 1) := by decide +kernel
theorem dX7_isKind_1 : decode cX7_isKind 1 = .ok (.iconst 0, 1) := by decide +kernel
theorem dX7_isKind_2 : decode cX7_isKind 2 = .ok (.iconst 5, 1) := by decide +kernel
theorem dX7_isKind_3 : decode cX7_isKind 3 = .ok (.invokestatic 128, 3) := by decide +kernel
theorem dX7_isKind_6 : decode cX7_isKind 6 = .ok (.ireturn, 1) := by decide +kernel
theorem dX7_isLetter_0 : decode cX7_isLetter 0 = .ok (.iload_n 0, 1) := by decide +kernel
theorem dX7_isLetter_1 : decode cX7_isLetter 1 = .ok (.iconst 0, 1) := by decide +kernel
theorem dX7_isLetter_2 : decode cX7_isLetter 2 = .ok (.bipush 25, 2) := by decide +kernel
theorem dX7_isLetter_4 : decode cX7_isLetter 4 = .ok (.invokestatic 128, 3) := by decide +kernel
theorem dX7_isLetter_7 : decode cX7_isLetter 7 = .ok (.ireturn, 1) := by decide +kernel
theorem dX7_isMass_0 : decode cX7_isMass 0 = .ok (.iload_n 0, 1) := by decide +kernel
theorem dX7_isMass_1 : decode cX7_isMass 1 = .ok (.iconst 1, 1) := by decide +kernel
theorem dX7_isMass_2 : decode cX7_isMass 2 = .ok (.bipush 50, 2) := by decide +kernel
theorem dX7_isMass_4 : decode cX7_isMass 4 = .ok (.invokestatic 128, 3) := by decide +kernel
theorem dX7_isMass_7 : decode cX7_isMass 7 = .ok (.ireturn, 1) := by decide +kernel
theorem dX7_isReach_0 : decode cX7_isReach 0 = .ok (.iload_n 0, 1) := by decide +kernel
theorem dX7_isReach_1 : decode cX7_isReach 1 = .ok (.ifCond .lt 13, 3) := by decide +kernel
theorem dX7_isReach_4 : decode cX7_isReach 4 = .ok (.iload_n 0, 1) := by decide +kernel
theorem dX7_isReach_5 : decode cX7_isReach 5 = .ok (.bipush 12, 2) := by decide +kernel
theorem dX7_isReach_7 : decode cX7_isReach 7 = .ok (.if_icmp .ge 7, 3) := by decide +kernel
theorem dX7_isReach_10 : decode cX7_isReach 10 = .ok (.iconst 1, 1) := by decide +kernel
theorem dX7_isReach_11 : decode cX7_isReach 11 = .ok (.goto 4, 3) := by decide +kernel
theorem dX7_isReach_14 : decode cX7_isReach 14 = .ok (.iconst 0, 1) := by decide +kernel
theorem dX7_isReach_15 : decode cX7_isReach 15 = .ok (.ireturn, 1) := by decide +kernel
theorem dX7_isSheet_0 : decode cX7_isSheet 0 = .ok (.iload_n 0, 1) := by decide +kernel
theorem dX7_isSheet_1 : decode cX7_isSheet 1 = .ok (.iconst 0, 1) := by decide +kernel
theorem dX7_isSheet_2 : decode cX7_isSheet 2 = .ok (.iconst 3, 1) := by decide +kernel
theorem dX7_isSheet_3 : decode cX7_isSheet 3 = .ok (.invokestatic 128, 3) := by decide +kernel
theorem dX7_isSheet_6 : decode cX7_isSheet 6 = .ok (.ireturn, 1) := by decide +kernel
theorem dX7_isSlot_0 : decode cX7_isSlot 0 = .ok (.iload_n 0, 1) := by decide +kernel
theorem dX7_isSlot_1 : decode cX7_isSlot 1 = .ok (.iconst 0, 1) := by decide +kernel
theorem dX7_isSlot_2 : decode cX7_isSlot 2 = .ok (.iconst 4, 1) := by decide +kernel
theorem dX7_isSlot_3 : decode cX7_isSlot 3 = .ok (.invokestatic 128, 3) := by decide +kernel
theorem dX7_isSlot_6 : decode cX7_isSlot 6 = .ok (.ireturn, 1) := by decide +kernel
