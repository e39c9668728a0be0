theorem dX8_isWord_21 : decode cX8_isWord 21 = .ok (.if_icmp .eq 5, 3) := by decide +kernel
theorem dX8_isWord_24 : decode cX8_isWord 24 = .ok (.iconst 0, 1) := by decide +kernel
theorem dX8_isWord_25 : decode cX8_isWord 25 = .ok (.ireturn, 1) := by decide +kernel
theorem dX8_isWord_26 : decode cX8_isWord 26 = .ok (.iconst 0, 1) := by decide +kernel
theorem dX8_isWord_27 : decode cX8_isWord 27 = .ok (.istore_n 2, 1) := by decide +kernel
theorem dX8_isWord_28 : decode cX8_isWord 28 = .ok (.iload_n 2, 1) := by decide +kernel
theorem dX8_isWord_29 : decode cX8_isWord 29 = .ok (.aload_n 1, 1) := by decide +kernel
theorem dX8_isWord_30 : decode cX8_isWord 30 = .ok (.invokevirtual 85, 3) := by decide +kernel
theorem dX8_isWord_33 : decode cX8_isWord 33 = .ok (.if_icmp .ge 30, 3) := by decide +kernel
theorem dX8_isWord_36 : decode cX8_isWord 36 = .ok (.aload_n 0, 1) := by decide +kernel
theorem dX8_isWord_37 : decode cX8_isWord 37 = .ok (.getfield 9, 3) := by decide +kernel
theorem dX8_isWord_40 : decode cX8_isWord 40 = .ok (.aload_n 0, 1) := by decide +kernel
theorem dX8_isWord_41 : decode cX8_isWord 41 = .ok (.getfield 79, 3) := by decide +kernel
theorem dX8_isWord_44 : decode cX8_isWord 44 = .ok (.iload_n 2, 1) := by decide +kernel
theorem dX8_isWord_45 : decode cX8_isWord 45 = .ok (.iadd, 1) := by decide +kernel
theorem dX8_isWord_46 : decode cX8_isWord 46 = .ok (.iaload, 1) := by decide +kernel
theorem dX8_isWord_47 : decode cX8_isWord 47 = .ok (.aload_n 1, 1) := by decide +kernel
theorem dX8_isWord_48 : decode cX8_isWord 48 = .ok (.iload_n 2, 1) := by decide +kernel
theorem dX8_isWord_49 : decode cX8_isWord 49 = .ok (.invokevirtual 90, 3) := by decide +kernel
theorem dX8_isWord_52 : decode cX8_isWord 52 = .ok (.if_icmp .eq 5, 3) := by decide +kernel
theorem dX8_isWord_55 : decode cX8_isWord 55 = .ok (.iconst 0, 1) := by decide +kernel
theorem dX8_isWord_56 : decode cX8_isWord 56 = .ok (.ireturn, 1) := by decide +kernel
theorem dX8_isWord_57 : decode cX8_isWord 57 = .ok (.iinc 2 1, 3) := by decide +kernel
theorem dX8_isWord_60 : decode cX8_isWord 60 = .ok (.goto (-32), 3) := by decide +kernel
theorem dX8_isWord_63 : decode cX8_isWord 63 = .ok (.iconst 1, 1) := by decide +kernel
theorem dX8_isWord_64 : decode cX8_isWord 64 = .ok (.ireturn, 1) := by decide +kernel
theorem dX8_variableHere_0 : decode cX8_variableHere 0 = .ok (.aload_n 0, 1) := by decide +kernel
theorem dX8_variableHere_1 : decode cX8_variableHere 1 = .ok (.getfield 63, 3) := by decide +kernel
theorem dX8_variableHere_4 : decode cX8_variableHere 4 = .ok (.iconst 1, 1) := by decide +kernel
theorem dX8_variableHere_5 : decode cX8_variableHere 5 = .ok (.if_icmp .ne 45, 3) := by decide +kernel
theorem dX8_variableHere_8 : decode cX8_variableHere 8 = .ok (.aload_n 0, 1) := by decide +kernel
theorem dX8_variableHere_9 : decode cX8_variableHere 9 = .ok (.getfield 48, 3) := by decide +kernel
theorem dX8_variableHere_12 : decode cX8_variableHere 12 = .ok (.aload_n 0, 1) := by decide +kernel
theorem dX8_variableHere_13 : decode cX8_variableHere 13 = .ok (.getfield 79, 3) := by decide +kernel
theorem dX8_variableHere_16 : decode cX8_variableHere 16 = .ok (.isub, 1) := by decide +kernel
theorem dX8_variableHere_17 : decode cX8_variableHere 17 = .ok (.iconst 1, 1) := by decide +kernel
theorem dX8_variableHere_18 : decode cX8_variableHere 18 = .ok (.if_icmp .ne 32, 3) := by decide +kernel
theorem dX8_variableHere_21 : decode cX8_variableHere 21 = .ok (.aload_n 0, 1) := by decide +kernel
theorem dX8_variableHere_22 : decode cX8_variableHere 22 = .ok (.getfield 9, 3) := by decide +kernel
theorem dX8_variableHere_25 : decode cX8_variableHere 25 = .ok (.aload_n 0, 1) := by decide +kernel
theorem dX8_variableHere_26 : decode cX8_variableHere 26 = .ok (.getfield 79, 3) := by decide +kernel
theorem dX8_variableHere_29 : decode cX8_variableHere 29 = .ok (.iaload, 1) := by decide +kernel
theorem dX8_variableHere_30 : decode cX8_variableHere 30 = .ok (.bipush 102, 2) := by decide +kernel
theorem dX8_variableHere_32 : decode cX8_variableHere 32 = .ok (.if_icmp .gt 18, 3) := by decide +kernel
theorem dX8_variableHere_35 : decode cX8_variableHere 35 = .ok (.aload_n 0, 1) := by decide +kernel
theorem dX8_variableHere_36 : decode cX8_variableHere 36 = .ok (.getfield 9, 3) := by decide +kernel
theorem dX8_variableHere_39 : decode cX8_variableHere 39 = .ok (.aload_n 0, 1) := by decide +kernel
theorem dX8_variableHere_40 : decode cX8_variableHere 40 = .ok (.getfield 79, 3) := by decide +kernel
theorem dX8_variableHere_43 : decode cX8_variableHere 43 = .ok (.iaload, 1) := by decide +kernel
theorem dX8_variableHere_44 : decode cX8_variableHere 44 = .ok (.bipush 97, 2) := by decide +kernel
theorem dX8_variableHere_46 : decode cX8_variableHere 46 = .ok (.isub, 1) := by decide +kernel
theorem dX8_variableHere_47 : decode cX8_variableHere 47 = .ok (.goto 4, 3) := by decide +kernel
theorem dX8_variableHere_50 : decode cX8_variableHere 50 = .ok (.iconst (-1), 1) := by decide +kernel
theorem dX8_variableHere_51 : decode cX8_variableHere 51 = .ok (.ireturn, 1) := by decide +kernel
theorem dX8_kindHere_0 : decode cX8_kindHere 0 = .ok (.aload_n 0, 1) := by decide +kernel
theorem dX8_kindHere_1 : decode cX8_kindHere 1 = .ok (.invokevirtual 94, 3) := by decide +kernel
theorem dX8_kindHere_4 : decode cX8_kindHere 4 = .ok (.iconst (-1), 1) := by decide +kernel
theorem dX8_kindHere_5 : decode cX8_kindHere 5 = .ok (.if_icmp .eq 5, 3) := by decide +kernel
theorem dX8_kindHere_8 : decode cX8_kindHere 8 = .ok (.iconst 0, 1) := by decide +kernel
theorem dX8_kindHere_9 : decode cX8_kindHere 9 = .ok (.ireturn, 1) := by decide +kernel
theorem dX8_kindHere_10 : decode cX8_kindHere 10 = .ok (.aload_n 0, 1) := by decide +kernel
theorem dX8_kindHere_11 : decode cX8_kindHere 11 = .ok (.ldc 97, 2) := by decide +kernel
theorem dX8_kindHere_13 : decode cX8_kindHere 13 = .ok (.invokevirtual 99, 3) := by decide +kernel
theorem dX8_kindHere_16 : decode cX8_kindHere 16 = .ok (.ifCond .eq 5, 3) := by decide +kernel
theorem dX8_kindHere_19 : decode cX8_kindHere 19 = .ok (.iconst 1, 1) := by decide +kernel
theorem dX8_kindHere_20 : decode cX8_kindHere 20 = .ok (.ireturn, 1) := by decide +kernel
theorem dX8_kindHere_21 : decode cX8_kindHere 21 = .ok (.aload_n 0, 1) := by decide +kernel
theorem dX8_kindHere_22 : decode cX8_kindHere 22 = .ok (.ldc 103, 2) := by decide +kernel
theorem dX8_kindHere_24 : decode cX8_kindHere 24 = .ok (.invokevirtual 99, 3) := by decide +kernel
theorem dX8_kindHere_27 : decode cX8_kindHere 27 = .ok (.ifCond .eq 5, 3) := by decide +kernel
theorem dX8_kindHere_30 : decode cX8_kindHere 30 = .ok (.iconst 2, 1) := by decide +kernel
theorem dX8_kindHere_31 : decode cX8_kindHere 31 = .ok (.ireturn, 1) := by decide +kernel
theorem dX8_kindHere_32 : decode cX8_kindHere 32 = .ok (.aload_n 0, 1) := by decide +kernel
theorem dX8_kindHere_33 : decode cX8_kindHere 33 = .ok (.ldc 105, 2) := by decide +kernel
theorem dX8_kindHere_35 : decode cX8_kindHere 35 = .ok (.invokevirtual 99, 3) := by decide +kernel
theorem dX8_kindHere_38 : decode cX8_kindHere 38 = .ok (.ifCond .eq 5, 3) := by decide +kernel
theorem dX8_kindHere_41 : decode cX8_kindHere 41 = .ok (.iconst 3, 1) := by decide +kernel
theorem dX8_kindHere_42 : decode cX8_kindHere 42 = .ok (.ireturn, 1) := by decide +kernel
theorem dX8_kindHere_43 : decode cX8_kindHere 43 = .ok (.aload_n 0, 1) := by decide +kernel
theorem dX8_kindHere_44 : decode cX8_kindHere 44 = .ok (.ldc 107, 2) := by decide +kernel
theorem dX8_kindHere_46 : decode cX8_kindHere 46 = .ok (.invokevirtual 99, 3) := by decide +kernel
theorem dX8_kindHere_49 : decode cX8_kindHere 49 = .ok (.ifCond .eq 5, 3) := by decide +kernel
theorem dX8_kindHere_52 : decode cX8_kindHere 52 = .ok (.iconst 4, 1) := by decide +kernel
theorem dX8_kindHere_53 : decode cX8_kindHere 53 = .ok (.ireturn, 1) := by decide +kernel
theorem dX8_kindHere_54 : decode cX8_kindHere 54 = .ok (.aload_n 0, 1) := by decide +kernel
theorem dX8_kindHere_55 : decode cX8_kindHere 55 = .ok (.ldc 109, 2) := by decide +kernel
theorem dX8_kindHere_57 : decode cX8_kindHere 57 = .ok (.invokevirtual 99, 3) := by decide +kernel
theorem dX8_kindHere_60 : decode cX8_kindHere 60 = .ok (.ifCond .eq 5, 3) := by decide +kernel
theorem dX8_kindHere_63 : decode cX8_kindHere 63 = .ok (.iconst 5, 1) := by decide +kernel
theorem dX8_kindHere_64 : decode cX8_kindHere 64 = .ok (.ireturn, 1) := by decide +kernel
theorem dX8_kindHere_65 : decode cX8_kindHere 65 = .ok (.aload_n 0, 1) := by decide +kernel
theorem dX8_kindHere_66 : decode cX8_kindHere 66 = .ok (.ldc 111, 2) := by decide +kernel
theorem dX8_kindHere_68 : decode cX8_kindHere 68 = .ok (.invokevirtual 99, 3) := by decide +kernel
theorem dX8_kindHere_71 : decode cX8_kindHere 71 = .ok (.ifCond .eq 8, 3) := by decide +kernel
theorem dX8_kindHere_74 : decode cX8_kindHere 74 = .ok (.bipush 6, 2) := by decide +kernel
theorem dX8_kindHere_76 : decode cX8_kindHere 76 = .ok (.goto 4, 3) := by decide +kernel
theorem dX8_kindHere_79 : decode cX8_kindHere 79 = .ok (.iconst (-1), 1) := by decide +kernel
theorem dX8_kindHere_80 : decode cX8_kindHere 80 = .ok (.ireturn, 1) := by decide +kernel
theorem dX8_readStatement_0 : decode cX8_readStatement 0 = .ok (.aload_n 0, 1) := by decide +kernel
theorem dX8_readStatement_1 : decode cX8_readStatement 1 = .ok (.invokevirtual 113, 3) := by decide +kernel
theorem dX8_readStatement_4 : decode cX8_readStatement 4 = .ok (.istore_n 1, 1) := by decide +kernel
theorem dX8_readStatement_5 : decode cX8_readStatement 5 = .ok (.iload_n 1, 1) := by decide +kernel
theorem dX8_readStatement_6 : decode cX8_readStatement 6 = .ok (.iconst (-1), 1) := by decide +kernel
theorem dX8_readStatement_7 : decode cX8_readStatement 7 = .ok (.if_icmp .ne 9, 3) := by decide +kernel
theorem dX8_readStatement_10 : decode cX8_readStatement 10 = .ok (.aload_n 0, 1) := by decide +kernel
theorem dX8_readStatement_11 : decode cX8_readStatement 11 = .ok (.iconst 1, 1) := by decide +kernel
theorem dX8_readStatement_12 : decode cX8_readStatement 12 = .ok (.invokevirtual 116, 3) := by decide +kernel
theorem dX8_readStatement_15 : decode cX8_readStatement 15 = .ok (.return_, 1) := by decide +kernel
theorem dX8_readStatement_16 : decode cX8_readStatement 16 = .ok (.aload_n 0, 1) := by decide +kernel
theorem dX8_readStatement_17 : decode cX8_readStatement 17 = .ok (.getfield 18, 3) := by decide +kernel
theorem dX8_readStatement_20 : decode cX8_readStatement 20 = .ok (.invokevirtual 120, 3) := by decide +kernel
theorem dX8_readStatement_23 : decode cX8_readStatement 23 = .ok (.ifCond .eq 9, 3) := by decide +kernel
theorem dX8_readStatement_26 : decode cX8_readStatement 26 = .ok (.aload_n 0, 1) := by decide +kernel
theorem dX8_readStatement_27 : decode cX8_readStatement 27 = .ok (.iconst 3, 1) := by decide +kernel
theorem dX8_readStatement_28 : decode cX8_readStatement 28 = .ok (.invokevirtual 116, 3) := by decide +kernel
theorem dX8_readStatement_31 : decode cX8_readStatement 31 = .ok (.return_, 1) := by decide +kernel
theorem dX8_readStatement_32 : decode cX8_readStatement 32 = .ok (.aload_n 0, 1) := by decide +kernel
theorem dX8_readStatement_33 : decode cX8_readStatement 33 = .ok (.getfield 18, 3) := by decide +kernel
theorem dX8_readStatement_36 : decode cX8_readStatement 36 = .ok (.iload_n 1, 1) := by decide +kernel
theorem dX8_readStatement_37 : decode cX8_readStatement 37 = .ok (.aload_n 0, 1) := by decide +kernel
theorem dX8_readStatement_38 : decode cX8_readStatement 38 = .ok (.getfield 26, 3) := by decide +kernel
theorem dX8_readStatement_41 : decode cX8_readStatement 41 = .ok (.aload_n 0, 1) := by decide +kernel
theorem dX8_readStatement_42 : decode cX8_readStatement 42 = .ok (.getfield 54, 3) := by decide +kernel
theorem dX8_readStatement_45 : decode cX8_readStatement 45 = .ok (.iaload, 1) := by decide +kernel
theorem dX8_readStatement_46 : decode cX8_readStatement 46 = .ok (.aload_n 0, 1) := by decide +kernel
theorem dX8_readStatement_47 : decode cX8_readStatement 47 = .ok (.getfield 29, 3) := by decide +kernel
theorem dX8_readStatement_50 : decode cX8_readStatement 50 = .ok (.aload_n 0, 1) := by decide +kernel
theorem dX8_readStatement_51 : decode cX8_readStatement 51 = .ok (.getfield 54, 3) := by decide +kernel
theorem dX8_readStatement_54 : decode cX8_readStatement 54 = .ok (.iaload, 1) := by decide +kernel
theorem dX8_readStatement_55 : decode cX8_readStatement 55 = .ok (.aload_n 0, 1) := by decide +kernel
theorem dX8_readStatement_56 : decode cX8_readStatement 56 = .ok (.getfield 32, 3) := by decide +kernel
theorem dX8_readStatement_59 : decode cX8_readStatement 59 = .ok (.aload_n 0, 1) := by decide +kernel
theorem dX8_readStatement_60 : decode cX8_readStatement 60 = .ok (.getfield 54, 3) := by decide +kernel
theorem dX8_readStatement_63 : decode cX8_readStatement 63 = .ok (.baload, 1) := by decide +kernel
theorem dX8_readStatement_64 : decode cX8_readStatement 64 = .ok (.invokevirtual 124, 3) := by decide +kernel
theorem dX8_readStatement_67 : decode cX8_readStatement 67 = .ok (.istore_n 2, 1) := by decide +kernel
theorem dX8_readStatement_68 : decode cX8_readStatement 68 = .ok (.aload_n 0, 1) := by decide +kernel
theorem dX8_readStatement_69 : decode cX8_readStatement 69 = .ok (.getfield 29, 3) := by decide +kernel
theorem dX8_readStatement_72 : decode cX8_readStatement 72 = .ok (.aload_n 0, 1) := by decide +kernel
theorem dX8_readStatement_73 : decode cX8_readStatement 73 = .ok (.getfield 54, 3) := by decide +kernel
theorem dX8_readStatement_76 : decode cX8_readStatement 76 = .ok (.iload_n 2, 1) := by decide +kernel
theorem dX8_readStatement_77 : decode cX8_readStatement 77 = .ok (.iastore, 1) := by decide +kernel
theorem dX8_readStatement_78 : decode cX8_readStatement 78 = .ok (.iload_n 1, 1) := by decide +kernel
theorem dX8_readStatement_79 : decode cX8_readStatement 79 = .ok (.ifCond .ne 38, 3) := by decide +kernel
theorem dX8_readStatement_82 : decode cX8_readStatement 82 = .ok (.aload_n 0, 1) := by decide +kernel
theorem dX8_readStatement_83 : decode cX8_readStatement 83 = .ok (.getfield 18, 3) := by decide +kernel
theorem dX8_readStatement_86 : decode cX8_readStatement 86 = .ok (.getfield 128, 3) := by decide +kernel
theorem dX8_readStatement_89 : decode cX8_readStatement 89 = .ok (.iload_n 2, 1) := by decide +kernel
theorem dX8_readStatement_90 : decode cX8_readStatement 90 = .ok (.aload_n 0, 1) := by decide +kernel
theorem dX8_readStatement_91 : decode cX8_readStatement 91 = .ok (.invokevirtual 131, 3) := by decide +kernel
theorem dX8_readStatement_94 : decode cX8_readStatement 94 = .ok (.iastore, 1) := by decide +kernel
theorem dX8_readStatement_95 : decode cX8_readStatement 95 = .ok (.aload_n 0, 1) := by decide +kernel
theorem dX8_readStatement_96 : decode cX8_readStatement 96 = .ok (.bipush 61, 2) := by decide +kernel
theorem dX8_readStatement_98 : decode cX8_readStatement 98 = .ok (.invokevirtual 134, 3) := by decide +kernel
theorem dX8_readStatement_101 : decode cX8_readStatement 101 = .ok (.aload_n 0, 1) := by decide +kernel
theorem dX8_readStatement_102 : decode cX8_readStatement 102 = .ok (.getfield 18, 3) := by decide +kernel
theorem dX8_readStatement_105 : decode cX8_readStatement 105 = .ok (.getfield 137, 3) := by decide +kernel
theorem dX8_readStatement_108 : decode cX8_readStatement 108 = .ok (.iload_n 2, 1) := by decide +kernel
theorem dX8_readStatement_109 : decode cX8_readStatement 109 = .ok (.aload_n 0, 1) := by decide +kernel
theorem dX8_readStatement_110 : decode cX8_readStatement 110 = .ok (.invokevirtual 140, 3) := by decide +kernel
theorem dX8_readStatement_113 : decode cX8_readStatement 113 = .ok (.iastore, 1) := by decide +kernel
theorem dX8_readStatement_114 : decode cX8_readStatement 114 = .ok (.goto 13, 3) := by decide +kernel
theorem dX8_readStatement_117 : decode cX8_readStatement 117 = .ok (.aload_n 0, 1) := by decide +kernel
theorem dX8_readStatement_118 : decode cX8_readStatement 118 = .ok (.invokevirtual 60, 3) := by decide +kernel
theorem dX8_readStatement_121 : decode cX8_readStatement 121 = .ok (.aload_n 0, 1) := by decide +kernel
theorem dX8_readStatement_122 : decode cX8_readStatement 122 = .ok (.iload_n 2, 1) := by decide +kernel
theorem dX8_readStatement_123 : decode cX8_readStatement 123 = .ok (.iload_n 1, 1) := by decide +kernel
theorem dX8_readStatement_124 : decode cX8_readStatement 124 = .ok (.invokevirtual 143, 3) := by decide +kernel
theorem dX8_readStatement_127 : decode cX8_readStatement 127 = .ok (.iload_n 1, 1) := by decide +kernel
theorem dX8_readStatement_128 : decode cX8_readStatement 128 = .ok (.iconst 2, 1) := by decide +kernel
theorem dX8_readStatement_129 : decode cX8_readStatement 129 = .ok (.if_icmp .eq 13, 3) := by decide +kernel
theorem dX8_readStatement_132 : decode cX8_readStatement 132 = .ok (.iload_n 1, 1) := by decide +kernel
theorem dX8_readStatement_133 : decode cX8_readStatement 133 = .ok (.iconst 3, 1) := by decide +kernel
theorem dX8_readStatement_134 : decode cX8_readStatement 134 = .ok (.if_icmp .eq 8, 3) := by decide +kernel
theorem dX8_readStatement_137 : decode cX8_readStatement 137 = .ok (.iload_n 1, 1) := by decide +kernel
theorem dX8_readStatement_138 : decode cX8_readStatement 138 = .ok (.iconst 4, 1) := by decide +kernel
theorem dX8_readStatement_139 : decode cX8_readStatement 139 = .ok (.if_icmp .ne 12, 3) := by decide +kernel
theorem dX8_readStatement_142 : decode cX8_readStatement 142 = .ok (.aload_n 0, 1) := by decide +kernel
theorem dX8_readStatement_143 : decode cX8_readStatement 143 = .ok (.iload_n 2, 1) := by decide +kernel
theorem dX8_readStatement_144 : decode cX8_readStatement 144 = .ok (.iconst 0, 1) := by decide +kernel
theorem dX8_readStatement_145 : decode cX8_readStatement 145 = .ok (.invokevirtual 147, 3) := by decide +kernel
theorem dX8_readStatement_148 : decode cX8_readStatement 148 = .ok (.goto 9, 3) := by decide +kernel
theorem dX8_readStatement_151 : decode cX8_readStatement 151 = .ok (.aload_n 0, 1) := by decide +kernel
theorem dX8_readStatement_152 : decode cX8_readStatement 152 = .ok (.bipush 59, 2) := by decide +kernel
theorem dX8_readStatement_154 : decode cX8_readStatement 154 = .ok (.invokevirtual 134, 3) := by decide +kernel
theorem dX8_readStatement_157 : decode cX8_readStatement 157 = .ok (.return_, 1) := by decide +kernel
theorem dX8_readBehindWord_0 : decode cX8_readBehindWord 0 = .ok (.iload_n 2, 1) := by decide +kernel
theorem dX8_readBehindWord_1 : decode cX8_readBehindWord 1 = .ok (.iconst 1, 1) := by decide +kernel
theorem dX8_readBehindWord_2 : decode cX8_readBehindWord 2 = .ok (.if_icmp .ne 33, 3) := by decide +kernel
theorem dX8_readBehindWord_5 : decode cX8_readBehindWord 5 = .ok (.aload_n 0, 1) := by decide +kernel
theorem dX8_readBehindWord_6 : decode cX8_readBehindWord 6 = .ok (.getfield 18, 3) := by decide +kernel
theorem dX8_readBehindWord_9 : decode cX8_readBehindWord 9 = .ok (.getfield 128, 3) := by decide +kernel
theorem dX8_readBehindWord_12 : decode cX8_readBehindWord 12 = .ok (.iload_n 1, 1) := by decide +kernel
theorem dX8_readBehindWord_13 : decode cX8_readBehindWord 13 = .ok (.aload_n 0, 1) := by decide +kernel
theorem dX8_readBehindWord_14 : decode cX8_readBehindWord 14 = .ok (.invokevirtual 131, 3) := by decide +kernel
theorem dX8_readBehindWord_17 : decode cX8_readBehindWord 17 = .ok (.iastore, 1) := by decide +kernel
theorem dX8_readBehindWord_18 : decode cX8_readBehindWord 18 = .ok (.aload_n 0, 1) := by decide +kernel
theorem dX8_readBehindWord_19 : decode cX8_readBehindWord 19 = .ok (.getfield 18, 3) := by decide +kernel
theorem dX8_readBehindWord_22 : decode cX8_readBehindWord 22 = .ok (.getfield 151, 3) := by decide +kernel
theorem dX8_readBehindWord_25 : decode cX8_readBehindWord 25 = .ok (.iload_n 1, 1) := by decide +kernel
theorem dX8_readBehindWord_26 : decode cX8_readBehindWord 26 = .ok (.aload_n 0, 1) := by decide +kernel
theorem dX8_readBehindWord_27 : decode cX8_readBehindWord 27 = .ok (.iload_n 2, 1) := by decide +kernel
theorem dX8_readBehindWord_28 : decode cX8_readBehindWord 28 = .ok (.invokevirtual 154, 3) := by decide +kernel
theorem dX8_readBehindWord_31 : decode cX8_readBehindWord 31 = .ok (.iastore, 1) := by decide +kernel
theorem dX8_readBehindWord_32 : decode cX8_readBehindWord 32 = .ok (.goto 70, 3) := by decide +kernel
theorem dX8_readBehindWord_35 : decode cX8_readBehindWord 35 = .ok (.iload_n 2, 1) := by decide +kernel
theorem dX8_readBehindWord_36 : decode cX8_readBehindWord 36 = .ok (.iconst 2, 1) := by decide +kernel
theorem dX8_readBehindWord_37 : decode cX8_readBehindWord 37 = .ok (.if_icmp .ne 20, 3) := by decide +kernel
theorem dX8_readBehindWord_40 : decode cX8_readBehindWord 40 = .ok (.aload_n 0, 1) := by decide +kernel
theorem dX8_readBehindWord_41 : decode cX8_readBehindWord 41 = .ok (.getfield 18, 3) := by decide +kernel
theorem dX8_readBehindWord_44 : decode cX8_readBehindWord 44 = .ok (.getfield 151, 3) := by decide +kernel
theorem dX8_readBehindWord_47 : decode cX8_readBehindWord 47 = .ok (.iload_n 1, 1) := by decide +kernel
theorem dX8_readBehindWord_48 : decode cX8_readBehindWord 48 = .ok (.aload_n 0, 1) := by decide +kernel
theorem dX8_readBehindWord_49 : decode cX8_readBehindWord 49 = .ok (.iload_n 2, 1) := by decide +kernel
theorem dX8_readBehindWord_50 : decode cX8_readBehindWord 50 = .ok (.invokevirtual 154, 3) := by decide +kernel
theorem dX8_readBehindWord_53 : decode cX8_readBehindWord 53 = .ok (.iastore, 1) := by decide +kernel
theorem dX8_readBehindWord_54 : decode cX8_readBehindWord 54 = .ok (.goto 48, 3) := by decide +kernel
theorem dX8_readBehindWord_57 : decode cX8_readBehindWord 57 = .ok (.iload_n 2, 1) := by decide +kernel
theorem dX8_readBehindWord_58 : decode cX8_readBehindWord 58 = .ok (.bipush 6, 2) := by decide +kernel
theorem dX8_readBehindWord_60 : decode cX8_readBehindWord 60 = .ok (.if_icmp .eq 42, 3) := by decide +kernel
theorem dX8_readBehindWord_63 : decode cX8_readBehindWord 63 = .ok (.aload_n 0, 1) := by decide +kernel
theorem dX8_readBehindWord_64 : decode cX8_readBehindWord 64 = .ok (.getfield 18, 3) := by decide +kernel
theorem dX8_readBehindWord_67 : decode cX8_readBehindWord 67 = .ok (.getfield 137, 3) := by decide +kernel
theorem dX8_readBehindWord_70 : decode cX8_readBehindWord 70 = .ok (.iload_n 1, 1) := by decide +kernel
theorem dX8_readBehindWord_71 : decode cX8_readBehindWord 71 = .ok (.aload_n 0, 1) := by decide +kernel
theorem dX8_readBehindWord_72 : decode cX8_readBehindWord 72 = .ok (.invokevirtual 140, 3) := by decide +kernel
theorem dX8_readBehindWord_75 : decode cX8_readBehindWord 75 = .ok (.iastore, 1) := by decide +kernel
theorem dX8_readBehindWord_76 : decode cX8_readBehindWord 76 = .ok (.aload_n 0, 1) := by decide +kernel
theorem dX8_readBehindWord_77 : decode cX8_readBehindWord 77 = .ok (.getfield 18, 3) := by decide +kernel
theorem dX8_readBehindWord_80 : decode cX8_readBehindWord 80 = .ok (.getfield 158, 3) := by decide +kernel
theorem dX8_readBehindWord_83 : decode cX8_readBehindWord 83 = .ok (.iload_n 1, 1) := by decide +kernel
theorem dX8_readBehindWord_84 : decode cX8_readBehindWord 84 = .ok (.aload_n 0, 1) := by decide +kernel
theorem dX8_readBehindWord_85 : decode cX8_readBehindWord 85 = .ok (.invokevirtual 161, 3) := by decide +kernel
theorem dX8_readBehindWord_88 : decode cX8_readBehindWord 88 = .ok (.iastore, 1) := by decide +kernel
theorem dX8_readBehindWord_89 : decode cX8_readBehindWord 89 = .ok (.aload_n 0, 1) := by decide +kernel
theorem dX8_readBehindWord_90 : decode cX8_readBehindWord 90 = .ok (.getfield 18, 3) := by decide +kernel
theorem dX8_readBehindWord_93 : decode cX8_readBehindWord 93 = .ok (.getfield 164, 3) := by decide +kernel
theorem dX8_readBehindWord_96 : decode cX8_readBehindWord 96 = .ok (.iload_n 1, 1) := by decide +kernel
theorem dX8_readBehindWord_97 : decode cX8_readBehindWord 97 = .ok (.aload_n 0, 1) := by decide +kernel
theorem dX8_readBehindWord_98 : decode cX8_readBehindWord 98 = .ok (.invokevirtual 140, 3) := by decide +kernel
theorem dX8_readBehindWord_101 : decode cX8_readBehindWord 101 = .ok (.iastore, 1) := by decide +kernel
theorem dX8_readBehindWord_102 : decode cX8_readBehindWord 102 = .ok (.return_, 1) := by decide +kernel
theorem dX8_openBlock_0 : decode cX8_openBlock 0 = .ok (.aload_n 0, 1) := by decide +kernel
theorem dX8_openBlock_1 : decode cX8_openBlock 1 = .ok (.bipush 123, 2) := by decide +kernel
theorem dX8_openBlock_3 : decode cX8_openBlock 3 = .ok (.invokevirtual 66, 3) := by decide +kernel
theorem dX8_openBlock_6 : decode cX8_openBlock 6 = .ok (.ifCond .eq 17, 3) := by decide +kernel
theorem dX8_openBlock_9 : decode cX8_openBlock 9 = .ok (.aload_n 0, 1) := by decide +kernel
theorem dX8_openBlock_10 : decode cX8_openBlock 10 = .ok (.getfield 54, 3) := by decide +kernel
theorem dX8_openBlock_13 : decode cX8_openBlock 13 = .ok (.bipush 6, 2) := by decide +kernel
theorem dX8_openBlock_15 : decode cX8_openBlock 15 = .ok (.if_icmp .lt 8, 3) := by decide +kernel
theorem dX8_openBlock_18 : decode cX8_openBlock 18 = .ok (.aload_n 0, 1) := by decide +kernel
theorem dX8_openBlock_19 : decode cX8_openBlock 19 = .ok (.iconst 3, 1) := by decide +kernel
theorem dX8_openBlock_20 : decode cX8_openBlock 20 = .ok (.invokevirtual 116, 3) := by decide +kernel
theorem dX8_openBlock_23 : decode cX8_openBlock 23 = .ok (.aload_n 0, 1) := by decide +kernel
theorem dX8_openBlock_24 : decode cX8_openBlock 24 = .ok (.bipush 123, 2) := by decide +kernel
theorem dX8_openBlock_26 : decode cX8_openBlock 26 = .ok (.invokevirtual 134, 3) := by decide +kernel
theorem dX8_openBlock_29 : decode cX8_openBlock 29 = .ok (.aload_n 0, 1) := by decide +kernel
theorem dX8_openBlock_30 : decode cX8_openBlock 30 = .ok (.getfield 51, 3) := by decide +kernel
theorem dX8_openBlock_33 : decode cX8_openBlock 33 = .ok (.ifCond .ne 43, 3) := by decide +kernel
theorem dX8_openBlock_36 : decode cX8_openBlock 36 = .ok (.aload_n 0, 1) := by decide +kernel
theorem dX8_openBlock_37 : decode cX8_openBlock 37 = .ok (.dup, 1) := by decide +kernel
theorem dX8_openBlock_38 : decode cX8_openBlock 38 = .ok (.getfield 54, 3) := by decide +kernel
theorem dX8_openBlock_41 : decode cX8_openBlock 41 = .ok (.iconst 1, 1) := by decide +kernel
theorem dX8_openBlock_42 : decode cX8_openBlock 42 = .ok (.iadd, 1) := by decide +kernel
theorem dX8_openBlock_43 : decode cX8_openBlock 43 = .ok (.putfield 54, 3) := by decide +kernel
theorem dX8_openBlock_46 : decode cX8_openBlock 46 = .ok (.aload_n 0, 1) := by decide +kernel
theorem dX8_openBlock_47 : decode cX8_openBlock 47 = .ok (.getfield 26, 3) := by decide +kernel
theorem dX8_openBlock_50 : decode cX8_openBlock 50 = .ok (.aload_n 0, 1) := by decide +kernel
theorem dX8_openBlock_51 : decode cX8_openBlock 51 = .ok (.getfield 54, 3) := by decide +kernel
theorem dX8_openBlock_54 : decode cX8_openBlock 54 = .ok (.iload_n 1, 1) := by decide +kernel
theorem dX8_openBlock_55 : decode cX8_openBlock 55 = .ok (.iastore, 1) := by decide +kernel
theorem dX8_openBlock_56 : decode cX8_openBlock 56 = .ok (.aload_n 0, 1) := by decide +kernel
theorem dX8_openBlock_57 : decode cX8_openBlock 57 = .ok (.getfield 29, 3) := by decide +kernel
theorem dX8_openBlock_60 : decode cX8_openBlock 60 = .ok (.aload_n 0, 1) := by decide +kernel
theorem dX8_openBlock_61 : decode cX8_openBlock 61 = .ok (.getfield 54, 3) := by decide +kernel
theorem dX8_openBlock_64 : decode cX8_openBlock 64 = .ok (.iconst (-1), 1) := by decide +kernel
theorem dX8_openBlock_65 : decode cX8_openBlock 65 = .ok (.iastore, 1) := by decide +kernel
theorem dX8_openBlock_66 : decode cX8_openBlock 66 = .ok (.aload_n 0, 1) := by decide +kernel
theorem dX8_openBlock_67 : decode cX8_openBlock 67 = .ok (.getfield 32, 3) := by decide +kernel
theorem dX8_openBlock_70 : decode cX8_openBlock 70 = .ok (.aload_n 0, 1) := by decide +kernel
theorem dX8_openBlock_71 : decode cX8_openBlock 71 = .ok (.getfield 54, 3) := by decide +kernel
theorem dX8_openBlock_74 : decode cX8_openBlock 74 = .ok (.iload_n 2, 1) := by decide +kernel
theorem dX8_openBlock_75 : decode cX8_openBlock 75 = .ok (.bastore, 1) := by decide +kernel
theorem dX8_openBlock_76 : decode cX8_openBlock 76 = .ok (.return_, 1) := by decide +kernel
theorem dX8_closeBlock_0 : decode cX8_closeBlock 0 = .ok (.aload_n 0, 1) := by decide +kernel
theorem dX8_closeBlock_1 : decode cX8_closeBlock 1 = .ok (.getfield 26, 3) := by decide +kernel
theorem dX8_closeBlock_4 : decode cX8_closeBlock 4 = .ok (.aload_n 0, 1) := by decide +kernel
theorem dX8_closeBlock_5 : decode cX8_closeBlock 5 = .ok (.getfield 54, 3) := by decide +kernel
theorem dX8_closeBlock_8 : decode cX8_closeBlock 8 = .ok (.iaload, 1) := by decide +kernel
theorem dX8_closeBlock_9 : decode cX8_closeBlock 9 = .ok (.istore_n 1, 1) := by decide +kernel
theorem dX8_closeBlock_10 : decode cX8_closeBlock 10 = .ok (.aload_n 0, 1) := by decide +kernel
theorem dX8_closeBlock_11 : decode cX8_closeBlock 11 = .ok (.getfield 32, 3) := by decide +kernel
theorem dX8_closeBlock_14 : decode cX8_closeBlock 14 = .ok (.aload_n 0, 1) := by decide +kernel
theorem dX8_closeBlock_15 : decode cX8_closeBlock 15 = .ok (.getfield 54, 3) := by decide +kernel
theorem dX8_closeBlock_18 : decode cX8_closeBlock 18 = .ok (.baload, 1) := by decide +kernel
theorem dX8_closeBlock_19 : decode cX8_closeBlock 19 = .ok (.ifCond .ne 20, 3) := by decide +kernel
theorem dX8_closeBlock_22 : decode cX8_closeBlock 22 = .ok (.aload_n 0, 1) := by decide +kernel
theorem dX8_closeBlock_23 : decode cX8_closeBlock 23 = .ok (.getfield 18, 3) := by decide +kernel
theorem dX8_closeBlock_26 : decode cX8_closeBlock 26 = .ok (.getfield 167, 3) := by decide +kernel
theorem dX8_closeBlock_29 : decode cX8_closeBlock 29 = .ok (.iload_n 1, 1) := by decide +kernel
theorem dX8_closeBlock_30 : decode cX8_closeBlock 30 = .ok (.iaload, 1) := by decide +kernel
theorem dX8_closeBlock_31 : decode cX8_closeBlock 31 = .ok (.iconst 4, 1) := by decide +kernel
theorem dX8_closeBlock_32 : decode cX8_closeBlock 32 = .ok (.if_icmp .eq 7, 3) := by decide +kernel
theorem dX8_closeBlock_35 : decode cX8_closeBlock 35 = .ok (.iconst 1, 1) := by decide +kernel
theorem dX8_closeBlock_36 : decode cX8_closeBlock 36 = .ok (.goto 4, 3) := by decide +kernel
theorem dX8_closeBlock_39 : decode cX8_closeBlock 39 = .ok (.iconst 0, 1) := by decide +kernel
theorem dX8_closeBlock_40 : decode cX8_closeBlock 40 = .ok (.istore_n 2, 1) := by decide +kernel
theorem dX8_closeBlock_41 : decode cX8_closeBlock 41 = .ok (.aload_n 0, 1) := by decide +kernel
theorem dX8_closeBlock_42 : decode cX8_closeBlock 42 = .ok (.dup, 1) := by decide +kernel
theorem dX8_closeBlock_43 : decode cX8_closeBlock 43 = .ok (.getfield 54, 3) := by decide +kernel
theorem dX8_closeBlock_46 : decode cX8_closeBlock 46 = .ok (.iconst 1, 1) := by decide +kernel
theorem dX8_closeBlock_47 : decode cX8_closeBlock 47 = .ok (.isub, 1) := by decide +kernel
theorem dX8_closeBlock_48 : decode cX8_closeBlock 48 = .ok (.putfield 54, 3) := by decide +kernel
theorem dX8_closeBlock_51 : decode cX8_closeBlock 51 = .ok (.aload_n 0, 1) := by decide +kernel
theorem dX8_closeBlock_52 : decode cX8_closeBlock 52 = .ok (.invokevirtual 60, 3) := by decide +kernel
theorem dX8_closeBlock_55 : decode cX8_closeBlock 55 = .ok (.iload_n 2, 1) := by decide +kernel
theorem dX8_closeBlock_56 : decode cX8_closeBlock 56 = .ok (.ifCond .eq 22, 3) := by decide +kernel
theorem dX8_closeBlock_59 : decode cX8_closeBlock 59 = .ok (.aload_n 0, 1) := by decide +kernel
theorem dX8_closeBlock_60 : decode cX8_closeBlock 60 = .ok (.ldc 170, 2) := by decide +kernel
theorem dX8_closeBlock_62 : decode cX8_closeBlock 62 = .ok (.invokevirtual 99, 3) := by decide +kernel
theorem dX8_closeBlock_65 : decode cX8_closeBlock 65 = .ok (.ifCond .eq 13, 3) := by decide +kernel
theorem dX8_closeBlock_68 : decode cX8_closeBlock 68 = .ok (.aload_n 0, 1) := by decide +kernel
theorem dX8_closeBlock_69 : decode cX8_closeBlock 69 = .ok (.invokevirtual 60, 3) := by decide +kernel
theorem dX8_closeBlock_72 : decode cX8_closeBlock 72 = .ok (.aload_n 0, 1) := by decide +kernel
theorem dX8_closeBlock_73 : decode cX8_closeBlock 73 = .ok (.iload_n 1, 1) := by decide +kernel
theorem dX8_closeBlock_74 : decode cX8_closeBlock 74 = .ok (.iconst 1, 1) := by decide +kernel
theorem dX8_closeBlock_75 : decode cX8_closeBlock 75 = .ok (.invokevirtual 147, 3) := by decide +kernel
theorem dX8_closeBlock_78 : decode cX8_closeBlock 78 = .ok (.return_, 1) := by decide +kernel
theorem dX8_readRelation_0 : decode cX8_readRelation 0 = .ok (.aload_n 0, 1) := by decide +kernel
theorem dX8_readRelation_1 : decode cX8_readRelation 1 = .ok (.bipush 61, 2) := by decide +kernel
theorem dX8_readRelation_3 : decode cX8_readRelation 3 = .ok (.invokevirtual 66, 3) := by decide +kernel
theorem dX8_readRelation_6 : decode cX8_readRelation 6 = .ok (.ifCond .ne 28, 3) := by decide +kernel
theorem dX8_readRelation_9 : decode cX8_readRelation 9 = .ok (.aload_n 0, 1) := by decide +kernel
theorem dX8_readRelation_10 : decode cX8_readRelation 10 = .ok (.bipush 60, 2) := by decide +kernel
theorem dX8_readRelation_12 : decode cX8_readRelation 12 = .ok (.invokevirtual 66, 3) := by decide +kernel
theorem dX8_readRelation_15 : decode cX8_readRelation 15 = .ok (.ifCond .ne 19, 3) := by decide +kernel
theorem dX8_readRelation_18 : decode cX8_readRelation 18 = .ok (.aload_n 0, 1) := by decide +kernel
theorem dX8_readRelation_19 : decode cX8_readRelation 19 = .ok (.bipush 35, 2) := by decide +kernel
theorem dX8_readRelation_21 : decode cX8_readRelation 21 = .ok (.invokevirtual 66, 3) := by decide +kernel
theorem dX8_readRelation_24 : decode cX8_readRelation 24 = .ok (.ifCond .ne 10, 3) := by decide +kernel
theorem dX8_readRelation_27 : decode cX8_readRelation 27 = .ok (.aload_n 0, 1) := by decide +kernel
theorem dX8_readRelation_28 : decode cX8_readRelation 28 = .ok (.iconst 1, 1) := by decide +kernel
theorem dX8_readRelation_29 : decode cX8_readRelation 29 = .ok (.invokevirtual 116, 3) := by decide +kernel
theorem dX8_readRelation_32 : decode cX8_readRelation 32 = .ok (.iconst 0, 1) := by decide +kernel
theorem dX8_readRelation_33 : decode cX8_readRelation 33 = .ok (.ireturn, 1) := by decide +kernel
theorem dX8_readRelation_34 : decode cX8_readRelation 34 = .ok (.aload_n 0, 1) := by decide +kernel
theorem dX8_readRelation_35 : decode cX8_readRelation 35 = .ok (.getfield 9, 3) := by decide +kernel
theorem dX8_readRelation_38 : decode cX8_readRelation 38 = .ok (.aload_n 0, 1) := by decide +kernel
theorem dX8_readRelation_39 : decode cX8_readRelation 39 = .ok (.getfield 79, 3) := by decide +kernel
theorem dX8_readRelation_42 : decode cX8_readRelation 42 = .ok (.iaload, 1) := by decide +kernel
theorem dX8_readRelation_43 : decode cX8_readRelation 43 = .ok (.istore_n 1, 1) := by decide +kernel
theorem dX8_readRelation_44 : decode cX8_readRelation 44 = .ok (.aload_n 0, 1) := by decide +kernel
theorem dX8_readRelation_45 : decode cX8_readRelation 45 = .ok (.invokevirtual 60, 3) := by decide +kernel
theorem dX8_readRelation_48 : decode cX8_readRelation 48 = .ok (.iload_n 1, 1) := by decide +kernel
theorem dX8_readRelation_49 : decode cX8_readRelation 49 = .ok (.ireturn, 1) := by decide +kernel
theorem dX8_readSum_0 : decode cX8_readSum 0 = .ok (.aload_n 0, 1) := by decide +kernel
theorem dX8_readSum_1 : decode cX8_readSum 1 = .ok (.invokevirtual 172, 3) := by decide +kernel
theorem dX8_readSum_4 : decode cX8_readSum 4 = .ok (.istore_n 1, 1) := by decide +kernel
theorem dX8_readSum_5 : decode cX8_readSum 5 = .ok (.aload_n 0, 1) := by decide +kernel
theorem dX8_readSum_6 : decode cX8_readSum 6 = .ok (.bipush 43, 2) := by decide +kernel
theorem dX8_readSum_8 : decode cX8_readSum 8 = .ok (.invokevirtual 66, 3) := by decide +kernel
theorem dX8_readSum_11 : decode cX8_readSum 11 = .ok (.ifCond .ne 14, 3) := by decide +kernel
theorem dX8_readSum_14 : decode cX8_readSum 14 = .ok (.aload_n 0, 1) := by decide +kernel
theorem dX8_readSum_15 : decode cX8_readSum 15 = .ok (.bipush 45, 2) := by decide +kernel
theorem dX8_readSum_17 : decode cX8_readSum 17 = .ok (.invokevirtual 66, 3) := by decide +kernel
theorem dX8_readSum_20 : decode cX8_readSum 20 = .ok (.ifCond .ne 5, 3) := by decide +kernel
theorem dX8_readSum_23 : decode cX8_readSum 23 = .ok (.iload_n 1, 1) := by decide +kernel
theorem dX8_readSum_24 : decode cX8_readSum 24 = .ok (.ireturn, 1) := by decide +kernel
theorem dX8_readSum_25 : decode cX8_readSum 25 = .ok (.aload_n 0, 1) := by decide +kernel
theorem dX8_readSum_26 : decode cX8_readSum 26 = .ok (.bipush 43, 2) := by decide +kernel
theorem dX8_readSum_28 : decode cX8_readSum 28 = .ok (.invokevirtual 66, 3) := by decide +kernel
theorem dX8_readSum_31 : decode cX8_readSum 31 = .ok (.ifCond .eq 7, 3) := by decide +kernel
theorem dX8_readSum_34 : decode cX8_readSum 34 = .ok (.iconst 1, 1) := by decide +kernel
theorem dX8_readSum_35 : decode cX8_readSum 35 = .ok (.goto 4, 3) := by decide +kernel
theorem dX8_readSum_38 : decode cX8_readSum 38 = .ok (.iconst 2, 1) := by decide +kernel
theorem dX8_readSum_39 : decode cX8_readSum 39 = .ok (.istore_n 2, 1) := by decide +kernel
theorem dX8_readSum_40 : decode cX8_readSum 40 = .ok (.aload_n 0, 1) := by decide +kernel
theorem dX8_readSum_41 : decode cX8_readSum 41 = .ok (.invokevirtual 60, 3) := by decide +kernel
theorem dX8_readSum_44 : decode cX8_readSum 44 = .ok (.iload_n 1, 1) := by decide +kernel
theorem dX8_readSum_45 : decode cX8_readSum 45 = .ok (.iload_n 2, 1) := by decide +kernel
theorem dX8_readSum_46 : decode cX8_readSum 46 = .ok (.aload_n 0, 1) := by decide +kernel
theorem dX8_readSum_47 : decode cX8_readSum 47 = .ok (.invokevirtual 172, 3) := by decide +kernel
theorem dX8_readSum_50 : decode cX8_readSum 50 = .ok (.invokestatic 175, 3) := by decide +kernel
theorem dX8_readSum_53 : decode cX8_readSum 53 = .ok (.ireturn, 1) := by decide +kernel
theorem dX8_readTerm_0 : decode cX8_readTerm 0 = .ok (.aload_n 0, 1) := by decide +kernel
theorem dX8_readTerm_1 : decode cX8_readTerm 1 = .ok (.getfield 63, 3) := by decide +kernel
theorem dX8_readTerm_4 : decode cX8_readTerm 4 = .ok (.iconst 2, 1) := by decide +kernel
theorem dX8_readTerm_5 : decode cX8_readTerm 5 = .ok (.if_icmp .ne 11, 3) := by decide +kernel
theorem dX8_readTerm_8 : decode cX8_readTerm 8 = .ok (.aload_n 0, 1) := by decide +kernel
theorem dX8_readTerm_9 : decode cX8_readTerm 9 = .ok (.iconst 0, 1) := by decide +kernel
theorem dX8_readTerm_10 : decode cX8_readTerm 10 = .ok (.invokevirtual 154, 3) := by decide +kernel
theorem dX8_readTerm_13 : decode cX8_readTerm 13 = .ok (.goto 10, 3) := by decide +kernel
theorem dX8_readTerm_16 : decode cX8_readTerm 16 = .ok (.bipush 10, 2) := by decide +kernel
theorem dX8_readTerm_18 : decode cX8_readTerm 18 = .ok (.aload_n 0, 1) := by decide +kernel
theorem dX8_readTerm_19 : decode cX8_readTerm 19 = .ok (.invokevirtual 131, 3) := by decide +kernel
theorem dX8_readTerm_22 : decode cX8_readTerm 22 = .ok (.iadd, 1) := by decide +kernel
theorem dX8_readTerm_23 : decode cX8_readTerm 23 = .ok (.ireturn, 1) := by decide +kernel
theorem dX8_readVariable_0 : decode cX8_readVariable 0 = .ok (.aload_n 0, 1) := by decide +kernel
theorem dX8_readVariable_1 : decode cX8_readVariable 1 = .ok (.invokevirtual 94, 3) := by decide +kernel
theorem dX8_readVariable_4 : decode cX8_readVariable 4 = .ok (.istore_n 1, 1) := by decide +kernel
theorem dX8_readVariable_5 : decode cX8_readVariable 5 = .ok (.iload_n 1, 1) := by decide +kernel
theorem dX8_readVariable_6 : decode cX8_readVariable 6 = .ok (.iconst (-1), 1) := by decide +kernel
theorem dX8_readVariable_7 : decode cX8_readVariable 7 = .ok (.if_icmp .ne 10, 3) := by decide +kernel
theorem dX8_readVariable_10 : decode cX8_readVariable 10 = .ok (.aload_n 0, 1) := by decide +kernel
theorem dX8_readVariable_11 : decode cX8_readVariable 11 = .ok (.iconst 1, 1) := by decide +kernel
theorem dX8_readVariable_12 : decode cX8_readVariable 12 = .ok (.invokevirtual 116, 3) := by decide +kernel
theorem dX8_readVariable_15 : decode cX8_readVariable 15 = .ok (.iconst 0, 1) := by decide +kernel
theorem dX8_readVariable_16 : decode cX8_readVariable 16 = .ok (.ireturn, 1) := by decide +kernel
theorem dX8_readVariable_17 : decode cX8_readVariable 17 = .ok (.aload_n 0, 1) := by decide +kernel
theorem dX8_readVariable_18 : decode cX8_readVariable 18 = .ok (.invokevirtual 60, 3) := by decide +kernel
theorem dX8_readVariable_21 : decode cX8_readVariable 21 = .ok (.iload_n 1, 1) := by decide +kernel
theorem dX8_readVariable_22 : decode cX8_readVariable 22 = .ok (.ireturn, 1) := by decide +kernel
theorem dX8_readNumber_0 : decode cX8_readNumber 0 = .ok (.aload_n 0, 1) := by decide +kernel
theorem dX8_readNumber_1 : decode cX8_readNumber 1 = .ok (.getfield 82, 3) := by decide +kernel
theorem dX8_readNumber_4 : decode cX8_readNumber 4 = .ok (.istore_n 2, 1) := by decide +kernel
theorem dX8_readNumber_5 : decode cX8_readNumber 5 = .ok (.aload_n 0, 1) := by decide +kernel
theorem dX8_readNumber_6 : decode cX8_readNumber 6 = .ok (.getfield 63, 3) := by decide +kernel
theorem dX8_readNumber_9 : decode cX8_readNumber 9 = .ok (.iconst 2, 1) := by decide +kernel
theorem dX8_readNumber_10 : decode cX8_readNumber 10 = .ok (.if_icmp .eq 10, 3) := by decide +kernel
theorem dX8_readNumber_13 : decode cX8_readNumber 13 = .ok (.aload_n 0, 1) := by decide +kernel
theorem dX8_readNumber_14 : decode cX8_readNumber 14 = .ok (.iconst 1, 1) := by decide +kernel
theorem dX8_readNumber_15 : decode cX8_readNumber 15 = .ok (.invokevirtual 116, 3) := by decide +kernel
theorem dX8_readNumber_18 : decode cX8_readNumber 18 = .ok (.iconst 0, 1) := by decide +kernel
theorem dX8_readNumber_19 : decode cX8_readNumber 19 = .ok (.ireturn, 1) := by decide +kernel
theorem dX8_readNumber_20 : decode cX8_readNumber 20 = .ok (.iload_n 2, 1) := by decide +kernel
theorem dX8_readNumber_21 : decode cX8_readNumber 21 = .ok (.bipush 10, 2) := by decide +kernel
theorem dX8_readNumber_23 : decode cX8_readNumber 23 = .ok (.if_icmp .ge 7, 3) := by decide +kernel
theorem dX8_readNumber_26 : decode cX8_readNumber 26 = .ok (.iconst 1, 1) := by decide +kernel
theorem dX8_readNumber_27 : decode cX8_readNumber 27 = .ok (.goto 4, 3) := by decide +kernel
theorem dX8_readNumber_30 : decode cX8_readNumber 30 = .ok (.iconst 0, 1) := by decide +kernel
theorem dX8_readNumber_31 : decode cX8_readNumber 31 = .ok (.istore_n 3, 1) := by decide +kernel
theorem dX8_readNumber_32 : decode cX8_readNumber 32 = .ok (.iload_n 1, 1) := by decide +kernel
theorem dX8_readNumber_33 : decode cX8_readNumber 33 = .ok (.iconst 2, 1) := by decide +kernel
theorem dX8_readNumber_34 : decode cX8_readNumber 34 = .ok (.if_icmp .ne 18, 3) := by decide +kernel
theorem dX8_readNumber_37 : decode cX8_readNumber 37 = .ok (.iload_n 2, 1) := by decide +kernel
theorem dX8_readNumber_38 : decode cX8_readNumber 38 = .ok (.bipush 60, 2) := by decide +kernel
theorem dX8_readNumber_40 : decode cX8_readNumber 40 = .ok (.if_icmp .gt 7, 3) := by decide +kernel
theorem dX8_readNumber_43 : decode cX8_readNumber 43 = .ok (.iconst 1, 1) := by decide +kernel
theorem dX8_readNumber_44 : decode cX8_readNumber 44 = .ok (.goto 4, 3) := by decide +kernel
theorem dX8_readNumber_47 : decode cX8_readNumber 47 = .ok (.iconst 0, 1) := by decide +kernel
theorem dX8_readNumber_48 : decode cX8_readNumber 48 = .ok (.istore_n 3, 1) := by decide +kernel
theorem dX8_readNumber_49 : decode cX8_readNumber 49 = .ok (.goto 31, 3) := by decide +kernel
theorem dX8_readNumber_52 : decode cX8_readNumber 52 = .ok (.iload_n 1, 1) := by decide +kernel
theorem dX8_readNumber_53 : decode cX8_readNumber 53 = .ok (.iconst 1, 1) := by decide +kernel
theorem dX8_readNumber_54 : decode cX8_readNumber 54 = .ok (.if_icmp .ne 26, 3) := by decide +kernel
theorem dX8_readNumber_57 : decode cX8_readNumber 57 = .ok (.iload_n 2, 1) := by decide +kernel
theorem dX8_readNumber_58 : decode cX8_readNumber 58 = .ok (.iconst 2, 1) := by decide +kernel
theorem dX8_readNumber_59 : decode cX8_readNumber 59 = .ok (.if_icmp .lt 9, 3) := by decide +kernel
theorem dX8_readNumber_62 : decode cX8_readNumber 62 = .ok (.iload_n 2, 1) := by decide +kernel
theorem dX8_readNumber_63 : decode cX8_readNumber 63 = .ok (.bipush 6, 2) := by decide +kernel
theorem dX8_readNumber_65 : decode cX8_readNumber 65 = .ok (.if_icmp .le 9, 3) := by decide +kernel
theorem dX8_readNumber_68 : decode cX8_readNumber 68 = .ok (.iload_n 2, 1) := by decide +kernel
theorem dX8_readNumber_69 : decode cX8_readNumber 69 = .ok (.bipush 10, 2) := by decide +kernel
theorem dX8_readNumber_71 : decode cX8_readNumber 71 = .ok (.if_icmp .ne 7, 3) := by decide +kernel
theorem dX8_readNumber_74 : decode cX8_readNumber 74 = .ok (.iconst 1, 1) := by decide +kernel
theorem dX8_readNumber_75 : decode cX8_readNumber 75 = .ok (.goto 4, 3) := by decide +kernel
theorem dX8_readNumber_78 : decode cX8_readNumber 78 = .ok (.iconst 0, 1) := by decide +kernel
theorem dX8_readNumber_79 : decode cX8_readNumber 79 = .ok (.istore_n 3, 1) := by decide +kernel
theorem dX8_readNumber_80 : decode cX8_readNumber 80 = .ok (.iload_n 3, 1) := by decide +kernel
theorem dX8_readNumber_81 : decode cX8_readNumber 81 = .ok (.ifCond .ne 10, 3) := by decide +kernel
theorem dX8_readNumber_84 : decode cX8_readNumber 84 = .ok (.aload_n 0, 1) := by decide +kernel
theorem dX8_readNumber_85 : decode cX8_readNumber 85 = .ok (.iconst 2, 1) := by decide +kernel
theorem dX8_readNumber_86 : decode cX8_readNumber 86 = .ok (.invokevirtual 116, 3) := by decide +kernel
theorem dX8_readNumber_89 : decode cX8_readNumber 89 = .ok (.iconst 0, 1) := by decide +kernel
theorem dX8_readNumber_90 : decode cX8_readNumber 90 = .ok (.ireturn, 1) := by decide +kernel
theorem dX8_readNumber_91 : decode cX8_readNumber 91 = .ok (.aload_n 0, 1) := by decide +kernel
theorem dX8_readNumber_92 : decode cX8_readNumber 92 = .ok (.invokevirtual 60, 3) := by decide +kernel
theorem dX8_readNumber_95 : decode cX8_readNumber 95 = .ok (.iload_n 2, 1) := by decide +kernel
theorem dX8_readNumber_96 : decode cX8_readNumber 96 = .ok (.ireturn, 1) := by decide +kernel
theorem dX8_readSign_0 : decode cX8_readSign 0 = .ok (.aload_n 0, 1) := by decide +kernel
theorem dX8_readSign_1 : decode cX8_readSign 1 = .ok (.iload_n 1, 1) := by decide +kernel
theorem dX8_readSign_2 : decode cX8_readSign 2 = .ok (.invokevirtual 66, 3) := by decide +kernel
theorem dX8_readSign_5 : decode cX8_readSign 5 = .ok (.ifCond .eq 10, 3) := by decide +kernel
theorem dX8_readSign_8 : decode cX8_readSign 8 = .ok (.aload_n 0, 1) := by decide +kernel
theorem dX8_readSign_9 : decode cX8_readSign 9 = .ok (.invokevirtual 60, 3) := by decide +kernel
theorem dX8_readSign_12 : decode cX8_readSign 12 = .ok (.goto 8, 3) := by decide +kernel
theorem dX8_readSign_15 : decode cX8_readSign 15 = .ok (.aload_n 0, 1) := by decide +kernel
theorem dX8_readSign_16 : decode cX8_readSign 16 = .ok (.iconst 1, 1) := by decide +kernel
theorem dX8_readSign_17 : decode cX8_readSign 17 = .ok (.invokevirtual 116, 3) := by decide +kernel
theorem dX8_readSign_20 : decode cX8_readSign 20 = .ok (.return_, 1) := by decide +kernel
theorem dX9_init_0 : decode cX9_init 0 = .ok (.aload_n 0, 1) := by decide +kernel
theorem dX9_init_1 : decode cX9_init 1 = .ok (.invokespecial 3, 3) := by decide +kernel
theorem dX9_init_4 : decode cX9_init 4 = .ok (.aload_n 0, 1) := by decide +kernel
theorem dX9_init_5 : decode cX9_init 5 = .ok (.sipush 200, 3) := by decide +kernel
theorem dX9_init_8 : decode cX9_init 8 = .ok (.newarray .int, 2) := by decide +kernel
theorem dX9_init_10 : decode cX9_init 10 = .ok (.putfield 9, 3) := by decide +kernel
theorem dX9_init_13 : decode cX9_init 13 = .ok (.aload_n 0, 1) := by decide +kernel
theorem dX9_init_14 : decode cX9_init 14 = .ok (.sipush 200, 3) := by decide +kernel
theorem dX9_init_17 : decode cX9_init 17 = .ok (.newarray .int, 2) := by decide +kernel
theorem dX9_init_19 : decode cX9_init 19 = .ok (.putfield 15, 3) := by decide +kernel
theorem dX9_init_22 : decode cX9_init 22 = .ok (.aload_n 0, 1) := by decide +kernel
theorem dX9_init_23 : decode cX9_init 23 = .ok (.sipush 201, 3) := by decide +kernel
theorem dX9_init_26 : decode cX9_init 26 = .ok (.newarray .int, 2) := by decide +kernel
theorem dX9_init_28 : decode cX9_init 28 = .ok (.putfield 18, 3) := by decide +kernel
theorem dX9_init_31 : decode cX9_init 31 = .ok (.return_, 1) := by decide +kernel
theorem dX9_endedBy_0 : decode cX9_endedBy 0 = .ok (.aload_n 0, 1) := by decide +kernel
theorem dX9_endedBy_1 : decode cX9_endedBy 1 = .ok (.getfield 21, 3) := by decide +kernel
theorem dX9_endedBy_4 : decode cX9_endedBy 4 = .ok (.aload_n 1, 1) := by decide +kernel
theorem dX9_endedBy_5 : decode cX9_endedBy 5 = .ok (.getfield 25, 3) := by decide +kernel
theorem dX9_endedBy_8 : decode cX9_endedBy 8 = .ok (.if_icmp .eq 42, 3) := by decide +kernel
theorem dX9_endedBy_11 : decode cX9_endedBy 11 = .ok (.aload_n 0, 1) := by decide +kernel
theorem dX9_endedBy_12 : decode cX9_endedBy 12 = .ok (.aload_n 1, 1) := by decide +kernel
theorem dX9_endedBy_13 : decode cX9_endedBy 13 = .ok (.getfield 25, 3) := by decide +kernel
theorem dX9_endedBy_16 : decode cX9_endedBy 16 = .ok (.putfield 21, 3) := by decide +kernel
theorem dX9_endedBy_19 : decode cX9_endedBy 19 = .ok (.aload_n 0, 1) := by decide +kernel
theorem dX9_endedBy_20 : decode cX9_endedBy 20 = .ok (.getfield 9, 3) := by decide +kernel
theorem dX9_endedBy_23 : decode cX9_endedBy 23 = .ok (.iconst 0, 1) := by decide +kernel
theorem dX9_endedBy_24 : decode cX9_endedBy 24 = .ok (.invokestatic 28, 3) := by decide +kernel
theorem dX9_endedBy_27 : decode cX9_endedBy 27 = .ok (.aload_n 0, 1) := by decide +kernel
theorem dX9_endedBy_28 : decode cX9_endedBy 28 = .ok (.getfield 9, 3) := by decide +kernel
theorem dX9_endedBy_31 : decode cX9_endedBy 31 = .ok (.iconst 0, 1) := by decide +kernel
theorem dX9_endedBy_32 : decode cX9_endedBy 32 = .ok (.iconst 1, 1) := by decide +kernel
theorem dX9_endedBy_33 : decode cX9_endedBy 33 = .ok (.iastore, 1) := by decide +kernel
theorem dX9_endedBy_34 : decode cX9_endedBy 34 = .ok (.aload_n 0, 1) := by decide +kernel
theorem dX9_endedBy_35 : decode cX9_endedBy 35 = .ok (.getfield 18, 3) := by decide +kernel
theorem dX9_endedBy_38 : decode cX9_endedBy 38 = .ok (.iconst 0, 1) := by decide +kernel
theorem dX9_endedBy_39 : decode cX9_endedBy 39 = .ok (.aload_n 0, 1) := by decide +kernel
theorem dX9_endedBy_40 : decode cX9_endedBy 40 = .ok (.aload_n 1, 1) := by decide +kernel
theorem dX9_endedBy_41 : decode cX9_endedBy 41 = .ok (.invokevirtual 34, 3) := by decide +kernel
theorem dX9_endedBy_44 : decode cX9_endedBy 44 = .ok (.iastore, 1) := by decide +kernel
theorem dX9_endedBy_45 : decode cX9_endedBy 45 = .ok (.aload_n 0, 1) := by decide +kernel
theorem dX9_endedBy_46 : decode cX9_endedBy 46 = .ok (.iconst 0, 1) := by decide +kernel
theorem dX9_endedBy_47 : decode cX9_endedBy 47 = .ok (.putfield 38, 3) := by decide +kernel
theorem dX9_endedBy_50 : decode cX9_endedBy 50 = .ok (.aload_n 0, 1) := by decide +kernel
theorem dX9_endedBy_51 : decode cX9_endedBy 51 = .ok (.getfield 38, 3) := by decide +kernel
theorem dX9_endedBy_54 : decode cX9_endedBy 54 = .ok (.iconst 1, 1) := by decide +kernel
theorem dX9_endedBy_55 : decode cX9_endedBy 55 = .ok (.iadd, 1) := by decide +kernel
theorem dX9_endedBy_56 : decode cX9_endedBy 56 = .ok (.istore_n 3, 1) := by decide +kernel
theorem dX9_endedBy_57 : decode cX9_endedBy 57 = .ok (.iload_n 3, 1) := by decide +kernel
theorem dX9_endedBy_58 : decode cX9_endedBy 58 = .ok (.iload_n 2, 1) := by decide +kernel
theorem dX9_endedBy_59 : decode cX9_endedBy 59 = .ok (.if_icmp .gt 48, 3) := by decide +kernel
theorem dX9_endedBy_62 : decode cX9_endedBy 62 = .ok (.iload_n 3, 1) := by decide +kernel
theorem dX9_endedBy_63 : decode cX9_endedBy 63 = .ok (.sipush 200, 3) := by decide +kernel
theorem dX9_endedBy_66 : decode cX9_endedBy 66 = .ok (.if_icmp .gt 41, 3) := by decide +kernel
theorem dX9_endedBy_69 : decode cX9_endedBy 69 = .ok (.aload_n 0, 1) := by decide +kernel
theorem dX9_endedBy_70 : decode cX9_endedBy 70 = .ok (.aload_n 1, 1) := by decide +kernel
theorem dX9_endedBy_71 : decode cX9_endedBy 71 = .ok (.invokevirtual 41, 3) := by decide +kernel
theorem dX9_endedBy_74 : decode cX9_endedBy 74 = .ok (.aload_n 0, 1) := by decide +kernel
theorem dX9_endedBy_75 : decode cX9_endedBy 75 = .ok (.getfield 18, 3) := by decide +kernel
theorem dX9_endedBy_78 : decode cX9_endedBy 78 = .ok (.iload_n 3, 1) := by decide +kernel
theorem dX9_endedBy_79 : decode cX9_endedBy 79 = .ok (.aload_n 0, 1) := by decide +kernel
theorem dX9_endedBy_80 : decode cX9_endedBy 80 = .ok (.getfield 18, 3) := by decide +kernel
theorem dX9_endedBy_83 : decode cX9_endedBy 83 = .ok (.iload_n 3, 1) := by decide +kernel
theorem dX9_endedBy_84 : decode cX9_endedBy 84 = .ok (.iconst 1, 1) := by decide +kernel
theorem dX9_endedBy_85 : decode cX9_endedBy 85 = .ok (.isub, 1) := by decide +kernel
theorem dX9_endedBy_86 : decode cX9_endedBy 86 = .ok (.iaload, 1) := by decide +kernel
theorem dX9_endedBy_87 : decode cX9_endedBy 87 = .ok (.aload_n 0, 1) := by decide +kernel
theorem dX9_endedBy_88 : decode cX9_endedBy 88 = .ok (.aload_n 1, 1) := by decide +kernel
theorem dX9_endedBy_89 : decode cX9_endedBy 89 = .ok (.invokevirtual 34, 3) := by decide +kernel
theorem dX9_endedBy_92 : decode cX9_endedBy 92 = .ok (.invokestatic 45, 3) := by decide +kernel
theorem dX9_endedBy_95 : decode cX9_endedBy 95 = .ok (.iastore, 1) := by decide +kernel
theorem dX9_endedBy_96 : decode cX9_endedBy 96 = .ok (.aload_n 0, 1) := by decide +kernel
theorem dX9_endedBy_97 : decode cX9_endedBy 97 = .ok (.iload_n 3, 1) := by decide +kernel
theorem dX9_endedBy_98 : decode cX9_endedBy 98 = .ok (.putfield 38, 3) := by decide +kernel
theorem dX9_endedBy_101 : decode cX9_endedBy 101 = .ok (.iinc 3 1, 3) := by decide +kernel
theorem dX9_endedBy_104 : decode cX9_endedBy 104 = .ok (.goto (-47), 3) := by decide +kernel
theorem dX9_endedBy_107 : decode cX9_endedBy 107 = .ok (.iload_n 2, 1) := by decide +kernel
theorem dX9_endedBy_108 : decode cX9_endedBy 108 = .ok (.ifCond .lt 20, 3) := by decide +kernel
theorem dX9_endedBy_111 : decode cX9_endedBy 111 = .ok (.iload_n 2, 1) := by decide +kernel
theorem dX9_endedBy_112 : decode cX9_endedBy 112 = .ok (.aload_n 0, 1) := by decide +kernel
theorem dX9_endedBy_113 : decode cX9_endedBy 113 = .ok (.getfield 38, 3) := by decide +kernel
theorem dX9_endedBy_116 : decode cX9_endedBy 116 = .ok (.if_icmp .gt 12, 3) := by decide +kernel
theorem dX9_endedBy_119 : decode cX9_endedBy 119 = .ok (.aload_n 0, 1) := by decide +kernel
theorem dX9_endedBy_120 : decode cX9_endedBy 120 = .ok (.getfield 18, 3) := by decide +kernel
theorem dX9_endedBy_123 : decode cX9_endedBy 123 = .ok (.iload_n 2, 1) := by decide +kernel
theorem dX9_endedBy_124 : decode cX9_endedBy 124 = .ok (.iaload, 1) := by decide +kernel
theorem dX9_endedBy_125 : decode cX9_endedBy 125 = .ok (.goto 4, 3) := by decide +kernel
theorem dX9_endedBy_128 : decode cX9_endedBy 128 = .ok (.iconst 0, 1) := by decide +kernel
theorem dX9_endedBy_129 : decode cX9_endedBy 129 = .ok (.ireturn, 1) := by decide +kernel
theorem dX9_atEnd_0 : decode cX9_atEnd 0 = .ok (.iconst 0, 1) := by decide +kernel
theorem dX9_atEnd_1 : decode cX9_atEnd 1 = .ok (.istore_n 2, 1) := by decide +kernel
theorem dX9_atEnd_2 : decode cX9_atEnd 2 = .ok (.iconst 0, 1) := by decide +kernel
theorem dX9_atEnd_3 : decode cX9_atEnd 3 = .ok (.istore_n 3, 1) := by decide +kernel
theorem dX9_atEnd_4 : decode cX9_atEnd 4 = .ok (.iload_n 3, 1) := by decide +kernel
theorem dX9_atEnd_5 : decode cX9_atEnd 5 = .ok (.aload_n 1, 1) := by decide +kernel
theorem dX9_atEnd_6 : decode cX9_atEnd 6 = .ok (.getfield 51, 3) := by decide +kernel
theorem dX9_atEnd_9 : decode cX9_atEnd 9 = .ok (.if_icmp .ge 28, 3) := by decide +kernel
theorem dX9_atEnd_12 : decode cX9_atEnd 12 = .ok (.aload_n 1, 1) := by decide +kernel
theorem dX9_atEnd_13 : decode cX9_atEnd 13 = .ok (.iload_n 3, 1) := by decide +kernel
theorem dX9_atEnd_14 : decode cX9_atEnd 14 = .ok (.invokevirtual 54, 3) := by decide +kernel
theorem dX9_atEnd_17 : decode cX9_atEnd 17 = .ok (.ifCond .eq 14, 3) := by decide +kernel
theorem dX9_atEnd_20 : decode cX9_atEnd 20 = .ok (.iload_n 2, 1) := by decide +kernel
theorem dX9_atEnd_21 : decode cX9_atEnd 21 = .ok (.aload_n 0, 1) := by decide +kernel
theorem dX9_atEnd_22 : decode cX9_atEnd 22 = .ok (.getfield 9, 3) := by decide +kernel
theorem dX9_atEnd_25 : decode cX9_atEnd 25 = .ok (.iload_n 3, 1) := by decide +kernel
theorem dX9_atEnd_26 : decode cX9_atEnd 26 = .ok (.iaload, 1) := by decide +kernel
theorem dX9_atEnd_27 : decode cX9_atEnd 27 = .ok (.invokestatic 45, 3) := by decide +kernel
theorem dX9_atEnd_30 : decode cX9_atEnd 30 = .ok (.istore_n 2, 1) := by decide +kernel
theorem dX9_atEnd_31 : decode cX9_atEnd 31 = .ok (.iinc 3 1, 3) := by decide +kernel
theorem dX9_atEnd_34 : decode cX9_atEnd 34 = .ok (.goto (-30), 3) := by decide +kernel
theorem dX9_atEnd_37 : decode cX9_atEnd 37 = .ok (.iload_n 2, 1) := by decide +kernel
theorem dX9_atEnd_38 : decode cX9_atEnd 38 = .ok (.ireturn, 1) := by decide +kernel
theorem dX9_moveOn_0 : decode cX9_moveOn 0 = .ok (.aload_n 0, 1) := by decide +kernel
theorem dX9_moveOn_1 : decode cX9_moveOn 1 = .ok (.getfield 15, 3) := by decide +kernel
theorem dX9_moveOn_4 : decode cX9_moveOn 4 = .ok (.iconst 0, 1) := by decide +kernel
theorem dX9_moveOn_5 : decode cX9_moveOn 5 = .ok (.invokestatic 28, 3) := by decide +kernel
theorem dX9_moveOn_8 : decode cX9_moveOn 8 = .ok (.iconst 0, 1) := by decide +kernel
theorem dX9_moveOn_9 : decode cX9_moveOn 9 = .ok (.istore_n 2, 1) := by decide +kernel
theorem dX9_moveOn_10 : decode cX9_moveOn 10 = .ok (.iload_n 2, 1) := by decide +kernel
theorem dX9_moveOn_11 : decode cX9_moveOn 11 = .ok (.aload_n 1, 1) := by decide +kernel
theorem dX9_moveOn_12 : decode cX9_moveOn 12 = .ok (.getfield 51, 3) := by decide +kernel
theorem dX9_moveOn_15 : decode cX9_moveOn 15 = .ok (.if_icmp .ge 92, 3) := by decide +kernel
theorem dX9_moveOn_18 : decode cX9_moveOn 18 = .ok (.aload_n 0, 1) := by decide +kernel
theorem dX9_moveOn_19 : decode cX9_moveOn 19 = .ok (.getfield 9, 3) := by decide +kernel
theorem dX9_moveOn_22 : decode cX9_moveOn 22 = .ok (.iload_n 2, 1) := by decide +kernel
theorem dX9_moveOn_23 : decode cX9_moveOn 23 = .ok (.iaload, 1) := by decide +kernel
theorem dX9_moveOn_24 : decode cX9_moveOn 24 = .ok (.ifCond .eq 77, 3) := by decide +kernel
theorem dX9_moveOn_27 : decode cX9_moveOn 27 = .ok (.aload_n 0, 1) := by decide +kernel
theorem dX9_moveOn_28 : decode cX9_moveOn 28 = .ok (.getfield 9, 3) := by decide +kernel
theorem dX9_moveOn_31 : decode cX9_moveOn 31 = .ok (.iload_n 2, 1) := by decide +kernel
theorem dX9_moveOn_32 : decode cX9_moveOn 32 = .ok (.iaload, 1) := by decide +kernel
theorem dX9_moveOn_33 : decode cX9_moveOn 33 = .ok (.invokestatic 58, 3) := by decide +kernel
theorem dX9_moveOn_36 : decode cX9_moveOn 36 = .ok (.istore_n 3, 1) := by decide +kernel
theorem dX9_moveOn_37 : decode cX9_moveOn 37 = .ok (.aload_n 1, 1) := by decide +kernel
theorem dX9_moveOn_38 : decode cX9_moveOn 38 = .ok (.getfield 62, 3) := by decide +kernel
theorem dX9_moveOn_41 : decode cX9_moveOn 41 = .ok (.iload_n 2, 1) := by decide +kernel
theorem dX9_moveOn_42 : decode cX9_moveOn 42 = .ok (.iaload, 1) := by decide +kernel
theorem dX9_moveOn_43 : decode cX9_moveOn 43 = .ok (.istore 4, 2) := by decide +kernel
theorem dX9_moveOn_45 : decode cX9_moveOn 45 = .ok (.iload 4, 2) := by decide +kernel
theorem dX9_moveOn_47 : decode cX9_moveOn 47 = .ok (.aload_n 1, 1) := by decide +kernel
theorem dX9_moveOn_48 : decode cX9_moveOn 48 = .ok (.getfield 62, 3) := by decide +kernel
theorem dX9_moveOn_51 : decode cX9_moveOn 51 = .ok (.iload_n 2, 1) := by decide +kernel
theorem dX9_moveOn_52 : decode cX9_moveOn 52 = .ok (.iconst 1, 1) := by decide +kernel
theorem dX9_moveOn_53 : decode cX9_moveOn 53 = .ok (.iadd, 1) := by decide +kernel
theorem dX9_moveOn_54 : decode cX9_moveOn 54 = .ok (.iaload, 1) := by decide +kernel
theorem dX9_moveOn_55 : decode cX9_moveOn 55 = .ok (.if_icmp .ge 46, 3) := by decide +kernel
theorem dX9_moveOn_58 : decode cX9_moveOn 58 = .ok (.aload_n 1, 1) := by decide +kernel
theorem dX9_moveOn_59 : decode cX9_moveOn 59 = .ok (.getfield 65, 3) := by decide +kernel
theorem dX9_moveOn_62 : decode cX9_moveOn 62 = .ok (.iload 4, 2) := by decide +kernel
theorem dX9_moveOn_64 : decode cX9_moveOn 64 = .ok (.iaload, 1) := by decide +kernel
theorem dX9_moveOn_65 : decode cX9_moveOn 65 = .ok (.istore 5, 2) := by decide +kernel
theorem dX9_moveOn_67 : decode cX9_moveOn 67 = .ok (.aload_n 0, 1) := by decide +kernel
theorem dX9_moveOn_68 : decode cX9_moveOn 68 = .ok (.getfield 15, 3) := by decide +kernel
theorem dX9_moveOn_71 : decode cX9_moveOn 71 = .ok (.iload 5, 2) := by decide +kernel
theorem dX9_moveOn_73 : decode cX9_moveOn 73 = .ok (.aload_n 0, 1) := by decide +kernel
theorem dX9_moveOn_74 : decode cX9_moveOn 74 = .ok (.getfield 15, 3) := by decide +kernel
theorem dX9_moveOn_77 : decode cX9_moveOn 77 = .ok (.iload 5, 2) := by decide +kernel
theorem dX9_moveOn_79 : decode cX9_moveOn 79 = .ok (.iaload, 1) := by decide +kernel
theorem dX9_moveOn_80 : decode cX9_moveOn 80 = .ok (.iload_n 3, 1) := by decide +kernel
theorem dX9_moveOn_81 : decode cX9_moveOn 81 = .ok (.aload_n 1, 1) := by decide +kernel
theorem dX9_moveOn_82 : decode cX9_moveOn 82 = .ok (.getfield 68, 3) := by decide +kernel
theorem dX9_moveOn_85 : decode cX9_moveOn 85 = .ok (.iload 4, 2) := by decide +kernel
theorem dX9_moveOn_87 : decode cX9_moveOn 87 = .ok (.iaload, 1) := by decide +kernel
theorem dX9_moveOn_88 : decode cX9_moveOn 88 = .ok (.invokestatic 71, 3) := by decide +kernel
theorem dX9_moveOn_91 : decode cX9_moveOn 91 = .ok (.invokestatic 45, 3) := by decide +kernel
theorem dX9_moveOn_94 : decode cX9_moveOn 94 = .ok (.iastore, 1) := by decide +kernel
theorem dX9_moveOn_95 : decode cX9_moveOn 95 = .ok (.iinc 4 1, 3) := by decide +kernel
theorem dX9_moveOn_98 : decode cX9_moveOn 98 = .ok (.goto (-53), 3) := by decide +kernel
theorem dX9_moveOn_101 : decode cX9_moveOn 101 = .ok (.iinc 2 1, 3) := by decide +kernel
theorem dX9_moveOn_104 : decode cX9_moveOn 104 = .ok (.goto (-94), 3) := by decide +kernel
theorem dX9_moveOn_107 : decode cX9_moveOn 107 = .ok (.aload_n 0, 1) := by decide +kernel
theorem dX9_moveOn_108 : decode cX9_moveOn 108 = .ok (.getfield 9, 3) := by decide +kernel
theorem dX9_moveOn_111 : decode cX9_moveOn 111 = .ok (.astore_n 2, 1) := by decide +kernel
theorem dX9_moveOn_112 : decode cX9_moveOn 112 = .ok (.aload_n 0, 1) := by decide +kernel
theorem dX9_moveOn_113 : decode cX9_moveOn 113 = .ok (.aload_n 0, 1) := by decide +kernel
theorem dX9_moveOn_114 : decode cX9_moveOn 114 = .ok (.getfield 15, 3) := by decide +kernel
theorem dX9_moveOn_117 : decode cX9_moveOn 117 = .ok (.putfield 9, 3) := by decide +kernel
theorem dX9_moveOn_120 : decode cX9_moveOn 120 = .ok (.aload_n 0, 1) := by decide +kernel
theorem dX9_moveOn_121 : decode cX9_moveOn 121 = .ok (.aload_n 2, 1) := by decide +kernel
theorem dX9_moveOn_122 : decode cX9_moveOn 122 = .ok (.putfield 15, 3) := by decide +kernel
theorem dX9_moveOn_125 : decode cX9_moveOn 125 = .ok (.return_, 1) := by decide +kernel
theorem dX10_init_0 : decode cX10_init 0 = .ok (.aload_n 0, 1) := by decide +kernel
theorem dX10_init_1 : decode cX10_init 1 = .ok (.invokespecial 1, 3) := by decide +kernel
theorem dX10_init_4 : decode cX10_init 4 = .ok (.aload_n 0, 1) := by decide +kernel
theorem dX10_init_5 : decode cX10_init 5 = .ok (.new 7, 3) := by decide +kernel
theorem dX10_init_8 : decode cX10_init 8 = .ok (.dup, 1) := by decide +kernel
theorem dX10_init_9 : decode cX10_init 9 = .ok (.invokespecial 9, 3) := by decide +kernel
theorem dX10_init_12 : decode cX10_init 12 = .ok (.putfield 10, 3) := by decide +kernel
theorem dX10_init_15 : decode cX10_init 15 = .ok (.aload_n 0, 1) := by decide +kernel
theorem dX10_init_16 : decode cX10_init 16 = .ok (.iconst (-1), 1) := by decide +kernel
theorem dX10_init_17 : decode cX10_init 17 = .ok (.putfield 16, 3) := by decide +kernel
theorem dX10_init_20 : decode cX10_init 20 = .ok (.aload_n 0, 1) := by decide +kernel
theorem dX10_init_21 : decode cX10_init 21 = .ok (.new 20, 3) := by decide +kernel
theorem dX10_init_24 : decode cX10_init 24 = .ok (.dup, 1) := by decide +kernel
theorem dX10_init_25 : decode cX10_init 25 = .ok (.invokespecial 22, 3) := by decide +kernel
theorem dX10_init_28 : decode cX10_init 28 = .ok (.putfield 23, 3) := by decide +kernel
theorem dX10_init_31 : decode cX10_init 31 = .ok (.aload_n 0, 1) := by decide +kernel
theorem dX10_init_32 : decode cX10_init 32 = .ok (.new 27, 3) := by decide +kernel
theorem dX10_init_35 : decode cX10_init 35 = .ok (.dup, 1) := by decide +kernel
theorem dX10_init_36 : decode cX10_init 36 = .ok (.invokespecial 29, 3) := by decide +kernel
theorem dX10_init_39 : decode cX10_init 39 = .ok (.putfield 30, 3) := by decide +kernel
theorem dX10_init_42 : decode cX10_init 42 = .ok (.aload_n 0, 1) := by decide +kernel
theorem dX10_init_43 : decode cX10_init 43 = .ok (.new 34, 3) := by decide +kernel
theorem dX10_init_46 : decode cX10_init 46 = .ok (.dup, 1) := by decide +kernel
theorem dX10_init_47 : decode cX10_init 47 = .ok (.invokespecial 36, 3) := by decide +kernel
theorem dX10_init_50 : decode cX10_init 50 = .ok (.putfield 37, 3) := by decide +kernel
theorem dX10_init_53 : decode cX10_init 53 = .ok (.aload_n 0, 1) := by decide +kernel
theorem dX10_init_54 : decode cX10_init 54 = .ok (.new 41, 3) := by decide +kernel
theorem dX10_init_57 : decode cX10_init 57 = .ok (.dup, 1) := by decide +kernel
theorem dX10_init_58 : decode cX10_init 58 = .ok (.invokespecial 43, 3) := by decide +kernel
theorem dX10_init_61 : decode cX10_init 61 = .ok (.putfield 44, 3) := by decide +kernel
theorem dX10_init_64 : decode cX10_init 64 = .ok (.aload_n 0, 1) := by decide +kernel
theorem dX10_init_65 : decode cX10_init 65 = .ok (.new 48, 3) := by decide +kernel
theorem dX10_init_68 : decode cX10_init 68 = .ok (.dup, 1) := by decide +kernel
theorem dX10_init_69 : decode cX10_init 69 = .ok (.invokespecial 50, 3) := by decide +kernel
theorem dX10_init_72 : decode cX10_init 72 = .ok (.putfield 51, 3) := by decide +kernel
theorem dX10_init_75 : decode cX10_init 75 = .ok (.aload_n 0, 1) := by decide +kernel
theorem dX10_init_76 : decode cX10_init 76 = .ok (.new 55, 3) := by decide +kernel
theorem dX10_init_79 : decode cX10_init 79 = .ok (.dup, 1) := by decide +kernel
theorem dX10_init_80 : decode cX10_init 80 = .ok (.invokespecial 57, 3) := by decide +kernel
theorem dX10_init_83 : decode cX10_init 83 = .ok (.putfield 58, 3) := by decide +kernel
theorem dX10_init_86 : decode cX10_init 86 = .ok (.aload_n 0, 1) := by decide +kernel
theorem dX10_init_87 : decode cX10_init 87 = .ok (.new 62, 3) := by decide +kernel
theorem dX10_init_90 : decode cX10_init 90 = .ok (.dup, 1) := by decide +kernel
theorem dX10_init_91 : decode cX10_init 91 = .ok (.invokespecial 64, 3) := by decide +kernel
theorem dX10_init_94 : decode cX10_init 94 = .ok (.putfield 65, 3) := by decide +kernel
theorem dX10_init_97 : decode cX10_init 97 = .ok (.aload_n 0, 1) := by decide +kernel
theorem dX10_init_98 : decode cX10_init 98 = .ok (.iconst 3, 1) := by decide +kernel
theorem dX10_init_99 : decode cX10_init 99 = .ok (.newarray .int, 2) := by decide +kernel
theorem dX10_init_101 : decode cX10_init 101 = .ok (.putfield 69, 3) := by decide +kernel
theorem dX10_init_104 : decode cX10_init 104 = .ok (.return_, 1) := by decide +kernel
theorem dX10_feed_0 : decode cX10_feed 0 = .ok (.aload_n 0, 1) := by decide +kernel
theorem dX10_feed_1 : decode cX10_feed 1 = .ok (.getfield 10, 3) := by decide +kernel
theorem dX10_feed_4 : decode cX10_feed 4 = .ok (.getfield 73, 3) := by decide +kernel
theorem dX10_feed_7 : decode cX10_feed 7 = .ok (.bipush 20, 2) := by decide +kernel
theorem dX10_feed_9 : decode cX10_feed 9 = .ok (.iadd, 1) := by decide +kernel
theorem dX10_feed_10 : decode cX10_feed 10 = .ok (.sipush 400, 3) := by decide +kernel
theorem dX10_feed_13 : decode cX10_feed 13 = .ok (.if_icmp .le 5, 3) := by decide +kernel
theorem dX10_feed_16 : decode cX10_feed 16 = .ok (.iconst (-1), 1) := by decide +kernel
theorem dX10_feed_17 : decode cX10_feed 17 = .ok (.ireturn, 1) := by decide +kernel
theorem dX10_feed_18 : decode cX10_feed 18 = .ok (.aload_n 0, 1) := by decide +kernel
theorem dX10_feed_19 : decode cX10_feed 19 = .ok (.getfield 10, 3) := by decide +kernel
theorem dX10_feed_22 : decode cX10_feed 22 = .ok (.iload_n 1, 1) := by decide +kernel
theorem dX10_feed_23 : decode cX10_feed 23 = .ok (.invokevirtual 76, 3) := by decide +kernel
theorem dX10_feed_26 : decode cX10_feed 26 = .ok (.aload_n 0, 1) := by decide +kernel
theorem dX10_feed_27 : decode cX10_feed 27 = .ok (.getfield 10, 3) := by decide +kernel
theorem dX10_feed_30 : decode cX10_feed 30 = .ok (.iload_n 2, 1) := by decide +kernel
theorem dX10_feed_31 : decode cX10_feed 31 = .ok (.invokevirtual 76, 3) := by decide +kernel
theorem dX10_feed_34 : decode cX10_feed 34 = .ok (.aload_n 0, 1) := by decide +kernel
theorem dX10_feed_35 : decode cX10_feed 35 = .ok (.getfield 10, 3) := by decide +kernel
theorem dX10_feed_38 : decode cX10_feed 38 = .ok (.iload_n 3, 1) := by decide +kernel
theorem dX10_feed_39 : decode cX10_feed 39 = .ok (.invokevirtual 76, 3) := by decide +kernel
theorem dX10_feed_42 : decode cX10_feed 42 = .ok (.aload_n 0, 1) := by decide +kernel
theorem dX10_feed_43 : decode cX10_feed 43 = .ok (.getfield 10, 3) := by decide +kernel
theorem dX10_feed_46 : decode cX10_feed 46 = .ok (.iload 4, 2) := by decide +kernel
theorem dX10_feed_48 : decode cX10_feed 48 = .ok (.invokevirtual 76, 3) := by decide +kernel
theorem dX10_feed_51 : decode cX10_feed 51 = .ok (.aload_n 0, 1) := by decide +kernel
theorem dX10_feed_52 : decode cX10_feed 52 = .ok (.getfield 10, 3) := by decide +kernel
theorem dX10_feed_55 : decode cX10_feed 55 = .ok (.iload 5, 2) := by decide +kernel
theorem dX10_feed_57 : decode cX10_feed 57 = .ok (.invokevirtual 76, 3) := by decide +kernel
theorem dX10_feed_60 : decode cX10_feed 60 = .ok (.aload_n 0, 1) := by decide +kernel
theorem dX10_feed_61 : decode cX10_feed 61 = .ok (.getfield 10, 3) := by decide +kernel
theorem dX10_feed_64 : decode cX10_feed 64 = .ok (.getfield 73, 3) := by decide +kernel
theorem dX10_feed_67 : decode cX10_feed 67 = .ok (.ireturn, 1) := by decide +kernel
theorem dX10_text_0 : decode cX10_text 0 = .ok (.aload_n 0, 1) := by decide +kernel
theorem dX10_text_1 : decode cX10_text 1 = .ok (.iload_n 1, 1) := by decide +kernel
theorem dX10_text_2 : decode cX10_text 2 = .ok (.iconst 0, 1) := by decide +kernel
theorem dX10_text_3 : decode cX10_text 3 = .ok (.aload_n 0, 1) := by decide +kernel
theorem dX10_text_4 : decode cX10_text 4 = .ok (.getfield 10, 3) := by decide +kernel
theorem dX10_text_7 : decode cX10_text 7 = .ok (.getfield 73, 3) := by decide +kernel
theorem dX10_text_10 : decode cX10_text 10 = .ok (.invokevirtual 80, 3) := by decide +kernel
theorem dX10_text_13 : decode cX10_text 13 = .ok (.aload_n 0, 1) := by decide +kernel
theorem dX10_text_14 : decode cX10_text 14 = .ok (.getfield 10, 3) := by decide +kernel
theorem dX10_text_17 : decode cX10_text 17 = .ok (.iload_n 1, 1) := by decide +kernel
theorem dX10_text_18 : decode cX10_text 18 = .ok (.invokevirtual 84, 3) := by decide +kernel
theorem dX10_text_21 : decode cX10_text 21 = .ok (.istore_n 2, 1) := by decide +kernel
theorem dX10_text_22 : decode cX10_text 22 = .ok (.aload_n 0, 1) := by decide +kernel
theorem dX10_text_23 : decode cX10_text 23 = .ok (.aload_n 0, 1) := by decide +kernel
theorem dX10_text_24 : decode cX10_text 24 = .ok (.getfield 10, 3) := by decide +kernel
theorem dX10_text_27 : decode cX10_text 27 = .ok (.invokevirtual 88, 3) := by decide +kernel
theorem dX10_text_30 : decode cX10_text 30 = .ok (.putfield 16, 3) := by decide +kernel
theorem dX10_text_33 : decode cX10_text 33 = .ok (.iload_n 2, 1) := by decide +kernel
theorem dX10_text_34 : decode cX10_text 34 = .ok (.ifCond .eq 8, 3) := by decide +kernel
theorem dX10_text_37 : decode cX10_text 37 = .ok (.iload_n 2, 1) := by decide +kernel
theorem dX10_text_38 : decode cX10_text 38 = .ok (.bipush 10, 2) := by decide +kernel
theorem dX10_text_40 : decode cX10_text 40 = .ok (.isub, 1) := by decide +kernel
theorem dX10_text_41 : decode cX10_text 41 = .ok (.ireturn, 1) := by decide +kernel
theorem dX10_text_42 : decode cX10_text 42 = .ok (.aload_n 0, 1) := by decide +kernel
theorem dX10_text_43 : decode cX10_text 43 = .ok (.aload_n 0, 1) := by decide +kernel
theorem dX10_text_44 : decode cX10_text 44 = .ok (.getfield 10, 3) := by decide +kernel
theorem dX10_text_47 : decode cX10_text 47 = .ok (.aload_n 0, 1) := by decide +kernel
theorem dX10_text_48 : decode cX10_text 48 = .ok (.getfield 23, 3) := by decide +kernel
theorem dX10_text_51 : decode cX10_text 51 = .ok (.invokevirtual 91, 3) := by decide +kernel
theorem dX10_text_54 : decode cX10_text 54 = .ok (.putfield 23, 3) := by decide +kernel
theorem dX10_text_57 : decode cX10_text 57 = .ok (.aload_n 0, 1) := by decide +kernel
theorem dX10_text_58 : decode cX10_text 58 = .ok (.iconst 0, 1) := by decide +kernel
theorem dX10_text_59 : decode cX10_text 59 = .ok (.putfield 95, 3) := by decide +kernel
theorem dX10_text_62 : decode cX10_text 62 = .ok (.aload_n 0, 1) := by decide +kernel
theorem dX10_text_63 : decode cX10_text 63 = .ok (.getfield 30, 3) := by decide +kernel
theorem dX10_text_66 : decode cX10_text 66 = .ok (.invokevirtual 98, 3) := by decide +kernel
theorem dX10_text_69 : decode cX10_text 69 = .ok (.aload_n 0, 1) := by decide +kernel
theorem dX10_text_70 : decode cX10_text 70 = .ok (.getfield 37, 3) := by decide +kernel
theorem dX10_text_73 : decode cX10_text 73 = .ok (.invokevirtual 101, 3) := by decide +kernel
theorem dX10_text_76 : decode cX10_text 76 = .ok (.aload_n 0, 1) := by decide +kernel
theorem dX10_text_77 : decode cX10_text 77 = .ok (.getfield 23, 3) := by decide +kernel
theorem dX10_text_80 : decode cX10_text 80 = .ok (.getfield 104, 3) := by decide +kernel
theorem dX10_text_83 : decode cX10_text 83 = .ok (.ireturn, 1) := by decide +kernel
theorem dX10_fault_0 : decode cX10_fault 0 = .ok (.aload_n 0, 1) := by decide +kernel
theorem dX10_fault_1 : decode cX10_fault 1 = .ok (.getfield 16, 3) := by decide +kernel
theorem dX10_fault_4 : decode cX10_fault 4 = .ok (.ireturn, 1) := by decide +kernel
theorem dX10_first_0 : decode cX10_first 0 = .ok (.aload_n 0, 1) := by decide +kernel
theorem dX10_first_1 : decode cX10_first 1 = .ok (.iload_n 1, 1) := by decide +kernel
theorem dX10_first_2 : decode cX10_first 2 = .ok (.invokevirtual 107, 3) := by decide +kernel
theorem dX10_first_5 : decode cX10_first 5 = .ok (.aload_n 0, 1) := by decide +kernel
theorem dX10_first_6 : decode cX10_first 6 = .ok (.iload_n 2, 1) := by decide +kernel
theorem dX10_first_7 : decode cX10_first 7 = .ok (.iconst 0, 1) := by decide +kernel
theorem dX10_first_8 : decode cX10_first 8 = .ok (.bipush 9, 2) := by decide +kernel
theorem dX10_first_10 : decode cX10_first 10 = .ok (.invokevirtual 80, 3) := by decide +kernel
theorem dX10_first_13 : decode cX10_first 13 = .ok (.aload_n 0, 1) := by decide +kernel
theorem dX10_first_14 : decode cX10_first 14 = .ok (.getfield 95, 3) := by decide +kernel
theorem dX10_first_17 : decode cX10_first 17 = .ok (.iload_n 1, 1) := by decide +kernel
theorem dX10_first_18 : decode cX10_first 18 = .ok (.invokestatic 110, 3) := by decide +kernel
theorem dX10_first_21 : decode cX10_first 21 = .ok (.istore_n 3, 1) := by decide +kernel
theorem dX10_first_22 : decode cX10_first 22 = .ok (.aload_n 0, 1) := by decide +kernel
theorem dX10_first_23 : decode cX10_first 23 = .ok (.getfield 30, 3) := by decide +kernel
theorem dX10_first_26 : decode cX10_first 26 = .ok (.iload_n 1, 1) := by decide +kernel
theorem dX10_first_27 : decode cX10_first 27 = .ok (.iload_n 3, 1) := by decide +kernel
theorem dX10_first_28 : decode cX10_first 28 = .ok (.invokevirtual 116, 3) := by decide +kernel
theorem dX10_first_31 : decode cX10_first 31 = .ok (.aload_n 0, 1) := by decide +kernel
theorem dX10_first_32 : decode cX10_first 32 = .ok (.aload_n 0, 1) := by decide +kernel
theorem dX10_first_33 : decode cX10_first 33 = .ok (.getfield 95, 3) := by decide +kernel
theorem dX10_first_36 : decode cX10_first 36 = .ok (.iload_n 1, 1) := by decide +kernel
theorem dX10_first_37 : decode cX10_first 37 = .ok (.iload_n 2, 1) := by decide +kernel
theorem dX10_first_38 : decode cX10_first 38 = .ok (.invokestatic 120, 3) := by decide +kernel
theorem dX10_first_41 : decode cX10_first 41 = .ok (.putfield 95, 3) := by decide +kernel
theorem dX10_first_44 : decode cX10_first 44 = .ok (.aload_n 0, 1) := by decide +kernel
theorem dX10_first_45 : decode cX10_first 45 = .ok (.getfield 37, 3) := by decide +kernel
theorem dX10_first_48 : decode cX10_first 48 = .ok (.invokevirtual 101, 3) := by decide +kernel
theorem dX10_first_51 : decode cX10_first 51 = .ok (.iload_n 3, 1) := by decide +kernel
theorem dX10_first_52 : decode cX10_first 52 = .ok (.ireturn, 1) := by decide +kernel
theorem dX10_chance_0 : decode cX10_chance 0 = .ok (.aload_n 0, 1) := by decide +kernel
theorem dX10_chance_1 : decode cX10_chance 1 = .ok (.iload_n 1, 1) := by decide +kernel
theorem dX10_chance_2 : decode cX10_chance 2 = .ok (.invokevirtual 123, 3) := by decide +kernel
theorem dX10_chance_5 : decode cX10_chance 5 = .ok (.aload_n 0, 1) := by decide +kernel
theorem dX10_chance_6 : decode cX10_chance 6 = .ok (.iload_n 2, 1) := by decide +kernel
theorem dX10_chance_7 : decode cX10_chance 7 = .ok (.iconst 0, 1) := by decide +kernel
theorem dX10_chance_8 : decode cX10_chance 8 = .ok (.bipush 60, 2) := by decide +kernel
theorem dX10_chance_10 : decode cX10_chance 10 = .ok (.invokevirtual 80, 3) := by decide +kernel
theorem dX10_chance_13 : decode cX10_chance 13 = .ok (.aload_n 0, 1) := by decide +kernel
theorem dX10_chance_14 : decode cX10_chance 14 = .ok (.getfield 23, 3) := by decide +kernel
theorem dX10_chance_17 : decode cX10_chance 17 = .ok (.getfield 126, 3) := by decide +kernel
theorem dX10_chance_20 : decode cX10_chance 20 = .ok (.iload_n 1, 1) := by decide +kernel
theorem dX10_chance_21 : decode cX10_chance 21 = .ok (.iaload, 1) := by decide +kernel
theorem dX10_chance_22 : decode cX10_chance 22 = .ok (.iconst 2, 1) := by decide +kernel
theorem dX10_chance_23 : decode cX10_chance 23 = .ok (.if_icmp .eq 7, 3) := by decide +kernel
theorem dX10_chance_26 : decode cX10_chance 26 = .ok (.aload_n 0, 1) := by decide +kernel
theorem dX10_chance_27 : decode cX10_chance 27 = .ok (.invokevirtual 129, 3) := by decide +kernel
theorem dX10_chance_30 : decode cX10_chance 30 = .ok (.aload_n 0, 1) := by decide +kernel
theorem dX10_chance_31 : decode cX10_chance 31 = .ok (.getfield 23, 3) := by decide +kernel
theorem dX10_chance_34 : decode cX10_chance 34 = .ok (.getfield 132, 3) := by decide +kernel
theorem dX10_chance_37 : decode cX10_chance 37 = .ok (.iload_n 1, 1) := by decide +kernel
theorem dX10_chance_38 : decode cX10_chance 38 = .ok (.iaload, 1) := by decide +kernel
theorem dX10_chance_39 : decode cX10_chance 39 = .ok (.istore_n 3, 1) := by decide +kernel
theorem dX10_chance_40 : decode cX10_chance 40 = .ok (.aload_n 0, 1) := by decide +kernel
theorem dX10_chance_41 : decode cX10_chance 41 = .ok (.getfield 30, 3) := by decide +kernel
theorem dX10_chance_44 : decode cX10_chance 44 = .ok (.bipush 6, 2) := by decide +kernel
theorem dX10_chance_46 : decode cX10_chance 46 = .ok (.iload_n 1, 1) := by decide +kernel
theorem dX10_chance_47 : decode cX10_chance 47 = .ok (.iadd, 1) := by decide +kernel
theorem dX10_chance_48 : decode cX10_chance 48 = .ok (.iload_n 3, 1) := by decide +kernel
theorem dX10_chance_49 : decode cX10_chance 49 = .ok (.invokevirtual 116, 3) := by decide +kernel
theorem dX10_chance_52 : decode cX10_chance 52 = .ok (.aload_n 0, 1) := by decide +kernel
theorem dX10_chance_53 : decode cX10_chance 53 = .ok (.getfield 23, 3) := by decide +kernel
theorem dX10_chance_56 : decode cX10_chance 56 = .ok (.getfield 132, 3) := by decide +kernel
theorem dX10_chance_59 : decode cX10_chance 59 = .ok (.iload_n 1, 1) := by decide +kernel
theorem dX10_chance_60 : decode cX10_chance 60 = .ok (.iload_n 2, 1) := by decide +kernel
theorem dX10_chance_61 : decode cX10_chance 61 = .ok (.iastore, 1) := by decide +kernel
theorem dX10_chance_62 : decode cX10_chance 62 = .ok (.aload_n 0, 1) := by decide +kernel
theorem dX10_chance_63 : decode cX10_chance 63 = .ok (.getfield 37, 3) := by decide +kernel
theorem dX10_chance_66 : decode cX10_chance 66 = .ok (.invokevirtual 101, 3) := by decide +kernel
theorem dX10_chance_69 : decode cX10_chance 69 = .ok (.iload_n 3, 1) := by decide +kernel
theorem dX10_chance_70 : decode cX10_chance 70 = .ok (.ireturn, 1) := by decide +kernel
theorem dX10_undo_0 : decode cX10_undo 0 = .ok (.aload_n 0, 1) := by decide +kernel
theorem dX10_undo_1 : decode cX10_undo 1 = .ok (.getfield 30, 3) := by decide +kernel
theorem dX10_undo_4 : decode cX10_undo 4 = .ok (.getfield 135, 3) := by decide +kernel
theorem dX10_undo_7 : decode cX10_undo 7 = .ok (.ifCond .ne 5, 3) := by decide +kernel
theorem dX10_undo_10 : decode cX10_undo 10 = .ok (.iconst (-1), 1) := by decide +kernel
theorem dX10_undo_11 : decode cX10_undo 11 = .ok (.ireturn, 1) := by decide +kernel
theorem dX10_undo_12 : decode cX10_undo 12 = .ok (.aload_n 0, 1) := by decide +kernel
theorem dX10_undo_13 : decode cX10_undo 13 = .ok (.getfield 30, 3) := by decide +kernel
theorem dX10_undo_16 : decode cX10_undo 16 = .ok (.invokevirtual 136, 3) := by decide +kernel
theorem dX10_undo_19 : decode cX10_undo 19 = .ok (.istore_n 1, 1) := by decide +kernel
theorem dX10_undo_20 : decode cX10_undo 20 = .ok (.aload_n 0, 1) := by decide +kernel
theorem dX10_undo_21 : decode cX10_undo 21 = .ok (.getfield 30, 3) := by decide +kernel
theorem dX10_undo_24 : decode cX10_undo 24 = .ok (.invokevirtual 139, 3) := by decide +kernel
theorem dX10_undo_27 : decode cX10_undo 27 = .ok (.istore_n 2, 1) := by decide +kernel
theorem dX10_undo_28 : decode cX10_undo 28 = .ok (.aload_n 0, 1) := by decide +kernel
theorem dX10_undo_29 : decode cX10_undo 29 = .ok (.getfield 30, 3) := by decide +kernel
theorem dX10_undo_32 : decode cX10_undo 32 = .ok (.invokevirtual 142, 3) := by decide +kernel
theorem dX10_undo_35 : decode cX10_undo 35 = .ok (.iload_n 1, 1) := by decide +kernel
theorem dX10_undo_36 : decode cX10_undo 36 = .ok (.bipush 6, 2) := by decide +kernel
theorem dX10_undo_38 : decode cX10_undo 38 = .ok (.if_icmp .ge 19, 3) := by decide +kernel
theorem dX10_undo_41 : decode cX10_undo 41 = .ok (.aload_n 0, 1) := by decide +kernel
theorem dX10_undo_42 : decode cX10_undo 42 = .ok (.aload_n 0, 1) := by decide +kernel
theorem dX10_undo_43 : decode cX10_undo 43 = .ok (.getfield 95, 3) := by decide +kernel
theorem dX10_undo_46 : decode cX10_undo 46 = .ok (.iload_n 1, 1) := by decide +kernel
theorem dX10_undo_47 : decode cX10_undo 47 = .ok (.iload_n 2, 1) := by decide +kernel
theorem dX10_undo_48 : decode cX10_undo 48 = .ok (.invokestatic 120, 3) := by decide +kernel
theorem dX10_undo_51 : decode cX10_undo 51 = .ok (.putfield 95, 3) := by decide +kernel
theorem dX10_undo_54 : decode cX10_undo 54 = .ok (.goto 25, 3) := by decide +kernel
theorem dX10_undo_57 : decode cX10_undo 57 = .ok (.iload_n 1, 1) := by decide +kernel
theorem dX10_undo_58 : decode cX10_undo 58 = .ok (.bipush 6, 2) := by decide +kernel
theorem dX10_undo_60 : decode cX10_undo 60 = .ok (.isub, 1) := by decide +kernel
theorem dX10_undo_61 : decode cX10_undo 61 = .ok (.bipush 40, 2) := by decide +kernel
theorem dX10_undo_63 : decode cX10_undo 63 = .ok (.if_icmp .ge 16, 3) := by decide +kernel
theorem dX10_undo_66 : decode cX10_undo 66 = .ok (.aload_n 0, 1) := by decide +kernel
theorem dX10_undo_67 : decode cX10_undo 67 = .ok (.getfield 23, 3) := by decide +kernel
theorem dX10_undo_70 : decode cX10_undo 70 = .ok (.getfield 132, 3) := by decide +kernel
theorem dX10_undo_73 : decode cX10_undo 73 = .ok (.iload_n 1, 1) := by decide +kernel
theorem dX10_undo_74 : decode cX10_undo 74 = .ok (.bipush 6, 2) := by decide +kernel
theorem dX10_undo_76 : decode cX10_undo 76 = .ok (.isub, 1) := by decide +kernel
theorem dX10_undo_77 : decode cX10_undo 77 = .ok (.iload_n 2, 1) := by decide +kernel
theorem dX10_undo_78 : decode cX10_undo 78 = .ok (.iastore, 1) := by decide +kernel
theorem dX10_undo_79 : decode cX10_undo 79 = .ok (.aload_n 0, 1) := by decide +kernel
theorem dX10_undo_80 : decode cX10_undo 80 = .ok (.getfield 37, 3) := by decide +kernel
theorem dX10_undo_83 : decode cX10_undo 83 = .ok (.invokevirtual 101, 3) := by decide +kernel
theorem dX10_undo_86 : decode cX10_undo 86 = .ok (.aload_n 0, 1) := by decide +kernel
theorem dX10_undo_87 : decode cX10_undo 87 = .ok (.getfield 30, 3) := by decide +kernel
theorem dX10_undo_90 : decode cX10_undo 90 = .ok (.getfield 135, 3) := by decide +kernel
theorem dX10_undo_93 : decode cX10_undo 93 = .ok (.ireturn, 1) := by decide +kernel
theorem dX10_told_0 : decode cX10_told 0 = .ok (.aload_n 0, 1) := by decide +kernel
theorem dX10_told_1 : decode cX10_told 1 = .ok (.iload_n 1, 1) := by decide +kernel
theorem dX10_told_2 : decode cX10_told 2 = .ok (.iconst 0, 1) := by decide +kernel
theorem dX10_told_3 : decode cX10_told 3 = .ok (.bipush 7, 2) := by decide +kernel
theorem dX10_told_5 : decode cX10_told 5 = .ok (.invokevirtual 80, 3) := by decide +kernel
theorem dX10_told_8 : decode cX10_told 8 = .ok (.iload_n 1, 1) := by decide +kernel
theorem dX10_told_9 : decode cX10_told 9 = .ok (.ifCond .ne 11, 3) := by decide +kernel
theorem dX10_told_12 : decode cX10_told 12 = .ok (.aload_n 0, 1) := by decide +kernel
theorem dX10_told_13 : decode cX10_told 13 = .ok (.getfield 23, 3) := by decide +kernel
theorem dX10_told_16 : decode cX10_told 16 = .ok (.getfield 104, 3) := by decide +kernel
theorem dX10_told_19 : decode cX10_told 19 = .ok (.ireturn, 1) := by decide +kernel
theorem dX10_told_20 : decode cX10_told 20 = .ok (.iload_n 1, 1) := by decide +kernel
theorem dX10_told_21 : decode cX10_told 21 = .ok (.bipush 6, 2) := by decide +kernel
theorem dX10_told_23 : decode cX10_told 23 = .ok (.if_icmp .ne 11, 3) := by decide +kernel
theorem dX10_told_26 : decode cX10_told 26 = .ok (.aload_n 0, 1) := by decide +kernel
theorem dX10_told_27 : decode cX10_told 27 = .ok (.getfield 10, 3) := by decide +kernel
theorem dX10_told_30 : decode cX10_told 30 = .ok (.getfield 73, 3) := by decide +kernel
theorem dX10_told_33 : decode cX10_told 33 = .ok (.ireturn, 1) := by decide +kernel
theorem dX10_told_34 : decode cX10_told 34 = .ok (.iload_n 1, 1) := by decide +kernel
theorem dX10_told_35 : decode cX10_told 35 = .ok (.bipush 7, 2) := by decide +kernel
theorem dX10_told_37 : decode cX10_told 37 = .ok (.if_icmp .ne 11, 3) := by decide +kernel
theorem dX10_told_40 : decode cX10_told 40 = .ok (.aload_n 0, 1) := by decide +kernel
theorem dX10_told_41 : decode cX10_told 41 = .ok (.getfield 30, 3) := by decide +kernel
theorem dX10_told_44 : decode cX10_told 44 = .ok (.getfield 135, 3) := by decide +kernel
theorem dX10_told_47 : decode cX10_told 47 = .ok (.ireturn, 1) := by decide +kernel
theorem dX10_told_48 : decode cX10_told 48 = .ok (.aload_n 0, 1) := by decide +kernel
theorem dX10_told_49 : decode cX10_told 49 = .ok (.getfield 37, 3) := by decide +kernel
theorem dX10_told_52 : decode cX10_told 52 = .ok (.aload_n 0, 1) := by decide +kernel
theorem dX10_told_53 : decode cX10_told 53 = .ok (.getfield 23, 3) := by decide +kernel
theorem dX10_told_56 : decode cX10_told 56 = .ok (.aload_n 0, 1) := by decide +kernel
theorem dX10_told_57 : decode cX10_told 57 = .ok (.getfield 95, 3) := by decide +kernel
theorem dX10_told_60 : decode cX10_told 60 = .ok (.invokevirtual 145, 3) := by decide +kernel
theorem dX10_told_63 : decode cX10_told 63 = .ok (.aload_n 0, 1) := by decide +kernel
theorem dX10_told_64 : decode cX10_told 64 = .ok (.getfield 37, 3) := by decide +kernel
theorem dX10_told_67 : decode cX10_told 67 = .ok (.getfield 149, 3) := by decide +kernel
theorem dX10_told_70 : decode cX10_told 70 = .ok (.ifCond .eq 5, 3) := by decide +kernel
theorem dX10_told_73 : decode cX10_told 73 = .ok (.iconst (-1), 1) := by decide +kernel
theorem dX10_told_74 : decode cX10_told 74 = .ok (.ireturn, 1) := by decide +kernel
theorem dX10_told_75 : decode cX10_told 75 = .ok (.iload_n 1, 1) := by decide +kernel
theorem dX10_told_76 : decode cX10_told 76 = .ok (.tableswitch 64 1 4 #[32, 40, 48, 56], 32) := by decide +kernel
theorem dX10_told_108 : decode cX10_told 108 = .ok (.aload_n 0, 1) := by decide +kernel
theorem dX10_told_109 : decode cX10_told 109 = .ok (.getfield 37, 3) := by decide +kernel
theorem dX10_told_112 : decode cX10_told 112 = .ok (.getfield 153, 3) := by decide +kernel
theorem dX10_told_115 : decode cX10_told 115 = .ok (.ireturn, 1) := by decide +kernel
theorem dX10_told_116 : decode cX10_told 116 = .ok (.aload_n 0, 1) := by decide +kernel
theorem dX10_told_117 : decode cX10_told 117 = .ok (.getfield 37, 3) := by decide +kernel
theorem dX10_told_120 : decode cX10_told 120 = .ok (.getfield 154, 3) := by decide +kernel
theorem dX10_told_123 : decode cX10_told 123 = .ok (.ireturn, 1) := by decide +kernel
theorem dX10_told_124 : decode cX10_told 124 = .ok (.aload_n 0, 1) := by decide +kernel
theorem dX10_told_125 : decode cX10_told 125 = .ok (.getfield 37, 3) := by decide +kernel
theorem dX10_told_128 : decode cX10_told 128 = .ok (.getfield 157, 3) := by decide +kernel
theorem dX10_told_131 : decode cX10_told 131 = .ok (.ireturn, 1) := by decide +kernel
theorem dX10_told_132 : decode cX10_told 132 = .ok (.aload_n 0, 1) := by decide +kernel
theorem dX10_told_133 : decode cX10_told 133 = .ok (.getfield 37, 3) := by decide +kernel
theorem dX10_told_136 : decode cX10_told 136 = .ok (.getfield 160, 3) := by decide +kernel
theorem dX10_told_139 : decode cX10_told 139 = .ok (.ireturn, 1) := by decide +kernel
theorem dX10_told_140 : decode cX10_told 140 = .ok (.aload_n 0, 1) := by decide +kernel
theorem dX10_told_141 : decode cX10_told 141 = .ok (.getfield 37, 3) := by decide +kernel
theorem dX10_told_144 : decode cX10_told 144 = .ok (.invokevirtual 163, 3) := by decide +kernel
theorem dX10_told_147 : decode cX10_told 147 = .ok (.ireturn, 1) := by decide +kernel
theorem dX10_statement_0 : decode cX10_statement 0 = .ok (.aload_n 0, 1) := by decide +kernel
theorem dX10_statement_1 : decode cX10_statement 1 = .ok (.iload_n 1, 1) := by decide +kernel
theorem dX10_statement_2 : decode cX10_statement 2 = .ok (.invokevirtual 123, 3) := by decide +kernel
theorem dX10_statement_5 : decode cX10_statement 5 = .ok (.aload_n 0, 1) := by decide +kernel
theorem dX10_statement_6 : decode cX10_statement 6 = .ok (.iload_n 2, 1) := by decide +kernel
theorem dX10_statement_7 : decode cX10_statement 7 = .ok (.iconst 0, 1) := by decide +kernel
theorem dX10_statement_8 : decode cX10_statement 8 = .ok (.iconst 4, 1) := by decide +kernel
theorem dX10_statement_9 : decode cX10_statement 9 = .ok (.invokevirtual 80, 3) := by decide +kernel
theorem dX10_statement_12 : decode cX10_statement 12 = .ok (.aload_n 0, 1) := by decide +kernel
theorem dX10_statement_13 : decode cX10_statement 13 = .ok (.getfield 23, 3) := by decide +kernel
theorem dX10_statement_16 : decode cX10_statement 16 = .ok (.getfield 126, 3) := by decide +kernel
theorem dX10_statement_19 : decode cX10_statement 19 = .ok (.iload_n 1, 1) := by decide +kernel
theorem dX10_statement_20 : decode cX10_statement 20 = .ok (.iaload, 1) := by decide +kernel
theorem dX10_statement_21 : decode cX10_statement 21 = .ok (.istore_n 3, 1) := by decide +kernel
theorem dX10_statement_22 : decode cX10_statement 22 = .ok (.iload_n 2, 1) := by decide +kernel
theorem dX10_statement_23 : decode cX10_statement 23 = .ok (.tableswitch 88 0 3 #[29, 31, 54, 78], 29) := by decide +kernel
theorem dX10_statement_52 : decode cX10_statement 52 = .ok (.iload_n 3, 1) := by decide +kernel
theorem dX10_statement_53 : decode cX10_statement 53 = .ok (.ireturn, 1) := by decide +kernel
theorem dX10_statement_54 : decode cX10_statement 54 = .ok (.iload_n 3, 1) := by decide +kernel
theorem dX10_statement_55 : decode cX10_statement 55 = .ok (.ifCond .eq 8, 3) := by decide +kernel
theorem dX10_statement_58 : decode cX10_statement 58 = .ok (.iload_n 3, 1) := by decide +kernel
theorem dX10_statement_59 : decode cX10_statement 59 = .ok (.iconst 1, 1) := by decide +kernel
theorem dX10_statement_60 : decode cX10_statement 60 = .ok (.if_icmp .ne 15, 3) := by decide +kernel
theorem dX10_statement_63 : decode cX10_statement 63 = .ok (.aload_n 0, 1) := by decide +kernel
theorem dX10_statement_64 : decode cX10_statement 64 = .ok (.getfield 23, 3) := by decide +kernel
theorem dX10_statement_67 : decode cX10_statement 67 = .ok (.getfield 166, 3) := by decide +kernel
theorem dX10_statement_70 : decode cX10_statement 70 = .ok (.iload_n 1, 1) := by decide +kernel
theorem dX10_statement_71 : decode cX10_statement 71 = .ok (.iaload, 1) := by decide +kernel
theorem dX10_statement_72 : decode cX10_statement 72 = .ok (.goto 4, 3) := by decide +kernel
theorem dX10_statement_75 : decode cX10_statement 75 = .ok (.iconst (-1), 1) := by decide +kernel
theorem dX10_statement_76 : decode cX10_statement 76 = .ok (.ireturn, 1) := by decide +kernel
theorem dX10_statement_77 : decode cX10_statement 77 = .ok (.iload_n 3, 1) := by decide +kernel
theorem dX10_statement_78 : decode cX10_statement 78 = .ok (.iconst 1, 1) := by decide +kernel
theorem dX10_statement_79 : decode cX10_statement 79 = .ok (.if_icmp .eq 8, 3) := by decide +kernel
theorem dX10_statement_82 : decode cX10_statement 82 = .ok (.iload_n 3, 1) := by decide +kernel
theorem dX10_statement_83 : decode cX10_statement 83 = .ok (.iconst 2, 1) := by decide +kernel
theorem dX10_statement_84 : decode cX10_statement 84 = .ok (.if_icmp .ne 15, 3) := by decide +kernel
theorem dX10_statement_87 : decode cX10_statement 87 = .ok (.aload_n 0, 1) := by decide +kernel
theorem dX10_statement_88 : decode cX10_statement 88 = .ok (.getfield 23, 3) := by decide +kernel
theorem dX10_statement_91 : decode cX10_statement 91 = .ok (.getfield 132, 3) := by decide +kernel
theorem dX10_statement_94 : decode cX10_statement 94 = .ok (.iload_n 1, 1) := by decide +kernel
theorem dX10_statement_95 : decode cX10_statement 95 = .ok (.iaload, 1) := by decide +kernel
theorem dX10_statement_96 : decode cX10_statement 96 = .ok (.goto 4, 3) := by decide +kernel
theorem dX10_statement_99 : decode cX10_statement 99 = .ok (.iconst (-1), 1) := by decide +kernel
theorem dX10_statement_100 : decode cX10_statement 100 = .ok (.ireturn, 1) := by decide +kernel
theorem dX10_statement_101 : decode cX10_statement 101 = .ok (.aload_n 0, 1) := by decide +kernel
theorem dX10_statement_102 : decode cX10_statement 102 = .ok (.getfield 23, 3) := by decide +kernel
theorem dX10_statement_105 : decode cX10_statement 105 = .ok (.getfield 169, 3) := by decide +kernel
theorem dX10_statement_108 : decode cX10_statement 108 = .ok (.iload_n 1, 1) := by decide +kernel
theorem dX10_statement_109 : decode cX10_statement 109 = .ok (.iaload, 1) := by decide +kernel
theorem dX10_statement_110 : decode cX10_statement 110 = .ok (.ireturn, 1) := by decide +kernel
theorem dX10_statement_111 : decode cX10_statement 111 = .ok (.aload_n 0, 1) := by decide +kernel
theorem dX10_statement_112 : decode cX10_statement 112 = .ok (.getfield 23, 3) := by decide +kernel
theorem dX10_statement_115 : decode cX10_statement 115 = .ok (.getfield 172, 3) := by decide +kernel
theorem dX10_statement_118 : decode cX10_statement 118 = .ok (.iload_n 1, 1) := by decide +kernel
theorem dX10_statement_119 : decode cX10_statement 119 = .ok (.iaload, 1) := by decide +kernel
theorem dX10_statement_120 : decode cX10_statement 120 = .ok (.ireturn, 1) := by decide +kernel
theorem dX10_firstOf_0 : decode cX10_firstOf 0 = .ok (.aload_n 0, 1) := by decide +kernel
theorem dX10_firstOf_1 : decode cX10_firstOf 1 = .ok (.iload_n 1, 1) := by decide +kernel
theorem dX10_firstOf_2 : decode cX10_firstOf 2 = .ok (.invokevirtual 107, 3) := by decide +kernel
theorem dX10_firstOf_5 : decode cX10_firstOf 5 = .ok (.aload_n 0, 1) := by decide +kernel
theorem dX10_firstOf_6 : decode cX10_firstOf 6 = .ok (.getfield 95, 3) := by decide +kernel
theorem dX10_firstOf_9 : decode cX10_firstOf 9 = .ok (.iload_n 1, 1) := by decide +kernel
theorem dX10_firstOf_10 : decode cX10_firstOf 10 = .ok (.invokestatic 110, 3) := by decide +kernel
theorem dX10_firstOf_13 : decode cX10_firstOf 13 = .ok (.ireturn, 1) := by decide +kernel
theorem dX10_state_0 : decode cX10_state 0 = .ok (.aload_n 0, 1) := by decide +kernel
theorem dX10_state_1 : decode cX10_state 1 = .ok (.invokevirtual 175, 3) := by decide +kernel
theorem dX10_state_4 : decode cX10_state 4 = .ok (.aload_n 0, 1) := by decide +kernel
theorem dX10_state_5 : decode cX10_state 5 = .ok (.iload_n 1, 1) := by decide +kernel
theorem dX10_state_6 : decode cX10_state 6 = .ok (.invokevirtual 178, 3) := by decide +kernel
theorem dX10_state_9 : decode cX10_state 9 = .ok (.aload_n 0, 1) := by decide +kernel
theorem dX10_state_10 : decode cX10_state 10 = .ok (.iload_n 2, 1) := by decide +kernel
theorem dX10_state_11 : decode cX10_state 11 = .ok (.iconst 0, 1) := by decide +kernel
theorem dX10_state_12 : decode cX10_state 12 = .ok (.bipush 9, 2) := by decide +kernel
theorem dX10_state_14 : decode cX10_state 14 = .ok (.invokevirtual 80, 3) := by decide +kernel
theorem dX10_state_17 : decode cX10_state 17 = .ok (.iload_n 2, 1) := by decide +kernel
theorem dX10_state_18 : decode cX10_state 18 = .ok (.tableswitch 101 0 9 #[54, 101, 101, 101, 101, 101, 101, 64, 74, 92], 54) := by decide +kernel
theorem dX10_state_72 : decode cX10_state 72 = .ok (.aload_n 0, 1) := by decide +kernel
theorem dX10_state_73 : decode cX10_state 73 = .ok (.getfield 37, 3) := by decide +kernel
theorem dX10_state_76 : decode cX10_state 76 = .ok (.getfield 181, 3) := by decide +kernel
theorem dX10_state_79 : decode cX10_state 79 = .ok (.iload_n 1, 1) := by decide +kernel
theorem dX10_state_80 : decode cX10_state 80 = .ok (.iaload, 1) := by decide +kernel
theorem dX10_state_81 : decode cX10_state 81 = .ok (.ireturn, 1) := by decide +kernel
theorem dX10_state_82 : decode cX10_state 82 = .ok (.aload_n 0, 1) := by decide +kernel
theorem dX10_state_83 : decode cX10_state 83 = .ok (.getfield 37, 3) := by decide +kernel
theorem dX10_state_86 : decode cX10_state 86 = .ok (.getfield 184, 3) := by decide +kernel
theorem dX10_state_89 : decode cX10_state 89 = .ok (.iload_n 1, 1) := by decide +kernel
theorem dX10_state_90 : decode cX10_state 90 = .ok (.iaload, 1) := by decide +kernel
theorem dX10_state_91 : decode cX10_state 91 = .ok (.ireturn, 1) := by decide +kernel
theorem dX10_state_92 : decode cX10_state 92 = .ok (.aload_n 0, 1) := by decide +kernel
theorem dX10_state_93 : decode cX10_state 93 = .ok (.getfield 37, 3) := by decide +kernel
theorem dX10_state_96 : decode cX10_state 96 = .ok (.getfield 187, 3) := by decide +kernel
theorem dX10_state_99 : decode cX10_state 99 = .ok (.iload_n 1, 1) := by decide +kernel
theorem dX10_state_100 : decode cX10_state 100 = .ok (.baload, 1) := by decide +kernel
theorem dX10_state_101 : decode cX10_state 101 = .ok (.ifCond .eq 7, 3) := by decide +kernel
theorem dX10_state_104 : decode cX10_state 104 = .ok (.iconst 1, 1) := by decide +kernel
theorem dX10_state_105 : decode cX10_state 105 = .ok (.goto 4, 3) := by decide +kernel
theorem dX10_state_108 : decode cX10_state 108 = .ok (.iconst 0, 1) := by decide +kernel
theorem dX10_state_109 : decode cX10_state 109 = .ok (.ireturn, 1) := by decide +kernel
theorem dX10_state_110 : decode cX10_state 110 = .ok (.aload_n 0, 1) := by decide +kernel
theorem dX10_state_111 : decode cX10_state 111 = .ok (.getfield 37, 3) := by decide +kernel
theorem dX10_state_114 : decode cX10_state 114 = .ok (.iload_n 1, 1) := by decide +kernel
theorem dX10_state_115 : decode cX10_state 115 = .ok (.invokevirtual 191, 3) := by decide +kernel
theorem dX10_state_118 : decode cX10_state 118 = .ok (.ireturn, 1) := by decide +kernel
theorem dX10_state_119 : decode cX10_state 119 = .ok (.aload_n 0, 1) := by decide +kernel
theorem dX10_state_120 : decode cX10_state 120 = .ok (.getfield 37, 3) := by decide +kernel
theorem dX10_state_123 : decode cX10_state 123 = .ok (.getfield 194, 3) := by decide +kernel
theorem dX10_state_126 : decode cX10_state 126 = .ok (.iload_n 1, 1) := by decide +kernel
theorem dX10_state_127 : decode cX10_state 127 = .ok (.iaload, 1) := by decide +kernel
theorem dX10_state_128 : decode cX10_state 128 = .ok (.iload_n 2, 1) := by decide +kernel
theorem dX10_state_129 : decode cX10_state 129 = .ok (.iconst 1, 1) := by decide +kernel
theorem dX10_state_130 : decode cX10_state 130 = .ok (.isub, 1) := by decide +kernel
theorem dX10_state_131 : decode cX10_state 131 = .ok (.invokestatic 110, 3) := by decide +kernel
theorem dX10_state_134 : decode cX10_state 134 = .ok (.ireturn, 1) := by decide +kernel
theorem dX10_arc_0 : decode cX10_arc 0 = .ok (.aload_n 0, 1) := by decide +kernel
theorem dX10_arc_1 : decode cX10_arc 1 = .ok (.invokevirtual 175, 3) := by decide +kernel
theorem dX10_arc_4 : decode cX10_arc 4 = .ok (.aload_n 0, 1) := by decide +kernel
theorem dX10_arc_5 : decode cX10_arc 5 = .ok (.iload_n 1, 1) := by decide +kernel
theorem dX10_arc_6 : decode cX10_arc 6 = .ok (.invokevirtual 178, 3) := by decide +kernel
theorem dX10_arc_9 : decode cX10_arc 9 = .ok (.iload_n 2, 1) := by decide +kernel
theorem dX10_arc_10 : decode cX10_arc 10 = .ok (.ifCond .lt 15, 3) := by decide +kernel
theorem dX10_arc_13 : decode cX10_arc 13 = .ok (.iload_n 2, 1) := by decide +kernel
theorem dX10_arc_14 : decode cX10_arc 14 = .ok (.aload_n 0, 1) := by decide +kernel
theorem dX10_arc_15 : decode cX10_arc 15 = .ok (.getfield 37, 3) := by decide +kernel
theorem dX10_arc_18 : decode cX10_arc 18 = .ok (.iload_n 1, 1) := by decide +kernel
theorem dX10_arc_19 : decode cX10_arc 19 = .ok (.invokevirtual 191, 3) := by decide +kernel
theorem dX10_arc_22 : decode cX10_arc 22 = .ok (.if_icmp .lt 7, 3) := by decide +kernel
theorem dX10_arc_25 : decode cX10_arc 25 = .ok (.aload_n 0, 1) := by decide +kernel
theorem dX10_arc_26 : decode cX10_arc 26 = .ok (.invokevirtual 197, 3) := by decide +kernel
theorem dX10_arc_29 : decode cX10_arc 29 = .ok (.aload_n 0, 1) := by decide +kernel
theorem dX10_arc_30 : decode cX10_arc 30 = .ok (.iload_n 3, 1) := by decide +kernel
theorem dX10_arc_31 : decode cX10_arc 31 = .ok (.iconst 0, 1) := by decide +kernel
theorem dX10_arc_32 : decode cX10_arc 32 = .ok (.iconst 1, 1) := by decide +kernel
theorem dX10_arc_33 : decode cX10_arc 33 = .ok (.invokevirtual 80, 3) := by decide +kernel
theorem dX10_arc_36 : decode cX10_arc 36 = .ok (.aload_n 0, 1) := by decide +kernel
theorem dX10_arc_37 : decode cX10_arc 37 = .ok (.getfield 37, 3) := by decide +kernel
theorem dX10_arc_40 : decode cX10_arc 40 = .ok (.getfield 200, 3) := by decide +kernel
theorem dX10_arc_43 : decode cX10_arc 43 = .ok (.iload_n 1, 1) := by decide +kernel
theorem dX10_arc_44 : decode cX10_arc 44 = .ok (.iaload, 1) := by decide +kernel
theorem dX10_arc_45 : decode cX10_arc 45 = .ok (.iload_n 2, 1) := by decide +kernel
theorem dX10_arc_46 : decode cX10_arc 46 = .ok (.iadd, 1) := by decide +kernel
theorem dX10_arc_47 : decode cX10_arc 47 = .ok (.istore 4, 2) := by decide +kernel
theorem dX10_arc_49 : decode cX10_arc 49 = .ok (.iload_n 3, 1) := by decide +kernel
theorem dX10_arc_50 : decode cX10_arc 50 = .ok (.ifCond .ne 16, 3) := by decide +kernel
theorem dX10_arc_53 : decode cX10_arc 53 = .ok (.aload_n 0, 1) := by decide +kernel
theorem dX10_arc_54 : decode cX10_arc 54 = .ok (.getfield 37, 3) := by decide +kernel
theorem dX10_arc_57 : decode cX10_arc 57 = .ok (.getfield 203, 3) := by decide +kernel
theorem dX10_arc_60 : decode cX10_arc 60 = .ok (.iload 4, 2) := by decide +kernel
theorem dX10_arc_62 : decode cX10_arc 62 = .ok (.iaload, 1) := by decide +kernel
theorem dX10_arc_63 : decode cX10_arc 63 = .ok (.goto 13, 3) := by decide +kernel
theorem dX10_arc_66 : decode cX10_arc 66 = .ok (.aload_n 0, 1) := by decide +kernel
theorem dX10_arc_67 : decode cX10_arc 67 = .ok (.getfield 37, 3) := by decide +kernel
theorem dX10_arc_70 : decode cX10_arc 70 = .ok (.getfield 206, 3) := by decide +kernel
theorem dX10_arc_73 : decode cX10_arc 73 = .ok (.iload 4, 2) := by decide +kernel
theorem dX10_arc_75 : decode cX10_arc 75 = .ok (.iaload, 1) := by decide +kernel
theorem dX10_arc_76 : decode cX10_arc 76 = .ok (.ireturn, 1) := by decide +kernel
theorem dX10_total_0 : decode cX10_total 0 = .ok (.aload_n 0, 1) := by decide +kernel
theorem dX10_total_1 : decode cX10_total 1 = .ok (.invokevirtual 175, 3) := by decide +kernel
theorem dX10_total_4 : decode cX10_total 4 = .ok (.aload_n 0, 1) := by decide +kernel
theorem dX10_total_5 : decode cX10_total 5 = .ok (.iload_n 1, 1) := by decide +kernel
theorem dX10_total_6 : decode cX10_total 6 = .ok (.iconst 0, 1) := by decide +kernel
theorem dX10_total_7 : decode cX10_total 7 = .ok (.iconst 2, 1) := by decide +kernel
theorem dX10_total_8 : decode cX10_total 8 = .ok (.invokevirtual 80, 3) := by decide +kernel
theorem dX10_total_11 : decode cX10_total 11 = .ok (.aload_n 0, 1) := by decide +kernel
theorem dX10_total_12 : decode cX10_total 12 = .ok (.iload_n 2, 1) := by decide +kernel
theorem dX10_total_13 : decode cX10_total 13 = .ok (.invokevirtual 209, 3) := by decide +kernel
theorem dX10_total_16 : decode cX10_total 16 = .ok (.aload_n 0, 1) := by decide +kernel
theorem dX10_total_17 : decode cX10_total 17 = .ok (.getfield 44, 3) := by decide +kernel
theorem dX10_total_20 : decode cX10_total 20 = .ok (.aload_n 0, 1) := by decide +kernel
theorem dX10_total_21 : decode cX10_total 21 = .ok (.getfield 37, 3) := by decide +kernel
theorem dX10_total_24 : decode cX10_total 24 = .ok (.invokevirtual 212, 3) := by decide +kernel
theorem dX10_total_27 : decode cX10_total 27 = .ok (.ifCond .ne 6, 3) := by decide +kernel
theorem dX10_total_30 : decode cX10_total 30 = .ok (.bipush (-3), 2) := by decide +kernel
theorem dX10_total_32 : decode cX10_total 32 = .ok (.ireturn, 1) := by decide +kernel
theorem dX10_total_33 : decode cX10_total 33 = .ok (.iload_n 1, 1) := by decide +kernel
theorem dX10_total_34 : decode cX10_total 34 = .ok (.lookupswitch 50 #[(0, 26), (1, 38)], 26) := by decide +kernel
theorem dX10_total_60 : decode cX10_total 60 = .ok (.aload_n 0, 1) := by decide +kernel
theorem dX10_total_61 : decode cX10_total 61 = .ok (.getfield 44, 3) := by decide +kernel
theorem dX10_total_64 : decode cX10_total 64 = .ok (.getfield 216, 3) := by decide +kernel
theorem dX10_total_67 : decode cX10_total 67 = .ok (.iload_n 2, 1) := by decide +kernel
theorem dX10_total_68 : decode cX10_total 68 = .ok (.invokestatic 219, 3) := by decide +kernel
theorem dX10_total_71 : decode cX10_total 71 = .ok (.ireturn, 1) := by decide +kernel
theorem dX10_total_72 : decode cX10_total 72 = .ok (.aload_n 0, 1) := by decide +kernel
theorem dX10_total_73 : decode cX10_total 73 = .ok (.getfield 44, 3) := by decide +kernel
theorem dX10_total_76 : decode cX10_total 76 = .ok (.getfield 224, 3) := by decide +kernel
theorem dX10_total_79 : decode cX10_total 79 = .ok (.iload_n 2, 1) := by decide +kernel
theorem dX10_total_80 : decode cX10_total 80 = .ok (.invokestatic 219, 3) := by decide +kernel
theorem dX10_total_83 : decode cX10_total 83 = .ok (.ireturn, 1) := by decide +kernel
theorem dX10_total_84 : decode cX10_total 84 = .ok (.aload_n 0, 1) := by decide +kernel
theorem dX10_total_85 : decode cX10_total 85 = .ok (.getfield 44, 3) := by decide +kernel
theorem dX10_total_88 : decode cX10_total 88 = .ok (.invokevirtual 227, 3) := by decide +kernel
theorem dX10_total_91 : decode cX10_total 91 = .ok (.iload_n 2, 1) := by decide +kernel
theorem dX10_total_92 : decode cX10_total 92 = .ok (.invokestatic 219, 3) := by decide +kernel
theorem dX10_total_95 : decode cX10_total 95 = .ok (.ireturn, 1) := by decide +kernel
theorem dX10_value_0 : decode cX10_value 0 = .ok (.aload_n 0, 1) := by decide +kernel
theorem dX10_value_1 : decode cX10_value 1 = .ok (.invokevirtual 175, 3) := by decide +kernel
theorem dX10_value_4 : decode cX10_value 4 = .ok (.aload_n 0, 1) := by decide +kernel
theorem dX10_value_5 : decode cX10_value 5 = .ok (.iload_n 1, 1) := by decide +kernel
theorem dX10_value_6 : decode cX10_value 6 = .ok (.invokevirtual 107, 3) := by decide +kernel
theorem dX10_value_9 : decode cX10_value 9 = .ok (.aload_n 0, 1) := by decide +kernel
theorem dX10_value_10 : decode cX10_value 10 = .ok (.iload_n 2, 1) := by decide +kernel
theorem dX10_value_11 : decode cX10_value 11 = .ok (.iconst 0, 1) := by decide +kernel
theorem dX10_value_12 : decode cX10_value 12 = .ok (.bipush 9, 2) := by decide +kernel
theorem dX10_value_14 : decode cX10_value 14 = .ok (.invokevirtual 80, 3) := by decide +kernel
theorem dX10_value_17 : decode cX10_value 17 = .ok (.aload_n 0, 1) := by decide +kernel
theorem dX10_value_18 : decode cX10_value 18 = .ok (.iload_n 3, 1) := by decide +kernel
theorem dX10_value_19 : decode cX10_value 19 = .ok (.invokevirtual 209, 3) := by decide +kernel
theorem dX10_value_22 : decode cX10_value 22 = .ok (.aload_n 0, 1) := by decide +kernel
theorem dX10_value_23 : decode cX10_value 23 = .ok (.invokevirtual 230, 3) := by decide +kernel
theorem dX10_value_26 : decode cX10_value 26 = .ok (.aload_n 0, 1) := by decide +kernel
theorem dX10_value_27 : decode cX10_value 27 = .ok (.iload_n 1, 1) := by decide +kernel
theorem dX10_value_28 : decode cX10_value 28 = .ok (.iload_n 2, 1) := by decide +kernel
theorem dX10_value_29 : decode cX10_value 29 = .ok (.iload_n 1, 1) := by decide +kernel
theorem dX10_value_30 : decode cX10_value 30 = .ok (.iload_n 2, 1) := by decide +kernel
theorem dX10_value_31 : decode cX10_value 31 = .ok (.iload_n 3, 1) := by decide +kernel
theorem dX10_value_32 : decode cX10_value 32 = .ok (.invokevirtual 233, 3) := by decide +kernel
theorem dX10_value_35 : decode cX10_value 35 = .ok (.ireturn, 1) := by decide +kernel
theorem dX10_both_0 : decode cX10_both 0 = .ok (.aload_n 0, 1) := by decide +kernel
theorem dX10_both_1 : decode cX10_both 1 = .ok (.invokevirtual 175, 3) := by decide +kernel
theorem dX10_both_4 : decode cX10_both 4 = .ok (.aload_n 0, 1) := by decide +kernel
theorem dX10_both_5 : decode cX10_both 5 = .ok (.iload_n 1, 1) := by decide +kernel
theorem dX10_both_6 : decode cX10_both 6 = .ok (.invokevirtual 107, 3) := by decide +kernel
theorem dX10_both_9 : decode cX10_both 9 = .ok (.aload_n 0, 1) := by decide +kernel
theorem dX10_both_10 : decode cX10_both 10 = .ok (.iload_n 3, 1) := by decide +kernel
theorem dX10_both_11 : decode cX10_both 11 = .ok (.invokevirtual 107, 3) := by decide +kernel
theorem dX10_both_14 : decode cX10_both 14 = .ok (.aload_n 0, 1) := by decide +kernel
theorem dX10_both_15 : decode cX10_both 15 = .ok (.iload_n 2, 1) := by decide +kernel
theorem dX10_both_16 : decode cX10_both 16 = .ok (.iconst 0, 1) := by decide +kernel
theorem dX10_both_17 : decode cX10_both 17 = .ok (.bipush 9, 2) := by decide +kernel
theorem dX10_both_19 : decode cX10_both 19 = .ok (.invokevirtual 80, 3) := by decide +kernel
theorem dX10_both_22 : decode cX10_both 22 = .ok (.aload_n 0, 1) := by decide +kernel
theorem dX10_both_23 : decode cX10_both 23 = .ok (.iload 4, 2) := by decide +kernel
theorem dX10_both_25 : decode cX10_both 25 = .ok (.iconst 0, 1) := by decide +kernel
theorem dX10_both_26 : decode cX10_both 26 = .ok (.bipush 9, 2) := by decide +kernel
theorem dX10_both_28 : decode cX10_both 28 = .ok (.invokevirtual 80, 3) := by decide +kernel
theorem dX10_both_31 : decode cX10_both 31 = .ok (.aload_n 0, 1) := by decide +kernel
theorem dX10_both_32 : decode cX10_both 32 = .ok (.iload 5, 2) := by decide +kernel
theorem dX10_both_34 : decode cX10_both 34 = .ok (.invokevirtual 209, 3) := by decide +kernel
theorem dX10_both_37 : decode cX10_both 37 = .ok (.aload_n 0, 1) := by decide +kernel
theorem dX10_both_38 : decode cX10_both 38 = .ok (.invokevirtual 230, 3) := by decide +kernel
theorem dX10_both_41 : decode cX10_both 41 = .ok (.aload_n 0, 1) := by decide +kernel
theorem dX10_both_42 : decode cX10_both 42 = .ok (.iload_n 1, 1) := by decide +kernel
theorem dX10_both_43 : decode cX10_both 43 = .ok (.iload_n 2, 1) := by decide +kernel
theorem dX10_both_44 : decode cX10_both 44 = .ok (.iload_n 3, 1) := by decide +kernel
theorem dX10_both_45 : decode cX10_both 45 = .ok (.iload 4, 2) := by decide +kernel
theorem dX10_both_47 : decode cX10_both 47 = .ok (.iload 5, 2) := by decide +kernel
theorem dX10_both_49 : decode cX10_both 49 = .ok (.invokevirtual 233, 3) := by decide +kernel
theorem dX10_both_52 : decode cX10_both 52 = .ok (.ireturn, 1) := by decide +kernel
theorem dX10_mean_0 : decode cX10_mean 0 = .ok (.aload_n 0, 1) := by decide +kernel
theorem dX10_mean_1 : decode cX10_mean 1 = .ok (.invokevirtual 175, 3) := by decide +kernel
theorem dX10_mean_4 : decode cX10_mean 4 = .ok (.aload_n 0, 1) := by decide +kernel
theorem dX10_mean_5 : decode cX10_mean 5 = .ok (.iload_n 1, 1) := by decide +kernel
theorem dX10_mean_6 : decode cX10_mean 6 = .ok (.invokevirtual 107, 3) := by decide +kernel
theorem dX10_mean_9 : decode cX10_mean 9 = .ok (.aload_n 0, 1) := by decide +kernel
theorem dX10_mean_10 : decode cX10_mean 10 = .ok (.iload_n 2, 1) := by decide +kernel
theorem dX10_mean_11 : decode cX10_mean 11 = .ok (.invokevirtual 209, 3) := by decide +kernel
theorem dX10_mean_14 : decode cX10_mean 14 = .ok (.aload_n 0, 1) := by decide +kernel
theorem dX10_mean_15 : decode cX10_mean 15 = .ok (.invokevirtual 230, 3) := by decide +kernel
theorem dX10_mean_18 : decode cX10_mean 18 = .ok (.aload_n 0, 1) := by decide +kernel
theorem dX10_mean_19 : decode cX10_mean 19 = .ok (.getfield 44, 3) := by decide +kernel
theorem dX10_mean_22 : decode cX10_mean 22 = .ok (.aload_n 0, 1) := by decide +kernel
theorem dX10_mean_23 : decode cX10_mean 23 = .ok (.getfield 37, 3) := by decide +kernel
theorem dX10_mean_26 : decode cX10_mean 26 = .ok (.invokevirtual 237, 3) := by decide +kernel
theorem dX10_mean_29 : decode cX10_mean 29 = .ok (.ifCond .ne 6, 3) := by decide +kernel
theorem dX10_mean_32 : decode cX10_mean 32 = .ok (.bipush (-3), 2) := by decide +kernel
theorem dX10_mean_34 : decode cX10_mean 34 = .ok (.ireturn, 1) := by decide +kernel
theorem dX10_mean_35 : decode cX10_mean 35 = .ok (.aload_n 0, 1) := by decide +kernel
theorem dX10_mean_36 : decode cX10_mean 36 = .ok (.getfield 44, 3) := by decide +kernel
theorem dX10_mean_39 : decode cX10_mean 39 = .ok (.aload_n 0, 1) := by decide +kernel
theorem dX10_mean_40 : decode cX10_mean 40 = .ok (.getfield 44, 3) := by decide +kernel
theorem dX10_mean_43 : decode cX10_mean 43 = .ok (.aload_n 0, 1) := by decide +kernel
theorem dX10_mean_44 : decode cX10_mean 44 = .ok (.getfield 37, 3) := by decide +kernel
theorem dX10_mean_47 : decode cX10_mean 47 = .ok (.iload_n 1, 1) := by decide +kernel
theorem dX10_mean_48 : decode cX10_mean 48 = .ok (.invokevirtual 240, 3) := by decide +kernel
theorem dX10_mean_51 : decode cX10_mean 51 = .ok (.invokevirtual 244, 3) := by decide +kernel
theorem dX10_mean_54 : decode cX10_mean 54 = .ok (.iload_n 2, 1) := by decide +kernel
theorem dX10_mean_55 : decode cX10_mean 55 = .ok (.invokestatic 219, 3) := by decide +kernel
theorem dX10_mean_58 : decode cX10_mean 58 = .ok (.ireturn, 1) := by decide +kernel
theorem dX10_independent_0 : decode cX10_independent 0 = .ok (.aload_n 0, 1) := by decide +kernel
theorem dX10_independent_1 : decode cX10_independent 1 = .ok (.invokevirtual 175, 3) := by decide +kernel
theorem dX10_independent_4 : decode cX10_independent 4 = .ok (.aload_n 0, 1) := by decide +kernel
theorem dX10_independent_5 : decode cX10_independent 5 = .ok (.iload_n 1, 1) := by decide +kernel
theorem dX10_independent_6 : decode cX10_independent 6 = .ok (.invokevirtual 107, 3) := by decide +kernel
theorem dX10_independent_9 : decode cX10_independent 9 = .ok (.aload_n 0, 1) := by decide +kernel
theorem dX10_independent_10 : decode cX10_independent 10 = .ok (.iload_n 2, 1) := by decide +kernel
theorem dX10_independent_11 : decode cX10_independent 11 = .ok (.invokevirtual 107, 3) := by decide +kernel
theorem dX10_independent_14 : decode cX10_independent 14 = .ok (.aload_n 0, 1) := by decide +kernel
theorem dX10_independent_15 : decode cX10_independent 15 = .ok (.invokevirtual 230, 3) := by decide +kernel
theorem dX10_independent_18 : decode cX10_independent 18 = .ok (.aload_n 0, 1) := by decide +kernel
theorem dX10_independent_19 : decode cX10_independent 19 = .ok (.getfield 44, 3) := by decide +kernel
theorem dX10_independent_22 : decode cX10_independent 22 = .ok (.aload_n 0, 1) := by decide +kernel
theorem dX10_independent_23 : decode cX10_independent 23 = .ok (.getfield 37, 3) := by decide +kernel
theorem dX10_independent_26 : decode cX10_independent 26 = .ok (.invokevirtual 237, 3) := by decide +kernel
theorem dX10_independent_29 : decode cX10_independent 29 = .ok (.ifCond .ne 6, 3) := by decide +kernel
theorem dX10_independent_32 : decode cX10_independent 32 = .ok (.bipush (-3), 2) := by decide +kernel
theorem dX10_independent_34 : decode cX10_independent 34 = .ok (.ireturn, 1) := by decide +kernel
theorem dX10_independent_35 : decode cX10_independent 35 = .ok (.aload_n 0, 1) := by decide +kernel
theorem dX10_independent_36 : decode cX10_independent 36 = .ok (.getfield 44, 3) := by decide +kernel
theorem dX10_independent_39 : decode cX10_independent 39 = .ok (.aload_n 0, 1) := by decide +kernel
theorem dX10_independent_40 : decode cX10_independent 40 = .ok (.getfield 37, 3) := by decide +kernel
theorem dX10_independent_43 : decode cX10_independent 43 = .ok (.iload_n 1, 1) := by decide +kernel
theorem dX10_independent_44 : decode cX10_independent 44 = .ok (.iload_n 2, 1) := by decide +kernel
theorem dX10_independent_45 : decode cX10_independent 45 = .ok (.invokevirtual 247, 3) := by decide +kernel
theorem dX10_independent_48 : decode cX10_independent 48 = .ok (.ifCond .eq 7, 3) := by decide +kernel
theorem dX10_independent_51 : decode cX10_independent 51 = .ok (.iconst 1, 1) := by decide +kernel
theorem dX10_independent_52 : decode cX10_independent 52 = .ok (.goto 4, 3) := by decide +kernel
theorem dX10_independent_55 : decode cX10_independent 55 = .ok (.iconst 0, 1) := by decide +kernel
theorem dX10_independent_56 : decode cX10_independent 56 = .ok (.ireturn, 1) := by decide +kernel
theorem dX10_visits_0 : decode cX10_visits 0 = .ok (.aload_n 0, 1) := by decide +kernel
theorem dX10_visits_1 : decode cX10_visits 1 = .ok (.invokevirtual 175, 3) := by decide +kernel
theorem dX10_visits_4 : decode cX10_visits 4 = .ok (.aload_n 0, 1) := by decide +kernel
theorem dX10_visits_5 : decode cX10_visits 5 = .ok (.iload_n 1, 1) := by decide +kernel
theorem dX10_visits_6 : decode cX10_visits 6 = .ok (.invokevirtual 178, 3) := by decide +kernel
theorem dX10_visits_9 : decode cX10_visits 9 = .ok (.aload_n 0, 1) := by decide +kernel
theorem dX10_visits_10 : decode cX10_visits 10 = .ok (.iload_n 2, 1) := by decide +kernel
theorem dX10_visits_11 : decode cX10_visits 11 = .ok (.invokevirtual 209, 3) := by decide +kernel
theorem dX10_visits_14 : decode cX10_visits 14 = .ok (.aload_n 0, 1) := by decide +kernel
theorem dX10_visits_15 : decode cX10_visits 15 = .ok (.getfield 37, 3) := by decide +kernel
theorem dX10_visits_18 : decode cX10_visits 18 = .ok (.getfield 187, 3) := by decide +kernel
theorem dX10_visits_21 : decode cX10_visits 21 = .ok (.iload_n 1, 1) := by decide +kernel
theorem dX10_visits_22 : decode cX10_visits 22 = .ok (.baload, 1) := by decide +kernel
theorem dX10_visits_23 : decode cX10_visits 23 = .ok (.ifCond .eq 6, 3) := by decide +kernel
theorem dX10_visits_26 : decode cX10_visits 26 = .ok (.bipush (-2), 2) := by decide +kernel
theorem dX10_visits_28 : decode cX10_visits 28 = .ok (.ireturn, 1) := by decide +kernel
theorem dX10_visits_29 : decode cX10_visits 29 = .ok (.aload_n 0, 1) := by decide +kernel
theorem dX10_visits_30 : decode cX10_visits 30 = .ok (.getfield 44, 3) := by decide +kernel
theorem dX10_visits_33 : decode cX10_visits 33 = .ok (.aload_n 0, 1) := by decide +kernel
theorem dX10_visits_34 : decode cX10_visits 34 = .ok (.getfield 37, 3) := by decide +kernel
theorem dX10_visits_37 : decode cX10_visits 37 = .ok (.invokevirtual 212, 3) := by decide +kernel
theorem dX10_visits_40 : decode cX10_visits 40 = .ok (.ifCond .ne 6, 3) := by decide +kernel
theorem dX10_visits_43 : decode cX10_visits 43 = .ok (.bipush (-3), 2) := by decide +kernel
theorem dX10_visits_45 : decode cX10_visits 45 = .ok (.ireturn, 1) := by decide +kernel
theorem dX10_visits_46 : decode cX10_visits 46 = .ok (.aload_n 0, 1) := by decide +kernel
theorem dX10_visits_47 : decode cX10_visits 47 = .ok (.getfield 44, 3) := by decide +kernel
theorem dX10_visits_50 : decode cX10_visits 50 = .ok (.getfield 251, 3) := by decide +kernel
theorem dX10_visits_53 : decode cX10_visits 53 = .ok (.iload_n 1, 1) := by decide +kernel
theorem dX10_visits_54 : decode cX10_visits 54 = .ok (.iaload, 1) := by decide +kernel
theorem dX10_visits_55 : decode cX10_visits 55 = .ok (.iload_n 2, 1) := by decide +kernel
theorem dX10_visits_56 : decode cX10_visits 56 = .ok (.invokestatic 219, 3) := by decide +kernel
theorem dX10_visits_59 : decode cX10_visits 59 = .ok (.ireturn, 1) := by decide +kernel
theorem dX10_steps_0 : decode cX10_steps 0 = .ok (.aload_n 0, 1) := by decide +kernel
theorem dX10_steps_1 : decode cX10_steps 1 = .ok (.invokevirtual 175, 3) := by decide +kernel
theorem dX10_steps_4 : decode cX10_steps 4 = .ok (.aload_n 0, 1) := by decide +kernel
theorem dX10_steps_5 : decode cX10_steps 5 = .ok (.iload_n 1, 1) := by decide +kernel
theorem dX10_steps_6 : decode cX10_steps 6 = .ok (.invokevirtual 209, 3) := by decide +kernel
theorem dX10_steps_9 : decode cX10_steps 9 = .ok (.aload_n 0, 1) := by decide +kernel
theorem dX10_steps_10 : decode cX10_steps 10 = .ok (.getfield 37, 3) := by decide +kernel
theorem dX10_steps_13 : decode cX10_steps 13 = .ok (.getfield 157, 3) := by decide +kernel
theorem dX10_steps_16 : decode cX10_steps 16 = .ok (.ifCond .le 6, 3) := by decide +kernel
theorem dX10_steps_19 : decode cX10_steps 19 = .ok (.bipush (-2), 2) := by decide +kernel
theorem dX10_steps_21 : decode cX10_steps 21 = .ok (.ireturn, 1) := by decide +kernel
theorem dX10_steps_22 : decode cX10_steps 22 = .ok (.aload_n 0, 1) := by decide +kernel
theorem dX10_steps_23 : decode cX10_steps 23 = .ok (.getfield 44, 3) := by decide +kernel
theorem dX10_steps_26 : decode cX10_steps 26 = .ok (.aload_n 0, 1) := by decide +kernel
theorem dX10_steps_27 : decode cX10_steps 27 = .ok (.getfield 37, 3) := by decide +kernel
theorem dX10_steps_30 : decode cX10_steps 30 = .ok (.invokevirtual 212, 3) := by decide +kernel
theorem dX10_steps_33 : decode cX10_steps 33 = .ok (.ifCond .ne 6, 3) := by decide +kernel
theorem dX10_steps_36 : decode cX10_steps 36 = .ok (.bipush (-3), 2) := by decide +kernel
theorem dX10_steps_38 : decode cX10_steps 38 = .ok (.ireturn, 1) := by decide +kernel
theorem dX10_steps_39 : decode cX10_steps 39 = .ok (.aload_n 0, 1) := by decide +kernel
theorem dX10_steps_40 : decode cX10_steps 40 = .ok (.getfield 44, 3) := by decide +kernel
theorem dX10_steps_43 : decode cX10_steps 43 = .ok (.getfield 254, 3) := by decide +kernel
theorem dX10_steps_46 : decode cX10_steps 46 = .ok (.iload_n 1, 1) := by decide +kernel
theorem dX10_steps_47 : decode cX10_steps 47 = .ok (.invokestatic 219, 3) := by decide +kernel
theorem dX10_steps_50 : decode cX10_steps 50 = .ok (.ireturn, 1) := by decide +kernel
theorem dX10_within_0 : decode cX10_within 0 = .ok (.aload_n 0, 1) := by decide +kernel
theorem dX10_within_1 : decode cX10_within 1 = .ok (.invokevirtual 175, 3) := by decide +kernel
theorem dX10_within_4 : decode cX10_within 4 = .ok (.aload_n 0, 1) := by decide +kernel
theorem dX10_within_5 : decode cX10_within 5 = .ok (.iload_n 1, 1) := by decide +kernel
theorem dX10_within_6 : decode cX10_within 6 = .ok (.iconst 0, 1) := by decide +kernel
theorem dX10_within_7 : decode cX10_within 7 = .ok (.sipush 200, 3) := by decide +kernel
theorem dX10_within_10 : decode cX10_within 10 = .ok (.invokevirtual 80, 3) := by decide +kernel
theorem dX10_within_13 : decode cX10_within 13 = .ok (.aload_n 0, 1) := by decide +kernel
theorem dX10_within_14 : decode cX10_within 14 = .ok (.iload_n 2, 1) := by decide +kernel
theorem dX10_within_15 : decode cX10_within 15 = .ok (.invokevirtual 209, 3) := by decide +kernel
theorem dX10_within_18 : decode cX10_within 18 = .ok (.aload_n 0, 1) := by decide +kernel
theorem dX10_within_19 : decode cX10_within 19 = .ok (.getfield 51, 3) := by decide +kernel
theorem dX10_within_22 : decode cX10_within 22 = .ok (.aload_n 0, 1) := by decide +kernel
theorem dX10_within_23 : decode cX10_within 23 = .ok (.getfield 37, 3) := by decide +kernel
theorem dX10_within_26 : decode cX10_within 26 = .ok (.iload_n 1, 1) := by decide +kernel
theorem dX10_within_27 : decode cX10_within 27 = .ok (.invokevirtual 257, 3) := by decide +kernel
theorem dX10_within_30 : decode cX10_within 30 = .ok (.iload_n 2, 1) := by decide +kernel
theorem dX10_within_31 : decode cX10_within 31 = .ok (.invokestatic 219, 3) := by decide +kernel
theorem dX10_within_34 : decode cX10_within 34 = .ok (.ireturn, 1) := by decide +kernel
theorem dX10_classes_0 : decode cX10_classes 0 = .ok (.aload_n 0, 1) := by decide +kernel
theorem dX10_classes_1 : decode cX10_classes 1 = .ok (.invokevirtual 175, 3) := by decide +kernel
theorem dX10_classes_4 : decode cX10_classes 4 = .ok (.aload_n 0, 1) := by decide +kernel
theorem dX10_classes_5 : decode cX10_classes 5 = .ok (.iload_n 1, 1) := by decide +kernel
theorem dX10_classes_6 : decode cX10_classes 6 = .ok (.invokevirtual 107, 3) := by decide +kernel
theorem dX10_classes_9 : decode cX10_classes 9 = .ok (.aload_n 0, 1) := by decide +kernel
theorem dX10_classes_10 : decode cX10_classes 10 = .ok (.getfield 58, 3) := by decide +kernel
theorem dX10_classes_13 : decode cX10_classes 13 = .ok (.aload_n 0, 1) := by decide +kernel
theorem dX10_classes_14 : decode cX10_classes 14 = .ok (.getfield 37, 3) := by decide +kernel
theorem dX10_classes_17 : decode cX10_classes 17 = .ok (.iload_n 1, 1) := by decide +kernel
theorem dX10_classes_18 : decode cX10_classes 18 = .ok (.invokevirtual 260, 3) := by decide +kernel
theorem dX10_classes_21 : decode cX10_classes 21 = .ok (.aload_n 0, 1) := by decide +kernel
theorem dX10_classes_22 : decode cX10_classes 22 = .ok (.getfield 58, 3) := by decide +kernel
theorem dX10_classes_25 : decode cX10_classes 25 = .ok (.iload_n 1, 1) := by decide +kernel
theorem dX10_classes_26 : decode cX10_classes 26 = .ok (.invokevirtual 264, 3) := by decide +kernel
theorem dX10_classes_29 : decode cX10_classes 29 = .ok (.ireturn, 1) := by decide +kernel
theorem dX10_classOf_0 : decode cX10_classOf 0 = .ok (.aload_n 0, 1) := by decide +kernel
theorem dX10_classOf_1 : decode cX10_classOf 1 = .ok (.invokevirtual 175, 3) := by decide +kernel
theorem dX10_classOf_4 : decode cX10_classOf 4 = .ok (.aload_n 0, 1) := by decide +kernel
theorem dX10_classOf_5 : decode cX10_classOf 5 = .ok (.iload_n 1, 1) := by decide +kernel
theorem dX10_classOf_6 : decode cX10_classOf 6 = .ok (.invokevirtual 107, 3) := by decide +kernel
theorem dX10_classOf_9 : decode cX10_classOf 9 = .ok (.aload_n 0, 1) := by decide +kernel
theorem dX10_classOf_10 : decode cX10_classOf 10 = .ok (.iload_n 2, 1) := by decide +kernel
theorem dX10_classOf_11 : decode cX10_classOf 11 = .ok (.invokevirtual 178, 3) := by decide +kernel
theorem dX10_classOf_14 : decode cX10_classOf 14 = .ok (.aload_n 0, 1) := by decide +kernel
theorem dX10_classOf_15 : decode cX10_classOf 15 = .ok (.getfield 58, 3) := by decide +kernel
theorem dX10_classOf_18 : decode cX10_classOf 18 = .ok (.aload_n 0, 1) := by decide +kernel
theorem dX10_classOf_19 : decode cX10_classOf 19 = .ok (.getfield 37, 3) := by decide +kernel
theorem dX10_classOf_22 : decode cX10_classOf 22 = .ok (.iload_n 1, 1) := by decide +kernel
theorem dX10_classOf_23 : decode cX10_classOf 23 = .ok (.invokevirtual 260, 3) := by decide +kernel
theorem dX10_classOf_26 : decode cX10_classOf 26 = .ok (.aload_n 0, 1) := by decide +kernel
theorem dX10_classOf_27 : decode cX10_classOf 27 = .ok (.getfield 58, 3) := by decide +kernel
theorem dX10_classOf_30 : decode cX10_classOf 30 = .ok (.iload_n 1, 1) := by decide +kernel
theorem dX10_classOf_31 : decode cX10_classOf 31 = .ok (.iload_n 2, 1) := by decide +kernel
theorem dX10_classOf_32 : decode cX10_classOf 32 = .ok (.invokevirtual 267, 3) := by decide +kernel
theorem dX10_classOf_35 : decode cX10_classOf 35 = .ok (.ireturn, 1) := by decide +kernel
theorem dX10_run_0 : decode cX10_run 0 = .ok (.aload_n 0, 1) := by decide +kernel
theorem dX10_run_1 : decode cX10_run 1 = .ok (.invokevirtual 175, 3) := by decide +kernel
theorem dX10_run_4 : decode cX10_run 4 = .ok (.aload_n 0, 1) := by decide +kernel
theorem dX10_run_5 : decode cX10_run 5 = .ok (.getfield 65, 3) := by decide +kernel
theorem dX10_run_8 : decode cX10_run 8 = .ok (.aload_n 0, 1) := by decide +kernel
theorem dX10_run_9 : decode cX10_run 9 = .ok (.getfield 37, 3) := by decide +kernel
theorem dX10_run_12 : decode cX10_run 12 = .ok (.aload_n 0, 1) := by decide +kernel
theorem dX10_run_13 : decode cX10_run 13 = .ok (.getfield 23, 3) := by decide +kernel
theorem dX10_run_16 : decode cX10_run 16 = .ok (.invokevirtual 270, 3) := by decide +kernel
theorem dX10_run_19 : decode cX10_run 19 = .ok (.aload_n 0, 1) := by decide +kernel
theorem dX10_run_20 : decode cX10_run 20 = .ok (.getfield 65, 3) := by decide +kernel
theorem dX10_run_23 : decode cX10_run 23 = .ok (.invokevirtual 273, 3) := by decide +kernel
theorem dX10_run_26 : decode cX10_run 26 = .ok (.ifCond .ne 5, 3) := by decide +kernel
theorem dX10_run_29 : decode cX10_run 29 = .ok (.iconst (-1), 1) := by decide +kernel
theorem dX10_run_30 : decode cX10_run 30 = .ok (.ireturn, 1) := by decide +kernel
theorem dX10_run_31 : decode cX10_run 31 = .ok (.iload_n 1, 1) := by decide +kernel
theorem dX10_run_32 : decode cX10_run 32 = .ok (.iconst (-1), 1) := by decide +kernel
theorem dX10_run_33 : decode cX10_run 33 = .ok (.if_icmp .ne 11, 3) := by decide +kernel
theorem dX10_run_36 : decode cX10_run 36 = .ok (.aload_n 0, 1) := by decide +kernel
theorem dX10_run_37 : decode cX10_run 37 = .ok (.getfield 65, 3) := by decide +kernel
theorem dX10_run_40 : decode cX10_run 40 = .ok (.getfield 277, 3) := by decide +kernel
theorem dX10_run_43 : decode cX10_run 43 = .ok (.ireturn, 1) := by decide +kernel
theorem dX10_run_44 : decode cX10_run 44 = .ok (.iload_n 1, 1) := by decide +kernel
theorem dX10_run_45 : decode cX10_run 45 = .ok (.ifCond .lt 26, 3) := by decide +kernel
theorem dX10_run_48 : decode cX10_run 48 = .ok (.iload_n 1, 1) := by decide +kernel
theorem dX10_run_49 : decode cX10_run 49 = .ok (.aload_n 0, 1) := by decide +kernel
theorem dX10_run_50 : decode cX10_run 50 = .ok (.getfield 65, 3) := by decide +kernel
theorem dX10_run_53 : decode cX10_run 53 = .ok (.getfield 277, 3) := by decide +kernel
theorem dX10_run_56 : decode cX10_run 56 = .ok (.if_icmp .ge 15, 3) := by decide +kernel
theorem dX10_run_59 : decode cX10_run 59 = .ok (.aload_n 0, 1) := by decide +kernel
theorem dX10_run_60 : decode cX10_run 60 = .ok (.getfield 65, 3) := by decide +kernel
theorem dX10_run_63 : decode cX10_run 63 = .ok (.getfield 278, 3) := by decide +kernel
theorem dX10_run_66 : decode cX10_run 66 = .ok (.iload_n 1, 1) := by decide +kernel
theorem dX10_run_67 : decode cX10_run 67 = .ok (.iaload, 1) := by decide +kernel
theorem dX10_run_68 : decode cX10_run 68 = .ok (.goto 4, 3) := by decide +kernel
theorem dX10_run_71 : decode cX10_run 71 = .ok (.iconst (-1), 1) := by decide +kernel
theorem dX10_run_72 : decode cX10_run 72 = .ok (.ireturn, 1) := by decide +kernel
theorem dX10_worth_0 : decode cX10_worth 0 = .ok (.aload_n 0, 1) := by decide +kernel
theorem dX10_worth_1 : decode cX10_worth 1 = .ok (.invokevirtual 175, 3) := by decide +kernel
theorem dX10_worth_4 : decode cX10_worth 4 = .ok (.aload_n 0, 1) := by decide +kernel
theorem dX10_worth_5 : decode cX10_worth 5 = .ok (.getfield 65, 3) := by decide +kernel
theorem dX10_worth_8 : decode cX10_worth 8 = .ok (.aload_n 0, 1) := by decide +kernel
theorem dX10_worth_9 : decode cX10_worth 9 = .ok (.getfield 37, 3) := by decide +kernel
theorem dX10_worth_12 : decode cX10_worth 12 = .ok (.aload_n 0, 1) := by decide +kernel
theorem dX10_worth_13 : decode cX10_worth 13 = .ok (.getfield 23, 3) := by decide +kernel
theorem dX10_worth_16 : decode cX10_worth 16 = .ok (.invokevirtual 270, 3) := by decide +kernel
theorem dX10_worth_19 : decode cX10_worth 19 = .ok (.aload_n 0, 1) := by decide +kernel
theorem dX10_worth_20 : decode cX10_worth 20 = .ok (.getfield 65, 3) := by decide +kernel
theorem dX10_worth_23 : decode cX10_worth 23 = .ok (.invokevirtual 273, 3) := by decide +kernel
theorem dX10_worth_26 : decode cX10_worth 26 = .ok (.ifCond .eq 13, 3) := by decide +kernel
theorem dX10_worth_29 : decode cX10_worth 29 = .ok (.aload_n 0, 1) := by decide +kernel
theorem dX10_worth_30 : decode cX10_worth 30 = .ok (.getfield 65, 3) := by decide +kernel
theorem dX10_worth_33 : decode cX10_worth 33 = .ok (.getfield 281, 3) := by decide +kernel
theorem dX10_worth_36 : decode cX10_worth 36 = .ok (.goto 6, 3) := by decide +kernel
theorem dX10_worth_39 : decode cX10_worth 39 = .ok (.ldc2_w 285, 3) := by decide +kernel
theorem dX10_worth_42 : decode cX10_worth 42 = .ok (.lreturn, 1) := by decide +kernel
theorem dX10_print_0 : decode cX10_print 0 = .ok (.aload_n 0, 1) := by decide +kernel
theorem dX10_print_1 : decode cX10_print 1 = .ok (.getfield 37, 3) := by decide +kernel
theorem dX10_print_4 : decode cX10_print 4 = .ok (.aload_n 0, 1) := by decide +kernel
theorem dX10_print_5 : decode cX10_print 5 = .ok (.getfield 23, 3) := by decide +kernel
theorem dX10_print_8 : decode cX10_print 8 = .ok (.aload_n 0, 1) := by decide +kernel
theorem dX10_print_9 : decode cX10_print 9 = .ok (.getfield 95, 3) := by decide +kernel
theorem dX10_print_12 : decode cX10_print 12 = .ok (.invokevirtual 145, 3) := by decide +kernel
theorem dX10_print_15 : decode cX10_print 15 = .ok (.lconst 0, 1) := by decide +kernel
theorem dX10_print_16 : decode cX10_print 16 = .ok (.lstore_n 1, 1) := by decide +kernel
theorem dX10_print_17 : decode cX10_print 17 = .ok (.iconst 0, 1) := by decide +kernel
theorem dX10_print_18 : decode cX10_print 18 = .ok (.istore_n 3, 1) := by decide +kernel
theorem dX10_print_19 : decode cX10_print 19 = .ok (.iload_n 3, 1) := by decide +kernel
theorem dX10_print_20 : decode cX10_print 20 = .ok (.aload_n 0, 1) := by decide +kernel
theorem dX10_print_21 : decode cX10_print 21 = .ok (.getfield 37, 3) := by decide +kernel
theorem dX10_print_24 : decode cX10_print 24 = .ok (.getfield 153, 3) := by decide +kernel
theorem dX10_print_27 : decode cX10_print 27 = .ok (.if_icmp .ge 53, 3) := by decide +kernel
theorem dX10_print_30 : decode cX10_print 30 = .ok (.aload_n 0, 1) := by decide +kernel
theorem dX10_print_31 : decode cX10_print 31 = .ok (.getfield 37, 3) := by decide +kernel
theorem dX10_print_34 : decode cX10_print 34 = .ok (.getfield 149, 3) := by decide +kernel
theorem dX10_print_37 : decode cX10_print 37 = .ok (.ifCond .ne 43, 3) := by decide +kernel
theorem dX10_print_40 : decode cX10_print 40 = .ok (.ldc2_w 287, 3) := by decide +kernel
theorem dX10_print_43 : decode cX10_print 43 = .ok (.lload_n 1, 1) := by decide +kernel
theorem dX10_print_44 : decode cX10_print 44 = .ok (.lmul, 1) := by decide +kernel
theorem dX10_print_45 : decode cX10_print 45 = .ok (.aload_n 0, 1) := by decide +kernel
theorem dX10_print_46 : decode cX10_print 46 = .ok (.getfield 37, 3) := by decide +kernel
theorem dX10_print_49 : decode cX10_print 49 = .ok (.getfield 181, 3) := by decide +kernel
theorem dX10_print_52 : decode cX10_print 52 = .ok (.iload_n 3, 1) := by decide +kernel
theorem dX10_print_53 : decode cX10_print 53 = .ok (.iaload, 1) := by decide +kernel
theorem dX10_print_54 : decode cX10_print 54 = .ok (.i2l, 1) := by decide +kernel
theorem dX10_print_55 : decode cX10_print 55 = .ok (.ladd, 1) := by decide +kernel
theorem dX10_print_56 : decode cX10_print 56 = .ok (.lstore_n 1, 1) := by decide +kernel
theorem dX10_print_57 : decode cX10_print 57 = .ok (.ldc2_w 287, 3) := by decide +kernel
theorem dX10_print_60 : decode cX10_print 60 = .ok (.lload_n 1, 1) := by decide +kernel
theorem dX10_print_61 : decode cX10_print 61 = .ok (.lmul, 1) := by decide +kernel
theorem dX10_print_62 : decode cX10_print 62 = .ok (.aload_n 0, 1) := by decide +kernel
theorem dX10_print_63 : decode cX10_print 63 = .ok (.getfield 37, 3) := by decide +kernel
theorem dX10_print_66 : decode cX10_print 66 = .ok (.getfield 194, 3) := by decide +kernel
theorem dX10_print_69 : decode cX10_print 69 = .ok (.iload_n 3, 1) := by decide +kernel
theorem dX10_print_70 : decode cX10_print 70 = .ok (.iaload, 1) := by decide +kernel
theorem dX10_print_71 : decode cX10_print 71 = .ok (.i2l, 1) := by decide +kernel
theorem dX10_print_72 : decode cX10_print 72 = .ok (.ladd, 1) := by decide +kernel
theorem dX10_print_73 : decode cX10_print 73 = .ok (.lstore_n 1, 1) := by decide +kernel
theorem dX10_print_74 : decode cX10_print 74 = .ok (.iinc 3 1, 3) := by decide +kernel
theorem dX10_print_77 : decode cX10_print 77 = .ok (.goto (-58), 3) := by decide +kernel
theorem dX10_print_80 : decode cX10_print 80 = .ok (.lload_n 1, 1) := by decide +kernel
theorem dX10_print_81 : decode cX10_print 81 = .ok (.lreturn, 1) := by decide +kernel
theorem dX10_status_0 : decode cX10_status 0 = .ok (.iload_n 1, 1) := by decide +kernel
theorem dX10_status_1 : decode cX10_status 1 = .ok (.ifCond .lt 21, 3) := by decide +kernel
theorem dX10_status_4 : decode cX10_status 4 = .ok (.iload_n 1, 1) := by decide +kernel
theorem dX10_status_5 : decode cX10_status 5 = .ok (.aload_n 0, 1) := by decide +kernel
theorem dX10_status_6 : decode cX10_status 6 = .ok (.getfield 69, 3) := by decide +kernel
theorem dX10_status_9 : decode cX10_status 9 = .ok (.arraylength, 1) := by decide +kernel
theorem dX10_status_10 : decode cX10_status 10 = .ok (.if_icmp .ge 12, 3) := by decide +kernel
theorem dX10_status_13 : decode cX10_status 13 = .ok (.aload_n 0, 1) := by decide +kernel
theorem dX10_status_14 : decode cX10_status 14 = .ok (.getfield 69, 3) := by decide +kernel
theorem dX10_status_17 : decode cX10_status 17 = .ok (.iload_n 1, 1) := by decide +kernel
theorem dX10_status_18 : decode cX10_status 18 = .ok (.iaload, 1) := by decide +kernel
theorem dX10_status_19 : decode cX10_status 19 = .ok (.goto 4, 3) := by decide +kernel
theorem dX10_status_22 : decode cX10_status 22 = .ok (.iconst (-1), 1) := by decide +kernel
theorem dX10_status_23 : decode cX10_status 23 = .ok (.ireturn, 1) := by decide +kernel
theorem dX10_needStates_0 : decode cX10_needStates 0 = .ok (.aload_n 0, 1) := by decide +kernel
theorem dX10_needStates_1 : decode cX10_needStates 1 = .ok (.getfield 37, 3) := by decide +kernel
theorem dX10_needStates_4 : decode cX10_needStates 4 = .ok (.aload_n 0, 1) := by decide +kernel
theorem dX10_needStates_5 : decode cX10_needStates 5 = .ok (.getfield 23, 3) := by decide +kernel
theorem dX10_needStates_8 : decode cX10_needStates 8 = .ok (.aload_n 0, 1) := by decide +kernel
theorem dX10_needStates_9 : decode cX10_needStates 9 = .ok (.getfield 95, 3) := by decide +kernel
theorem dX10_needStates_12 : decode cX10_needStates 12 = .ok (.invokevirtual 145, 3) := by decide +kernel
theorem dX10_needStates_15 : decode cX10_needStates 15 = .ok (.aload_n 0, 1) := by decide +kernel
theorem dX10_needStates_16 : decode cX10_needStates 16 = .ok (.getfield 37, 3) := by decide +kernel
theorem dX10_needStates_19 : decode cX10_needStates 19 = .ok (.getfield 149, 3) := by decide +kernel
theorem dX10_needStates_22 : decode cX10_needStates 22 = .ok (.ifCond .eq 7, 3) := by decide +kernel
theorem dX10_needStates_25 : decode cX10_needStates 25 = .ok (.aload_n 0, 1) := by decide +kernel
theorem dX10_needStates_26 : decode cX10_needStates 26 = .ok (.invokevirtual 289, 3) := by decide +kernel
theorem dX10_needStates_29 : decode cX10_needStates 29 = .ok (.return_, 1) := by decide +kernel
theorem dX10_needEnd_0 : decode cX10_needEnd 0 = .ok (.aload_n 0, 1) := by decide +kernel
theorem dX10_needEnd_1 : decode cX10_needEnd 1 = .ok (.getfield 37, 3) := by decide +kernel
theorem dX10_needEnd_4 : decode cX10_needEnd 4 = .ok (.getfield 154, 3) := by decide +kernel
theorem dX10_needEnd_7 : decode cX10_needEnd 7 = .ok (.ifCond .ne 7, 3) := by decide +kernel
theorem dX10_needEnd_10 : decode cX10_needEnd 10 = .ok (.aload_n 0, 1) := by decide +kernel
theorem dX10_needEnd_11 : decode cX10_needEnd 11 = .ok (.invokevirtual 289, 3) := by decide +kernel
theorem dX10_needEnd_14 : decode cX10_needEnd 14 = .ok (.return_, 1) := by decide +kernel
theorem dX10_needVariable_0 : decode cX10_needVariable 0 = .ok (.iload_n 1, 1) := by decide +kernel
theorem dX10_needVariable_1 : decode cX10_needVariable 1 = .ok (.ifCond .lt 9, 3) := by decide +kernel
theorem dX10_needVariable_4 : decode cX10_needVariable 4 = .ok (.iload_n 1, 1) := by decide +kernel
theorem dX10_needVariable_5 : decode cX10_needVariable 5 = .ok (.bipush 6, 2) := by decide +kernel
theorem dX10_needVariable_7 : decode cX10_needVariable 7 = .ok (.if_icmp .lt 7, 3) := by decide +kernel
theorem dX10_needVariable_10 : decode cX10_needVariable 10 = .ok (.aload_n 0, 1) := by decide +kernel
theorem dX10_needVariable_11 : decode cX10_needVariable 11 = .ok (.invokevirtual 197, 3) := by decide +kernel
theorem dX10_needVariable_14 : decode cX10_needVariable 14 = .ok (.return_, 1) := by decide +kernel
theorem dX10_needStatement_0 : decode cX10_needStatement 0 = .ok (.iload_n 1, 1) := by decide +kernel
theorem dX10_needStatement_1 : decode cX10_needStatement 1 = .ok (.ifCond .lt 14, 3) := by decide +kernel
theorem dX10_needStatement_4 : decode cX10_needStatement 4 = .ok (.iload_n 1, 1) := by decide +kernel
theorem dX10_needStatement_5 : decode cX10_needStatement 5 = .ok (.aload_n 0, 1) := by decide +kernel
theorem dX10_needStatement_6 : decode cX10_needStatement 6 = .ok (.getfield 23, 3) := by decide +kernel
theorem dX10_needStatement_9 : decode cX10_needStatement 9 = .ok (.getfield 104, 3) := by decide +kernel
theorem dX10_needStatement_12 : decode cX10_needStatement 12 = .ok (.if_icmp .lt 7, 3) := by decide +kernel
theorem dX10_needStatement_15 : decode cX10_needStatement 15 = .ok (.aload_n 0, 1) := by decide +kernel
theorem dX10_needStatement_16 : decode cX10_needStatement 16 = .ok (.invokevirtual 197, 3) := by decide +kernel
theorem dX10_needStatement_19 : decode cX10_needStatement 19 = .ok (.return_, 1) := by decide +kernel
theorem dX10_needState_0 : decode cX10_needState 0 = .ok (.iload_n 1, 1) := by decide +kernel
theorem dX10_needState_1 : decode cX10_needState 1 = .ok (.ifCond .lt 14, 3) := by decide +kernel
theorem dX10_needState_4 : decode cX10_needState 4 = .ok (.iload_n 1, 1) := by decide +kernel
theorem dX10_needState_5 : decode cX10_needState 5 = .ok (.aload_n 0, 1) := by decide +kernel
theorem dX10_needState_6 : decode cX10_needState 6 = .ok (.getfield 37, 3) := by decide +kernel
theorem dX10_needState_9 : decode cX10_needState 9 = .ok (.getfield 153, 3) := by decide +kernel
theorem dX10_needState_12 : decode cX10_needState 12 = .ok (.if_icmp .lt 7, 3) := by decide +kernel
theorem dX10_needState_15 : decode cX10_needState 15 = .ok (.aload_n 0, 1) := by decide +kernel
theorem dX10_needState_16 : decode cX10_needState 16 = .ok (.invokevirtual 197, 3) := by decide +kernel
theorem dX10_needState_19 : decode cX10_needState 19 = .ok (.return_, 1) := by decide +kernel
theorem dX10_needNumber_0 : decode cX10_needNumber 0 = .ok (.iload_n 1, 1) := by decide +kernel
theorem dX10_needNumber_1 : decode cX10_needNumber 1 = .ok (.iload_n 2, 1) := by decide +kernel
theorem dX10_needNumber_2 : decode cX10_needNumber 2 = .ok (.if_icmp .lt 8, 3) := by decide +kernel
theorem dX10_needNumber_5 : decode cX10_needNumber 5 = .ok (.iload_n 1, 1) := by decide +kernel
theorem dX10_needNumber_6 : decode cX10_needNumber 6 = .ok (.iload_n 3, 1) := by decide +kernel
theorem dX10_needNumber_7 : decode cX10_needNumber 7 = .ok (.if_icmp .le 7, 3) := by decide +kernel
theorem dX10_needNumber_10 : decode cX10_needNumber 10 = .ok (.aload_n 0, 1) := by decide +kernel
theorem dX10_needNumber_11 : decode cX10_needNumber 11 = .ok (.invokevirtual 129, 3) := by decide +kernel
theorem dX10_needNumber_14 : decode cX10_needNumber 14 = .ok (.return_, 1) := by decide +kernel
theorem dX10_needForm_0 : decode cX10_needForm 0 = .ok (.aload_n 0, 1) := by decide +kernel
theorem dX10_needForm_1 : decode cX10_needForm 1 = .ok (.iload_n 1, 1) := by decide +kernel
theorem dX10_needForm_2 : decode cX10_needForm 2 = .ok (.iconst 0, 1) := by decide +kernel
theorem dX10_needForm_3 : decode cX10_needForm 3 = .ok (.iconst 2, 1) := by decide +kernel
theorem dX10_needForm_4 : decode cX10_needForm 4 = .ok (.invokevirtual 80, 3) := by decide +kernel
theorem dX10_needForm_7 : decode cX10_needForm 7 = .ok (.return_, 1) := by decide +kernel
theorem dX10_refuseElement_0 : decode cX10_refuseElement 0 = .ok (.aload_n 0, 1) := by decide +kernel
theorem dX10_refuseElement_1 : decode cX10_refuseElement 1 = .ok (.getfield 69, 3) := by decide +kernel
theorem dX10_refuseElement_4 : decode cX10_refuseElement 4 = .ok (.iconst 0, 1) := by decide +kernel
theorem dX10_refuseElement_5 : decode cX10_refuseElement 5 = .ok (.dup2, 1) := by decide +kernel
theorem dX10_refuseElement_6 : decode cX10_refuseElement 6 = .ok (.iaload, 1) := by decide +kernel
theorem dX10_refuseElement_7 : decode cX10_refuseElement 7 = .ok (.iconst 1, 1) := by decide +kernel
theorem dX10_refuseElement_8 : decode cX10_refuseElement 8 = .ok (.iadd, 1) := by decide +kernel
theorem dX10_refuseElement_9 : decode cX10_refuseElement 9 = .ok (.iastore, 1) := by decide +kernel
theorem dX10_refuseElement_10 : decode cX10_refuseElement 10 = .ok (.new 292, 3) := by decide +kernel
theorem dX10_refuseElement_13 : decode cX10_refuseElement 13 = .ok (.dup, 1) := by decide +kernel
theorem dX10_refuseElement_14 : decode cX10_refuseElement 14 = .ok (.ldc_w 294, 3) := by decide +kernel
theorem dX10_refuseElement_17 : decode cX10_refuseElement 17 = .ok (.invokespecial 296, 3) := by decide +kernel
theorem dX10_refuseElement_20 : decode cX10_refuseElement 20 = .ok (.athrow, 1) := by decide +kernel
theorem dX10_refuseArgument_0 : decode cX10_refuseArgument 0 = .ok (.aload_n 0, 1) := by decide +kernel
theorem dX10_refuseArgument_1 : decode cX10_refuseArgument 1 = .ok (.getfield 69, 3) := by decide +kernel
theorem dX10_refuseArgument_4 : decode cX10_refuseArgument 4 = .ok (.iconst 1, 1) := by decide +kernel
theorem dX10_refuseArgument_5 : decode cX10_refuseArgument 5 = .ok (.dup2, 1) := by decide +kernel
theorem dX10_refuseArgument_6 : decode cX10_refuseArgument 6 = .ok (.iaload, 1) := by decide +kernel
theorem dX10_refuseArgument_7 : decode cX10_refuseArgument 7 = .ok (.iconst 1, 1) := by decide +kernel
theorem dX10_refuseArgument_8 : decode cX10_refuseArgument 8 = .ok (.iadd, 1) := by decide +kernel
theorem dX10_refuseArgument_9 : decode cX10_refuseArgument 9 = .ok (.iastore, 1) := by decide +kernel
theorem dX10_refuseArgument_10 : decode cX10_refuseArgument 10 = .ok (.new 299, 3) := by decide +kernel
theorem dX10_refuseArgument_13 : decode cX10_refuseArgument 13 = .ok (.dup, 1) := by decide +kernel
theorem dX10_refuseArgument_14 : decode cX10_refuseArgument 14 = .ok (.ldc_w 301, 3) := by decide +kernel
theorem dX10_refuseArgument_17 : decode cX10_refuseArgument 17 = .ok (.invokespecial 303, 3) := by decide +kernel
theorem dX10_refuseArgument_20 : decode cX10_refuseArgument 20 = .ok (.athrow, 1) := by decide +kernel
theorem dX10_refuseState_0 : decode cX10_refuseState 0 = .ok (.aload_n 0, 1) := by decide +kernel
theorem dX10_refuseState_1 : decode cX10_refuseState 1 = .ok (.getfield 69, 3) := by decide +kernel
theorem dX10_refuseState_4 : decode cX10_refuseState 4 = .ok (.iconst 2, 1) := by decide +kernel
theorem dX10_refuseState_5 : decode cX10_refuseState 5 = .ok (.dup2, 1) := by decide +kernel
theorem dX10_refuseState_6 : decode cX10_refuseState 6 = .ok (.iaload, 1) := by decide +kernel
