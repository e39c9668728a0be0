theorem dX4_findTrapped_84 : decode cX4_findTrapped 84 = .ok (.istore_n 1, 1) := by decide +kernel
theorem dX4_findTrapped_85 : decode cX4_findTrapped 85 = .ok (.aload_n 0, 1) := by decide +kernel
theorem dX4_findTrapped_86 : decode cX4_findTrapped 86 = .ok (.getfield 45, 3) := by decide +kernel
theorem dX4_findTrapped_89 : decode cX4_findTrapped 89 = .ok (.iconst 1, 1) := by decide +kernel
theorem dX4_findTrapped_90 : decode cX4_findTrapped 90 = .ok (.isub, 1) := by decide +kernel
theorem dX4_findTrapped_91 : decode cX4_findTrapped 91 = .ok (.istore_n 3, 1) := by decide +kernel
theorem dX4_findTrapped_92 : decode cX4_findTrapped 92 = .ok (.iload_n 3, 1) := by decide +kernel
theorem dX4_findTrapped_93 : decode cX4_findTrapped 93 = .ok (.ifCond .lt 45, 3) := by decide +kernel
theorem dX4_findTrapped_96 : decode cX4_findTrapped 96 = .ok (.aload_n 0, 1) := by decide +kernel
theorem dX4_findTrapped_97 : decode cX4_findTrapped 97 = .ok (.getfield 21, 3) := by decide +kernel
theorem dX4_findTrapped_100 : decode cX4_findTrapped 100 = .ok (.iload_n 3, 1) := by decide +kernel
theorem dX4_findTrapped_101 : decode cX4_findTrapped 101 = .ok (.baload, 1) := by decide +kernel
theorem dX4_findTrapped_102 : decode cX4_findTrapped 102 = .ok (.ifCond .eq 30, 3) := by decide +kernel
theorem dX4_findTrapped_105 : decode cX4_findTrapped 105 = .ok (.aload_n 0, 1) := by decide +kernel
theorem dX4_findTrapped_106 : decode cX4_findTrapped 106 = .ok (.iload_n 3, 1) := by decide +kernel
theorem dX4_findTrapped_107 : decode cX4_findTrapped 107 = .ok (.invokevirtual 121, 3) := by decide +kernel
theorem dX4_findTrapped_110 : decode cX4_findTrapped 110 = .ok (.ifCond .eq 22, 3) := by decide +kernel
theorem dX4_findTrapped_113 : decode cX4_findTrapped 113 = .ok (.aload_n 0, 1) := by decide +kernel
theorem dX4_findTrapped_114 : decode cX4_findTrapped 114 = .ok (.getfield 21, 3) := by decide +kernel
theorem dX4_findTrapped_117 : decode cX4_findTrapped 117 = .ok (.iload_n 3, 1) := by decide +kernel
theorem dX4_findTrapped_118 : decode cX4_findTrapped 118 = .ok (.iconst 0, 1) := by decide +kernel
theorem dX4_findTrapped_119 : decode cX4_findTrapped 119 = .ok (.bastore, 1) := by decide +kernel
theorem dX4_findTrapped_120 : decode cX4_findTrapped 120 = .ok (.aload_n 0, 1) := by decide +kernel
theorem dX4_findTrapped_121 : decode cX4_findTrapped 121 = .ok (.dup, 1) := by decide +kernel
theorem dX4_findTrapped_122 : decode cX4_findTrapped 122 = .ok (.getfield 118, 3) := by decide +kernel
theorem dX4_findTrapped_125 : decode cX4_findTrapped 125 = .ok (.iconst 1, 1) := by decide +kernel
theorem dX4_findTrapped_126 : decode cX4_findTrapped 126 = .ok (.isub, 1) := by decide +kernel
theorem dX4_findTrapped_127 : decode cX4_findTrapped 127 = .ok (.putfield 118, 3) := by decide +kernel
theorem dX4_findTrapped_130 : decode cX4_findTrapped 130 = .ok (.iconst 1, 1) := by decide +kernel
theorem dX4_findTrapped_131 : decode cX4_findTrapped 131 = .ok (.istore_n 1, 1) := by decide +kernel
theorem dX4_findTrapped_132 : decode cX4_findTrapped 132 = .ok (.iinc 3 (-1), 3) := by decide +kernel
theorem dX4_findTrapped_135 : decode cX4_findTrapped 135 = .ok (.goto (-43), 3) := by decide +kernel
theorem dX4_findTrapped_138 : decode cX4_findTrapped 138 = .ok (.iinc 2 1, 3) := by decide +kernel
theorem dX4_findTrapped_141 : decode cX4_findTrapped 141 = .ok (.goto (-69), 3) := by decide +kernel
theorem dX4_findTrapped_144 : decode cX4_findTrapped 144 = .ok (.return_, 1) := by decide +kernel
theorem dX4_leadsOut_0 : decode cX4_leadsOut 0 = .ok (.aload_n 0, 1) := by decide +kernel
theorem dX4_leadsOut_1 : decode cX4_leadsOut 1 = .ok (.getfield 25, 3) := by decide +kernel
theorem dX4_leadsOut_4 : decode cX4_leadsOut 4 = .ok (.iload_n 1, 1) := by decide +kernel
theorem dX4_leadsOut_5 : decode cX4_leadsOut 5 = .ok (.iaload, 1) := by decide +kernel
theorem dX4_leadsOut_6 : decode cX4_leadsOut 6 = .ok (.istore_n 2, 1) := by decide +kernel
theorem dX4_leadsOut_7 : decode cX4_leadsOut 7 = .ok (.iload_n 2, 1) := by decide +kernel
theorem dX4_leadsOut_8 : decode cX4_leadsOut 8 = .ok (.aload_n 0, 1) := by decide +kernel
theorem dX4_leadsOut_9 : decode cX4_leadsOut 9 = .ok (.getfield 25, 3) := by decide +kernel
theorem dX4_leadsOut_12 : decode cX4_leadsOut 12 = .ok (.iload_n 1, 1) := by decide +kernel
theorem dX4_leadsOut_13 : decode cX4_leadsOut 13 = .ok (.iconst 1, 1) := by decide +kernel
theorem dX4_leadsOut_14 : decode cX4_leadsOut 14 = .ok (.iadd, 1) := by decide +kernel
theorem dX4_leadsOut_15 : decode cX4_leadsOut 15 = .ok (.iaload, 1) := by decide +kernel
theorem dX4_leadsOut_16 : decode cX4_leadsOut 16 = .ok (.if_icmp .ge 25, 3) := by decide +kernel
theorem dX4_leadsOut_19 : decode cX4_leadsOut 19 = .ok (.aload_n 0, 1) := by decide +kernel
theorem dX4_leadsOut_20 : decode cX4_leadsOut 20 = .ok (.getfield 21, 3) := by decide +kernel
theorem dX4_leadsOut_23 : decode cX4_leadsOut 23 = .ok (.aload_n 0, 1) := by decide +kernel
theorem dX4_leadsOut_24 : decode cX4_leadsOut 24 = .ok (.getfield 28, 3) := by decide +kernel
theorem dX4_leadsOut_27 : decode cX4_leadsOut 27 = .ok (.iload_n 2, 1) := by decide +kernel
theorem dX4_leadsOut_28 : decode cX4_leadsOut 28 = .ok (.iaload, 1) := by decide +kernel
theorem dX4_leadsOut_29 : decode cX4_leadsOut 29 = .ok (.baload, 1) := by decide +kernel
theorem dX4_leadsOut_30 : decode cX4_leadsOut 30 = .ok (.ifCond .ne 5, 3) := by decide +kernel
theorem dX4_leadsOut_33 : decode cX4_leadsOut 33 = .ok (.iconst 1, 1) := by decide +kernel
theorem dX4_leadsOut_34 : decode cX4_leadsOut 34 = .ok (.ireturn, 1) := by decide +kernel
theorem dX4_leadsOut_35 : decode cX4_leadsOut 35 = .ok (.iinc 2 1, 3) := by decide +kernel
theorem dX4_leadsOut_38 : decode cX4_leadsOut 38 = .ok (.goto (-31), 3) := by decide +kernel
theorem dX4_leadsOut_41 : decode cX4_leadsOut 41 = .ok (.iconst 0, 1) := by decide +kernel
theorem dX4_leadsOut_42 : decode cX4_leadsOut 42 = .ok (.ireturn, 1) := by decide +kernel
theorem dX5_init_0 : decode cX5_init 0 = .ok (.aload_n 0, 1) := by decide +kernel
theorem dX5_init_1 : decode cX5_init 1 = .ok (.invokespecial 3, 3) := by decide +kernel
theorem dX5_init_4 : decode cX5_init 4 = .ok (.aload_n 0, 1) := by decide +kernel
theorem dX5_init_5 : decode cX5_init 5 = .ok (.bipush 10, 2) := by decide +kernel
theorem dX5_init_7 : decode cX5_init 7 = .ok (.newarray .int, 2) := by decide +kernel
theorem dX5_init_9 : decode cX5_init 9 = .ok (.putfield 9, 3) := by decide +kernel
theorem dX5_init_12 : decode cX5_init 12 = .ok (.aload_n 0, 1) := by decide +kernel
theorem dX5_init_13 : decode cX5_init 13 = .ok (.sipush 200, 3) := by decide +kernel
theorem dX5_init_16 : decode cX5_init 16 = .ok (.newarray .int, 2) := by decide +kernel
theorem dX5_init_18 : decode cX5_init 18 = .ok (.putfield 15, 3) := by decide +kernel
theorem dX5_init_21 : decode cX5_init 21 = .ok (.aload_n 0, 1) := by decide +kernel
theorem dX5_init_22 : decode cX5_init 22 = .ok (.sipush 2200, 3) := by decide +kernel
theorem dX5_init_25 : decode cX5_init 25 = .ok (.newarray .long, 2) := by decide +kernel
theorem dX5_init_27 : decode cX5_init 27 = .ok (.putfield 18, 3) := by decide +kernel
theorem dX5_init_30 : decode cX5_init 30 = .ok (.aload_n 0, 1) := by decide +kernel
theorem dX5_init_31 : decode cX5_init 31 = .ok (.sipush 2200, 3) := by decide +kernel
theorem dX5_init_34 : decode cX5_init 34 = .ok (.newarray .int, 2) := by decide +kernel
theorem dX5_init_36 : decode cX5_init 36 = .ok (.putfield 22, 3) := by decide +kernel
theorem dX5_init_39 : decode cX5_init 39 = .ok (.return_, 1) := by decide +kernel
theorem dX5_exists_0 : decode cX5_exists 0 = .ok (.aload_n 0, 1) := by decide +kernel
theorem dX5_exists_1 : decode cX5_exists 1 = .ok (.getfield 25, 3) := by decide +kernel
theorem dX5_exists_4 : decode cX5_exists 4 = .ok (.lconst 0, 1) := by decide +kernel
theorem dX5_exists_5 : decode cX5_exists 5 = .ok (.lcmp, 1) := by decide +kernel
theorem dX5_exists_6 : decode cX5_exists 6 = .ok (.ifCond .le 7, 3) := by decide +kernel
theorem dX5_exists_9 : decode cX5_exists 9 = .ok (.iconst 1, 1) := by decide +kernel
theorem dX5_exists_10 : decode cX5_exists 10 = .ok (.goto 4, 3) := by decide +kernel
theorem dX5_exists_13 : decode cX5_exists 13 = .ok (.iconst 0, 1) := by decide +kernel
theorem dX5_exists_14 : decode cX5_exists 14 = .ok (.ireturn, 1) := by decide +kernel
theorem dX5_find_0 : decode cX5_find 0 = .ok (.aload_n 0, 1) := by decide +kernel
theorem dX5_find_1 : decode cX5_find 1 = .ok (.getfield 29, 3) := by decide +kernel
theorem dX5_find_4 : decode cX5_find 4 = .ok (.aload_n 1, 1) := by decide +kernel
theorem dX5_find_5 : decode cX5_find 5 = .ok (.getfield 33, 3) := by decide +kernel
theorem dX5_find_8 : decode cX5_find 8 = .ok (.if_icmp .ne 4, 3) := by decide +kernel
theorem dX5_find_11 : decode cX5_find 11 = .ok (.return_, 1) := by decide +kernel
theorem dX5_find_12 : decode cX5_find 12 = .ok (.aload_n 0, 1) := by decide +kernel
theorem dX5_find_13 : decode cX5_find 13 = .ok (.aload_n 1, 1) := by decide +kernel
theorem dX5_find_14 : decode cX5_find 14 = .ok (.getfield 33, 3) := by decide +kernel
theorem dX5_find_17 : decode cX5_find 17 = .ok (.putfield 29, 3) := by decide +kernel
theorem dX5_find_20 : decode cX5_find 20 = .ok (.aload_n 0, 1) := by decide +kernel
theorem dX5_find_21 : decode cX5_find 21 = .ok (.lconst 0, 1) := by decide +kernel
theorem dX5_find_22 : decode cX5_find 22 = .ok (.putfield 25, 3) := by decide +kernel
theorem dX5_find_25 : decode cX5_find 25 = .ok (.aload_n 0, 1) := by decide +kernel
theorem dX5_find_26 : decode cX5_find 26 = .ok (.iconst 0, 1) := by decide +kernel
theorem dX5_find_27 : decode cX5_find 27 = .ok (.putfield 36, 3) := by decide +kernel
theorem dX5_find_30 : decode cX5_find 30 = .ok (.iconst 0, 1) := by decide +kernel
theorem dX5_find_31 : decode cX5_find 31 = .ok (.istore_n 3, 1) := by decide +kernel
theorem dX5_find_32 : decode cX5_find 32 = .ok (.iload_n 3, 1) := by decide +kernel
theorem dX5_find_33 : decode cX5_find 33 = .ok (.aload_n 1, 1) := by decide +kernel
theorem dX5_find_34 : decode cX5_find 34 = .ok (.getfield 39, 3) := by decide +kernel
theorem dX5_find_37 : decode cX5_find 37 = .ok (.if_icmp .ge 21, 3) := by decide +kernel
theorem dX5_find_40 : decode cX5_find 40 = .ok (.aload_n 0, 1) := by decide +kernel
theorem dX5_find_41 : decode cX5_find 41 = .ok (.getfield 15, 3) := by decide +kernel
theorem dX5_find_44 : decode cX5_find 44 = .ok (.iload_n 3, 1) := by decide +kernel
theorem dX5_find_45 : decode cX5_find 45 = .ok (.aload_n 1, 1) := by decide +kernel
theorem dX5_find_46 : decode cX5_find 46 = .ok (.aload_n 2, 1) := by decide +kernel
theorem dX5_find_47 : decode cX5_find 47 = .ok (.iload_n 3, 1) := by decide +kernel
theorem dX5_find_48 : decode cX5_find 48 = .ok (.invokestatic 40, 3) := by decide +kernel
theorem dX5_find_51 : decode cX5_find 51 = .ok (.iastore, 1) := by decide +kernel
theorem dX5_find_52 : decode cX5_find 52 = .ok (.iinc 3 1, 3) := by decide +kernel
theorem dX5_find_55 : decode cX5_find 55 = .ok (.goto (-23), 3) := by decide +kernel
theorem dX5_find_58 : decode cX5_find 58 = .ok (.lconst 1, 1) := by decide +kernel
theorem dX5_find_59 : decode cX5_find 59 = .ok (.lstore_n 3, 1) := by decide +kernel
theorem dX5_find_60 : decode cX5_find 60 = .ok (.iconst 0, 1) := by decide +kernel
theorem dX5_find_61 : decode cX5_find 61 = .ok (.istore 5, 2) := by decide +kernel
theorem dX5_find_63 : decode cX5_find 63 = .ok (.iload 5, 2) := by decide +kernel
theorem dX5_find_65 : decode cX5_find 65 = .ok (.bipush 10, 2) := by decide +kernel
theorem dX5_find_67 : decode cX5_find 67 = .ok (.if_icmp .gt 43, 3) := by decide +kernel
theorem dX5_find_70 : decode cX5_find 70 = .ok (.iconst 0, 1) := by decide +kernel
theorem dX5_find_71 : decode cX5_find 71 = .ok (.istore 6, 2) := by decide +kernel
theorem dX5_find_73 : decode cX5_find 73 = .ok (.iload 6, 2) := by decide +kernel
theorem dX5_find_75 : decode cX5_find 75 = .ok (.aload_n 1, 1) := by decide +kernel
theorem dX5_find_76 : decode cX5_find 76 = .ok (.getfield 39, 3) := by decide +kernel
theorem dX5_find_79 : decode cX5_find 79 = .ok (.if_icmp .ge 19, 3) := by decide +kernel
theorem dX5_find_82 : decode cX5_find 82 = .ok (.aload_n 0, 1) := by decide +kernel
theorem dX5_find_83 : decode cX5_find 83 = .ok (.aload_n 1, 1) := by decide +kernel
theorem dX5_find_84 : decode cX5_find 84 = .ok (.iload 6, 2) := by decide +kernel
theorem dX5_find_86 : decode cX5_find 86 = .ok (.iload 5, 2) := by decide +kernel
theorem dX5_find_88 : decode cX5_find 88 = .ok (.lload_n 3, 1) := by decide +kernel
theorem dX5_find_89 : decode cX5_find 89 = .ok (.invokevirtual 44, 3) := by decide +kernel
theorem dX5_find_92 : decode cX5_find 92 = .ok (.iinc 6 1, 3) := by decide +kernel
theorem dX5_find_95 : decode cX5_find 95 = .ok (.goto (-22), 3) := by decide +kernel
theorem dX5_find_98 : decode cX5_find 98 = .ok (.lload_n 3, 1) := by decide +kernel
theorem dX5_find_99 : decode cX5_find 99 = .ok (.ldc2_w 48, 3) := by decide +kernel
theorem dX5_find_102 : decode cX5_find 102 = .ok (.lmul, 1) := by decide +kernel
theorem dX5_find_103 : decode cX5_find 103 = .ok (.lstore_n 3, 1) := by decide +kernel
theorem dX5_find_104 : decode cX5_find 104 = .ok (.iinc 5 1, 3) := by decide +kernel
theorem dX5_find_107 : decode cX5_find 107 = .ok (.goto (-44), 3) := by decide +kernel
theorem dX5_find_110 : decode cX5_find 110 = .ok (.aload_n 0, 1) := by decide +kernel
theorem dX5_find_111 : decode cX5_find 111 = .ok (.getfield 15, 3) := by decide +kernel
theorem dX5_find_114 : decode cX5_find 114 = .ok (.iconst 0, 1) := by decide +kernel
theorem dX5_find_115 : decode cX5_find 115 = .ok (.iaload, 1) := by decide +kernel
theorem dX5_find_116 : decode cX5_find 116 = .ok (.iconst (-1), 1) := by decide +kernel
theorem dX5_find_117 : decode cX5_find 117 = .ok (.if_icmp .eq 22, 3) := by decide +kernel
theorem dX5_find_120 : decode cX5_find 120 = .ok (.aload_n 0, 1) := by decide +kernel
theorem dX5_find_121 : decode cX5_find 121 = .ok (.aload_n 0, 1) := by decide +kernel
theorem dX5_find_122 : decode cX5_find 122 = .ok (.getfield 18, 3) := by decide +kernel
theorem dX5_find_125 : decode cX5_find 125 = .ok (.sipush 2000, 3) := by decide +kernel
theorem dX5_find_128 : decode cX5_find 128 = .ok (.aload_n 0, 1) := by decide +kernel
theorem dX5_find_129 : decode cX5_find 129 = .ok (.getfield 15, 3) := by decide +kernel
theorem dX5_find_132 : decode cX5_find 132 = .ok (.iconst 0, 1) := by decide +kernel
theorem dX5_find_133 : decode cX5_find 133 = .ok (.iaload, 1) := by decide +kernel
theorem dX5_find_134 : decode cX5_find 134 = .ok (.iadd, 1) := by decide +kernel
theorem dX5_find_135 : decode cX5_find 135 = .ok (.laload, 1) := by decide +kernel
theorem dX5_find_136 : decode cX5_find 136 = .ok (.putfield 25, 3) := by decide +kernel
theorem dX5_find_139 : decode cX5_find 139 = .ok (.aload_n 0, 1) := by decide +kernel
theorem dX5_find_140 : decode cX5_find 140 = .ok (.getfield 25, 3) := by decide +kernel
theorem dX5_find_143 : decode cX5_find 143 = .ok (.lconst 0, 1) := by decide +kernel
theorem dX5_find_144 : decode cX5_find 144 = .ok (.lcmp, 1) := by decide +kernel
theorem dX5_find_145 : decode cX5_find 145 = .ok (.ifCond .le 9, 3) := by decide +kernel
theorem dX5_find_148 : decode cX5_find 148 = .ok (.aload_n 0, 1) := by decide +kernel
theorem dX5_find_149 : decode cX5_find 149 = .ok (.aload_n 1, 1) := by decide +kernel
theorem dX5_find_150 : decode cX5_find 150 = .ok (.aload_n 2, 1) := by decide +kernel
theorem dX5_find_151 : decode cX5_find 151 = .ok (.invokevirtual 50, 3) := by decide +kernel
theorem dX5_find_154 : decode cX5_find 154 = .ok (.return_, 1) := by decide +kernel
theorem dX5_stopFrom_0 : decode cX5_stopFrom 0 = .ok (.iload_n 2, 1) := by decide +kernel
theorem dX5_stopFrom_1 : decode cX5_stopFrom 1 = .ok (.istore_n 3, 1) := by decide +kernel
theorem dX5_stopFrom_2 : decode cX5_stopFrom 2 = .ok (.iconst 0, 1) := by decide +kernel
theorem dX5_stopFrom_3 : decode cX5_stopFrom 3 = .ok (.istore 4, 2) := by decide +kernel
theorem dX5_stopFrom_5 : decode cX5_stopFrom 5 = .ok (.iload 4, 2) := by decide +kernel
theorem dX5_stopFrom_7 : decode cX5_stopFrom 7 = .ok (.sipush 200, 3) := by decide +kernel
theorem dX5_stopFrom_10 : decode cX5_stopFrom 10 = .ok (.if_icmp .gt 50, 3) := by decide +kernel
theorem dX5_stopFrom_13 : decode cX5_stopFrom 13 = .ok (.aload_n 0, 1) := by decide +kernel
theorem dX5_stopFrom_14 : decode cX5_stopFrom 14 = .ok (.iload_n 3, 1) := by decide +kernel
theorem dX5_stopFrom_15 : decode cX5_stopFrom 15 = .ok (.invokevirtual 54, 3) := by decide +kernel
theorem dX5_stopFrom_18 : decode cX5_stopFrom 18 = .ok (.ifCond .ne 12, 3) := by decide +kernel
theorem dX5_stopFrom_21 : decode cX5_stopFrom 21 = .ok (.aload_n 0, 1) := by decide +kernel
theorem dX5_stopFrom_22 : decode cX5_stopFrom 22 = .ok (.aload_n 1, 1) := by decide +kernel
theorem dX5_stopFrom_23 : decode cX5_stopFrom 23 = .ok (.iload_n 3, 1) := by decide +kernel
theorem dX5_stopFrom_24 : decode cX5_stopFrom 24 = .ok (.invokestatic 58, 3) := by decide +kernel
theorem dX5_stopFrom_27 : decode cX5_stopFrom 27 = .ok (.ifCond .eq 5, 3) := by decide +kernel
theorem dX5_stopFrom_30 : decode cX5_stopFrom 30 = .ok (.iload_n 3, 1) := by decide +kernel
theorem dX5_stopFrom_31 : decode cX5_stopFrom 31 = .ok (.ireturn, 1) := by decide +kernel
theorem dX5_stopFrom_32 : decode cX5_stopFrom 32 = .ok (.aload_n 0, 1) := by decide +kernel
theorem dX5_stopFrom_33 : decode cX5_stopFrom 33 = .ok (.iload_n 3, 1) := by decide +kernel
theorem dX5_stopFrom_34 : decode cX5_stopFrom 34 = .ok (.invokevirtual 62, 3) := by decide +kernel
theorem dX5_stopFrom_37 : decode cX5_stopFrom 37 = .ok (.ifCond .ne 5, 3) := by decide +kernel
theorem dX5_stopFrom_40 : decode cX5_stopFrom 40 = .ok (.iconst (-1), 1) := by decide +kernel
theorem dX5_stopFrom_41 : decode cX5_stopFrom 41 = .ok (.ireturn, 1) := by decide +kernel
theorem dX5_stopFrom_42 : decode cX5_stopFrom 42 = .ok (.aload_n 0, 1) := by decide +kernel
theorem dX5_stopFrom_43 : decode cX5_stopFrom 43 = .ok (.getfield 66, 3) := by decide +kernel
theorem dX5_stopFrom_46 : decode cX5_stopFrom 46 = .ok (.aload_n 0, 1) := by decide +kernel
theorem dX5_stopFrom_47 : decode cX5_stopFrom 47 = .ok (.getfield 69, 3) := by decide +kernel
theorem dX5_stopFrom_50 : decode cX5_stopFrom 50 = .ok (.iload_n 3, 1) := by decide +kernel
theorem dX5_stopFrom_51 : decode cX5_stopFrom 51 = .ok (.iaload, 1) := by decide +kernel
theorem dX5_stopFrom_52 : decode cX5_stopFrom 52 = .ok (.iaload, 1) := by decide +kernel
theorem dX5_stopFrom_53 : decode cX5_stopFrom 53 = .ok (.istore_n 3, 1) := by decide +kernel
theorem dX5_stopFrom_54 : decode cX5_stopFrom 54 = .ok (.iinc 4 1, 3) := by decide +kernel
theorem dX5_stopFrom_57 : decode cX5_stopFrom 57 = .ok (.goto (-52), 3) := by decide +kernel
theorem dX5_stopFrom_60 : decode cX5_stopFrom 60 = .ok (.iconst (-1), 1) := by decide +kernel
theorem dX5_stopFrom_61 : decode cX5_stopFrom 61 = .ok (.ireturn, 1) := by decide +kernel
theorem dX5_isDrawn_0 : decode cX5_isDrawn 0 = .ok (.aload_n 0, 1) := by decide +kernel
theorem dX5_isDrawn_1 : decode cX5_isDrawn 1 = .ok (.getfield 72, 3) := by decide +kernel
theorem dX5_isDrawn_4 : decode cX5_isDrawn 4 = .ok (.iload_n 2, 1) := by decide +kernel
theorem dX5_isDrawn_5 : decode cX5_isDrawn 5 = .ok (.iaload, 1) := by decide +kernel
theorem dX5_isDrawn_6 : decode cX5_isDrawn 6 = .ok (.istore_n 3, 1) := by decide +kernel
theorem dX5_isDrawn_7 : decode cX5_isDrawn 7 = .ok (.iload_n 3, 1) := by decide +kernel
theorem dX5_isDrawn_8 : decode cX5_isDrawn 8 = .ok (.aload_n 1, 1) := by decide +kernel
theorem dX5_isDrawn_9 : decode cX5_isDrawn 9 = .ok (.getfield 75, 3) := by decide +kernel
theorem dX5_isDrawn_12 : decode cX5_isDrawn 12 = .ok (.if_icmp .ge 27, 3) := by decide +kernel
theorem dX5_isDrawn_15 : decode cX5_isDrawn 15 = .ok (.aload_n 1, 1) := by decide +kernel
theorem dX5_isDrawn_16 : decode cX5_isDrawn 16 = .ok (.getfield 78, 3) := by decide +kernel
theorem dX5_isDrawn_19 : decode cX5_isDrawn 19 = .ok (.iload_n 3, 1) := by decide +kernel
theorem dX5_isDrawn_20 : decode cX5_isDrawn 20 = .ok (.iaload, 1) := by decide +kernel
theorem dX5_isDrawn_21 : decode cX5_isDrawn 21 = .ok (.iconst 1, 1) := by decide +kernel
theorem dX5_isDrawn_22 : decode cX5_isDrawn 22 = .ok (.if_icmp .eq 13, 3) := by decide +kernel
theorem dX5_isDrawn_25 : decode cX5_isDrawn 25 = .ok (.aload_n 1, 1) := by decide +kernel
theorem dX5_isDrawn_26 : decode cX5_isDrawn 26 = .ok (.getfield 78, 3) := by decide +kernel
theorem dX5_isDrawn_29 : decode cX5_isDrawn 29 = .ok (.iload_n 3, 1) := by decide +kernel
theorem dX5_isDrawn_30 : decode cX5_isDrawn 30 = .ok (.iaload, 1) := by decide +kernel
theorem dX5_isDrawn_31 : decode cX5_isDrawn 31 = .ok (.iconst 2, 1) := by decide +kernel
theorem dX5_isDrawn_32 : decode cX5_isDrawn 32 = .ok (.if_icmp .ne 7, 3) := by decide +kernel
theorem dX5_isDrawn_35 : decode cX5_isDrawn 35 = .ok (.iconst 1, 1) := by decide +kernel
theorem dX5_isDrawn_36 : decode cX5_isDrawn 36 = .ok (.goto 4, 3) := by decide +kernel
theorem dX5_isDrawn_39 : decode cX5_isDrawn 39 = .ok (.iconst 0, 1) := by decide +kernel
theorem dX5_isDrawn_40 : decode cX5_isDrawn 40 = .ok (.ireturn, 1) := by decide +kernel
theorem dX5_weigh_0 : decode cX5_weigh 0 = .ok (.iload_n 3, 1) := by decide +kernel
theorem dX5_weigh_1 : decode cX5_weigh 1 = .ok (.sipush 200, 3) := by decide +kernel
theorem dX5_weigh_4 : decode cX5_weigh 4 = .ok (.imul, 1) := by decide +kernel
theorem dX5_weigh_5 : decode cX5_weigh 5 = .ok (.iload_n 2, 1) := by decide +kernel
theorem dX5_weigh_6 : decode cX5_weigh 6 = .ok (.iadd, 1) := by decide +kernel
theorem dX5_weigh_7 : decode cX5_weigh 7 = .ok (.istore 6, 2) := by decide +kernel
theorem dX5_weigh_9 : decode cX5_weigh 9 = .ok (.aload_n 0, 1) := by decide +kernel
theorem dX5_weigh_10 : decode cX5_weigh 10 = .ok (.getfield 18, 3) := by decide +kernel
theorem dX5_weigh_13 : decode cX5_weigh 13 = .ok (.iload 6, 2) := by decide +kernel
theorem dX5_weigh_15 : decode cX5_weigh 15 = .ok (.aload_n 1, 1) := by decide +kernel
theorem dX5_weigh_16 : decode cX5_weigh 16 = .ok (.iload_n 2, 1) := by decide +kernel
theorem dX5_weigh_17 : decode cX5_weigh 17 = .ok (.invokevirtual 54, 3) := by decide +kernel
theorem dX5_weigh_20 : decode cX5_weigh 20 = .ok (.ifCond .eq 8, 3) := by decide +kernel
theorem dX5_weigh_23 : decode cX5_weigh 23 = .ok (.lload 4, 2) := by decide +kernel
theorem dX5_weigh_25 : decode cX5_weigh 25 = .ok (.goto 4, 3) := by decide +kernel
theorem dX5_weigh_28 : decode cX5_weigh 28 = .ok (.lconst 0, 1) := by decide +kernel
theorem dX5_weigh_29 : decode cX5_weigh 29 = .ok (.lastore, 1) := by decide +kernel
theorem dX5_weigh_30 : decode cX5_weigh 30 = .ok (.aload_n 0, 1) := by decide +kernel
theorem dX5_weigh_31 : decode cX5_weigh 31 = .ok (.getfield 22, 3) := by decide +kernel
theorem dX5_weigh_34 : decode cX5_weigh 34 = .ok (.iload 6, 2) := by decide +kernel
theorem dX5_weigh_36 : decode cX5_weigh 36 = .ok (.iconst 0, 1) := by decide +kernel
theorem dX5_weigh_37 : decode cX5_weigh 37 = .ok (.iastore, 1) := by decide +kernel
theorem dX5_weigh_38 : decode cX5_weigh 38 = .ok (.aload_n 0, 1) := by decide +kernel
theorem dX5_weigh_39 : decode cX5_weigh 39 = .ok (.getfield 15, 3) := by decide +kernel
theorem dX5_weigh_42 : decode cX5_weigh 42 = .ok (.iload_n 2, 1) := by decide +kernel
theorem dX5_weigh_43 : decode cX5_weigh 43 = .ok (.iaload, 1) := by decide +kernel
theorem dX5_weigh_44 : decode cX5_weigh 44 = .ok (.iload_n 2, 1) := by decide +kernel
theorem dX5_weigh_45 : decode cX5_weigh 45 = .ok (.if_icmp .ne 7, 3) := by decide +kernel
theorem dX5_weigh_48 : decode cX5_weigh 48 = .ok (.iload_n 3, 1) := by decide +kernel
theorem dX5_weigh_49 : decode cX5_weigh 49 = .ok (.ifCond .ne 4, 3) := by decide +kernel
theorem dX5_weigh_52 : decode cX5_weigh 52 = .ok (.return_, 1) := by decide +kernel
theorem dX5_weigh_53 : decode cX5_weigh 53 = .ok (.aload_n 1, 1) := by decide +kernel
theorem dX5_weigh_54 : decode cX5_weigh 54 = .ok (.getfield 69, 3) := by decide +kernel
theorem dX5_weigh_57 : decode cX5_weigh 57 = .ok (.iload_n 2, 1) := by decide +kernel
theorem dX5_weigh_58 : decode cX5_weigh 58 = .ok (.iaload, 1) := by decide +kernel
theorem dX5_weigh_59 : decode cX5_weigh 59 = .ok (.istore 7, 2) := by decide +kernel
theorem dX5_weigh_61 : decode cX5_weigh 61 = .ok (.iload 7, 2) := by decide +kernel
theorem dX5_weigh_63 : decode cX5_weigh 63 = .ok (.aload_n 1, 1) := by decide +kernel
theorem dX5_weigh_64 : decode cX5_weigh 64 = .ok (.getfield 69, 3) := by decide +kernel
theorem dX5_weigh_67 : decode cX5_weigh 67 = .ok (.iload_n 2, 1) := by decide +kernel
theorem dX5_weigh_68 : decode cX5_weigh 68 = .ok (.iconst 1, 1) := by decide +kernel
theorem dX5_weigh_69 : decode cX5_weigh 69 = .ok (.iadd, 1) := by decide +kernel
theorem dX5_weigh_70 : decode cX5_weigh 70 = .ok (.iaload, 1) := by decide +kernel
theorem dX5_weigh_71 : decode cX5_weigh 71 = .ok (.if_icmp .ge 134, 3) := by decide +kernel
theorem dX5_weigh_74 : decode cX5_weigh 74 = .ok (.aload_n 0, 1) := by decide +kernel
theorem dX5_weigh_75 : decode cX5_weigh 75 = .ok (.getfield 15, 3) := by decide +kernel
theorem dX5_weigh_78 : decode cX5_weigh 78 = .ok (.aload_n 1, 1) := by decide +kernel
theorem dX5_weigh_79 : decode cX5_weigh 79 = .ok (.getfield 66, 3) := by decide +kernel
theorem dX5_weigh_82 : decode cX5_weigh 82 = .ok (.iload 7, 2) := by decide +kernel
theorem dX5_weigh_84 : decode cX5_weigh 84 = .ok (.iaload, 1) := by decide +kernel
theorem dX5_weigh_85 : decode cX5_weigh 85 = .ok (.iaload, 1) := by decide +kernel
theorem dX5_weigh_86 : decode cX5_weigh 86 = .ok (.istore 8, 2) := by decide +kernel
theorem dX5_weigh_88 : decode cX5_weigh 88 = .ok (.iload 8, 2) := by decide +kernel
theorem dX5_weigh_90 : decode cX5_weigh 90 = .ok (.iconst (-1), 1) := by decide +kernel
theorem dX5_weigh_91 : decode cX5_weigh 91 = .ok (.if_icmp .eq 108, 3) := by decide +kernel
theorem dX5_weigh_94 : decode cX5_weigh 94 = .ok (.iload 6, 2) := by decide +kernel
theorem dX5_weigh_96 : decode cX5_weigh 96 = .ok (.sipush 200, 3) := by decide +kernel
theorem dX5_weigh_99 : decode cX5_weigh 99 = .ok (.isub, 1) := by decide +kernel
theorem dX5_weigh_100 : decode cX5_weigh 100 = .ok (.iload_n 2, 1) := by decide +kernel
theorem dX5_weigh_101 : decode cX5_weigh 101 = .ok (.isub, 1) := by decide +kernel
theorem dX5_weigh_102 : decode cX5_weigh 102 = .ok (.iload 8, 2) := by decide +kernel
theorem dX5_weigh_104 : decode cX5_weigh 104 = .ok (.iadd, 1) := by decide +kernel
theorem dX5_weigh_105 : decode cX5_weigh 105 = .ok (.istore 9, 2) := by decide +kernel
theorem dX5_weigh_107 : decode cX5_weigh 107 = .ok (.aload_n 1, 1) := by decide +kernel
theorem dX5_weigh_108 : decode cX5_weigh 108 = .ok (.getfield 81, 3) := by decide +kernel
theorem dX5_weigh_111 : decode cX5_weigh 111 = .ok (.iload 7, 2) := by decide +kernel
theorem dX5_weigh_113 : decode cX5_weigh 113 = .ok (.iaload, 1) := by decide +kernel
theorem dX5_weigh_114 : decode cX5_weigh 114 = .ok (.i2l, 1) := by decide +kernel
theorem dX5_weigh_115 : decode cX5_weigh 115 = .ok (.aload_n 0, 1) := by decide +kernel
theorem dX5_weigh_116 : decode cX5_weigh 116 = .ok (.getfield 18, 3) := by decide +kernel
theorem dX5_weigh_119 : decode cX5_weigh 119 = .ok (.iload 9, 2) := by decide +kernel
theorem dX5_weigh_121 : decode cX5_weigh 121 = .ok (.laload, 1) := by decide +kernel
theorem dX5_weigh_122 : decode cX5_weigh 122 = .ok (.lmul, 1) := by decide +kernel
theorem dX5_weigh_123 : decode cX5_weigh 123 = .ok (.lstore 10, 2) := by decide +kernel
theorem dX5_weigh_125 : decode cX5_weigh 125 = .ok (.aload_n 0, 1) := by decide +kernel
theorem dX5_weigh_126 : decode cX5_weigh 126 = .ok (.getfield 22, 3) := by decide +kernel
theorem dX5_weigh_129 : decode cX5_weigh 129 = .ok (.iload 9, 2) := by decide +kernel
theorem dX5_weigh_131 : decode cX5_weigh 131 = .ok (.iaload, 1) := by decide +kernel
theorem dX5_weigh_132 : decode cX5_weigh 132 = .ok (.iconst 1, 1) := by decide +kernel
theorem dX5_weigh_133 : decode cX5_weigh 133 = .ok (.iadd, 1) := by decide +kernel
theorem dX5_weigh_134 : decode cX5_weigh 134 = .ok (.istore 12, 2) := by decide +kernel
theorem dX5_weigh_136 : decode cX5_weigh 136 = .ok (.lload 10, 2) := by decide +kernel
theorem dX5_weigh_138 : decode cX5_weigh 138 = .ok (.aload_n 0, 1) := by decide +kernel
theorem dX5_weigh_139 : decode cX5_weigh 139 = .ok (.getfield 18, 3) := by decide +kernel
theorem dX5_weigh_142 : decode cX5_weigh 142 = .ok (.iload 6, 2) := by decide +kernel
theorem dX5_weigh_144 : decode cX5_weigh 144 = .ok (.laload, 1) := by decide +kernel
theorem dX5_weigh_145 : decode cX5_weigh 145 = .ok (.lcmp, 1) := by decide +kernel
theorem dX5_weigh_146 : decode cX5_weigh 146 = .ok (.ifCond .gt 35, 3) := by decide +kernel
theorem dX5_weigh_149 : decode cX5_weigh 149 = .ok (.lload 10, 2) := by decide +kernel
theorem dX5_weigh_151 : decode cX5_weigh 151 = .ok (.lconst 0, 1) := by decide +kernel
theorem dX5_weigh_152 : decode cX5_weigh 152 = .ok (.lcmp, 1) := by decide +kernel
theorem dX5_weigh_153 : decode cX5_weigh 153 = .ok (.ifCond .le 46, 3) := by decide +kernel
theorem dX5_weigh_156 : decode cX5_weigh 156 = .ok (.lload 10, 2) := by decide +kernel
theorem dX5_weigh_158 : decode cX5_weigh 158 = .ok (.aload_n 0, 1) := by decide +kernel
theorem dX5_weigh_159 : decode cX5_weigh 159 = .ok (.getfield 18, 3) := by decide +kernel
theorem dX5_weigh_162 : decode cX5_weigh 162 = .ok (.iload 6, 2) := by decide +kernel
theorem dX5_weigh_164 : decode cX5_weigh 164 = .ok (.laload, 1) := by decide +kernel
theorem dX5_weigh_165 : decode cX5_weigh 165 = .ok (.lcmp, 1) := by decide +kernel
theorem dX5_weigh_166 : decode cX5_weigh 166 = .ok (.ifCond .ne 33, 3) := by decide +kernel
theorem dX5_weigh_169 : decode cX5_weigh 169 = .ok (.iload 12, 2) := by decide +kernel
theorem dX5_weigh_171 : decode cX5_weigh 171 = .ok (.aload_n 0, 1) := by decide +kernel
theorem dX5_weigh_172 : decode cX5_weigh 172 = .ok (.getfield 22, 3) := by decide +kernel
theorem dX5_weigh_175 : decode cX5_weigh 175 = .ok (.iload 6, 2) := by decide +kernel
theorem dX5_weigh_177 : decode cX5_weigh 177 = .ok (.iaload, 1) := by decide +kernel
theorem dX5_weigh_178 : decode cX5_weigh 178 = .ok (.if_icmp .ge 21, 3) := by decide +kernel
theorem dX5_weigh_181 : decode cX5_weigh 181 = .ok (.aload_n 0, 1) := by decide +kernel
theorem dX5_weigh_182 : decode cX5_weigh 182 = .ok (.getfield 18, 3) := by decide +kernel
theorem dX5_weigh_185 : decode cX5_weigh 185 = .ok (.iload 6, 2) := by decide +kernel
theorem dX5_weigh_187 : decode cX5_weigh 187 = .ok (.lload 10, 2) := by decide +kernel
theorem dX5_weigh_189 : decode cX5_weigh 189 = .ok (.lastore, 1) := by decide +kernel
theorem dX5_weigh_190 : decode cX5_weigh 190 = .ok (.aload_n 0, 1) := by decide +kernel
theorem dX5_weigh_191 : decode cX5_weigh 191 = .ok (.getfield 22, 3) := by decide +kernel
theorem dX5_weigh_194 : decode cX5_weigh 194 = .ok (.iload 6, 2) := by decide +kernel
theorem dX5_weigh_196 : decode cX5_weigh 196 = .ok (.iload 12, 2) := by decide +kernel
theorem dX5_weigh_198 : decode cX5_weigh 198 = .ok (.iastore, 1) := by decide +kernel
theorem dX5_weigh_199 : decode cX5_weigh 199 = .ok (.iinc 7 1, 3) := by decide +kernel
theorem dX5_weigh_202 : decode cX5_weigh 202 = .ok (.goto (-141), 3) := by decide +kernel
theorem dX5_weigh_205 : decode cX5_weigh 205 = .ok (.return_, 1) := by decide +kernel
theorem dX5_trace_0 : decode cX5_trace 0 = .ok (.aload_n 0, 1) := by decide +kernel
theorem dX5_trace_1 : decode cX5_trace 1 = .ok (.getfield 15, 3) := by decide +kernel
theorem dX5_trace_4 : decode cX5_trace 4 = .ok (.iconst 0, 1) := by decide +kernel
theorem dX5_trace_5 : decode cX5_trace 5 = .ok (.iaload, 1) := by decide +kernel
theorem dX5_trace_6 : decode cX5_trace 6 = .ok (.istore_n 3, 1) := by decide +kernel
theorem dX5_trace_7 : decode cX5_trace 7 = .ok (.bipush 10, 2) := by decide +kernel
theorem dX5_trace_9 : decode cX5_trace 9 = .ok (.istore 4, 2) := by decide +kernel
theorem dX5_trace_11 : decode cX5_trace 11 = .ok (.iload 4, 2) := by decide +kernel
theorem dX5_trace_13 : decode cX5_trace 13 = .ok (.ifCond .le 200, 3) := by decide +kernel
theorem dX5_trace_16 : decode cX5_trace 16 = .ok (.aload_n 1, 1) := by decide +kernel
theorem dX5_trace_17 : decode cX5_trace 17 = .ok (.iload_n 3, 1) := by decide +kernel
theorem dX5_trace_18 : decode cX5_trace 18 = .ok (.invokevirtual 54, 3) := by decide +kernel
theorem dX5_trace_21 : decode cX5_trace 21 = .ok (.ifCond .ne 192, 3) := by decide +kernel
theorem dX5_trace_24 : decode cX5_trace 24 = .ok (.iload 4, 2) := by decide +kernel
theorem dX5_trace_26 : decode cX5_trace 26 = .ok (.sipush 200, 3) := by decide +kernel
theorem dX5_trace_29 : decode cX5_trace 29 = .ok (.imul, 1) := by decide +kernel
theorem dX5_trace_30 : decode cX5_trace 30 = .ok (.iload_n 3, 1) := by decide +kernel
theorem dX5_trace_31 : decode cX5_trace 31 = .ok (.iadd, 1) := by decide +kernel
theorem dX5_trace_32 : decode cX5_trace 32 = .ok (.istore 5, 2) := by decide +kernel
theorem dX5_trace_34 : decode cX5_trace 34 = .ok (.iconst (-1), 1) := by decide +kernel
theorem dX5_trace_35 : decode cX5_trace 35 = .ok (.istore 6, 2) := by decide +kernel
theorem dX5_trace_37 : decode cX5_trace 37 = .ok (.aload_n 1, 1) := by decide +kernel
theorem dX5_trace_38 : decode cX5_trace 38 = .ok (.getfield 69, 3) := by decide +kernel
theorem dX5_trace_41 : decode cX5_trace 41 = .ok (.iload_n 3, 1) := by decide +kernel
theorem dX5_trace_42 : decode cX5_trace 42 = .ok (.iaload, 1) := by decide +kernel
theorem dX5_trace_43 : decode cX5_trace 43 = .ok (.istore 7, 2) := by decide +kernel
theorem dX5_trace_45 : decode cX5_trace 45 = .ok (.iload 7, 2) := by decide +kernel
theorem dX5_trace_47 : decode cX5_trace 47 = .ok (.aload_n 1, 1) := by decide +kernel
theorem dX5_trace_48 : decode cX5_trace 48 = .ok (.getfield 69, 3) := by decide +kernel
theorem dX5_trace_51 : decode cX5_trace 51 = .ok (.iload_n 3, 1) := by decide +kernel
theorem dX5_trace_52 : decode cX5_trace 52 = .ok (.iconst 1, 1) := by decide +kernel
theorem dX5_trace_53 : decode cX5_trace 53 = .ok (.iadd, 1) := by decide +kernel
theorem dX5_trace_54 : decode cX5_trace 54 = .ok (.iaload, 1) := by decide +kernel
theorem dX5_trace_55 : decode cX5_trace 55 = .ok (.if_icmp .ge 98, 3) := by decide +kernel
theorem dX5_trace_58 : decode cX5_trace 58 = .ok (.iload 6, 2) := by decide +kernel
theorem dX5_trace_60 : decode cX5_trace 60 = .ok (.iconst (-1), 1) := by decide +kernel
theorem dX5_trace_61 : decode cX5_trace 61 = .ok (.if_icmp .ne 92, 3) := by decide +kernel
theorem dX5_trace_64 : decode cX5_trace 64 = .ok (.aload_n 0, 1) := by decide +kernel
theorem dX5_trace_65 : decode cX5_trace 65 = .ok (.getfield 15, 3) := by decide +kernel
theorem dX5_trace_68 : decode cX5_trace 68 = .ok (.aload_n 1, 1) := by decide +kernel
theorem dX5_trace_69 : decode cX5_trace 69 = .ok (.getfield 66, 3) := by decide +kernel
theorem dX5_trace_72 : decode cX5_trace 72 = .ok (.iload 7, 2) := by decide +kernel
theorem dX5_trace_74 : decode cX5_trace 74 = .ok (.iaload, 1) := by decide +kernel
theorem dX5_trace_75 : decode cX5_trace 75 = .ok (.iaload, 1) := by decide +kernel
theorem dX5_trace_76 : decode cX5_trace 76 = .ok (.istore 8, 2) := by decide +kernel
theorem dX5_trace_78 : decode cX5_trace 78 = .ok (.iload 5, 2) := by decide +kernel
theorem dX5_trace_80 : decode cX5_trace 80 = .ok (.sipush 200, 3) := by decide +kernel
theorem dX5_trace_83 : decode cX5_trace 83 = .ok (.isub, 1) := by decide +kernel
theorem dX5_trace_84 : decode cX5_trace 84 = .ok (.iload_n 3, 1) := by decide +kernel
theorem dX5_trace_85 : decode cX5_trace 85 = .ok (.isub, 1) := by decide +kernel
theorem dX5_trace_86 : decode cX5_trace 86 = .ok (.iload 8, 2) := by decide +kernel
theorem dX5_trace_88 : decode cX5_trace 88 = .ok (.iadd, 1) := by decide +kernel
theorem dX5_trace_89 : decode cX5_trace 89 = .ok (.istore 9, 2) := by decide +kernel
theorem dX5_trace_91 : decode cX5_trace 91 = .ok (.iload 8, 2) := by decide +kernel
theorem dX5_trace_93 : decode cX5_trace 93 = .ok (.iconst (-1), 1) := by decide +kernel
theorem dX5_trace_94 : decode cX5_trace 94 = .ok (.if_icmp .eq 53, 3) := by decide +kernel
theorem dX5_trace_97 : decode cX5_trace 97 = .ok (.aload_n 1, 1) := by decide +kernel
theorem dX5_trace_98 : decode cX5_trace 98 = .ok (.getfield 81, 3) := by decide +kernel
theorem dX5_trace_101 : decode cX5_trace 101 = .ok (.iload 7, 2) := by decide +kernel
theorem dX5_trace_103 : decode cX5_trace 103 = .ok (.iaload, 1) := by decide +kernel
theorem dX5_trace_104 : decode cX5_trace 104 = .ok (.i2l, 1) := by decide +kernel
theorem dX5_trace_105 : decode cX5_trace 105 = .ok (.aload_n 0, 1) := by decide +kernel
theorem dX5_trace_106 : decode cX5_trace 106 = .ok (.getfield 18, 3) := by decide +kernel
theorem dX5_trace_109 : decode cX5_trace 109 = .ok (.iload 9, 2) := by decide +kernel
theorem dX5_trace_111 : decode cX5_trace 111 = .ok (.laload, 1) := by decide +kernel
theorem dX5_trace_112 : decode cX5_trace 112 = .ok (.lmul, 1) := by decide +kernel
theorem dX5_trace_113 : decode cX5_trace 113 = .ok (.aload_n 0, 1) := by decide +kernel
theorem dX5_trace_114 : decode cX5_trace 114 = .ok (.getfield 18, 3) := by decide +kernel
theorem dX5_trace_117 : decode cX5_trace 117 = .ok (.iload 5, 2) := by decide +kernel
theorem dX5_trace_119 : decode cX5_trace 119 = .ok (.laload, 1) := by decide +kernel
theorem dX5_trace_120 : decode cX5_trace 120 = .ok (.lcmp, 1) := by decide +kernel
theorem dX5_trace_121 : decode cX5_trace 121 = .ok (.ifCond .ne 26, 3) := by decide +kernel
theorem dX5_trace_124 : decode cX5_trace 124 = .ok (.aload_n 0, 1) := by decide +kernel
theorem dX5_trace_125 : decode cX5_trace 125 = .ok (.getfield 22, 3) := by decide +kernel
theorem dX5_trace_128 : decode cX5_trace 128 = .ok (.iload 9, 2) := by decide +kernel
theorem dX5_trace_130 : decode cX5_trace 130 = .ok (.iaload, 1) := by decide +kernel
theorem dX5_trace_131 : decode cX5_trace 131 = .ok (.iconst 1, 1) := by decide +kernel
theorem dX5_trace_132 : decode cX5_trace 132 = .ok (.iadd, 1) := by decide +kernel
theorem dX5_trace_133 : decode cX5_trace 133 = .ok (.aload_n 0, 1) := by decide +kernel
theorem dX5_trace_134 : decode cX5_trace 134 = .ok (.getfield 22, 3) := by decide +kernel
theorem dX5_trace_137 : decode cX5_trace 137 = .ok (.iload 5, 2) := by decide +kernel
theorem dX5_trace_139 : decode cX5_trace 139 = .ok (.iaload, 1) := by decide +kernel
theorem dX5_trace_140 : decode cX5_trace 140 = .ok (.if_icmp .ne 7, 3) := by decide +kernel
theorem dX5_trace_143 : decode cX5_trace 143 = .ok (.iload 7, 2) := by decide +kernel
theorem dX5_trace_145 : decode cX5_trace 145 = .ok (.istore 6, 2) := by decide +kernel
theorem dX5_trace_147 : decode cX5_trace 147 = .ok (.iinc 7 1, 3) := by decide +kernel
theorem dX5_trace_150 : decode cX5_trace 150 = .ok (.goto (-105), 3) := by decide +kernel
theorem dX5_trace_153 : decode cX5_trace 153 = .ok (.iload 6, 2) := by decide +kernel
theorem dX5_trace_155 : decode cX5_trace 155 = .ok (.iconst (-1), 1) := by decide +kernel
theorem dX5_trace_156 : decode cX5_trace 156 = .ok (.if_icmp .ne 4, 3) := by decide +kernel
theorem dX5_trace_159 : decode cX5_trace 159 = .ok (.return_, 1) := by decide +kernel
theorem dX5_trace_160 : decode cX5_trace 160 = .ok (.aload_n 0, 1) := by decide +kernel
theorem dX5_trace_161 : decode cX5_trace 161 = .ok (.getfield 9, 3) := by decide +kernel
theorem dX5_trace_164 : decode cX5_trace 164 = .ok (.aload_n 0, 1) := by decide +kernel
theorem dX5_trace_165 : decode cX5_trace 165 = .ok (.getfield 36, 3) := by decide +kernel
theorem dX5_trace_168 : decode cX5_trace 168 = .ok (.aload_n 1, 1) := by decide +kernel
theorem dX5_trace_169 : decode cX5_trace 169 = .ok (.aload_n 2, 1) := by decide +kernel
theorem dX5_trace_170 : decode cX5_trace 170 = .ok (.iload_n 3, 1) := by decide +kernel
theorem dX5_trace_171 : decode cX5_trace 171 = .ok (.iload 6, 2) := by decide +kernel
theorem dX5_trace_173 : decode cX5_trace 173 = .ok (.aload_n 1, 1) := by decide +kernel
theorem dX5_trace_174 : decode cX5_trace 174 = .ok (.getfield 69, 3) := by decide +kernel
theorem dX5_trace_177 : decode cX5_trace 177 = .ok (.iload_n 3, 1) := by decide +kernel
theorem dX5_trace_178 : decode cX5_trace 178 = .ok (.iaload, 1) := by decide +kernel
theorem dX5_trace_179 : decode cX5_trace 179 = .ok (.isub, 1) := by decide +kernel
theorem dX5_trace_180 : decode cX5_trace 180 = .ok (.invokestatic 84, 3) := by decide +kernel
theorem dX5_trace_183 : decode cX5_trace 183 = .ok (.iastore, 1) := by decide +kernel
theorem dX5_trace_184 : decode cX5_trace 184 = .ok (.aload_n 0, 1) := by decide +kernel
theorem dX5_trace_185 : decode cX5_trace 185 = .ok (.dup, 1) := by decide +kernel
theorem dX5_trace_186 : decode cX5_trace 186 = .ok (.getfield 36, 3) := by decide +kernel
theorem dX5_trace_189 : decode cX5_trace 189 = .ok (.iconst 1, 1) := by decide +kernel
theorem dX5_trace_190 : decode cX5_trace 190 = .ok (.iadd, 1) := by decide +kernel
theorem dX5_trace_191 : decode cX5_trace 191 = .ok (.putfield 36, 3) := by decide +kernel
theorem dX5_trace_194 : decode cX5_trace 194 = .ok (.aload_n 0, 1) := by decide +kernel
theorem dX5_trace_195 : decode cX5_trace 195 = .ok (.getfield 15, 3) := by decide +kernel
theorem dX5_trace_198 : decode cX5_trace 198 = .ok (.aload_n 1, 1) := by decide +kernel
theorem dX5_trace_199 : decode cX5_trace 199 = .ok (.getfield 66, 3) := by decide +kernel
theorem dX5_trace_202 : decode cX5_trace 202 = .ok (.iload 6, 2) := by decide +kernel
theorem dX5_trace_204 : decode cX5_trace 204 = .ok (.iaload, 1) := by decide +kernel
theorem dX5_trace_205 : decode cX5_trace 205 = .ok (.iaload, 1) := by decide +kernel
theorem dX5_trace_206 : decode cX5_trace 206 = .ok (.istore_n 3, 1) := by decide +kernel
theorem dX5_trace_207 : decode cX5_trace 207 = .ok (.iinc 4 (-1), 3) := by decide +kernel
theorem dX5_trace_210 : decode cX5_trace 210 = .ok (.goto (-199), 3) := by decide +kernel
theorem dX5_trace_213 : decode cX5_trace 213 = .ok (.return_, 1) := by decide +kernel
theorem dX5_drawn_0 : decode cX5_drawn 0 = .ok (.aload_n 0, 1) := by decide +kernel
theorem dX5_drawn_1 : decode cX5_drawn 1 = .ok (.getfield 72, 3) := by decide +kernel
theorem dX5_drawn_4 : decode cX5_drawn 4 = .ok (.iload_n 2, 1) := by decide +kernel
theorem dX5_drawn_5 : decode cX5_drawn 5 = .ok (.iaload, 1) := by decide +kernel
theorem dX5_drawn_6 : decode cX5_drawn 6 = .ok (.istore 4, 2) := by decide +kernel
theorem dX5_drawn_8 : decode cX5_drawn 8 = .ok (.aload_n 1, 1) := by decide +kernel
theorem dX5_drawn_9 : decode cX5_drawn 9 = .ok (.getfield 78, 3) := by decide +kernel
theorem dX5_drawn_12 : decode cX5_drawn 12 = .ok (.iload 4, 2) := by decide +kernel
theorem dX5_drawn_14 : decode cX5_drawn 14 = .ok (.iaload, 1) := by decide +kernel
theorem dX5_drawn_15 : decode cX5_drawn 15 = .ok (.iconst 1, 1) := by decide +kernel
theorem dX5_drawn_16 : decode cX5_drawn 16 = .ok (.if_icmp .ne 5, 3) := by decide +kernel
theorem dX5_drawn_19 : decode cX5_drawn 19 = .ok (.iload_n 3, 1) := by decide +kernel
theorem dX5_drawn_20 : decode cX5_drawn 20 = .ok (.ireturn, 1) := by decide +kernel
theorem dX5_drawn_21 : decode cX5_drawn 21 = .ok (.iload_n 3, 1) := by decide +kernel
theorem dX5_drawn_22 : decode cX5_drawn 22 = .ok (.ifCond .ne 17, 3) := by decide +kernel
theorem dX5_drawn_25 : decode cX5_drawn 25 = .ok (.aload_n 1, 1) := by decide +kernel
theorem dX5_drawn_26 : decode cX5_drawn 26 = .ok (.getfield 88, 3) := by decide +kernel
theorem dX5_drawn_29 : decode cX5_drawn 29 = .ok (.iload 4, 2) := by decide +kernel
theorem dX5_drawn_31 : decode cX5_drawn 31 = .ok (.iaload, 1) := by decide +kernel
theorem dX5_drawn_32 : decode cX5_drawn 32 = .ok (.ifCond .le 7, 3) := by decide +kernel
theorem dX5_drawn_35 : decode cX5_drawn 35 = .ok (.iconst 1, 1) := by decide +kernel
theorem dX5_drawn_36 : decode cX5_drawn 36 = .ok (.goto 4, 3) := by decide +kernel
theorem dX5_drawn_39 : decode cX5_drawn 39 = .ok (.iconst 0, 1) := by decide +kernel
theorem dX5_drawn_40 : decode cX5_drawn 40 = .ok (.ireturn, 1) := by decide +kernel
theorem dX6_init_0 : decode cX6_init 0 = .ok (.aload_n 0, 1) := by decide +kernel
theorem dX6_init_1 : decode cX6_init 1 = .ok (.invokespecial 3, 3) := by decide +kernel
theorem dX6_init_4 : decode cX6_init 4 = .ok (.aload_n 0, 1) := by decide +kernel
theorem dX6_init_5 : decode cX6_init 5 = .ok (.bipush 6, 2) := by decide +kernel
theorem dX6_init_7 : decode cX6_init 7 = .ok (.newarray .int, 2) := by decide +kernel
theorem dX6_init_9 : decode cX6_init 9 = .ok (.putfield 9, 3) := by decide +kernel
theorem dX6_init_12 : decode cX6_init 12 = .ok (.aload_n 0, 1) := by decide +kernel
theorem dX6_init_13 : decode cX6_init 13 = .ok (.bipush 6, 2) := by decide +kernel
theorem dX6_init_15 : decode cX6_init 15 = .ok (.newarray .int, 2) := by decide +kernel
theorem dX6_init_17 : decode cX6_init 17 = .ok (.putfield 15, 3) := by decide +kernel
theorem dX6_init_20 : decode cX6_init 20 = .ok (.aload_n 0, 1) := by decide +kernel
theorem dX6_init_21 : decode cX6_init 21 = .ok (.sipush 1200, 3) := by decide +kernel
theorem dX6_init_24 : decode cX6_init 24 = .ok (.newarray .int, 2) := by decide +kernel
theorem dX6_init_26 : decode cX6_init 26 = .ok (.putfield 18, 3) := by decide +kernel
theorem dX6_init_29 : decode cX6_init 29 = .ok (.aload_n 0, 1) := by decide +kernel
theorem dX6_init_30 : decode cX6_init 30 = .ok (.sipush 200, 3) := by decide +kernel
theorem dX6_init_33 : decode cX6_init 33 = .ok (.newarray .int, 2) := by decide +kernel
theorem dX6_init_35 : decode cX6_init 35 = .ok (.putfield 21, 3) := by decide +kernel
theorem dX6_init_38 : decode cX6_init 38 = .ok (.aload_n 0, 1) := by decide +kernel
theorem dX6_init_39 : decode cX6_init 39 = .ok (.sipush 200, 3) := by decide +kernel
theorem dX6_init_42 : decode cX6_init 42 = .ok (.newarray .int, 2) := by decide +kernel
theorem dX6_init_44 : decode cX6_init 44 = .ok (.putfield 24, 3) := by decide +kernel
theorem dX6_init_47 : decode cX6_init 47 = .ok (.aload_n 0, 1) := by decide +kernel
theorem dX6_init_48 : decode cX6_init 48 = .ok (.sipush 200, 3) := by decide +kernel
theorem dX6_init_51 : decode cX6_init 51 = .ok (.newarray .int, 2) := by decide +kernel
theorem dX6_init_53 : decode cX6_init 53 = .ok (.putfield 27, 3) := by decide +kernel
theorem dX6_init_56 : decode cX6_init 56 = .ok (.aload_n 0, 1) := by decide +kernel
theorem dX6_init_57 : decode cX6_init 57 = .ok (.sipush 200, 3) := by decide +kernel
theorem dX6_init_60 : decode cX6_init 60 = .ok (.newarray .int, 2) := by decide +kernel
theorem dX6_init_62 : decode cX6_init 62 = .ok (.putfield 30, 3) := by decide +kernel
theorem dX6_init_65 : decode cX6_init 65 = .ok (.aload_n 0, 1) := by decide +kernel
theorem dX6_init_66 : decode cX6_init 66 = .ok (.sipush 200, 3) := by decide +kernel
theorem dX6_init_69 : decode cX6_init 69 = .ok (.newarray .int, 2) := by decide +kernel
theorem dX6_init_71 : decode cX6_init 71 = .ok (.putfield 33, 3) := by decide +kernel
theorem dX6_init_74 : decode cX6_init 74 = .ok (.aload_n 0, 1) := by decide +kernel
theorem dX6_init_75 : decode cX6_init 75 = .ok (.sipush 200, 3) := by decide +kernel
theorem dX6_init_78 : decode cX6_init 78 = .ok (.newarray .int, 2) := by decide +kernel
theorem dX6_init_80 : decode cX6_init 80 = .ok (.putfield 36, 3) := by decide +kernel
theorem dX6_init_83 : decode cX6_init 83 = .ok (.return_, 1) := by decide +kernel
theorem dX6_countBy_0 : decode cX6_countBy 0 = .ok (.aload_n 0, 1) := by decide +kernel
theorem dX6_countBy_1 : decode cX6_countBy 1 = .ok (.getfield 15, 3) := by decide +kernel
theorem dX6_countBy_4 : decode cX6_countBy 4 = .ok (.iload_n 1, 1) := by decide +kernel
theorem dX6_countBy_5 : decode cX6_countBy 5 = .ok (.iaload, 1) := by decide +kernel
theorem dX6_countBy_6 : decode cX6_countBy 6 = .ok (.ireturn, 1) := by decide +kernel
theorem dX6_labelBy_0 : decode cX6_labelBy 0 = .ok (.aload_n 0, 1) := by decide +kernel
theorem dX6_labelBy_1 : decode cX6_labelBy 1 = .ok (.getfield 18, 3) := by decide +kernel
theorem dX6_labelBy_4 : decode cX6_labelBy 4 = .ok (.iload_n 1, 1) := by decide +kernel
theorem dX6_labelBy_5 : decode cX6_labelBy 5 = .ok (.sipush 200, 3) := by decide +kernel
theorem dX6_labelBy_8 : decode cX6_labelBy 8 = .ok (.imul, 1) := by decide +kernel
theorem dX6_labelBy_9 : decode cX6_labelBy 9 = .ok (.iload_n 2, 1) := by decide +kernel
theorem dX6_labelBy_10 : decode cX6_labelBy 10 = .ok (.iadd, 1) := by decide +kernel
theorem dX6_labelBy_11 : decode cX6_labelBy 11 = .ok (.iaload, 1) := by decide +kernel
theorem dX6_labelBy_12 : decode cX6_labelBy 12 = .ok (.ireturn, 1) := by decide +kernel
theorem dX6_find_0 : decode cX6_find 0 = .ok (.aload_n 0, 1) := by decide +kernel
theorem dX6_find_1 : decode cX6_find 1 = .ok (.getfield 9, 3) := by decide +kernel
theorem dX6_find_4 : decode cX6_find 4 = .ok (.iload_n 2, 1) := by decide +kernel
theorem dX6_find_5 : decode cX6_find 5 = .ok (.iaload, 1) := by decide +kernel
theorem dX6_find_6 : decode cX6_find 6 = .ok (.aload_n 1, 1) := by decide +kernel
theorem dX6_find_7 : decode cX6_find 7 = .ok (.getfield 39, 3) := by decide +kernel
theorem dX6_find_10 : decode cX6_find 10 = .ok (.if_icmp .ne 4, 3) := by decide +kernel
theorem dX6_find_13 : decode cX6_find 13 = .ok (.return_, 1) := by decide +kernel
theorem dX6_find_14 : decode cX6_find 14 = .ok (.aload_n 0, 1) := by decide +kernel
theorem dX6_find_15 : decode cX6_find 15 = .ok (.getfield 9, 3) := by decide +kernel
theorem dX6_find_18 : decode cX6_find 18 = .ok (.iload_n 2, 1) := by decide +kernel
theorem dX6_find_19 : decode cX6_find 19 = .ok (.aload_n 1, 1) := by decide +kernel
theorem dX6_find_20 : decode cX6_find 20 = .ok (.getfield 39, 3) := by decide +kernel
theorem dX6_find_23 : decode cX6_find 23 = .ok (.iastore, 1) := by decide +kernel
theorem dX6_find_24 : decode cX6_find 24 = .ok (.aload_n 0, 1) := by decide +kernel
theorem dX6_find_25 : decode cX6_find 25 = .ok (.aload_n 1, 1) := by decide +kernel
theorem dX6_find_26 : decode cX6_find 26 = .ok (.iload_n 2, 1) := by decide +kernel
theorem dX6_find_27 : decode cX6_find 27 = .ok (.invokevirtual 45, 3) := by decide +kernel
theorem dX6_find_30 : decode cX6_find 30 = .ok (.istore_n 3, 1) := by decide +kernel
theorem dX6_find_31 : decode cX6_find 31 = .ok (.iconst 0, 1) := by decide +kernel
theorem dX6_find_32 : decode cX6_find 32 = .ok (.istore 4, 2) := by decide +kernel
theorem dX6_find_34 : decode cX6_find 34 = .ok (.iload 4, 2) := by decide +kernel
theorem dX6_find_36 : decode cX6_find 36 = .ok (.sipush 200, 3) := by decide +kernel
theorem dX6_find_39 : decode cX6_find 39 = .ok (.if_icmp .ge 29, 3) := by decide +kernel
theorem dX6_find_42 : decode cX6_find 42 = .ok (.aload_n 0, 1) := by decide +kernel
theorem dX6_find_43 : decode cX6_find 43 = .ok (.aload_n 1, 1) := by decide +kernel
theorem dX6_find_44 : decode cX6_find 44 = .ok (.iload_n 3, 1) := by decide +kernel
theorem dX6_find_45 : decode cX6_find 45 = .ok (.invokevirtual 49, 3) := by decide +kernel
theorem dX6_find_48 : decode cX6_find 48 = .ok (.istore 5, 2) := by decide +kernel
theorem dX6_find_50 : decode cX6_find 50 = .ok (.iload 5, 2) := by decide +kernel
theorem dX6_find_52 : decode cX6_find 52 = .ok (.iload_n 3, 1) := by decide +kernel
theorem dX6_find_53 : decode cX6_find 53 = .ok (.if_icmp .ne 6, 3) := by decide +kernel
theorem dX6_find_56 : decode cX6_find 56 = .ok (.goto 12, 3) := by decide +kernel
theorem dX6_find_59 : decode cX6_find 59 = .ok (.iload 5, 2) := by decide +kernel
theorem dX6_find_61 : decode cX6_find 61 = .ok (.istore_n 3, 1) := by decide +kernel
theorem dX6_find_62 : decode cX6_find 62 = .ok (.iinc 4 1, 3) := by decide +kernel
theorem dX6_find_65 : decode cX6_find 65 = .ok (.goto (-31), 3) := by decide +kernel
theorem dX6_find_68 : decode cX6_find 68 = .ok (.aload_n 0, 1) := by decide +kernel
theorem dX6_find_69 : decode cX6_find 69 = .ok (.getfield 15, 3) := by decide +kernel
theorem dX6_find_72 : decode cX6_find 72 = .ok (.iload_n 2, 1) := by decide +kernel
theorem dX6_find_73 : decode cX6_find 73 = .ok (.iload_n 3, 1) := by decide +kernel
theorem dX6_find_74 : decode cX6_find 74 = .ok (.iastore, 1) := by decide +kernel
theorem dX6_find_75 : decode cX6_find 75 = .ok (.aload_n 0, 1) := by decide +kernel
theorem dX6_find_76 : decode cX6_find 76 = .ok (.getfield 21, 3) := by decide +kernel
theorem dX6_find_79 : decode cX6_find 79 = .ok (.iconst 0, 1) := by decide +kernel
theorem dX6_find_80 : decode cX6_find 80 = .ok (.aload_n 0, 1) := by decide +kernel
theorem dX6_find_81 : decode cX6_find 81 = .ok (.getfield 18, 3) := by decide +kernel
theorem dX6_find_84 : decode cX6_find 84 = .ok (.iload_n 2, 1) := by decide +kernel
theorem dX6_find_85 : decode cX6_find 85 = .ok (.sipush 200, 3) := by decide +kernel
theorem dX6_find_88 : decode cX6_find 88 = .ok (.imul, 1) := by decide +kernel
theorem dX6_find_89 : decode cX6_find 89 = .ok (.aload_n 1, 1) := by decide +kernel
theorem dX6_find_90 : decode cX6_find 90 = .ok (.getfield 52, 3) := by decide +kernel
theorem dX6_find_93 : decode cX6_find 93 = .ok (.invokestatic 55, 3) := by decide +kernel
theorem dX6_find_96 : decode cX6_find 96 = .ok (.return_, 1) := by decide +kernel
theorem dX6_labelKinds_0 : decode cX6_labelKinds 0 = .ok (.aload_n 0, 1) := by decide +kernel
theorem dX6_labelKinds_1 : decode cX6_labelKinds 1 = .ok (.getfield 27, 3) := by decide +kernel
theorem dX6_labelKinds_4 : decode cX6_labelKinds 4 = .ok (.iconst 0, 1) := by decide +kernel
theorem dX6_labelKinds_5 : decode cX6_labelKinds 5 = .ok (.bipush 12, 2) := by decide +kernel
theorem dX6_labelKinds_7 : decode cX6_labelKinds 7 = .ok (.iconst (-1), 1) := by decide +kernel
theorem dX6_labelKinds_8 : decode cX6_labelKinds 8 = .ok (.invokestatic 61, 3) := by decide +kernel
theorem dX6_labelKinds_11 : decode cX6_labelKinds 11 = .ok (.iconst 0, 1) := by decide +kernel
theorem dX6_labelKinds_12 : decode cX6_labelKinds 12 = .ok (.istore_n 3, 1) := by decide +kernel
theorem dX6_labelKinds_13 : decode cX6_labelKinds 13 = .ok (.iconst 0, 1) := by decide +kernel
theorem dX6_labelKinds_14 : decode cX6_labelKinds 14 = .ok (.istore 4, 2) := by decide +kernel
theorem dX6_labelKinds_16 : decode cX6_labelKinds 16 = .ok (.iload 4, 2) := by decide +kernel
theorem dX6_labelKinds_18 : decode cX6_labelKinds 18 = .ok (.aload_n 1, 1) := by decide +kernel
theorem dX6_labelKinds_19 : decode cX6_labelKinds 19 = .ok (.getfield 52, 3) := by decide +kernel
theorem dX6_labelKinds_22 : decode cX6_labelKinds 22 = .ok (.if_icmp .ge 87, 3) := by decide +kernel
theorem dX6_labelKinds_25 : decode cX6_labelKinds 25 = .ok (.bipush 11, 2) := by decide +kernel
theorem dX6_labelKinds_27 : decode cX6_labelKinds 27 = .ok (.istore 5, 2) := by decide +kernel
theorem dX6_labelKinds_29 : decode cX6_labelKinds 29 = .ok (.aload_n 1, 1) := by decide +kernel
theorem dX6_labelKinds_30 : decode cX6_labelKinds 30 = .ok (.iload 4, 2) := by decide +kernel
theorem dX6_labelKinds_32 : decode cX6_labelKinds 32 = .ok (.invokevirtual 67, 3) := by decide +kernel
theorem dX6_labelKinds_35 : decode cX6_labelKinds 35 = .ok (.ifCond .eq 19, 3) := by decide +kernel
theorem dX6_labelKinds_38 : decode cX6_labelKinds 38 = .ok (.aload_n 1, 1) := by decide +kernel
theorem dX6_labelKinds_39 : decode cX6_labelKinds 39 = .ok (.getfield 71, 3) := by decide +kernel
theorem dX6_labelKinds_42 : decode cX6_labelKinds 42 = .ok (.iload 4, 2) := by decide +kernel
theorem dX6_labelKinds_44 : decode cX6_labelKinds 44 = .ok (.iaload, 1) := by decide +kernel
theorem dX6_labelKinds_45 : decode cX6_labelKinds 45 = .ok (.iload_n 2, 1) := by decide +kernel
theorem dX6_labelKinds_46 : decode cX6_labelKinds 46 = .ok (.invokestatic 74, 3) := by decide +kernel
theorem dX6_labelKinds_49 : decode cX6_labelKinds 49 = .ok (.istore 5, 2) := by decide +kernel
theorem dX6_labelKinds_51 : decode cX6_labelKinds 51 = .ok (.goto 16, 3) := by decide +kernel
theorem dX6_labelKinds_54 : decode cX6_labelKinds 54 = .ok (.aload_n 1, 1) := by decide +kernel
theorem dX6_labelKinds_55 : decode cX6_labelKinds 55 = .ok (.iload 4, 2) := by decide +kernel
theorem dX6_labelKinds_57 : decode cX6_labelKinds 57 = .ok (.invokevirtual 80, 3) := by decide +kernel
theorem dX6_labelKinds_60 : decode cX6_labelKinds 60 = .ok (.ifCond .eq 7, 3) := by decide +kernel
theorem dX6_labelKinds_63 : decode cX6_labelKinds 63 = .ok (.bipush 10, 2) := by decide +kernel
theorem dX6_labelKinds_65 : decode cX6_labelKinds 65 = .ok (.istore 5, 2) := by decide +kernel
theorem dX6_labelKinds_67 : decode cX6_labelKinds 67 = .ok (.aload_n 0, 1) := by decide +kernel
theorem dX6_labelKinds_68 : decode cX6_labelKinds 68 = .ok (.getfield 27, 3) := by decide +kernel
theorem dX6_labelKinds_71 : decode cX6_labelKinds 71 = .ok (.iload 5, 2) := by decide +kernel
theorem dX6_labelKinds_73 : decode cX6_labelKinds 73 = .ok (.iaload, 1) := by decide +kernel
theorem dX6_labelKinds_74 : decode cX6_labelKinds 74 = .ok (.iconst (-1), 1) := by decide +kernel
theorem dX6_labelKinds_75 : decode cX6_labelKinds 75 = .ok (.if_icmp .ne 14, 3) := by decide +kernel
theorem dX6_labelKinds_78 : decode cX6_labelKinds 78 = .ok (.aload_n 0, 1) := by decide +kernel
theorem dX6_labelKinds_79 : decode cX6_labelKinds 79 = .ok (.getfield 27, 3) := by decide +kernel
theorem dX6_labelKinds_82 : decode cX6_labelKinds 82 = .ok (.iload 5, 2) := by decide +kernel
theorem dX6_labelKinds_84 : decode cX6_labelKinds 84 = .ok (.iload_n 3, 1) := by decide +kernel
theorem dX6_labelKinds_85 : decode cX6_labelKinds 85 = .ok (.iastore, 1) := by decide +kernel
theorem dX6_labelKinds_86 : decode cX6_labelKinds 86 = .ok (.iinc 3 1, 3) := by decide +kernel
theorem dX6_labelKinds_89 : decode cX6_labelKinds 89 = .ok (.aload_n 0, 1) := by decide +kernel
theorem dX6_labelKinds_90 : decode cX6_labelKinds 90 = .ok (.getfield 21, 3) := by decide +kernel
theorem dX6_labelKinds_93 : decode cX6_labelKinds 93 = .ok (.iload 4, 2) := by decide +kernel
theorem dX6_labelKinds_95 : decode cX6_labelKinds 95 = .ok (.aload_n 0, 1) := by decide +kernel
theorem dX6_labelKinds_96 : decode cX6_labelKinds 96 = .ok (.getfield 27, 3) := by decide +kernel
theorem dX6_labelKinds_99 : decode cX6_labelKinds 99 = .ok (.iload 5, 2) := by decide +kernel
theorem dX6_labelKinds_101 : decode cX6_labelKinds 101 = .ok (.iaload, 1) := by decide +kernel
theorem dX6_labelKinds_102 : decode cX6_labelKinds 102 = .ok (.iastore, 1) := by decide +kernel
theorem dX6_labelKinds_103 : decode cX6_labelKinds 103 = .ok (.iinc 4 1, 3) := by decide +kernel
theorem dX6_labelKinds_106 : decode cX6_labelKinds 106 = .ok (.goto (-90), 3) := by decide +kernel
theorem dX6_labelKinds_109 : decode cX6_labelKinds 109 = .ok (.iload_n 3, 1) := by decide +kernel
theorem dX6_labelKinds_110 : decode cX6_labelKinds 110 = .ok (.ireturn, 1) := by decide +kernel
theorem dX6_split_0 : decode cX6_split 0 = .ok (.aload_n 0, 1) := by decide +kernel
theorem dX6_split_1 : decode cX6_split 1 = .ok (.getfield 27, 3) := by decide +kernel
theorem dX6_split_4 : decode cX6_split 4 = .ok (.iconst 0, 1) := by decide +kernel
theorem dX6_split_5 : decode cX6_split 5 = .ok (.iload_n 2, 1) := by decide +kernel
theorem dX6_split_6 : decode cX6_split 6 = .ok (.iconst (-1), 1) := by decide +kernel
theorem dX6_split_7 : decode cX6_split 7 = .ok (.invokestatic 61, 3) := by decide +kernel
theorem dX6_split_10 : decode cX6_split 10 = .ok (.iconst 0, 1) := by decide +kernel
theorem dX6_split_11 : decode cX6_split 11 = .ok (.istore_n 3, 1) := by decide +kernel
theorem dX6_split_12 : decode cX6_split 12 = .ok (.iconst 0, 1) := by decide +kernel
theorem dX6_split_13 : decode cX6_split 13 = .ok (.istore 4, 2) := by decide +kernel
theorem dX6_split_15 : decode cX6_split 15 = .ok (.iload 4, 2) := by decide +kernel
theorem dX6_split_17 : decode cX6_split 17 = .ok (.aload_n 1, 1) := by decide +kernel
theorem dX6_split_18 : decode cX6_split 18 = .ok (.getfield 52, 3) := by decide +kernel
theorem dX6_split_21 : decode cX6_split 21 = .ok (.if_icmp .ge 136, 3) := by decide +kernel
theorem dX6_split_24 : decode cX6_split 24 = .ok (.aload_n 0, 1) := by decide +kernel
theorem dX6_split_25 : decode cX6_split 25 = .ok (.getfield 27, 3) := by decide +kernel
theorem dX6_split_28 : decode cX6_split 28 = .ok (.aload_n 0, 1) := by decide +kernel
theorem dX6_split_29 : decode cX6_split 29 = .ok (.getfield 21, 3) := by decide +kernel
theorem dX6_split_32 : decode cX6_split 32 = .ok (.iload 4, 2) := by decide +kernel
theorem dX6_split_34 : decode cX6_split 34 = .ok (.iaload, 1) := by decide +kernel
theorem dX6_split_35 : decode cX6_split 35 = .ok (.iaload, 1) := by decide +kernel
theorem dX6_split_36 : decode cX6_split 36 = .ok (.istore 5, 2) := by decide +kernel
theorem dX6_split_38 : decode cX6_split 38 = .ok (.iconst 0, 1) := by decide +kernel
theorem dX6_split_39 : decode cX6_split 39 = .ok (.istore 6, 2) := by decide +kernel
theorem dX6_split_41 : decode cX6_split 41 = .ok (.iload 6, 2) := by decide +kernel
theorem dX6_split_43 : decode cX6_split 43 = .ok (.iload_n 3, 1) := by decide +kernel
theorem dX6_split_44 : decode cX6_split 44 = .ok (.if_icmp .ge 44, 3) := by decide +kernel
theorem dX6_split_47 : decode cX6_split 47 = .ok (.iload 5, 2) := by decide +kernel
theorem dX6_split_49 : decode cX6_split 49 = .ok (.iconst (-1), 1) := by decide +kernel
theorem dX6_split_50 : decode cX6_split 50 = .ok (.if_icmp .eq 38, 3) := by decide +kernel
theorem dX6_split_53 : decode cX6_split 53 = .ok (.aload_n 0, 1) := by decide +kernel
theorem dX6_split_54 : decode cX6_split 54 = .ok (.aload_n 1, 1) := by decide +kernel
theorem dX6_split_55 : decode cX6_split 55 = .ok (.iload 4, 2) := by decide +kernel
theorem dX6_split_57 : decode cX6_split 57 = .ok (.aload_n 0, 1) := by decide +kernel
theorem dX6_split_58 : decode cX6_split 58 = .ok (.getfield 33, 3) := by decide +kernel
theorem dX6_split_61 : decode cX6_split 61 = .ok (.iload 5, 2) := by decide +kernel
theorem dX6_split_63 : decode cX6_split 63 = .ok (.iaload, 1) := by decide +kernel
theorem dX6_split_64 : decode cX6_split 64 = .ok (.invokevirtual 83, 3) := by decide +kernel
theorem dX6_split_67 : decode cX6_split 67 = .ok (.ifCond .eq 6, 3) := by decide +kernel
theorem dX6_split_70 : decode cX6_split 70 = .ok (.goto 18, 3) := by decide +kernel
theorem dX6_split_73 : decode cX6_split 73 = .ok (.aload_n 0, 1) := by decide +kernel
theorem dX6_split_74 : decode cX6_split 74 = .ok (.getfield 30, 3) := by decide +kernel
theorem dX6_split_77 : decode cX6_split 77 = .ok (.iload 5, 2) := by decide +kernel
theorem dX6_split_79 : decode cX6_split 79 = .ok (.iaload, 1) := by decide +kernel
theorem dX6_split_80 : decode cX6_split 80 = .ok (.istore 5, 2) := by decide +kernel
theorem dX6_split_82 : decode cX6_split 82 = .ok (.iinc 6 1, 3) := by decide +kernel
theorem dX6_split_85 : decode cX6_split 85 = .ok (.goto (-44), 3) := by decide +kernel
theorem dX6_split_88 : decode cX6_split 88 = .ok (.iload 5, 2) := by decide +kernel
theorem dX6_split_90 : decode cX6_split 90 = .ok (.iconst (-1), 1) := by decide +kernel
theorem dX6_split_91 : decode cX6_split 91 = .ok (.if_icmp .ne 51, 3) := by decide +kernel
theorem dX6_split_94 : decode cX6_split 94 = .ok (.iload_n 3, 1) := by decide +kernel
theorem dX6_split_95 : decode cX6_split 95 = .ok (.istore 5, 2) := by decide +kernel
theorem dX6_split_97 : decode cX6_split 97 = .ok (.iinc 3 1, 3) := by decide +kernel
theorem dX6_split_100 : decode cX6_split 100 = .ok (.aload_n 0, 1) := by decide +kernel
theorem dX6_split_101 : decode cX6_split 101 = .ok (.getfield 33, 3) := by decide +kernel
theorem dX6_split_104 : decode cX6_split 104 = .ok (.iload 5, 2) := by decide +kernel
theorem dX6_split_106 : decode cX6_split 106 = .ok (.iload 4, 2) := by decide +kernel
theorem dX6_split_108 : decode cX6_split 108 = .ok (.iastore, 1) := by decide +kernel
theorem dX6_split_109 : decode cX6_split 109 = .ok (.aload_n 0, 1) := by decide +kernel
theorem dX6_split_110 : decode cX6_split 110 = .ok (.getfield 30, 3) := by decide +kernel
theorem dX6_split_113 : decode cX6_split 113 = .ok (.iload 5, 2) := by decide +kernel
theorem dX6_split_115 : decode cX6_split 115 = .ok (.aload_n 0, 1) := by decide +kernel
theorem dX6_split_116 : decode cX6_split 116 = .ok (.getfield 27, 3) := by decide +kernel
theorem dX6_split_119 : decode cX6_split 119 = .ok (.aload_n 0, 1) := by decide +kernel
theorem dX6_split_120 : decode cX6_split 120 = .ok (.getfield 21, 3) := by decide +kernel
theorem dX6_split_123 : decode cX6_split 123 = .ok (.iload 4, 2) := by decide +kernel
theorem dX6_split_125 : decode cX6_split 125 = .ok (.iaload, 1) := by decide +kernel
theorem dX6_split_126 : decode cX6_split 126 = .ok (.iaload, 1) := by decide +kernel
theorem dX6_split_127 : decode cX6_split 127 = .ok (.iastore, 1) := by decide +kernel
theorem dX6_split_128 : decode cX6_split 128 = .ok (.aload_n 0, 1) := by decide +kernel
theorem dX6_split_129 : decode cX6_split 129 = .ok (.getfield 27, 3) := by decide +kernel
theorem dX6_split_132 : decode cX6_split 132 = .ok (.aload_n 0, 1) := by decide +kernel
theorem dX6_split_133 : decode cX6_split 133 = .ok (.getfield 21, 3) := by decide +kernel
theorem dX6_split_136 : decode cX6_split 136 = .ok (.iload 4, 2) := by decide +kernel
theorem dX6_split_138 : decode cX6_split 138 = .ok (.iaload, 1) := by decide +kernel
theorem dX6_split_139 : decode cX6_split 139 = .ok (.iload 5, 2) := by decide +kernel
theorem dX6_split_141 : decode cX6_split 141 = .ok (.iastore, 1) := by decide +kernel
theorem dX6_split_142 : decode cX6_split 142 = .ok (.aload_n 0, 1) := by decide +kernel
theorem dX6_split_143 : decode cX6_split 143 = .ok (.getfield 24, 3) := by decide +kernel
theorem dX6_split_146 : decode cX6_split 146 = .ok (.iload 4, 2) := by decide +kernel
theorem dX6_split_148 : decode cX6_split 148 = .ok (.iload 5, 2) := by decide +kernel
theorem dX6_split_150 : decode cX6_split 150 = .ok (.iastore, 1) := by decide +kernel
theorem dX6_split_151 : decode cX6_split 151 = .ok (.iinc 4 1, 3) := by decide +kernel
theorem dX6_split_154 : decode cX6_split 154 = .ok (.goto (-139), 3) := by decide +kernel
theorem dX6_split_157 : decode cX6_split 157 = .ok (.aload_n 0, 1) := by decide +kernel
theorem dX6_split_158 : decode cX6_split 158 = .ok (.getfield 24, 3) := by decide +kernel
theorem dX6_split_161 : decode cX6_split 161 = .ok (.iconst 0, 1) := by decide +kernel
theorem dX6_split_162 : decode cX6_split 162 = .ok (.aload_n 0, 1) := by decide +kernel
theorem dX6_split_163 : decode cX6_split 163 = .ok (.getfield 21, 3) := by decide +kernel
theorem dX6_split_166 : decode cX6_split 166 = .ok (.iconst 0, 1) := by decide +kernel
theorem dX6_split_167 : decode cX6_split 167 = .ok (.aload_n 1, 1) := by decide +kernel
theorem dX6_split_168 : decode cX6_split 168 = .ok (.getfield 52, 3) := by decide +kernel
theorem dX6_split_171 : decode cX6_split 171 = .ok (.invokestatic 55, 3) := by decide +kernel
theorem dX6_split_174 : decode cX6_split 174 = .ok (.iload_n 3, 1) := by decide +kernel
theorem dX6_split_175 : decode cX6_split 175 = .ok (.ireturn, 1) := by decide +kernel
theorem dX6_flowAlike_0 : decode cX6_flowAlike 0 = .ok (.aload_n 0, 1) := by decide +kernel
theorem dX6_flowAlike_1 : decode cX6_flowAlike 1 = .ok (.aload_n 1, 1) := by decide +kernel
theorem dX6_flowAlike_2 : decode cX6_flowAlike 2 = .ok (.iload_n 2, 1) := by decide +kernel
theorem dX6_flowAlike_3 : decode cX6_flowAlike 3 = .ok (.iconst 1, 1) := by decide +kernel
theorem dX6_flowAlike_4 : decode cX6_flowAlike 4 = .ok (.invokevirtual 87, 3) := by decide +kernel
theorem dX6_flowAlike_7 : decode cX6_flowAlike 7 = .ok (.aload_n 0, 1) := by decide +kernel
theorem dX6_flowAlike_8 : decode cX6_flowAlike 8 = .ok (.aload_n 1, 1) := by decide +kernel
theorem dX6_flowAlike_9 : decode cX6_flowAlike 9 = .ok (.iload_n 3, 1) := by decide +kernel
theorem dX6_flowAlike_10 : decode cX6_flowAlike 10 = .ok (.iconst (-1), 1) := by decide +kernel
theorem dX6_flowAlike_11 : decode cX6_flowAlike 11 = .ok (.invokevirtual 87, 3) := by decide +kernel
theorem dX6_flowAlike_14 : decode cX6_flowAlike 14 = .ok (.iconst 1, 1) := by decide +kernel
theorem dX6_flowAlike_15 : decode cX6_flowAlike 15 = .ok (.istore 4, 2) := by decide +kernel
theorem dX6_flowAlike_17 : decode cX6_flowAlike 17 = .ok (.aload_n 1, 1) := by decide +kernel
theorem dX6_flowAlike_18 : decode cX6_flowAlike 18 = .ok (.getfield 91, 3) := by decide +kernel
theorem dX6_flowAlike_21 : decode cX6_flowAlike 21 = .ok (.iload_n 2, 1) := by decide +kernel
theorem dX6_flowAlike_22 : decode cX6_flowAlike 22 = .ok (.iaload, 1) := by decide +kernel
theorem dX6_flowAlike_23 : decode cX6_flowAlike 23 = .ok (.istore 5, 2) := by decide +kernel
theorem dX6_flowAlike_25 : decode cX6_flowAlike 25 = .ok (.iload 5, 2) := by decide +kernel
theorem dX6_flowAlike_27 : decode cX6_flowAlike 27 = .ok (.aload_n 1, 1) := by decide +kernel
theorem dX6_flowAlike_28 : decode cX6_flowAlike 28 = .ok (.getfield 91, 3) := by decide +kernel
theorem dX6_flowAlike_31 : decode cX6_flowAlike 31 = .ok (.iload_n 2, 1) := by decide +kernel
theorem dX6_flowAlike_32 : decode cX6_flowAlike 32 = .ok (.iconst 1, 1) := by decide +kernel
theorem dX6_flowAlike_33 : decode cX6_flowAlike 33 = .ok (.iadd, 1) := by decide +kernel
theorem dX6_flowAlike_34 : decode cX6_flowAlike 34 = .ok (.iaload, 1) := by decide +kernel
theorem dX6_flowAlike_35 : decode cX6_flowAlike 35 = .ok (.if_icmp .ge 59, 3) := by decide +kernel
theorem dX6_flowAlike_38 : decode cX6_flowAlike 38 = .ok (.iload 4, 2) := by decide +kernel
theorem dX6_flowAlike_40 : decode cX6_flowAlike 40 = .ok (.ifCond .eq 27, 3) := by decide +kernel
theorem dX6_flowAlike_43 : decode cX6_flowAlike 43 = .ok (.aload_n 0, 1) := by decide +kernel
theorem dX6_flowAlike_44 : decode cX6_flowAlike 44 = .ok (.getfield 36, 3) := by decide +kernel
theorem dX6_flowAlike_47 : decode cX6_flowAlike 47 = .ok (.aload_n 0, 1) := by decide +kernel
theorem dX6_flowAlike_48 : decode cX6_flowAlike 48 = .ok (.getfield 21, 3) := by decide +kernel
theorem dX6_flowAlike_51 : decode cX6_flowAlike 51 = .ok (.aload_n 1, 1) := by decide +kernel
theorem dX6_flowAlike_52 : decode cX6_flowAlike 52 = .ok (.getfield 94, 3) := by decide +kernel
theorem dX6_flowAlike_55 : decode cX6_flowAlike 55 = .ok (.iload 5, 2) := by decide +kernel
theorem dX6_flowAlike_57 : decode cX6_flowAlike 57 = .ok (.iaload, 1) := by decide +kernel
theorem dX6_flowAlike_58 : decode cX6_flowAlike 58 = .ok (.iaload, 1) := by decide +kernel
theorem dX6_flowAlike_59 : decode cX6_flowAlike 59 = .ok (.iaload, 1) := by decide +kernel
theorem dX6_flowAlike_60 : decode cX6_flowAlike 60 = .ok (.ifCond .ne 7, 3) := by decide +kernel
theorem dX6_flowAlike_63 : decode cX6_flowAlike 63 = .ok (.iconst 1, 1) := by decide +kernel
theorem dX6_flowAlike_64 : decode cX6_flowAlike 64 = .ok (.goto 4, 3) := by decide +kernel
theorem dX6_flowAlike_67 : decode cX6_flowAlike 67 = .ok (.iconst 0, 1) := by decide +kernel
theorem dX6_flowAlike_68 : decode cX6_flowAlike 68 = .ok (.istore 4, 2) := by decide +kernel
theorem dX6_flowAlike_70 : decode cX6_flowAlike 70 = .ok (.aload_n 0, 1) := by decide +kernel
theorem dX6_flowAlike_71 : decode cX6_flowAlike 71 = .ok (.getfield 36, 3) := by decide +kernel
theorem dX6_flowAlike_74 : decode cX6_flowAlike 74 = .ok (.aload_n 0, 1) := by decide +kernel
theorem dX6_flowAlike_75 : decode cX6_flowAlike 75 = .ok (.getfield 21, 3) := by decide +kernel
theorem dX6_flowAlike_78 : decode cX6_flowAlike 78 = .ok (.aload_n 1, 1) := by decide +kernel
theorem dX6_flowAlike_79 : decode cX6_flowAlike 79 = .ok (.getfield 94, 3) := by decide +kernel
theorem dX6_flowAlike_82 : decode cX6_flowAlike 82 = .ok (.iload 5, 2) := by decide +kernel
theorem dX6_flowAlike_84 : decode cX6_flowAlike 84 = .ok (.iaload, 1) := by decide +kernel
theorem dX6_flowAlike_85 : decode cX6_flowAlike 85 = .ok (.iaload, 1) := by decide +kernel
theorem dX6_flowAlike_86 : decode cX6_flowAlike 86 = .ok (.iconst 0, 1) := by decide +kernel
theorem dX6_flowAlike_87 : decode cX6_flowAlike 87 = .ok (.iastore, 1) := by decide +kernel
theorem dX6_flowAlike_88 : decode cX6_flowAlike 88 = .ok (.iinc 5 1, 3) := by decide +kernel
theorem dX6_flowAlike_91 : decode cX6_flowAlike 91 = .ok (.goto (-66), 3) := by decide +kernel
theorem dX6_flowAlike_94 : decode cX6_flowAlike 94 = .ok (.aload_n 1, 1) := by decide +kernel
theorem dX6_flowAlike_95 : decode cX6_flowAlike 95 = .ok (.getfield 91, 3) := by decide +kernel
theorem dX6_flowAlike_98 : decode cX6_flowAlike 98 = .ok (.iload_n 3, 1) := by decide +kernel
theorem dX6_flowAlike_99 : decode cX6_flowAlike 99 = .ok (.iaload, 1) := by decide +kernel
theorem dX6_flowAlike_100 : decode cX6_flowAlike 100 = .ok (.istore 5, 2) := by decide +kernel
theorem dX6_flowAlike_102 : decode cX6_flowAlike 102 = .ok (.iload 5, 2) := by decide +kernel
theorem dX6_flowAlike_104 : decode cX6_flowAlike 104 = .ok (.aload_n 1, 1) := by decide +kernel
theorem dX6_flowAlike_105 : decode cX6_flowAlike 105 = .ok (.getfield 91, 3) := by decide +kernel
theorem dX6_flowAlike_108 : decode cX6_flowAlike 108 = .ok (.iload_n 3, 1) := by decide +kernel
theorem dX6_flowAlike_109 : decode cX6_flowAlike 109 = .ok (.iconst 1, 1) := by decide +kernel
theorem dX6_flowAlike_110 : decode cX6_flowAlike 110 = .ok (.iadd, 1) := by decide +kernel
theorem dX6_flowAlike_111 : decode cX6_flowAlike 111 = .ok (.iaload, 1) := by decide +kernel
theorem dX6_flowAlike_112 : decode cX6_flowAlike 112 = .ok (.if_icmp .ge 59, 3) := by decide +kernel
theorem dX6_flowAlike_115 : decode cX6_flowAlike 115 = .ok (.iload 4, 2) := by decide +kernel
theorem dX6_flowAlike_117 : decode cX6_flowAlike 117 = .ok (.ifCond .eq 27, 3) := by decide +kernel
theorem dX6_flowAlike_120 : decode cX6_flowAlike 120 = .ok (.aload_n 0, 1) := by decide +kernel
theorem dX6_flowAlike_121 : decode cX6_flowAlike 121 = .ok (.getfield 36, 3) := by decide +kernel
theorem dX6_flowAlike_124 : decode cX6_flowAlike 124 = .ok (.aload_n 0, 1) := by decide +kernel
theorem dX6_flowAlike_125 : decode cX6_flowAlike 125 = .ok (.getfield 21, 3) := by decide +kernel
theorem dX6_flowAlike_128 : decode cX6_flowAlike 128 = .ok (.aload_n 1, 1) := by decide +kernel
theorem dX6_flowAlike_129 : decode cX6_flowAlike 129 = .ok (.getfield 94, 3) := by decide +kernel
theorem dX6_flowAlike_132 : decode cX6_flowAlike 132 = .ok (.iload 5, 2) := by decide +kernel
theorem dX6_flowAlike_134 : decode cX6_flowAlike 134 = .ok (.iaload, 1) := by decide +kernel
theorem dX6_flowAlike_135 : decode cX6_flowAlike 135 = .ok (.iaload, 1) := by decide +kernel
theorem dX6_flowAlike_136 : decode cX6_flowAlike 136 = .ok (.iaload, 1) := by decide +kernel
theorem dX6_flowAlike_137 : decode cX6_flowAlike 137 = .ok (.ifCond .ne 7, 3) := by decide +kernel
theorem dX6_flowAlike_140 : decode cX6_flowAlike 140 = .ok (.iconst 1, 1) := by decide +kernel
theorem dX6_flowAlike_141 : decode cX6_flowAlike 141 = .ok (.goto 4, 3) := by decide +kernel
theorem dX6_flowAlike_144 : decode cX6_flowAlike 144 = .ok (.iconst 0, 1) := by decide +kernel
theorem dX6_flowAlike_145 : decode cX6_flowAlike 145 = .ok (.istore 4, 2) := by decide +kernel
theorem dX6_flowAlike_147 : decode cX6_flowAlike 147 = .ok (.aload_n 0, 1) := by decide +kernel
theorem dX6_flowAlike_148 : decode cX6_flowAlike 148 = .ok (.getfield 36, 3) := by decide +kernel
theorem dX6_flowAlike_151 : decode cX6_flowAlike 151 = .ok (.aload_n 0, 1) := by decide +kernel
theorem dX6_flowAlike_152 : decode cX6_flowAlike 152 = .ok (.getfield 21, 3) := by decide +kernel
theorem dX6_flowAlike_155 : decode cX6_flowAlike 155 = .ok (.aload_n 1, 1) := by decide +kernel
theorem dX6_flowAlike_156 : decode cX6_flowAlike 156 = .ok (.getfield 94, 3) := by decide +kernel
theorem dX6_flowAlike_159 : decode cX6_flowAlike 159 = .ok (.iload 5, 2) := by decide +kernel
theorem dX6_flowAlike_161 : decode cX6_flowAlike 161 = .ok (.iaload, 1) := by decide +kernel
theorem dX6_flowAlike_162 : decode cX6_flowAlike 162 = .ok (.iaload, 1) := by decide +kernel
theorem dX6_flowAlike_163 : decode cX6_flowAlike 163 = .ok (.iconst 0, 1) := by decide +kernel
theorem dX6_flowAlike_164 : decode cX6_flowAlike 164 = .ok (.iastore, 1) := by decide +kernel
theorem dX6_flowAlike_165 : decode cX6_flowAlike 165 = .ok (.iinc 5 1, 3) := by decide +kernel
theorem dX6_flowAlike_168 : decode cX6_flowAlike 168 = .ok (.goto (-66), 3) := by decide +kernel
theorem dX6_flowAlike_171 : decode cX6_flowAlike 171 = .ok (.iload 4, 2) := by decide +kernel
theorem dX6_flowAlike_173 : decode cX6_flowAlike 173 = .ok (.ireturn, 1) := by decide +kernel
theorem dX6_addFlow_0 : decode cX6_addFlow 0 = .ok (.aload_n 1, 1) := by decide +kernel
theorem dX6_addFlow_1 : decode cX6_addFlow 1 = .ok (.getfield 91, 3) := by decide +kernel
theorem dX6_addFlow_4 : decode cX6_addFlow 4 = .ok (.iload_n 2, 1) := by decide +kernel
theorem dX6_addFlow_5 : decode cX6_addFlow 5 = .ok (.iaload, 1) := by decide +kernel
theorem dX6_addFlow_6 : decode cX6_addFlow 6 = .ok (.istore 4, 2) := by decide +kernel
theorem dX6_addFlow_8 : decode cX6_addFlow 8 = .ok (.iload 4, 2) := by decide +kernel
theorem dX6_addFlow_10 : decode cX6_addFlow 10 = .ok (.aload_n 1, 1) := by decide +kernel
theorem dX6_addFlow_11 : decode cX6_addFlow 11 = .ok (.getfield 91, 3) := by decide +kernel
theorem dX6_addFlow_14 : decode cX6_addFlow 14 = .ok (.iload_n 2, 1) := by decide +kernel
theorem dX6_addFlow_15 : decode cX6_addFlow 15 = .ok (.iconst 1, 1) := by decide +kernel
theorem dX6_addFlow_16 : decode cX6_addFlow 16 = .ok (.iadd, 1) := by decide +kernel
theorem dX6_addFlow_17 : decode cX6_addFlow 17 = .ok (.iaload, 1) := by decide +kernel
theorem dX6_addFlow_18 : decode cX6_addFlow 18 = .ok (.if_icmp .ge 38, 3) := by decide +kernel
theorem dX6_addFlow_21 : decode cX6_addFlow 21 = .ok (.aload_n 0, 1) := by decide +kernel
theorem dX6_addFlow_22 : decode cX6_addFlow 22 = .ok (.getfield 36, 3) := by decide +kernel
theorem dX6_addFlow_25 : decode cX6_addFlow 25 = .ok (.aload_n 0, 1) := by decide +kernel
theorem dX6_addFlow_26 : decode cX6_addFlow 26 = .ok (.getfield 21, 3) := by decide +kernel
theorem dX6_addFlow_29 : decode cX6_addFlow 29 = .ok (.aload_n 1, 1) := by decide +kernel
theorem dX6_addFlow_30 : decode cX6_addFlow 30 = .ok (.getfield 94, 3) := by decide +kernel
theorem dX6_addFlow_33 : decode cX6_addFlow 33 = .ok (.iload 4, 2) := by decide +kernel
theorem dX6_addFlow_35 : decode cX6_addFlow 35 = .ok (.iaload, 1) := by decide +kernel
theorem dX6_addFlow_36 : decode cX6_addFlow 36 = .ok (.iaload, 1) := by decide +kernel
theorem dX6_addFlow_37 : decode cX6_addFlow 37 = .ok (.dup2, 1) := by decide +kernel
theorem dX6_addFlow_38 : decode cX6_addFlow 38 = .ok (.iaload, 1) := by decide +kernel
theorem dX6_addFlow_39 : decode cX6_addFlow 39 = .ok (.iload_n 3, 1) := by decide +kernel
theorem dX6_addFlow_40 : decode cX6_addFlow 40 = .ok (.aload_n 1, 1) := by decide +kernel
theorem dX6_addFlow_41 : decode cX6_addFlow 41 = .ok (.getfield 97, 3) := by decide +kernel
theorem dX6_addFlow_44 : decode cX6_addFlow 44 = .ok (.iload 4, 2) := by decide +kernel
theorem dX6_addFlow_46 : decode cX6_addFlow 46 = .ok (.iaload, 1) := by decide +kernel
theorem dX6_addFlow_47 : decode cX6_addFlow 47 = .ok (.imul, 1) := by decide +kernel
theorem dX6_addFlow_48 : decode cX6_addFlow 48 = .ok (.iadd, 1) := by decide +kernel
theorem dX6_addFlow_49 : decode cX6_addFlow 49 = .ok (.iastore, 1) := by decide +kernel
theorem dX6_addFlow_50 : decode cX6_addFlow 50 = .ok (.iinc 4 1, 3) := by decide +kernel
theorem dX6_addFlow_53 : decode cX6_addFlow 53 = .ok (.goto (-45), 3) := by decide +kernel
theorem dX6_addFlow_56 : decode cX6_addFlow 56 = .ok (.return_, 1) := by decide +kernel
theorem dX7_init_0 : decode cX7_init 0 = .ok (.aload_n 0, 1) := by decide +kernel
theorem dX7_init_1 : decode cX7_init 1 = .ok (.invokespecial 3, 3) := by decide +kernel
theorem dX7_init_4 : decode cX7_init 4 = .ok (.aload_n 0, 1) := by decide +kernel
theorem dX7_init_5 : decode cX7_init 5 = .ok (.bipush 40, 2) := by decide +kernel
theorem dX7_init_7 : decode cX7_init 7 = .ok (.newarray .int, 2) := by decide +kernel
theorem dX7_init_9 : decode cX7_init 9 = .ok (.putfield 9, 3) := by decide +kernel
theorem dX7_init_12 : decode cX7_init 12 = .ok (.aload_n 0, 1) := by decide +kernel
theorem dX7_init_13 : decode cX7_init 13 = .ok (.bipush 40, 2) := by decide +kernel
theorem dX7_init_15 : decode cX7_init 15 = .ok (.newarray .int, 2) := by decide +kernel
theorem dX7_init_17 : decode cX7_init 17 = .ok (.putfield 15, 3) := by decide +kernel
theorem dX7_init_20 : decode cX7_init 20 = .ok (.aload_n 0, 1) := by decide +kernel
theorem dX7_init_21 : decode cX7_init 21 = .ok (.bipush 40, 2) := by decide +kernel
theorem dX7_init_23 : decode cX7_init 23 = .ok (.newarray .int, 2) := by decide +kernel
theorem dX7_init_25 : decode cX7_init 25 = .ok (.putfield 18, 3) := by decide +kernel
theorem dX7_init_28 : decode cX7_init 28 = .ok (.aload_n 0, 1) := by decide +kernel
theorem dX7_init_29 : decode cX7_init 29 = .ok (.bipush 40, 2) := by decide +kernel
theorem dX7_init_31 : decode cX7_init 31 = .ok (.newarray .int, 2) := by decide +kernel
theorem dX7_init_33 : decode cX7_init 33 = .ok (.putfield 21, 3) := by decide +kernel
theorem dX7_init_36 : decode cX7_init 36 = .ok (.aload_n 0, 1) := by decide +kernel
theorem dX7_init_37 : decode cX7_init 37 = .ok (.bipush 40, 2) := by decide +kernel
theorem dX7_init_39 : decode cX7_init 39 = .ok (.newarray .int, 2) := by decide +kernel
theorem dX7_init_41 : decode cX7_init 41 = .ok (.putfield 24, 3) := by decide +kernel
theorem dX7_init_44 : decode cX7_init 44 = .ok (.aload_n 0, 1) := by decide +kernel
theorem dX7_init_45 : decode cX7_init 45 = .ok (.bipush 40, 2) := by decide +kernel
theorem dX7_init_47 : decode cX7_init 47 = .ok (.newarray .int, 2) := by decide +kernel
theorem dX7_init_49 : decode cX7_init 49 = .ok (.putfield 27, 3) := by decide +kernel
theorem dX7_init_52 : decode cX7_init 52 = .ok (.aload_n 0, 1) := by decide +kernel
theorem dX7_init_53 : decode cX7_init 53 = .ok (.bipush 40, 2) := by decide +kernel
theorem dX7_init_55 : decode cX7_init 55 = .ok (.newarray .int, 2) := by decide +kernel
theorem dX7_init_57 : decode cX7_init 57 = .ok (.putfield 30, 3) := by decide +kernel
theorem dX7_init_60 : decode cX7_init 60 = .ok (.aload_n 0, 1) := by decide +kernel
theorem dX7_init_61 : decode cX7_init 61 = .ok (.bipush 40, 2) := by decide +kernel
theorem dX7_init_63 : decode cX7_init 63 = .ok (.newarray .int, 2) := by decide +kernel
theorem dX7_init_65 : decode cX7_init 65 = .ok (.putfield 33, 3) := by decide +kernel
theorem dX7_init_68 : decode cX7_init 68 = .ok (.aload_n 0, 1) := by decide +kernel
theorem dX7_init_69 : decode cX7_init 69 = .ok (.bipush 40, 2) := by decide +kernel
theorem dX7_init_71 : decode cX7_init 71 = .ok (.newarray .int, 2) := by decide +kernel
theorem dX7_init_73 : decode cX7_init 73 = .ok (.putfield 36, 3) := by decide +kernel
theorem dX7_init_76 : decode cX7_init 76 = .ok (.aload_n 0, 1) := by decide +kernel
theorem dX7_init_77 : decode cX7_init 77 = .ok (.bipush 40, 2) := by decide +kernel
theorem dX7_init_79 : decode cX7_init 79 = .ok (.newarray .int, 2) := by decide +kernel
theorem dX7_init_81 : decode cX7_init 81 = .ok (.putfield 39, 3) := by decide +kernel
theorem dX7_init_84 : decode cX7_init 84 = .ok (.return_, 1) := by decide +kernel
theorem dX7_clear_0 : decode cX7_clear 0 = .ok (.aload_n 0, 1) := by decide +kernel
theorem dX7_clear_1 : decode cX7_clear 1 = .ok (.iconst 0, 1) := by decide +kernel
theorem dX7_clear_2 : decode cX7_clear 2 = .ok (.putfield 42, 3) := by decide +kernel
theorem dX7_clear_5 : decode cX7_clear 5 = .ok (.return_, 1) := by decide +kernel
theorem dX7_isFull_0 : decode cX7_isFull 0 = .ok (.aload_n 0, 1) := by decide +kernel
theorem dX7_isFull_1 : decode cX7_isFull 1 = .ok (.getfield 42, 3) := by decide +kernel
theorem dX7_isFull_4 : decode cX7_isFull 4 = .ok (.bipush 40, 2) := by decide +kernel
theorem dX7_isFull_6 : decode cX7_isFull 6 = .ok (.if_icmp .lt 7, 3) := by decide +kernel
theorem dX7_isFull_9 : decode cX7_isFull 9 = .ok (.iconst 1, 1) := by decide +kernel
theorem dX7_isFull_10 : decode cX7_isFull 10 = .ok (.goto 4, 3) := by decide +kernel
theorem dX7_isFull_13 : decode cX7_isFull 13 = .ok (.iconst 0, 1) := by decide +kernel
theorem dX7_isFull_14 : decode cX7_isFull 14 = .ok (.ireturn, 1) := by decide +kernel
theorem dX7_begin_0 : decode cX7_begin 0 = .ok (.aload_n 0, 1) := by decide +kernel
theorem dX7_begin_1 : decode cX7_begin 1 = .ok (.getfield 42, 3) := by decide +kernel
theorem dX7_begin_4 : decode cX7_begin 4 = .ok (.istore 5, 2) := by decide +kernel
theorem dX7_begin_6 : decode cX7_begin 6 = .ok (.aload_n 0, 1) := by decide +kernel
theorem dX7_begin_7 : decode cX7_begin 7 = .ok (.dup, 1) := by decide +kernel
theorem dX7_begin_8 : decode cX7_begin 8 = .ok (.getfield 42, 3) := by decide +kernel
theorem dX7_begin_11 : decode cX7_begin 11 = .ok (.iconst 1, 1) := by decide +kernel
theorem dX7_begin_12 : decode cX7_begin 12 = .ok (.iadd, 1) := by decide +kernel
theorem dX7_begin_13 : decode cX7_begin 13 = .ok (.putfield 42, 3) := by decide +kernel
theorem dX7_begin_16 : decode cX7_begin 16 = .ok (.iload_n 3, 1) := by decide +kernel
theorem dX7_begin_17 : decode cX7_begin 17 = .ok (.iconst (-1), 1) := by decide +kernel
theorem dX7_begin_18 : decode cX7_begin 18 = .ok (.if_icmp .eq 14, 3) := by decide +kernel
theorem dX7_begin_21 : decode cX7_begin 21 = .ok (.aload_n 0, 1) := by decide +kernel
theorem dX7_begin_22 : decode cX7_begin 22 = .ok (.getfield 39, 3) := by decide +kernel
theorem dX7_begin_25 : decode cX7_begin 25 = .ok (.iload_n 3, 1) := by decide +kernel
theorem dX7_begin_26 : decode cX7_begin 26 = .ok (.iload 5, 2) := by decide +kernel
theorem dX7_begin_28 : decode cX7_begin 28 = .ok (.iastore, 1) := by decide +kernel
theorem dX7_begin_29 : decode cX7_begin 29 = .ok (.goto 37, 3) := by decide +kernel
theorem dX7_begin_32 : decode cX7_begin 32 = .ok (.iload_n 2, 1) := by decide +kernel
theorem dX7_begin_33 : decode cX7_begin 33 = .ok (.iconst (-1), 1) := by decide +kernel
theorem dX7_begin_34 : decode cX7_begin 34 = .ok (.if_icmp .eq 19, 3) := by decide +kernel
theorem dX7_begin_37 : decode cX7_begin 37 = .ok (.iload 4, 2) := by decide +kernel
theorem dX7_begin_39 : decode cX7_begin 39 = .ok (.ifCond .eq 14, 3) := by decide +kernel
theorem dX7_begin_42 : decode cX7_begin 42 = .ok (.aload_n 0, 1) := by decide +kernel
theorem dX7_begin_43 : decode cX7_begin 43 = .ok (.getfield 33, 3) := by decide +kernel
theorem dX7_begin_46 : decode cX7_begin 46 = .ok (.iload_n 2, 1) := by decide +kernel
theorem dX7_begin_47 : decode cX7_begin 47 = .ok (.iload 5, 2) := by decide +kernel
theorem dX7_begin_49 : decode cX7_begin 49 = .ok (.iastore, 1) := by decide +kernel
theorem dX7_begin_50 : decode cX7_begin 50 = .ok (.goto 16, 3) := by decide +kernel
theorem dX7_begin_53 : decode cX7_begin 53 = .ok (.iload_n 2, 1) := by decide +kernel
theorem dX7_begin_54 : decode cX7_begin 54 = .ok (.iconst (-1), 1) := by decide +kernel
theorem dX7_begin_55 : decode cX7_begin 55 = .ok (.if_icmp .eq 11, 3) := by decide +kernel
theorem dX7_begin_58 : decode cX7_begin 58 = .ok (.aload_n 0, 1) := by decide +kernel
theorem dX7_begin_59 : decode cX7_begin 59 = .ok (.getfield 30, 3) := by decide +kernel
theorem dX7_begin_62 : decode cX7_begin 62 = .ok (.iload_n 2, 1) := by decide +kernel
theorem dX7_begin_63 : decode cX7_begin 63 = .ok (.iload 5, 2) := by decide +kernel
theorem dX7_begin_65 : decode cX7_begin 65 = .ok (.iastore, 1) := by decide +kernel
theorem dX7_begin_66 : decode cX7_begin 66 = .ok (.aload_n 0, 1) := by decide +kernel
theorem dX7_begin_67 : decode cX7_begin 67 = .ok (.getfield 9, 3) := by decide +kernel
theorem dX7_begin_70 : decode cX7_begin 70 = .ok (.iload 5, 2) := by decide +kernel
theorem dX7_begin_72 : decode cX7_begin 72 = .ok (.iload_n 1, 1) := by decide +kernel
theorem dX7_begin_73 : decode cX7_begin 73 = .ok (.iastore, 1) := by decide +kernel
theorem dX7_begin_74 : decode cX7_begin 74 = .ok (.aload_n 0, 1) := by decide +kernel
theorem dX7_begin_75 : decode cX7_begin 75 = .ok (.getfield 15, 3) := by decide +kernel
theorem dX7_begin_78 : decode cX7_begin 78 = .ok (.iload 5, 2) := by decide +kernel
theorem dX7_begin_80 : decode cX7_begin 80 = .ok (.iconst (-1), 1) := by decide +kernel
theorem dX7_begin_81 : decode cX7_begin 81 = .ok (.iastore, 1) := by decide +kernel
theorem dX7_begin_82 : decode cX7_begin 82 = .ok (.aload_n 0, 1) := by decide +kernel
theorem dX7_begin_83 : decode cX7_begin 83 = .ok (.getfield 18, 3) := by decide +kernel
theorem dX7_begin_86 : decode cX7_begin 86 = .ok (.iload 5, 2) := by decide +kernel
theorem dX7_begin_88 : decode cX7_begin 88 = .ok (.iconst (-1), 1) := by decide +kernel
theorem dX7_begin_89 : decode cX7_begin 89 = .ok (.iastore, 1) := by decide +kernel
theorem dX7_begin_90 : decode cX7_begin 90 = .ok (.aload_n 0, 1) := by decide +kernel
theorem dX7_begin_91 : decode cX7_begin 91 = .ok (.getfield 21, 3) := by decide +kernel
theorem dX7_begin_94 : decode cX7_begin 94 = .ok (.iload 5, 2) := by decide +kernel
theorem dX7_begin_96 : decode cX7_begin 96 = .ok (.iconst 0, 1) := by decide +kernel
theorem dX7_begin_97 : decode cX7_begin 97 = .ok (.iastore, 1) := by decide +kernel
theorem dX7_begin_98 : decode cX7_begin 98 = .ok (.aload_n 0, 1) := by decide +kernel
theorem dX7_begin_99 : decode cX7_begin 99 = .ok (.getfield 24, 3) := by decide +kernel
theorem dX7_begin_102 : decode cX7_begin 102 = .ok (.iload 5, 2) := by decide +kernel
theorem dX7_begin_104 : decode cX7_begin 104 = .ok (.iconst 0, 1) := by decide +kernel
theorem dX7_begin_105 : decode cX7_begin 105 = .ok (.iastore, 1) := by decide +kernel
theorem dX7_begin_106 : decode cX7_begin 106 = .ok (.aload_n 0, 1) := by decide +kernel
theorem dX7_begin_107 : decode cX7_begin 107 = .ok (.getfield 27, 3) := by decide +kernel
theorem dX7_begin_110 : decode cX7_begin 110 = .ok (.iload 5, 2) := by decide +kernel
theorem dX7_begin_112 : decode cX7_begin 112 = .ok (.iconst 0, 1) := by decide +kernel
theorem dX7_begin_113 : decode cX7_begin 113 = .ok (.iastore, 1) := by decide +kernel
theorem dX7_begin_114 : decode cX7_begin 114 = .ok (.aload_n 0, 1) := by decide +kernel
theorem dX7_begin_115 : decode cX7_begin 115 = .ok (.getfield 30, 3) := by decide +kernel
theorem dX7_begin_118 : decode cX7_begin 118 = .ok (.iload 5, 2) := by decide +kernel
theorem dX7_begin_120 : decode cX7_begin 120 = .ok (.iconst (-1), 1) := by decide +kernel
theorem dX7_begin_121 : decode cX7_begin 121 = .ok (.iastore, 1) := by decide +kernel
theorem dX7_begin_122 : decode cX7_begin 122 = .ok (.aload_n 0, 1) := by decide +kernel
theorem dX7_begin_123 : decode cX7_begin 123 = .ok (.getfield 33, 3) := by decide +kernel
theorem dX7_begin_126 : decode cX7_begin 126 = .ok (.iload 5, 2) := by decide +kernel
theorem dX7_begin_128 : decode cX7_begin 128 = .ok (.iconst (-1), 1) := by decide +kernel
theorem dX7_begin_129 : decode cX7_begin 129 = .ok (.iastore, 1) := by decide +kernel
theorem dX7_begin_130 : decode cX7_begin 130 = .ok (.aload_n 0, 1) := by decide +kernel
theorem dX7_begin_131 : decode cX7_begin 131 = .ok (.getfield 36, 3) := by decide +kernel
theorem dX7_begin_134 : decode cX7_begin 134 = .ok (.iload 5, 2) := by decide +kernel
theorem dX7_begin_136 : decode cX7_begin 136 = .ok (.iload_n 2, 1) := by decide +kernel
theorem dX7_begin_137 : decode cX7_begin 137 = .ok (.iastore, 1) := by decide +kernel
theorem dX7_begin_138 : decode cX7_begin 138 = .ok (.aload_n 0, 1) := by decide +kernel
theorem dX7_begin_139 : decode cX7_begin 139 = .ok (.getfield 39, 3) := by decide +kernel
theorem dX7_begin_142 : decode cX7_begin 142 = .ok (.iload 5, 2) := by decide +kernel
theorem dX7_begin_144 : decode cX7_begin 144 = .ok (.iconst (-1), 1) := by decide +kernel
theorem dX7_begin_145 : decode cX7_begin 145 = .ok (.iastore, 1) := by decide +kernel
theorem dX7_begin_146 : decode cX7_begin 146 = .ok (.iload 5, 2) := by decide +kernel
theorem dX7_begin_148 : decode cX7_begin 148 = .ok (.ireturn, 1) := by decide +kernel
theorem dX7_sum_0 : decode cX7_sum 0 = .ok (.iload_n 0, 1) := by decide +kernel
theorem dX7_sum_1 : decode cX7_sum 1 = .ok (.bipush 16, 2) := by decide +kernel
theorem dX7_sum_3 : decode cX7_sum 3 = .ok (.iload_n 2, 1) := by decide +kernel
theorem dX7_sum_4 : decode cX7_sum 4 = .ok (.imul, 1) := by decide +kernel
theorem dX7_sum_5 : decode cX7_sum 5 = .ok (.iadd, 1) := by decide +kernel
theorem dX7_sum_6 : decode cX7_sum 6 = .ok (.sipush 256, 3) := by decide +kernel
theorem dX7_sum_9 : decode cX7_sum 9 = .ok (.iload_n 1, 1) := by decide +kernel
theorem dX7_sum_10 : decode cX7_sum 10 = .ok (.imul, 1) := by decide +kernel
theorem dX7_sum_11 : decode cX7_sum 11 = .ok (.iadd, 1) := by decide +kernel
theorem dX7_sum_12 : decode cX7_sum 12 = .ok (.ireturn, 1) := by decide +kernel
theorem dX7_link_0 : decode cX7_link 0 = .ok (.iconst 0, 1) := by decide +kernel
theorem dX7_link_1 : decode cX7_link 1 = .ok (.istore_n 1, 1) := by decide +kernel
theorem dX7_link_2 : decode cX7_link 2 = .ok (.iload_n 1, 1) := by decide +kernel
theorem dX7_link_3 : decode cX7_link 3 = .ok (.aload_n 0, 1) := by decide +kernel
theorem dX7_link_4 : decode cX7_link 4 = .ok (.getfield 42, 3) := by decide +kernel
theorem dX7_link_7 : decode cX7_link 7 = .ok (.if_icmp .ge 20, 3) := by decide +kernel
theorem dX7_link_10 : decode cX7_link 10 = .ok (.aload_n 0, 1) := by decide +kernel
theorem dX7_link_11 : decode cX7_link 11 = .ok (.getfield 39, 3) := by decide +kernel
theorem dX7_link_14 : decode cX7_link 14 = .ok (.iload_n 1, 1) := by decide +kernel
theorem dX7_link_15 : decode cX7_link 15 = .ok (.aload_n 0, 1) := by decide +kernel
theorem dX7_link_16 : decode cX7_link 16 = .ok (.iload_n 1, 1) := by decide +kernel
theorem dX7_link_17 : decode cX7_link 17 = .ok (.invokevirtual 46, 3) := by decide +kernel
theorem dX7_link_20 : decode cX7_link 20 = .ok (.iastore, 1) := by decide +kernel
theorem dX7_link_21 : decode cX7_link 21 = .ok (.iinc 1 1, 3) := by decide +kernel
theorem dX7_link_24 : decode cX7_link 24 = .ok (.goto (-22), 3) := by decide +kernel
theorem dX7_link_27 : decode cX7_link 27 = .ok (.iconst 0, 1) := by decide +kernel
theorem dX7_link_28 : decode cX7_link 28 = .ok (.istore_n 1, 1) := by decide +kernel
theorem dX7_link_29 : decode cX7_link 29 = .ok (.iload_n 1, 1) := by decide +kernel
theorem dX7_link_30 : decode cX7_link 30 = .ok (.aload_n 0, 1) := by decide +kernel
theorem dX7_link_31 : decode cX7_link 31 = .ok (.getfield 42, 3) := by decide +kernel
theorem dX7_link_34 : decode cX7_link 34 = .ok (.if_icmp .ge 123, 3) := by decide +kernel
theorem dX7_link_37 : decode cX7_link 37 = .ok (.aload_n 0, 1) := by decide +kernel
theorem dX7_link_38 : decode cX7_link 38 = .ok (.getfield 9, 3) := by decide +kernel
theorem dX7_link_41 : decode cX7_link 41 = .ok (.iload_n 1, 1) := by decide +kernel
theorem dX7_link_42 : decode cX7_link 42 = .ok (.iaload, 1) := by decide +kernel
theorem dX7_link_43 : decode cX7_link 43 = .ok (.istore_n 2, 1) := by decide +kernel
theorem dX7_link_44 : decode cX7_link 44 = .ok (.iload_n 2, 1) := by decide +kernel
theorem dX7_link_45 : decode cX7_link 45 = .ok (.bipush 6, 2) := by decide +kernel
theorem dX7_link_47 : decode cX7_link 47 = .ok (.if_icmp .ne 16, 3) := by decide +kernel
theorem dX7_link_50 : decode cX7_link 50 = .ok (.aload_n 0, 1) := by decide +kernel
theorem dX7_link_51 : decode cX7_link 51 = .ok (.getfield 30, 3) := by decide +kernel
theorem dX7_link_54 : decode cX7_link 54 = .ok (.iload_n 1, 1) := by decide +kernel
theorem dX7_link_55 : decode cX7_link 55 = .ok (.aload_n 0, 1) := by decide +kernel
theorem dX7_link_56 : decode cX7_link 56 = .ok (.getfield 42, 3) := by decide +kernel
theorem dX7_link_59 : decode cX7_link 59 = .ok (.iastore, 1) := by decide +kernel
theorem dX7_link_60 : decode cX7_link 60 = .ok (.goto 34, 3) := by decide +kernel
theorem dX7_link_63 : decode cX7_link 63 = .ok (.aload_n 0, 1) := by decide +kernel
theorem dX7_link_64 : decode cX7_link 64 = .ok (.getfield 30, 3) := by decide +kernel
theorem dX7_link_67 : decode cX7_link 67 = .ok (.iload_n 1, 1) := by decide +kernel
theorem dX7_link_68 : decode cX7_link 68 = .ok (.iaload, 1) := by decide +kernel
theorem dX7_link_69 : decode cX7_link 69 = .ok (.iconst (-1), 1) := by decide +kernel
theorem dX7_link_70 : decode cX7_link 70 = .ok (.if_icmp .ne 24, 3) := by decide +kernel
theorem dX7_link_73 : decode cX7_link 73 = .ok (.aload_n 0, 1) := by decide +kernel
theorem dX7_link_74 : decode cX7_link 74 = .ok (.getfield 30, 3) := by decide +kernel
theorem dX7_link_77 : decode cX7_link 77 = .ok (.iload_n 1, 1) := by decide +kernel
theorem dX7_link_78 : decode cX7_link 78 = .ok (.iload_n 2, 1) := by decide +kernel
theorem dX7_link_79 : decode cX7_link 79 = .ok (.iconst 4, 1) := by decide +kernel
theorem dX7_link_80 : decode cX7_link 80 = .ok (.if_icmp .ne 7, 3) := by decide +kernel
theorem dX7_link_83 : decode cX7_link 83 = .ok (.iload_n 1, 1) := by decide +kernel
theorem dX7_link_84 : decode cX7_link 84 = .ok (.goto 9, 3) := by decide +kernel
theorem dX7_link_87 : decode cX7_link 87 = .ok (.aload_n 0, 1) := by decide +kernel
theorem dX7_link_88 : decode cX7_link 88 = .ok (.getfield 39, 3) := by decide +kernel
theorem dX7_link_91 : decode cX7_link 91 = .ok (.iload_n 1, 1) := by decide +kernel
theorem dX7_link_92 : decode cX7_link 92 = .ok (.iaload, 1) := by decide +kernel
theorem dX7_link_93 : decode cX7_link 93 = .ok (.iastore, 1) := by decide +kernel
theorem dX7_link_94 : decode cX7_link 94 = .ok (.iload_n 2, 1) := by decide +kernel
theorem dX7_link_95 : decode cX7_link 95 = .ok (.iconst 5, 1) := by decide +kernel
theorem dX7_link_96 : decode cX7_link 96 = .ok (.if_icmp .ne 18, 3) := by decide +kernel
theorem dX7_link_99 : decode cX7_link 99 = .ok (.aload_n 0, 1) := by decide +kernel
theorem dX7_link_100 : decode cX7_link 100 = .ok (.getfield 33, 3) := by decide +kernel
theorem dX7_link_103 : decode cX7_link 103 = .ok (.iload_n 1, 1) := by decide +kernel
theorem dX7_link_104 : decode cX7_link 104 = .ok (.aload_n 0, 1) := by decide +kernel
theorem dX7_link_105 : decode cX7_link 105 = .ok (.getfield 42, 3) := by decide +kernel
theorem dX7_link_108 : decode cX7_link 108 = .ok (.iconst 1, 1) := by decide +kernel
theorem dX7_link_109 : decode cX7_link 109 = .ok (.iadd, 1) := by decide +kernel
theorem dX7_link_110 : decode cX7_link 110 = .ok (.iastore, 1) := by decide +kernel
theorem dX7_link_111 : decode cX7_link 111 = .ok (.goto 40, 3) := by decide +kernel
theorem dX7_link_114 : decode cX7_link 114 = .ok (.aload_n 0, 1) := by decide +kernel
theorem dX7_link_115 : decode cX7_link 115 = .ok (.getfield 33, 3) := by decide +kernel
theorem dX7_link_118 : decode cX7_link 118 = .ok (.iload_n 1, 1) := by decide +kernel
theorem dX7_link_119 : decode cX7_link 119 = .ok (.iaload, 1) := by decide +kernel
theorem dX7_link_120 : decode cX7_link 120 = .ok (.iconst (-1), 1) := by decide +kernel
theorem dX7_link_121 : decode cX7_link 121 = .ok (.if_icmp .ne 30, 3) := by decide +kernel
theorem dX7_link_124 : decode cX7_link 124 = .ok (.iload_n 2, 1) := by decide +kernel
theorem dX7_link_125 : decode cX7_link 125 = .ok (.iconst 2, 1) := by decide +kernel
theorem dX7_link_126 : decode cX7_link 126 = .ok (.if_icmp .eq 13, 3) := by decide +kernel
theorem dX7_link_129 : decode cX7_link 129 = .ok (.iload_n 2, 1) := by decide +kernel
theorem dX7_link_130 : decode cX7_link 130 = .ok (.iconst 3, 1) := by decide +kernel
theorem dX7_link_131 : decode cX7_link 131 = .ok (.if_icmp .eq 8, 3) := by decide +kernel
theorem dX7_link_134 : decode cX7_link 134 = .ok (.iload_n 2, 1) := by decide +kernel
theorem dX7_link_135 : decode cX7_link 135 = .ok (.iconst 4, 1) := by decide +kernel
theorem dX7_link_136 : decode cX7_link 136 = .ok (.if_icmp .ne 15, 3) := by decide +kernel
theorem dX7_link_139 : decode cX7_link 139 = .ok (.aload_n 0, 1) := by decide +kernel
theorem dX7_link_140 : decode cX7_link 140 = .ok (.getfield 33, 3) := by decide +kernel
theorem dX7_link_143 : decode cX7_link 143 = .ok (.iload_n 1, 1) := by decide +kernel
theorem dX7_link_144 : decode cX7_link 144 = .ok (.aload_n 0, 1) := by decide +kernel
theorem dX7_link_145 : decode cX7_link 145 = .ok (.getfield 39, 3) := by decide +kernel
theorem dX7_link_148 : decode cX7_link 148 = .ok (.iload_n 1, 1) := by decide +kernel
theorem dX7_link_149 : decode cX7_link 149 = .ok (.iaload, 1) := by decide +kernel
theorem dX7_link_150 : decode cX7_link 150 = .ok (.iastore, 1) := by decide +kernel
theorem dX7_link_151 : decode cX7_link 151 = .ok (.iinc 1 1, 3) := by decide +kernel
theorem dX7_link_154 : decode cX7_link 154 = .ok (.goto (-125), 3) := by decide +kernel
theorem dX7_link_157 : decode cX7_link 157 = .ok (.return_, 1) := by decide +kernel
theorem dX7_placeBehind_0 : decode cX7_placeBehind 0 = .ok (.aload_n 0, 1) := by decide +kernel
theorem dX7_placeBehind_1 : decode cX7_placeBehind 1 = .ok (.getfield 39, 3) := by decide +kernel
theorem dX7_placeBehind_4 : decode cX7_placeBehind 4 = .ok (.iload_n 1, 1) := by decide +kernel
theorem dX7_placeBehind_5 : decode cX7_placeBehind 5 = .ok (.iaload, 1) := by decide +kernel
theorem dX7_placeBehind_6 : decode cX7_placeBehind 6 = .ok (.iconst (-1), 1) := by decide +kernel
theorem dX7_placeBehind_7 : decode cX7_placeBehind 7 = .ok (.if_icmp .eq 10, 3) := by decide +kernel
theorem dX7_placeBehind_10 : decode cX7_placeBehind 10 = .ok (.aload_n 0, 1) := by decide +kernel
theorem dX7_placeBehind_11 : decode cX7_placeBehind 11 = .ok (.getfield 39, 3) := by decide +kernel
theorem dX7_placeBehind_14 : decode cX7_placeBehind 14 = .ok (.iload_n 1, 1) := by decide +kernel
theorem dX7_placeBehind_15 : decode cX7_placeBehind 15 = .ok (.iaload, 1) := by decide +kernel
theorem dX7_placeBehind_16 : decode cX7_placeBehind 16 = .ok (.ireturn, 1) := by decide +kernel
theorem dX7_placeBehind_17 : decode cX7_placeBehind 17 = .ok (.aload_n 0, 1) := by decide +kernel
theorem dX7_placeBehind_18 : decode cX7_placeBehind 18 = .ok (.getfield 36, 3) := by decide +kernel
theorem dX7_placeBehind_21 : decode cX7_placeBehind 21 = .ok (.iload_n 1, 1) := by decide +kernel
theorem dX7_placeBehind_22 : decode cX7_placeBehind 22 = .ok (.iaload, 1) := by decide +kernel
theorem dX7_placeBehind_23 : decode cX7_placeBehind 23 = .ok (.istore_n 2, 1) := by decide +kernel
theorem dX7_placeBehind_24 : decode cX7_placeBehind 24 = .ok (.iload_n 2, 1) := by decide +kernel
theorem dX7_placeBehind_25 : decode cX7_placeBehind 25 = .ok (.iconst (-1), 1) := by decide +kernel
theorem dX7_placeBehind_26 : decode cX7_placeBehind 26 = .ok (.if_icmp .ne 8, 3) := by decide +kernel
theorem dX7_placeBehind_29 : decode cX7_placeBehind 29 = .ok (.aload_n 0, 1) := by decide +kernel
theorem dX7_placeBehind_30 : decode cX7_placeBehind 30 = .ok (.getfield 42, 3) := by decide +kernel
theorem dX7_placeBehind_33 : decode cX7_placeBehind 33 = .ok (.ireturn, 1) := by decide +kernel
theorem dX7_placeBehind_34 : decode cX7_placeBehind 34 = .ok (.aload_n 0, 1) := by decide +kernel
theorem dX7_placeBehind_35 : decode cX7_placeBehind 35 = .ok (.getfield 9, 3) := by decide +kernel
theorem dX7_placeBehind_38 : decode cX7_placeBehind 38 = .ok (.iload_n 2, 1) := by decide +kernel
theorem dX7_placeBehind_39 : decode cX7_placeBehind 39 = .ok (.iaload, 1) := by decide +kernel
theorem dX7_placeBehind_40 : decode cX7_placeBehind 40 = .ok (.iconst 4, 1) := by decide +kernel
theorem dX7_placeBehind_41 : decode cX7_placeBehind 41 = .ok (.if_icmp .ne 7, 3) := by decide +kernel
theorem dX7_placeBehind_44 : decode cX7_placeBehind 44 = .ok (.iload_n 2, 1) := by decide +kernel
theorem dX7_placeBehind_45 : decode cX7_placeBehind 45 = .ok (.goto 9, 3) := by decide +kernel
theorem dX7_placeBehind_48 : decode cX7_placeBehind 48 = .ok (.aload_n 0, 1) := by decide +kernel
theorem dX7_placeBehind_49 : decode cX7_placeBehind 49 = .ok (.getfield 39, 3) := by decide +kernel
theorem dX7_placeBehind_52 : decode cX7_placeBehind 52 = .ok (.iload_n 2, 1) := by decide +kernel
theorem dX7_placeBehind_53 : decode cX7_placeBehind 53 = .ok (.iaload, 1) := by decide +kernel
theorem dX7_placeBehind_54 : decode cX7_placeBehind 54 = .ok (.ireturn, 1) := by decide +kernel
theorem dX7_assigned_0 : decode cX7_assigned 0 = .ok (.aload_n 0, 1) := by decide +kernel
theorem dX7_assigned_1 : decode cX7_assigned 1 = .ok (.getfield 21, 3) := by decide +kernel
theorem dX7_assigned_4 : decode cX7_assigned 4 = .ok (.iload_n 1, 1) := by decide +kernel
theorem dX7_assigned_5 : decode cX7_assigned 5 = .ok (.iaload, 1) := by decide +kernel
theorem dX7_assigned_6 : decode cX7_assigned 6 = .ok (.iload_n 2, 1) := by decide +kernel
theorem dX7_assigned_7 : decode cX7_assigned 7 = .ok (.invokestatic 50, 3) := by decide +kernel
theorem dX7_assigned_10 : decode cX7_assigned 10 = .ok (.ireturn, 1) := by decide +kernel
theorem dX7_holds_0 : decode cX7_holds 0 = .ok (.aload_n 0, 1) := by decide +kernel
theorem dX7_holds_1 : decode cX7_holds 1 = .ok (.getfield 21, 3) := by decide +kernel
theorem dX7_holds_4 : decode cX7_holds 4 = .ok (.iload_n 1, 1) := by decide +kernel
theorem dX7_holds_5 : decode cX7_holds 5 = .ok (.iaload, 1) := by decide +kernel
theorem dX7_holds_6 : decode cX7_holds 6 = .ok (.iload_n 2, 1) := by decide +kernel
theorem dX7_holds_7 : decode cX7_holds 7 = .ok (.invokestatic 50, 3) := by decide +kernel
theorem dX7_holds_10 : decode cX7_holds 10 = .ok (.istore_n 3, 1) := by decide +kernel
theorem dX7_holds_11 : decode cX7_holds 11 = .ok (.aload_n 0, 1) := by decide +kernel
theorem dX7_holds_12 : decode cX7_holds 12 = .ok (.getfield 27, 3) := by decide +kernel
theorem dX7_holds_15 : decode cX7_holds 15 = .ok (.iload_n 1, 1) := by decide +kernel
theorem dX7_holds_16 : decode cX7_holds 16 = .ok (.iaload, 1) := by decide +kernel
theorem dX7_holds_17 : decode cX7_holds 17 = .ok (.iload_n 2, 1) := by decide +kernel
theorem dX7_holds_18 : decode cX7_holds 18 = .ok (.invokestatic 50, 3) := by decide +kernel
theorem dX7_holds_21 : decode cX7_holds 21 = .ok (.istore 4, 2) := by decide +kernel
theorem dX7_holds_23 : decode cX7_holds 23 = .ok (.aload_n 0, 1) := by decide +kernel
theorem dX7_holds_24 : decode cX7_holds 24 = .ok (.getfield 24, 3) := by decide +kernel
theorem dX7_holds_27 : decode cX7_holds 27 = .ok (.iload_n 1, 1) := by decide +kernel
theorem dX7_holds_28 : decode cX7_holds 28 = .ok (.iaload, 1) := by decide +kernel
theorem dX7_holds_29 : decode cX7_holds 29 = .ok (.bipush 61, 2) := by decide +kernel
theorem dX7_holds_31 : decode cX7_holds 31 = .ok (.if_icmp .ne 15, 3) := by decide +kernel
theorem dX7_holds_34 : decode cX7_holds 34 = .ok (.iload_n 3, 1) := by decide +kernel
theorem dX7_holds_35 : decode cX7_holds 35 = .ok (.iload 4, 2) := by decide +kernel
theorem dX7_holds_37 : decode cX7_holds 37 = .ok (.if_icmp .ne 7, 3) := by decide +kernel
theorem dX7_holds_40 : decode cX7_holds 40 = .ok (.iconst 1, 1) := by decide +kernel
theorem dX7_holds_41 : decode cX7_holds 41 = .ok (.goto 4, 3) := by decide +kernel
theorem dX7_holds_44 : decode cX7_holds 44 = .ok (.iconst 0, 1) := by decide +kernel
theorem dX7_holds_45 : decode cX7_holds 45 = .ok (.ireturn, 1) := by decide +kernel
theorem dX7_holds_46 : decode cX7_holds 46 = .ok (.aload_n 0, 1) := by decide +kernel
theorem dX7_holds_47 : decode cX7_holds 47 = .ok (.getfield 24, 3) := by decide +kernel
theorem dX7_holds_50 : decode cX7_holds 50 = .ok (.iload_n 1, 1) := by decide +kernel
theorem dX7_holds_51 : decode cX7_holds 51 = .ok (.iaload, 1) := by decide +kernel
theorem dX7_holds_52 : decode cX7_holds 52 = .ok (.bipush 60, 2) := by decide +kernel
theorem dX7_holds_54 : decode cX7_holds 54 = .ok (.if_icmp .ne 17, 3) := by decide +kernel
theorem dX7_holds_57 : decode cX7_holds 57 = .ok (.iload_n 3, 1) := by decide +kernel
theorem dX7_holds_58 : decode cX7_holds 58 = .ok (.iload 4, 2) := by decide +kernel
theorem dX7_holds_60 : decode cX7_holds 60 = .ok (.if_icmp .ge 7, 3) := by decide +kernel
theorem dX7_holds_63 : decode cX7_holds 63 = .ok (.iconst 1, 1) := by decide +kernel
theorem dX7_holds_64 : decode cX7_holds 64 = .ok (.goto 18, 3) := by decide +kernel
theorem dX7_holds_67 : decode cX7_holds 67 = .ok (.iconst 0, 1) := by decide +kernel
theorem dX7_holds_68 : decode cX7_holds 68 = .ok (.goto 14, 3) := by decide +kernel
theorem dX7_holds_71 : decode cX7_holds 71 = .ok (.iload_n 3, 1) := by decide +kernel
theorem dX7_holds_72 : decode cX7_holds 72 = .ok (.iload 4, 2) := by decide +kernel
theorem dX7_holds_74 : decode cX7_holds 74 = .ok (.if_icmp .eq 7, 3) := by decide +kernel
theorem dX7_holds_77 : decode cX7_holds 77 = .ok (.iconst 1, 1) := by decide +kernel
theorem dX7_holds_78 : decode cX7_holds 78 = .ok (.goto 4, 3) := by decide +kernel
theorem dX7_holds_81 : decode cX7_holds 81 = .ok (.iconst 0, 1) := by decide +kernel
theorem dX7_holds_82 : decode cX7_holds 82 = .ok (.ireturn, 1) := by decide +kernel
theorem dX7_sumOf_0 : decode cX7_sumOf 0 = .ok (.iload_n 0, 1) := by decide +kernel
theorem dX7_sumOf_1 : decode cX7_sumOf 1 = .ok (.bipush 15, 2) := by decide +kernel
theorem dX7_sumOf_3 : decode cX7_sumOf 3 = .ok (.iand, 1) := by decide +kernel
theorem dX7_sumOf_4 : decode cX7_sumOf 4 = .ok (.istore_n 2, 1) := by decide +kernel
theorem dX7_sumOf_5 : decode cX7_sumOf 5 = .ok (.iload_n 0, 1) := by decide +kernel
theorem dX7_sumOf_6 : decode cX7_sumOf 6 = .ok (.iconst 4, 1) := by decide +kernel
theorem dX7_sumOf_7 : decode cX7_sumOf 7 = .ok (.ishr, 1) := by decide +kernel
theorem dX7_sumOf_8 : decode cX7_sumOf 8 = .ok (.bipush 15, 2) := by decide +kernel
theorem dX7_sumOf_10 : decode cX7_sumOf 10 = .ok (.iand, 1) := by decide +kernel
theorem dX7_sumOf_11 : decode cX7_sumOf 11 = .ok (.istore_n 3, 1) := by decide +kernel
theorem dX7_sumOf_12 : decode cX7_sumOf 12 = .ok (.iload_n 0, 1) := by decide +kernel
theorem dX7_sumOf_13 : decode cX7_sumOf 13 = .ok (.bipush 8, 2) := by decide +kernel
theorem dX7_sumOf_15 : decode cX7_sumOf 15 = .ok (.ishr, 1) := by decide +kernel
theorem dX7_sumOf_16 : decode cX7_sumOf 16 = .ok (.istore 4, 2) := by decide +kernel
theorem dX7_sumOf_18 : decode cX7_sumOf 18 = .ok (.iload_n 2, 1) := by decide +kernel
theorem dX7_sumOf_19 : decode cX7_sumOf 19 = .ok (.bipush 10, 2) := by decide +kernel
theorem dX7_sumOf_21 : decode cX7_sumOf 21 = .ok (.if_icmp .lt 12, 3) := by decide +kernel
theorem dX7_sumOf_24 : decode cX7_sumOf 24 = .ok (.iload_n 1, 1) := by decide +kernel
theorem dX7_sumOf_25 : decode cX7_sumOf 25 = .ok (.iload_n 2, 1) := by decide +kernel
theorem dX7_sumOf_26 : decode cX7_sumOf 26 = .ok (.bipush 10, 2) := by decide +kernel
theorem dX7_sumOf_28 : decode cX7_sumOf 28 = .ok (.isub, 1) := by decide +kernel
theorem dX7_sumOf_29 : decode cX7_sumOf 29 = .ok (.invokestatic 54, 3) := by decide +kernel
theorem dX7_sumOf_32 : decode cX7_sumOf 32 = .ok (.istore_n 2, 1) := by decide +kernel
theorem dX7_sumOf_33 : decode cX7_sumOf 33 = .ok (.iload_n 3, 1) := by decide +kernel
theorem dX7_sumOf_34 : decode cX7_sumOf 34 = .ok (.bipush 10, 2) := by decide +kernel
theorem dX7_sumOf_36 : decode cX7_sumOf 36 = .ok (.if_icmp .lt 12, 3) := by decide +kernel
theorem dX7_sumOf_39 : decode cX7_sumOf 39 = .ok (.iload_n 1, 1) := by decide +kernel
theorem dX7_sumOf_40 : decode cX7_sumOf 40 = .ok (.iload_n 3, 1) := by decide +kernel
theorem dX7_sumOf_41 : decode cX7_sumOf 41 = .ok (.bipush 10, 2) := by decide +kernel
theorem dX7_sumOf_43 : decode cX7_sumOf 43 = .ok (.isub, 1) := by decide +kernel
theorem dX7_sumOf_44 : decode cX7_sumOf 44 = .ok (.invokestatic 54, 3) := by decide +kernel
theorem dX7_sumOf_47 : decode cX7_sumOf 47 = .ok (.istore_n 3, 1) := by decide +kernel
theorem dX7_sumOf_48 : decode cX7_sumOf 48 = .ok (.iload 4, 2) := by decide +kernel
theorem dX7_sumOf_50 : decode cX7_sumOf 50 = .ok (.iconst 1, 1) := by decide +kernel
theorem dX7_sumOf_51 : decode cX7_sumOf 51 = .ok (.if_icmp .ne 10, 3) := by decide +kernel
theorem dX7_sumOf_54 : decode cX7_sumOf 54 = .ok (.iload_n 2, 1) := by decide +kernel
theorem dX7_sumOf_55 : decode cX7_sumOf 55 = .ok (.iload_n 3, 1) := by decide +kernel
theorem dX7_sumOf_56 : decode cX7_sumOf 56 = .ok (.iadd, 1) := by decide +kernel
theorem dX7_sumOf_57 : decode cX7_sumOf 57 = .ok (.bipush 10, 2) := by decide +kernel
theorem dX7_sumOf_59 : decode cX7_sumOf 59 = .ok (.irem, 1) := by decide +kernel
theorem dX7_sumOf_60 : decode cX7_sumOf 60 = .ok (.ireturn, 1) := by decide +kernel
theorem dX7_sumOf_61 : decode cX7_sumOf 61 = .ok (.iload 4, 2) := by decide +kernel
theorem dX7_sumOf_63 : decode cX7_sumOf 63 = .ok (.iconst 2, 1) := by decide +kernel
theorem dX7_sumOf_64 : decode cX7_sumOf 64 = .ok (.if_icmp .ne 15, 3) := by decide +kernel
theorem dX7_sumOf_67 : decode cX7_sumOf 67 = .ok (.iload_n 2, 1) := by decide +kernel
theorem dX7_sumOf_68 : decode cX7_sumOf 68 = .ok (.bipush 10, 2) := by decide +kernel
theorem dX7_sumOf_70 : decode cX7_sumOf 70 = .ok (.iadd, 1) := by decide +kernel
theorem dX7_sumOf_71 : decode cX7_sumOf 71 = .ok (.iload_n 3, 1) := by decide +kernel
theorem dX7_sumOf_72 : decode cX7_sumOf 72 = .ok (.isub, 1) := by decide +kernel
theorem dX7_sumOf_73 : decode cX7_sumOf 73 = .ok (.bipush 10, 2) := by decide +kernel
theorem dX7_sumOf_75 : decode cX7_sumOf 75 = .ok (.irem, 1) := by decide +kernel
theorem dX7_sumOf_76 : decode cX7_sumOf 76 = .ok (.goto 4, 3) := by decide +kernel
theorem dX7_sumOf_79 : decode cX7_sumOf 79 = .ok (.iload_n 2, 1) := by decide +kernel
theorem dX7_sumOf_80 : decode cX7_sumOf 80 = .ok (.ireturn, 1) := by decide +kernel
theorem dX8_init_0 : decode cX8_init 0 = .ok (.aload_n 0, 1) := by decide +kernel
theorem dX8_init_1 : decode cX8_init 1 = .ok (.invokespecial 3, 3) := by decide +kernel
theorem dX8_init_4 : decode cX8_init 4 = .ok (.aload_n 0, 1) := by decide +kernel
theorem dX8_init_5 : decode cX8_init 5 = .ok (.sipush 400, 3) := by decide +kernel
theorem dX8_init_8 : decode cX8_init 8 = .ok (.newarray .int, 2) := by decide +kernel
theorem dX8_init_10 : decode cX8_init 10 = .ok (.putfield 9, 3) := by decide +kernel
theorem dX8_init_13 : decode cX8_init 13 = .ok (.aload_n 0, 1) := by decide +kernel
theorem dX8_init_14 : decode cX8_init 14 = .ok (.new 15, 3) := by decide +kernel
theorem dX8_init_17 : decode cX8_init 17 = .ok (.dup, 1) := by decide +kernel
theorem dX8_init_18 : decode cX8_init 18 = .ok (.invokespecial 17, 3) := by decide +kernel
theorem dX8_init_21 : decode cX8_init 21 = .ok (.putfield 18, 3) := by decide +kernel
theorem dX8_init_24 : decode cX8_init 24 = .ok (.aload_n 0, 1) := by decide +kernel
theorem dX8_init_25 : decode cX8_init 25 = .ok (.iconst (-1), 1) := by decide +kernel
theorem dX8_init_26 : decode cX8_init 26 = .ok (.putfield 22, 3) := by decide +kernel
theorem dX8_init_29 : decode cX8_init 29 = .ok (.aload_n 0, 1) := by decide +kernel
theorem dX8_init_30 : decode cX8_init 30 = .ok (.bipush 7, 2) := by decide +kernel
theorem dX8_init_32 : decode cX8_init 32 = .ok (.newarray .int, 2) := by decide +kernel
theorem dX8_init_34 : decode cX8_init 34 = .ok (.putfield 26, 3) := by decide +kernel
theorem dX8_init_37 : decode cX8_init 37 = .ok (.aload_n 0, 1) := by decide +kernel
theorem dX8_init_38 : decode cX8_init 38 = .ok (.bipush 7, 2) := by decide +kernel
theorem dX8_init_40 : decode cX8_init 40 = .ok (.newarray .int, 2) := by decide +kernel
theorem dX8_init_42 : decode cX8_init 42 = .ok (.putfield 29, 3) := by decide +kernel
theorem dX8_init_45 : decode cX8_init 45 = .ok (.aload_n 0, 1) := by decide +kernel
theorem dX8_init_46 : decode cX8_init 46 = .ok (.bipush 7, 2) := by decide +kernel
theorem dX8_init_48 : decode cX8_init 48 = .ok (.newarray .boolean, 2) := by decide +kernel
theorem dX8_init_50 : decode cX8_init 50 = .ok (.putfield 32, 3) := by decide +kernel
theorem dX8_init_53 : decode cX8_init 53 = .ok (.return_, 1) := by decide +kernel
theorem dX8_put_0 : decode cX8_put 0 = .ok (.bipush 24, 2) := by decide +kernel
theorem dX8_put_2 : decode cX8_put 2 = .ok (.istore_n 2, 1) := by decide +kernel
theorem dX8_put_3 : decode cX8_put 3 = .ok (.iload_n 2, 1) := by decide +kernel
theorem dX8_put_4 : decode cX8_put 4 = .ok (.ifCond .lt 45, 3) := by decide +kernel
theorem dX8_put_7 : decode cX8_put 7 = .ok (.aload_n 0, 1) := by decide +kernel
theorem dX8_put_8 : decode cX8_put 8 = .ok (.getfield 36, 3) := by decide +kernel
theorem dX8_put_11 : decode cX8_put 11 = .ok (.sipush 400, 3) := by decide +kernel
theorem dX8_put_14 : decode cX8_put 14 = .ok (.if_icmp .ge 35, 3) := by decide +kernel
theorem dX8_put_17 : decode cX8_put 17 = .ok (.aload_n 0, 1) := by decide +kernel
theorem dX8_put_18 : decode cX8_put 18 = .ok (.getfield 9, 3) := by decide +kernel
theorem dX8_put_21 : decode cX8_put 21 = .ok (.aload_n 0, 1) := by decide +kernel
theorem dX8_put_22 : decode cX8_put 22 = .ok (.getfield 36, 3) := by decide +kernel
theorem dX8_put_25 : decode cX8_put 25 = .ok (.iload_n 1, 1) := by decide +kernel
theorem dX8_put_26 : decode cX8_put 26 = .ok (.iload_n 2, 1) := by decide +kernel
theorem dX8_put_27 : decode cX8_put 27 = .ok (.ishr, 1) := by decide +kernel
theorem dX8_put_28 : decode cX8_put 28 = .ok (.sipush 255, 3) := by decide +kernel
theorem dX8_put_31 : decode cX8_put 31 = .ok (.iand, 1) := by decide +kernel
theorem dX8_put_32 : decode cX8_put 32 = .ok (.iastore, 1) := by decide +kernel
theorem dX8_put_33 : decode cX8_put 33 = .ok (.aload_n 0, 1) := by decide +kernel
theorem dX8_put_34 : decode cX8_put 34 = .ok (.dup, 1) := by decide +kernel
theorem dX8_put_35 : decode cX8_put 35 = .ok (.getfield 36, 3) := by decide +kernel
theorem dX8_put_38 : decode cX8_put 38 = .ok (.iconst 1, 1) := by decide +kernel
theorem dX8_put_39 : decode cX8_put 39 = .ok (.iadd, 1) := by decide +kernel
theorem dX8_put_40 : decode cX8_put 40 = .ok (.putfield 36, 3) := by decide +kernel
theorem dX8_put_43 : decode cX8_put 43 = .ok (.iinc 2 (-8), 3) := by decide +kernel
theorem dX8_put_46 : decode cX8_put 46 = .ok (.goto (-43), 3) := by decide +kernel
theorem dX8_put_49 : decode cX8_put 49 = .ok (.return_, 1) := by decide +kernel
theorem dX8_read_0 : decode cX8_read 0 = .ok (.aload_n 0, 1) := by decide +kernel
theorem dX8_read_1 : decode cX8_read 1 = .ok (.iload_n 1, 1) := by decide +kernel
theorem dX8_read_2 : decode cX8_read 2 = .ok (.aload_n 0, 1) := by decide +kernel
theorem dX8_read_3 : decode cX8_read 3 = .ok (.getfield 36, 3) := by decide +kernel
theorem dX8_read_6 : decode cX8_read 6 = .ok (.invokestatic 39, 3) := by decide +kernel
theorem dX8_read_9 : decode cX8_read 9 = .ok (.putfield 45, 3) := by decide +kernel
theorem dX8_read_12 : decode cX8_read 12 = .ok (.aload_n 0, 1) := by decide +kernel
theorem dX8_read_13 : decode cX8_read 13 = .ok (.iconst 0, 1) := by decide +kernel
theorem dX8_read_14 : decode cX8_read 14 = .ok (.putfield 36, 3) := by decide +kernel
theorem dX8_read_17 : decode cX8_read 17 = .ok (.aload_n 0, 1) := by decide +kernel
theorem dX8_read_18 : decode cX8_read 18 = .ok (.iconst 0, 1) := by decide +kernel
theorem dX8_read_19 : decode cX8_read 19 = .ok (.putfield 48, 3) := by decide +kernel
theorem dX8_read_22 : decode cX8_read 22 = .ok (.aload_n 0, 1) := by decide +kernel
theorem dX8_read_23 : decode cX8_read 23 = .ok (.iconst 0, 1) := by decide +kernel
theorem dX8_read_24 : decode cX8_read 24 = .ok (.putfield 51, 3) := by decide +kernel
theorem dX8_read_27 : decode cX8_read 27 = .ok (.aload_n 0, 1) := by decide +kernel
theorem dX8_read_28 : decode cX8_read 28 = .ok (.iconst (-1), 1) := by decide +kernel
theorem dX8_read_29 : decode cX8_read 29 = .ok (.putfield 22, 3) := by decide +kernel
theorem dX8_read_32 : decode cX8_read 32 = .ok (.aload_n 0, 1) := by decide +kernel
theorem dX8_read_33 : decode cX8_read 33 = .ok (.iconst 0, 1) := by decide +kernel
theorem dX8_read_34 : decode cX8_read 34 = .ok (.putfield 54, 3) := by decide +kernel
theorem dX8_read_37 : decode cX8_read 37 = .ok (.aload_n 0, 1) := by decide +kernel
theorem dX8_read_38 : decode cX8_read 38 = .ok (.getfield 26, 3) := by decide +kernel
theorem dX8_read_41 : decode cX8_read 41 = .ok (.iconst 0, 1) := by decide +kernel
theorem dX8_read_42 : decode cX8_read 42 = .ok (.iconst (-1), 1) := by decide +kernel
theorem dX8_read_43 : decode cX8_read 43 = .ok (.iastore, 1) := by decide +kernel
theorem dX8_read_44 : decode cX8_read 44 = .ok (.aload_n 0, 1) := by decide +kernel
theorem dX8_read_45 : decode cX8_read 45 = .ok (.getfield 29, 3) := by decide +kernel
theorem dX8_read_48 : decode cX8_read 48 = .ok (.iconst 0, 1) := by decide +kernel
theorem dX8_read_49 : decode cX8_read 49 = .ok (.iconst (-1), 1) := by decide +kernel
theorem dX8_read_50 : decode cX8_read 50 = .ok (.iastore, 1) := by decide +kernel
theorem dX8_read_51 : decode cX8_read 51 = .ok (.aload_n 0, 1) := by decide +kernel
theorem dX8_read_52 : decode cX8_read 52 = .ok (.getfield 18, 3) := by decide +kernel
theorem dX8_read_55 : decode cX8_read 55 = .ok (.invokevirtual 57, 3) := by decide +kernel
theorem dX8_read_58 : decode cX8_read 58 = .ok (.aload_n 0, 1) := by decide +kernel
theorem dX8_read_59 : decode cX8_read 59 = .ok (.invokevirtual 60, 3) := by decide +kernel
theorem dX8_read_62 : decode cX8_read 62 = .ok (.iconst 0, 1) := by decide +kernel
theorem dX8_read_63 : decode cX8_read 63 = .ok (.istore_n 2, 1) := by decide +kernel
theorem dX8_read_64 : decode cX8_read 64 = .ok (.iload_n 2, 1) := by decide +kernel
theorem dX8_read_65 : decode cX8_read 65 = .ok (.aload_n 0, 1) := by decide +kernel
theorem dX8_read_66 : decode cX8_read 66 = .ok (.getfield 45, 3) := by decide +kernel
theorem dX8_read_69 : decode cX8_read 69 = .ok (.if_icmp .gt 57, 3) := by decide +kernel
theorem dX8_read_72 : decode cX8_read 72 = .ok (.aload_n 0, 1) := by decide +kernel
theorem dX8_read_73 : decode cX8_read 73 = .ok (.getfield 51, 3) := by decide +kernel
theorem dX8_read_76 : decode cX8_read 76 = .ok (.ifCond .ne 50, 3) := by decide +kernel
theorem dX8_read_79 : decode cX8_read 79 = .ok (.aload_n 0, 1) := by decide +kernel
theorem dX8_read_80 : decode cX8_read 80 = .ok (.getfield 54, 3) := by decide +kernel
theorem dX8_read_83 : decode cX8_read 83 = .ok (.ifCond .gt 10, 3) := by decide +kernel
theorem dX8_read_86 : decode cX8_read 86 = .ok (.aload_n 0, 1) := by decide +kernel
theorem dX8_read_87 : decode cX8_read 87 = .ok (.getfield 63, 3) := by decide +kernel
theorem dX8_read_90 : decode cX8_read 90 = .ok (.ifCond .eq 36, 3) := by decide +kernel
theorem dX8_read_93 : decode cX8_read 93 = .ok (.aload_n 0, 1) := by decide +kernel
theorem dX8_read_94 : decode cX8_read 94 = .ok (.getfield 54, 3) := by decide +kernel
theorem dX8_read_97 : decode cX8_read 97 = .ok (.ifCond .le 19, 3) := by decide +kernel
theorem dX8_read_100 : decode cX8_read 100 = .ok (.aload_n 0, 1) := by decide +kernel
theorem dX8_read_101 : decode cX8_read 101 = .ok (.bipush 125, 2) := by decide +kernel
theorem dX8_read_103 : decode cX8_read 103 = .ok (.invokevirtual 66, 3) := by decide +kernel
theorem dX8_read_106 : decode cX8_read 106 = .ok (.ifCond .eq 10, 3) := by decide +kernel
theorem dX8_read_109 : decode cX8_read 109 = .ok (.aload_n 0, 1) := by decide +kernel
theorem dX8_read_110 : decode cX8_read 110 = .ok (.invokevirtual 70, 3) := by decide +kernel
theorem dX8_read_113 : decode cX8_read 113 = .ok (.goto 7, 3) := by decide +kernel
theorem dX8_read_116 : decode cX8_read 116 = .ok (.aload_n 0, 1) := by decide +kernel
theorem dX8_read_117 : decode cX8_read 117 = .ok (.invokevirtual 73, 3) := by decide +kernel
theorem dX8_read_120 : decode cX8_read 120 = .ok (.iinc 2 1, 3) := by decide +kernel
theorem dX8_read_123 : decode cX8_read 123 = .ok (.goto (-59), 3) := by decide +kernel
theorem dX8_read_126 : decode cX8_read 126 = .ok (.aload_n 0, 1) := by decide +kernel
theorem dX8_read_127 : decode cX8_read 127 = .ok (.getfield 51, 3) := by decide +kernel
theorem dX8_read_130 : decode cX8_read 130 = .ok (.ifCond .ne 10, 3) := by decide +kernel
theorem dX8_read_133 : decode cX8_read 133 = .ok (.aload_n 0, 1) := by decide +kernel
theorem dX8_read_134 : decode cX8_read 134 = .ok (.getfield 18, 3) := by decide +kernel
theorem dX8_read_137 : decode cX8_read 137 = .ok (.invokevirtual 76, 3) := by decide +kernel
theorem dX8_read_140 : decode cX8_read 140 = .ok (.aload_n 0, 1) := by decide +kernel
theorem dX8_read_141 : decode cX8_read 141 = .ok (.getfield 51, 3) := by decide +kernel
theorem dX8_read_144 : decode cX8_read 144 = .ok (.ireturn, 1) := by decide +kernel
theorem dX8_faultPlace_0 : decode cX8_faultPlace 0 = .ok (.aload_n 0, 1) := by decide +kernel
theorem dX8_faultPlace_1 : decode cX8_faultPlace 1 = .ok (.getfield 22, 3) := by decide +kernel
theorem dX8_faultPlace_4 : decode cX8_faultPlace 4 = .ok (.ireturn, 1) := by decide +kernel
theorem dX8_exchange_0 : decode cX8_exchange 0 = .ok (.aload_n 0, 1) := by decide +kernel
theorem dX8_exchange_1 : decode cX8_exchange 1 = .ok (.getfield 18, 3) := by decide +kernel
theorem dX8_exchange_4 : decode cX8_exchange 4 = .ok (.astore_n 2, 1) := by decide +kernel
theorem dX8_exchange_5 : decode cX8_exchange 5 = .ok (.aload_n 0, 1) := by decide +kernel
theorem dX8_exchange_6 : decode cX8_exchange 6 = .ok (.aload_n 1, 1) := by decide +kernel
theorem dX8_exchange_7 : decode cX8_exchange 7 = .ok (.putfield 18, 3) := by decide +kernel
theorem dX8_exchange_10 : decode cX8_exchange 10 = .ok (.aload_n 2, 1) := by decide +kernel
theorem dX8_exchange_11 : decode cX8_exchange 11 = .ok (.areturn, 1) := by decide +kernel
theorem dX8_fail_0 : decode cX8_fail 0 = .ok (.aload_n 0, 1) := by decide +kernel
theorem dX8_fail_1 : decode cX8_fail 1 = .ok (.getfield 51, 3) := by decide +kernel
theorem dX8_fail_4 : decode cX8_fail 4 = .ok (.ifCond .ne 16, 3) := by decide +kernel
theorem dX8_fail_7 : decode cX8_fail 7 = .ok (.aload_n 0, 1) := by decide +kernel
theorem dX8_fail_8 : decode cX8_fail 8 = .ok (.iload_n 1, 1) := by decide +kernel
theorem dX8_fail_9 : decode cX8_fail 9 = .ok (.putfield 51, 3) := by decide +kernel
theorem dX8_fail_12 : decode cX8_fail 12 = .ok (.aload_n 0, 1) := by decide +kernel
theorem dX8_fail_13 : decode cX8_fail 13 = .ok (.aload_n 0, 1) := by decide +kernel
theorem dX8_fail_14 : decode cX8_fail 14 = .ok (.getfield 79, 3) := by decide +kernel
theorem dX8_fail_17 : decode cX8_fail 17 = .ok (.putfield 22, 3) := by decide +kernel
theorem dX8_fail_20 : decode cX8_fail 20 = .ok (.return_, 1) := by decide +kernel
theorem dX8_goOn_0 : decode cX8_goOn 0 = .ok (.aload_n 0, 1) := by decide +kernel
theorem dX8_goOn_1 : decode cX8_goOn 1 = .ok (.getfield 51, 3) := by decide +kernel
theorem dX8_goOn_4 : decode cX8_goOn 4 = .ok (.ifCond .eq 4, 3) := by decide +kernel
theorem dX8_goOn_7 : decode cX8_goOn 7 = .ok (.return_, 1) := by decide +kernel
theorem dX8_goOn_8 : decode cX8_goOn 8 = .ok (.aload_n 0, 1) := by decide +kernel
theorem dX8_goOn_9 : decode cX8_goOn 9 = .ok (.aload_n 0, 1) := by decide +kernel
theorem dX8_goOn_10 : decode cX8_goOn 10 = .ok (.getfield 48, 3) := by decide +kernel
theorem dX8_goOn_13 : decode cX8_goOn 13 = .ok (.putfield 79, 3) := by decide +kernel
theorem dX8_goOn_16 : decode cX8_goOn 16 = .ok (.aload_n 0, 1) := by decide +kernel
theorem dX8_goOn_17 : decode cX8_goOn 17 = .ok (.getfield 79, 3) := by decide +kernel
theorem dX8_goOn_20 : decode cX8_goOn 20 = .ok (.aload_n 0, 1) := by decide +kernel
theorem dX8_goOn_21 : decode cX8_goOn 21 = .ok (.getfield 45, 3) := by decide +kernel
theorem dX8_goOn_24 : decode cX8_goOn 24 = .ok (.if_icmp .ge 30, 3) := by decide +kernel
theorem dX8_goOn_27 : decode cX8_goOn 27 = .ok (.aload_n 0, 1) := by decide +kernel
theorem dX8_goOn_28 : decode cX8_goOn 28 = .ok (.getfield 9, 3) := by decide +kernel
theorem dX8_goOn_31 : decode cX8_goOn 31 = .ok (.aload_n 0, 1) := by decide +kernel
theorem dX8_goOn_32 : decode cX8_goOn 32 = .ok (.getfield 79, 3) := by decide +kernel
theorem dX8_goOn_35 : decode cX8_goOn 35 = .ok (.iaload, 1) := by decide +kernel
theorem dX8_goOn_36 : decode cX8_goOn 36 = .ok (.bipush 32, 2) := by decide +kernel
theorem dX8_goOn_38 : decode cX8_goOn 38 = .ok (.if_icmp .ne 16, 3) := by decide +kernel
theorem dX8_goOn_41 : decode cX8_goOn 41 = .ok (.aload_n 0, 1) := by decide +kernel
theorem dX8_goOn_42 : decode cX8_goOn 42 = .ok (.dup, 1) := by decide +kernel
theorem dX8_goOn_43 : decode cX8_goOn 43 = .ok (.getfield 79, 3) := by decide +kernel
theorem dX8_goOn_46 : decode cX8_goOn 46 = .ok (.iconst 1, 1) := by decide +kernel
theorem dX8_goOn_47 : decode cX8_goOn 47 = .ok (.iadd, 1) := by decide +kernel
theorem dX8_goOn_48 : decode cX8_goOn 48 = .ok (.putfield 79, 3) := by decide +kernel
theorem dX8_goOn_51 : decode cX8_goOn 51 = .ok (.goto (-35), 3) := by decide +kernel
theorem dX8_goOn_54 : decode cX8_goOn 54 = .ok (.aload_n 0, 1) := by decide +kernel
theorem dX8_goOn_55 : decode cX8_goOn 55 = .ok (.aload_n 0, 1) := by decide +kernel
theorem dX8_goOn_56 : decode cX8_goOn 56 = .ok (.getfield 79, 3) := by decide +kernel
theorem dX8_goOn_59 : decode cX8_goOn 59 = .ok (.putfield 48, 3) := by decide +kernel
theorem dX8_goOn_62 : decode cX8_goOn 62 = .ok (.aload_n 0, 1) := by decide +kernel
theorem dX8_goOn_63 : decode cX8_goOn 63 = .ok (.iconst 0, 1) := by decide +kernel
theorem dX8_goOn_64 : decode cX8_goOn 64 = .ok (.putfield 82, 3) := by decide +kernel
theorem dX8_goOn_67 : decode cX8_goOn 67 = .ok (.aload_n 0, 1) := by decide +kernel
theorem dX8_goOn_68 : decode cX8_goOn 68 = .ok (.iconst 0, 1) := by decide +kernel
theorem dX8_goOn_69 : decode cX8_goOn 69 = .ok (.putfield 63, 3) := by decide +kernel
theorem dX8_goOn_72 : decode cX8_goOn 72 = .ok (.aload_n 0, 1) := by decide +kernel
theorem dX8_goOn_73 : decode cX8_goOn 73 = .ok (.getfield 48, 3) := by decide +kernel
theorem dX8_goOn_76 : decode cX8_goOn 76 = .ok (.aload_n 0, 1) := by decide +kernel
theorem dX8_goOn_77 : decode cX8_goOn 77 = .ok (.getfield 45, 3) := by decide +kernel
theorem dX8_goOn_80 : decode cX8_goOn 80 = .ok (.if_icmp .ge 49, 3) := by decide +kernel
theorem dX8_goOn_83 : decode cX8_goOn 83 = .ok (.aload_n 0, 1) := by decide +kernel
theorem dX8_goOn_84 : decode cX8_goOn 84 = .ok (.getfield 9, 3) := by decide +kernel
theorem dX8_goOn_87 : decode cX8_goOn 87 = .ok (.aload_n 0, 1) := by decide +kernel
theorem dX8_goOn_88 : decode cX8_goOn 88 = .ok (.getfield 48, 3) := by decide +kernel
theorem dX8_goOn_91 : decode cX8_goOn 91 = .ok (.iaload, 1) := by decide +kernel
theorem dX8_goOn_92 : decode cX8_goOn 92 = .ok (.bipush 97, 2) := by decide +kernel
theorem dX8_goOn_94 : decode cX8_goOn 94 = .ok (.if_icmp .lt 35, 3) := by decide +kernel
theorem dX8_goOn_97 : decode cX8_goOn 97 = .ok (.aload_n 0, 1) := by decide +kernel
theorem dX8_goOn_98 : decode cX8_goOn 98 = .ok (.getfield 9, 3) := by decide +kernel
theorem dX8_goOn_101 : decode cX8_goOn 101 = .ok (.aload_n 0, 1) := by decide +kernel
theorem dX8_goOn_102 : decode cX8_goOn 102 = .ok (.getfield 48, 3) := by decide +kernel
theorem dX8_goOn_105 : decode cX8_goOn 105 = .ok (.iaload, 1) := by decide +kernel
theorem dX8_goOn_106 : decode cX8_goOn 106 = .ok (.bipush 122, 2) := by decide +kernel
theorem dX8_goOn_108 : decode cX8_goOn 108 = .ok (.if_icmp .gt 21, 3) := by decide +kernel
theorem dX8_goOn_111 : decode cX8_goOn 111 = .ok (.aload_n 0, 1) := by decide +kernel
theorem dX8_goOn_112 : decode cX8_goOn 112 = .ok (.iconst 1, 1) := by decide +kernel
theorem dX8_goOn_113 : decode cX8_goOn 113 = .ok (.putfield 63, 3) := by decide +kernel
theorem dX8_goOn_116 : decode cX8_goOn 116 = .ok (.aload_n 0, 1) := by decide +kernel
theorem dX8_goOn_117 : decode cX8_goOn 117 = .ok (.dup, 1) := by decide +kernel
theorem dX8_goOn_118 : decode cX8_goOn 118 = .ok (.getfield 48, 3) := by decide +kernel
theorem dX8_goOn_121 : decode cX8_goOn 121 = .ok (.iconst 1, 1) := by decide +kernel
theorem dX8_goOn_122 : decode cX8_goOn 122 = .ok (.iadd, 1) := by decide +kernel
theorem dX8_goOn_123 : decode cX8_goOn 123 = .ok (.putfield 48, 3) := by decide +kernel
theorem dX8_goOn_126 : decode cX8_goOn 126 = .ok (.goto (-54), 3) := by decide +kernel
theorem dX8_goOn_129 : decode cX8_goOn 129 = .ok (.aload_n 0, 1) := by decide +kernel
theorem dX8_goOn_130 : decode cX8_goOn 130 = .ok (.getfield 63, 3) := by decide +kernel
theorem dX8_goOn_133 : decode cX8_goOn 133 = .ok (.iconst 1, 1) := by decide +kernel
theorem dX8_goOn_134 : decode cX8_goOn 134 = .ok (.if_icmp .eq 100, 3) := by decide +kernel
theorem dX8_goOn_137 : decode cX8_goOn 137 = .ok (.aload_n 0, 1) := by decide +kernel
theorem dX8_goOn_138 : decode cX8_goOn 138 = .ok (.getfield 48, 3) := by decide +kernel
theorem dX8_goOn_141 : decode cX8_goOn 141 = .ok (.aload_n 0, 1) := by decide +kernel
theorem dX8_goOn_142 : decode cX8_goOn 142 = .ok (.getfield 45, 3) := by decide +kernel
theorem dX8_goOn_145 : decode cX8_goOn 145 = .ok (.if_icmp .ge 89, 3) := by decide +kernel
theorem dX8_goOn_148 : decode cX8_goOn 148 = .ok (.aload_n 0, 1) := by decide +kernel
theorem dX8_goOn_149 : decode cX8_goOn 149 = .ok (.getfield 9, 3) := by decide +kernel
theorem dX8_goOn_152 : decode cX8_goOn 152 = .ok (.aload_n 0, 1) := by decide +kernel
theorem dX8_goOn_153 : decode cX8_goOn 153 = .ok (.getfield 48, 3) := by decide +kernel
theorem dX8_goOn_156 : decode cX8_goOn 156 = .ok (.iaload, 1) := by decide +kernel
theorem dX8_goOn_157 : decode cX8_goOn 157 = .ok (.bipush 48, 2) := by decide +kernel
theorem dX8_goOn_159 : decode cX8_goOn 159 = .ok (.if_icmp .lt 75, 3) := by decide +kernel
theorem dX8_goOn_162 : decode cX8_goOn 162 = .ok (.aload_n 0, 1) := by decide +kernel
theorem dX8_goOn_163 : decode cX8_goOn 163 = .ok (.getfield 9, 3) := by decide +kernel
theorem dX8_goOn_166 : decode cX8_goOn 166 = .ok (.aload_n 0, 1) := by decide +kernel
theorem dX8_goOn_167 : decode cX8_goOn 167 = .ok (.getfield 48, 3) := by decide +kernel
theorem dX8_goOn_170 : decode cX8_goOn 170 = .ok (.iaload, 1) := by decide +kernel
theorem dX8_goOn_171 : decode cX8_goOn 171 = .ok (.bipush 57, 2) := by decide +kernel
theorem dX8_goOn_173 : decode cX8_goOn 173 = .ok (.if_icmp .gt 61, 3) := by decide +kernel
theorem dX8_goOn_176 : decode cX8_goOn 176 = .ok (.aload_n 0, 1) := by decide +kernel
theorem dX8_goOn_177 : decode cX8_goOn 177 = .ok (.iconst 2, 1) := by decide +kernel
theorem dX8_goOn_178 : decode cX8_goOn 178 = .ok (.putfield 63, 3) := by decide +kernel
theorem dX8_goOn_181 : decode cX8_goOn 181 = .ok (.aload_n 0, 1) := by decide +kernel
theorem dX8_goOn_182 : decode cX8_goOn 182 = .ok (.aload_n 0, 1) := by decide +kernel
theorem dX8_goOn_183 : decode cX8_goOn 183 = .ok (.getfield 82, 3) := by decide +kernel
theorem dX8_goOn_186 : decode cX8_goOn 186 = .ok (.sipush 1000, 3) := by decide +kernel
theorem dX8_goOn_189 : decode cX8_goOn 189 = .ok (.if_icmp .ge 26, 3) := by decide +kernel
theorem dX8_goOn_192 : decode cX8_goOn 192 = .ok (.bipush 10, 2) := by decide +kernel
theorem dX8_goOn_194 : decode cX8_goOn 194 = .ok (.aload_n 0, 1) := by decide +kernel
theorem dX8_goOn_195 : decode cX8_goOn 195 = .ok (.getfield 82, 3) := by decide +kernel
theorem dX8_goOn_198 : decode cX8_goOn 198 = .ok (.imul, 1) := by decide +kernel
theorem dX8_goOn_199 : decode cX8_goOn 199 = .ok (.aload_n 0, 1) := by decide +kernel
theorem dX8_goOn_200 : decode cX8_goOn 200 = .ok (.getfield 9, 3) := by decide +kernel
theorem dX8_goOn_203 : decode cX8_goOn 203 = .ok (.aload_n 0, 1) := by decide +kernel
theorem dX8_goOn_204 : decode cX8_goOn 204 = .ok (.getfield 48, 3) := by decide +kernel
theorem dX8_goOn_207 : decode cX8_goOn 207 = .ok (.iaload, 1) := by decide +kernel
theorem dX8_goOn_208 : decode cX8_goOn 208 = .ok (.iadd, 1) := by decide +kernel
theorem dX8_goOn_209 : decode cX8_goOn 209 = .ok (.bipush 48, 2) := by decide +kernel
theorem dX8_goOn_211 : decode cX8_goOn 211 = .ok (.isub, 1) := by decide +kernel
theorem dX8_goOn_212 : decode cX8_goOn 212 = .ok (.goto 6, 3) := by decide +kernel
theorem dX8_goOn_215 : decode cX8_goOn 215 = .ok (.sipush 1000, 3) := by decide +kernel
theorem dX8_goOn_218 : decode cX8_goOn 218 = .ok (.putfield 82, 3) := by decide +kernel
theorem dX8_goOn_221 : decode cX8_goOn 221 = .ok (.aload_n 0, 1) := by decide +kernel
theorem dX8_goOn_222 : decode cX8_goOn 222 = .ok (.dup, 1) := by decide +kernel
theorem dX8_goOn_223 : decode cX8_goOn 223 = .ok (.getfield 48, 3) := by decide +kernel
theorem dX8_goOn_226 : decode cX8_goOn 226 = .ok (.iconst 1, 1) := by decide +kernel
theorem dX8_goOn_227 : decode cX8_goOn 227 = .ok (.iadd, 1) := by decide +kernel
theorem dX8_goOn_228 : decode cX8_goOn 228 = .ok (.putfield 48, 3) := by decide +kernel
theorem dX8_goOn_231 : decode cX8_goOn 231 = .ok (.goto (-102), 3) := by decide +kernel
theorem dX8_goOn_234 : decode cX8_goOn 234 = .ok (.aload_n 0, 1) := by decide +kernel
theorem dX8_goOn_235 : decode cX8_goOn 235 = .ok (.getfield 63, 3) := by decide +kernel
theorem dX8_goOn_238 : decode cX8_goOn 238 = .ok (.ifCond .ne 29, 3) := by decide +kernel
theorem dX8_goOn_241 : decode cX8_goOn 241 = .ok (.aload_n 0, 1) := by decide +kernel
theorem dX8_goOn_242 : decode cX8_goOn 242 = .ok (.getfield 48, 3) := by decide +kernel
theorem dX8_goOn_245 : decode cX8_goOn 245 = .ok (.aload_n 0, 1) := by decide +kernel
theorem dX8_goOn_246 : decode cX8_goOn 246 = .ok (.getfield 45, 3) := by decide +kernel
theorem dX8_goOn_249 : decode cX8_goOn 249 = .ok (.if_icmp .ge 18, 3) := by decide +kernel
theorem dX8_goOn_252 : decode cX8_goOn 252 = .ok (.aload_n 0, 1) := by decide +kernel
theorem dX8_goOn_253 : decode cX8_goOn 253 = .ok (.iconst 3, 1) := by decide +kernel
theorem dX8_goOn_254 : decode cX8_goOn 254 = .ok (.putfield 63, 3) := by decide +kernel
theorem dX8_goOn_257 : decode cX8_goOn 257 = .ok (.aload_n 0, 1) := by decide +kernel
theorem dX8_goOn_258 : decode cX8_goOn 258 = .ok (.dup, 1) := by decide +kernel
theorem dX8_goOn_259 : decode cX8_goOn 259 = .ok (.getfield 48, 3) := by decide +kernel
theorem dX8_goOn_262 : decode cX8_goOn 262 = .ok (.iconst 1, 1) := by decide +kernel
theorem dX8_goOn_263 : decode cX8_goOn 263 = .ok (.iadd, 1) := by decide +kernel
theorem dX8_goOn_264 : decode cX8_goOn 264 = .ok (.putfield 48, 3) := by decide +kernel
theorem dX8_goOn_267 : decode cX8_goOn 267 = .ok (.return_, 1) := by decide +kernel
theorem dX8_isSign_0 : decode cX8_isSign 0 = .ok (.aload_n 0, 1) := by decide +kernel
theorem dX8_isSign_1 : decode cX8_isSign 1 = .ok (.getfield 63, 3) := by decide +kernel
theorem dX8_isSign_4 : decode cX8_isSign 4 = .ok (.iconst 3, 1) := by decide +kernel
theorem dX8_isSign_5 : decode cX8_isSign 5 = .ok (.if_icmp .ne 20, 3) := by decide +kernel
theorem dX8_isSign_8 : decode cX8_isSign 8 = .ok (.aload_n 0, 1) := by decide +kernel
theorem dX8_isSign_9 : decode cX8_isSign 9 = .ok (.getfield 9, 3) := by decide +kernel
theorem dX8_isSign_12 : decode cX8_isSign 12 = .ok (.aload_n 0, 1) := by decide +kernel
theorem dX8_isSign_13 : decode cX8_isSign 13 = .ok (.getfield 79, 3) := by decide +kernel
theorem dX8_isSign_16 : decode cX8_isSign 16 = .ok (.iaload, 1) := by decide +kernel
theorem dX8_isSign_17 : decode cX8_isSign 17 = .ok (.iload_n 1, 1) := by decide +kernel
theorem dX8_isSign_18 : decode cX8_isSign 18 = .ok (.if_icmp .ne 7, 3) := by decide +kernel
theorem dX8_isSign_21 : decode cX8_isSign 21 = .ok (.iconst 1, 1) := by decide +kernel
theorem dX8_isSign_22 : decode cX8_isSign 22 = .ok (.goto 4, 3) := by decide +kernel
theorem dX8_isSign_25 : decode cX8_isSign 25 = .ok (.iconst 0, 1) := by decide +kernel
theorem dX8_isSign_26 : decode cX8_isSign 26 = .ok (.ireturn, 1) := by decide +kernel
theorem dX8_isWord_0 : decode cX8_isWord 0 = .ok (.aload_n 0, 1) := by decide +kernel
theorem dX8_isWord_1 : decode cX8_isWord 1 = .ok (.getfield 63, 3) := by decide +kernel
theorem dX8_isWord_4 : decode cX8_isWord 4 = .ok (.iconst 1, 1) := by decide +kernel
theorem dX8_isWord_5 : decode cX8_isWord 5 = .ok (.if_icmp .ne 19, 3) := by decide +kernel
theorem dX8_isWord_8 : decode cX8_isWord 8 = .ok (.aload_n 0, 1) := by decide +kernel
theorem dX8_isWord_9 : decode cX8_isWord 9 = .ok (.getfield 48, 3) := by decide +kernel
theorem dX8_isWord_12 : decode cX8_isWord 12 = .ok (.aload_n 0, 1) := by decide +kernel
theorem dX8_isWord_13 : decode cX8_isWord 13 = .ok (.getfield 79, 3) := by decide +kernel
theorem dX8_isWord_16 : decode cX8_isWord 16 = .ok (.isub, 1) := by decide +kernel
theorem dX8_isWord_17 : decode cX8_isWord 17 = .ok (.aload_n 1, 1) := by decide +kernel
theorem dX8_isWord_18 : decode cX8_isWord 18 = .ok (.invokevirtual 85, 3) := by decide +kernel
