theorem dX11_independent_95 : decode cX11_independent 95 = .ok (.iload_n 2, 1) := by decide +kernel
theorem dX11_independent_96 : decode cX11_independent 96 = .ok (.iload 4, 2) := by decide +kernel
theorem dX11_independent_98 : decode cX11_independent 98 = .ok (.invokevirtual 367, 3) := by decide +kernel
theorem dX11_independent_101 : decode cX11_independent 101 = .ok (.lmul, 1) := by decide +kernel
theorem dX11_independent_102 : decode cX11_independent 102 = .ok (.ldc2_w 279, 3) := by decide +kernel
theorem dX11_independent_105 : decode cX11_independent 105 = .ok (.lrem, 1) := by decide +kernel
theorem dX11_independent_106 : decode cX11_independent 106 = .ok (.lcmp, 1) := by decide +kernel
theorem dX11_independent_107 : decode cX11_independent 107 = .ok (.ifCond .eq 5, 3) := by decide +kernel
theorem dX11_independent_110 : decode cX11_independent 110 = .ok (.iconst 0, 1) := by decide +kernel
theorem dX11_independent_111 : decode cX11_independent 111 = .ok (.ireturn, 1) := by decide +kernel
theorem dX11_independent_112 : decode cX11_independent 112 = .ok (.iinc 4 1, 3) := by decide +kernel
theorem dX11_independent_115 : decode cX11_independent 115 = .ok (.goto (-43), 3) := by decide +kernel
theorem dX11_independent_118 : decode cX11_independent 118 = .ok (.iinc 3 1, 3) := by decide +kernel
theorem dX11_independent_121 : decode cX11_independent 121 = .ok (.goto (-58), 3) := by decide +kernel
theorem dX11_independent_124 : decode cX11_independent 124 = .ok (.iconst 1, 1) := by decide +kernel
theorem dX11_independent_125 : decode cX11_independent 125 = .ok (.ireturn, 1) := by decide +kernel
theorem dX11_visits_0 : decode cX11_visits 0 = .ok (.aload_n 0, 1) := by decide +kernel
theorem dX11_visits_1 : decode cX11_visits 1 = .ok (.iconst 0, 1) := by decide +kernel
theorem dX11_visits_2 : decode cX11_visits 2 = .ok (.putfield 1, 3) := by decide +kernel
theorem dX11_visits_5 : decode cX11_visits 5 = .ok (.aload_n 0, 1) := by decide +kernel
theorem dX11_visits_6 : decode cX11_visits 6 = .ok (.invokevirtual 335, 3) := by decide +kernel
theorem dX11_visits_9 : decode cX11_visits 9 = .ok (.ifCond .eq 31, 3) := by decide +kernel
theorem dX11_visits_12 : decode cX11_visits 12 = .ok (.aload_n 0, 1) := by decide +kernel
theorem dX11_visits_13 : decode cX11_visits 13 = .ok (.aload_n 0, 1) := by decide +kernel
theorem dX11_visits_14 : decode cX11_visits 14 = .ok (.iload_n 1, 1) := by decide +kernel
theorem dX11_visits_15 : decode cX11_visits 15 = .ok (.invokevirtual 338, 3) := by decide +kernel
theorem dX11_visits_18 : decode cX11_visits 18 = .ok (.iconst 2, 1) := by decide +kernel
theorem dX11_visits_19 : decode cX11_visits 19 = .ok (.iconst 0, 1) := by decide +kernel
theorem dX11_visits_20 : decode cX11_visits 20 = .ok (.invokevirtual 161, 3) := by decide +kernel
theorem dX11_visits_23 : decode cX11_visits 23 = .ok (.ifCond .eq 17, 3) := by decide +kernel
theorem dX11_visits_26 : decode cX11_visits 26 = .ok (.aload_n 0, 1) := by decide +kernel
theorem dX11_visits_27 : decode cX11_visits 27 = .ok (.aload_n 0, 1) := by decide +kernel
theorem dX11_visits_28 : decode cX11_visits 28 = .ok (.iload_n 2, 1) := by decide +kernel
theorem dX11_visits_29 : decode cX11_visits 29 = .ok (.invokevirtual 341, 3) := by decide +kernel
theorem dX11_visits_32 : decode cX11_visits 32 = .ok (.iconst 3, 1) := by decide +kernel
theorem dX11_visits_33 : decode cX11_visits 33 = .ok (.iconst 1, 1) := by decide +kernel
theorem dX11_visits_34 : decode cX11_visits 34 = .ok (.invokevirtual 161, 3) := by decide +kernel
theorem dX11_visits_37 : decode cX11_visits 37 = .ok (.ifCond .ne 5, 3) := by decide +kernel
theorem dX11_visits_40 : decode cX11_visits 40 = .ok (.iconst 0, 1) := by decide +kernel
theorem dX11_visits_41 : decode cX11_visits 41 = .ok (.ireturn, 1) := by decide +kernel
theorem dX11_visits_42 : decode cX11_visits 42 = .ok (.aload_n 0, 1) := by decide +kernel
theorem dX11_visits_43 : decode cX11_visits 43 = .ok (.getfield 275, 3) := by decide +kernel
theorem dX11_visits_46 : decode cX11_visits 46 = .ok (.iload_n 1, 1) := by decide +kernel
theorem dX11_visits_47 : decode cX11_visits 47 = .ok (.baload, 1) := by decide +kernel
theorem dX11_visits_48 : decode cX11_visits 48 = .ok (.ifCond .ne 6, 3) := by decide +kernel
theorem dX11_visits_51 : decode cX11_visits 51 = .ok (.bipush (-2), 2) := by decide +kernel
theorem dX11_visits_53 : decode cX11_visits 53 = .ok (.ireturn, 1) := by decide +kernel
theorem dX11_visits_54 : decode cX11_visits 54 = .ok (.aload_n 0, 1) := by decide +kernel
theorem dX11_visits_55 : decode cX11_visits 55 = .ok (.invokevirtual 344, 3) := by decide +kernel
theorem dX11_visits_58 : decode cX11_visits 58 = .ok (.ifCond .eq 16, 3) := by decide +kernel
theorem dX11_visits_61 : decode cX11_visits 61 = .ok (.aload_n 0, 1) := by decide +kernel
theorem dX11_visits_62 : decode cX11_visits 62 = .ok (.getfield 316, 3) := by decide +kernel
theorem dX11_visits_65 : decode cX11_visits 65 = .ok (.iload_n 1, 1) := by decide +kernel
theorem dX11_visits_66 : decode cX11_visits 66 = .ok (.laload, 1) := by decide +kernel
theorem dX11_visits_67 : decode cX11_visits 67 = .ok (.iload_n 2, 1) := by decide +kernel
theorem dX11_visits_68 : decode cX11_visits 68 = .ok (.invokestatic 353, 3) := by decide +kernel
theorem dX11_visits_71 : decode cX11_visits 71 = .ok (.goto 5, 3) := by decide +kernel
theorem dX11_visits_74 : decode cX11_visits 74 = .ok (.bipush (-3), 2) := by decide +kernel
theorem dX11_visits_76 : decode cX11_visits 76 = .ok (.ireturn, 1) := by decide +kernel
theorem dX11_steps_0 : decode cX11_steps 0 = .ok (.aload_n 0, 1) := by decide +kernel
theorem dX11_steps_1 : decode cX11_steps 1 = .ok (.iconst 0, 1) := by decide +kernel
theorem dX11_steps_2 : decode cX11_steps 2 = .ok (.putfield 1, 3) := by decide +kernel
theorem dX11_steps_5 : decode cX11_steps 5 = .ok (.aload_n 0, 1) := by decide +kernel
theorem dX11_steps_6 : decode cX11_steps 6 = .ok (.invokevirtual 335, 3) := by decide +kernel
theorem dX11_steps_9 : decode cX11_steps 9 = .ok (.ifCond .eq 17, 3) := by decide +kernel
theorem dX11_steps_12 : decode cX11_steps 12 = .ok (.aload_n 0, 1) := by decide +kernel
theorem dX11_steps_13 : decode cX11_steps 13 = .ok (.aload_n 0, 1) := by decide +kernel
theorem dX11_steps_14 : decode cX11_steps 14 = .ok (.iload_n 1, 1) := by decide +kernel
theorem dX11_steps_15 : decode cX11_steps 15 = .ok (.invokevirtual 341, 3) := by decide +kernel
theorem dX11_steps_18 : decode cX11_steps 18 = .ok (.iconst 2, 1) := by decide +kernel
theorem dX11_steps_19 : decode cX11_steps 19 = .ok (.iconst 1, 1) := by decide +kernel
theorem dX11_steps_20 : decode cX11_steps 20 = .ok (.invokevirtual 161, 3) := by decide +kernel
theorem dX11_steps_23 : decode cX11_steps 23 = .ok (.ifCond .ne 5, 3) := by decide +kernel
theorem dX11_steps_26 : decode cX11_steps 26 = .ok (.iconst 0, 1) := by decide +kernel
theorem dX11_steps_27 : decode cX11_steps 27 = .ok (.ireturn, 1) := by decide +kernel
theorem dX11_steps_28 : decode cX11_steps 28 = .ok (.lconst 0, 1) := by decide +kernel
theorem dX11_steps_29 : decode cX11_steps 29 = .ok (.lstore_n 2, 1) := by decide +kernel
theorem dX11_steps_30 : decode cX11_steps 30 = .ok (.iconst 1, 1) := by decide +kernel
theorem dX11_steps_31 : decode cX11_steps 31 = .ok (.istore 4, 2) := by decide +kernel
theorem dX11_steps_33 : decode cX11_steps 33 = .ok (.iconst 0, 1) := by decide +kernel
theorem dX11_steps_34 : decode cX11_steps 34 = .ok (.istore 5, 2) := by decide +kernel
theorem dX11_steps_36 : decode cX11_steps 36 = .ok (.iload 5, 2) := by decide +kernel
theorem dX11_steps_38 : decode cX11_steps 38 = .ok (.aload_n 0, 1) := by decide +kernel
theorem dX11_steps_39 : decode cX11_steps 39 = .ok (.getfield 227, 3) := by decide +kernel
theorem dX11_steps_42 : decode cX11_steps 42 = .ok (.if_icmp .ge 31, 3) := by decide +kernel
theorem dX11_steps_45 : decode cX11_steps 45 = .ok (.iload 4, 2) := by decide +kernel
theorem dX11_steps_47 : decode cX11_steps 47 = .ok (.ifCond .eq 17, 3) := by decide +kernel
theorem dX11_steps_50 : decode cX11_steps 50 = .ok (.aload_n 0, 1) := by decide +kernel
theorem dX11_steps_51 : decode cX11_steps 51 = .ok (.getfield 275, 3) := by decide +kernel
theorem dX11_steps_54 : decode cX11_steps 54 = .ok (.iload 5, 2) := by decide +kernel
theorem dX11_steps_56 : decode cX11_steps 56 = .ok (.baload, 1) := by decide +kernel
theorem dX11_steps_57 : decode cX11_steps 57 = .ok (.ifCond .eq 7, 3) := by decide +kernel
theorem dX11_steps_60 : decode cX11_steps 60 = .ok (.iconst 1, 1) := by decide +kernel
theorem dX11_steps_61 : decode cX11_steps 61 = .ok (.goto 4, 3) := by decide +kernel
theorem dX11_steps_64 : decode cX11_steps 64 = .ok (.iconst 0, 1) := by decide +kernel
theorem dX11_steps_65 : decode cX11_steps 65 = .ok (.istore 4, 2) := by decide +kernel
theorem dX11_steps_67 : decode cX11_steps 67 = .ok (.iinc 5 1, 3) := by decide +kernel
theorem dX11_steps_70 : decode cX11_steps 70 = .ok (.goto (-34), 3) := by decide +kernel
theorem dX11_steps_73 : decode cX11_steps 73 = .ok (.iload 4, 2) := by decide +kernel
theorem dX11_steps_75 : decode cX11_steps 75 = .ok (.ifCond .ne 6, 3) := by decide +kernel
theorem dX11_steps_78 : decode cX11_steps 78 = .ok (.bipush (-2), 2) := by decide +kernel
theorem dX11_steps_80 : decode cX11_steps 80 = .ok (.ireturn, 1) := by decide +kernel
theorem dX11_steps_81 : decode cX11_steps 81 = .ok (.aload_n 0, 1) := by decide +kernel
theorem dX11_steps_82 : decode cX11_steps 82 = .ok (.invokevirtual 344, 3) := by decide +kernel
theorem dX11_steps_85 : decode cX11_steps 85 = .ok (.ifCond .ne 6, 3) := by decide +kernel
theorem dX11_steps_88 : decode cX11_steps 88 = .ok (.bipush (-3), 2) := by decide +kernel
theorem dX11_steps_90 : decode cX11_steps 90 = .ok (.ireturn, 1) := by decide +kernel
theorem dX11_steps_91 : decode cX11_steps 91 = .ok (.iconst 0, 1) := by decide +kernel
theorem dX11_steps_92 : decode cX11_steps 92 = .ok (.istore 5, 2) := by decide +kernel
theorem dX11_steps_94 : decode cX11_steps 94 = .ok (.iload 5, 2) := by decide +kernel
theorem dX11_steps_96 : decode cX11_steps 96 = .ok (.aload_n 0, 1) := by decide +kernel
theorem dX11_steps_97 : decode cX11_steps 97 = .ok (.getfield 227, 3) := by decide +kernel
theorem dX11_steps_100 : decode cX11_steps 100 = .ok (.if_icmp .ge 33, 3) := by decide +kernel
theorem dX11_steps_103 : decode cX11_steps 103 = .ok (.lload_n 2, 1) := by decide +kernel
theorem dX11_steps_104 : decode cX11_steps 104 = .ok (.aload_n 0, 1) := by decide +kernel
theorem dX11_steps_105 : decode cX11_steps 105 = .ok (.getfield 251, 3) := by decide +kernel
theorem dX11_steps_108 : decode cX11_steps 108 = .ok (.iload 5, 2) := by decide +kernel
theorem dX11_steps_110 : decode cX11_steps 110 = .ok (.iaload, 1) := by decide +kernel
theorem dX11_steps_111 : decode cX11_steps 111 = .ok (.ifCond .le 13, 3) := by decide +kernel
theorem dX11_steps_114 : decode cX11_steps 114 = .ok (.aload_n 0, 1) := by decide +kernel
theorem dX11_steps_115 : decode cX11_steps 115 = .ok (.getfield 316, 3) := by decide +kernel
theorem dX11_steps_118 : decode cX11_steps 118 = .ok (.iload 5, 2) := by decide +kernel
theorem dX11_steps_120 : decode cX11_steps 120 = .ok (.laload, 1) := by decide +kernel
theorem dX11_steps_121 : decode cX11_steps 121 = .ok (.goto 4, 3) := by decide +kernel
theorem dX11_steps_124 : decode cX11_steps 124 = .ok (.lconst 0, 1) := by decide +kernel
theorem dX11_steps_125 : decode cX11_steps 125 = .ok (.ladd, 1) := by decide +kernel
theorem dX11_steps_126 : decode cX11_steps 126 = .ok (.lstore_n 2, 1) := by decide +kernel
theorem dX11_steps_127 : decode cX11_steps 127 = .ok (.iinc 5 1, 3) := by decide +kernel
theorem dX11_steps_130 : decode cX11_steps 130 = .ok (.goto (-36), 3) := by decide +kernel
theorem dX11_steps_133 : decode cX11_steps 133 = .ok (.lload_n 2, 1) := by decide +kernel
theorem dX11_steps_134 : decode cX11_steps 134 = .ok (.ldc2_w 279, 3) := by decide +kernel
theorem dX11_steps_137 : decode cX11_steps 137 = .ok (.lrem, 1) := by decide +kernel
theorem dX11_steps_138 : decode cX11_steps 138 = .ok (.iload_n 1, 1) := by decide +kernel
theorem dX11_steps_139 : decode cX11_steps 139 = .ok (.invokestatic 353, 3) := by decide +kernel
theorem dX11_steps_142 : decode cX11_steps 142 = .ok (.ireturn, 1) := by decide +kernel
theorem dX11_within_0 : decode cX11_within 0 = .ok (.aload_n 0, 1) := by decide +kernel
theorem dX11_within_1 : decode cX11_within 1 = .ok (.iconst 0, 1) := by decide +kernel
theorem dX11_within_2 : decode cX11_within 2 = .ok (.putfield 1, 3) := by decide +kernel
theorem dX11_within_5 : decode cX11_within 5 = .ok (.aload_n 0, 1) := by decide +kernel
theorem dX11_within_6 : decode cX11_within 6 = .ok (.invokevirtual 335, 3) := by decide +kernel
theorem dX11_within_9 : decode cX11_within 9 = .ok (.ifCond .eq 37, 3) := by decide +kernel
theorem dX11_within_12 : decode cX11_within 12 = .ok (.aload_n 0, 1) := by decide +kernel
theorem dX11_within_13 : decode cX11_within 13 = .ok (.iload_n 1, 1) := by decide +kernel
theorem dX11_within_14 : decode cX11_within 14 = .ok (.i2l, 1) := by decide +kernel
theorem dX11_within_15 : decode cX11_within 15 = .ok (.lconst 0, 1) := by decide +kernel
theorem dX11_within_16 : decode cX11_within 16 = .ok (.ldc2_w 371, 3) := by decide +kernel
theorem dX11_within_19 : decode cX11_within 19 = .ok (.invokestatic 157, 3) := by decide +kernel
theorem dX11_within_22 : decode cX11_within 22 = .ok (.ifCond .eq 15, 3) := by decide +kernel
theorem dX11_within_25 : decode cX11_within 25 = .ok (.aload_n 0, 1) := by decide +kernel
theorem dX11_within_26 : decode cX11_within 26 = .ok (.iload_n 2, 1) := by decide +kernel
theorem dX11_within_27 : decode cX11_within 27 = .ok (.invokevirtual 341, 3) := by decide +kernel
theorem dX11_within_30 : decode cX11_within 30 = .ok (.ifCond .eq 7, 3) := by decide +kernel
theorem dX11_within_33 : decode cX11_within 33 = .ok (.iconst 1, 1) := by decide +kernel
theorem dX11_within_34 : decode cX11_within 34 = .ok (.goto 4, 3) := by decide +kernel
theorem dX11_within_37 : decode cX11_within 37 = .ok (.iconst 0, 1) := by decide +kernel
theorem dX11_within_38 : decode cX11_within 38 = .ok (.iconst 2, 1) := by decide +kernel
theorem dX11_within_39 : decode cX11_within 39 = .ok (.iconst 1, 1) := by decide +kernel
theorem dX11_within_40 : decode cX11_within 40 = .ok (.invokevirtual 161, 3) := by decide +kernel
theorem dX11_within_43 : decode cX11_within 43 = .ok (.ifCond .ne 5, 3) := by decide +kernel
theorem dX11_within_46 : decode cX11_within 46 = .ok (.iconst 0, 1) := by decide +kernel
theorem dX11_within_47 : decode cX11_within 47 = .ok (.ireturn, 1) := by decide +kernel
theorem dX11_within_48 : decode cX11_within 48 = .ok (.iconst 0, 1) := by decide +kernel
theorem dX11_within_49 : decode cX11_within 49 = .ok (.istore_n 3, 1) := by decide +kernel
theorem dX11_within_50 : decode cX11_within 50 = .ok (.iload_n 3, 1) := by decide +kernel
theorem dX11_within_51 : decode cX11_within 51 = .ok (.aload_n 0, 1) := by decide +kernel
theorem dX11_within_52 : decode cX11_within 52 = .ok (.getfield 227, 3) := by decide +kernel
theorem dX11_within_55 : decode cX11_within 55 = .ok (.if_icmp .ge 24, 3) := by decide +kernel
theorem dX11_within_58 : decode cX11_within 58 = .ok (.aload_n 0, 1) := by decide +kernel
theorem dX11_within_59 : decode cX11_within 59 = .ok (.getfield 373, 3) := by decide +kernel
theorem dX11_within_62 : decode cX11_within 62 = .ok (.iload_n 3, 1) := by decide +kernel
theorem dX11_within_63 : decode cX11_within 63 = .ok (.iload_n 3, 1) := by decide +kernel
theorem dX11_within_64 : decode cX11_within 64 = .ok (.ifCond .ne 7, 3) := by decide +kernel
theorem dX11_within_67 : decode cX11_within 67 = .ok (.lconst 1, 1) := by decide +kernel
theorem dX11_within_68 : decode cX11_within 68 = .ok (.goto 4, 3) := by decide +kernel
theorem dX11_within_71 : decode cX11_within 71 = .ok (.lconst 0, 1) := by decide +kernel
theorem dX11_within_72 : decode cX11_within 72 = .ok (.lastore, 1) := by decide +kernel
theorem dX11_within_73 : decode cX11_within 73 = .ok (.iinc 3 1, 3) := by decide +kernel
theorem dX11_within_76 : decode cX11_within 76 = .ok (.goto (-26), 3) := by decide +kernel
theorem dX11_within_79 : decode cX11_within 79 = .ok (.iconst 0, 1) := by decide +kernel
theorem dX11_within_80 : decode cX11_within 80 = .ok (.istore_n 3, 1) := by decide +kernel
theorem dX11_within_81 : decode cX11_within 81 = .ok (.iload_n 3, 1) := by decide +kernel
theorem dX11_within_82 : decode cX11_within 82 = .ok (.iload_n 1, 1) := by decide +kernel
theorem dX11_within_83 : decode cX11_within 83 = .ok (.if_icmp .ge 198, 3) := by decide +kernel
theorem dX11_within_86 : decode cX11_within 86 = .ok (.iconst 0, 1) := by decide +kernel
theorem dX11_within_87 : decode cX11_within 87 = .ok (.istore 4, 2) := by decide +kernel
theorem dX11_within_89 : decode cX11_within 89 = .ok (.iload 4, 2) := by decide +kernel
theorem dX11_within_91 : decode cX11_within 91 = .ok (.aload_n 0, 1) := by decide +kernel
theorem dX11_within_92 : decode cX11_within 92 = .ok (.getfield 227, 3) := by decide +kernel
theorem dX11_within_95 : decode cX11_within 95 = .ok (.if_icmp .ge 37, 3) := by decide +kernel
theorem dX11_within_98 : decode cX11_within 98 = .ok (.aload_n 0, 1) := by decide +kernel
theorem dX11_within_99 : decode cX11_within 99 = .ok (.getfield 376, 3) := by decide +kernel
theorem dX11_within_102 : decode cX11_within 102 = .ok (.iload 4, 2) := by decide +kernel
theorem dX11_within_104 : decode cX11_within 104 = .ok (.aload_n 0, 1) := by decide +kernel
theorem dX11_within_105 : decode cX11_within 105 = .ok (.getfield 251, 3) := by decide +kernel
theorem dX11_within_108 : decode cX11_within 108 = .ok (.iload 4, 2) := by decide +kernel
theorem dX11_within_110 : decode cX11_within 110 = .ok (.iaload, 1) := by decide +kernel
theorem dX11_within_111 : decode cX11_within 111 = .ok (.ifCond .ne 13, 3) := by decide +kernel
theorem dX11_within_114 : decode cX11_within 114 = .ok (.aload_n 0, 1) := by decide +kernel
theorem dX11_within_115 : decode cX11_within 115 = .ok (.getfield 373, 3) := by decide +kernel
theorem dX11_within_118 : decode cX11_within 118 = .ok (.iload 4, 2) := by decide +kernel
theorem dX11_within_120 : decode cX11_within 120 = .ok (.laload, 1) := by decide +kernel
theorem dX11_within_121 : decode cX11_within 121 = .ok (.goto 4, 3) := by decide +kernel
theorem dX11_within_124 : decode cX11_within 124 = .ok (.lconst 0, 1) := by decide +kernel
theorem dX11_within_125 : decode cX11_within 125 = .ok (.lastore, 1) := by decide +kernel
theorem dX11_within_126 : decode cX11_within 126 = .ok (.iinc 4 1, 3) := by decide +kernel
theorem dX11_within_129 : decode cX11_within 129 = .ok (.goto (-40), 3) := by decide +kernel
theorem dX11_within_132 : decode cX11_within 132 = .ok (.iconst 0, 1) := by decide +kernel
theorem dX11_within_133 : decode cX11_within 133 = .ok (.istore 4, 2) := by decide +kernel
theorem dX11_within_135 : decode cX11_within 135 = .ok (.iload 4, 2) := by decide +kernel
theorem dX11_within_137 : decode cX11_within 137 = .ok (.aload_n 0, 1) := by decide +kernel
theorem dX11_within_138 : decode cX11_within 138 = .ok (.getfield 227, 3) := by decide +kernel
theorem dX11_within_141 : decode cX11_within 141 = .ok (.if_icmp .ge 102, 3) := by decide +kernel
theorem dX11_within_144 : decode cX11_within 144 = .ok (.iconst 0, 1) := by decide +kernel
theorem dX11_within_145 : decode cX11_within 145 = .ok (.istore 5, 2) := by decide +kernel
theorem dX11_within_147 : decode cX11_within 147 = .ok (.iload 5, 2) := by decide +kernel
theorem dX11_within_149 : decode cX11_within 149 = .ok (.aload_n 0, 1) := by decide +kernel
theorem dX11_within_150 : decode cX11_within 150 = .ok (.getfield 251, 3) := by decide +kernel
theorem dX11_within_153 : decode cX11_within 153 = .ok (.iload 4, 2) := by decide +kernel
theorem dX11_within_155 : decode cX11_within 155 = .ok (.iaload, 1) := by decide +kernel
theorem dX11_within_156 : decode cX11_within 156 = .ok (.if_icmp .ge 81, 3) := by decide +kernel
theorem dX11_within_159 : decode cX11_within 159 = .ok (.aload_n 0, 1) := by decide +kernel
theorem dX11_within_160 : decode cX11_within 160 = .ok (.getfield 373, 3) := by decide +kernel
theorem dX11_within_163 : decode cX11_within 163 = .ok (.iload 4, 2) := by decide +kernel
theorem dX11_within_165 : decode cX11_within 165 = .ok (.laload, 1) := by decide +kernel
theorem dX11_within_166 : decode cX11_within 166 = .ok (.lconst 0, 1) := by decide +kernel
theorem dX11_within_167 : decode cX11_within 167 = .ok (.lcmp, 1) := by decide +kernel
theorem dX11_within_168 : decode cX11_within 168 = .ok (.ifCond .eq 69, 3) := by decide +kernel
theorem dX11_within_171 : decode cX11_within 171 = .ok (.aload_n 0, 1) := by decide +kernel
theorem dX11_within_172 : decode cX11_within 172 = .ok (.getfield 248, 3) := by decide +kernel
theorem dX11_within_175 : decode cX11_within 175 = .ok (.bipush 10, 2) := by decide +kernel
theorem dX11_within_177 : decode cX11_within 177 = .ok (.iload 4, 2) := by decide +kernel
theorem dX11_within_179 : decode cX11_within 179 = .ok (.imul, 1) := by decide +kernel
theorem dX11_within_180 : decode cX11_within 180 = .ok (.iload 5, 2) := by decide +kernel
theorem dX11_within_182 : decode cX11_within 182 = .ok (.iadd, 1) := by decide +kernel
theorem dX11_within_183 : decode cX11_within 183 = .ok (.iaload, 1) := by decide +kernel
theorem dX11_within_184 : decode cX11_within 184 = .ok (.istore 6, 2) := by decide +kernel
theorem dX11_within_186 : decode cX11_within 186 = .ok (.aload_n 0, 1) := by decide +kernel
theorem dX11_within_187 : decode cX11_within 187 = .ok (.getfield 376, 3) := by decide +kernel
theorem dX11_within_190 : decode cX11_within 190 = .ok (.iload 6, 2) := by decide +kernel
theorem dX11_within_192 : decode cX11_within 192 = .ok (.aload_n 0, 1) := by decide +kernel
theorem dX11_within_193 : decode cX11_within 193 = .ok (.getfield 376, 3) := by decide +kernel
theorem dX11_within_196 : decode cX11_within 196 = .ok (.iload 6, 2) := by decide +kernel
theorem dX11_within_198 : decode cX11_within 198 = .ok (.laload, 1) := by decide +kernel
theorem dX11_within_199 : decode cX11_within 199 = .ok (.aload_n 0, 1) := by decide +kernel
theorem dX11_within_200 : decode cX11_within 200 = .ok (.getfield 373, 3) := by decide +kernel
theorem dX11_within_203 : decode cX11_within 203 = .ok (.iload 4, 2) := by decide +kernel
theorem dX11_within_205 : decode cX11_within 205 = .ok (.laload, 1) := by decide +kernel
theorem dX11_within_206 : decode cX11_within 206 = .ok (.aload_n 0, 1) := by decide +kernel
theorem dX11_within_207 : decode cX11_within 207 = .ok (.getfield 304, 3) := by decide +kernel
theorem dX11_within_210 : decode cX11_within 210 = .ok (.aload_n 0, 1) := by decide +kernel
theorem dX11_within_211 : decode cX11_within 211 = .ok (.getfield 254, 3) := by decide +kernel
theorem dX11_within_214 : decode cX11_within 214 = .ok (.bipush 10, 2) := by decide +kernel
theorem dX11_within_216 : decode cX11_within 216 = .ok (.iload 4, 2) := by decide +kernel
theorem dX11_within_218 : decode cX11_within 218 = .ok (.imul, 1) := by decide +kernel
theorem dX11_within_219 : decode cX11_within 219 = .ok (.iload 5, 2) := by decide +kernel
theorem dX11_within_221 : decode cX11_within 221 = .ok (.iadd, 1) := by decide +kernel
theorem dX11_within_222 : decode cX11_within 222 = .ok (.iaload, 1) := by decide +kernel
theorem dX11_within_223 : decode cX11_within 223 = .ok (.laload, 1) := by decide +kernel
theorem dX11_within_224 : decode cX11_within 224 = .ok (.lmul, 1) := by decide +kernel
theorem dX11_within_225 : decode cX11_within 225 = .ok (.ladd, 1) := by decide +kernel
theorem dX11_within_226 : decode cX11_within 226 = .ok (.ldc2_w 279, 3) := by decide +kernel
theorem dX11_within_229 : decode cX11_within 229 = .ok (.lrem, 1) := by decide +kernel
theorem dX11_within_230 : decode cX11_within 230 = .ok (.lastore, 1) := by decide +kernel
theorem dX11_within_231 : decode cX11_within 231 = .ok (.iinc 5 1, 3) := by decide +kernel
theorem dX11_within_234 : decode cX11_within 234 = .ok (.goto (-87), 3) := by decide +kernel
theorem dX11_within_237 : decode cX11_within 237 = .ok (.iinc 4 1, 3) := by decide +kernel
theorem dX11_within_240 : decode cX11_within 240 = .ok (.goto (-105), 3) := by decide +kernel
theorem dX11_within_243 : decode cX11_within 243 = .ok (.iconst 0, 1) := by decide +kernel
theorem dX11_within_244 : decode cX11_within 244 = .ok (.istore 4, 2) := by decide +kernel
theorem dX11_within_246 : decode cX11_within 246 = .ok (.iload 4, 2) := by decide +kernel
theorem dX11_within_248 : decode cX11_within 248 = .ok (.aload_n 0, 1) := by decide +kernel
theorem dX11_within_249 : decode cX11_within 249 = .ok (.getfield 227, 3) := by decide +kernel
theorem dX11_within_252 : decode cX11_within 252 = .ok (.if_icmp .ge 23, 3) := by decide +kernel
theorem dX11_within_255 : decode cX11_within 255 = .ok (.aload_n 0, 1) := by decide +kernel
theorem dX11_within_256 : decode cX11_within 256 = .ok (.getfield 373, 3) := by decide +kernel
theorem dX11_within_259 : decode cX11_within 259 = .ok (.iload 4, 2) := by decide +kernel
theorem dX11_within_261 : decode cX11_within 261 = .ok (.aload_n 0, 1) := by decide +kernel
theorem dX11_within_262 : decode cX11_within 262 = .ok (.getfield 376, 3) := by decide +kernel
theorem dX11_within_265 : decode cX11_within 265 = .ok (.iload 4, 2) := by decide +kernel
theorem dX11_within_267 : decode cX11_within 267 = .ok (.laload, 1) := by decide +kernel
theorem dX11_within_268 : decode cX11_within 268 = .ok (.lastore, 1) := by decide +kernel
theorem dX11_within_269 : decode cX11_within 269 = .ok (.iinc 4 1, 3) := by decide +kernel
theorem dX11_within_272 : decode cX11_within 272 = .ok (.goto (-26), 3) := by decide +kernel
theorem dX11_within_275 : decode cX11_within 275 = .ok (.iinc 3 1, 3) := by decide +kernel
theorem dX11_within_278 : decode cX11_within 278 = .ok (.goto (-197), 3) := by decide +kernel
theorem dX11_within_281 : decode cX11_within 281 = .ok (.lconst 0, 1) := by decide +kernel
theorem dX11_within_282 : decode cX11_within 282 = .ok (.lstore_n 3, 1) := by decide +kernel
theorem dX11_within_283 : decode cX11_within 283 = .ok (.iconst 0, 1) := by decide +kernel
theorem dX11_within_284 : decode cX11_within 284 = .ok (.istore 5, 2) := by decide +kernel
theorem dX11_within_286 : decode cX11_within 286 = .ok (.iload 5, 2) := by decide +kernel
theorem dX11_within_288 : decode cX11_within 288 = .ok (.aload_n 0, 1) := by decide +kernel
theorem dX11_within_289 : decode cX11_within 289 = .ok (.getfield 227, 3) := by decide +kernel
theorem dX11_within_292 : decode cX11_within 292 = .ok (.if_icmp .ge 32, 3) := by decide +kernel
theorem dX11_within_295 : decode cX11_within 295 = .ok (.lload_n 3, 1) := by decide +kernel
theorem dX11_within_296 : decode cX11_within 296 = .ok (.aload_n 0, 1) := by decide +kernel
theorem dX11_within_297 : decode cX11_within 297 = .ok (.iload 5, 2) := by decide +kernel
theorem dX11_within_299 : decode cX11_within 299 = .ok (.invokevirtual 330, 3) := by decide +kernel
theorem dX11_within_302 : decode cX11_within 302 = .ok (.ifCond .eq 13, 3) := by decide +kernel
theorem dX11_within_305 : decode cX11_within 305 = .ok (.aload_n 0, 1) := by decide +kernel
theorem dX11_within_306 : decode cX11_within 306 = .ok (.getfield 373, 3) := by decide +kernel
theorem dX11_within_309 : decode cX11_within 309 = .ok (.iload 5, 2) := by decide +kernel
theorem dX11_within_311 : decode cX11_within 311 = .ok (.laload, 1) := by decide +kernel
theorem dX11_within_312 : decode cX11_within 312 = .ok (.goto 4, 3) := by decide +kernel
theorem dX11_within_315 : decode cX11_within 315 = .ok (.lconst 0, 1) := by decide +kernel
theorem dX11_within_316 : decode cX11_within 316 = .ok (.ladd, 1) := by decide +kernel
theorem dX11_within_317 : decode cX11_within 317 = .ok (.lstore_n 3, 1) := by decide +kernel
theorem dX11_within_318 : decode cX11_within 318 = .ok (.iinc 5 1, 3) := by decide +kernel
theorem dX11_within_321 : decode cX11_within 321 = .ok (.goto (-35), 3) := by decide +kernel
theorem dX11_within_324 : decode cX11_within 324 = .ok (.lload_n 3, 1) := by decide +kernel
theorem dX11_within_325 : decode cX11_within 325 = .ok (.ldc2_w 279, 3) := by decide +kernel
theorem dX11_within_328 : decode cX11_within 328 = .ok (.lrem, 1) := by decide +kernel
theorem dX11_within_329 : decode cX11_within 329 = .ok (.iload_n 2, 1) := by decide +kernel
theorem dX11_within_330 : decode cX11_within 330 = .ok (.invokestatic 353, 3) := by decide +kernel
theorem dX11_within_333 : decode cX11_within 333 = .ok (.ireturn, 1) := by decide +kernel
theorem dX11_areAlike_0 : decode cX11_areAlike 0 = .ok (.aload_n 0, 1) := by decide +kernel
theorem dX11_areAlike_1 : decode cX11_areAlike 1 = .ok (.getfield 379, 3) := by decide +kernel
theorem dX11_areAlike_4 : decode cX11_areAlike 4 = .ok (.iload_n 1, 1) := by decide +kernel
theorem dX11_areAlike_5 : decode cX11_areAlike 5 = .ok (.iaload, 1) := by decide +kernel
theorem dX11_areAlike_6 : decode cX11_areAlike 6 = .ok (.aload_n 0, 1) := by decide +kernel
theorem dX11_areAlike_7 : decode cX11_areAlike 7 = .ok (.getfield 379, 3) := by decide +kernel
theorem dX11_areAlike_10 : decode cX11_areAlike 10 = .ok (.iload_n 2, 1) := by decide +kernel
theorem dX11_areAlike_11 : decode cX11_areAlike 11 = .ok (.iaload, 1) := by decide +kernel
theorem dX11_areAlike_12 : decode cX11_areAlike 12 = .ok (.if_icmp .eq 5, 3) := by decide +kernel
theorem dX11_areAlike_15 : decode cX11_areAlike 15 = .ok (.iconst 0, 1) := by decide +kernel
theorem dX11_areAlike_16 : decode cX11_areAlike 16 = .ok (.ireturn, 1) := by decide +kernel
theorem dX11_areAlike_17 : decode cX11_areAlike 17 = .ok (.aload_n 0, 1) := by decide +kernel
theorem dX11_areAlike_18 : decode cX11_areAlike 18 = .ok (.getfield 251, 3) := by decide +kernel
theorem dX11_areAlike_21 : decode cX11_areAlike 21 = .ok (.iload_n 1, 1) := by decide +kernel
theorem dX11_areAlike_22 : decode cX11_areAlike 22 = .ok (.iaload, 1) := by decide +kernel
theorem dX11_areAlike_23 : decode cX11_areAlike 23 = .ok (.ifCond .ne 5, 3) := by decide +kernel
theorem dX11_areAlike_26 : decode cX11_areAlike 26 = .ok (.iconst 1, 1) := by decide +kernel
theorem dX11_areAlike_27 : decode cX11_areAlike 27 = .ok (.ireturn, 1) := by decide +kernel
theorem dX11_areAlike_28 : decode cX11_areAlike 28 = .ok (.iconst 0, 1) := by decide +kernel
theorem dX11_areAlike_29 : decode cX11_areAlike 29 = .ok (.istore_n 3, 1) := by decide +kernel
theorem dX11_areAlike_30 : decode cX11_areAlike 30 = .ok (.iload_n 3, 1) := by decide +kernel
theorem dX11_areAlike_31 : decode cX11_areAlike 31 = .ok (.aload_n 0, 1) := by decide +kernel
theorem dX11_areAlike_32 : decode cX11_areAlike 32 = .ok (.getfield 227, 3) := by decide +kernel
theorem dX11_areAlike_35 : decode cX11_areAlike 35 = .ok (.if_icmp .ge 16, 3) := by decide +kernel
theorem dX11_areAlike_38 : decode cX11_areAlike 38 = .ok (.aload_n 0, 1) := by decide +kernel
theorem dX11_areAlike_39 : decode cX11_areAlike 39 = .ok (.getfield 382, 3) := by decide +kernel
theorem dX11_areAlike_42 : decode cX11_areAlike 42 = .ok (.iload_n 3, 1) := by decide +kernel
theorem dX11_areAlike_43 : decode cX11_areAlike 43 = .ok (.iconst 0, 1) := by decide +kernel
theorem dX11_areAlike_44 : decode cX11_areAlike 44 = .ok (.iastore, 1) := by decide +kernel
theorem dX11_areAlike_45 : decode cX11_areAlike 45 = .ok (.iinc 3 1, 3) := by decide +kernel
theorem dX11_areAlike_48 : decode cX11_areAlike 48 = .ok (.goto (-18), 3) := by decide +kernel
theorem dX11_areAlike_51 : decode cX11_areAlike 51 = .ok (.iconst 0, 1) := by decide +kernel
theorem dX11_areAlike_52 : decode cX11_areAlike 52 = .ok (.istore_n 3, 1) := by decide +kernel
theorem dX11_areAlike_53 : decode cX11_areAlike 53 = .ok (.iload_n 3, 1) := by decide +kernel
theorem dX11_areAlike_54 : decode cX11_areAlike 54 = .ok (.aload_n 0, 1) := by decide +kernel
theorem dX11_areAlike_55 : decode cX11_areAlike 55 = .ok (.getfield 251, 3) := by decide +kernel
theorem dX11_areAlike_58 : decode cX11_areAlike 58 = .ok (.iload_n 1, 1) := by decide +kernel
theorem dX11_areAlike_59 : decode cX11_areAlike 59 = .ok (.iaload, 1) := by decide +kernel
theorem dX11_areAlike_60 : decode cX11_areAlike 60 = .ok (.if_icmp .ge 44, 3) := by decide +kernel
theorem dX11_areAlike_63 : decode cX11_areAlike 63 = .ok (.aload_n 0, 1) := by decide +kernel
theorem dX11_areAlike_64 : decode cX11_areAlike 64 = .ok (.getfield 382, 3) := by decide +kernel
theorem dX11_areAlike_67 : decode cX11_areAlike 67 = .ok (.aload_n 0, 1) := by decide +kernel
theorem dX11_areAlike_68 : decode cX11_areAlike 68 = .ok (.getfield 379, 3) := by decide +kernel
theorem dX11_areAlike_71 : decode cX11_areAlike 71 = .ok (.aload_n 0, 1) := by decide +kernel
theorem dX11_areAlike_72 : decode cX11_areAlike 72 = .ok (.getfield 248, 3) := by decide +kernel
theorem dX11_areAlike_75 : decode cX11_areAlike 75 = .ok (.bipush 10, 2) := by decide +kernel
theorem dX11_areAlike_77 : decode cX11_areAlike 77 = .ok (.iload_n 1, 1) := by decide +kernel
theorem dX11_areAlike_78 : decode cX11_areAlike 78 = .ok (.imul, 1) := by decide +kernel
theorem dX11_areAlike_79 : decode cX11_areAlike 79 = .ok (.iload_n 3, 1) := by decide +kernel
theorem dX11_areAlike_80 : decode cX11_areAlike 80 = .ok (.iadd, 1) := by decide +kernel
theorem dX11_areAlike_81 : decode cX11_areAlike 81 = .ok (.iaload, 1) := by decide +kernel
theorem dX11_areAlike_82 : decode cX11_areAlike 82 = .ok (.iaload, 1) := by decide +kernel
theorem dX11_areAlike_83 : decode cX11_areAlike 83 = .ok (.dup2, 1) := by decide +kernel
theorem dX11_areAlike_84 : decode cX11_areAlike 84 = .ok (.iaload, 1) := by decide +kernel
theorem dX11_areAlike_85 : decode cX11_areAlike 85 = .ok (.aload_n 0, 1) := by decide +kernel
theorem dX11_areAlike_86 : decode cX11_areAlike 86 = .ok (.getfield 254, 3) := by decide +kernel
theorem dX11_areAlike_89 : decode cX11_areAlike 89 = .ok (.bipush 10, 2) := by decide +kernel
theorem dX11_areAlike_91 : decode cX11_areAlike 91 = .ok (.iload_n 1, 1) := by decide +kernel
theorem dX11_areAlike_92 : decode cX11_areAlike 92 = .ok (.imul, 1) := by decide +kernel
theorem dX11_areAlike_93 : decode cX11_areAlike 93 = .ok (.iload_n 3, 1) := by decide +kernel
theorem dX11_areAlike_94 : decode cX11_areAlike 94 = .ok (.iadd, 1) := by decide +kernel
theorem dX11_areAlike_95 : decode cX11_areAlike 95 = .ok (.iaload, 1) := by decide +kernel
theorem dX11_areAlike_96 : decode cX11_areAlike 96 = .ok (.iadd, 1) := by decide +kernel
theorem dX11_areAlike_97 : decode cX11_areAlike 97 = .ok (.iastore, 1) := by decide +kernel
theorem dX11_areAlike_98 : decode cX11_areAlike 98 = .ok (.iinc 3 1, 3) := by decide +kernel
theorem dX11_areAlike_101 : decode cX11_areAlike 101 = .ok (.goto (-48), 3) := by decide +kernel
theorem dX11_areAlike_104 : decode cX11_areAlike 104 = .ok (.iconst 0, 1) := by decide +kernel
theorem dX11_areAlike_105 : decode cX11_areAlike 105 = .ok (.istore_n 3, 1) := by decide +kernel
theorem dX11_areAlike_106 : decode cX11_areAlike 106 = .ok (.iload_n 3, 1) := by decide +kernel
theorem dX11_areAlike_107 : decode cX11_areAlike 107 = .ok (.aload_n 0, 1) := by decide +kernel
theorem dX11_areAlike_108 : decode cX11_areAlike 108 = .ok (.getfield 251, 3) := by decide +kernel
theorem dX11_areAlike_111 : decode cX11_areAlike 111 = .ok (.iload_n 2, 1) := by decide +kernel
theorem dX11_areAlike_112 : decode cX11_areAlike 112 = .ok (.iaload, 1) := by decide +kernel
theorem dX11_areAlike_113 : decode cX11_areAlike 113 = .ok (.if_icmp .ge 44, 3) := by decide +kernel
theorem dX11_areAlike_116 : decode cX11_areAlike 116 = .ok (.aload_n 0, 1) := by decide +kernel
theorem dX11_areAlike_117 : decode cX11_areAlike 117 = .ok (.getfield 382, 3) := by decide +kernel
theorem dX11_areAlike_120 : decode cX11_areAlike 120 = .ok (.aload_n 0, 1) := by decide +kernel
theorem dX11_areAlike_121 : decode cX11_areAlike 121 = .ok (.getfield 379, 3) := by decide +kernel
theorem dX11_areAlike_124 : decode cX11_areAlike 124 = .ok (.aload_n 0, 1) := by decide +kernel
theorem dX11_areAlike_125 : decode cX11_areAlike 125 = .ok (.getfield 248, 3) := by decide +kernel
theorem dX11_areAlike_128 : decode cX11_areAlike 128 = .ok (.bipush 10, 2) := by decide +kernel
theorem dX11_areAlike_130 : decode cX11_areAlike 130 = .ok (.iload_n 2, 1) := by decide +kernel
theorem dX11_areAlike_131 : decode cX11_areAlike 131 = .ok (.imul, 1) := by decide +kernel
theorem dX11_areAlike_132 : decode cX11_areAlike 132 = .ok (.iload_n 3, 1) := by decide +kernel
theorem dX11_areAlike_133 : decode cX11_areAlike 133 = .ok (.iadd, 1) := by decide +kernel
theorem dX11_areAlike_134 : decode cX11_areAlike 134 = .ok (.iaload, 1) := by decide +kernel
theorem dX11_areAlike_135 : decode cX11_areAlike 135 = .ok (.iaload, 1) := by decide +kernel
theorem dX11_areAlike_136 : decode cX11_areAlike 136 = .ok (.dup2, 1) := by decide +kernel
theorem dX11_areAlike_137 : decode cX11_areAlike 137 = .ok (.iaload, 1) := by decide +kernel
theorem dX11_areAlike_138 : decode cX11_areAlike 138 = .ok (.aload_n 0, 1) := by decide +kernel
theorem dX11_areAlike_139 : decode cX11_areAlike 139 = .ok (.getfield 254, 3) := by decide +kernel
theorem dX11_areAlike_142 : decode cX11_areAlike 142 = .ok (.bipush 10, 2) := by decide +kernel
theorem dX11_areAlike_144 : decode cX11_areAlike 144 = .ok (.iload_n 2, 1) := by decide +kernel
theorem dX11_areAlike_145 : decode cX11_areAlike 145 = .ok (.imul, 1) := by decide +kernel
theorem dX11_areAlike_146 : decode cX11_areAlike 146 = .ok (.iload_n 3, 1) := by decide +kernel
theorem dX11_areAlike_147 : decode cX11_areAlike 147 = .ok (.iadd, 1) := by decide +kernel
theorem dX11_areAlike_148 : decode cX11_areAlike 148 = .ok (.iaload, 1) := by decide +kernel
theorem dX11_areAlike_149 : decode cX11_areAlike 149 = .ok (.isub, 1) := by decide +kernel
theorem dX11_areAlike_150 : decode cX11_areAlike 150 = .ok (.iastore, 1) := by decide +kernel
theorem dX11_areAlike_151 : decode cX11_areAlike 151 = .ok (.iinc 3 1, 3) := by decide +kernel
theorem dX11_areAlike_154 : decode cX11_areAlike 154 = .ok (.goto (-48), 3) := by decide +kernel
theorem dX11_areAlike_157 : decode cX11_areAlike 157 = .ok (.iconst 0, 1) := by decide +kernel
theorem dX11_areAlike_158 : decode cX11_areAlike 158 = .ok (.istore_n 3, 1) := by decide +kernel
theorem dX11_areAlike_159 : decode cX11_areAlike 159 = .ok (.iload_n 3, 1) := by decide +kernel
theorem dX11_areAlike_160 : decode cX11_areAlike 160 = .ok (.aload_n 0, 1) := by decide +kernel
theorem dX11_areAlike_161 : decode cX11_areAlike 161 = .ok (.getfield 227, 3) := by decide +kernel
theorem dX11_areAlike_164 : decode cX11_areAlike 164 = .ok (.if_icmp .ge 20, 3) := by decide +kernel
theorem dX11_areAlike_167 : decode cX11_areAlike 167 = .ok (.aload_n 0, 1) := by decide +kernel
theorem dX11_areAlike_168 : decode cX11_areAlike 168 = .ok (.getfield 382, 3) := by decide +kernel
theorem dX11_areAlike_171 : decode cX11_areAlike 171 = .ok (.iload_n 3, 1) := by decide +kernel
theorem dX11_areAlike_172 : decode cX11_areAlike 172 = .ok (.iaload, 1) := by decide +kernel
theorem dX11_areAlike_173 : decode cX11_areAlike 173 = .ok (.ifCond .eq 5, 3) := by decide +kernel
theorem dX11_areAlike_176 : decode cX11_areAlike 176 = .ok (.iconst 0, 1) := by decide +kernel
theorem dX11_areAlike_177 : decode cX11_areAlike 177 = .ok (.ireturn, 1) := by decide +kernel
theorem dX11_areAlike_178 : decode cX11_areAlike 178 = .ok (.iinc 3 1, 3) := by decide +kernel
theorem dX11_areAlike_181 : decode cX11_areAlike 181 = .ok (.goto (-22), 3) := by decide +kernel
theorem dX11_areAlike_184 : decode cX11_areAlike 184 = .ok (.iconst 1, 1) := by decide +kernel
theorem dX11_areAlike_185 : decode cX11_areAlike 185 = .ok (.ireturn, 1) := by decide +kernel
theorem dX11_parts_0 : decode cX11_parts 0 = .ok (.iconst 0, 1) := by decide +kernel
theorem dX11_parts_1 : decode cX11_parts 1 = .ok (.istore_n 2, 1) := by decide +kernel
theorem dX11_parts_2 : decode cX11_parts 2 = .ok (.iload_n 2, 1) := by decide +kernel
theorem dX11_parts_3 : decode cX11_parts 3 = .ok (.aload_n 0, 1) := by decide +kernel
theorem dX11_parts_4 : decode cX11_parts 4 = .ok (.getfield 227, 3) := by decide +kernel
theorem dX11_parts_7 : decode cX11_parts 7 = .ok (.if_icmp .ge 34, 3) := by decide +kernel
theorem dX11_parts_10 : decode cX11_parts 10 = .ok (.iconst 0, 1) := by decide +kernel
theorem dX11_parts_11 : decode cX11_parts 11 = .ok (.istore_n 3, 1) := by decide +kernel
theorem dX11_parts_12 : decode cX11_parts 12 = .ok (.aload_n 0, 1) := by decide +kernel
theorem dX11_parts_13 : decode cX11_parts 13 = .ok (.iload_n 2, 1) := by decide +kernel
theorem dX11_parts_14 : decode cX11_parts 14 = .ok (.iload_n 3, 1) := by decide +kernel
theorem dX11_parts_15 : decode cX11_parts 15 = .ok (.iload_n 1, 1) := by decide +kernel
theorem dX11_parts_16 : decode cX11_parts 16 = .ok (.invokevirtual 385, 3) := by decide +kernel
theorem dX11_parts_19 : decode cX11_parts 19 = .ok (.ifCond .ne 9, 3) := by decide +kernel
theorem dX11_parts_22 : decode cX11_parts 22 = .ok (.iinc 3 1, 3) := by decide +kernel
theorem dX11_parts_25 : decode cX11_parts 25 = .ok (.goto (-13), 3) := by decide +kernel
theorem dX11_parts_28 : decode cX11_parts 28 = .ok (.aload_n 0, 1) := by decide +kernel
theorem dX11_parts_29 : decode cX11_parts 29 = .ok (.getfield 379, 3) := by decide +kernel
theorem dX11_parts_32 : decode cX11_parts 32 = .ok (.iload_n 2, 1) := by decide +kernel
theorem dX11_parts_33 : decode cX11_parts 33 = .ok (.iload_n 3, 1) := by decide +kernel
theorem dX11_parts_34 : decode cX11_parts 34 = .ok (.iastore, 1) := by decide +kernel
theorem dX11_parts_35 : decode cX11_parts 35 = .ok (.iinc 2 1, 3) := by decide +kernel
theorem dX11_parts_38 : decode cX11_parts 38 = .ok (.goto (-36), 3) := by decide +kernel
theorem dX11_parts_41 : decode cX11_parts 41 = .ok (.iconst 1, 1) := by decide +kernel
theorem dX11_parts_42 : decode cX11_parts 42 = .ok (.istore_n 2, 1) := by decide +kernel
theorem dX11_parts_43 : decode cX11_parts 43 = .ok (.iload_n 2, 1) := by decide +kernel
theorem dX11_parts_44 : decode cX11_parts 44 = .ok (.ifCond .eq 122, 3) := by decide +kernel
theorem dX11_parts_47 : decode cX11_parts 47 = .ok (.iconst 0, 1) := by decide +kernel
theorem dX11_parts_48 : decode cX11_parts 48 = .ok (.istore_n 2, 1) := by decide +kernel
theorem dX11_parts_49 : decode cX11_parts 49 = .ok (.iconst 0, 1) := by decide +kernel
theorem dX11_parts_50 : decode cX11_parts 50 = .ok (.istore_n 3, 1) := by decide +kernel
theorem dX11_parts_51 : decode cX11_parts 51 = .ok (.iload_n 3, 1) := by decide +kernel
theorem dX11_parts_52 : decode cX11_parts 52 = .ok (.aload_n 0, 1) := by decide +kernel
theorem dX11_parts_53 : decode cX11_parts 53 = .ok (.getfield 227, 3) := by decide +kernel
theorem dX11_parts_56 : decode cX11_parts 56 = .ok (.if_icmp .ge 79, 3) := by decide +kernel
theorem dX11_parts_59 : decode cX11_parts 59 = .ok (.iconst 0, 1) := by decide +kernel
theorem dX11_parts_60 : decode cX11_parts 60 = .ok (.istore 4, 2) := by decide +kernel
theorem dX11_parts_62 : decode cX11_parts 62 = .ok (.iload 4, 2) := by decide +kernel
theorem dX11_parts_64 : decode cX11_parts 64 = .ok (.iload_n 3, 1) := by decide +kernel
theorem dX11_parts_65 : decode cX11_parts 65 = .ok (.if_icmp .ge 31, 3) := by decide +kernel
theorem dX11_parts_68 : decode cX11_parts 68 = .ok (.aload_n 0, 1) := by decide +kernel
theorem dX11_parts_69 : decode cX11_parts 69 = .ok (.getfield 389, 3) := by decide +kernel
theorem dX11_parts_72 : decode cX11_parts 72 = .ok (.iload 4, 2) := by decide +kernel
theorem dX11_parts_74 : decode cX11_parts 74 = .ok (.iaload, 1) := by decide +kernel
theorem dX11_parts_75 : decode cX11_parts 75 = .ok (.iload 4, 2) := by decide +kernel
theorem dX11_parts_77 : decode cX11_parts 77 = .ok (.if_icmp .ne 13, 3) := by decide +kernel
theorem dX11_parts_80 : decode cX11_parts 80 = .ok (.aload_n 0, 1) := by decide +kernel
theorem dX11_parts_81 : decode cX11_parts 81 = .ok (.iload_n 3, 1) := by decide +kernel
theorem dX11_parts_82 : decode cX11_parts 82 = .ok (.iload 4, 2) := by decide +kernel
theorem dX11_parts_84 : decode cX11_parts 84 = .ok (.invokevirtual 392, 3) := by decide +kernel
theorem dX11_parts_87 : decode cX11_parts 87 = .ok (.ifCond .ne 9, 3) := by decide +kernel
theorem dX11_parts_90 : decode cX11_parts 90 = .ok (.iinc 4 1, 3) := by decide +kernel
theorem dX11_parts_93 : decode cX11_parts 93 = .ok (.goto (-31), 3) := by decide +kernel
theorem dX11_parts_96 : decode cX11_parts 96 = .ok (.aload_n 0, 1) := by decide +kernel
theorem dX11_parts_97 : decode cX11_parts 97 = .ok (.getfield 389, 3) := by decide +kernel
theorem dX11_parts_100 : decode cX11_parts 100 = .ok (.iload_n 3, 1) := by decide +kernel
theorem dX11_parts_101 : decode cX11_parts 101 = .ok (.iload 4, 2) := by decide +kernel
theorem dX11_parts_103 : decode cX11_parts 103 = .ok (.iastore, 1) := by decide +kernel
theorem dX11_parts_104 : decode cX11_parts 104 = .ok (.iload_n 2, 1) := by decide +kernel
theorem dX11_parts_105 : decode cX11_parts 105 = .ok (.ifCond .ne 18, 3) := by decide +kernel
theorem dX11_parts_108 : decode cX11_parts 108 = .ok (.aload_n 0, 1) := by decide +kernel
theorem dX11_parts_109 : decode cX11_parts 109 = .ok (.getfield 389, 3) := by decide +kernel
theorem dX11_parts_112 : decode cX11_parts 112 = .ok (.iload_n 3, 1) := by decide +kernel
theorem dX11_parts_113 : decode cX11_parts 113 = .ok (.iaload, 1) := by decide +kernel
theorem dX11_parts_114 : decode cX11_parts 114 = .ok (.aload_n 0, 1) := by decide +kernel
theorem dX11_parts_115 : decode cX11_parts 115 = .ok (.getfield 379, 3) := by decide +kernel
theorem dX11_parts_118 : decode cX11_parts 118 = .ok (.iload_n 3, 1) := by decide +kernel
theorem dX11_parts_119 : decode cX11_parts 119 = .ok (.iaload, 1) := by decide +kernel
theorem dX11_parts_120 : decode cX11_parts 120 = .ok (.if_icmp .eq 7, 3) := by decide +kernel
theorem dX11_parts_123 : decode cX11_parts 123 = .ok (.iconst 1, 1) := by decide +kernel
theorem dX11_parts_124 : decode cX11_parts 124 = .ok (.goto 4, 3) := by decide +kernel
theorem dX11_parts_127 : decode cX11_parts 127 = .ok (.iconst 0, 1) := by decide +kernel
theorem dX11_parts_128 : decode cX11_parts 128 = .ok (.istore_n 2, 1) := by decide +kernel
theorem dX11_parts_129 : decode cX11_parts 129 = .ok (.iinc 3 1, 3) := by decide +kernel
theorem dX11_parts_132 : decode cX11_parts 132 = .ok (.goto (-81), 3) := by decide +kernel
theorem dX11_parts_135 : decode cX11_parts 135 = .ok (.iconst 0, 1) := by decide +kernel
theorem dX11_parts_136 : decode cX11_parts 136 = .ok (.istore_n 3, 1) := by decide +kernel
theorem dX11_parts_137 : decode cX11_parts 137 = .ok (.iload_n 3, 1) := by decide +kernel
theorem dX11_parts_138 : decode cX11_parts 138 = .ok (.aload_n 0, 1) := by decide +kernel
theorem dX11_parts_139 : decode cX11_parts 139 = .ok (.getfield 227, 3) := by decide +kernel
theorem dX11_parts_142 : decode cX11_parts 142 = .ok (.if_icmp .ge 21, 3) := by decide +kernel
theorem dX11_parts_145 : decode cX11_parts 145 = .ok (.aload_n 0, 1) := by decide +kernel
theorem dX11_parts_146 : decode cX11_parts 146 = .ok (.getfield 379, 3) := by decide +kernel
theorem dX11_parts_149 : decode cX11_parts 149 = .ok (.iload_n 3, 1) := by decide +kernel
theorem dX11_parts_150 : decode cX11_parts 150 = .ok (.aload_n 0, 1) := by decide +kernel
theorem dX11_parts_151 : decode cX11_parts 151 = .ok (.getfield 389, 3) := by decide +kernel
theorem dX11_parts_154 : decode cX11_parts 154 = .ok (.iload_n 3, 1) := by decide +kernel
theorem dX11_parts_155 : decode cX11_parts 155 = .ok (.iaload, 1) := by decide +kernel
theorem dX11_parts_156 : decode cX11_parts 156 = .ok (.iastore, 1) := by decide +kernel
theorem dX11_parts_157 : decode cX11_parts 157 = .ok (.iinc 3 1, 3) := by decide +kernel
theorem dX11_parts_160 : decode cX11_parts 160 = .ok (.goto (-23), 3) := by decide +kernel
theorem dX11_parts_163 : decode cX11_parts 163 = .ok (.goto (-120), 3) := by decide +kernel
theorem dX11_parts_166 : decode cX11_parts 166 = .ok (.return_, 1) := by decide +kernel
theorem dX11_areNear_0 : decode cX11_areNear 0 = .ok (.aload_n 0, 1) := by decide +kernel
theorem dX11_areNear_1 : decode cX11_areNear 1 = .ok (.getfield 251, 3) := by decide +kernel
theorem dX11_areNear_4 : decode cX11_areNear 4 = .ok (.iload_n 1, 1) := by decide +kernel
theorem dX11_areNear_5 : decode cX11_areNear 5 = .ok (.iaload, 1) := by decide +kernel
theorem dX11_areNear_6 : decode cX11_areNear 6 = .ok (.ifCond .gt 12, 3) := by decide +kernel
theorem dX11_areNear_9 : decode cX11_areNear 9 = .ok (.aload_n 0, 1) := by decide +kernel
theorem dX11_areNear_10 : decode cX11_areNear 10 = .ok (.getfield 251, 3) := by decide +kernel
theorem dX11_areNear_13 : decode cX11_areNear 13 = .ok (.iload_n 2, 1) := by decide +kernel
theorem dX11_areNear_14 : decode cX11_areNear 14 = .ok (.iaload, 1) := by decide +kernel
theorem dX11_areNear_15 : decode cX11_areNear 15 = .ok (.ifCond .le 27, 3) := by decide +kernel
theorem dX11_areNear_18 : decode cX11_areNear 18 = .ok (.aload_n 0, 1) := by decide +kernel
theorem dX11_areNear_19 : decode cX11_areNear 19 = .ok (.getfield 251, 3) := by decide +kernel
theorem dX11_areNear_22 : decode cX11_areNear 22 = .ok (.iload_n 1, 1) := by decide +kernel
theorem dX11_areNear_23 : decode cX11_areNear 23 = .ok (.iaload, 1) := by decide +kernel
theorem dX11_areNear_24 : decode cX11_areNear 24 = .ok (.ifCond .le 16, 3) := by decide +kernel
theorem dX11_areNear_27 : decode cX11_areNear 27 = .ok (.aload_n 0, 1) := by decide +kernel
theorem dX11_areNear_28 : decode cX11_areNear 28 = .ok (.getfield 251, 3) := by decide +kernel
theorem dX11_areNear_31 : decode cX11_areNear 31 = .ok (.iload_n 2, 1) := by decide +kernel
theorem dX11_areNear_32 : decode cX11_areNear 32 = .ok (.iaload, 1) := by decide +kernel
theorem dX11_areNear_33 : decode cX11_areNear 33 = .ok (.ifCond .le 7, 3) := by decide +kernel
theorem dX11_areNear_36 : decode cX11_areNear 36 = .ok (.iconst 1, 1) := by decide +kernel
theorem dX11_areNear_37 : decode cX11_areNear 37 = .ok (.goto 4, 3) := by decide +kernel
theorem dX11_areNear_40 : decode cX11_areNear 40 = .ok (.iconst 0, 1) := by decide +kernel
theorem dX11_areNear_41 : decode cX11_areNear 41 = .ok (.ireturn, 1) := by decide +kernel
theorem dX11_areNear_42 : decode cX11_areNear 42 = .ok (.aload_n 0, 1) := by decide +kernel
theorem dX11_areNear_43 : decode cX11_areNear 43 = .ok (.getfield 230, 3) := by decide +kernel
theorem dX11_areNear_46 : decode cX11_areNear 46 = .ok (.iload_n 1, 1) := by decide +kernel
theorem dX11_areNear_47 : decode cX11_areNear 47 = .ok (.iaload, 1) := by decide +kernel
theorem dX11_areNear_48 : decode cX11_areNear 48 = .ok (.aload_n 0, 1) := by decide +kernel
theorem dX11_areNear_49 : decode cX11_areNear 49 = .ok (.getfield 230, 3) := by decide +kernel
theorem dX11_areNear_52 : decode cX11_areNear 52 = .ok (.iload_n 2, 1) := by decide +kernel
theorem dX11_areNear_53 : decode cX11_areNear 53 = .ok (.iaload, 1) := by decide +kernel
theorem dX11_areNear_54 : decode cX11_areNear 54 = .ok (.if_icmp .ne 40, 3) := by decide +kernel
theorem dX11_areNear_57 : decode cX11_areNear 57 = .ok (.aload_n 0, 1) := by decide +kernel
theorem dX11_areNear_58 : decode cX11_areNear 58 = .ok (.iload_n 1, 1) := by decide +kernel
theorem dX11_areNear_59 : decode cX11_areNear 59 = .ok (.invokevirtual 330, 3) := by decide +kernel
theorem dX11_areNear_62 : decode cX11_areNear 62 = .ok (.ifCond .eq 28, 3) := by decide +kernel
theorem dX11_areNear_65 : decode cX11_areNear 65 = .ok (.aload_n 0, 1) := by decide +kernel
theorem dX11_areNear_66 : decode cX11_areNear 66 = .ok (.aload_n 0, 1) := by decide +kernel
theorem dX11_areNear_67 : decode cX11_areNear 67 = .ok (.getfield 233, 3) := by decide +kernel
theorem dX11_areNear_70 : decode cX11_areNear 70 = .ok (.iload_n 1, 1) := by decide +kernel
theorem dX11_areNear_71 : decode cX11_areNear 71 = .ok (.iaload, 1) := by decide +kernel
theorem dX11_areNear_72 : decode cX11_areNear 72 = .ok (.iload_n 3, 1) := by decide +kernel
theorem dX11_areNear_73 : decode cX11_areNear 73 = .ok (.invokevirtual 218, 3) := by decide +kernel
theorem dX11_areNear_76 : decode cX11_areNear 76 = .ok (.aload_n 0, 1) := by decide +kernel
theorem dX11_areNear_77 : decode cX11_areNear 77 = .ok (.aload_n 0, 1) := by decide +kernel
theorem dX11_areNear_78 : decode cX11_areNear 78 = .ok (.getfield 233, 3) := by decide +kernel
theorem dX11_areNear_81 : decode cX11_areNear 81 = .ok (.iload_n 2, 1) := by decide +kernel
theorem dX11_areNear_82 : decode cX11_areNear 82 = .ok (.iaload, 1) := by decide +kernel
theorem dX11_areNear_83 : decode cX11_areNear 83 = .ok (.iload_n 3, 1) := by decide +kernel
theorem dX11_areNear_84 : decode cX11_areNear 84 = .ok (.invokevirtual 218, 3) := by decide +kernel
theorem dX11_areNear_87 : decode cX11_areNear 87 = .ok (.if_icmp .ne 7, 3) := by decide +kernel
theorem dX11_areNear_90 : decode cX11_areNear 90 = .ok (.iconst 1, 1) := by decide +kernel
theorem dX11_areNear_91 : decode cX11_areNear 91 = .ok (.goto 4, 3) := by decide +kernel
theorem dX11_areNear_94 : decode cX11_areNear 94 = .ok (.iconst 0, 1) := by decide +kernel
theorem dX11_areNear_95 : decode cX11_areNear 95 = .ok (.ireturn, 1) := by decide +kernel
theorem dX11_rank_0 : decode cX11_rank 0 = .ok (.iconst 0, 1) := by decide +kernel
theorem dX11_rank_1 : decode cX11_rank 1 = .ok (.istore_n 2, 1) := by decide +kernel
theorem dX11_rank_2 : decode cX11_rank 2 = .ok (.iconst 0, 1) := by decide +kernel
theorem dX11_rank_3 : decode cX11_rank 3 = .ok (.istore_n 3, 1) := by decide +kernel
theorem dX11_rank_4 : decode cX11_rank 4 = .ok (.iload_n 3, 1) := by decide +kernel
theorem dX11_rank_5 : decode cX11_rank 5 = .ok (.iload_n 1, 1) := by decide +kernel
theorem dX11_rank_6 : decode cX11_rank 6 = .ok (.if_icmp .ge 27, 3) := by decide +kernel
theorem dX11_rank_9 : decode cX11_rank 9 = .ok (.iload_n 2, 1) := by decide +kernel
theorem dX11_rank_10 : decode cX11_rank 10 = .ok (.aload_n 0, 1) := by decide +kernel
theorem dX11_rank_11 : decode cX11_rank 11 = .ok (.getfield 379, 3) := by decide +kernel
theorem dX11_rank_14 : decode cX11_rank 14 = .ok (.iload_n 3, 1) := by decide +kernel
theorem dX11_rank_15 : decode cX11_rank 15 = .ok (.iaload, 1) := by decide +kernel
theorem dX11_rank_16 : decode cX11_rank 16 = .ok (.iload_n 3, 1) := by decide +kernel
theorem dX11_rank_17 : decode cX11_rank 17 = .ok (.if_icmp .ne 7, 3) := by decide +kernel
theorem dX11_rank_20 : decode cX11_rank 20 = .ok (.iconst 1, 1) := by decide +kernel
theorem dX11_rank_21 : decode cX11_rank 21 = .ok (.goto 4, 3) := by decide +kernel
theorem dX11_rank_24 : decode cX11_rank 24 = .ok (.iconst 0, 1) := by decide +kernel
theorem dX11_rank_25 : decode cX11_rank 25 = .ok (.iadd, 1) := by decide +kernel
theorem dX11_rank_26 : decode cX11_rank 26 = .ok (.istore_n 2, 1) := by decide +kernel
theorem dX11_rank_27 : decode cX11_rank 27 = .ok (.iinc 3 1, 3) := by decide +kernel
theorem dX11_rank_30 : decode cX11_rank 30 = .ok (.goto (-26), 3) := by decide +kernel
theorem dX11_rank_33 : decode cX11_rank 33 = .ok (.iload_n 2, 1) := by decide +kernel
theorem dX11_rank_34 : decode cX11_rank 34 = .ok (.ireturn, 1) := by decide +kernel
theorem dX11_classes_0 : decode cX11_classes 0 = .ok (.aload_n 0, 1) := by decide +kernel
theorem dX11_classes_1 : decode cX11_classes 1 = .ok (.iconst 0, 1) := by decide +kernel
theorem dX11_classes_2 : decode cX11_classes 2 = .ok (.putfield 1, 3) := by decide +kernel
theorem dX11_classes_5 : decode cX11_classes 5 = .ok (.aload_n 0, 1) := by decide +kernel
theorem dX11_classes_6 : decode cX11_classes 6 = .ok (.invokevirtual 335, 3) := by decide +kernel
theorem dX11_classes_9 : decode cX11_classes 9 = .ok (.ifCond .eq 17, 3) := by decide +kernel
theorem dX11_classes_12 : decode cX11_classes 12 = .ok (.aload_n 0, 1) := by decide +kernel
theorem dX11_classes_13 : decode cX11_classes 13 = .ok (.aload_n 0, 1) := by decide +kernel
theorem dX11_classes_14 : decode cX11_classes 14 = .ok (.iload_n 1, 1) := by decide +kernel
theorem dX11_classes_15 : decode cX11_classes 15 = .ok (.invokevirtual 195, 3) := by decide +kernel
theorem dX11_classes_18 : decode cX11_classes 18 = .ok (.iconst 2, 1) := by decide +kernel
theorem dX11_classes_19 : decode cX11_classes 19 = .ok (.iconst 0, 1) := by decide +kernel
theorem dX11_classes_20 : decode cX11_classes 20 = .ok (.invokevirtual 161, 3) := by decide +kernel
theorem dX11_classes_23 : decode cX11_classes 23 = .ok (.ifCond .ne 5, 3) := by decide +kernel
theorem dX11_classes_26 : decode cX11_classes 26 = .ok (.iconst 0, 1) := by decide +kernel
theorem dX11_classes_27 : decode cX11_classes 27 = .ok (.ireturn, 1) := by decide +kernel
theorem dX11_classes_28 : decode cX11_classes 28 = .ok (.aload_n 0, 1) := by decide +kernel
theorem dX11_classes_29 : decode cX11_classes 29 = .ok (.iload_n 1, 1) := by decide +kernel
theorem dX11_classes_30 : decode cX11_classes 30 = .ok (.invokevirtual 395, 3) := by decide +kernel
theorem dX11_classes_33 : decode cX11_classes 33 = .ok (.aload_n 0, 1) := by decide +kernel
theorem dX11_classes_34 : decode cX11_classes 34 = .ok (.aload_n 0, 1) := by decide +kernel
theorem dX11_classes_35 : decode cX11_classes 35 = .ok (.getfield 227, 3) := by decide +kernel
theorem dX11_classes_38 : decode cX11_classes 38 = .ok (.invokevirtual 398, 3) := by decide +kernel
theorem dX11_classes_41 : decode cX11_classes 41 = .ok (.ireturn, 1) := by decide +kernel
theorem dX11_classOf_0 : decode cX11_classOf 0 = .ok (.aload_n 0, 1) := by decide +kernel
theorem dX11_classOf_1 : decode cX11_classOf 1 = .ok (.iconst 0, 1) := by decide +kernel
theorem dX11_classOf_2 : decode cX11_classOf 2 = .ok (.putfield 1, 3) := by decide +kernel
theorem dX11_classOf_5 : decode cX11_classOf 5 = .ok (.aload_n 0, 1) := by decide +kernel
theorem dX11_classOf_6 : decode cX11_classOf 6 = .ok (.invokevirtual 335, 3) := by decide +kernel
theorem dX11_classOf_9 : decode cX11_classOf 9 = .ok (.ifCond .eq 33, 3) := by decide +kernel
theorem dX11_classOf_12 : decode cX11_classOf 12 = .ok (.aload_n 0, 1) := by decide +kernel
theorem dX11_classOf_13 : decode cX11_classOf 13 = .ok (.aload_n 0, 1) := by decide +kernel
theorem dX11_classOf_14 : decode cX11_classOf 14 = .ok (.iload_n 1, 1) := by decide +kernel
theorem dX11_classOf_15 : decode cX11_classOf 15 = .ok (.invokevirtual 195, 3) := by decide +kernel
theorem dX11_classOf_18 : decode cX11_classOf 18 = .ok (.ifCond .eq 15, 3) := by decide +kernel
theorem dX11_classOf_21 : decode cX11_classOf 21 = .ok (.aload_n 0, 1) := by decide +kernel
theorem dX11_classOf_22 : decode cX11_classOf 22 = .ok (.iload_n 2, 1) := by decide +kernel
theorem dX11_classOf_23 : decode cX11_classOf 23 = .ok (.invokevirtual 338, 3) := by decide +kernel
theorem dX11_classOf_26 : decode cX11_classOf 26 = .ok (.ifCond .eq 7, 3) := by decide +kernel
theorem dX11_classOf_29 : decode cX11_classOf 29 = .ok (.iconst 1, 1) := by decide +kernel
theorem dX11_classOf_30 : decode cX11_classOf 30 = .ok (.goto 4, 3) := by decide +kernel
theorem dX11_classOf_33 : decode cX11_classOf 33 = .ok (.iconst 0, 1) := by decide +kernel
theorem dX11_classOf_34 : decode cX11_classOf 34 = .ok (.iconst 2, 1) := by decide +kernel
theorem dX11_classOf_35 : decode cX11_classOf 35 = .ok (.iconst 0, 1) := by decide +kernel
theorem dX11_classOf_36 : decode cX11_classOf 36 = .ok (.invokevirtual 161, 3) := by decide +kernel
theorem dX11_classOf_39 : decode cX11_classOf 39 = .ok (.ifCond .ne 5, 3) := by decide +kernel
theorem dX11_classOf_42 : decode cX11_classOf 42 = .ok (.iconst 0, 1) := by decide +kernel
theorem dX11_classOf_43 : decode cX11_classOf 43 = .ok (.ireturn, 1) := by decide +kernel
theorem dX11_classOf_44 : decode cX11_classOf 44 = .ok (.aload_n 0, 1) := by decide +kernel
theorem dX11_classOf_45 : decode cX11_classOf 45 = .ok (.iload_n 1, 1) := by decide +kernel
theorem dX11_classOf_46 : decode cX11_classOf 46 = .ok (.invokevirtual 395, 3) := by decide +kernel
theorem dX11_classOf_49 : decode cX11_classOf 49 = .ok (.aload_n 0, 1) := by decide +kernel
theorem dX11_classOf_50 : decode cX11_classOf 50 = .ok (.aload_n 0, 1) := by decide +kernel
theorem dX11_classOf_51 : decode cX11_classOf 51 = .ok (.getfield 379, 3) := by decide +kernel
theorem dX11_classOf_54 : decode cX11_classOf 54 = .ok (.iload_n 2, 1) := by decide +kernel
theorem dX11_classOf_55 : decode cX11_classOf 55 = .ok (.iaload, 1) := by decide +kernel
theorem dX11_classOf_56 : decode cX11_classOf 56 = .ok (.invokevirtual 398, 3) := by decide +kernel
theorem dX11_classOf_59 : decode cX11_classOf 59 = .ok (.ireturn, 1) := by decide +kernel
theorem dX11_isDrawn_0 : decode cX11_isDrawn 0 = .ok (.aload_n 0, 1) := by decide +kernel
theorem dX11_isDrawn_1 : decode cX11_isDrawn 1 = .ok (.getfield 230, 3) := by decide +kernel
theorem dX11_isDrawn_4 : decode cX11_isDrawn 4 = .ok (.iload_n 1, 1) := by decide +kernel
theorem dX11_isDrawn_5 : decode cX11_isDrawn 5 = .ok (.iaload, 1) := by decide +kernel
theorem dX11_isDrawn_6 : decode cX11_isDrawn 6 = .ok (.aload_n 0, 1) := by decide +kernel
theorem dX11_isDrawn_7 : decode cX11_isDrawn 7 = .ok (.getfield 172, 3) := by decide +kernel
theorem dX11_isDrawn_10 : decode cX11_isDrawn 10 = .ok (.if_icmp .ge 37, 3) := by decide +kernel
theorem dX11_isDrawn_13 : decode cX11_isDrawn 13 = .ok (.aload_n 0, 1) := by decide +kernel
theorem dX11_isDrawn_14 : decode cX11_isDrawn 14 = .ok (.aload_n 0, 1) := by decide +kernel
theorem dX11_isDrawn_15 : decode cX11_isDrawn 15 = .ok (.getfield 230, 3) := by decide +kernel
theorem dX11_isDrawn_18 : decode cX11_isDrawn 18 = .ok (.iload_n 1, 1) := by decide +kernel
theorem dX11_isDrawn_19 : decode cX11_isDrawn 19 = .ok (.iaload, 1) := by decide +kernel
theorem dX11_isDrawn_20 : decode cX11_isDrawn 20 = .ok (.iconst 0, 1) := by decide +kernel
theorem dX11_isDrawn_21 : decode cX11_isDrawn 21 = .ok (.invokevirtual 175, 3) := by decide +kernel
theorem dX11_isDrawn_24 : decode cX11_isDrawn 24 = .ok (.iconst 1, 1) := by decide +kernel
theorem dX11_isDrawn_25 : decode cX11_isDrawn 25 = .ok (.if_icmp .eq 18, 3) := by decide +kernel
theorem dX11_isDrawn_28 : decode cX11_isDrawn 28 = .ok (.aload_n 0, 1) := by decide +kernel
theorem dX11_isDrawn_29 : decode cX11_isDrawn 29 = .ok (.aload_n 0, 1) := by decide +kernel
theorem dX11_isDrawn_30 : decode cX11_isDrawn 30 = .ok (.getfield 230, 3) := by decide +kernel
theorem dX11_isDrawn_33 : decode cX11_isDrawn 33 = .ok (.iload_n 1, 1) := by decide +kernel
theorem dX11_isDrawn_34 : decode cX11_isDrawn 34 = .ok (.iaload, 1) := by decide +kernel
theorem dX11_isDrawn_35 : decode cX11_isDrawn 35 = .ok (.iconst 0, 1) := by decide +kernel
theorem dX11_isDrawn_36 : decode cX11_isDrawn 36 = .ok (.invokevirtual 175, 3) := by decide +kernel
theorem dX11_isDrawn_39 : decode cX11_isDrawn 39 = .ok (.iconst 2, 1) := by decide +kernel
theorem dX11_isDrawn_40 : decode cX11_isDrawn 40 = .ok (.if_icmp .ne 7, 3) := by decide +kernel
theorem dX11_isDrawn_43 : decode cX11_isDrawn 43 = .ok (.iconst 1, 1) := by decide +kernel
theorem dX11_isDrawn_44 : decode cX11_isDrawn 44 = .ok (.goto 4, 3) := by decide +kernel
theorem dX11_isDrawn_47 : decode cX11_isDrawn 47 = .ok (.iconst 0, 1) := by decide +kernel
theorem dX11_isDrawn_48 : decode cX11_isDrawn 48 = .ok (.ireturn, 1) := by decide +kernel
theorem dX11_ahead_0 : decode cX11_ahead 0 = .ok (.iload_n 1, 1) := by decide +kernel
theorem dX11_ahead_1 : decode cX11_ahead 1 = .ok (.istore_n 2, 1) := by decide +kernel
theorem dX11_ahead_2 : decode cX11_ahead 2 = .ok (.iconst 0, 1) := by decide +kernel
theorem dX11_ahead_3 : decode cX11_ahead 3 = .ok (.istore_n 3, 1) := by decide +kernel
theorem dX11_ahead_4 : decode cX11_ahead 4 = .ok (.iload_n 3, 1) := by decide +kernel
theorem dX11_ahead_5 : decode cX11_ahead 5 = .ok (.aload_n 0, 1) := by decide +kernel
theorem dX11_ahead_6 : decode cX11_ahead 6 = .ok (.getfield 227, 3) := by decide +kernel
theorem dX11_ahead_9 : decode cX11_ahead 9 = .ok (.if_icmp .gt 48, 3) := by decide +kernel
theorem dX11_ahead_12 : decode cX11_ahead 12 = .ok (.aload_n 0, 1) := by decide +kernel
theorem dX11_ahead_13 : decode cX11_ahead 13 = .ok (.iload_n 2, 1) := by decide +kernel
theorem dX11_ahead_14 : decode cX11_ahead 14 = .ok (.invokevirtual 401, 3) := by decide +kernel
theorem dX11_ahead_17 : decode cX11_ahead 17 = .ok (.ifCond .ne 11, 3) := by decide +kernel
theorem dX11_ahead_20 : decode cX11_ahead 20 = .ok (.aload_n 0, 1) := by decide +kernel
theorem dX11_ahead_21 : decode cX11_ahead 21 = .ok (.iload_n 2, 1) := by decide +kernel
theorem dX11_ahead_22 : decode cX11_ahead 22 = .ok (.invokevirtual 330, 3) := by decide +kernel
theorem dX11_ahead_25 : decode cX11_ahead 25 = .ok (.ifCond .eq 5, 3) := by decide +kernel
theorem dX11_ahead_28 : decode cX11_ahead 28 = .ok (.iload_n 2, 1) := by decide +kernel
theorem dX11_ahead_29 : decode cX11_ahead 29 = .ok (.ireturn, 1) := by decide +kernel
theorem dX11_ahead_30 : decode cX11_ahead 30 = .ok (.aload_n 0, 1) := by decide +kernel
theorem dX11_ahead_31 : decode cX11_ahead 31 = .ok (.getfield 251, 3) := by decide +kernel
theorem dX11_ahead_34 : decode cX11_ahead 34 = .ok (.iload_n 2, 1) := by decide +kernel
theorem dX11_ahead_35 : decode cX11_ahead 35 = .ok (.iaload, 1) := by decide +kernel
theorem dX11_ahead_36 : decode cX11_ahead 36 = .ok (.ifCond .ne 5, 3) := by decide +kernel
theorem dX11_ahead_39 : decode cX11_ahead 39 = .ok (.iconst (-1), 1) := by decide +kernel
theorem dX11_ahead_40 : decode cX11_ahead 40 = .ok (.ireturn, 1) := by decide +kernel
theorem dX11_ahead_41 : decode cX11_ahead 41 = .ok (.aload_n 0, 1) := by decide +kernel
theorem dX11_ahead_42 : decode cX11_ahead 42 = .ok (.getfield 248, 3) := by decide +kernel
theorem dX11_ahead_45 : decode cX11_ahead 45 = .ok (.bipush 10, 2) := by decide +kernel
theorem dX11_ahead_47 : decode cX11_ahead 47 = .ok (.iload_n 2, 1) := by decide +kernel
theorem dX11_ahead_48 : decode cX11_ahead 48 = .ok (.imul, 1) := by decide +kernel
theorem dX11_ahead_49 : decode cX11_ahead 49 = .ok (.iaload, 1) := by decide +kernel
theorem dX11_ahead_50 : decode cX11_ahead 50 = .ok (.istore_n 2, 1) := by decide +kernel
theorem dX11_ahead_51 : decode cX11_ahead 51 = .ok (.iinc 3 1, 3) := by decide +kernel
theorem dX11_ahead_54 : decode cX11_ahead 54 = .ok (.goto (-50), 3) := by decide +kernel
theorem dX11_ahead_57 : decode cX11_ahead 57 = .ok (.iconst (-1), 1) := by decide +kernel
theorem dX11_ahead_58 : decode cX11_ahead 58 = .ok (.ireturn, 1) := by decide +kernel
theorem dX11_mostOf_0 : decode cX11_mostOf 0 = .ok (.aload_n 0, 1) := by decide +kernel
theorem dX11_mostOf_1 : decode cX11_mostOf 1 = .ok (.iload_n 2, 1) := by decide +kernel
theorem dX11_mostOf_2 : decode cX11_mostOf 2 = .ok (.invokevirtual 404, 3) := by decide +kernel
theorem dX11_mostOf_5 : decode cX11_mostOf 5 = .ok (.istore_n 3, 1) := by decide +kernel
theorem dX11_mostOf_6 : decode cX11_mostOf 6 = .ok (.iload_n 3, 1) := by decide +kernel
theorem dX11_mostOf_7 : decode cX11_mostOf 7 = .ok (.iconst (-1), 1) := by decide +kernel
theorem dX11_mostOf_8 : decode cX11_mostOf 8 = .ok (.if_icmp .ne 7, 3) := by decide +kernel
theorem dX11_mostOf_11 : decode cX11_mostOf 11 = .ok (.lconst 0, 1) := by decide +kernel
theorem dX11_mostOf_12 : decode cX11_mostOf 12 = .ok (.goto 35, 3) := by decide +kernel
theorem dX11_mostOf_15 : decode cX11_mostOf 15 = .ok (.aload_n 0, 1) := by decide +kernel
theorem dX11_mostOf_16 : decode cX11_mostOf 16 = .ok (.iload_n 3, 1) := by decide +kernel
theorem dX11_mostOf_17 : decode cX11_mostOf 17 = .ok (.invokevirtual 330, 3) := by decide +kernel
theorem dX11_mostOf_20 : decode cX11_mostOf 20 = .ok (.ifCond .eq 15, 3) := by decide +kernel
theorem dX11_mostOf_23 : decode cX11_mostOf 23 = .ok (.iload_n 1, 1) := by decide +kernel
theorem dX11_mostOf_24 : decode cX11_mostOf 24 = .ok (.ifCond .ne 7, 3) := by decide +kernel
theorem dX11_mostOf_27 : decode cX11_mostOf 27 = .ok (.lconst 1, 1) := by decide +kernel
theorem dX11_mostOf_28 : decode cX11_mostOf 28 = .ok (.goto 19, 3) := by decide +kernel
theorem dX11_mostOf_31 : decode cX11_mostOf 31 = .ok (.lconst 0, 1) := by decide +kernel
theorem dX11_mostOf_32 : decode cX11_mostOf 32 = .ok (.goto 15, 3) := by decide +kernel
theorem dX11_mostOf_35 : decode cX11_mostOf 35 = .ok (.aload_n 0, 1) := by decide +kernel
theorem dX11_mostOf_36 : decode cX11_mostOf 36 = .ok (.getfield 407, 3) := by decide +kernel
theorem dX11_mostOf_39 : decode cX11_mostOf 39 = .ok (.sipush 200, 3) := by decide +kernel
theorem dX11_mostOf_42 : decode cX11_mostOf 42 = .ok (.iload_n 1, 1) := by decide +kernel
theorem dX11_mostOf_43 : decode cX11_mostOf 43 = .ok (.imul, 1) := by decide +kernel
theorem dX11_mostOf_44 : decode cX11_mostOf 44 = .ok (.iload_n 3, 1) := by decide +kernel
theorem dX11_mostOf_45 : decode cX11_mostOf 45 = .ok (.iadd, 1) := by decide +kernel
theorem dX11_mostOf_46 : decode cX11_mostOf 46 = .ok (.laload, 1) := by decide +kernel
theorem dX11_mostOf_47 : decode cX11_mostOf 47 = .ok (.lreturn, 1) := by decide +kernel
theorem dX11_weighs_0 : decode cX11_weighs 0 = .ok (.iconst 0, 1) := by decide +kernel
theorem dX11_weighs_1 : decode cX11_weighs 1 = .ok (.istore_n 1, 1) := by decide +kernel
theorem dX11_weighs_2 : decode cX11_weighs 2 = .ok (.iload_n 1, 1) := by decide +kernel
theorem dX11_weighs_3 : decode cX11_weighs 3 = .ok (.bipush 10, 2) := by decide +kernel
theorem dX11_weighs_5 : decode cX11_weighs 5 = .ok (.if_icmp .gt 110, 3) := by decide +kernel
theorem dX11_weighs_8 : decode cX11_weighs 8 = .ok (.iconst 0, 1) := by decide +kernel
theorem dX11_weighs_9 : decode cX11_weighs 9 = .ok (.istore_n 2, 1) := by decide +kernel
theorem dX11_weighs_10 : decode cX11_weighs 10 = .ok (.iload_n 2, 1) := by decide +kernel
theorem dX11_weighs_11 : decode cX11_weighs 11 = .ok (.aload_n 0, 1) := by decide +kernel
theorem dX11_weighs_12 : decode cX11_weighs 12 = .ok (.getfield 227, 3) := by decide +kernel
theorem dX11_weighs_15 : decode cX11_weighs 15 = .ok (.if_icmp .ge 94, 3) := by decide +kernel
theorem dX11_weighs_18 : decode cX11_weighs 18 = .ok (.lconst 0, 1) := by decide +kernel
theorem dX11_weighs_19 : decode cX11_weighs 19 = .ok (.lstore_n 3, 1) := by decide +kernel
theorem dX11_weighs_20 : decode cX11_weighs 20 = .ok (.iconst 0, 1) := by decide +kernel
theorem dX11_weighs_21 : decode cX11_weighs 21 = .ok (.istore 5, 2) := by decide +kernel
theorem dX11_weighs_23 : decode cX11_weighs 23 = .ok (.iload 5, 2) := by decide +kernel
theorem dX11_weighs_25 : decode cX11_weighs 25 = .ok (.aload_n 0, 1) := by decide +kernel
theorem dX11_weighs_26 : decode cX11_weighs 26 = .ok (.getfield 251, 3) := by decide +kernel
theorem dX11_weighs_29 : decode cX11_weighs 29 = .ok (.iload_n 2, 1) := by decide +kernel
theorem dX11_weighs_30 : decode cX11_weighs 30 = .ok (.iaload, 1) := by decide +kernel
theorem dX11_weighs_31 : decode cX11_weighs 31 = .ok (.if_icmp .ge 59, 3) := by decide +kernel
theorem dX11_weighs_34 : decode cX11_weighs 34 = .ok (.iload_n 1, 1) := by decide +kernel
theorem dX11_weighs_35 : decode cX11_weighs 35 = .ok (.ifCond .le 55, 3) := by decide +kernel
theorem dX11_weighs_38 : decode cX11_weighs 38 = .ok (.aload_n 0, 1) := by decide +kernel
theorem dX11_weighs_39 : decode cX11_weighs 39 = .ok (.iload_n 2, 1) := by decide +kernel
theorem dX11_weighs_40 : decode cX11_weighs 40 = .ok (.invokevirtual 401, 3) := by decide +kernel
theorem dX11_weighs_43 : decode cX11_weighs 43 = .ok (.ifCond .eq 47, 3) := by decide +kernel
theorem dX11_weighs_46 : decode cX11_weighs 46 = .ok (.lload_n 3, 1) := by decide +kernel
theorem dX11_weighs_47 : decode cX11_weighs 47 = .ok (.aload_n 0, 1) := by decide +kernel
theorem dX11_weighs_48 : decode cX11_weighs 48 = .ok (.getfield 254, 3) := by decide +kernel
theorem dX11_weighs_51 : decode cX11_weighs 51 = .ok (.bipush 10, 2) := by decide +kernel
theorem dX11_weighs_53 : decode cX11_weighs 53 = .ok (.iload_n 2, 1) := by decide +kernel
theorem dX11_weighs_54 : decode cX11_weighs 54 = .ok (.imul, 1) := by decide +kernel
theorem dX11_weighs_55 : decode cX11_weighs 55 = .ok (.iload 5, 2) := by decide +kernel
theorem dX11_weighs_57 : decode cX11_weighs 57 = .ok (.iadd, 1) := by decide +kernel
theorem dX11_weighs_58 : decode cX11_weighs 58 = .ok (.iaload, 1) := by decide +kernel
theorem dX11_weighs_59 : decode cX11_weighs 59 = .ok (.i2l, 1) := by decide +kernel
theorem dX11_weighs_60 : decode cX11_weighs 60 = .ok (.aload_n 0, 1) := by decide +kernel
theorem dX11_weighs_61 : decode cX11_weighs 61 = .ok (.iload_n 1, 1) := by decide +kernel
theorem dX11_weighs_62 : decode cX11_weighs 62 = .ok (.iconst 1, 1) := by decide +kernel
theorem dX11_weighs_63 : decode cX11_weighs 63 = .ok (.isub, 1) := by decide +kernel
theorem dX11_weighs_64 : decode cX11_weighs 64 = .ok (.aload_n 0, 1) := by decide +kernel
theorem dX11_weighs_65 : decode cX11_weighs 65 = .ok (.getfield 248, 3) := by decide +kernel
theorem dX11_weighs_68 : decode cX11_weighs 68 = .ok (.bipush 10, 2) := by decide +kernel
theorem dX11_weighs_70 : decode cX11_weighs 70 = .ok (.iload_n 2, 1) := by decide +kernel
theorem dX11_weighs_71 : decode cX11_weighs 71 = .ok (.imul, 1) := by decide +kernel
theorem dX11_weighs_72 : decode cX11_weighs 72 = .ok (.iload 5, 2) := by decide +kernel
theorem dX11_weighs_74 : decode cX11_weighs 74 = .ok (.iadd, 1) := by decide +kernel
theorem dX11_weighs_75 : decode cX11_weighs 75 = .ok (.iaload, 1) := by decide +kernel
theorem dX11_weighs_76 : decode cX11_weighs 76 = .ok (.invokevirtual 410, 3) := by decide +kernel
theorem dX11_weighs_79 : decode cX11_weighs 79 = .ok (.lmul, 1) := by decide +kernel
theorem dX11_weighs_80 : decode cX11_weighs 80 = .ok (.invokestatic 413, 3) := by decide +kernel
theorem dX11_weighs_83 : decode cX11_weighs 83 = .ok (.lstore_n 3, 1) := by decide +kernel
theorem dX11_weighs_84 : decode cX11_weighs 84 = .ok (.iinc 5 1, 3) := by decide +kernel
theorem dX11_weighs_87 : decode cX11_weighs 87 = .ok (.goto (-64), 3) := by decide +kernel
theorem dX11_weighs_90 : decode cX11_weighs 90 = .ok (.aload_n 0, 1) := by decide +kernel
theorem dX11_weighs_91 : decode cX11_weighs 91 = .ok (.getfield 407, 3) := by decide +kernel
theorem dX11_weighs_94 : decode cX11_weighs 94 = .ok (.sipush 200, 3) := by decide +kernel
theorem dX11_weighs_97 : decode cX11_weighs 97 = .ok (.iload_n 1, 1) := by decide +kernel
theorem dX11_weighs_98 : decode cX11_weighs 98 = .ok (.imul, 1) := by decide +kernel
theorem dX11_weighs_99 : decode cX11_weighs 99 = .ok (.iload_n 2, 1) := by decide +kernel
theorem dX11_weighs_100 : decode cX11_weighs 100 = .ok (.iadd, 1) := by decide +kernel
theorem dX11_weighs_101 : decode cX11_weighs 101 = .ok (.lload_n 3, 1) := by decide +kernel
theorem dX11_weighs_102 : decode cX11_weighs 102 = .ok (.lastore, 1) := by decide +kernel
theorem dX11_weighs_103 : decode cX11_weighs 103 = .ok (.iinc 2 1, 3) := by decide +kernel
theorem dX11_weighs_106 : decode cX11_weighs 106 = .ok (.goto (-96), 3) := by decide +kernel
theorem dX11_weighs_109 : decode cX11_weighs 109 = .ok (.iinc 1 1, 3) := by decide +kernel
theorem dX11_weighs_112 : decode cX11_weighs 112 = .ok (.goto (-110), 3) := by decide +kernel
theorem dX11_weighs_115 : decode cX11_weighs 115 = .ok (.return_, 1) := by decide +kernel
theorem dX11_sixties_0 : decode cX11_sixties 0 = .ok (.lconst 1, 1) := by decide +kernel
theorem dX11_sixties_1 : decode cX11_sixties 1 = .ok (.lstore_n 1, 1) := by decide +kernel
theorem dX11_sixties_2 : decode cX11_sixties 2 = .ok (.iconst 0, 1) := by decide +kernel
theorem dX11_sixties_3 : decode cX11_sixties 3 = .ok (.istore_n 3, 1) := by decide +kernel
theorem dX11_sixties_4 : decode cX11_sixties 4 = .ok (.iload_n 3, 1) := by decide +kernel
theorem dX11_sixties_5 : decode cX11_sixties 5 = .ok (.iload_n 0, 1) := by decide +kernel
theorem dX11_sixties_6 : decode cX11_sixties 6 = .ok (.if_icmp .ge 15, 3) := by decide +kernel
theorem dX11_sixties_9 : decode cX11_sixties 9 = .ok (.lload_n 1, 1) := by decide +kernel
theorem dX11_sixties_10 : decode cX11_sixties 10 = .ok (.ldc2_w 206, 3) := by decide +kernel
theorem dX11_sixties_13 : decode cX11_sixties 13 = .ok (.lmul, 1) := by decide +kernel
theorem dX11_sixties_14 : decode cX11_sixties 14 = .ok (.lstore_n 1, 1) := by decide +kernel
theorem dX11_sixties_15 : decode cX11_sixties 15 = .ok (.iinc 3 1, 3) := by decide +kernel
theorem dX11_sixties_18 : decode cX11_sixties 18 = .ok (.goto (-14), 3) := by decide +kernel
theorem dX11_sixties_21 : decode cX11_sixties 21 = .ok (.lload_n 1, 1) := by decide +kernel
theorem dX11_sixties_22 : decode cX11_sixties 22 = .ok (.lreturn, 1) := by decide +kernel
theorem dX11_length_0 : decode cX11_length 0 = .ok (.aload_n 0, 1) := by decide +kernel
theorem dX11_length_1 : decode cX11_length 1 = .ok (.invokevirtual 416, 3) := by decide +kernel
theorem dX11_length_4 : decode cX11_length 4 = .ok (.iconst (-1), 1) := by decide +kernel
theorem dX11_length_5 : decode cX11_length 5 = .ok (.istore_n 1, 1) := by decide +kernel
theorem dX11_length_6 : decode cX11_length 6 = .ok (.iconst 0, 1) := by decide +kernel
theorem dX11_length_7 : decode cX11_length 7 = .ok (.istore_n 2, 1) := by decide +kernel
theorem dX11_length_8 : decode cX11_length 8 = .ok (.iload_n 2, 1) := by decide +kernel
theorem dX11_length_9 : decode cX11_length 9 = .ok (.bipush 10, 2) := by decide +kernel
theorem dX11_length_11 : decode cX11_length 11 = .ok (.if_icmp .gt 52, 3) := by decide +kernel
theorem dX11_length_14 : decode cX11_length 14 = .ok (.aload_n 0, 1) := by decide +kernel
theorem dX11_length_15 : decode cX11_length 15 = .ok (.iload_n 2, 1) := by decide +kernel
theorem dX11_length_16 : decode cX11_length 16 = .ok (.iconst 0, 1) := by decide +kernel
theorem dX11_length_17 : decode cX11_length 17 = .ok (.invokevirtual 410, 3) := by decide +kernel
theorem dX11_length_20 : decode cX11_length 20 = .ok (.bipush 10, 2) := by decide +kernel
theorem dX11_length_22 : decode cX11_length 22 = .ok (.iload_n 2, 1) := by decide +kernel
theorem dX11_length_23 : decode cX11_length 23 = .ok (.isub, 1) := by decide +kernel
theorem dX11_length_24 : decode cX11_length 24 = .ok (.invokestatic 419, 3) := by decide +kernel
theorem dX11_length_27 : decode cX11_length 27 = .ok (.lmul, 1) := by decide +kernel
theorem dX11_length_28 : decode cX11_length 28 = .ok (.iload_n 1, 1) := by decide +kernel
theorem dX11_length_29 : decode cX11_length 29 = .ok (.iconst (-1), 1) := by decide +kernel
theorem dX11_length_30 : decode cX11_length 30 = .ok (.if_icmp .ne 7, 3) := by decide +kernel
theorem dX11_length_33 : decode cX11_length 33 = .ok (.lconst 0, 1) := by decide +kernel
theorem dX11_length_34 : decode cX11_length 34 = .ok (.goto 17, 3) := by decide +kernel
theorem dX11_length_37 : decode cX11_length 37 = .ok (.aload_n 0, 1) := by decide +kernel
theorem dX11_length_38 : decode cX11_length 38 = .ok (.iload_n 1, 1) := by decide +kernel
theorem dX11_length_39 : decode cX11_length 39 = .ok (.iconst 0, 1) := by decide +kernel
theorem dX11_length_40 : decode cX11_length 40 = .ok (.invokevirtual 410, 3) := by decide +kernel
theorem dX11_length_43 : decode cX11_length 43 = .ok (.bipush 10, 2) := by decide +kernel
theorem dX11_length_45 : decode cX11_length 45 = .ok (.iload_n 1, 1) := by decide +kernel
theorem dX11_length_46 : decode cX11_length 46 = .ok (.isub, 1) := by decide +kernel
theorem dX11_length_47 : decode cX11_length 47 = .ok (.invokestatic 419, 3) := by decide +kernel
theorem dX11_length_50 : decode cX11_length 50 = .ok (.lmul, 1) := by decide +kernel
theorem dX11_length_51 : decode cX11_length 51 = .ok (.lcmp, 1) := by decide +kernel
theorem dX11_length_52 : decode cX11_length 52 = .ok (.ifCond .le 5, 3) := by decide +kernel
theorem dX11_length_55 : decode cX11_length 55 = .ok (.iload_n 2, 1) := by decide +kernel
theorem dX11_length_56 : decode cX11_length 56 = .ok (.istore_n 1, 1) := by decide +kernel
theorem dX11_length_57 : decode cX11_length 57 = .ok (.iinc 2 1, 3) := by decide +kernel
theorem dX11_length_60 : decode cX11_length 60 = .ok (.goto (-52), 3) := by decide +kernel
theorem dX11_length_63 : decode cX11_length 63 = .ok (.iload_n 1, 1) := by decide +kernel
theorem dX11_length_64 : decode cX11_length 64 = .ok (.ireturn, 1) := by decide +kernel
theorem dX11_drawnAt_0 : decode cX11_drawnAt 0 = .ok (.aload_n 0, 1) := by decide +kernel
theorem dX11_drawnAt_1 : decode cX11_drawnAt 1 = .ok (.iconst 0, 1) := by decide +kernel
theorem dX11_drawnAt_2 : decode cX11_drawnAt 2 = .ok (.invokevirtual 404, 3) := by decide +kernel
theorem dX11_drawnAt_5 : decode cX11_drawnAt 5 = .ok (.istore_n 3, 1) := by decide +kernel
theorem dX11_drawnAt_6 : decode cX11_drawnAt 6 = .ok (.iload_n 1, 1) := by decide +kernel
theorem dX11_drawnAt_7 : decode cX11_drawnAt 7 = .ok (.istore 4, 2) := by decide +kernel
theorem dX11_drawnAt_9 : decode cX11_drawnAt 9 = .ok (.iconst 0, 1) := by decide +kernel
theorem dX11_drawnAt_10 : decode cX11_drawnAt 10 = .ok (.istore 5, 2) := by decide +kernel
theorem dX11_drawnAt_12 : decode cX11_drawnAt 12 = .ok (.aload_n 0, 1) := by decide +kernel
theorem dX11_drawnAt_13 : decode cX11_drawnAt 13 = .ok (.getfield 254, 3) := by decide +kernel
theorem dX11_drawnAt_16 : decode cX11_drawnAt 16 = .ok (.bipush 10, 2) := by decide +kernel
theorem dX11_drawnAt_18 : decode cX11_drawnAt 18 = .ok (.iload_n 3, 1) := by decide +kernel
theorem dX11_drawnAt_19 : decode cX11_drawnAt 19 = .ok (.imul, 1) := by decide +kernel
theorem dX11_drawnAt_20 : decode cX11_drawnAt 20 = .ok (.iload 5, 2) := by decide +kernel
theorem dX11_drawnAt_22 : decode cX11_drawnAt 22 = .ok (.iadd, 1) := by decide +kernel
theorem dX11_drawnAt_23 : decode cX11_drawnAt 23 = .ok (.iaload, 1) := by decide +kernel
theorem dX11_drawnAt_24 : decode cX11_drawnAt 24 = .ok (.i2l, 1) := by decide +kernel
theorem dX11_drawnAt_25 : decode cX11_drawnAt 25 = .ok (.aload_n 0, 1) := by decide +kernel
theorem dX11_drawnAt_26 : decode cX11_drawnAt 26 = .ok (.iload 4, 2) := by decide +kernel
theorem dX11_drawnAt_28 : decode cX11_drawnAt 28 = .ok (.iconst 1, 1) := by decide +kernel
theorem dX11_drawnAt_29 : decode cX11_drawnAt 29 = .ok (.isub, 1) := by decide +kernel
theorem dX11_drawnAt_30 : decode cX11_drawnAt 30 = .ok (.aload_n 0, 1) := by decide +kernel
theorem dX11_drawnAt_31 : decode cX11_drawnAt 31 = .ok (.getfield 248, 3) := by decide +kernel
theorem dX11_drawnAt_34 : decode cX11_drawnAt 34 = .ok (.bipush 10, 2) := by decide +kernel
theorem dX11_drawnAt_36 : decode cX11_drawnAt 36 = .ok (.iload_n 3, 1) := by decide +kernel
theorem dX11_drawnAt_37 : decode cX11_drawnAt 37 = .ok (.imul, 1) := by decide +kernel
theorem dX11_drawnAt_38 : decode cX11_drawnAt 38 = .ok (.iload 5, 2) := by decide +kernel
theorem dX11_drawnAt_40 : decode cX11_drawnAt 40 = .ok (.iadd, 1) := by decide +kernel
theorem dX11_drawnAt_41 : decode cX11_drawnAt 41 = .ok (.iaload, 1) := by decide +kernel
theorem dX11_drawnAt_42 : decode cX11_drawnAt 42 = .ok (.invokevirtual 410, 3) := by decide +kernel
theorem dX11_drawnAt_45 : decode cX11_drawnAt 45 = .ok (.lmul, 1) := by decide +kernel
theorem dX11_drawnAt_46 : decode cX11_drawnAt 46 = .ok (.aload_n 0, 1) := by decide +kernel
theorem dX11_drawnAt_47 : decode cX11_drawnAt 47 = .ok (.getfield 407, 3) := by decide +kernel
theorem dX11_drawnAt_50 : decode cX11_drawnAt 50 = .ok (.sipush 200, 3) := by decide +kernel
theorem dX11_drawnAt_53 : decode cX11_drawnAt 53 = .ok (.iload 4, 2) := by decide +kernel
theorem dX11_drawnAt_55 : decode cX11_drawnAt 55 = .ok (.imul, 1) := by decide +kernel
theorem dX11_drawnAt_56 : decode cX11_drawnAt 56 = .ok (.iload_n 3, 1) := by decide +kernel
theorem dX11_drawnAt_57 : decode cX11_drawnAt 57 = .ok (.iadd, 1) := by decide +kernel
theorem dX11_drawnAt_58 : decode cX11_drawnAt 58 = .ok (.laload, 1) := by decide +kernel
theorem dX11_drawnAt_59 : decode cX11_drawnAt 59 = .ok (.lcmp, 1) := by decide +kernel
theorem dX11_drawnAt_60 : decode cX11_drawnAt 60 = .ok (.ifCond .eq 9, 3) := by decide +kernel
theorem dX11_drawnAt_63 : decode cX11_drawnAt 63 = .ok (.iinc 5 1, 3) := by decide +kernel
theorem dX11_drawnAt_66 : decode cX11_drawnAt 66 = .ok (.goto (-54), 3) := by decide +kernel
theorem dX11_drawnAt_69 : decode cX11_drawnAt 69 = .ok (.iload_n 1, 1) := by decide +kernel
theorem dX11_drawnAt_70 : decode cX11_drawnAt 70 = .ok (.iload 4, 2) := by decide +kernel
theorem dX11_drawnAt_72 : decode cX11_drawnAt 72 = .ok (.isub, 1) := by decide +kernel
theorem dX11_drawnAt_73 : decode cX11_drawnAt 73 = .ok (.iload_n 2, 1) := by decide +kernel
theorem dX11_drawnAt_74 : decode cX11_drawnAt 74 = .ok (.if_icmp .ne 31, 3) := by decide +kernel
theorem dX11_drawnAt_77 : decode cX11_drawnAt 77 = .ok (.aload_n 0, 1) := by decide +kernel
theorem dX11_drawnAt_78 : decode cX11_drawnAt 78 = .ok (.aload_n 0, 1) := by decide +kernel
theorem dX11_drawnAt_79 : decode cX11_drawnAt 79 = .ok (.getfield 230, 3) := by decide +kernel
theorem dX11_drawnAt_82 : decode cX11_drawnAt 82 = .ok (.iload_n 3, 1) := by decide +kernel
theorem dX11_drawnAt_83 : decode cX11_drawnAt 83 = .ok (.iaload, 1) := by decide +kernel
theorem dX11_drawnAt_84 : decode cX11_drawnAt 84 = .ok (.iconst 0, 1) := by decide +kernel
theorem dX11_drawnAt_85 : decode cX11_drawnAt 85 = .ok (.invokevirtual 175, 3) := by decide +kernel
theorem dX11_drawnAt_88 : decode cX11_drawnAt 88 = .ok (.iconst 1, 1) := by decide +kernel
theorem dX11_drawnAt_89 : decode cX11_drawnAt 89 = .ok (.if_icmp .ne 8, 3) := by decide +kernel
theorem dX11_drawnAt_92 : decode cX11_drawnAt 92 = .ok (.iload 5, 2) := by decide +kernel
theorem dX11_drawnAt_94 : decode cX11_drawnAt 94 = .ok (.goto 10, 3) := by decide +kernel
theorem dX11_drawnAt_97 : decode cX11_drawnAt 97 = .ok (.aload_n 0, 1) := by decide +kernel
theorem dX11_drawnAt_98 : decode cX11_drawnAt 98 = .ok (.iload_n 3, 1) := by decide +kernel
theorem dX11_drawnAt_99 : decode cX11_drawnAt 99 = .ok (.iload 5, 2) := by decide +kernel
theorem dX11_drawnAt_101 : decode cX11_drawnAt 101 = .ok (.invokevirtual 422, 3) := by decide +kernel
theorem dX11_drawnAt_104 : decode cX11_drawnAt 104 = .ok (.ireturn, 1) := by decide +kernel
theorem dX11_drawnAt_105 : decode cX11_drawnAt 105 = .ok (.aload_n 0, 1) := by decide +kernel
theorem dX11_drawnAt_106 : decode cX11_drawnAt 106 = .ok (.aload_n 0, 1) := by decide +kernel
theorem dX11_drawnAt_107 : decode cX11_drawnAt 107 = .ok (.getfield 248, 3) := by decide +kernel
theorem dX11_drawnAt_110 : decode cX11_drawnAt 110 = .ok (.bipush 10, 2) := by decide +kernel
theorem dX11_drawnAt_112 : decode cX11_drawnAt 112 = .ok (.iload_n 3, 1) := by decide +kernel
theorem dX11_drawnAt_113 : decode cX11_drawnAt 113 = .ok (.imul, 1) := by decide +kernel
theorem dX11_drawnAt_114 : decode cX11_drawnAt 114 = .ok (.iload 5, 2) := by decide +kernel
theorem dX11_drawnAt_116 : decode cX11_drawnAt 116 = .ok (.iadd, 1) := by decide +kernel
theorem dX11_drawnAt_117 : decode cX11_drawnAt 117 = .ok (.iaload, 1) := by decide +kernel
theorem dX11_drawnAt_118 : decode cX11_drawnAt 118 = .ok (.invokevirtual 404, 3) := by decide +kernel
theorem dX11_drawnAt_121 : decode cX11_drawnAt 121 = .ok (.istore_n 3, 1) := by decide +kernel
theorem dX11_drawnAt_122 : decode cX11_drawnAt 122 = .ok (.iinc 4 (-1), 3) := by decide +kernel
theorem dX11_drawnAt_125 : decode cX11_drawnAt 125 = .ok (.goto (-116), 3) := by decide +kernel
theorem dX11_arcTo_0 : decode cX11_arcTo 0 = .ok (.aload_n 0, 1) := by decide +kernel
theorem dX11_arcTo_1 : decode cX11_arcTo 1 = .ok (.aload_n 0, 1) := by decide +kernel
theorem dX11_arcTo_2 : decode cX11_arcTo 2 = .ok (.getfield 230, 3) := by decide +kernel
theorem dX11_arcTo_5 : decode cX11_arcTo 5 = .ok (.iload_n 1, 1) := by decide +kernel
theorem dX11_arcTo_6 : decode cX11_arcTo 6 = .ok (.iaload, 1) := by decide +kernel
theorem dX11_arcTo_7 : decode cX11_arcTo 7 = .ok (.iconst 2, 1) := by decide +kernel
theorem dX11_arcTo_8 : decode cX11_arcTo 8 = .ok (.invokevirtual 175, 3) := by decide +kernel
theorem dX11_arcTo_11 : decode cX11_arcTo 11 = .ok (.ifCond .ne 7, 3) := by decide +kernel
theorem dX11_arcTo_14 : decode cX11_arcTo 14 = .ok (.iconst 0, 1) := by decide +kernel
theorem dX11_arcTo_15 : decode cX11_arcTo 15 = .ok (.goto 12, 3) := by decide +kernel
theorem dX11_arcTo_18 : decode cX11_arcTo 18 = .ok (.iload_n 2, 1) := by decide +kernel
theorem dX11_arcTo_19 : decode cX11_arcTo 19 = .ok (.ifCond .ne 7, 3) := by decide +kernel
theorem dX11_arcTo_22 : decode cX11_arcTo 22 = .ok (.iconst 1, 1) := by decide +kernel
theorem dX11_arcTo_23 : decode cX11_arcTo 23 = .ok (.goto 4, 3) := by decide +kernel
theorem dX11_arcTo_26 : decode cX11_arcTo 26 = .ok (.iconst 0, 1) := by decide +kernel
theorem dX11_arcTo_27 : decode cX11_arcTo 27 = .ok (.ireturn, 1) := by decide +kernel
theorem dX11_run_0 : decode cX11_run 0 = .ok (.aload_n 0, 1) := by decide +kernel
theorem dX11_run_1 : decode cX11_run 1 = .ok (.iconst 0, 1) := by decide +kernel
theorem dX11_run_2 : decode cX11_run 2 = .ok (.putfield 1, 3) := by decide +kernel
theorem dX11_run_5 : decode cX11_run 5 = .ok (.aload_n 0, 1) := by decide +kernel
theorem dX11_run_6 : decode cX11_run 6 = .ok (.invokevirtual 335, 3) := by decide +kernel
theorem dX11_run_9 : decode cX11_run 9 = .ok (.ifCond .ne 5, 3) := by decide +kernel
theorem dX11_run_12 : decode cX11_run 12 = .ok (.iconst 0, 1) := by decide +kernel
theorem dX11_run_13 : decode cX11_run 13 = .ok (.ireturn, 1) := by decide +kernel
theorem dX11_run_14 : decode cX11_run 14 = .ok (.aload_n 0, 1) := by decide +kernel
theorem dX11_run_15 : decode cX11_run 15 = .ok (.invokevirtual 424, 3) := by decide +kernel
theorem dX11_run_18 : decode cX11_run 18 = .ok (.istore_n 2, 1) := by decide +kernel
theorem dX11_run_19 : decode cX11_run 19 = .ok (.iload_n 2, 1) := by decide +kernel
theorem dX11_run_20 : decode cX11_run 20 = .ok (.iconst (-1), 1) := by decide +kernel
theorem dX11_run_21 : decode cX11_run 21 = .ok (.if_icmp .eq 8, 3) := by decide +kernel
theorem dX11_run_24 : decode cX11_run 24 = .ok (.iload_n 1, 1) := by decide +kernel
theorem dX11_run_25 : decode cX11_run 25 = .ok (.iconst (-1), 1) := by decide +kernel
theorem dX11_run_26 : decode cX11_run 26 = .ok (.if_icmp .ne 7, 3) := by decide +kernel
theorem dX11_run_29 : decode cX11_run 29 = .ok (.iload_n 2, 1) := by decide +kernel
theorem dX11_run_30 : decode cX11_run 30 = .ok (.goto 26, 3) := by decide +kernel
theorem dX11_run_33 : decode cX11_run 33 = .ok (.iload_n 1, 1) := by decide +kernel
theorem dX11_run_34 : decode cX11_run 34 = .ok (.i2l, 1) := by decide +kernel
theorem dX11_run_35 : decode cX11_run 35 = .ok (.lconst 0, 1) := by decide +kernel
theorem dX11_run_36 : decode cX11_run 36 = .ok (.iload_n 2, 1) := by decide +kernel
theorem dX11_run_37 : decode cX11_run 37 = .ok (.iconst 1, 1) := by decide +kernel
theorem dX11_run_38 : decode cX11_run 38 = .ok (.isub, 1) := by decide +kernel
theorem dX11_run_39 : decode cX11_run 39 = .ok (.i2l, 1) := by decide +kernel
theorem dX11_run_40 : decode cX11_run 40 = .ok (.invokestatic 157, 3) := by decide +kernel
theorem dX11_run_43 : decode cX11_run 43 = .ok (.ifCond .eq 12, 3) := by decide +kernel
theorem dX11_run_46 : decode cX11_run 46 = .ok (.aload_n 0, 1) := by decide +kernel
theorem dX11_run_47 : decode cX11_run 47 = .ok (.iload_n 2, 1) := by decide +kernel
theorem dX11_run_48 : decode cX11_run 48 = .ok (.iload_n 1, 1) := by decide +kernel
theorem dX11_run_49 : decode cX11_run 49 = .ok (.invokevirtual 425, 3) := by decide +kernel
theorem dX11_run_52 : decode cX11_run 52 = .ok (.goto 4, 3) := by decide +kernel
theorem dX11_run_55 : decode cX11_run 55 = .ok (.iconst (-1), 1) := by decide +kernel
theorem dX11_run_56 : decode cX11_run 56 = .ok (.ireturn, 1) := by decide +kernel
theorem dX11_worth_0 : decode cX11_worth 0 = .ok (.aload_n 0, 1) := by decide +kernel
theorem dX11_worth_1 : decode cX11_worth 1 = .ok (.iconst 0, 1) := by decide +kernel
theorem dX11_worth_2 : decode cX11_worth 2 = .ok (.putfield 1, 3) := by decide +kernel
theorem dX11_worth_5 : decode cX11_worth 5 = .ok (.aload_n 0, 1) := by decide +kernel
theorem dX11_worth_6 : decode cX11_worth 6 = .ok (.invokevirtual 335, 3) := by decide +kernel
theorem dX11_worth_9 : decode cX11_worth 9 = .ok (.ifCond .ne 5, 3) := by decide +kernel
theorem dX11_worth_12 : decode cX11_worth 12 = .ok (.lconst 0, 1) := by decide +kernel
theorem dX11_worth_13 : decode cX11_worth 13 = .ok (.lreturn, 1) := by decide +kernel
theorem dX11_worth_14 : decode cX11_worth 14 = .ok (.aload_n 0, 1) := by decide +kernel
theorem dX11_worth_15 : decode cX11_worth 15 = .ok (.invokevirtual 424, 3) := by decide +kernel
theorem dX11_worth_18 : decode cX11_worth 18 = .ok (.istore_n 1, 1) := by decide +kernel
theorem dX11_worth_19 : decode cX11_worth 19 = .ok (.iload_n 1, 1) := by decide +kernel
theorem dX11_worth_20 : decode cX11_worth 20 = .ok (.iconst (-1), 1) := by decide +kernel
theorem dX11_worth_21 : decode cX11_worth 21 = .ok (.if_icmp .ne 9, 3) := by decide +kernel
theorem dX11_worth_24 : decode cX11_worth 24 = .ok (.ldc2_w 428, 3) := by decide +kernel
theorem dX11_worth_27 : decode cX11_worth 27 = .ok (.goto 17, 3) := by decide +kernel
theorem dX11_worth_30 : decode cX11_worth 30 = .ok (.aload_n 0, 1) := by decide +kernel
theorem dX11_worth_31 : decode cX11_worth 31 = .ok (.iload_n 1, 1) := by decide +kernel
theorem dX11_worth_32 : decode cX11_worth 32 = .ok (.iconst 0, 1) := by decide +kernel
theorem dX11_worth_33 : decode cX11_worth 33 = .ok (.invokevirtual 410, 3) := by decide +kernel
theorem dX11_worth_36 : decode cX11_worth 36 = .ok (.bipush 10, 2) := by decide +kernel
theorem dX11_worth_38 : decode cX11_worth 38 = .ok (.iload_n 1, 1) := by decide +kernel
theorem dX11_worth_39 : decode cX11_worth 39 = .ok (.isub, 1) := by decide +kernel
theorem dX11_worth_40 : decode cX11_worth 40 = .ok (.invokestatic 419, 3) := by decide +kernel
theorem dX11_worth_43 : decode cX11_worth 43 = .ok (.lmul, 1) := by decide +kernel
theorem dX11_worth_44 : decode cX11_worth 44 = .ok (.lreturn, 1) := by decide +kernel
theorem dX11_print_0 : decode cX11_print 0 = .ok (.aload_n 0, 1) := by decide +kernel
theorem dX11_print_1 : decode cX11_print 1 = .ok (.iconst 0, 1) := by decide +kernel
theorem dX11_print_2 : decode cX11_print 2 = .ok (.putfield 1, 3) := by decide +kernel
theorem dX11_print_5 : decode cX11_print 5 = .ok (.aload_n 0, 1) := by decide +kernel
theorem dX11_print_6 : decode cX11_print 6 = .ok (.invokevirtual 325, 3) := by decide +kernel
theorem dX11_print_9 : decode cX11_print 9 = .ok (.lconst 0, 1) := by decide +kernel
theorem dX11_print_10 : decode cX11_print 10 = .ok (.lstore_n 1, 1) := by decide +kernel
theorem dX11_print_11 : decode cX11_print 11 = .ok (.iconst 0, 1) := by decide +kernel
theorem dX11_print_12 : decode cX11_print 12 = .ok (.istore_n 3, 1) := by decide +kernel
theorem dX11_print_13 : decode cX11_print 13 = .ok (.iload_n 3, 1) := by decide +kernel
theorem dX11_print_14 : decode cX11_print 14 = .ok (.aload_n 0, 1) := by decide +kernel
theorem dX11_print_15 : decode cX11_print 15 = .ok (.getfield 227, 3) := by decide +kernel
theorem dX11_print_18 : decode cX11_print 18 = .ok (.if_icmp .ge 44, 3) := by decide +kernel
theorem dX11_print_21 : decode cX11_print 21 = .ok (.aload_n 0, 1) := by decide +kernel
theorem dX11_print_22 : decode cX11_print 22 = .ok (.getfield 236, 3) := by decide +kernel
theorem dX11_print_25 : decode cX11_print 25 = .ok (.ifCond .ne 37, 3) := by decide +kernel
theorem dX11_print_28 : decode cX11_print 28 = .ok (.ldc2_w 430, 3) := by decide +kernel
theorem dX11_print_31 : decode cX11_print 31 = .ok (.lload_n 1, 1) := by decide +kernel
theorem dX11_print_32 : decode cX11_print 32 = .ok (.lmul, 1) := by decide +kernel
theorem dX11_print_33 : decode cX11_print 33 = .ok (.aload_n 0, 1) := by decide +kernel
theorem dX11_print_34 : decode cX11_print 34 = .ok (.getfield 230, 3) := by decide +kernel
theorem dX11_print_37 : decode cX11_print 37 = .ok (.iload_n 3, 1) := by decide +kernel
theorem dX11_print_38 : decode cX11_print 38 = .ok (.iaload, 1) := by decide +kernel
theorem dX11_print_39 : decode cX11_print 39 = .ok (.i2l, 1) := by decide +kernel
theorem dX11_print_40 : decode cX11_print 40 = .ok (.ladd, 1) := by decide +kernel
theorem dX11_print_41 : decode cX11_print 41 = .ok (.lstore_n 1, 1) := by decide +kernel
theorem dX11_print_42 : decode cX11_print 42 = .ok (.ldc2_w 430, 3) := by decide +kernel
theorem dX11_print_45 : decode cX11_print 45 = .ok (.lload_n 1, 1) := by decide +kernel
theorem dX11_print_46 : decode cX11_print 46 = .ok (.lmul, 1) := by decide +kernel
theorem dX11_print_47 : decode cX11_print 47 = .ok (.aload_n 0, 1) := by decide +kernel
theorem dX11_print_48 : decode cX11_print 48 = .ok (.getfield 233, 3) := by decide +kernel
theorem dX11_print_51 : decode cX11_print 51 = .ok (.iload_n 3, 1) := by decide +kernel
theorem dX11_print_52 : decode cX11_print 52 = .ok (.iaload, 1) := by decide +kernel
theorem dX11_print_53 : decode cX11_print 53 = .ok (.i2l, 1) := by decide +kernel
theorem dX11_print_54 : decode cX11_print 54 = .ok (.ladd, 1) := by decide +kernel
theorem dX11_print_55 : decode cX11_print 55 = .ok (.lstore_n 1, 1) := by decide +kernel
theorem dX11_print_56 : decode cX11_print 56 = .ok (.iinc 3 1, 3) := by decide +kernel
theorem dX11_print_59 : decode cX11_print 59 = .ok (.goto (-46), 3) := by decide +kernel
theorem dX11_print_62 : decode cX11_print 62 = .ok (.lload_n 1, 1) := by decide +kernel
theorem dX11_print_63 : decode cX11_print 63 = .ok (.lreturn, 1) := by decide +kernel
theorem dX11_status_0 : decode cX11_status 0 = .ok (.aload_n 0, 1) := by decide +kernel
theorem dX11_status_1 : decode cX11_status 1 = .ok (.iconst 0, 1) := by decide +kernel
theorem dX11_status_2 : decode cX11_status 2 = .ok (.putfield 1, 3) := by decide +kernel
theorem dX11_status_5 : decode cX11_status 5 = .ok (.iload_n 1, 1) := by decide +kernel
theorem dX11_status_6 : decode cX11_status 6 = .ok (.i2l, 1) := by decide +kernel
theorem dX11_status_7 : decode cX11_status 7 = .ok (.lconst 0, 1) := by decide +kernel
theorem dX11_status_8 : decode cX11_status 8 = .ok (.ldc2_w 281, 3) := by decide +kernel
theorem dX11_status_11 : decode cX11_status 11 = .ok (.invokestatic 157, 3) := by decide +kernel
theorem dX11_status_14 : decode cX11_status 14 = .ok (.ifCond .eq 12, 3) := by decide +kernel
theorem dX11_status_17 : decode cX11_status 17 = .ok (.aload_n 0, 1) := by decide +kernel
theorem dX11_status_18 : decode cX11_status 18 = .ok (.getfield 7, 3) := by decide +kernel
theorem dX11_status_21 : decode cX11_status 21 = .ok (.iload_n 1, 1) := by decide +kernel
theorem dX11_status_22 : decode cX11_status 22 = .ok (.iaload, 1) := by decide +kernel
theorem dX11_status_23 : decode cX11_status 23 = .ok (.goto 4, 3) := by decide +kernel
theorem dX11_status_26 : decode cX11_status 26 = .ok (.iconst (-1), 1) := by decide +kernel
theorem dX11_status_27 : decode cX11_status 27 = .ok (.ireturn, 1) := by decide +kernel
theorem dX11_init_0 : decode cX11_init 0 = .ok (.aload_n 0, 1) := by decide +kernel
theorem dX11_init_1 : decode cX11_init 1 = .ok (.invokespecial 432, 3) := by decide +kernel
theorem dX11_init_4 : decode cX11_init 4 = .ok (.aload_n 0, 1) := by decide +kernel
theorem dX11_init_5 : decode cX11_init 5 = .ok (.iconst 3, 1) := by decide +kernel
theorem dX11_init_6 : decode cX11_init 6 = .ok (.newarray .int, 2) := by decide +kernel
theorem dX11_init_8 : decode cX11_init 8 = .ok (.putfield 7, 3) := by decide +kernel
theorem dX11_init_11 : decode cX11_init 11 = .ok (.aload_n 0, 1) := by decide +kernel
theorem dX11_init_12 : decode cX11_init 12 = .ok (.sipush 480, 3) := by decide +kernel
theorem dX11_init_15 : decode cX11_init 15 = .ok (.newarray .int, 2) := by decide +kernel
theorem dX11_init_17 : decode cX11_init 17 = .ok (.putfield 11, 3) := by decide +kernel
theorem dX11_init_20 : decode cX11_init 20 = .ok (.aload_n 0, 1) := by decide +kernel
theorem dX11_init_21 : decode cX11_init 21 = .ok (.sipush 480, 3) := by decide +kernel
theorem dX11_init_24 : decode cX11_init 24 = .ok (.newarray .int, 2) := by decide +kernel
theorem dX11_init_26 : decode cX11_init 26 = .ok (.putfield 95, 3) := by decide +kernel
theorem dX11_init_29 : decode cX11_init 29 = .ok (.aload_n 0, 1) := by decide +kernel
theorem dX11_init_30 : decode cX11_init 30 = .ok (.bipush 6, 2) := by decide +kernel
theorem dX11_init_32 : decode cX11_init 32 = .ok (.newarray .int, 2) := by decide +kernel
theorem dX11_init_34 : decode cX11_init 34 = .ok (.putfield 178, 3) := by decide +kernel
theorem dX11_init_37 : decode cX11_init 37 = .ok (.aload_n 0, 1) := by decide +kernel
theorem dX11_init_38 : decode cX11_init 38 = .ok (.sipush 400, 3) := by decide +kernel
theorem dX11_init_41 : decode cX11_init 41 = .ok (.newarray .byte, 2) := by decide +kernel
theorem dX11_init_43 : decode cX11_init 43 = .ok (.putfield 21, 3) := by decide +kernel
theorem dX11_init_46 : decode cX11_init 46 = .ok (.aload_n 0, 1) := by decide +kernel
theorem dX11_init_47 : decode cX11_init 47 = .ok (.sipush 400, 3) := by decide +kernel
theorem dX11_init_50 : decode cX11_init 50 = .ok (.newarray .byte, 2) := by decide +kernel
theorem dX11_init_52 : decode cX11_init 52 = .ok (.putfield 37, 3) := by decide +kernel
theorem dX11_init_55 : decode cX11_init 55 = .ok (.aload_n 0, 1) := by decide +kernel
theorem dX11_init_56 : decode cX11_init 56 = .ok (.iconst (-1), 1) := by decide +kernel
theorem dX11_init_57 : decode cX11_init 57 = .ok (.putfield 165, 3) := by decide +kernel
theorem dX11_init_60 : decode cX11_init 60 = .ok (.aload_n 0, 1) := by decide +kernel
theorem dX11_init_61 : decode cX11_init 61 = .ok (.bipush 13, 2) := by decide +kernel
theorem dX11_init_63 : decode cX11_init 63 = .ok (.newarray .int, 2) := by decide +kernel
theorem dX11_init_65 : decode cX11_init 65 = .ok (.putfield 187, 3) := by decide +kernel
theorem dX11_init_68 : decode cX11_init 68 = .ok (.aload_n 0, 1) := by decide +kernel
theorem dX11_init_69 : decode cX11_init 69 = .ok (.bipush 13, 2) := by decide +kernel
theorem dX11_init_71 : decode cX11_init 71 = .ok (.newarray .int, 2) := by decide +kernel
theorem dX11_init_73 : decode cX11_init 73 = .ok (.putfield 190, 3) := by decide +kernel
theorem dX11_init_76 : decode cX11_init 76 = .ok (.aload_n 0, 1) := by decide +kernel
theorem dX11_init_77 : decode cX11_init 77 = .ok (.sipush 200, 3) := by decide +kernel
theorem dX11_init_80 : decode cX11_init 80 = .ok (.newarray .int, 2) := by decide +kernel
theorem dX11_init_82 : decode cX11_init 82 = .ok (.putfield 230, 3) := by decide +kernel
theorem dX11_init_85 : decode cX11_init 85 = .ok (.aload_n 0, 1) := by decide +kernel
theorem dX11_init_86 : decode cX11_init 86 = .ok (.sipush 200, 3) := by decide +kernel
theorem dX11_init_89 : decode cX11_init 89 = .ok (.newarray .int, 2) := by decide +kernel
theorem dX11_init_91 : decode cX11_init 91 = .ok (.putfield 233, 3) := by decide +kernel
theorem dX11_init_94 : decode cX11_init 94 = .ok (.aload_n 0, 1) := by decide +kernel
theorem dX11_init_95 : decode cX11_init 95 = .ok (.sipush 200, 3) := by decide +kernel
theorem dX11_init_98 : decode cX11_init 98 = .ok (.newarray .int, 2) := by decide +kernel
theorem dX11_init_100 : decode cX11_init 100 = .ok (.putfield 239, 3) := by decide +kernel
theorem dX11_init_103 : decode cX11_init 103 = .ok (.aload_n 0, 1) := by decide +kernel
theorem dX11_init_104 : decode cX11_init 104 = .ok (.sipush 200, 3) := by decide +kernel
theorem dX11_init_107 : decode cX11_init 107 = .ok (.newarray .int, 2) := by decide +kernel
theorem dX11_init_109 : decode cX11_init 109 = .ok (.putfield 251, 3) := by decide +kernel
theorem dX11_init_112 : decode cX11_init 112 = .ok (.aload_n 0, 1) := by decide +kernel
theorem dX11_init_113 : decode cX11_init 113 = .ok (.sipush 2000, 3) := by decide +kernel
theorem dX11_init_116 : decode cX11_init 116 = .ok (.newarray .int, 2) := by decide +kernel
theorem dX11_init_118 : decode cX11_init 118 = .ok (.putfield 248, 3) := by decide +kernel
theorem dX11_init_121 : decode cX11_init 121 = .ok (.aload_n 0, 1) := by decide +kernel
theorem dX11_init_122 : decode cX11_init 122 = .ok (.sipush 2000, 3) := by decide +kernel
theorem dX11_init_125 : decode cX11_init 125 = .ok (.newarray .int, 2) := by decide +kernel
theorem dX11_init_127 : decode cX11_init 127 = .ok (.putfield 254, 3) := by decide +kernel
theorem dX11_init_130 : decode cX11_init 130 = .ok (.aload_n 0, 1) := by decide +kernel
theorem dX11_init_131 : decode cX11_init 131 = .ok (.sipush 200, 3) := by decide +kernel
theorem dX11_init_134 : decode cX11_init 134 = .ok (.newarray .boolean, 2) := by decide +kernel
theorem dX11_init_136 : decode cX11_init 136 = .ok (.putfield 275, 3) := by decide +kernel
theorem dX11_init_139 : decode cX11_init 139 = .ok (.aload_n 0, 1) := by decide +kernel
theorem dX11_init_140 : decode cX11_init 140 = .ok (.bipush 6, 2) := by decide +kernel
theorem dX11_init_142 : decode cX11_init 142 = .ok (.newarray .int, 2) := by decide +kernel
theorem dX11_init_144 : decode cX11_init 144 = .ok (.dup, 1) := by decide +kernel
theorem dX11_init_145 : decode cX11_init 145 = .ok (.iconst 0, 1) := by decide +kernel
theorem dX11_init_146 : decode cX11_init 146 = .ok (.ldc 78, 2) := by decide +kernel
theorem dX11_init_148 : decode cX11_init 148 = .ok (.iastore, 1) := by decide +kernel
theorem dX11_init_149 : decode cX11_init 149 = .ok (.dup, 1) := by decide +kernel
theorem dX11_init_150 : decode cX11_init 150 = .ok (.iconst 1, 1) := by decide +kernel
theorem dX11_init_151 : decode cX11_init 151 = .ok (.sipush 10000, 3) := by decide +kernel
theorem dX11_init_154 : decode cX11_init 154 = .ok (.iastore, 1) := by decide +kernel
theorem dX11_init_155 : decode cX11_init 155 = .ok (.dup, 1) := by decide +kernel
theorem dX11_init_156 : decode cX11_init 156 = .ok (.iconst 2, 1) := by decide +kernel
theorem dX11_init_157 : decode cX11_init 157 = .ok (.sipush 1000, 3) := by decide +kernel
theorem dX11_init_160 : decode cX11_init 160 = .ok (.iastore, 1) := by decide +kernel
theorem dX11_init_161 : decode cX11_init 161 = .ok (.dup, 1) := by decide +kernel
theorem dX11_init_162 : decode cX11_init 162 = .ok (.iconst 3, 1) := by decide +kernel
theorem dX11_init_163 : decode cX11_init 163 = .ok (.bipush 100, 2) := by decide +kernel
theorem dX11_init_165 : decode cX11_init 165 = .ok (.iastore, 1) := by decide +kernel
theorem dX11_init_166 : decode cX11_init 166 = .ok (.dup, 1) := by decide +kernel
theorem dX11_init_167 : decode cX11_init 167 = .ok (.iconst 4, 1) := by decide +kernel
theorem dX11_init_168 : decode cX11_init 168 = .ok (.bipush 10, 2) := by decide +kernel
theorem dX11_init_170 : decode cX11_init 170 = .ok (.iastore, 1) := by decide +kernel
theorem dX11_init_171 : decode cX11_init 171 = .ok (.dup, 1) := by decide +kernel
theorem dX11_init_172 : decode cX11_init 172 = .ok (.iconst 5, 1) := by decide +kernel
theorem dX11_init_173 : decode cX11_init 173 = .ok (.iconst 1, 1) := by decide +kernel
theorem dX11_init_174 : decode cX11_init 174 = .ok (.iastore, 1) := by decide +kernel
theorem dX11_init_175 : decode cX11_init 175 = .ok (.putfield 215, 3) := by decide +kernel
theorem dX11_init_178 : decode cX11_init 178 = .ok (.aload_n 0, 1) := by decide +kernel
theorem dX11_init_179 : decode cX11_init 179 = .ok (.sipush 200, 3) := by decide +kernel
theorem dX11_init_182 : decode cX11_init 182 = .ok (.newarray .int, 2) := by decide +kernel
theorem dX11_init_184 : decode cX11_init 184 = .ok (.putfield 296, 3) := by decide +kernel
theorem dX11_init_187 : decode cX11_init 187 = .ok (.aload_n 0, 1) := by decide +kernel
theorem dX11_init_188 : decode cX11_init 188 = .ok (.ldc_w 299, 3) := by decide +kernel
theorem dX11_init_191 : decode cX11_init 191 = .ok (.newarray .long, 2) := by decide +kernel
theorem dX11_init_193 : decode cX11_init 193 = .ok (.putfield 300, 3) := by decide +kernel
theorem dX11_init_196 : decode cX11_init 196 = .ok (.aload_n 0, 1) := by decide +kernel
theorem dX11_init_197 : decode cX11_init 197 = .ok (.sipush 200, 3) := by decide +kernel
theorem dX11_init_200 : decode cX11_init 200 = .ok (.newarray .long, 2) := by decide +kernel
theorem dX11_init_202 : decode cX11_init 202 = .ok (.putfield 316, 3) := by decide +kernel
theorem dX11_init_205 : decode cX11_init 205 = .ok (.aload_n 0, 1) := by decide +kernel
theorem dX11_init_206 : decode cX11_init 206 = .ok (.sipush 200, 3) := by decide +kernel
theorem dX11_init_209 : decode cX11_init 209 = .ok (.newarray .long, 2) := by decide +kernel
theorem dX11_init_211 : decode cX11_init 211 = .ok (.putfield 373, 3) := by decide +kernel
theorem dX11_init_214 : decode cX11_init 214 = .ok (.aload_n 0, 1) := by decide +kernel
theorem dX11_init_215 : decode cX11_init 215 = .ok (.sipush 200, 3) := by decide +kernel
theorem dX11_init_218 : decode cX11_init 218 = .ok (.newarray .long, 2) := by decide +kernel
theorem dX11_init_220 : decode cX11_init 220 = .ok (.putfield 376, 3) := by decide +kernel
theorem dX11_init_223 : decode cX11_init 223 = .ok (.aload_n 0, 1) := by decide +kernel
theorem dX11_init_224 : decode cX11_init 224 = .ok (.sipush 200, 3) := by decide +kernel
theorem dX11_init_227 : decode cX11_init 227 = .ok (.newarray .int, 2) := by decide +kernel
theorem dX11_init_229 : decode cX11_init 229 = .ok (.putfield 379, 3) := by decide +kernel
theorem dX11_init_232 : decode cX11_init 232 = .ok (.aload_n 0, 1) := by decide +kernel
theorem dX11_init_233 : decode cX11_init 233 = .ok (.sipush 200, 3) := by decide +kernel
theorem dX11_init_236 : decode cX11_init 236 = .ok (.newarray .int, 2) := by decide +kernel
theorem dX11_init_238 : decode cX11_init 238 = .ok (.putfield 389, 3) := by decide +kernel
theorem dX11_init_241 : decode cX11_init 241 = .ok (.aload_n 0, 1) := by decide +kernel
theorem dX11_init_242 : decode cX11_init 242 = .ok (.sipush 200, 3) := by decide +kernel
theorem dX11_init_245 : decode cX11_init 245 = .ok (.newarray .int, 2) := by decide +kernel
theorem dX11_init_247 : decode cX11_init 247 = .ok (.putfield 382, 3) := by decide +kernel
theorem dX11_init_250 : decode cX11_init 250 = .ok (.aload_n 0, 1) := by decide +kernel
theorem dX11_init_251 : decode cX11_init 251 = .ok (.sipush 2200, 3) := by decide +kernel
theorem dX11_init_254 : decode cX11_init 254 = .ok (.newarray .long, 2) := by decide +kernel
theorem dX11_init_256 : decode cX11_init 256 = .ok (.putfield 407, 3) := by decide +kernel
theorem dX11_init_259 : decode cX11_init 259 = .ok (.aload_n 0, 1) := by decide +kernel
theorem dX11_init_260 : decode cX11_init 260 = .ok (.bipush 61, 2) := by decide +kernel
theorem dX11_init_262 : decode cX11_init 262 = .ok (.newarray .long, 2) := by decide +kernel
theorem dX11_init_264 : decode cX11_init 264 = .ok (.putfield 304, 3) := by decide +kernel
theorem dX11_init_267 : decode cX11_init 267 = .ok (.iconst 0, 1) := by decide +kernel
theorem dX11_init_268 : decode cX11_init 268 = .ok (.istore_n 1, 1) := by decide +kernel
theorem dX11_init_269 : decode cX11_init 269 = .ok (.iload_n 1, 1) := by decide +kernel
theorem dX11_init_270 : decode cX11_init 270 = .ok (.bipush 61, 2) := by decide +kernel
theorem dX11_init_272 : decode cX11_init 272 = .ok (.if_icmp .ge 19, 3) := by decide +kernel
theorem dX11_init_275 : decode cX11_init 275 = .ok (.aload_n 0, 1) := by decide +kernel
theorem dX11_init_276 : decode cX11_init 276 = .ok (.getfield 304, 3) := by decide +kernel
theorem dX11_init_279 : decode cX11_init 279 = .ok (.iload_n 1, 1) := by decide +kernel
theorem dX11_init_280 : decode cX11_init 280 = .ok (.iload_n 1, 1) := by decide +kernel
theorem dX11_init_281 : decode cX11_init 281 = .ok (.invokestatic 437, 3) := by decide +kernel
theorem dX11_init_284 : decode cX11_init 284 = .ok (.lastore, 1) := by decide +kernel
theorem dX11_init_285 : decode cX11_init 285 = .ok (.iinc 1 1, 3) := by decide +kernel
theorem dX11_init_288 : decode cX11_init 288 = .ok (.goto (-19), 3) := by decide +kernel
theorem dX11_init_291 : decode cX11_init 291 = .ok (.return_, 1) := by decide +kernel
