theorem dX11_stateFor_43 : decode cX11_stateFor 43 = .ok (.iload 4, 2) := by decide +kernel
theorem dX11_stateFor_45 : decode cX11_stateFor 45 = .ok (.iaload, 1) := by decide +kernel
theorem dX11_stateFor_46 : decode cX11_stateFor 46 = .ok (.iload_n 3, 1) := by decide +kernel
theorem dX11_stateFor_47 : decode cX11_stateFor 47 = .ok (.if_icmp .ne 6, 3) := by decide +kernel
theorem dX11_stateFor_50 : decode cX11_stateFor 50 = .ok (.iload 4, 2) := by decide +kernel
theorem dX11_stateFor_52 : decode cX11_stateFor 52 = .ok (.ireturn, 1) := by decide +kernel
theorem dX11_stateFor_53 : decode cX11_stateFor 53 = .ok (.iinc 4 1, 3) := by decide +kernel
theorem dX11_stateFor_56 : decode cX11_stateFor 56 = .ok (.goto (-37), 3) := by decide +kernel
theorem dX11_stateFor_59 : decode cX11_stateFor 59 = .ok (.aload_n 0, 1) := by decide +kernel
theorem dX11_stateFor_60 : decode cX11_stateFor 60 = .ok (.getfield 227, 3) := by decide +kernel
theorem dX11_stateFor_63 : decode cX11_stateFor 63 = .ok (.sipush 200, 3) := by decide +kernel
theorem dX11_stateFor_66 : decode cX11_stateFor 66 = .ok (.if_icmp .ne 10, 3) := by decide +kernel
theorem dX11_stateFor_69 : decode cX11_stateFor 69 = .ok (.aload_n 0, 1) := by decide +kernel
theorem dX11_stateFor_70 : decode cX11_stateFor 70 = .ok (.iconst 1, 1) := by decide +kernel
theorem dX11_stateFor_71 : decode cX11_stateFor 71 = .ok (.putfield 236, 3) := by decide +kernel
theorem dX11_stateFor_74 : decode cX11_stateFor 74 = .ok (.iconst 0, 1) := by decide +kernel
theorem dX11_stateFor_75 : decode cX11_stateFor 75 = .ok (.ireturn, 1) := by decide +kernel
theorem dX11_stateFor_76 : decode cX11_stateFor 76 = .ok (.aload_n 0, 1) := by decide +kernel
theorem dX11_stateFor_77 : decode cX11_stateFor 77 = .ok (.getfield 230, 3) := by decide +kernel
theorem dX11_stateFor_80 : decode cX11_stateFor 80 = .ok (.aload_n 0, 1) := by decide +kernel
theorem dX11_stateFor_81 : decode cX11_stateFor 81 = .ok (.getfield 227, 3) := by decide +kernel
theorem dX11_stateFor_84 : decode cX11_stateFor 84 = .ok (.iload_n 1, 1) := by decide +kernel
theorem dX11_stateFor_85 : decode cX11_stateFor 85 = .ok (.iastore, 1) := by decide +kernel
theorem dX11_stateFor_86 : decode cX11_stateFor 86 = .ok (.aload_n 0, 1) := by decide +kernel
theorem dX11_stateFor_87 : decode cX11_stateFor 87 = .ok (.getfield 233, 3) := by decide +kernel
theorem dX11_stateFor_90 : decode cX11_stateFor 90 = .ok (.aload_n 0, 1) := by decide +kernel
theorem dX11_stateFor_91 : decode cX11_stateFor 91 = .ok (.getfield 227, 3) := by decide +kernel
theorem dX11_stateFor_94 : decode cX11_stateFor 94 = .ok (.iload_n 3, 1) := by decide +kernel
theorem dX11_stateFor_95 : decode cX11_stateFor 95 = .ok (.iastore, 1) := by decide +kernel
theorem dX11_stateFor_96 : decode cX11_stateFor 96 = .ok (.aload_n 0, 1) := by decide +kernel
theorem dX11_stateFor_97 : decode cX11_stateFor 97 = .ok (.getfield 239, 3) := by decide +kernel
theorem dX11_stateFor_100 : decode cX11_stateFor 100 = .ok (.aload_n 0, 1) := by decide +kernel
theorem dX11_stateFor_101 : decode cX11_stateFor 101 = .ok (.getfield 227, 3) := by decide +kernel
theorem dX11_stateFor_104 : decode cX11_stateFor 104 = .ok (.aload_n 0, 1) := by decide +kernel
theorem dX11_stateFor_105 : decode cX11_stateFor 105 = .ok (.getfield 227, 3) := by decide +kernel
theorem dX11_stateFor_108 : decode cX11_stateFor 108 = .ok (.ifCond .ne 7, 3) := by decide +kernel
theorem dX11_stateFor_111 : decode cX11_stateFor 111 = .ok (.iconst 0, 1) := by decide +kernel
theorem dX11_stateFor_112 : decode cX11_stateFor 112 = .ok (.goto 14, 3) := by decide +kernel
theorem dX11_stateFor_115 : decode cX11_stateFor 115 = .ok (.aload_n 0, 1) := by decide +kernel
theorem dX11_stateFor_116 : decode cX11_stateFor 116 = .ok (.getfield 239, 3) := by decide +kernel
theorem dX11_stateFor_119 : decode cX11_stateFor 119 = .ok (.aload_n 0, 1) := by decide +kernel
theorem dX11_stateFor_120 : decode cX11_stateFor 120 = .ok (.getfield 242, 3) := by decide +kernel
theorem dX11_stateFor_123 : decode cX11_stateFor 123 = .ok (.iaload, 1) := by decide +kernel
theorem dX11_stateFor_124 : decode cX11_stateFor 124 = .ok (.iconst 1, 1) := by decide +kernel
theorem dX11_stateFor_125 : decode cX11_stateFor 125 = .ok (.iadd, 1) := by decide +kernel
theorem dX11_stateFor_126 : decode cX11_stateFor 126 = .ok (.iastore, 1) := by decide +kernel
theorem dX11_stateFor_127 : decode cX11_stateFor 127 = .ok (.aload_n 0, 1) := by decide +kernel
theorem dX11_stateFor_128 : decode cX11_stateFor 128 = .ok (.dup, 1) := by decide +kernel
theorem dX11_stateFor_129 : decode cX11_stateFor 129 = .ok (.getfield 227, 3) := by decide +kernel
theorem dX11_stateFor_132 : decode cX11_stateFor 132 = .ok (.iconst 1, 1) := by decide +kernel
theorem dX11_stateFor_133 : decode cX11_stateFor 133 = .ok (.iadd, 1) := by decide +kernel
theorem dX11_stateFor_134 : decode cX11_stateFor 134 = .ok (.putfield 227, 3) := by decide +kernel
theorem dX11_stateFor_137 : decode cX11_stateFor 137 = .ok (.aload_n 0, 1) := by decide +kernel
theorem dX11_stateFor_138 : decode cX11_stateFor 138 = .ok (.getfield 227, 3) := by decide +kernel
theorem dX11_stateFor_141 : decode cX11_stateFor 141 = .ok (.iconst 1, 1) := by decide +kernel
theorem dX11_stateFor_142 : decode cX11_stateFor 142 = .ok (.isub, 1) := by decide +kernel
theorem dX11_stateFor_143 : decode cX11_stateFor 143 = .ok (.ireturn, 1) := by decide +kernel
theorem dX11_lead_0 : decode cX11_lead 0 = .ok (.iload 4, 2) := by decide +kernel
theorem dX11_lead_2 : decode cX11_lead 2 = .ok (.ifCond .eq 10, 3) := by decide +kernel
theorem dX11_lead_5 : decode cX11_lead 5 = .ok (.aload_n 0, 1) := by decide +kernel
theorem dX11_lead_6 : decode cX11_lead 6 = .ok (.getfield 236, 3) := by decide +kernel
theorem dX11_lead_9 : decode cX11_lead 9 = .ok (.ifCond .eq 4, 3) := by decide +kernel
theorem dX11_lead_12 : decode cX11_lead 12 = .ok (.return_, 1) := by decide +kernel
theorem dX11_lead_13 : decode cX11_lead 13 = .ok (.aload_n 0, 1) := by decide +kernel
theorem dX11_lead_14 : decode cX11_lead 14 = .ok (.iload_n 1, 1) := by decide +kernel
theorem dX11_lead_15 : decode cX11_lead 15 = .ok (.putfield 242, 3) := by decide +kernel
theorem dX11_lead_18 : decode cX11_lead 18 = .ok (.aload_n 0, 1) := by decide +kernel
theorem dX11_lead_19 : decode cX11_lead 19 = .ok (.iload_n 2, 1) := by decide +kernel
theorem dX11_lead_20 : decode cX11_lead 20 = .ok (.iload_n 3, 1) := by decide +kernel
theorem dX11_lead_21 : decode cX11_lead 21 = .ok (.invokevirtual 245, 3) := by decide +kernel
theorem dX11_lead_24 : decode cX11_lead 24 = .ok (.istore 5, 2) := by decide +kernel
theorem dX11_lead_26 : decode cX11_lead 26 = .ok (.aload_n 0, 1) := by decide +kernel
theorem dX11_lead_27 : decode cX11_lead 27 = .ok (.getfield 248, 3) := by decide +kernel
theorem dX11_lead_30 : decode cX11_lead 30 = .ok (.bipush 10, 2) := by decide +kernel
theorem dX11_lead_32 : decode cX11_lead 32 = .ok (.iload_n 1, 1) := by decide +kernel
theorem dX11_lead_33 : decode cX11_lead 33 = .ok (.imul, 1) := by decide +kernel
theorem dX11_lead_34 : decode cX11_lead 34 = .ok (.aload_n 0, 1) := by decide +kernel
theorem dX11_lead_35 : decode cX11_lead 35 = .ok (.getfield 251, 3) := by decide +kernel
theorem dX11_lead_38 : decode cX11_lead 38 = .ok (.iload_n 1, 1) := by decide +kernel
theorem dX11_lead_39 : decode cX11_lead 39 = .ok (.iaload, 1) := by decide +kernel
theorem dX11_lead_40 : decode cX11_lead 40 = .ok (.iadd, 1) := by decide +kernel
theorem dX11_lead_41 : decode cX11_lead 41 = .ok (.iload 5, 2) := by decide +kernel
theorem dX11_lead_43 : decode cX11_lead 43 = .ok (.iastore, 1) := by decide +kernel
theorem dX11_lead_44 : decode cX11_lead 44 = .ok (.aload_n 0, 1) := by decide +kernel
theorem dX11_lead_45 : decode cX11_lead 45 = .ok (.getfield 254, 3) := by decide +kernel
theorem dX11_lead_48 : decode cX11_lead 48 = .ok (.bipush 10, 2) := by decide +kernel
theorem dX11_lead_50 : decode cX11_lead 50 = .ok (.iload_n 1, 1) := by decide +kernel
theorem dX11_lead_51 : decode cX11_lead 51 = .ok (.imul, 1) := by decide +kernel
theorem dX11_lead_52 : decode cX11_lead 52 = .ok (.aload_n 0, 1) := by decide +kernel
theorem dX11_lead_53 : decode cX11_lead 53 = .ok (.getfield 251, 3) := by decide +kernel
theorem dX11_lead_56 : decode cX11_lead 56 = .ok (.iload_n 1, 1) := by decide +kernel
theorem dX11_lead_57 : decode cX11_lead 57 = .ok (.iaload, 1) := by decide +kernel
theorem dX11_lead_58 : decode cX11_lead 58 = .ok (.iadd, 1) := by decide +kernel
theorem dX11_lead_59 : decode cX11_lead 59 = .ok (.iload 4, 2) := by decide +kernel
theorem dX11_lead_61 : decode cX11_lead 61 = .ok (.iastore, 1) := by decide +kernel
theorem dX11_lead_62 : decode cX11_lead 62 = .ok (.aload_n 0, 1) := by decide +kernel
theorem dX11_lead_63 : decode cX11_lead 63 = .ok (.getfield 251, 3) := by decide +kernel
theorem dX11_lead_66 : decode cX11_lead 66 = .ok (.iload_n 1, 1) := by decide +kernel
theorem dX11_lead_67 : decode cX11_lead 67 = .ok (.dup2, 1) := by decide +kernel
theorem dX11_lead_68 : decode cX11_lead 68 = .ok (.iaload, 1) := by decide +kernel
theorem dX11_lead_69 : decode cX11_lead 69 = .ok (.iconst 1, 1) := by decide +kernel
theorem dX11_lead_70 : decode cX11_lead 70 = .ok (.iadd, 1) := by decide +kernel
theorem dX11_lead_71 : decode cX11_lead 71 = .ok (.iastore, 1) := by decide +kernel
theorem dX11_lead_72 : decode cX11_lead 72 = .ok (.aload_n 0, 1) := by decide +kernel
theorem dX11_lead_73 : decode cX11_lead 73 = .ok (.dup, 1) := by decide +kernel
theorem dX11_lead_74 : decode cX11_lead 74 = .ok (.getfield 257, 3) := by decide +kernel
theorem dX11_lead_77 : decode cX11_lead 77 = .ok (.iconst 1, 1) := by decide +kernel
theorem dX11_lead_78 : decode cX11_lead 78 = .ok (.iadd, 1) := by decide +kernel
theorem dX11_lead_79 : decode cX11_lead 79 = .ok (.putfield 257, 3) := by decide +kernel
theorem dX11_lead_82 : decode cX11_lead 82 = .ok (.return_, 1) := by decide +kernel
theorem dX11_goesOn_0 : decode cX11_goesOn 0 = .ok (.aload_n 0, 1) := by decide +kernel
theorem dX11_goesOn_1 : decode cX11_goesOn 1 = .ok (.getfield 230, 3) := by decide +kernel
theorem dX11_goesOn_4 : decode cX11_goesOn 4 = .ok (.iload_n 1, 1) := by decide +kernel
theorem dX11_goesOn_5 : decode cX11_goesOn 5 = .ok (.iaload, 1) := by decide +kernel
theorem dX11_goesOn_6 : decode cX11_goesOn 6 = .ok (.istore_n 2, 1) := by decide +kernel
theorem dX11_goesOn_7 : decode cX11_goesOn 7 = .ok (.aload_n 0, 1) := by decide +kernel
theorem dX11_goesOn_8 : decode cX11_goesOn 8 = .ok (.getfield 233, 3) := by decide +kernel
theorem dX11_goesOn_11 : decode cX11_goesOn 11 = .ok (.iload_n 1, 1) := by decide +kernel
theorem dX11_goesOn_12 : decode cX11_goesOn 12 = .ok (.iaload, 1) := by decide +kernel
theorem dX11_goesOn_13 : decode cX11_goesOn 13 = .ok (.istore_n 3, 1) := by decide +kernel
theorem dX11_goesOn_14 : decode cX11_goesOn 14 = .ok (.aload_n 0, 1) := by decide +kernel
theorem dX11_goesOn_15 : decode cX11_goesOn 15 = .ok (.iload_n 2, 1) := by decide +kernel
theorem dX11_goesOn_16 : decode cX11_goesOn 16 = .ok (.iconst 0, 1) := by decide +kernel
theorem dX11_goesOn_17 : decode cX11_goesOn 17 = .ok (.invokevirtual 175, 3) := by decide +kernel
theorem dX11_goesOn_20 : decode cX11_goesOn 20 = .ok (.tableswitch 197 0 6 #[44, 82, 138, 197, 197, 197, 180], 44) := by decide +kernel
theorem dX11_goesOn_64 : decode cX11_goesOn 64 = .ok (.aload_n 0, 1) := by decide +kernel
theorem dX11_goesOn_65 : decode cX11_goesOn 65 = .ok (.iload_n 1, 1) := by decide +kernel
theorem dX11_goesOn_66 : decode cX11_goesOn 66 = .ok (.aload_n 0, 1) := by decide +kernel
theorem dX11_goesOn_67 : decode cX11_goesOn 67 = .ok (.iload_n 2, 1) := by decide +kernel
theorem dX11_goesOn_68 : decode cX11_goesOn 68 = .ok (.iconst 3, 1) := by decide +kernel
theorem dX11_goesOn_69 : decode cX11_goesOn 69 = .ok (.invokevirtual 175, 3) := by decide +kernel
theorem dX11_goesOn_72 : decode cX11_goesOn 72 = .ok (.aload_n 0, 1) := by decide +kernel
theorem dX11_goesOn_73 : decode cX11_goesOn 73 = .ok (.iload_n 3, 1) := by decide +kernel
theorem dX11_goesOn_74 : decode cX11_goesOn 74 = .ok (.aload_n 0, 1) := by decide +kernel
theorem dX11_goesOn_75 : decode cX11_goesOn 75 = .ok (.iload_n 2, 1) := by decide +kernel
theorem dX11_goesOn_76 : decode cX11_goesOn 76 = .ok (.iconst 1, 1) := by decide +kernel
theorem dX11_goesOn_77 : decode cX11_goesOn 77 = .ok (.invokevirtual 175, 3) := by decide +kernel
theorem dX11_goesOn_80 : decode cX11_goesOn 80 = .ok (.aload_n 0, 1) := by decide +kernel
theorem dX11_goesOn_81 : decode cX11_goesOn 81 = .ok (.iload_n 3, 1) := by decide +kernel
theorem dX11_goesOn_82 : decode cX11_goesOn 82 = .ok (.bipush 12, 2) := by decide +kernel
theorem dX11_goesOn_84 : decode cX11_goesOn 84 = .ok (.iload_n 2, 1) := by decide +kernel
theorem dX11_goesOn_85 : decode cX11_goesOn 85 = .ok (.imul, 1) := by decide +kernel
theorem dX11_goesOn_86 : decode cX11_goesOn 86 = .ok (.iconst 5, 1) := by decide +kernel
theorem dX11_goesOn_87 : decode cX11_goesOn 87 = .ok (.iadd, 1) := by decide +kernel
theorem dX11_goesOn_88 : decode cX11_goesOn 88 = .ok (.invokevirtual 224, 3) := by decide +kernel
theorem dX11_goesOn_91 : decode cX11_goesOn 91 = .ok (.invokevirtual 260, 3) := by decide +kernel
theorem dX11_goesOn_94 : decode cX11_goesOn 94 = .ok (.bipush 60, 2) := by decide +kernel
theorem dX11_goesOn_96 : decode cX11_goesOn 96 = .ok (.invokevirtual 264, 3) := by decide +kernel
theorem dX11_goesOn_99 : decode cX11_goesOn 99 = .ok (.goto 150, 3) := by decide +kernel
theorem dX11_goesOn_102 : decode cX11_goesOn 102 = .ok (.iconst 0, 1) := by decide +kernel
theorem dX11_goesOn_103 : decode cX11_goesOn 103 = .ok (.istore 4, 2) := by decide +kernel
theorem dX11_goesOn_105 : decode cX11_goesOn 105 = .ok (.iload 4, 2) := by decide +kernel
theorem dX11_goesOn_107 : decode cX11_goesOn 107 = .ok (.aload_n 0, 1) := by decide +kernel
theorem dX11_goesOn_108 : decode cX11_goesOn 108 = .ok (.iload_n 2, 1) := by decide +kernel
theorem dX11_goesOn_109 : decode cX11_goesOn 109 = .ok (.iconst 2, 1) := by decide +kernel
theorem dX11_goesOn_110 : decode cX11_goesOn 110 = .ok (.invokevirtual 175, 3) := by decide +kernel
theorem dX11_goesOn_113 : decode cX11_goesOn 113 = .ok (.if_icmp .ge 42, 3) := by decide +kernel
theorem dX11_goesOn_116 : decode cX11_goesOn 116 = .ok (.aload_n 0, 1) := by decide +kernel
theorem dX11_goesOn_117 : decode cX11_goesOn 117 = .ok (.iload_n 1, 1) := by decide +kernel
theorem dX11_goesOn_118 : decode cX11_goesOn 118 = .ok (.aload_n 0, 1) := by decide +kernel
theorem dX11_goesOn_119 : decode cX11_goesOn 119 = .ok (.iload_n 2, 1) := by decide +kernel
theorem dX11_goesOn_120 : decode cX11_goesOn 120 = .ok (.iconst 3, 1) := by decide +kernel
theorem dX11_goesOn_121 : decode cX11_goesOn 121 = .ok (.invokevirtual 175, 3) := by decide +kernel
theorem dX11_goesOn_124 : decode cX11_goesOn 124 = .ok (.aload_n 0, 1) := by decide +kernel
theorem dX11_goesOn_125 : decode cX11_goesOn 125 = .ok (.iload_n 3, 1) := by decide +kernel
theorem dX11_goesOn_126 : decode cX11_goesOn 126 = .ok (.aload_n 0, 1) := by decide +kernel
theorem dX11_goesOn_127 : decode cX11_goesOn 127 = .ok (.iload_n 2, 1) := by decide +kernel
theorem dX11_goesOn_128 : decode cX11_goesOn 128 = .ok (.iconst 1, 1) := by decide +kernel
theorem dX11_goesOn_129 : decode cX11_goesOn 129 = .ok (.invokevirtual 175, 3) := by decide +kernel
theorem dX11_goesOn_132 : decode cX11_goesOn 132 = .ok (.iload 4, 2) := by decide +kernel
theorem dX11_goesOn_134 : decode cX11_goesOn 134 = .ok (.invokevirtual 260, 3) := by decide +kernel
theorem dX11_goesOn_137 : decode cX11_goesOn 137 = .ok (.bipush 60, 2) := by decide +kernel
theorem dX11_goesOn_139 : decode cX11_goesOn 139 = .ok (.aload_n 0, 1) := by decide +kernel
theorem dX11_goesOn_140 : decode cX11_goesOn 140 = .ok (.iload_n 2, 1) := by decide +kernel
theorem dX11_goesOn_141 : decode cX11_goesOn 141 = .ok (.iconst 2, 1) := by decide +kernel
theorem dX11_goesOn_142 : decode cX11_goesOn 142 = .ok (.invokevirtual 175, 3) := by decide +kernel
theorem dX11_goesOn_145 : decode cX11_goesOn 145 = .ok (.idiv, 1) := by decide +kernel
theorem dX11_goesOn_146 : decode cX11_goesOn 146 = .ok (.invokevirtual 264, 3) := by decide +kernel
theorem dX11_goesOn_149 : decode cX11_goesOn 149 = .ok (.iinc 4 1, 3) := by decide +kernel
theorem dX11_goesOn_152 : decode cX11_goesOn 152 = .ok (.goto (-47), 3) := by decide +kernel
theorem dX11_goesOn_155 : decode cX11_goesOn 155 = .ok (.goto 94, 3) := by decide +kernel
theorem dX11_goesOn_158 : decode cX11_goesOn 158 = .ok (.aload_n 0, 1) := by decide +kernel
theorem dX11_goesOn_159 : decode cX11_goesOn 159 = .ok (.iload_n 1, 1) := by decide +kernel
theorem dX11_goesOn_160 : decode cX11_goesOn 160 = .ok (.aload_n 0, 1) := by decide +kernel
theorem dX11_goesOn_161 : decode cX11_goesOn 161 = .ok (.iload_n 2, 1) := by decide +kernel
theorem dX11_goesOn_162 : decode cX11_goesOn 162 = .ok (.iconst 3, 1) := by decide +kernel
theorem dX11_goesOn_163 : decode cX11_goesOn 163 = .ok (.invokevirtual 175, 3) := by decide +kernel
theorem dX11_goesOn_166 : decode cX11_goesOn 166 = .ok (.iload_n 3, 1) := by decide +kernel
theorem dX11_goesOn_167 : decode cX11_goesOn 167 = .ok (.aload_n 0, 1) := by decide +kernel
theorem dX11_goesOn_168 : decode cX11_goesOn 168 = .ok (.iload_n 2, 1) := by decide +kernel
theorem dX11_goesOn_169 : decode cX11_goesOn 169 = .ok (.iconst 2, 1) := by decide +kernel
theorem dX11_goesOn_170 : decode cX11_goesOn 170 = .ok (.invokevirtual 175, 3) := by decide +kernel
theorem dX11_goesOn_173 : decode cX11_goesOn 173 = .ok (.invokevirtual 264, 3) := by decide +kernel
theorem dX11_goesOn_176 : decode cX11_goesOn 176 = .ok (.aload_n 0, 1) := by decide +kernel
theorem dX11_goesOn_177 : decode cX11_goesOn 177 = .ok (.iload_n 1, 1) := by decide +kernel
theorem dX11_goesOn_178 : decode cX11_goesOn 178 = .ok (.aload_n 0, 1) := by decide +kernel
theorem dX11_goesOn_179 : decode cX11_goesOn 179 = .ok (.iload_n 2, 1) := by decide +kernel
theorem dX11_goesOn_180 : decode cX11_goesOn 180 = .ok (.iconst 4, 1) := by decide +kernel
theorem dX11_goesOn_181 : decode cX11_goesOn 181 = .ok (.invokevirtual 175, 3) := by decide +kernel
theorem dX11_goesOn_184 : decode cX11_goesOn 184 = .ok (.iload_n 3, 1) := by decide +kernel
theorem dX11_goesOn_185 : decode cX11_goesOn 185 = .ok (.bipush 60, 2) := by decide +kernel
theorem dX11_goesOn_187 : decode cX11_goesOn 187 = .ok (.aload_n 0, 1) := by decide +kernel
theorem dX11_goesOn_188 : decode cX11_goesOn 188 = .ok (.iload_n 2, 1) := by decide +kernel
theorem dX11_goesOn_189 : decode cX11_goesOn 189 = .ok (.iconst 2, 1) := by decide +kernel
theorem dX11_goesOn_190 : decode cX11_goesOn 190 = .ok (.invokevirtual 175, 3) := by decide +kernel
theorem dX11_goesOn_193 : decode cX11_goesOn 193 = .ok (.isub, 1) := by decide +kernel
theorem dX11_goesOn_194 : decode cX11_goesOn 194 = .ok (.invokevirtual 264, 3) := by decide +kernel
theorem dX11_goesOn_197 : decode cX11_goesOn 197 = .ok (.goto 52, 3) := by decide +kernel
theorem dX11_goesOn_200 : decode cX11_goesOn 200 = .ok (.aload_n 0, 1) := by decide +kernel
theorem dX11_goesOn_201 : decode cX11_goesOn 201 = .ok (.iload_n 1, 1) := by decide +kernel
theorem dX11_goesOn_202 : decode cX11_goesOn 202 = .ok (.aload_n 0, 1) := by decide +kernel
theorem dX11_goesOn_203 : decode cX11_goesOn 203 = .ok (.iload_n 2, 1) := by decide +kernel
theorem dX11_goesOn_204 : decode cX11_goesOn 204 = .ok (.iconst 3, 1) := by decide +kernel
theorem dX11_goesOn_205 : decode cX11_goesOn 205 = .ok (.invokevirtual 175, 3) := by decide +kernel
theorem dX11_goesOn_208 : decode cX11_goesOn 208 = .ok (.iload_n 3, 1) := by decide +kernel
theorem dX11_goesOn_209 : decode cX11_goesOn 209 = .ok (.bipush 60, 2) := by decide +kernel
theorem dX11_goesOn_211 : decode cX11_goesOn 211 = .ok (.invokevirtual 264, 3) := by decide +kernel
theorem dX11_goesOn_214 : decode cX11_goesOn 214 = .ok (.goto 35, 3) := by decide +kernel
theorem dX11_goesOn_217 : decode cX11_goesOn 217 = .ok (.aload_n 0, 1) := by decide +kernel
theorem dX11_goesOn_218 : decode cX11_goesOn 218 = .ok (.iload_n 1, 1) := by decide +kernel
theorem dX11_goesOn_219 : decode cX11_goesOn 219 = .ok (.aload_n 0, 1) := by decide +kernel
theorem dX11_goesOn_220 : decode cX11_goesOn 220 = .ok (.iload_n 3, 1) := by decide +kernel
theorem dX11_goesOn_221 : decode cX11_goesOn 221 = .ok (.iload_n 2, 1) := by decide +kernel
theorem dX11_goesOn_222 : decode cX11_goesOn 222 = .ok (.invokevirtual 268, 3) := by decide +kernel
theorem dX11_goesOn_225 : decode cX11_goesOn 225 = .ok (.ifCond .eq 12, 3) := by decide +kernel
theorem dX11_goesOn_228 : decode cX11_goesOn 228 = .ok (.aload_n 0, 1) := by decide +kernel
theorem dX11_goesOn_229 : decode cX11_goesOn 229 = .ok (.iload_n 2, 1) := by decide +kernel
theorem dX11_goesOn_230 : decode cX11_goesOn 230 = .ok (.iconst 3, 1) := by decide +kernel
theorem dX11_goesOn_231 : decode cX11_goesOn 231 = .ok (.invokevirtual 175, 3) := by decide +kernel
theorem dX11_goesOn_234 : decode cX11_goesOn 234 = .ok (.goto 9, 3) := by decide +kernel
theorem dX11_goesOn_237 : decode cX11_goesOn 237 = .ok (.aload_n 0, 1) := by decide +kernel
theorem dX11_goesOn_238 : decode cX11_goesOn 238 = .ok (.iload_n 2, 1) := by decide +kernel
theorem dX11_goesOn_239 : decode cX11_goesOn 239 = .ok (.iconst 4, 1) := by decide +kernel
theorem dX11_goesOn_240 : decode cX11_goesOn 240 = .ok (.invokevirtual 175, 3) := by decide +kernel
theorem dX11_goesOn_243 : decode cX11_goesOn 243 = .ok (.iload_n 3, 1) := by decide +kernel
theorem dX11_goesOn_244 : decode cX11_goesOn 244 = .ok (.bipush 60, 2) := by decide +kernel
theorem dX11_goesOn_246 : decode cX11_goesOn 246 = .ok (.invokevirtual 264, 3) := by decide +kernel
theorem dX11_goesOn_249 : decode cX11_goesOn 249 = .ok (.return_, 1) := by decide +kernel
theorem dX11_lays_0 : decode cX11_lays 0 = .ok (.aload_n 0, 1) := by decide +kernel
theorem dX11_lays_1 : decode cX11_lays 1 = .ok (.getfield 208, 3) := by decide +kernel
theorem dX11_lays_4 : decode cX11_lays 4 = .ok (.ifCond .eq 4, 3) := by decide +kernel
theorem dX11_lays_7 : decode cX11_lays 7 = .ok (.return_, 1) := by decide +kernel
theorem dX11_lays_8 : decode cX11_lays 8 = .ok (.aload_n 0, 1) := by decide +kernel
theorem dX11_lays_9 : decode cX11_lays 9 = .ok (.iconst 1, 1) := by decide +kernel
theorem dX11_lays_10 : decode cX11_lays 10 = .ok (.putfield 208, 3) := by decide +kernel
theorem dX11_lays_13 : decode cX11_lays 13 = .ok (.aload_n 0, 1) := by decide +kernel
theorem dX11_lays_14 : decode cX11_lays 14 = .ok (.iconst 0, 1) := by decide +kernel
theorem dX11_lays_15 : decode cX11_lays 15 = .ok (.putfield 236, 3) := by decide +kernel
theorem dX11_lays_18 : decode cX11_lays 18 = .ok (.aload_n 0, 1) := by decide +kernel
theorem dX11_lays_19 : decode cX11_lays 19 = .ok (.iconst 0, 1) := by decide +kernel
theorem dX11_lays_20 : decode cX11_lays 20 = .ok (.putfield 227, 3) := by decide +kernel
theorem dX11_lays_23 : decode cX11_lays 23 = .ok (.aload_n 0, 1) := by decide +kernel
theorem dX11_lays_24 : decode cX11_lays 24 = .ok (.iconst 0, 1) := by decide +kernel
theorem dX11_lays_25 : decode cX11_lays 25 = .ok (.putfield 257, 3) := by decide +kernel
theorem dX11_lays_28 : decode cX11_lays 28 = .ok (.iconst 0, 1) := by decide +kernel
theorem dX11_lays_29 : decode cX11_lays 29 = .ok (.istore_n 1, 1) := by decide +kernel
theorem dX11_lays_30 : decode cX11_lays 30 = .ok (.iconst 0, 1) := by decide +kernel
theorem dX11_lays_31 : decode cX11_lays 31 = .ok (.istore_n 2, 1) := by decide +kernel
theorem dX11_lays_32 : decode cX11_lays 32 = .ok (.iload_n 2, 1) := by decide +kernel
theorem dX11_lays_33 : decode cX11_lays 33 = .ok (.bipush 6, 2) := by decide +kernel
theorem dX11_lays_35 : decode cX11_lays 35 = .ok (.if_icmp .ge 22, 3) := by decide +kernel
theorem dX11_lays_38 : decode cX11_lays 38 = .ok (.aload_n 0, 1) := by decide +kernel
theorem dX11_lays_39 : decode cX11_lays 39 = .ok (.iload_n 1, 1) := by decide +kernel
theorem dX11_lays_40 : decode cX11_lays 40 = .ok (.iload_n 2, 1) := by decide +kernel
theorem dX11_lays_41 : decode cX11_lays 41 = .ok (.aload_n 0, 1) := by decide +kernel
theorem dX11_lays_42 : decode cX11_lays 42 = .ok (.getfield 178, 3) := by decide +kernel
theorem dX11_lays_45 : decode cX11_lays 45 = .ok (.iload_n 2, 1) := by decide +kernel
theorem dX11_lays_46 : decode cX11_lays 46 = .ok (.iaload, 1) := by decide +kernel
theorem dX11_lays_47 : decode cX11_lays 47 = .ok (.invokevirtual 260, 3) := by decide +kernel
theorem dX11_lays_50 : decode cX11_lays 50 = .ok (.istore_n 1, 1) := by decide +kernel
theorem dX11_lays_51 : decode cX11_lays 51 = .ok (.iinc 2 1, 3) := by decide +kernel
theorem dX11_lays_54 : decode cX11_lays 54 = .ok (.goto (-22), 3) := by decide +kernel
theorem dX11_lays_57 : decode cX11_lays 57 = .ok (.aload_n 0, 1) := by decide +kernel
theorem dX11_lays_58 : decode cX11_lays 58 = .ok (.iconst 0, 1) := by decide +kernel
theorem dX11_lays_59 : decode cX11_lays 59 = .ok (.iload_n 1, 1) := by decide +kernel
theorem dX11_lays_60 : decode cX11_lays 60 = .ok (.invokevirtual 245, 3) := by decide +kernel
theorem dX11_lays_63 : decode cX11_lays 63 = .ok (.pop, 1) := by decide +kernel
theorem dX11_lays_64 : decode cX11_lays 64 = .ok (.iconst 0, 1) := by decide +kernel
theorem dX11_lays_65 : decode cX11_lays 65 = .ok (.istore_n 2, 1) := by decide +kernel
theorem dX11_lays_66 : decode cX11_lays 66 = .ok (.iload_n 2, 1) := by decide +kernel
theorem dX11_lays_67 : decode cX11_lays 67 = .ok (.aload_n 0, 1) := by decide +kernel
theorem dX11_lays_68 : decode cX11_lays 68 = .ok (.getfield 227, 3) := by decide +kernel
theorem dX11_lays_71 : decode cX11_lays 71 = .ok (.if_icmp .ge 41, 3) := by decide +kernel
theorem dX11_lays_74 : decode cX11_lays 74 = .ok (.aload_n 0, 1) := by decide +kernel
theorem dX11_lays_75 : decode cX11_lays 75 = .ok (.getfield 236, 3) := by decide +kernel
theorem dX11_lays_78 : decode cX11_lays 78 = .ok (.ifCond .ne 34, 3) := by decide +kernel
theorem dX11_lays_81 : decode cX11_lays 81 = .ok (.aload_n 0, 1) := by decide +kernel
theorem dX11_lays_82 : decode cX11_lays 82 = .ok (.getfield 251, 3) := by decide +kernel
theorem dX11_lays_85 : decode cX11_lays 85 = .ok (.iload_n 2, 1) := by decide +kernel
theorem dX11_lays_86 : decode cX11_lays 86 = .ok (.iconst 0, 1) := by decide +kernel
theorem dX11_lays_87 : decode cX11_lays 87 = .ok (.iastore, 1) := by decide +kernel
theorem dX11_lays_88 : decode cX11_lays 88 = .ok (.aload_n 0, 1) := by decide +kernel
theorem dX11_lays_89 : decode cX11_lays 89 = .ok (.getfield 230, 3) := by decide +kernel
theorem dX11_lays_92 : decode cX11_lays 92 = .ok (.iload_n 2, 1) := by decide +kernel
theorem dX11_lays_93 : decode cX11_lays 93 = .ok (.iaload, 1) := by decide +kernel
theorem dX11_lays_94 : decode cX11_lays 94 = .ok (.aload_n 0, 1) := by decide +kernel
theorem dX11_lays_95 : decode cX11_lays 95 = .ok (.getfield 172, 3) := by decide +kernel
theorem dX11_lays_98 : decode cX11_lays 98 = .ok (.if_icmp .ge 8, 3) := by decide +kernel
theorem dX11_lays_101 : decode cX11_lays 101 = .ok (.aload_n 0, 1) := by decide +kernel
theorem dX11_lays_102 : decode cX11_lays 102 = .ok (.iload_n 2, 1) := by decide +kernel
theorem dX11_lays_103 : decode cX11_lays 103 = .ok (.invokevirtual 272, 3) := by decide +kernel
theorem dX11_lays_106 : decode cX11_lays 106 = .ok (.iinc 2 1, 3) := by decide +kernel
theorem dX11_lays_109 : decode cX11_lays 109 = .ok (.goto (-43), 3) := by decide +kernel
theorem dX11_lays_112 : decode cX11_lays 112 = .ok (.iconst 0, 1) := by decide +kernel
theorem dX11_lays_113 : decode cX11_lays 113 = .ok (.istore_n 2, 1) := by decide +kernel
theorem dX11_lays_114 : decode cX11_lays 114 = .ok (.iload_n 2, 1) := by decide +kernel
theorem dX11_lays_115 : decode cX11_lays 115 = .ok (.aload_n 0, 1) := by decide +kernel
theorem dX11_lays_116 : decode cX11_lays 116 = .ok (.getfield 227, 3) := by decide +kernel
theorem dX11_lays_119 : decode cX11_lays 119 = .ok (.if_icmp .ge 33, 3) := by decide +kernel
theorem dX11_lays_122 : decode cX11_lays 122 = .ok (.aload_n 0, 1) := by decide +kernel
theorem dX11_lays_123 : decode cX11_lays 123 = .ok (.getfield 275, 3) := by decide +kernel
theorem dX11_lays_126 : decode cX11_lays 126 = .ok (.iload_n 2, 1) := by decide +kernel
theorem dX11_lays_127 : decode cX11_lays 127 = .ok (.aload_n 0, 1) := by decide +kernel
theorem dX11_lays_128 : decode cX11_lays 128 = .ok (.getfield 230, 3) := by decide +kernel
theorem dX11_lays_131 : decode cX11_lays 131 = .ok (.iload_n 2, 1) := by decide +kernel
theorem dX11_lays_132 : decode cX11_lays 132 = .ok (.iaload, 1) := by decide +kernel
theorem dX11_lays_133 : decode cX11_lays 133 = .ok (.aload_n 0, 1) := by decide +kernel
theorem dX11_lays_134 : decode cX11_lays 134 = .ok (.getfield 172, 3) := by decide +kernel
theorem dX11_lays_137 : decode cX11_lays 137 = .ok (.if_icmp .lt 7, 3) := by decide +kernel
theorem dX11_lays_140 : decode cX11_lays 140 = .ok (.iconst 1, 1) := by decide +kernel
theorem dX11_lays_141 : decode cX11_lays 141 = .ok (.goto 4, 3) := by decide +kernel
theorem dX11_lays_144 : decode cX11_lays 144 = .ok (.iconst 0, 1) := by decide +kernel
theorem dX11_lays_145 : decode cX11_lays 145 = .ok (.bastore, 1) := by decide +kernel
theorem dX11_lays_146 : decode cX11_lays 146 = .ok (.iinc 2 1, 3) := by decide +kernel
theorem dX11_lays_149 : decode cX11_lays 149 = .ok (.goto (-35), 3) := by decide +kernel
theorem dX11_lays_152 : decode cX11_lays 152 = .ok (.aload_n 0, 1) := by decide +kernel
theorem dX11_lays_153 : decode cX11_lays 153 = .ok (.getfield 236, 3) := by decide +kernel
theorem dX11_lays_156 : decode cX11_lays 156 = .ok (.ifCond .ne 7, 3) := by decide +kernel
theorem dX11_lays_159 : decode cX11_lays 159 = .ok (.iconst 1, 1) := by decide +kernel
theorem dX11_lays_160 : decode cX11_lays 160 = .ok (.goto 4, 3) := by decide +kernel
theorem dX11_lays_163 : decode cX11_lays 163 = .ok (.iconst 0, 1) := by decide +kernel
theorem dX11_lays_164 : decode cX11_lays 164 = .ok (.istore_n 2, 1) := by decide +kernel
theorem dX11_lays_165 : decode cX11_lays 165 = .ok (.iload_n 2, 1) := by decide +kernel
theorem dX11_lays_166 : decode cX11_lays 166 = .ok (.ifCond .eq 85, 3) := by decide +kernel
theorem dX11_lays_169 : decode cX11_lays 169 = .ok (.iconst 0, 1) := by decide +kernel
theorem dX11_lays_170 : decode cX11_lays 170 = .ok (.istore_n 2, 1) := by decide +kernel
theorem dX11_lays_171 : decode cX11_lays 171 = .ok (.iconst 0, 1) := by decide +kernel
theorem dX11_lays_172 : decode cX11_lays 172 = .ok (.istore_n 3, 1) := by decide +kernel
theorem dX11_lays_173 : decode cX11_lays 173 = .ok (.iload_n 3, 1) := by decide +kernel
theorem dX11_lays_174 : decode cX11_lays 174 = .ok (.aload_n 0, 1) := by decide +kernel
theorem dX11_lays_175 : decode cX11_lays 175 = .ok (.getfield 227, 3) := by decide +kernel
theorem dX11_lays_178 : decode cX11_lays 178 = .ok (.if_icmp .ge 70, 3) := by decide +kernel
theorem dX11_lays_181 : decode cX11_lays 181 = .ok (.iconst 0, 1) := by decide +kernel
theorem dX11_lays_182 : decode cX11_lays 182 = .ok (.istore 4, 2) := by decide +kernel
theorem dX11_lays_184 : decode cX11_lays 184 = .ok (.iload 4, 2) := by decide +kernel
theorem dX11_lays_186 : decode cX11_lays 186 = .ok (.aload_n 0, 1) := by decide +kernel
theorem dX11_lays_187 : decode cX11_lays 187 = .ok (.getfield 251, 3) := by decide +kernel
theorem dX11_lays_190 : decode cX11_lays 190 = .ok (.iload_n 3, 1) := by decide +kernel
theorem dX11_lays_191 : decode cX11_lays 191 = .ok (.iaload, 1) := by decide +kernel
theorem dX11_lays_192 : decode cX11_lays 192 = .ok (.if_icmp .ge 50, 3) := by decide +kernel
theorem dX11_lays_195 : decode cX11_lays 195 = .ok (.aload_n 0, 1) := by decide +kernel
theorem dX11_lays_196 : decode cX11_lays 196 = .ok (.getfield 275, 3) := by decide +kernel
theorem dX11_lays_199 : decode cX11_lays 199 = .ok (.iload_n 3, 1) := by decide +kernel
theorem dX11_lays_200 : decode cX11_lays 200 = .ok (.baload, 1) := by decide +kernel
theorem dX11_lays_201 : decode cX11_lays 201 = .ok (.ifCond .ne 35, 3) := by decide +kernel
theorem dX11_lays_204 : decode cX11_lays 204 = .ok (.aload_n 0, 1) := by decide +kernel
theorem dX11_lays_205 : decode cX11_lays 205 = .ok (.getfield 275, 3) := by decide +kernel
theorem dX11_lays_208 : decode cX11_lays 208 = .ok (.aload_n 0, 1) := by decide +kernel
theorem dX11_lays_209 : decode cX11_lays 209 = .ok (.getfield 248, 3) := by decide +kernel
theorem dX11_lays_212 : decode cX11_lays 212 = .ok (.bipush 10, 2) := by decide +kernel
theorem dX11_lays_214 : decode cX11_lays 214 = .ok (.iload_n 3, 1) := by decide +kernel
theorem dX11_lays_215 : decode cX11_lays 215 = .ok (.imul, 1) := by decide +kernel
theorem dX11_lays_216 : decode cX11_lays 216 = .ok (.iload 4, 2) := by decide +kernel
theorem dX11_lays_218 : decode cX11_lays 218 = .ok (.iadd, 1) := by decide +kernel
theorem dX11_lays_219 : decode cX11_lays 219 = .ok (.iaload, 1) := by decide +kernel
theorem dX11_lays_220 : decode cX11_lays 220 = .ok (.baload, 1) := by decide +kernel
theorem dX11_lays_221 : decode cX11_lays 221 = .ok (.ifCond .ne 6, 3) := by decide +kernel
theorem dX11_lays_224 : decode cX11_lays 224 = .ok (.goto 12, 3) := by decide +kernel
theorem dX11_lays_227 : decode cX11_lays 227 = .ok (.aload_n 0, 1) := by decide +kernel
theorem dX11_lays_228 : decode cX11_lays 228 = .ok (.getfield 275, 3) := by decide +kernel
theorem dX11_lays_231 : decode cX11_lays 231 = .ok (.iload_n 3, 1) := by decide +kernel
theorem dX11_lays_232 : decode cX11_lays 232 = .ok (.iconst 1, 1) := by decide +kernel
theorem dX11_lays_233 : decode cX11_lays 233 = .ok (.bastore, 1) := by decide +kernel
theorem dX11_lays_234 : decode cX11_lays 234 = .ok (.iconst 1, 1) := by decide +kernel
theorem dX11_lays_235 : decode cX11_lays 235 = .ok (.istore_n 2, 1) := by decide +kernel
theorem dX11_lays_236 : decode cX11_lays 236 = .ok (.iinc 4 1, 3) := by decide +kernel
theorem dX11_lays_239 : decode cX11_lays 239 = .ok (.goto (-55), 3) := by decide +kernel
theorem dX11_lays_242 : decode cX11_lays 242 = .ok (.iinc 3 1, 3) := by decide +kernel
theorem dX11_lays_245 : decode cX11_lays 245 = .ok (.goto (-72), 3) := by decide +kernel
theorem dX11_lays_248 : decode cX11_lays 248 = .ok (.goto (-83), 3) := by decide +kernel
theorem dX11_lays_251 : decode cX11_lays 251 = .ok (.return_, 1) := by decide +kernel
theorem dX11_isEnd_0 : decode cX11_isEnd 0 = .ok (.aload_n 0, 1) := by decide +kernel
theorem dX11_isEnd_1 : decode cX11_isEnd 1 = .ok (.getfield 230, 3) := by decide +kernel
theorem dX11_isEnd_4 : decode cX11_isEnd 4 = .ok (.iload_n 1, 1) := by decide +kernel
theorem dX11_isEnd_5 : decode cX11_isEnd 5 = .ok (.iaload, 1) := by decide +kernel
theorem dX11_isEnd_6 : decode cX11_isEnd 6 = .ok (.aload_n 0, 1) := by decide +kernel
theorem dX11_isEnd_7 : decode cX11_isEnd 7 = .ok (.getfield 172, 3) := by decide +kernel
theorem dX11_isEnd_10 : decode cX11_isEnd 10 = .ok (.if_icmp .ne 7, 3) := by decide +kernel
theorem dX11_isEnd_13 : decode cX11_isEnd 13 = .ok (.iconst 1, 1) := by decide +kernel
theorem dX11_isEnd_14 : decode cX11_isEnd 14 = .ok (.goto 4, 3) := by decide +kernel
theorem dX11_isEnd_17 : decode cX11_isEnd 17 = .ok (.iconst 0, 1) := by decide +kernel
theorem dX11_isEnd_18 : decode cX11_isEnd 18 = .ok (.ireturn, 1) := by decide +kernel
theorem dX11_power_0 : decode cX11_power 0 = .ok (.lconst 1, 1) := by decide +kernel
theorem dX11_power_1 : decode cX11_power 1 = .ok (.lstore 4, 2) := by decide +kernel
theorem dX11_power_3 : decode cX11_power 3 = .ok (.lload_n 0, 1) := by decide +kernel
theorem dX11_power_4 : decode cX11_power 4 = .ok (.ldc2_w 279, 3) := by decide +kernel
theorem dX11_power_7 : decode cX11_power 7 = .ok (.lrem, 1) := by decide +kernel
theorem dX11_power_8 : decode cX11_power 8 = .ok (.lstore 6, 2) := by decide +kernel
theorem dX11_power_10 : decode cX11_power 10 = .ok (.lload_n 2, 1) := by decide +kernel
theorem dX11_power_11 : decode cX11_power 11 = .ok (.lstore 8, 2) := by decide +kernel
theorem dX11_power_13 : decode cX11_power 13 = .ok (.lload 8, 2) := by decide +kernel
theorem dX11_power_15 : decode cX11_power 15 = .ok (.lconst 0, 1) := by decide +kernel
theorem dX11_power_16 : decode cX11_power 16 = .ok (.lcmp, 1) := by decide +kernel
theorem dX11_power_17 : decode cX11_power 17 = .ok (.ifCond .le 47, 3) := by decide +kernel
theorem dX11_power_20 : decode cX11_power 20 = .ok (.lload 8, 2) := by decide +kernel
theorem dX11_power_22 : decode cX11_power 22 = .ok (.ldc2_w 281, 3) := by decide +kernel
theorem dX11_power_25 : decode cX11_power 25 = .ok (.lrem, 1) := by decide +kernel
theorem dX11_power_26 : decode cX11_power 26 = .ok (.lconst 1, 1) := by decide +kernel
theorem dX11_power_27 : decode cX11_power 27 = .ok (.lcmp, 1) := by decide +kernel
theorem dX11_power_28 : decode cX11_power 28 = .ok (.ifCond .ne 14, 3) := by decide +kernel
theorem dX11_power_31 : decode cX11_power 31 = .ok (.lload 4, 2) := by decide +kernel
theorem dX11_power_33 : decode cX11_power 33 = .ok (.lload 6, 2) := by decide +kernel
theorem dX11_power_35 : decode cX11_power 35 = .ok (.lmul, 1) := by decide +kernel
theorem dX11_power_36 : decode cX11_power 36 = .ok (.ldc2_w 279, 3) := by decide +kernel
theorem dX11_power_39 : decode cX11_power 39 = .ok (.lrem, 1) := by decide +kernel
theorem dX11_power_40 : decode cX11_power 40 = .ok (.lstore 4, 2) := by decide +kernel
theorem dX11_power_42 : decode cX11_power 42 = .ok (.lload 6, 2) := by decide +kernel
theorem dX11_power_44 : decode cX11_power 44 = .ok (.lload 6, 2) := by decide +kernel
theorem dX11_power_46 : decode cX11_power 46 = .ok (.lmul, 1) := by decide +kernel
theorem dX11_power_47 : decode cX11_power 47 = .ok (.ldc2_w 279, 3) := by decide +kernel
theorem dX11_power_50 : decode cX11_power 50 = .ok (.lrem, 1) := by decide +kernel
theorem dX11_power_51 : decode cX11_power 51 = .ok (.lstore 6, 2) := by decide +kernel
theorem dX11_power_53 : decode cX11_power 53 = .ok (.lload 8, 2) := by decide +kernel
theorem dX11_power_55 : decode cX11_power 55 = .ok (.ldc2_w 281, 3) := by decide +kernel
theorem dX11_power_58 : decode cX11_power 58 = .ok (.ldiv, 1) := by decide +kernel
theorem dX11_power_59 : decode cX11_power 59 = .ok (.lstore 8, 2) := by decide +kernel
theorem dX11_power_61 : decode cX11_power 61 = .ok (.goto (-48), 3) := by decide +kernel
theorem dX11_power_64 : decode cX11_power 64 = .ok (.lload 4, 2) := by decide +kernel
theorem dX11_power_66 : decode cX11_power 66 = .ok (.lreturn, 1) := by decide +kernel
theorem dX11_inverse_0 : decode cX11_inverse 0 = .ok (.lload_n 0, 1) := by decide +kernel
theorem dX11_inverse_1 : decode cX11_inverse 1 = .ok (.ldc2_w 283, 3) := by decide +kernel
theorem dX11_inverse_4 : decode cX11_inverse 4 = .ok (.invokestatic 285, 3) := by decide +kernel
theorem dX11_inverse_7 : decode cX11_inverse 7 = .ok (.lreturn, 1) := by decide +kernel
theorem dX11_odds_0 : decode cX11_odds 0 = .ok (.iload_n 0, 1) := by decide +kernel
theorem dX11_odds_1 : decode cX11_odds 1 = .ok (.i2l, 1) := by decide +kernel
theorem dX11_odds_2 : decode cX11_odds 2 = .ok (.ldc2_w 206, 3) := by decide +kernel
theorem dX11_odds_5 : decode cX11_odds 5 = .ok (.invokestatic 289, 3) := by decide +kernel
theorem dX11_odds_8 : decode cX11_odds 8 = .ok (.lmul, 1) := by decide +kernel
theorem dX11_odds_9 : decode cX11_odds 9 = .ok (.ldc2_w 279, 3) := by decide +kernel
theorem dX11_odds_12 : decode cX11_odds 12 = .ok (.lrem, 1) := by decide +kernel
theorem dX11_odds_13 : decode cX11_odds 13 = .ok (.lreturn, 1) := by decide +kernel
theorem dX11_laysGrid_0 : decode cX11_laysGrid 0 = .ok (.aload_n 0, 1) := by decide +kernel
theorem dX11_laysGrid_1 : decode cX11_laysGrid 1 = .ok (.iconst 0, 1) := by decide +kernel
theorem dX11_laysGrid_2 : decode cX11_laysGrid 2 = .ok (.putfield 293, 3) := by decide +kernel
theorem dX11_laysGrid_5 : decode cX11_laysGrid 5 = .ok (.iconst 0, 1) := by decide +kernel
theorem dX11_laysGrid_6 : decode cX11_laysGrid 6 = .ok (.istore_n 1, 1) := by decide +kernel
theorem dX11_laysGrid_7 : decode cX11_laysGrid 7 = .ok (.iload_n 1, 1) := by decide +kernel
theorem dX11_laysGrid_8 : decode cX11_laysGrid 8 = .ok (.aload_n 0, 1) := by decide +kernel
theorem dX11_laysGrid_9 : decode cX11_laysGrid 9 = .ok (.getfield 227, 3) := by decide +kernel
theorem dX11_laysGrid_12 : decode cX11_laysGrid 12 = .ok (.if_icmp .ge 55, 3) := by decide +kernel
theorem dX11_laysGrid_15 : decode cX11_laysGrid 15 = .ok (.aload_n 0, 1) := by decide +kernel
theorem dX11_laysGrid_16 : decode cX11_laysGrid 16 = .ok (.getfield 296, 3) := by decide +kernel
theorem dX11_laysGrid_19 : decode cX11_laysGrid 19 = .ok (.iload_n 1, 1) := by decide +kernel
theorem dX11_laysGrid_20 : decode cX11_laysGrid 20 = .ok (.aload_n 0, 1) := by decide +kernel
theorem dX11_laysGrid_21 : decode cX11_laysGrid 21 = .ok (.getfield 275, 3) := by decide +kernel
theorem dX11_laysGrid_24 : decode cX11_laysGrid 24 = .ok (.iload_n 1, 1) := by decide +kernel
theorem dX11_laysGrid_25 : decode cX11_laysGrid 25 = .ok (.baload, 1) := by decide +kernel
theorem dX11_laysGrid_26 : decode cX11_laysGrid 26 = .ok (.ifCond .eq 10, 3) := by decide +kernel
theorem dX11_laysGrid_29 : decode cX11_laysGrid 29 = .ok (.aload_n 0, 1) := by decide +kernel
theorem dX11_laysGrid_30 : decode cX11_laysGrid 30 = .ok (.getfield 293, 3) := by decide +kernel
theorem dX11_laysGrid_33 : decode cX11_laysGrid 33 = .ok (.goto 4, 3) := by decide +kernel
theorem dX11_laysGrid_36 : decode cX11_laysGrid 36 = .ok (.iconst (-1), 1) := by decide +kernel
theorem dX11_laysGrid_37 : decode cX11_laysGrid 37 = .ok (.iastore, 1) := by decide +kernel
theorem dX11_laysGrid_38 : decode cX11_laysGrid 38 = .ok (.aload_n 0, 1) := by decide +kernel
theorem dX11_laysGrid_39 : decode cX11_laysGrid 39 = .ok (.dup, 1) := by decide +kernel
theorem dX11_laysGrid_40 : decode cX11_laysGrid 40 = .ok (.getfield 293, 3) := by decide +kernel
theorem dX11_laysGrid_43 : decode cX11_laysGrid 43 = .ok (.aload_n 0, 1) := by decide +kernel
theorem dX11_laysGrid_44 : decode cX11_laysGrid 44 = .ok (.getfield 275, 3) := by decide +kernel
theorem dX11_laysGrid_47 : decode cX11_laysGrid 47 = .ok (.iload_n 1, 1) := by decide +kernel
theorem dX11_laysGrid_48 : decode cX11_laysGrid 48 = .ok (.baload, 1) := by decide +kernel
theorem dX11_laysGrid_49 : decode cX11_laysGrid 49 = .ok (.ifCond .eq 7, 3) := by decide +kernel
theorem dX11_laysGrid_52 : decode cX11_laysGrid 52 = .ok (.iconst 1, 1) := by decide +kernel
theorem dX11_laysGrid_53 : decode cX11_laysGrid 53 = .ok (.goto 4, 3) := by decide +kernel
theorem dX11_laysGrid_56 : decode cX11_laysGrid 56 = .ok (.iconst 0, 1) := by decide +kernel
theorem dX11_laysGrid_57 : decode cX11_laysGrid 57 = .ok (.iadd, 1) := by decide +kernel
theorem dX11_laysGrid_58 : decode cX11_laysGrid 58 = .ok (.putfield 293, 3) := by decide +kernel
theorem dX11_laysGrid_61 : decode cX11_laysGrid 61 = .ok (.iinc 1 1, 3) := by decide +kernel
theorem dX11_laysGrid_64 : decode cX11_laysGrid 64 = .ok (.goto (-57), 3) := by decide +kernel
theorem dX11_laysGrid_67 : decode cX11_laysGrid 67 = .ok (.iconst 0, 1) := by decide +kernel
theorem dX11_laysGrid_68 : decode cX11_laysGrid 68 = .ok (.istore_n 1, 1) := by decide +kernel
theorem dX11_laysGrid_69 : decode cX11_laysGrid 69 = .ok (.iload_n 1, 1) := by decide +kernel
theorem dX11_laysGrid_70 : decode cX11_laysGrid 70 = .ok (.ldc_w 299, 3) := by decide +kernel
theorem dX11_laysGrid_73 : decode cX11_laysGrid 73 = .ok (.if_icmp .ge 16, 3) := by decide +kernel
theorem dX11_laysGrid_76 : decode cX11_laysGrid 76 = .ok (.aload_n 0, 1) := by decide +kernel
theorem dX11_laysGrid_77 : decode cX11_laysGrid 77 = .ok (.getfield 300, 3) := by decide +kernel
theorem dX11_laysGrid_80 : decode cX11_laysGrid 80 = .ok (.iload_n 1, 1) := by decide +kernel
theorem dX11_laysGrid_81 : decode cX11_laysGrid 81 = .ok (.lconst 0, 1) := by decide +kernel
theorem dX11_laysGrid_82 : decode cX11_laysGrid 82 = .ok (.lastore, 1) := by decide +kernel
theorem dX11_laysGrid_83 : decode cX11_laysGrid 83 = .ok (.iinc 1 1, 3) := by decide +kernel
theorem dX11_laysGrid_86 : decode cX11_laysGrid 86 = .ok (.goto (-17), 3) := by decide +kernel
theorem dX11_laysGrid_89 : decode cX11_laysGrid 89 = .ok (.iconst 0, 1) := by decide +kernel
theorem dX11_laysGrid_90 : decode cX11_laysGrid 90 = .ok (.istore_n 1, 1) := by decide +kernel
theorem dX11_laysGrid_91 : decode cX11_laysGrid 91 = .ok (.iload_n 1, 1) := by decide +kernel
theorem dX11_laysGrid_92 : decode cX11_laysGrid 92 = .ok (.aload_n 0, 1) := by decide +kernel
theorem dX11_laysGrid_93 : decode cX11_laysGrid 93 = .ok (.getfield 227, 3) := by decide +kernel
theorem dX11_laysGrid_96 : decode cX11_laysGrid 96 = .ok (.if_icmp .ge 195, 3) := by decide +kernel
theorem dX11_laysGrid_99 : decode cX11_laysGrid 99 = .ok (.aload_n 0, 1) := by decide +kernel
theorem dX11_laysGrid_100 : decode cX11_laysGrid 100 = .ok (.getfield 275, 3) := by decide +kernel
theorem dX11_laysGrid_103 : decode cX11_laysGrid 103 = .ok (.iload_n 1, 1) := by decide +kernel
theorem dX11_laysGrid_104 : decode cX11_laysGrid 104 = .ok (.baload, 1) := by decide +kernel
theorem dX11_laysGrid_105 : decode cX11_laysGrid 105 = .ok (.ifCond .ne 6, 3) := by decide +kernel
theorem dX11_laysGrid_108 : decode cX11_laysGrid 108 = .ok (.goto 177, 3) := by decide +kernel
theorem dX11_laysGrid_111 : decode cX11_laysGrid 111 = .ok (.aload_n 0, 1) := by decide +kernel
theorem dX11_laysGrid_112 : decode cX11_laysGrid 112 = .ok (.getfield 300, 3) := by decide +kernel
theorem dX11_laysGrid_115 : decode cX11_laysGrid 115 = .ok (.sipush 201, 3) := by decide +kernel
theorem dX11_laysGrid_118 : decode cX11_laysGrid 118 = .ok (.aload_n 0, 1) := by decide +kernel
theorem dX11_laysGrid_119 : decode cX11_laysGrid 119 = .ok (.getfield 296, 3) := by decide +kernel
theorem dX11_laysGrid_122 : decode cX11_laysGrid 122 = .ok (.iload_n 1, 1) := by decide +kernel
theorem dX11_laysGrid_123 : decode cX11_laysGrid 123 = .ok (.iaload, 1) := by decide +kernel
theorem dX11_laysGrid_124 : decode cX11_laysGrid 124 = .ok (.imul, 1) := by decide +kernel
theorem dX11_laysGrid_125 : decode cX11_laysGrid 125 = .ok (.aload_n 0, 1) := by decide +kernel
theorem dX11_laysGrid_126 : decode cX11_laysGrid 126 = .ok (.getfield 296, 3) := by decide +kernel
theorem dX11_laysGrid_129 : decode cX11_laysGrid 129 = .ok (.iload_n 1, 1) := by decide +kernel
theorem dX11_laysGrid_130 : decode cX11_laysGrid 130 = .ok (.iaload, 1) := by decide +kernel
theorem dX11_laysGrid_131 : decode cX11_laysGrid 131 = .ok (.iadd, 1) := by decide +kernel
theorem dX11_laysGrid_132 : decode cX11_laysGrid 132 = .ok (.aload_n 0, 1) := by decide +kernel
theorem dX11_laysGrid_133 : decode cX11_laysGrid 133 = .ok (.getfield 300, 3) := by decide +kernel
theorem dX11_laysGrid_136 : decode cX11_laysGrid 136 = .ok (.sipush 201, 3) := by decide +kernel
theorem dX11_laysGrid_139 : decode cX11_laysGrid 139 = .ok (.aload_n 0, 1) := by decide +kernel
theorem dX11_laysGrid_140 : decode cX11_laysGrid 140 = .ok (.getfield 296, 3) := by decide +kernel
theorem dX11_laysGrid_143 : decode cX11_laysGrid 143 = .ok (.iload_n 1, 1) := by decide +kernel
theorem dX11_laysGrid_144 : decode cX11_laysGrid 144 = .ok (.iaload, 1) := by decide +kernel
theorem dX11_laysGrid_145 : decode cX11_laysGrid 145 = .ok (.imul, 1) := by decide +kernel
theorem dX11_laysGrid_146 : decode cX11_laysGrid 146 = .ok (.aload_n 0, 1) := by decide +kernel
theorem dX11_laysGrid_147 : decode cX11_laysGrid 147 = .ok (.getfield 296, 3) := by decide +kernel
theorem dX11_laysGrid_150 : decode cX11_laysGrid 150 = .ok (.iload_n 1, 1) := by decide +kernel
theorem dX11_laysGrid_151 : decode cX11_laysGrid 151 = .ok (.iaload, 1) := by decide +kernel
theorem dX11_laysGrid_152 : decode cX11_laysGrid 152 = .ok (.iadd, 1) := by decide +kernel
theorem dX11_laysGrid_153 : decode cX11_laysGrid 153 = .ok (.laload, 1) := by decide +kernel
theorem dX11_laysGrid_154 : decode cX11_laysGrid 154 = .ok (.lconst 1, 1) := by decide +kernel
theorem dX11_laysGrid_155 : decode cX11_laysGrid 155 = .ok (.ladd, 1) := by decide +kernel
theorem dX11_laysGrid_156 : decode cX11_laysGrid 156 = .ok (.ldc2_w 279, 3) := by decide +kernel
theorem dX11_laysGrid_159 : decode cX11_laysGrid 159 = .ok (.lrem, 1) := by decide +kernel
theorem dX11_laysGrid_160 : decode cX11_laysGrid 160 = .ok (.lastore, 1) := by decide +kernel
theorem dX11_laysGrid_161 : decode cX11_laysGrid 161 = .ok (.iload_n 1, 1) := by decide +kernel
theorem dX11_laysGrid_162 : decode cX11_laysGrid 162 = .ok (.ifCond .ne 23, 3) := by decide +kernel
theorem dX11_laysGrid_165 : decode cX11_laysGrid 165 = .ok (.aload_n 0, 1) := by decide +kernel
theorem dX11_laysGrid_166 : decode cX11_laysGrid 166 = .ok (.getfield 300, 3) := by decide +kernel
theorem dX11_laysGrid_169 : decode cX11_laysGrid 169 = .ok (.sipush 201, 3) := by decide +kernel
theorem dX11_laysGrid_172 : decode cX11_laysGrid 172 = .ok (.aload_n 0, 1) := by decide +kernel
theorem dX11_laysGrid_173 : decode cX11_laysGrid 173 = .ok (.getfield 296, 3) := by decide +kernel
theorem dX11_laysGrid_176 : decode cX11_laysGrid 176 = .ok (.iload_n 1, 1) := by decide +kernel
theorem dX11_laysGrid_177 : decode cX11_laysGrid 177 = .ok (.iaload, 1) := by decide +kernel
theorem dX11_laysGrid_178 : decode cX11_laysGrid 178 = .ok (.imul, 1) := by decide +kernel
theorem dX11_laysGrid_179 : decode cX11_laysGrid 179 = .ok (.sipush 200, 3) := by decide +kernel
theorem dX11_laysGrid_182 : decode cX11_laysGrid 182 = .ok (.iadd, 1) := by decide +kernel
theorem dX11_laysGrid_183 : decode cX11_laysGrid 183 = .ok (.lconst 1, 1) := by decide +kernel
theorem dX11_laysGrid_184 : decode cX11_laysGrid 184 = .ok (.lastore, 1) := by decide +kernel
theorem dX11_laysGrid_185 : decode cX11_laysGrid 185 = .ok (.iconst 0, 1) := by decide +kernel
theorem dX11_laysGrid_186 : decode cX11_laysGrid 186 = .ok (.istore_n 2, 1) := by decide +kernel
theorem dX11_laysGrid_187 : decode cX11_laysGrid 187 = .ok (.iload_n 2, 1) := by decide +kernel
theorem dX11_laysGrid_188 : decode cX11_laysGrid 188 = .ok (.aload_n 0, 1) := by decide +kernel
theorem dX11_laysGrid_189 : decode cX11_laysGrid 189 = .ok (.getfield 251, 3) := by decide +kernel
theorem dX11_laysGrid_192 : decode cX11_laysGrid 192 = .ok (.iload_n 1, 1) := by decide +kernel
theorem dX11_laysGrid_193 : decode cX11_laysGrid 193 = .ok (.iaload, 1) := by decide +kernel
theorem dX11_laysGrid_194 : decode cX11_laysGrid 194 = .ok (.if_icmp .ge 91, 3) := by decide +kernel
theorem dX11_laysGrid_197 : decode cX11_laysGrid 197 = .ok (.aload_n 0, 1) := by decide +kernel
theorem dX11_laysGrid_198 : decode cX11_laysGrid 198 = .ok (.getfield 248, 3) := by decide +kernel
theorem dX11_laysGrid_201 : decode cX11_laysGrid 201 = .ok (.bipush 10, 2) := by decide +kernel
theorem dX11_laysGrid_203 : decode cX11_laysGrid 203 = .ok (.iload_n 1, 1) := by decide +kernel
theorem dX11_laysGrid_204 : decode cX11_laysGrid 204 = .ok (.imul, 1) := by decide +kernel
theorem dX11_laysGrid_205 : decode cX11_laysGrid 205 = .ok (.iload_n 2, 1) := by decide +kernel
theorem dX11_laysGrid_206 : decode cX11_laysGrid 206 = .ok (.iadd, 1) := by decide +kernel
theorem dX11_laysGrid_207 : decode cX11_laysGrid 207 = .ok (.iaload, 1) := by decide +kernel
theorem dX11_laysGrid_208 : decode cX11_laysGrid 208 = .ok (.istore_n 3, 1) := by decide +kernel
theorem dX11_laysGrid_209 : decode cX11_laysGrid 209 = .ok (.aload_n 0, 1) := by decide +kernel
theorem dX11_laysGrid_210 : decode cX11_laysGrid 210 = .ok (.getfield 275, 3) := by decide +kernel
theorem dX11_laysGrid_213 : decode cX11_laysGrid 213 = .ok (.iload_n 3, 1) := by decide +kernel
theorem dX11_laysGrid_214 : decode cX11_laysGrid 214 = .ok (.baload, 1) := by decide +kernel
theorem dX11_laysGrid_215 : decode cX11_laysGrid 215 = .ok (.ifCond .ne 6, 3) := by decide +kernel
theorem dX11_laysGrid_218 : decode cX11_laysGrid 218 = .ok (.goto 61, 3) := by decide +kernel
theorem dX11_laysGrid_221 : decode cX11_laysGrid 221 = .ok (.sipush 201, 3) := by decide +kernel
theorem dX11_laysGrid_224 : decode cX11_laysGrid 224 = .ok (.aload_n 0, 1) := by decide +kernel
theorem dX11_laysGrid_225 : decode cX11_laysGrid 225 = .ok (.getfield 296, 3) := by decide +kernel
theorem dX11_laysGrid_228 : decode cX11_laysGrid 228 = .ok (.iload_n 3, 1) := by decide +kernel
theorem dX11_laysGrid_229 : decode cX11_laysGrid 229 = .ok (.iaload, 1) := by decide +kernel
theorem dX11_laysGrid_230 : decode cX11_laysGrid 230 = .ok (.imul, 1) := by decide +kernel
theorem dX11_laysGrid_231 : decode cX11_laysGrid 231 = .ok (.aload_n 0, 1) := by decide +kernel
theorem dX11_laysGrid_232 : decode cX11_laysGrid 232 = .ok (.getfield 296, 3) := by decide +kernel
theorem dX11_laysGrid_235 : decode cX11_laysGrid 235 = .ok (.iload_n 1, 1) := by decide +kernel
theorem dX11_laysGrid_236 : decode cX11_laysGrid 236 = .ok (.iaload, 1) := by decide +kernel
theorem dX11_laysGrid_237 : decode cX11_laysGrid 237 = .ok (.iadd, 1) := by decide +kernel
theorem dX11_laysGrid_238 : decode cX11_laysGrid 238 = .ok (.istore 4, 2) := by decide +kernel
theorem dX11_laysGrid_240 : decode cX11_laysGrid 240 = .ok (.aload_n 0, 1) := by decide +kernel
theorem dX11_laysGrid_241 : decode cX11_laysGrid 241 = .ok (.getfield 300, 3) := by decide +kernel
theorem dX11_laysGrid_244 : decode cX11_laysGrid 244 = .ok (.iload 4, 2) := by decide +kernel
theorem dX11_laysGrid_246 : decode cX11_laysGrid 246 = .ok (.aload_n 0, 1) := by decide +kernel
theorem dX11_laysGrid_247 : decode cX11_laysGrid 247 = .ok (.getfield 300, 3) := by decide +kernel
theorem dX11_laysGrid_250 : decode cX11_laysGrid 250 = .ok (.iload 4, 2) := by decide +kernel
theorem dX11_laysGrid_252 : decode cX11_laysGrid 252 = .ok (.laload, 1) := by decide +kernel
theorem dX11_laysGrid_253 : decode cX11_laysGrid 253 = .ok (.ldc2_w 279, 3) := by decide +kernel
theorem dX11_laysGrid_256 : decode cX11_laysGrid 256 = .ok (.ladd, 1) := by decide +kernel
theorem dX11_laysGrid_257 : decode cX11_laysGrid 257 = .ok (.aload_n 0, 1) := by decide +kernel
theorem dX11_laysGrid_258 : decode cX11_laysGrid 258 = .ok (.getfield 304, 3) := by decide +kernel
theorem dX11_laysGrid_261 : decode cX11_laysGrid 261 = .ok (.aload_n 0, 1) := by decide +kernel
theorem dX11_laysGrid_262 : decode cX11_laysGrid 262 = .ok (.getfield 254, 3) := by decide +kernel
theorem dX11_laysGrid_265 : decode cX11_laysGrid 265 = .ok (.bipush 10, 2) := by decide +kernel
theorem dX11_laysGrid_267 : decode cX11_laysGrid 267 = .ok (.iload_n 1, 1) := by decide +kernel
theorem dX11_laysGrid_268 : decode cX11_laysGrid 268 = .ok (.imul, 1) := by decide +kernel
theorem dX11_laysGrid_269 : decode cX11_laysGrid 269 = .ok (.iload_n 2, 1) := by decide +kernel
theorem dX11_laysGrid_270 : decode cX11_laysGrid 270 = .ok (.iadd, 1) := by decide +kernel
theorem dX11_laysGrid_271 : decode cX11_laysGrid 271 = .ok (.iaload, 1) := by decide +kernel
theorem dX11_laysGrid_272 : decode cX11_laysGrid 272 = .ok (.laload, 1) := by decide +kernel
theorem dX11_laysGrid_273 : decode cX11_laysGrid 273 = .ok (.lsub, 1) := by decide +kernel
theorem dX11_laysGrid_274 : decode cX11_laysGrid 274 = .ok (.ldc2_w 279, 3) := by decide +kernel
theorem dX11_laysGrid_277 : decode cX11_laysGrid 277 = .ok (.lrem, 1) := by decide +kernel
theorem dX11_laysGrid_278 : decode cX11_laysGrid 278 = .ok (.lastore, 1) := by decide +kernel
theorem dX11_laysGrid_279 : decode cX11_laysGrid 279 = .ok (.iinc 2 1, 3) := by decide +kernel
theorem dX11_laysGrid_282 : decode cX11_laysGrid 282 = .ok (.goto (-95), 3) := by decide +kernel
theorem dX11_laysGrid_285 : decode cX11_laysGrid 285 = .ok (.iinc 1 1, 3) := by decide +kernel
theorem dX11_laysGrid_288 : decode cX11_laysGrid 288 = .ok (.goto (-197), 3) := by decide +kernel
theorem dX11_laysGrid_291 : decode cX11_laysGrid 291 = .ok (.return_, 1) := by decide +kernel
theorem dX11_simple_0 : decode cX11_simple 0 = .ok (.iconst 0, 1) := by decide +kernel
theorem dX11_simple_1 : decode cX11_simple 1 = .ok (.istore_n 1, 1) := by decide +kernel
theorem dX11_simple_2 : decode cX11_simple 2 = .ok (.iload_n 1, 1) := by decide +kernel
theorem dX11_simple_3 : decode cX11_simple 3 = .ok (.aload_n 0, 1) := by decide +kernel
theorem dX11_simple_4 : decode cX11_simple 4 = .ok (.getfield 293, 3) := by decide +kernel
theorem dX11_simple_7 : decode cX11_simple 7 = .ok (.if_icmp .ge 300, 3) := by decide +kernel
theorem dX11_simple_10 : decode cX11_simple 10 = .ok (.iload_n 1, 1) := by decide +kernel
theorem dX11_simple_11 : decode cX11_simple 11 = .ok (.istore_n 2, 1) := by decide +kernel
theorem dX11_simple_12 : decode cX11_simple 12 = .ok (.iload_n 2, 1) := by decide +kernel
theorem dX11_simple_13 : decode cX11_simple 13 = .ok (.aload_n 0, 1) := by decide +kernel
theorem dX11_simple_14 : decode cX11_simple 14 = .ok (.getfield 293, 3) := by decide +kernel
theorem dX11_simple_17 : decode cX11_simple 17 = .ok (.if_icmp .ge 26, 3) := by decide +kernel
theorem dX11_simple_20 : decode cX11_simple 20 = .ok (.aload_n 0, 1) := by decide +kernel
theorem dX11_simple_21 : decode cX11_simple 21 = .ok (.getfield 300, 3) := by decide +kernel
theorem dX11_simple_24 : decode cX11_simple 24 = .ok (.sipush 201, 3) := by decide +kernel
theorem dX11_simple_27 : decode cX11_simple 27 = .ok (.iload_n 2, 1) := by decide +kernel
theorem dX11_simple_28 : decode cX11_simple 28 = .ok (.imul, 1) := by decide +kernel
theorem dX11_simple_29 : decode cX11_simple 29 = .ok (.iload_n 1, 1) := by decide +kernel
theorem dX11_simple_30 : decode cX11_simple 30 = .ok (.iadd, 1) := by decide +kernel
theorem dX11_simple_31 : decode cX11_simple 31 = .ok (.laload, 1) := by decide +kernel
theorem dX11_simple_32 : decode cX11_simple 32 = .ok (.lconst 0, 1) := by decide +kernel
theorem dX11_simple_33 : decode cX11_simple 33 = .ok (.lcmp, 1) := by decide +kernel
theorem dX11_simple_34 : decode cX11_simple 34 = .ok (.ifCond .ne 9, 3) := by decide +kernel
theorem dX11_simple_37 : decode cX11_simple 37 = .ok (.iinc 2 1, 3) := by decide +kernel
theorem dX11_simple_40 : decode cX11_simple 40 = .ok (.goto (-28), 3) := by decide +kernel
theorem dX11_simple_43 : decode cX11_simple 43 = .ok (.iload_n 2, 1) := by decide +kernel
theorem dX11_simple_44 : decode cX11_simple 44 = .ok (.aload_n 0, 1) := by decide +kernel
theorem dX11_simple_45 : decode cX11_simple 45 = .ok (.getfield 293, 3) := by decide +kernel
theorem dX11_simple_48 : decode cX11_simple 48 = .ok (.if_icmp .ne 5, 3) := by decide +kernel
theorem dX11_simple_51 : decode cX11_simple 51 = .ok (.iconst 0, 1) := by decide +kernel
theorem dX11_simple_52 : decode cX11_simple 52 = .ok (.ireturn, 1) := by decide +kernel
theorem dX11_simple_53 : decode cX11_simple 53 = .ok (.iconst 0, 1) := by decide +kernel
theorem dX11_simple_54 : decode cX11_simple 54 = .ok (.istore_n 3, 1) := by decide +kernel
theorem dX11_simple_55 : decode cX11_simple 55 = .ok (.iload_n 3, 1) := by decide +kernel
theorem dX11_simple_56 : decode cX11_simple 56 = .ok (.sipush 201, 3) := by decide +kernel
theorem dX11_simple_59 : decode cX11_simple 59 = .ok (.if_icmp .ge 61, 3) := by decide +kernel
theorem dX11_simple_62 : decode cX11_simple 62 = .ok (.aload_n 0, 1) := by decide +kernel
theorem dX11_simple_63 : decode cX11_simple 63 = .ok (.getfield 300, 3) := by decide +kernel
theorem dX11_simple_66 : decode cX11_simple 66 = .ok (.sipush 201, 3) := by decide +kernel
theorem dX11_simple_69 : decode cX11_simple 69 = .ok (.iload_n 1, 1) := by decide +kernel
theorem dX11_simple_70 : decode cX11_simple 70 = .ok (.imul, 1) := by decide +kernel
theorem dX11_simple_71 : decode cX11_simple 71 = .ok (.iload_n 3, 1) := by decide +kernel
theorem dX11_simple_72 : decode cX11_simple 72 = .ok (.iadd, 1) := by decide +kernel
theorem dX11_simple_73 : decode cX11_simple 73 = .ok (.laload, 1) := by decide +kernel
theorem dX11_simple_74 : decode cX11_simple 74 = .ok (.lstore 4, 2) := by decide +kernel
theorem dX11_simple_76 : decode cX11_simple 76 = .ok (.aload_n 0, 1) := by decide +kernel
theorem dX11_simple_77 : decode cX11_simple 77 = .ok (.getfield 300, 3) := by decide +kernel
theorem dX11_simple_80 : decode cX11_simple 80 = .ok (.sipush 201, 3) := by decide +kernel
theorem dX11_simple_83 : decode cX11_simple 83 = .ok (.iload_n 1, 1) := by decide +kernel
theorem dX11_simple_84 : decode cX11_simple 84 = .ok (.imul, 1) := by decide +kernel
theorem dX11_simple_85 : decode cX11_simple 85 = .ok (.iload_n 3, 1) := by decide +kernel
theorem dX11_simple_86 : decode cX11_simple 86 = .ok (.iadd, 1) := by decide +kernel
theorem dX11_simple_87 : decode cX11_simple 87 = .ok (.aload_n 0, 1) := by decide +kernel
theorem dX11_simple_88 : decode cX11_simple 88 = .ok (.getfield 300, 3) := by decide +kernel
theorem dX11_simple_91 : decode cX11_simple 91 = .ok (.sipush 201, 3) := by decide +kernel
theorem dX11_simple_94 : decode cX11_simple 94 = .ok (.iload_n 2, 1) := by decide +kernel
theorem dX11_simple_95 : decode cX11_simple 95 = .ok (.imul, 1) := by decide +kernel
theorem dX11_simple_96 : decode cX11_simple 96 = .ok (.iload_n 3, 1) := by decide +kernel
theorem dX11_simple_97 : decode cX11_simple 97 = .ok (.iadd, 1) := by decide +kernel
theorem dX11_simple_98 : decode cX11_simple 98 = .ok (.laload, 1) := by decide +kernel
theorem dX11_simple_99 : decode cX11_simple 99 = .ok (.lastore, 1) := by decide +kernel
theorem dX11_simple_100 : decode cX11_simple 100 = .ok (.aload_n 0, 1) := by decide +kernel
theorem dX11_simple_101 : decode cX11_simple 101 = .ok (.getfield 300, 3) := by decide +kernel
theorem dX11_simple_104 : decode cX11_simple 104 = .ok (.sipush 201, 3) := by decide +kernel
theorem dX11_simple_107 : decode cX11_simple 107 = .ok (.iload_n 2, 1) := by decide +kernel
theorem dX11_simple_108 : decode cX11_simple 108 = .ok (.imul, 1) := by decide +kernel
theorem dX11_simple_109 : decode cX11_simple 109 = .ok (.iload_n 3, 1) := by decide +kernel
theorem dX11_simple_110 : decode cX11_simple 110 = .ok (.iadd, 1) := by decide +kernel
theorem dX11_simple_111 : decode cX11_simple 111 = .ok (.lload 4, 2) := by decide +kernel
theorem dX11_simple_113 : decode cX11_simple 113 = .ok (.lastore, 1) := by decide +kernel
theorem dX11_simple_114 : decode cX11_simple 114 = .ok (.iinc 3 1, 3) := by decide +kernel
theorem dX11_simple_117 : decode cX11_simple 117 = .ok (.goto (-62), 3) := by decide +kernel
theorem dX11_simple_120 : decode cX11_simple 120 = .ok (.aload_n 0, 1) := by decide +kernel
theorem dX11_simple_121 : decode cX11_simple 121 = .ok (.getfield 300, 3) := by decide +kernel
theorem dX11_simple_124 : decode cX11_simple 124 = .ok (.sipush 201, 3) := by decide +kernel
theorem dX11_simple_127 : decode cX11_simple 127 = .ok (.iload_n 1, 1) := by decide +kernel
theorem dX11_simple_128 : decode cX11_simple 128 = .ok (.imul, 1) := by decide +kernel
theorem dX11_simple_129 : decode cX11_simple 129 = .ok (.iload_n 1, 1) := by decide +kernel
theorem dX11_simple_130 : decode cX11_simple 130 = .ok (.iadd, 1) := by decide +kernel
theorem dX11_simple_131 : decode cX11_simple 131 = .ok (.laload, 1) := by decide +kernel
theorem dX11_simple_132 : decode cX11_simple 132 = .ok (.invokestatic 289, 3) := by decide +kernel
theorem dX11_simple_135 : decode cX11_simple 135 = .ok (.lstore_n 3, 1) := by decide +kernel
theorem dX11_simple_136 : decode cX11_simple 136 = .ok (.iconst 0, 1) := by decide +kernel
theorem dX11_simple_137 : decode cX11_simple 137 = .ok (.istore 5, 2) := by decide +kernel
theorem dX11_simple_139 : decode cX11_simple 139 = .ok (.iload 5, 2) := by decide +kernel
theorem dX11_simple_141 : decode cX11_simple 141 = .ok (.sipush 201, 3) := by decide +kernel
theorem dX11_simple_144 : decode cX11_simple 144 = .ok (.if_icmp .ge 41, 3) := by decide +kernel
theorem dX11_simple_147 : decode cX11_simple 147 = .ok (.aload_n 0, 1) := by decide +kernel
theorem dX11_simple_148 : decode cX11_simple 148 = .ok (.getfield 300, 3) := by decide +kernel
theorem dX11_simple_151 : decode cX11_simple 151 = .ok (.sipush 201, 3) := by decide +kernel
theorem dX11_simple_154 : decode cX11_simple 154 = .ok (.iload_n 1, 1) := by decide +kernel
theorem dX11_simple_155 : decode cX11_simple 155 = .ok (.imul, 1) := by decide +kernel
theorem dX11_simple_156 : decode cX11_simple 156 = .ok (.iload 5, 2) := by decide +kernel
theorem dX11_simple_158 : decode cX11_simple 158 = .ok (.iadd, 1) := by decide +kernel
theorem dX11_simple_159 : decode cX11_simple 159 = .ok (.aload_n 0, 1) := by decide +kernel
theorem dX11_simple_160 : decode cX11_simple 160 = .ok (.getfield 300, 3) := by decide +kernel
theorem dX11_simple_163 : decode cX11_simple 163 = .ok (.sipush 201, 3) := by decide +kernel
theorem dX11_simple_166 : decode cX11_simple 166 = .ok (.iload_n 1, 1) := by decide +kernel
theorem dX11_simple_167 : decode cX11_simple 167 = .ok (.imul, 1) := by decide +kernel
theorem dX11_simple_168 : decode cX11_simple 168 = .ok (.iload 5, 2) := by decide +kernel
theorem dX11_simple_170 : decode cX11_simple 170 = .ok (.iadd, 1) := by decide +kernel
theorem dX11_simple_171 : decode cX11_simple 171 = .ok (.laload, 1) := by decide +kernel
theorem dX11_simple_172 : decode cX11_simple 172 = .ok (.lload_n 3, 1) := by decide +kernel
theorem dX11_simple_173 : decode cX11_simple 173 = .ok (.lmul, 1) := by decide +kernel
theorem dX11_simple_174 : decode cX11_simple 174 = .ok (.ldc2_w 279, 3) := by decide +kernel
theorem dX11_simple_177 : decode cX11_simple 177 = .ok (.lrem, 1) := by decide +kernel
theorem dX11_simple_178 : decode cX11_simple 178 = .ok (.lastore, 1) := by decide +kernel
theorem dX11_simple_179 : decode cX11_simple 179 = .ok (.iinc 5 1, 3) := by decide +kernel
theorem dX11_simple_182 : decode cX11_simple 182 = .ok (.goto (-43), 3) := by decide +kernel
theorem dX11_simple_185 : decode cX11_simple 185 = .ok (.iconst 0, 1) := by decide +kernel
theorem dX11_simple_186 : decode cX11_simple 186 = .ok (.istore 5, 2) := by decide +kernel
theorem dX11_simple_188 : decode cX11_simple 188 = .ok (.iload 5, 2) := by decide +kernel
theorem dX11_simple_190 : decode cX11_simple 190 = .ok (.aload_n 0, 1) := by decide +kernel
theorem dX11_simple_191 : decode cX11_simple 191 = .ok (.getfield 293, 3) := by decide +kernel
theorem dX11_simple_194 : decode cX11_simple 194 = .ok (.if_icmp .ge 107, 3) := by decide +kernel
theorem dX11_simple_197 : decode cX11_simple 197 = .ok (.aload_n 0, 1) := by decide +kernel
theorem dX11_simple_198 : decode cX11_simple 198 = .ok (.getfield 300, 3) := by decide +kernel
theorem dX11_simple_201 : decode cX11_simple 201 = .ok (.sipush 201, 3) := by decide +kernel
theorem dX11_simple_204 : decode cX11_simple 204 = .ok (.iload 5, 2) := by decide +kernel
theorem dX11_simple_206 : decode cX11_simple 206 = .ok (.imul, 1) := by decide +kernel
theorem dX11_simple_207 : decode cX11_simple 207 = .ok (.iload_n 1, 1) := by decide +kernel
theorem dX11_simple_208 : decode cX11_simple 208 = .ok (.iadd, 1) := by decide +kernel
theorem dX11_simple_209 : decode cX11_simple 209 = .ok (.laload, 1) := by decide +kernel
theorem dX11_simple_210 : decode cX11_simple 210 = .ok (.lstore 6, 2) := by decide +kernel
theorem dX11_simple_212 : decode cX11_simple 212 = .ok (.iload_n 1, 1) := by decide +kernel
theorem dX11_simple_213 : decode cX11_simple 213 = .ok (.istore 8, 2) := by decide +kernel
theorem dX11_simple_215 : decode cX11_simple 215 = .ok (.iload 8, 2) := by decide +kernel
theorem dX11_simple_217 : decode cX11_simple 217 = .ok (.sipush 201, 3) := by decide +kernel
theorem dX11_simple_220 : decode cX11_simple 220 = .ok (.if_icmp .ge 75, 3) := by decide +kernel
theorem dX11_simple_223 : decode cX11_simple 223 = .ok (.iload 5, 2) := by decide +kernel
theorem dX11_simple_225 : decode cX11_simple 225 = .ok (.iload_n 1, 1) := by decide +kernel
theorem dX11_simple_226 : decode cX11_simple 226 = .ok (.if_icmp .eq 69, 3) := by decide +kernel
theorem dX11_simple_229 : decode cX11_simple 229 = .ok (.lload 6, 2) := by decide +kernel
theorem dX11_simple_231 : decode cX11_simple 231 = .ok (.lconst 0, 1) := by decide +kernel
theorem dX11_simple_232 : decode cX11_simple 232 = .ok (.lcmp, 1) := by decide +kernel
theorem dX11_simple_233 : decode cX11_simple 233 = .ok (.ifCond .eq 62, 3) := by decide +kernel
theorem dX11_simple_236 : decode cX11_simple 236 = .ok (.aload_n 0, 1) := by decide +kernel
theorem dX11_simple_237 : decode cX11_simple 237 = .ok (.getfield 300, 3) := by decide +kernel
theorem dX11_simple_240 : decode cX11_simple 240 = .ok (.sipush 201, 3) := by decide +kernel
theorem dX11_simple_243 : decode cX11_simple 243 = .ok (.iload 5, 2) := by decide +kernel
theorem dX11_simple_245 : decode cX11_simple 245 = .ok (.imul, 1) := by decide +kernel
theorem dX11_simple_246 : decode cX11_simple 246 = .ok (.iload 8, 2) := by decide +kernel
theorem dX11_simple_248 : decode cX11_simple 248 = .ok (.iadd, 1) := by decide +kernel
theorem dX11_simple_249 : decode cX11_simple 249 = .ok (.aload_n 0, 1) := by decide +kernel
theorem dX11_simple_250 : decode cX11_simple 250 = .ok (.getfield 300, 3) := by decide +kernel
theorem dX11_simple_253 : decode cX11_simple 253 = .ok (.sipush 201, 3) := by decide +kernel
theorem dX11_simple_256 : decode cX11_simple 256 = .ok (.iload 5, 2) := by decide +kernel
theorem dX11_simple_258 : decode cX11_simple 258 = .ok (.imul, 1) := by decide +kernel
theorem dX11_simple_259 : decode cX11_simple 259 = .ok (.iload 8, 2) := by decide +kernel
theorem dX11_simple_261 : decode cX11_simple 261 = .ok (.iadd, 1) := by decide +kernel
theorem dX11_simple_262 : decode cX11_simple 262 = .ok (.laload, 1) := by decide +kernel
theorem dX11_simple_263 : decode cX11_simple 263 = .ok (.ldc2_w 279, 3) := by decide +kernel
theorem dX11_simple_266 : decode cX11_simple 266 = .ok (.lload 6, 2) := by decide +kernel
theorem dX11_simple_268 : decode cX11_simple 268 = .ok (.lsub, 1) := by decide +kernel
theorem dX11_simple_269 : decode cX11_simple 269 = .ok (.aload_n 0, 1) := by decide +kernel
theorem dX11_simple_270 : decode cX11_simple 270 = .ok (.getfield 300, 3) := by decide +kernel
theorem dX11_simple_273 : decode cX11_simple 273 = .ok (.sipush 201, 3) := by decide +kernel
theorem dX11_simple_276 : decode cX11_simple 276 = .ok (.iload_n 1, 1) := by decide +kernel
theorem dX11_simple_277 : decode cX11_simple 277 = .ok (.imul, 1) := by decide +kernel
theorem dX11_simple_278 : decode cX11_simple 278 = .ok (.iload 8, 2) := by decide +kernel
theorem dX11_simple_280 : decode cX11_simple 280 = .ok (.iadd, 1) := by decide +kernel
theorem dX11_simple_281 : decode cX11_simple 281 = .ok (.laload, 1) := by decide +kernel
theorem dX11_simple_282 : decode cX11_simple 282 = .ok (.lmul, 1) := by decide +kernel
theorem dX11_simple_283 : decode cX11_simple 283 = .ok (.ladd, 1) := by decide +kernel
theorem dX11_simple_284 : decode cX11_simple 284 = .ok (.ldc2_w 279, 3) := by decide +kernel
theorem dX11_simple_287 : decode cX11_simple 287 = .ok (.lrem, 1) := by decide +kernel
theorem dX11_simple_288 : decode cX11_simple 288 = .ok (.lastore, 1) := by decide +kernel
theorem dX11_simple_289 : decode cX11_simple 289 = .ok (.iinc 8 1, 3) := by decide +kernel
theorem dX11_simple_292 : decode cX11_simple 292 = .ok (.goto (-77), 3) := by decide +kernel
theorem dX11_simple_295 : decode cX11_simple 295 = .ok (.iinc 5 1, 3) := by decide +kernel
theorem dX11_simple_298 : decode cX11_simple 298 = .ok (.goto (-110), 3) := by decide +kernel
theorem dX11_simple_301 : decode cX11_simple 301 = .ok (.iinc 1 1, 3) := by decide +kernel
theorem dX11_simple_304 : decode cX11_simple 304 = .ok (.goto (-302), 3) := by decide +kernel
theorem dX11_simple_307 : decode cX11_simple 307 = .ok (.iconst 1, 1) := by decide +kernel
theorem dX11_simple_308 : decode cX11_simple 308 = .ok (.ireturn, 1) := by decide +kernel
theorem dX11_solves_0 : decode cX11_solves 0 = .ok (.aload_n 0, 1) := by decide +kernel
theorem dX11_solves_1 : decode cX11_solves 1 = .ok (.getfield 212, 3) := by decide +kernel
theorem dX11_solves_4 : decode cX11_solves 4 = .ok (.ifCond .eq 8, 3) := by decide +kernel
theorem dX11_solves_7 : decode cX11_solves 7 = .ok (.aload_n 0, 1) := by decide +kernel
theorem dX11_solves_8 : decode cX11_solves 8 = .ok (.getfield 307, 3) := by decide +kernel
theorem dX11_solves_11 : decode cX11_solves 11 = .ok (.ireturn, 1) := by decide +kernel
theorem dX11_solves_12 : decode cX11_solves 12 = .ok (.aload_n 0, 1) := by decide +kernel
theorem dX11_solves_13 : decode cX11_solves 13 = .ok (.iconst 1, 1) := by decide +kernel
theorem dX11_solves_14 : decode cX11_solves 14 = .ok (.putfield 212, 3) := by decide +kernel
theorem dX11_solves_17 : decode cX11_solves 17 = .ok (.aload_n 0, 1) := by decide +kernel
theorem dX11_solves_18 : decode cX11_solves 18 = .ok (.invokevirtual 310, 3) := by decide +kernel
theorem dX11_solves_21 : decode cX11_solves 21 = .ok (.aload_n 0, 1) := by decide +kernel
theorem dX11_solves_22 : decode cX11_solves 22 = .ok (.aload_n 0, 1) := by decide +kernel
theorem dX11_solves_23 : decode cX11_solves 23 = .ok (.invokevirtual 313, 3) := by decide +kernel
theorem dX11_solves_26 : decode cX11_solves 26 = .ok (.putfield 307, 3) := by decide +kernel
theorem dX11_solves_29 : decode cX11_solves 29 = .ok (.iconst 0, 1) := by decide +kernel
theorem dX11_solves_30 : decode cX11_solves 30 = .ok (.istore_n 1, 1) := by decide +kernel
theorem dX11_solves_31 : decode cX11_solves 31 = .ok (.iload_n 1, 1) := by decide +kernel
theorem dX11_solves_32 : decode cX11_solves 32 = .ok (.aload_n 0, 1) := by decide +kernel
theorem dX11_solves_33 : decode cX11_solves 33 = .ok (.getfield 227, 3) := by decide +kernel
theorem dX11_solves_36 : decode cX11_solves 36 = .ok (.if_icmp .ge 54, 3) := by decide +kernel
theorem dX11_solves_39 : decode cX11_solves 39 = .ok (.aload_n 0, 1) := by decide +kernel
theorem dX11_solves_40 : decode cX11_solves 40 = .ok (.getfield 316, 3) := by decide +kernel
theorem dX11_solves_43 : decode cX11_solves 43 = .ok (.iload_n 1, 1) := by decide +kernel
theorem dX11_solves_44 : decode cX11_solves 44 = .ok (.aload_n 0, 1) := by decide +kernel
theorem dX11_solves_45 : decode cX11_solves 45 = .ok (.getfield 307, 3) := by decide +kernel
theorem dX11_solves_48 : decode cX11_solves 48 = .ok (.ifCond .eq 34, 3) := by decide +kernel
theorem dX11_solves_51 : decode cX11_solves 51 = .ok (.aload_n 0, 1) := by decide +kernel
theorem dX11_solves_52 : decode cX11_solves 52 = .ok (.getfield 275, 3) := by decide +kernel
theorem dX11_solves_55 : decode cX11_solves 55 = .ok (.iload_n 1, 1) := by decide +kernel
theorem dX11_solves_56 : decode cX11_solves 56 = .ok (.baload, 1) := by decide +kernel
theorem dX11_solves_57 : decode cX11_solves 57 = .ok (.ifCond .eq 25, 3) := by decide +kernel
theorem dX11_solves_60 : decode cX11_solves 60 = .ok (.aload_n 0, 1) := by decide +kernel
theorem dX11_solves_61 : decode cX11_solves 61 = .ok (.getfield 300, 3) := by decide +kernel
theorem dX11_solves_64 : decode cX11_solves 64 = .ok (.sipush 201, 3) := by decide +kernel
theorem dX11_solves_67 : decode cX11_solves 67 = .ok (.aload_n 0, 1) := by decide +kernel
theorem dX11_solves_68 : decode cX11_solves 68 = .ok (.getfield 296, 3) := by decide +kernel
theorem dX11_solves_71 : decode cX11_solves 71 = .ok (.iload_n 1, 1) := by decide +kernel
theorem dX11_solves_72 : decode cX11_solves 72 = .ok (.iaload, 1) := by decide +kernel
theorem dX11_solves_73 : decode cX11_solves 73 = .ok (.imul, 1) := by decide +kernel
theorem dX11_solves_74 : decode cX11_solves 74 = .ok (.sipush 200, 3) := by decide +kernel
theorem dX11_solves_77 : decode cX11_solves 77 = .ok (.iadd, 1) := by decide +kernel
theorem dX11_solves_78 : decode cX11_solves 78 = .ok (.laload, 1) := by decide +kernel
theorem dX11_solves_79 : decode cX11_solves 79 = .ok (.goto 4, 3) := by decide +kernel
theorem dX11_solves_82 : decode cX11_solves 82 = .ok (.lconst 0, 1) := by decide +kernel
theorem dX11_solves_83 : decode cX11_solves 83 = .ok (.lastore, 1) := by decide +kernel
theorem dX11_solves_84 : decode cX11_solves 84 = .ok (.iinc 1 1, 3) := by decide +kernel
theorem dX11_solves_87 : decode cX11_solves 87 = .ok (.goto (-56), 3) := by decide +kernel
theorem dX11_solves_90 : decode cX11_solves 90 = .ok (.aload_n 0, 1) := by decide +kernel
theorem dX11_solves_91 : decode cX11_solves 91 = .ok (.getfield 307, 3) := by decide +kernel
theorem dX11_solves_94 : decode cX11_solves 94 = .ok (.ireturn, 1) := by decide +kernel
theorem dX11_sumAt_0 : decode cX11_sumAt 0 = .ok (.lconst 0, 1) := by decide +kernel
theorem dX11_sumAt_1 : decode cX11_sumAt 1 = .ok (.lstore_n 2, 1) := by decide +kernel
theorem dX11_sumAt_2 : decode cX11_sumAt 2 = .ok (.iconst 0, 1) := by decide +kernel
theorem dX11_sumAt_3 : decode cX11_sumAt 3 = .ok (.istore 4, 2) := by decide +kernel
theorem dX11_sumAt_5 : decode cX11_sumAt 5 = .ok (.iload 4, 2) := by decide +kernel
theorem dX11_sumAt_7 : decode cX11_sumAt 7 = .ok (.aload_n 0, 1) := by decide +kernel
theorem dX11_sumAt_8 : decode cX11_sumAt 8 = .ok (.getfield 227, 3) := by decide +kernel
theorem dX11_sumAt_11 : decode cX11_sumAt 11 = .ok (.if_icmp .ge 34, 3) := by decide +kernel
theorem dX11_sumAt_14 : decode cX11_sumAt 14 = .ok (.lload_n 2, 1) := by decide +kernel
theorem dX11_sumAt_15 : decode cX11_sumAt 15 = .ok (.aload_n 0, 1) := by decide +kernel
theorem dX11_sumAt_16 : decode cX11_sumAt 16 = .ok (.getfield 230, 3) := by decide +kernel
theorem dX11_sumAt_19 : decode cX11_sumAt 19 = .ok (.iload 4, 2) := by decide +kernel
theorem dX11_sumAt_21 : decode cX11_sumAt 21 = .ok (.iaload, 1) := by decide +kernel
theorem dX11_sumAt_22 : decode cX11_sumAt 22 = .ok (.iload_n 1, 1) := by decide +kernel
theorem dX11_sumAt_23 : decode cX11_sumAt 23 = .ok (.if_icmp .ne 13, 3) := by decide +kernel
theorem dX11_sumAt_26 : decode cX11_sumAt 26 = .ok (.aload_n 0, 1) := by decide +kernel
theorem dX11_sumAt_27 : decode cX11_sumAt 27 = .ok (.getfield 316, 3) := by decide +kernel
theorem dX11_sumAt_30 : decode cX11_sumAt 30 = .ok (.iload 4, 2) := by decide +kernel
theorem dX11_sumAt_32 : decode cX11_sumAt 32 = .ok (.laload, 1) := by decide +kernel
theorem dX11_sumAt_33 : decode cX11_sumAt 33 = .ok (.goto 4, 3) := by decide +kernel
theorem dX11_sumAt_36 : decode cX11_sumAt 36 = .ok (.lconst 0, 1) := by decide +kernel
theorem dX11_sumAt_37 : decode cX11_sumAt 37 = .ok (.ladd, 1) := by decide +kernel
theorem dX11_sumAt_38 : decode cX11_sumAt 38 = .ok (.lstore_n 2, 1) := by decide +kernel
theorem dX11_sumAt_39 : decode cX11_sumAt 39 = .ok (.iinc 4 1, 3) := by decide +kernel
theorem dX11_sumAt_42 : decode cX11_sumAt 42 = .ok (.goto (-37), 3) := by decide +kernel
theorem dX11_sumAt_45 : decode cX11_sumAt 45 = .ok (.lload_n 2, 1) := by decide +kernel
theorem dX11_sumAt_46 : decode cX11_sumAt 46 = .ok (.ldc2_w 279, 3) := by decide +kernel
theorem dX11_sumAt_49 : decode cX11_sumAt 49 = .ok (.lrem, 1) := by decide +kernel
theorem dX11_sumAt_50 : decode cX11_sumAt 50 = .ok (.lreturn, 1) := by decide +kernel
theorem dX11_ended_0 : decode cX11_ended 0 = .ok (.aload_n 0, 1) := by decide +kernel
theorem dX11_ended_1 : decode cX11_ended 1 = .ok (.aload_n 0, 1) := by decide +kernel
theorem dX11_ended_2 : decode cX11_ended 2 = .ok (.getfield 172, 3) := by decide +kernel
theorem dX11_ended_5 : decode cX11_ended 5 = .ok (.invokevirtual 319, 3) := by decide +kernel
theorem dX11_ended_8 : decode cX11_ended 8 = .ok (.lreturn, 1) := by decide +kernel
theorem dX11_formed_0 : decode cX11_formed 0 = .ok (.iload_n 2, 1) := by decide +kernel
theorem dX11_formed_1 : decode cX11_formed 1 = .ok (.ifCond .ne 6, 3) := by decide +kernel
theorem dX11_formed_4 : decode cX11_formed 4 = .ok (.lload_n 0, 1) := by decide +kernel
theorem dX11_formed_5 : decode cX11_formed 5 = .ok (.l2i, 1) := by decide +kernel
theorem dX11_formed_6 : decode cX11_formed 6 = .ok (.ireturn, 1) := by decide +kernel
theorem dX11_formed_7 : decode cX11_formed 7 = .ok (.lconst 1, 1) := by decide +kernel
theorem dX11_formed_8 : decode cX11_formed 8 = .ok (.lstore_n 3, 1) := by decide +kernel
theorem dX11_formed_9 : decode cX11_formed 9 = .ok (.lload_n 3, 1) := by decide +kernel
theorem dX11_formed_10 : decode cX11_formed 10 = .ok (.ldc2_w 323, 3) := by decide +kernel
theorem dX11_formed_13 : decode cX11_formed 13 = .ok (.lcmp, 1) := by decide +kernel
theorem dX11_formed_14 : decode cX11_formed 14 = .ok (.ifCond .gt 43, 3) := by decide +kernel
theorem dX11_formed_17 : decode cX11_formed 17 = .ok (.lload_n 3, 1) := by decide +kernel
theorem dX11_formed_18 : decode cX11_formed 18 = .ok (.lload_n 0, 1) := by decide +kernel
theorem dX11_formed_19 : decode cX11_formed 19 = .ok (.lmul, 1) := by decide +kernel
theorem dX11_formed_20 : decode cX11_formed 20 = .ok (.ldc2_w 279, 3) := by decide +kernel
theorem dX11_formed_23 : decode cX11_formed 23 = .ok (.lrem, 1) := by decide +kernel
theorem dX11_formed_24 : decode cX11_formed 24 = .ok (.ldc2_w 323, 3) := by decide +kernel
theorem dX11_formed_27 : decode cX11_formed 27 = .ok (.lcmp, 1) := by decide +kernel
theorem dX11_formed_28 : decode cX11_formed 28 = .ok (.ifCond .gt 22, 3) := by decide +kernel
theorem dX11_formed_31 : decode cX11_formed 31 = .ok (.iload_n 2, 1) := by decide +kernel
theorem dX11_formed_32 : decode cX11_formed 32 = .ok (.iconst 1, 1) := by decide +kernel
theorem dX11_formed_33 : decode cX11_formed 33 = .ok (.if_icmp .ne 14, 3) := by decide +kernel
theorem dX11_formed_36 : decode cX11_formed 36 = .ok (.lload_n 3, 1) := by decide +kernel
theorem dX11_formed_37 : decode cX11_formed 37 = .ok (.lload_n 0, 1) := by decide +kernel
theorem dX11_formed_38 : decode cX11_formed 38 = .ok (.lmul, 1) := by decide +kernel
theorem dX11_formed_39 : decode cX11_formed 39 = .ok (.ldc2_w 279, 3) := by decide +kernel
theorem dX11_formed_42 : decode cX11_formed 42 = .ok (.lrem, 1) := by decide +kernel
theorem dX11_formed_43 : decode cX11_formed 43 = .ok (.l2i, 1) := by decide +kernel
theorem dX11_formed_44 : decode cX11_formed 44 = .ok (.goto 5, 3) := by decide +kernel
theorem dX11_formed_47 : decode cX11_formed 47 = .ok (.lload_n 3, 1) := by decide +kernel
theorem dX11_formed_48 : decode cX11_formed 48 = .ok (.l2i, 1) := by decide +kernel
theorem dX11_formed_49 : decode cX11_formed 49 = .ok (.ireturn, 1) := by decide +kernel
theorem dX11_formed_50 : decode cX11_formed 50 = .ok (.lload_n 3, 1) := by decide +kernel
theorem dX11_formed_51 : decode cX11_formed 51 = .ok (.lconst 1, 1) := by decide +kernel
theorem dX11_formed_52 : decode cX11_formed 52 = .ok (.ladd, 1) := by decide +kernel
theorem dX11_formed_53 : decode cX11_formed 53 = .ok (.lstore_n 3, 1) := by decide +kernel
theorem dX11_formed_54 : decode cX11_formed 54 = .ok (.goto (-45), 3) := by decide +kernel
theorem dX11_formed_57 : decode cX11_formed 57 = .ok (.iconst (-1), 1) := by decide +kernel
theorem dX11_formed_58 : decode cX11_formed 58 = .ok (.ireturn, 1) := by decide +kernel
theorem dX11_isForm_0 : decode cX11_isForm 0 = .ok (.iload_n 1, 1) := by decide +kernel
theorem dX11_isForm_1 : decode cX11_isForm 1 = .ok (.i2l, 1) := by decide +kernel
theorem dX11_isForm_2 : decode cX11_isForm 2 = .ok (.lconst 0, 1) := by decide +kernel
theorem dX11_isForm_3 : decode cX11_isForm 3 = .ok (.ldc2_w 281, 3) := by decide +kernel
theorem dX11_isForm_6 : decode cX11_isForm 6 = .ok (.invokestatic 157, 3) := by decide +kernel
theorem dX11_isForm_9 : decode cX11_isForm 9 = .ok (.ireturn, 1) := by decide +kernel
theorem dX11_isFew_0 : decode cX11_isFew 0 = .ok (.aload_n 0, 1) := by decide +kernel
theorem dX11_isFew_1 : decode cX11_isFew 1 = .ok (.invokevirtual 325, 3) := by decide +kernel
theorem dX11_isFew_4 : decode cX11_isFew 4 = .ok (.aload_n 0, 1) := by decide +kernel
theorem dX11_isFew_5 : decode cX11_isFew 5 = .ok (.aload_n 0, 1) := by decide +kernel
theorem dX11_isFew_6 : decode cX11_isFew 6 = .ok (.getfield 236, 3) := by decide +kernel
theorem dX11_isFew_9 : decode cX11_isFew 9 = .ok (.ifCond .ne 7, 3) := by decide +kernel
theorem dX11_isFew_12 : decode cX11_isFew 12 = .ok (.iconst 1, 1) := by decide +kernel
theorem dX11_isFew_13 : decode cX11_isFew 13 = .ok (.goto 4, 3) := by decide +kernel
theorem dX11_isFew_16 : decode cX11_isFew 16 = .ok (.iconst 0, 1) := by decide +kernel
theorem dX11_isFew_17 : decode cX11_isFew 17 = .ok (.iconst 1, 1) := by decide +kernel
theorem dX11_isFew_18 : decode cX11_isFew 18 = .ok (.iconst 2, 1) := by decide +kernel
theorem dX11_isFew_19 : decode cX11_isFew 19 = .ok (.invokevirtual 161, 3) := by decide +kernel
theorem dX11_isFew_22 : decode cX11_isFew 22 = .ok (.ireturn, 1) := by decide +kernel
theorem dX11_told_0 : decode cX11_told 0 = .ok (.aload_n 0, 1) := by decide +kernel
theorem dX11_told_1 : decode cX11_told 1 = .ok (.iconst 0, 1) := by decide +kernel
theorem dX11_told_2 : decode cX11_told 2 = .ok (.putfield 1, 3) := by decide +kernel
theorem dX11_told_5 : decode cX11_told 5 = .ok (.aload_n 0, 1) := by decide +kernel
theorem dX11_told_6 : decode cX11_told 6 = .ok (.iload_n 1, 1) := by decide +kernel
theorem dX11_told_7 : decode cX11_told 7 = .ok (.i2l, 1) := by decide +kernel
theorem dX11_told_8 : decode cX11_told 8 = .ok (.lconst 0, 1) := by decide +kernel
theorem dX11_told_9 : decode cX11_told 9 = .ok (.ldc2_w 328, 3) := by decide +kernel
theorem dX11_told_12 : decode cX11_told 12 = .ok (.invokestatic 157, 3) := by decide +kernel
theorem dX11_told_15 : decode cX11_told 15 = .ok (.iconst 1, 1) := by decide +kernel
theorem dX11_told_16 : decode cX11_told 16 = .ok (.iconst 1, 1) := by decide +kernel
theorem dX11_told_17 : decode cX11_told 17 = .ok (.invokevirtual 161, 3) := by decide +kernel
theorem dX11_told_20 : decode cX11_told 20 = .ok (.ifCond .ne 5, 3) := by decide +kernel
theorem dX11_told_23 : decode cX11_told 23 = .ok (.iconst 0, 1) := by decide +kernel
theorem dX11_told_24 : decode cX11_told 24 = .ok (.ireturn, 1) := by decide +kernel
theorem dX11_told_25 : decode cX11_told 25 = .ok (.aload_n 0, 1) := by decide +kernel
theorem dX11_told_26 : decode cX11_told 26 = .ok (.invokevirtual 325, 3) := by decide +kernel
theorem dX11_told_29 : decode cX11_told 29 = .ok (.iload_n 1, 1) := by decide +kernel
theorem dX11_told_30 : decode cX11_told 30 = .ok (.ifCond .le 18, 3) := by decide +kernel
theorem dX11_told_33 : decode cX11_told 33 = .ok (.iload_n 1, 1) := by decide +kernel
theorem dX11_told_34 : decode cX11_told 34 = .ok (.bipush 6, 2) := by decide +kernel
theorem dX11_told_36 : decode cX11_told 36 = .ok (.if_icmp .ge 12, 3) := by decide +kernel
theorem dX11_told_39 : decode cX11_told 39 = .ok (.aload_n 0, 1) := by decide +kernel
theorem dX11_told_40 : decode cX11_told 40 = .ok (.getfield 236, 3) := by decide +kernel
theorem dX11_told_43 : decode cX11_told 43 = .ok (.ifCond .eq 5, 3) := by decide +kernel
theorem dX11_told_46 : decode cX11_told 46 = .ok (.iconst (-1), 1) := by decide +kernel
theorem dX11_told_47 : decode cX11_told 47 = .ok (.ireturn, 1) := by decide +kernel
theorem dX11_told_48 : decode cX11_told 48 = .ok (.iconst 0, 1) := by decide +kernel
theorem dX11_told_49 : decode cX11_told 49 = .ok (.istore_n 2, 1) := by decide +kernel
theorem dX11_told_50 : decode cX11_told 50 = .ok (.iload_n 1, 1) := by decide +kernel
theorem dX11_told_51 : decode cX11_told 51 = .ok (.tableswitch 142 0 6 #[41, 46, 51, 85, 120, 125, 137], 41) := by decide +kernel
theorem dX11_told_92 : decode cX11_told 92 = .ok (.aload_n 0, 1) := by decide +kernel
theorem dX11_told_93 : decode cX11_told 93 = .ok (.getfield 172, 3) := by decide +kernel
theorem dX11_told_96 : decode cX11_told 96 = .ok (.ireturn, 1) := by decide +kernel
theorem dX11_told_97 : decode cX11_told 97 = .ok (.aload_n 0, 1) := by decide +kernel
theorem dX11_told_98 : decode cX11_told 98 = .ok (.getfield 227, 3) := by decide +kernel
theorem dX11_told_101 : decode cX11_told 101 = .ok (.ireturn, 1) := by decide +kernel
theorem dX11_told_102 : decode cX11_told 102 = .ok (.iconst 0, 1) := by decide +kernel
theorem dX11_told_103 : decode cX11_told 103 = .ok (.istore_n 3, 1) := by decide +kernel
theorem dX11_told_104 : decode cX11_told 104 = .ok (.iload_n 3, 1) := by decide +kernel
theorem dX11_told_105 : decode cX11_told 105 = .ok (.aload_n 0, 1) := by decide +kernel
theorem dX11_told_106 : decode cX11_told 106 = .ok (.getfield 227, 3) := by decide +kernel
theorem dX11_told_109 : decode cX11_told 109 = .ok (.if_icmp .ge 25, 3) := by decide +kernel
theorem dX11_told_112 : decode cX11_told 112 = .ok (.iload_n 2, 1) := by decide +kernel
theorem dX11_told_113 : decode cX11_told 113 = .ok (.aload_n 0, 1) := by decide +kernel
theorem dX11_told_114 : decode cX11_told 114 = .ok (.iload_n 3, 1) := by decide +kernel
theorem dX11_told_115 : decode cX11_told 115 = .ok (.invokevirtual 330, 3) := by decide +kernel
theorem dX11_told_118 : decode cX11_told 118 = .ok (.ifCond .eq 7, 3) := by decide +kernel
theorem dX11_told_121 : decode cX11_told 121 = .ok (.iconst 1, 1) := by decide +kernel
theorem dX11_told_122 : decode cX11_told 122 = .ok (.goto 4, 3) := by decide +kernel
theorem dX11_told_125 : decode cX11_told 125 = .ok (.iconst 0, 1) := by decide +kernel
theorem dX11_told_126 : decode cX11_told 126 = .ok (.iadd, 1) := by decide +kernel
theorem dX11_told_127 : decode cX11_told 127 = .ok (.istore_n 2, 1) := by decide +kernel
theorem dX11_told_128 : decode cX11_told 128 = .ok (.iinc 3 1, 3) := by decide +kernel
theorem dX11_told_131 : decode cX11_told 131 = .ok (.goto (-27), 3) := by decide +kernel
theorem dX11_told_134 : decode cX11_told 134 = .ok (.iload_n 2, 1) := by decide +kernel
theorem dX11_told_135 : decode cX11_told 135 = .ok (.ireturn, 1) := by decide +kernel
theorem dX11_told_136 : decode cX11_told 136 = .ok (.iconst 0, 1) := by decide +kernel
theorem dX11_told_137 : decode cX11_told 137 = .ok (.istore_n 3, 1) := by decide +kernel
theorem dX11_told_138 : decode cX11_told 138 = .ok (.iload_n 3, 1) := by decide +kernel
theorem dX11_told_139 : decode cX11_told 139 = .ok (.aload_n 0, 1) := by decide +kernel
theorem dX11_told_140 : decode cX11_told 140 = .ok (.getfield 227, 3) := by decide +kernel
theorem dX11_told_143 : decode cX11_told 143 = .ok (.if_icmp .ge 26, 3) := by decide +kernel
theorem dX11_told_146 : decode cX11_told 146 = .ok (.iload_n 2, 1) := by decide +kernel
theorem dX11_told_147 : decode cX11_told 147 = .ok (.aload_n 0, 1) := by decide +kernel
theorem dX11_told_148 : decode cX11_told 148 = .ok (.getfield 275, 3) := by decide +kernel
theorem dX11_told_151 : decode cX11_told 151 = .ok (.iload_n 3, 1) := by decide +kernel
theorem dX11_told_152 : decode cX11_told 152 = .ok (.baload, 1) := by decide +kernel
theorem dX11_told_153 : decode cX11_told 153 = .ok (.ifCond .eq 7, 3) := by decide +kernel
theorem dX11_told_156 : decode cX11_told 156 = .ok (.iconst 0, 1) := by decide +kernel
theorem dX11_told_157 : decode cX11_told 157 = .ok (.goto 4, 3) := by decide +kernel
theorem dX11_told_160 : decode cX11_told 160 = .ok (.iconst 1, 1) := by decide +kernel
theorem dX11_told_161 : decode cX11_told 161 = .ok (.iadd, 1) := by decide +kernel
theorem dX11_told_162 : decode cX11_told 162 = .ok (.istore_n 2, 1) := by decide +kernel
theorem dX11_told_163 : decode cX11_told 163 = .ok (.iinc 3 1, 3) := by decide +kernel
theorem dX11_told_166 : decode cX11_told 166 = .ok (.goto (-28), 3) := by decide +kernel
theorem dX11_told_169 : decode cX11_told 169 = .ok (.iload_n 2, 1) := by decide +kernel
theorem dX11_told_170 : decode cX11_told 170 = .ok (.ireturn, 1) := by decide +kernel
theorem dX11_told_171 : decode cX11_told 171 = .ok (.aload_n 0, 1) := by decide +kernel
theorem dX11_told_172 : decode cX11_told 172 = .ok (.getfield 257, 3) := by decide +kernel
theorem dX11_told_175 : decode cX11_told 175 = .ok (.ireturn, 1) := by decide +kernel
theorem dX11_told_176 : decode cX11_told 176 = .ok (.aload_n 0, 1) := by decide +kernel
theorem dX11_told_177 : decode cX11_told 177 = .ok (.getfield 239, 3) := by decide +kernel
theorem dX11_told_180 : decode cX11_told 180 = .ok (.aload_n 0, 1) := by decide +kernel
theorem dX11_told_181 : decode cX11_told 181 = .ok (.getfield 227, 3) := by decide +kernel
theorem dX11_told_184 : decode cX11_told 184 = .ok (.iconst 1, 1) := by decide +kernel
theorem dX11_told_185 : decode cX11_told 185 = .ok (.isub, 1) := by decide +kernel
theorem dX11_told_186 : decode cX11_told 186 = .ok (.iaload, 1) := by decide +kernel
theorem dX11_told_187 : decode cX11_told 187 = .ok (.ireturn, 1) := by decide +kernel
theorem dX11_told_188 : decode cX11_told 188 = .ok (.aload_n 0, 1) := by decide +kernel
theorem dX11_told_189 : decode cX11_told 189 = .ok (.getfield 14, 3) := by decide +kernel
theorem dX11_told_192 : decode cX11_told 192 = .ok (.ireturn, 1) := by decide +kernel
theorem dX11_told_193 : decode cX11_told 193 = .ok (.aload_n 0, 1) := by decide +kernel
theorem dX11_told_194 : decode cX11_told 194 = .ok (.getfield 181, 3) := by decide +kernel
theorem dX11_told_197 : decode cX11_told 197 = .ok (.ireturn, 1) := by decide +kernel
theorem dX11_statement_0 : decode cX11_statement 0 = .ok (.aload_n 0, 1) := by decide +kernel
theorem dX11_statement_1 : decode cX11_statement 1 = .ok (.iconst 0, 1) := by decide +kernel
theorem dX11_statement_2 : decode cX11_statement 2 = .ok (.putfield 1, 3) := by decide +kernel
theorem dX11_statement_5 : decode cX11_statement 5 = .ok (.aload_n 0, 1) := by decide +kernel
theorem dX11_statement_6 : decode cX11_statement 6 = .ok (.aload_n 0, 1) := by decide +kernel
theorem dX11_statement_7 : decode cX11_statement 7 = .ok (.iload_n 1, 1) := by decide +kernel
theorem dX11_statement_8 : decode cX11_statement 8 = .ok (.invokevirtual 203, 3) := by decide +kernel
theorem dX11_statement_11 : decode cX11_statement 11 = .ok (.iconst 1, 1) := by decide +kernel
theorem dX11_statement_12 : decode cX11_statement 12 = .ok (.iconst 0, 1) := by decide +kernel
theorem dX11_statement_13 : decode cX11_statement 13 = .ok (.invokevirtual 161, 3) := by decide +kernel
theorem dX11_statement_16 : decode cX11_statement 16 = .ok (.ifCond .eq 21, 3) := by decide +kernel
theorem dX11_statement_19 : decode cX11_statement 19 = .ok (.aload_n 0, 1) := by decide +kernel
theorem dX11_statement_20 : decode cX11_statement 20 = .ok (.iload_n 2, 1) := by decide +kernel
theorem dX11_statement_21 : decode cX11_statement 21 = .ok (.i2l, 1) := by decide +kernel
theorem dX11_statement_22 : decode cX11_statement 22 = .ok (.lconst 0, 1) := by decide +kernel
theorem dX11_statement_23 : decode cX11_statement 23 = .ok (.ldc2_w 333, 3) := by decide +kernel
theorem dX11_statement_26 : decode cX11_statement 26 = .ok (.invokestatic 157, 3) := by decide +kernel
theorem dX11_statement_29 : decode cX11_statement 29 = .ok (.iconst 2, 1) := by decide +kernel
theorem dX11_statement_30 : decode cX11_statement 30 = .ok (.iconst 1, 1) := by decide +kernel
theorem dX11_statement_31 : decode cX11_statement 31 = .ok (.invokevirtual 161, 3) := by decide +kernel
theorem dX11_statement_34 : decode cX11_statement 34 = .ok (.ifCond .ne 5, 3) := by decide +kernel
theorem dX11_statement_37 : decode cX11_statement 37 = .ok (.iconst 0, 1) := by decide +kernel
theorem dX11_statement_38 : decode cX11_statement 38 = .ok (.ireturn, 1) := by decide +kernel
theorem dX11_statement_39 : decode cX11_statement 39 = .ok (.aload_n 0, 1) := by decide +kernel
theorem dX11_statement_40 : decode cX11_statement 40 = .ok (.iload_n 1, 1) := by decide +kernel
theorem dX11_statement_41 : decode cX11_statement 41 = .ok (.iload_n 2, 1) := by decide +kernel
theorem dX11_statement_42 : decode cX11_statement 42 = .ok (.invokevirtual 175, 3) := by decide +kernel
theorem dX11_statement_45 : decode cX11_statement 45 = .ok (.ireturn, 1) := by decide +kernel
theorem dX11_firstOf_0 : decode cX11_firstOf 0 = .ok (.aload_n 0, 1) := by decide +kernel
theorem dX11_firstOf_1 : decode cX11_firstOf 1 = .ok (.iconst 0, 1) := by decide +kernel
theorem dX11_firstOf_2 : decode cX11_firstOf 2 = .ok (.putfield 1, 3) := by decide +kernel
theorem dX11_firstOf_5 : decode cX11_firstOf 5 = .ok (.aload_n 0, 1) := by decide +kernel
theorem dX11_firstOf_6 : decode cX11_firstOf 6 = .ok (.aload_n 0, 1) := by decide +kernel
theorem dX11_firstOf_7 : decode cX11_firstOf 7 = .ok (.iload_n 1, 1) := by decide +kernel
theorem dX11_firstOf_8 : decode cX11_firstOf 8 = .ok (.invokevirtual 195, 3) := by decide +kernel
theorem dX11_firstOf_11 : decode cX11_firstOf 11 = .ok (.iconst 1, 1) := by decide +kernel
theorem dX11_firstOf_12 : decode cX11_firstOf 12 = .ok (.iconst 0, 1) := by decide +kernel
theorem dX11_firstOf_13 : decode cX11_firstOf 13 = .ok (.invokevirtual 161, 3) := by decide +kernel
theorem dX11_firstOf_16 : decode cX11_firstOf 16 = .ok (.ifCond .eq 12, 3) := by decide +kernel
theorem dX11_firstOf_19 : decode cX11_firstOf 19 = .ok (.aload_n 0, 1) := by decide +kernel
theorem dX11_firstOf_20 : decode cX11_firstOf 20 = .ok (.getfield 178, 3) := by decide +kernel
theorem dX11_firstOf_23 : decode cX11_firstOf 23 = .ok (.iload_n 1, 1) := by decide +kernel
theorem dX11_firstOf_24 : decode cX11_firstOf 24 = .ok (.iaload, 1) := by decide +kernel
theorem dX11_firstOf_25 : decode cX11_firstOf 25 = .ok (.goto 4, 3) := by decide +kernel
theorem dX11_firstOf_28 : decode cX11_firstOf 28 = .ok (.iconst 0, 1) := by decide +kernel
theorem dX11_firstOf_29 : decode cX11_firstOf 29 = .ok (.ireturn, 1) := by decide +kernel
theorem dX11_isState_0 : decode cX11_isState 0 = .ok (.iload_n 1, 1) := by decide +kernel
theorem dX11_isState_1 : decode cX11_isState 1 = .ok (.i2l, 1) := by decide +kernel
theorem dX11_isState_2 : decode cX11_isState 2 = .ok (.lconst 0, 1) := by decide +kernel
theorem dX11_isState_3 : decode cX11_isState 3 = .ok (.aload_n 0, 1) := by decide +kernel
theorem dX11_isState_4 : decode cX11_isState 4 = .ok (.getfield 227, 3) := by decide +kernel
theorem dX11_isState_7 : decode cX11_isState 7 = .ok (.iconst 1, 1) := by decide +kernel
theorem dX11_isState_8 : decode cX11_isState 8 = .ok (.isub, 1) := by decide +kernel
theorem dX11_isState_9 : decode cX11_isState 9 = .ok (.i2l, 1) := by decide +kernel
theorem dX11_isState_10 : decode cX11_isState 10 = .ok (.invokestatic 157, 3) := by decide +kernel
theorem dX11_isState_13 : decode cX11_isState 13 = .ok (.ireturn, 1) := by decide +kernel
theorem dX11_state_0 : decode cX11_state 0 = .ok (.aload_n 0, 1) := by decide +kernel
theorem dX11_state_1 : decode cX11_state 1 = .ok (.iconst 0, 1) := by decide +kernel
theorem dX11_state_2 : decode cX11_state 2 = .ok (.putfield 1, 3) := by decide +kernel
theorem dX11_state_5 : decode cX11_state 5 = .ok (.aload_n 0, 1) := by decide +kernel
theorem dX11_state_6 : decode cX11_state 6 = .ok (.invokevirtual 335, 3) := by decide +kernel
theorem dX11_state_9 : decode cX11_state 9 = .ok (.ifCond .eq 35, 3) := by decide +kernel
theorem dX11_state_12 : decode cX11_state 12 = .ok (.aload_n 0, 1) := by decide +kernel
theorem dX11_state_13 : decode cX11_state 13 = .ok (.aload_n 0, 1) := by decide +kernel
theorem dX11_state_14 : decode cX11_state 14 = .ok (.iload_n 1, 1) := by decide +kernel
theorem dX11_state_15 : decode cX11_state 15 = .ok (.invokevirtual 338, 3) := by decide +kernel
theorem dX11_state_18 : decode cX11_state 18 = .ok (.iconst 2, 1) := by decide +kernel
theorem dX11_state_19 : decode cX11_state 19 = .ok (.iconst 0, 1) := by decide +kernel
theorem dX11_state_20 : decode cX11_state 20 = .ok (.invokevirtual 161, 3) := by decide +kernel
theorem dX11_state_23 : decode cX11_state 23 = .ok (.ifCond .eq 21, 3) := by decide +kernel
theorem dX11_state_26 : decode cX11_state 26 = .ok (.aload_n 0, 1) := by decide +kernel
theorem dX11_state_27 : decode cX11_state 27 = .ok (.iload_n 2, 1) := by decide +kernel
theorem dX11_state_28 : decode cX11_state 28 = .ok (.i2l, 1) := by decide +kernel
theorem dX11_state_29 : decode cX11_state 29 = .ok (.lconst 0, 1) := by decide +kernel
theorem dX11_state_30 : decode cX11_state 30 = .ok (.ldc2_w 198, 3) := by decide +kernel
theorem dX11_state_33 : decode cX11_state 33 = .ok (.invokestatic 157, 3) := by decide +kernel
theorem dX11_state_36 : decode cX11_state 36 = .ok (.iconst 3, 1) := by decide +kernel
theorem dX11_state_37 : decode cX11_state 37 = .ok (.iconst 1, 1) := by decide +kernel
theorem dX11_state_38 : decode cX11_state 38 = .ok (.invokevirtual 161, 3) := by decide +kernel
theorem dX11_state_41 : decode cX11_state 41 = .ok (.ifCond .ne 5, 3) := by decide +kernel
theorem dX11_state_44 : decode cX11_state 44 = .ok (.iconst 0, 1) := by decide +kernel
theorem dX11_state_45 : decode cX11_state 45 = .ok (.ireturn, 1) := by decide +kernel
theorem dX11_state_46 : decode cX11_state 46 = .ok (.iload_n 2, 1) := by decide +kernel
theorem dX11_state_47 : decode cX11_state 47 = .ok (.ifCond .ne 10, 3) := by decide +kernel
theorem dX11_state_50 : decode cX11_state 50 = .ok (.aload_n 0, 1) := by decide +kernel
theorem dX11_state_51 : decode cX11_state 51 = .ok (.getfield 230, 3) := by decide +kernel
theorem dX11_state_54 : decode cX11_state 54 = .ok (.iload_n 1, 1) := by decide +kernel
theorem dX11_state_55 : decode cX11_state 55 = .ok (.iaload, 1) := by decide +kernel
theorem dX11_state_56 : decode cX11_state 56 = .ok (.ireturn, 1) := by decide +kernel
theorem dX11_state_57 : decode cX11_state 57 = .ok (.iload_n 2, 1) := by decide +kernel
theorem dX11_state_58 : decode cX11_state 58 = .ok (.bipush 7, 2) := by decide +kernel
theorem dX11_state_60 : decode cX11_state 60 = .ok (.if_icmp .ge 17, 3) := by decide +kernel
theorem dX11_state_63 : decode cX11_state 63 = .ok (.aload_n 0, 1) := by decide +kernel
theorem dX11_state_64 : decode cX11_state 64 = .ok (.aload_n 0, 1) := by decide +kernel
theorem dX11_state_65 : decode cX11_state 65 = .ok (.getfield 233, 3) := by decide +kernel
theorem dX11_state_68 : decode cX11_state 68 = .ok (.iload_n 1, 1) := by decide +kernel
theorem dX11_state_69 : decode cX11_state 69 = .ok (.iaload, 1) := by decide +kernel
theorem dX11_state_70 : decode cX11_state 70 = .ok (.iload_n 2, 1) := by decide +kernel
theorem dX11_state_71 : decode cX11_state 71 = .ok (.iconst 1, 1) := by decide +kernel
theorem dX11_state_72 : decode cX11_state 72 = .ok (.isub, 1) := by decide +kernel
theorem dX11_state_73 : decode cX11_state 73 = .ok (.invokevirtual 218, 3) := by decide +kernel
theorem dX11_state_76 : decode cX11_state 76 = .ok (.ireturn, 1) := by decide +kernel
theorem dX11_state_77 : decode cX11_state 77 = .ok (.iload_n 2, 1) := by decide +kernel
theorem dX11_state_78 : decode cX11_state 78 = .ok (.bipush 7, 2) := by decide +kernel
theorem dX11_state_80 : decode cX11_state 80 = .ok (.if_icmp .ne 12, 3) := by decide +kernel
theorem dX11_state_83 : decode cX11_state 83 = .ok (.aload_n 0, 1) := by decide +kernel
theorem dX11_state_84 : decode cX11_state 84 = .ok (.getfield 239, 3) := by decide +kernel
theorem dX11_state_87 : decode cX11_state 87 = .ok (.iload_n 1, 1) := by decide +kernel
theorem dX11_state_88 : decode cX11_state 88 = .ok (.iaload, 1) := by decide +kernel
theorem dX11_state_89 : decode cX11_state 89 = .ok (.goto 32, 3) := by decide +kernel
theorem dX11_state_92 : decode cX11_state 92 = .ok (.iload_n 2, 1) := by decide +kernel
theorem dX11_state_93 : decode cX11_state 93 = .ok (.bipush 8, 2) := by decide +kernel
theorem dX11_state_95 : decode cX11_state 95 = .ok (.if_icmp .ne 20, 3) := by decide +kernel
theorem dX11_state_98 : decode cX11_state 98 = .ok (.aload_n 0, 1) := by decide +kernel
theorem dX11_state_99 : decode cX11_state 99 = .ok (.getfield 275, 3) := by decide +kernel
theorem dX11_state_102 : decode cX11_state 102 = .ok (.iload_n 1, 1) := by decide +kernel
theorem dX11_state_103 : decode cX11_state 103 = .ok (.baload, 1) := by decide +kernel
theorem dX11_state_104 : decode cX11_state 104 = .ok (.ifCond .eq 7, 3) := by decide +kernel
theorem dX11_state_107 : decode cX11_state 107 = .ok (.iconst 0, 1) := by decide +kernel
theorem dX11_state_108 : decode cX11_state 108 = .ok (.goto 13, 3) := by decide +kernel
theorem dX11_state_111 : decode cX11_state 111 = .ok (.iconst 1, 1) := by decide +kernel
theorem dX11_state_112 : decode cX11_state 112 = .ok (.goto 9, 3) := by decide +kernel
theorem dX11_state_115 : decode cX11_state 115 = .ok (.aload_n 0, 1) := by decide +kernel
theorem dX11_state_116 : decode cX11_state 116 = .ok (.getfield 251, 3) := by decide +kernel
theorem dX11_state_119 : decode cX11_state 119 = .ok (.iload_n 1, 1) := by decide +kernel
theorem dX11_state_120 : decode cX11_state 120 = .ok (.iaload, 1) := by decide +kernel
theorem dX11_state_121 : decode cX11_state 121 = .ok (.ireturn, 1) := by decide +kernel
theorem dX11_arc_0 : decode cX11_arc 0 = .ok (.aload_n 0, 1) := by decide +kernel
theorem dX11_arc_1 : decode cX11_arc 1 = .ok (.iconst 0, 1) := by decide +kernel
theorem dX11_arc_2 : decode cX11_arc 2 = .ok (.putfield 1, 3) := by decide +kernel
theorem dX11_arc_5 : decode cX11_arc 5 = .ok (.aload_n 0, 1) := by decide +kernel
theorem dX11_arc_6 : decode cX11_arc 6 = .ok (.invokevirtual 335, 3) := by decide +kernel
theorem dX11_arc_9 : decode cX11_arc 9 = .ok (.ifCond .eq 71, 3) := by decide +kernel
theorem dX11_arc_12 : decode cX11_arc 12 = .ok (.aload_n 0, 1) := by decide +kernel
theorem dX11_arc_13 : decode cX11_arc 13 = .ok (.aload_n 0, 1) := by decide +kernel
theorem dX11_arc_14 : decode cX11_arc 14 = .ok (.iload_n 1, 1) := by decide +kernel
theorem dX11_arc_15 : decode cX11_arc 15 = .ok (.invokevirtual 338, 3) := by decide +kernel
theorem dX11_arc_18 : decode cX11_arc 18 = .ok (.ifCond .eq 37, 3) := by decide +kernel
theorem dX11_arc_21 : decode cX11_arc 21 = .ok (.iload_n 2, 1) := by decide +kernel
theorem dX11_arc_22 : decode cX11_arc 22 = .ok (.i2l, 1) := by decide +kernel
theorem dX11_arc_23 : decode cX11_arc 23 = .ok (.lconst 0, 1) := by decide +kernel
theorem dX11_arc_24 : decode cX11_arc 24 = .ok (.aload_n 0, 1) := by decide +kernel
theorem dX11_arc_25 : decode cX11_arc 25 = .ok (.getfield 251, 3) := by decide +kernel
theorem dX11_arc_28 : decode cX11_arc 28 = .ok (.aload_n 0, 1) := by decide +kernel
theorem dX11_arc_29 : decode cX11_arc 29 = .ok (.iload_n 1, 1) := by decide +kernel
theorem dX11_arc_30 : decode cX11_arc 30 = .ok (.invokevirtual 338, 3) := by decide +kernel
theorem dX11_arc_33 : decode cX11_arc 33 = .ok (.ifCond .eq 7, 3) := by decide +kernel
theorem dX11_arc_36 : decode cX11_arc 36 = .ok (.iload_n 1, 1) := by decide +kernel
theorem dX11_arc_37 : decode cX11_arc 37 = .ok (.goto 4, 3) := by decide +kernel
theorem dX11_arc_40 : decode cX11_arc 40 = .ok (.iconst 0, 1) := by decide +kernel
theorem dX11_arc_41 : decode cX11_arc 41 = .ok (.iaload, 1) := by decide +kernel
theorem dX11_arc_42 : decode cX11_arc 42 = .ok (.iconst 1, 1) := by decide +kernel
theorem dX11_arc_43 : decode cX11_arc 43 = .ok (.isub, 1) := by decide +kernel
theorem dX11_arc_44 : decode cX11_arc 44 = .ok (.i2l, 1) := by decide +kernel
theorem dX11_arc_45 : decode cX11_arc 45 = .ok (.invokestatic 157, 3) := by decide +kernel
theorem dX11_arc_48 : decode cX11_arc 48 = .ok (.ifCond .eq 7, 3) := by decide +kernel
theorem dX11_arc_51 : decode cX11_arc 51 = .ok (.iconst 1, 1) := by decide +kernel
theorem dX11_arc_52 : decode cX11_arc 52 = .ok (.goto 4, 3) := by decide +kernel
theorem dX11_arc_55 : decode cX11_arc 55 = .ok (.iconst 0, 1) := by decide +kernel
theorem dX11_arc_56 : decode cX11_arc 56 = .ok (.iconst 2, 1) := by decide +kernel
theorem dX11_arc_57 : decode cX11_arc 57 = .ok (.iconst 0, 1) := by decide +kernel
theorem dX11_arc_58 : decode cX11_arc 58 = .ok (.invokevirtual 161, 3) := by decide +kernel
theorem dX11_arc_61 : decode cX11_arc 61 = .ok (.ifCond .eq 19, 3) := by decide +kernel
theorem dX11_arc_64 : decode cX11_arc 64 = .ok (.aload_n 0, 1) := by decide +kernel
theorem dX11_arc_65 : decode cX11_arc 65 = .ok (.iload_n 3, 1) := by decide +kernel
theorem dX11_arc_66 : decode cX11_arc 66 = .ok (.i2l, 1) := by decide +kernel
theorem dX11_arc_67 : decode cX11_arc 67 = .ok (.lconst 0, 1) := by decide +kernel
theorem dX11_arc_68 : decode cX11_arc 68 = .ok (.lconst 1, 1) := by decide +kernel
theorem dX11_arc_69 : decode cX11_arc 69 = .ok (.invokestatic 157, 3) := by decide +kernel
theorem dX11_arc_72 : decode cX11_arc 72 = .ok (.iconst 3, 1) := by decide +kernel
theorem dX11_arc_73 : decode cX11_arc 73 = .ok (.iconst 1, 1) := by decide +kernel
theorem dX11_arc_74 : decode cX11_arc 74 = .ok (.invokevirtual 161, 3) := by decide +kernel
theorem dX11_arc_77 : decode cX11_arc 77 = .ok (.ifCond .ne 5, 3) := by decide +kernel
theorem dX11_arc_80 : decode cX11_arc 80 = .ok (.iconst 0, 1) := by decide +kernel
theorem dX11_arc_81 : decode cX11_arc 81 = .ok (.ireturn, 1) := by decide +kernel
theorem dX11_arc_82 : decode cX11_arc 82 = .ok (.iload_n 3, 1) := by decide +kernel
theorem dX11_arc_83 : decode cX11_arc 83 = .ok (.ifCond .ne 17, 3) := by decide +kernel
theorem dX11_arc_86 : decode cX11_arc 86 = .ok (.aload_n 0, 1) := by decide +kernel
theorem dX11_arc_87 : decode cX11_arc 87 = .ok (.getfield 248, 3) := by decide +kernel
theorem dX11_arc_90 : decode cX11_arc 90 = .ok (.bipush 10, 2) := by decide +kernel
theorem dX11_arc_92 : decode cX11_arc 92 = .ok (.iload_n 1, 1) := by decide +kernel
theorem dX11_arc_93 : decode cX11_arc 93 = .ok (.imul, 1) := by decide +kernel
theorem dX11_arc_94 : decode cX11_arc 94 = .ok (.iload_n 2, 1) := by decide +kernel
theorem dX11_arc_95 : decode cX11_arc 95 = .ok (.iadd, 1) := by decide +kernel
theorem dX11_arc_96 : decode cX11_arc 96 = .ok (.iaload, 1) := by decide +kernel
theorem dX11_arc_97 : decode cX11_arc 97 = .ok (.goto 14, 3) := by decide +kernel
theorem dX11_arc_100 : decode cX11_arc 100 = .ok (.aload_n 0, 1) := by decide +kernel
theorem dX11_arc_101 : decode cX11_arc 101 = .ok (.getfield 254, 3) := by decide +kernel
theorem dX11_arc_104 : decode cX11_arc 104 = .ok (.bipush 10, 2) := by decide +kernel
theorem dX11_arc_106 : decode cX11_arc 106 = .ok (.iload_n 1, 1) := by decide +kernel
theorem dX11_arc_107 : decode cX11_arc 107 = .ok (.imul, 1) := by decide +kernel
theorem dX11_arc_108 : decode cX11_arc 108 = .ok (.iload_n 2, 1) := by decide +kernel
theorem dX11_arc_109 : decode cX11_arc 109 = .ok (.iadd, 1) := by decide +kernel
theorem dX11_arc_110 : decode cX11_arc 110 = .ok (.iaload, 1) := by decide +kernel
theorem dX11_arc_111 : decode cX11_arc 111 = .ok (.ireturn, 1) := by decide +kernel
theorem dX11_total_0 : decode cX11_total 0 = .ok (.aload_n 0, 1) := by decide +kernel
theorem dX11_total_1 : decode cX11_total 1 = .ok (.iconst 0, 1) := by decide +kernel
theorem dX11_total_2 : decode cX11_total 2 = .ok (.putfield 1, 3) := by decide +kernel
theorem dX11_total_5 : decode cX11_total 5 = .ok (.aload_n 0, 1) := by decide +kernel
theorem dX11_total_6 : decode cX11_total 6 = .ok (.invokevirtual 335, 3) := by decide +kernel
theorem dX11_total_9 : decode cX11_total 9 = .ok (.ifCond .eq 37, 3) := by decide +kernel
theorem dX11_total_12 : decode cX11_total 12 = .ok (.aload_n 0, 1) := by decide +kernel
theorem dX11_total_13 : decode cX11_total 13 = .ok (.iload_n 1, 1) := by decide +kernel
theorem dX11_total_14 : decode cX11_total 14 = .ok (.i2l, 1) := by decide +kernel
theorem dX11_total_15 : decode cX11_total 15 = .ok (.lconst 0, 1) := by decide +kernel
theorem dX11_total_16 : decode cX11_total 16 = .ok (.ldc2_w 281, 3) := by decide +kernel
theorem dX11_total_19 : decode cX11_total 19 = .ok (.invokestatic 157, 3) := by decide +kernel
theorem dX11_total_22 : decode cX11_total 22 = .ok (.ifCond .eq 15, 3) := by decide +kernel
theorem dX11_total_25 : decode cX11_total 25 = .ok (.aload_n 0, 1) := by decide +kernel
theorem dX11_total_26 : decode cX11_total 26 = .ok (.iload_n 2, 1) := by decide +kernel
theorem dX11_total_27 : decode cX11_total 27 = .ok (.invokevirtual 341, 3) := by decide +kernel
theorem dX11_total_30 : decode cX11_total 30 = .ok (.ifCond .eq 7, 3) := by decide +kernel
theorem dX11_total_33 : decode cX11_total 33 = .ok (.iconst 1, 1) := by decide +kernel
theorem dX11_total_34 : decode cX11_total 34 = .ok (.goto 4, 3) := by decide +kernel
theorem dX11_total_37 : decode cX11_total 37 = .ok (.iconst 0, 1) := by decide +kernel
theorem dX11_total_38 : decode cX11_total 38 = .ok (.iconst 2, 1) := by decide +kernel
theorem dX11_total_39 : decode cX11_total 39 = .ok (.iconst 1, 1) := by decide +kernel
theorem dX11_total_40 : decode cX11_total 40 = .ok (.invokevirtual 161, 3) := by decide +kernel
theorem dX11_total_43 : decode cX11_total 43 = .ok (.ifCond .ne 5, 3) := by decide +kernel
theorem dX11_total_46 : decode cX11_total 46 = .ok (.iconst 0, 1) := by decide +kernel
theorem dX11_total_47 : decode cX11_total 47 = .ok (.ireturn, 1) := by decide +kernel
theorem dX11_total_48 : decode cX11_total 48 = .ok (.aload_n 0, 1) := by decide +kernel
theorem dX11_total_49 : decode cX11_total 49 = .ok (.invokevirtual 344, 3) := by decide +kernel
theorem dX11_total_52 : decode cX11_total 52 = .ok (.ifCond .ne 6, 3) := by decide +kernel
theorem dX11_total_55 : decode cX11_total 55 = .ok (.bipush (-3), 2) := by decide +kernel
theorem dX11_total_57 : decode cX11_total 57 = .ok (.ireturn, 1) := by decide +kernel
theorem dX11_total_58 : decode cX11_total 58 = .ok (.aload_n 0, 1) := by decide +kernel
theorem dX11_total_59 : decode cX11_total 59 = .ok (.invokevirtual 347, 3) := by decide +kernel
theorem dX11_total_62 : decode cX11_total 62 = .ok (.lstore_n 3, 1) := by decide +kernel
theorem dX11_total_63 : decode cX11_total 63 = .ok (.aload_n 0, 1) := by decide +kernel
theorem dX11_total_64 : decode cX11_total 64 = .ok (.aload_n 0, 1) := by decide +kernel
theorem dX11_total_65 : decode cX11_total 65 = .ok (.getfield 172, 3) := by decide +kernel
theorem dX11_total_68 : decode cX11_total 68 = .ok (.iconst 1, 1) := by decide +kernel
theorem dX11_total_69 : decode cX11_total 69 = .ok (.iadd, 1) := by decide +kernel
theorem dX11_total_70 : decode cX11_total 70 = .ok (.invokevirtual 319, 3) := by decide +kernel
theorem dX11_total_73 : decode cX11_total 73 = .ok (.lstore 5, 2) := by decide +kernel
theorem dX11_total_75 : decode cX11_total 75 = .ok (.iload_n 1, 1) := by decide +kernel
theorem dX11_total_76 : decode cX11_total 76 = .ok (.ifCond .ne 7, 3) := by decide +kernel
theorem dX11_total_79 : decode cX11_total 79 = .ok (.lload_n 3, 1) := by decide +kernel
theorem dX11_total_80 : decode cX11_total 80 = .ok (.goto 25, 3) := by decide +kernel
theorem dX11_total_83 : decode cX11_total 83 = .ok (.iload_n 1, 1) := by decide +kernel
theorem dX11_total_84 : decode cX11_total 84 = .ok (.iconst 1, 1) := by decide +kernel
theorem dX11_total_85 : decode cX11_total 85 = .ok (.if_icmp .ne 8, 3) := by decide +kernel
theorem dX11_total_88 : decode cX11_total 88 = .ok (.lload 5, 2) := by decide +kernel
theorem dX11_total_90 : decode cX11_total 90 = .ok (.goto 15, 3) := by decide +kernel
theorem dX11_total_93 : decode cX11_total 93 = .ok (.ldc2_w 351, 3) := by decide +kernel
theorem dX11_total_96 : decode cX11_total 96 = .ok (.lload_n 3, 1) := by decide +kernel
theorem dX11_total_97 : decode cX11_total 97 = .ok (.lsub, 1) := by decide +kernel
theorem dX11_total_98 : decode cX11_total 98 = .ok (.lload 5, 2) := by decide +kernel
theorem dX11_total_100 : decode cX11_total 100 = .ok (.lsub, 1) := by decide +kernel
theorem dX11_total_101 : decode cX11_total 101 = .ok (.ldc2_w 279, 3) := by decide +kernel
theorem dX11_total_104 : decode cX11_total 104 = .ok (.lrem, 1) := by decide +kernel
theorem dX11_total_105 : decode cX11_total 105 = .ok (.iload_n 2, 1) := by decide +kernel
theorem dX11_total_106 : decode cX11_total 106 = .ok (.invokestatic 353, 3) := by decide +kernel
theorem dX11_total_109 : decode cX11_total 109 = .ok (.ireturn, 1) := by decide +kernel
theorem dX11_hasEnd_0 : decode cX11_hasEnd 0 = .ok (.iconst 0, 1) := by decide +kernel
theorem dX11_hasEnd_1 : decode cX11_hasEnd 1 = .ok (.istore_n 1, 1) := by decide +kernel
theorem dX11_hasEnd_2 : decode cX11_hasEnd 2 = .ok (.iconst 0, 1) := by decide +kernel
theorem dX11_hasEnd_3 : decode cX11_hasEnd 3 = .ok (.istore_n 2, 1) := by decide +kernel
theorem dX11_hasEnd_4 : decode cX11_hasEnd 4 = .ok (.iload_n 2, 1) := by decide +kernel
theorem dX11_hasEnd_5 : decode cX11_hasEnd 5 = .ok (.aload_n 0, 1) := by decide +kernel
theorem dX11_hasEnd_6 : decode cX11_hasEnd 6 = .ok (.getfield 227, 3) := by decide +kernel
theorem dX11_hasEnd_9 : decode cX11_hasEnd 9 = .ok (.if_icmp .ge 27, 3) := by decide +kernel
theorem dX11_hasEnd_12 : decode cX11_hasEnd 12 = .ok (.iload_n 1, 1) := by decide +kernel
theorem dX11_hasEnd_13 : decode cX11_hasEnd 13 = .ok (.ifCond .ne 11, 3) := by decide +kernel
theorem dX11_hasEnd_16 : decode cX11_hasEnd 16 = .ok (.aload_n 0, 1) := by decide +kernel
theorem dX11_hasEnd_17 : decode cX11_hasEnd 17 = .ok (.iload_n 2, 1) := by decide +kernel
theorem dX11_hasEnd_18 : decode cX11_hasEnd 18 = .ok (.invokevirtual 330, 3) := by decide +kernel
theorem dX11_hasEnd_21 : decode cX11_hasEnd 21 = .ok (.ifCond .eq 7, 3) := by decide +kernel
theorem dX11_hasEnd_24 : decode cX11_hasEnd 24 = .ok (.iconst 1, 1) := by decide +kernel
theorem dX11_hasEnd_25 : decode cX11_hasEnd 25 = .ok (.goto 4, 3) := by decide +kernel
theorem dX11_hasEnd_28 : decode cX11_hasEnd 28 = .ok (.iconst 0, 1) := by decide +kernel
theorem dX11_hasEnd_29 : decode cX11_hasEnd 29 = .ok (.istore_n 1, 1) := by decide +kernel
theorem dX11_hasEnd_30 : decode cX11_hasEnd 30 = .ok (.iinc 2 1, 3) := by decide +kernel
theorem dX11_hasEnd_33 : decode cX11_hasEnd 33 = .ok (.goto (-29), 3) := by decide +kernel
theorem dX11_hasEnd_36 : decode cX11_hasEnd 36 = .ok (.aload_n 0, 1) := by decide +kernel
theorem dX11_hasEnd_37 : decode cX11_hasEnd 37 = .ok (.iload_n 1, 1) := by decide +kernel
theorem dX11_hasEnd_38 : decode cX11_hasEnd 38 = .ok (.iconst 1, 1) := by decide +kernel
theorem dX11_hasEnd_39 : decode cX11_hasEnd 39 = .ok (.iconst 2, 1) := by decide +kernel
theorem dX11_hasEnd_40 : decode cX11_hasEnd 40 = .ok (.invokevirtual 161, 3) := by decide +kernel
theorem dX11_hasEnd_43 : decode cX11_hasEnd 43 = .ok (.ireturn, 1) := by decide +kernel
theorem dX11_isSure_0 : decode cX11_isSure 0 = .ok (.aload_n 0, 1) := by decide +kernel
theorem dX11_isSure_1 : decode cX11_isSure 1 = .ok (.invokevirtual 344, 3) := by decide +kernel
theorem dX11_isSure_4 : decode cX11_isSure 4 = .ok (.ifCond .eq 16, 3) := by decide +kernel
theorem dX11_isSure_7 : decode cX11_isSure 7 = .ok (.aload_n 0, 1) := by decide +kernel
theorem dX11_isSure_8 : decode cX11_isSure 8 = .ok (.invokevirtual 347, 3) := by decide +kernel
theorem dX11_isSure_11 : decode cX11_isSure 11 = .ok (.lconst 0, 1) := by decide +kernel
theorem dX11_isSure_12 : decode cX11_isSure 12 = .ok (.lcmp, 1) := by decide +kernel
theorem dX11_isSure_13 : decode cX11_isSure 13 = .ok (.ifCond .eq 7, 3) := by decide +kernel
theorem dX11_isSure_16 : decode cX11_isSure 16 = .ok (.iconst 1, 1) := by decide +kernel
theorem dX11_isSure_17 : decode cX11_isSure 17 = .ok (.goto 4, 3) := by decide +kernel
theorem dX11_isSure_20 : decode cX11_isSure 20 = .ok (.iconst 0, 1) := by decide +kernel
theorem dX11_isSure_21 : decode cX11_isSure 21 = .ok (.ireturn, 1) := by decide +kernel
theorem dX11_oddsOf_0 : decode cX11_oddsOf 0 = .ok (.lconst 0, 1) := by decide +kernel
theorem dX11_oddsOf_1 : decode cX11_oddsOf 1 = .ok (.lstore 5, 2) := by decide +kernel
theorem dX11_oddsOf_3 : decode cX11_oddsOf 3 = .ok (.iconst 0, 1) := by decide +kernel
theorem dX11_oddsOf_4 : decode cX11_oddsOf 4 = .ok (.istore 7, 2) := by decide +kernel
theorem dX11_oddsOf_6 : decode cX11_oddsOf 6 = .ok (.iload 7, 2) := by decide +kernel
theorem dX11_oddsOf_8 : decode cX11_oddsOf 8 = .ok (.aload_n 0, 1) := by decide +kernel
theorem dX11_oddsOf_9 : decode cX11_oddsOf 9 = .ok (.getfield 227, 3) := by decide +kernel
theorem dX11_oddsOf_12 : decode cX11_oddsOf 12 = .ok (.if_icmp .ge 67, 3) := by decide +kernel
theorem dX11_oddsOf_15 : decode cX11_oddsOf 15 = .ok (.lload 5, 2) := by decide +kernel
theorem dX11_oddsOf_17 : decode cX11_oddsOf 17 = .ok (.aload_n 0, 1) := by decide +kernel
theorem dX11_oddsOf_18 : decode cX11_oddsOf 18 = .ok (.iload 7, 2) := by decide +kernel
theorem dX11_oddsOf_20 : decode cX11_oddsOf 20 = .ok (.invokevirtual 330, 3) := by decide +kernel
theorem dX11_oddsOf_23 : decode cX11_oddsOf 23 = .ok (.ifCond .eq 46, 3) := by decide +kernel
theorem dX11_oddsOf_26 : decode cX11_oddsOf 26 = .ok (.aload_n 0, 1) := by decide +kernel
theorem dX11_oddsOf_27 : decode cX11_oddsOf 27 = .ok (.aload_n 0, 1) := by decide +kernel
theorem dX11_oddsOf_28 : decode cX11_oddsOf 28 = .ok (.getfield 233, 3) := by decide +kernel
theorem dX11_oddsOf_31 : decode cX11_oddsOf 31 = .ok (.iload 7, 2) := by decide +kernel
theorem dX11_oddsOf_33 : decode cX11_oddsOf 33 = .ok (.iaload, 1) := by decide +kernel
theorem dX11_oddsOf_34 : decode cX11_oddsOf 34 = .ok (.iload_n 1, 1) := by decide +kernel
theorem dX11_oddsOf_35 : decode cX11_oddsOf 35 = .ok (.invokevirtual 218, 3) := by decide +kernel
theorem dX11_oddsOf_38 : decode cX11_oddsOf 38 = .ok (.iload_n 2, 1) := by decide +kernel
theorem dX11_oddsOf_39 : decode cX11_oddsOf 39 = .ok (.if_icmp .ne 30, 3) := by decide +kernel
theorem dX11_oddsOf_42 : decode cX11_oddsOf 42 = .ok (.aload_n 0, 1) := by decide +kernel
theorem dX11_oddsOf_43 : decode cX11_oddsOf 43 = .ok (.aload_n 0, 1) := by decide +kernel
theorem dX11_oddsOf_44 : decode cX11_oddsOf 44 = .ok (.getfield 233, 3) := by decide +kernel
theorem dX11_oddsOf_47 : decode cX11_oddsOf 47 = .ok (.iload 7, 2) := by decide +kernel
theorem dX11_oddsOf_49 : decode cX11_oddsOf 49 = .ok (.iaload, 1) := by decide +kernel
theorem dX11_oddsOf_50 : decode cX11_oddsOf 50 = .ok (.iload_n 3, 1) := by decide +kernel
theorem dX11_oddsOf_51 : decode cX11_oddsOf 51 = .ok (.invokevirtual 218, 3) := by decide +kernel
theorem dX11_oddsOf_54 : decode cX11_oddsOf 54 = .ok (.iload 4, 2) := by decide +kernel
theorem dX11_oddsOf_56 : decode cX11_oddsOf 56 = .ok (.if_icmp .ne 13, 3) := by decide +kernel
theorem dX11_oddsOf_59 : decode cX11_oddsOf 59 = .ok (.aload_n 0, 1) := by decide +kernel
theorem dX11_oddsOf_60 : decode cX11_oddsOf 60 = .ok (.getfield 316, 3) := by decide +kernel
theorem dX11_oddsOf_63 : decode cX11_oddsOf 63 = .ok (.iload 7, 2) := by decide +kernel
theorem dX11_oddsOf_65 : decode cX11_oddsOf 65 = .ok (.laload, 1) := by decide +kernel
theorem dX11_oddsOf_66 : decode cX11_oddsOf 66 = .ok (.goto 4, 3) := by decide +kernel
theorem dX11_oddsOf_69 : decode cX11_oddsOf 69 = .ok (.lconst 0, 1) := by decide +kernel
theorem dX11_oddsOf_70 : decode cX11_oddsOf 70 = .ok (.ladd, 1) := by decide +kernel
theorem dX11_oddsOf_71 : decode cX11_oddsOf 71 = .ok (.lstore 5, 2) := by decide +kernel
theorem dX11_oddsOf_73 : decode cX11_oddsOf 73 = .ok (.iinc 7 1, 3) := by decide +kernel
theorem dX11_oddsOf_76 : decode cX11_oddsOf 76 = .ok (.goto (-70), 3) := by decide +kernel
theorem dX11_oddsOf_79 : decode cX11_oddsOf 79 = .ok (.lload 5, 2) := by decide +kernel
theorem dX11_oddsOf_81 : decode cX11_oddsOf 81 = .ok (.ldc2_w 279, 3) := by decide +kernel
theorem dX11_oddsOf_84 : decode cX11_oddsOf 84 = .ok (.lrem, 1) := by decide +kernel
theorem dX11_oddsOf_85 : decode cX11_oddsOf 85 = .ok (.aload_n 0, 1) := by decide +kernel
theorem dX11_oddsOf_86 : decode cX11_oddsOf 86 = .ok (.invokevirtual 347, 3) := by decide +kernel
theorem dX11_oddsOf_89 : decode cX11_oddsOf 89 = .ok (.invokestatic 289, 3) := by decide +kernel
theorem dX11_oddsOf_92 : decode cX11_oddsOf 92 = .ok (.lmul, 1) := by decide +kernel
theorem dX11_oddsOf_93 : decode cX11_oddsOf 93 = .ok (.ldc2_w 279, 3) := by decide +kernel
theorem dX11_oddsOf_96 : decode cX11_oddsOf 96 = .ok (.lrem, 1) := by decide +kernel
theorem dX11_oddsOf_97 : decode cX11_oddsOf 97 = .ok (.lreturn, 1) := by decide +kernel
theorem dX11_oddsAlone_0 : decode cX11_oddsAlone 0 = .ok (.aload_n 0, 1) := by decide +kernel
theorem dX11_oddsAlone_1 : decode cX11_oddsAlone 1 = .ok (.iload_n 1, 1) := by decide +kernel
theorem dX11_oddsAlone_2 : decode cX11_oddsAlone 2 = .ok (.iload_n 2, 1) := by decide +kernel
theorem dX11_oddsAlone_3 : decode cX11_oddsAlone 3 = .ok (.iload_n 1, 1) := by decide +kernel
theorem dX11_oddsAlone_4 : decode cX11_oddsAlone 4 = .ok (.iload_n 2, 1) := by decide +kernel
theorem dX11_oddsAlone_5 : decode cX11_oddsAlone 5 = .ok (.invokevirtual 357, 3) := by decide +kernel
theorem dX11_oddsAlone_8 : decode cX11_oddsAlone 8 = .ok (.lreturn, 1) := by decide +kernel
theorem dX11_value_0 : decode cX11_value 0 = .ok (.aload_n 0, 1) := by decide +kernel
theorem dX11_value_1 : decode cX11_value 1 = .ok (.iconst 0, 1) := by decide +kernel
theorem dX11_value_2 : decode cX11_value 2 = .ok (.putfield 1, 3) := by decide +kernel
theorem dX11_value_5 : decode cX11_value 5 = .ok (.aload_n 0, 1) := by decide +kernel
theorem dX11_value_6 : decode cX11_value 6 = .ok (.invokevirtual 335, 3) := by decide +kernel
theorem dX11_value_9 : decode cX11_value 9 = .ok (.ifCond .eq 58, 3) := by decide +kernel
theorem dX11_value_12 : decode cX11_value 12 = .ok (.aload_n 0, 1) := by decide +kernel
theorem dX11_value_13 : decode cX11_value 13 = .ok (.aload_n 0, 1) := by decide +kernel
theorem dX11_value_14 : decode cX11_value 14 = .ok (.iload_n 1, 1) := by decide +kernel
theorem dX11_value_15 : decode cX11_value 15 = .ok (.invokevirtual 195, 3) := by decide +kernel
theorem dX11_value_18 : decode cX11_value 18 = .ok (.iconst 2, 1) := by decide +kernel
theorem dX11_value_19 : decode cX11_value 19 = .ok (.iconst 0, 1) := by decide +kernel
theorem dX11_value_20 : decode cX11_value 20 = .ok (.invokevirtual 161, 3) := by decide +kernel
theorem dX11_value_23 : decode cX11_value 23 = .ok (.ifCond .eq 44, 3) := by decide +kernel
theorem dX11_value_26 : decode cX11_value 26 = .ok (.aload_n 0, 1) := by decide +kernel
theorem dX11_value_27 : decode cX11_value 27 = .ok (.iload_n 2, 1) := by decide +kernel
theorem dX11_value_28 : decode cX11_value 28 = .ok (.i2l, 1) := by decide +kernel
theorem dX11_value_29 : decode cX11_value 29 = .ok (.lconst 0, 1) := by decide +kernel
theorem dX11_value_30 : decode cX11_value 30 = .ok (.ldc2_w 198, 3) := by decide +kernel
theorem dX11_value_33 : decode cX11_value 33 = .ok (.invokestatic 157, 3) := by decide +kernel
theorem dX11_value_36 : decode cX11_value 36 = .ok (.ifCond .eq 15, 3) := by decide +kernel
theorem dX11_value_39 : decode cX11_value 39 = .ok (.aload_n 0, 1) := by decide +kernel
theorem dX11_value_40 : decode cX11_value 40 = .ok (.iload_n 3, 1) := by decide +kernel
theorem dX11_value_41 : decode cX11_value 41 = .ok (.invokevirtual 341, 3) := by decide +kernel
theorem dX11_value_44 : decode cX11_value 44 = .ok (.ifCond .eq 7, 3) := by decide +kernel
theorem dX11_value_47 : decode cX11_value 47 = .ok (.iconst 1, 1) := by decide +kernel
theorem dX11_value_48 : decode cX11_value 48 = .ok (.goto 4, 3) := by decide +kernel
theorem dX11_value_51 : decode cX11_value 51 = .ok (.iconst 0, 1) := by decide +kernel
theorem dX11_value_52 : decode cX11_value 52 = .ok (.iconst 3, 1) := by decide +kernel
theorem dX11_value_53 : decode cX11_value 53 = .ok (.iconst 1, 1) := by decide +kernel
theorem dX11_value_54 : decode cX11_value 54 = .ok (.invokevirtual 161, 3) := by decide +kernel
theorem dX11_value_57 : decode cX11_value 57 = .ok (.ifCond .eq 10, 3) := by decide +kernel
theorem dX11_value_60 : decode cX11_value 60 = .ok (.aload_n 0, 1) := by decide +kernel
theorem dX11_value_61 : decode cX11_value 61 = .ok (.invokevirtual 361, 3) := by decide +kernel
theorem dX11_value_64 : decode cX11_value 64 = .ok (.ifCond .ne 5, 3) := by decide +kernel
theorem dX11_value_67 : decode cX11_value 67 = .ok (.iconst 0, 1) := by decide +kernel
theorem dX11_value_68 : decode cX11_value 68 = .ok (.ireturn, 1) := by decide +kernel
theorem dX11_value_69 : decode cX11_value 69 = .ok (.aload_n 0, 1) := by decide +kernel
theorem dX11_value_70 : decode cX11_value 70 = .ok (.invokevirtual 364, 3) := by decide +kernel
theorem dX11_value_73 : decode cX11_value 73 = .ok (.ifCond .eq 16, 3) := by decide +kernel
theorem dX11_value_76 : decode cX11_value 76 = .ok (.aload_n 0, 1) := by decide +kernel
theorem dX11_value_77 : decode cX11_value 77 = .ok (.iload_n 1, 1) := by decide +kernel
theorem dX11_value_78 : decode cX11_value 78 = .ok (.iload_n 2, 1) := by decide +kernel
theorem dX11_value_79 : decode cX11_value 79 = .ok (.invokevirtual 367, 3) := by decide +kernel
theorem dX11_value_82 : decode cX11_value 82 = .ok (.iload_n 3, 1) := by decide +kernel
theorem dX11_value_83 : decode cX11_value 83 = .ok (.invokestatic 353, 3) := by decide +kernel
theorem dX11_value_86 : decode cX11_value 86 = .ok (.goto 5, 3) := by decide +kernel
theorem dX11_value_89 : decode cX11_value 89 = .ok (.bipush (-3), 2) := by decide +kernel
theorem dX11_value_91 : decode cX11_value 91 = .ok (.ireturn, 1) := by decide +kernel
theorem dX11_both_0 : decode cX11_both 0 = .ok (.aload_n 0, 1) := by decide +kernel
theorem dX11_both_1 : decode cX11_both 1 = .ok (.iconst 0, 1) := by decide +kernel
theorem dX11_both_2 : decode cX11_both 2 = .ok (.putfield 1, 3) := by decide +kernel
theorem dX11_both_5 : decode cX11_both 5 = .ok (.aload_n 0, 1) := by decide +kernel
theorem dX11_both_6 : decode cX11_both 6 = .ok (.invokevirtual 335, 3) := by decide +kernel
theorem dX11_both_9 : decode cX11_both 9 = .ok (.ifCond .eq 88, 3) := by decide +kernel
theorem dX11_both_12 : decode cX11_both 12 = .ok (.aload_n 0, 1) := by decide +kernel
theorem dX11_both_13 : decode cX11_both 13 = .ok (.aload_n 0, 1) := by decide +kernel
theorem dX11_both_14 : decode cX11_both 14 = .ok (.iload_n 1, 1) := by decide +kernel
theorem dX11_both_15 : decode cX11_both 15 = .ok (.invokevirtual 195, 3) := by decide +kernel
theorem dX11_both_18 : decode cX11_both 18 = .ok (.ifCond .eq 15, 3) := by decide +kernel
theorem dX11_both_21 : decode cX11_both 21 = .ok (.aload_n 0, 1) := by decide +kernel
theorem dX11_both_22 : decode cX11_both 22 = .ok (.iload_n 3, 1) := by decide +kernel
theorem dX11_both_23 : decode cX11_both 23 = .ok (.invokevirtual 195, 3) := by decide +kernel
theorem dX11_both_26 : decode cX11_both 26 = .ok (.ifCond .eq 7, 3) := by decide +kernel
theorem dX11_both_29 : decode cX11_both 29 = .ok (.iconst 1, 1) := by decide +kernel
theorem dX11_both_30 : decode cX11_both 30 = .ok (.goto 4, 3) := by decide +kernel
theorem dX11_both_33 : decode cX11_both 33 = .ok (.iconst 0, 1) := by decide +kernel
theorem dX11_both_34 : decode cX11_both 34 = .ok (.iconst 2, 1) := by decide +kernel
theorem dX11_both_35 : decode cX11_both 35 = .ok (.iconst 0, 1) := by decide +kernel
theorem dX11_both_36 : decode cX11_both 36 = .ok (.invokevirtual 161, 3) := by decide +kernel
theorem dX11_both_39 : decode cX11_both 39 = .ok (.ifCond .eq 58, 3) := by decide +kernel
theorem dX11_both_42 : decode cX11_both 42 = .ok (.aload_n 0, 1) := by decide +kernel
theorem dX11_both_43 : decode cX11_both 43 = .ok (.iload_n 2, 1) := by decide +kernel
theorem dX11_both_44 : decode cX11_both 44 = .ok (.i2l, 1) := by decide +kernel
theorem dX11_both_45 : decode cX11_both 45 = .ok (.lconst 0, 1) := by decide +kernel
theorem dX11_both_46 : decode cX11_both 46 = .ok (.ldc2_w 198, 3) := by decide +kernel
theorem dX11_both_49 : decode cX11_both 49 = .ok (.invokestatic 157, 3) := by decide +kernel
theorem dX11_both_52 : decode cX11_both 52 = .ok (.ifCond .eq 29, 3) := by decide +kernel
theorem dX11_both_55 : decode cX11_both 55 = .ok (.iload 4, 2) := by decide +kernel
theorem dX11_both_57 : decode cX11_both 57 = .ok (.i2l, 1) := by decide +kernel
theorem dX11_both_58 : decode cX11_both 58 = .ok (.lconst 0, 1) := by decide +kernel
theorem dX11_both_59 : decode cX11_both 59 = .ok (.ldc2_w 198, 3) := by decide +kernel
theorem dX11_both_62 : decode cX11_both 62 = .ok (.invokestatic 157, 3) := by decide +kernel
theorem dX11_both_65 : decode cX11_both 65 = .ok (.ifCond .eq 16, 3) := by decide +kernel
theorem dX11_both_68 : decode cX11_both 68 = .ok (.aload_n 0, 1) := by decide +kernel
theorem dX11_both_69 : decode cX11_both 69 = .ok (.iload 5, 2) := by decide +kernel
theorem dX11_both_71 : decode cX11_both 71 = .ok (.invokevirtual 341, 3) := by decide +kernel
theorem dX11_both_74 : decode cX11_both 74 = .ok (.ifCond .eq 7, 3) := by decide +kernel
theorem dX11_both_77 : decode cX11_both 77 = .ok (.iconst 1, 1) := by decide +kernel
theorem dX11_both_78 : decode cX11_both 78 = .ok (.goto 4, 3) := by decide +kernel
theorem dX11_both_81 : decode cX11_both 81 = .ok (.iconst 0, 1) := by decide +kernel
theorem dX11_both_82 : decode cX11_both 82 = .ok (.iconst 3, 1) := by decide +kernel
theorem dX11_both_83 : decode cX11_both 83 = .ok (.iconst 1, 1) := by decide +kernel
theorem dX11_both_84 : decode cX11_both 84 = .ok (.invokevirtual 161, 3) := by decide +kernel
theorem dX11_both_87 : decode cX11_both 87 = .ok (.ifCond .eq 10, 3) := by decide +kernel
theorem dX11_both_90 : decode cX11_both 90 = .ok (.aload_n 0, 1) := by decide +kernel
theorem dX11_both_91 : decode cX11_both 91 = .ok (.invokevirtual 361, 3) := by decide +kernel
theorem dX11_both_94 : decode cX11_both 94 = .ok (.ifCond .ne 5, 3) := by decide +kernel
theorem dX11_both_97 : decode cX11_both 97 = .ok (.iconst 0, 1) := by decide +kernel
theorem dX11_both_98 : decode cX11_both 98 = .ok (.ireturn, 1) := by decide +kernel
theorem dX11_both_99 : decode cX11_both 99 = .ok (.aload_n 0, 1) := by decide +kernel
theorem dX11_both_100 : decode cX11_both 100 = .ok (.invokevirtual 364, 3) := by decide +kernel
theorem dX11_both_103 : decode cX11_both 103 = .ok (.ifCond .eq 20, 3) := by decide +kernel
theorem dX11_both_106 : decode cX11_both 106 = .ok (.aload_n 0, 1) := by decide +kernel
theorem dX11_both_107 : decode cX11_both 107 = .ok (.iload_n 1, 1) := by decide +kernel
theorem dX11_both_108 : decode cX11_both 108 = .ok (.iload_n 2, 1) := by decide +kernel
theorem dX11_both_109 : decode cX11_both 109 = .ok (.iload_n 3, 1) := by decide +kernel
theorem dX11_both_110 : decode cX11_both 110 = .ok (.iload 4, 2) := by decide +kernel
theorem dX11_both_112 : decode cX11_both 112 = .ok (.invokevirtual 357, 3) := by decide +kernel
theorem dX11_both_115 : decode cX11_both 115 = .ok (.iload 5, 2) := by decide +kernel
theorem dX11_both_117 : decode cX11_both 117 = .ok (.invokestatic 353, 3) := by decide +kernel
theorem dX11_both_120 : decode cX11_both 120 = .ok (.goto 5, 3) := by decide +kernel
theorem dX11_both_123 : decode cX11_both 123 = .ok (.bipush (-3), 2) := by decide +kernel
theorem dX11_both_125 : decode cX11_both 125 = .ok (.ireturn, 1) := by decide +kernel
theorem dX11_mean_0 : decode cX11_mean 0 = .ok (.aload_n 0, 1) := by decide +kernel
theorem dX11_mean_1 : decode cX11_mean 1 = .ok (.iconst 0, 1) := by decide +kernel
theorem dX11_mean_2 : decode cX11_mean 2 = .ok (.putfield 1, 3) := by decide +kernel
theorem dX11_mean_5 : decode cX11_mean 5 = .ok (.aload_n 0, 1) := by decide +kernel
theorem dX11_mean_6 : decode cX11_mean 6 = .ok (.invokevirtual 335, 3) := by decide +kernel
theorem dX11_mean_9 : decode cX11_mean 9 = .ok (.ifCond .eq 38, 3) := by decide +kernel
theorem dX11_mean_12 : decode cX11_mean 12 = .ok (.aload_n 0, 1) := by decide +kernel
theorem dX11_mean_13 : decode cX11_mean 13 = .ok (.aload_n 0, 1) := by decide +kernel
theorem dX11_mean_14 : decode cX11_mean 14 = .ok (.iload_n 1, 1) := by decide +kernel
theorem dX11_mean_15 : decode cX11_mean 15 = .ok (.invokevirtual 195, 3) := by decide +kernel
theorem dX11_mean_18 : decode cX11_mean 18 = .ok (.iconst 2, 1) := by decide +kernel
theorem dX11_mean_19 : decode cX11_mean 19 = .ok (.iconst 0, 1) := by decide +kernel
theorem dX11_mean_20 : decode cX11_mean 20 = .ok (.invokevirtual 161, 3) := by decide +kernel
theorem dX11_mean_23 : decode cX11_mean 23 = .ok (.ifCond .eq 24, 3) := by decide +kernel
theorem dX11_mean_26 : decode cX11_mean 26 = .ok (.aload_n 0, 1) := by decide +kernel
theorem dX11_mean_27 : decode cX11_mean 27 = .ok (.aload_n 0, 1) := by decide +kernel
theorem dX11_mean_28 : decode cX11_mean 28 = .ok (.iload_n 2, 1) := by decide +kernel
theorem dX11_mean_29 : decode cX11_mean 29 = .ok (.invokevirtual 341, 3) := by decide +kernel
theorem dX11_mean_32 : decode cX11_mean 32 = .ok (.iconst 3, 1) := by decide +kernel
theorem dX11_mean_33 : decode cX11_mean 33 = .ok (.iconst 1, 1) := by decide +kernel
theorem dX11_mean_34 : decode cX11_mean 34 = .ok (.invokevirtual 161, 3) := by decide +kernel
theorem dX11_mean_37 : decode cX11_mean 37 = .ok (.ifCond .eq 10, 3) := by decide +kernel
theorem dX11_mean_40 : decode cX11_mean 40 = .ok (.aload_n 0, 1) := by decide +kernel
theorem dX11_mean_41 : decode cX11_mean 41 = .ok (.invokevirtual 361, 3) := by decide +kernel
theorem dX11_mean_44 : decode cX11_mean 44 = .ok (.ifCond .ne 5, 3) := by decide +kernel
theorem dX11_mean_47 : decode cX11_mean 47 = .ok (.iconst 0, 1) := by decide +kernel
theorem dX11_mean_48 : decode cX11_mean 48 = .ok (.ireturn, 1) := by decide +kernel
theorem dX11_mean_49 : decode cX11_mean 49 = .ok (.aload_n 0, 1) := by decide +kernel
theorem dX11_mean_50 : decode cX11_mean 50 = .ok (.invokevirtual 364, 3) := by decide +kernel
theorem dX11_mean_53 : decode cX11_mean 53 = .ok (.ifCond .ne 6, 3) := by decide +kernel
theorem dX11_mean_56 : decode cX11_mean 56 = .ok (.bipush (-3), 2) := by decide +kernel
theorem dX11_mean_58 : decode cX11_mean 58 = .ok (.ireturn, 1) := by decide +kernel
theorem dX11_mean_59 : decode cX11_mean 59 = .ok (.lconst 0, 1) := by decide +kernel
theorem dX11_mean_60 : decode cX11_mean 60 = .ok (.lstore_n 3, 1) := by decide +kernel
theorem dX11_mean_61 : decode cX11_mean 61 = .ok (.iconst 1, 1) := by decide +kernel
theorem dX11_mean_62 : decode cX11_mean 62 = .ok (.istore 5, 2) := by decide +kernel
theorem dX11_mean_64 : decode cX11_mean 64 = .ok (.iload 5, 2) := by decide +kernel
theorem dX11_mean_66 : decode cX11_mean 66 = .ok (.bipush 10, 2) := by decide +kernel
theorem dX11_mean_68 : decode cX11_mean 68 = .ok (.if_icmp .ge 23, 3) := by decide +kernel
theorem dX11_mean_71 : decode cX11_mean 71 = .ok (.lload_n 3, 1) := by decide +kernel
theorem dX11_mean_72 : decode cX11_mean 72 = .ok (.iload 5, 2) := by decide +kernel
theorem dX11_mean_74 : decode cX11_mean 74 = .ok (.i2l, 1) := by decide +kernel
theorem dX11_mean_75 : decode cX11_mean 75 = .ok (.aload_n 0, 1) := by decide +kernel
theorem dX11_mean_76 : decode cX11_mean 76 = .ok (.iload_n 1, 1) := by decide +kernel
theorem dX11_mean_77 : decode cX11_mean 77 = .ok (.iload 5, 2) := by decide +kernel
theorem dX11_mean_79 : decode cX11_mean 79 = .ok (.invokevirtual 367, 3) := by decide +kernel
theorem dX11_mean_82 : decode cX11_mean 82 = .ok (.lmul, 1) := by decide +kernel
theorem dX11_mean_83 : decode cX11_mean 83 = .ok (.ladd, 1) := by decide +kernel
theorem dX11_mean_84 : decode cX11_mean 84 = .ok (.lstore_n 3, 1) := by decide +kernel
theorem dX11_mean_85 : decode cX11_mean 85 = .ok (.iinc 5 1, 3) := by decide +kernel
theorem dX11_mean_88 : decode cX11_mean 88 = .ok (.goto (-24), 3) := by decide +kernel
theorem dX11_mean_91 : decode cX11_mean 91 = .ok (.lload_n 3, 1) := by decide +kernel
theorem dX11_mean_92 : decode cX11_mean 92 = .ok (.ldc2_w 279, 3) := by decide +kernel
theorem dX11_mean_95 : decode cX11_mean 95 = .ok (.lrem, 1) := by decide +kernel
theorem dX11_mean_96 : decode cX11_mean 96 = .ok (.iload_n 2, 1) := by decide +kernel
theorem dX11_mean_97 : decode cX11_mean 97 = .ok (.invokestatic 353, 3) := by decide +kernel
theorem dX11_mean_100 : decode cX11_mean 100 = .ok (.ireturn, 1) := by decide +kernel
theorem dX11_independent_0 : decode cX11_independent 0 = .ok (.aload_n 0, 1) := by decide +kernel
theorem dX11_independent_1 : decode cX11_independent 1 = .ok (.iconst 0, 1) := by decide +kernel
theorem dX11_independent_2 : decode cX11_independent 2 = .ok (.putfield 1, 3) := by decide +kernel
theorem dX11_independent_5 : decode cX11_independent 5 = .ok (.aload_n 0, 1) := by decide +kernel
theorem dX11_independent_6 : decode cX11_independent 6 = .ok (.invokevirtual 335, 3) := by decide +kernel
theorem dX11_independent_9 : decode cX11_independent 9 = .ok (.ifCond .eq 40, 3) := by decide +kernel
theorem dX11_independent_12 : decode cX11_independent 12 = .ok (.aload_n 0, 1) := by decide +kernel
theorem dX11_independent_13 : decode cX11_independent 13 = .ok (.aload_n 0, 1) := by decide +kernel
theorem dX11_independent_14 : decode cX11_independent 14 = .ok (.iload_n 1, 1) := by decide +kernel
theorem dX11_independent_15 : decode cX11_independent 15 = .ok (.invokevirtual 195, 3) := by decide +kernel
theorem dX11_independent_18 : decode cX11_independent 18 = .ok (.ifCond .eq 15, 3) := by decide +kernel
theorem dX11_independent_21 : decode cX11_independent 21 = .ok (.aload_n 0, 1) := by decide +kernel
theorem dX11_independent_22 : decode cX11_independent 22 = .ok (.iload_n 2, 1) := by decide +kernel
theorem dX11_independent_23 : decode cX11_independent 23 = .ok (.invokevirtual 195, 3) := by decide +kernel
theorem dX11_independent_26 : decode cX11_independent 26 = .ok (.ifCond .eq 7, 3) := by decide +kernel
theorem dX11_independent_29 : decode cX11_independent 29 = .ok (.iconst 1, 1) := by decide +kernel
theorem dX11_independent_30 : decode cX11_independent 30 = .ok (.goto 4, 3) := by decide +kernel
theorem dX11_independent_33 : decode cX11_independent 33 = .ok (.iconst 0, 1) := by decide +kernel
theorem dX11_independent_34 : decode cX11_independent 34 = .ok (.iconst 2, 1) := by decide +kernel
theorem dX11_independent_35 : decode cX11_independent 35 = .ok (.iconst 0, 1) := by decide +kernel
theorem dX11_independent_36 : decode cX11_independent 36 = .ok (.invokevirtual 161, 3) := by decide +kernel
theorem dX11_independent_39 : decode cX11_independent 39 = .ok (.ifCond .eq 10, 3) := by decide +kernel
theorem dX11_independent_42 : decode cX11_independent 42 = .ok (.aload_n 0, 1) := by decide +kernel
theorem dX11_independent_43 : decode cX11_independent 43 = .ok (.invokevirtual 361, 3) := by decide +kernel
theorem dX11_independent_46 : decode cX11_independent 46 = .ok (.ifCond .ne 5, 3) := by decide +kernel
theorem dX11_independent_49 : decode cX11_independent 49 = .ok (.iconst 0, 1) := by decide +kernel
theorem dX11_independent_50 : decode cX11_independent 50 = .ok (.ireturn, 1) := by decide +kernel
theorem dX11_independent_51 : decode cX11_independent 51 = .ok (.aload_n 0, 1) := by decide +kernel
theorem dX11_independent_52 : decode cX11_independent 52 = .ok (.invokevirtual 364, 3) := by decide +kernel
theorem dX11_independent_55 : decode cX11_independent 55 = .ok (.ifCond .ne 6, 3) := by decide +kernel
theorem dX11_independent_58 : decode cX11_independent 58 = .ok (.bipush (-3), 2) := by decide +kernel
theorem dX11_independent_60 : decode cX11_independent 60 = .ok (.ireturn, 1) := by decide +kernel
theorem dX11_independent_61 : decode cX11_independent 61 = .ok (.iconst 0, 1) := by decide +kernel
theorem dX11_independent_62 : decode cX11_independent 62 = .ok (.istore_n 3, 1) := by decide +kernel
theorem dX11_independent_63 : decode cX11_independent 63 = .ok (.iload_n 3, 1) := by decide +kernel
theorem dX11_independent_64 : decode cX11_independent 64 = .ok (.bipush 10, 2) := by decide +kernel
theorem dX11_independent_66 : decode cX11_independent 66 = .ok (.if_icmp .ge 58, 3) := by decide +kernel
theorem dX11_independent_69 : decode cX11_independent 69 = .ok (.iconst 0, 1) := by decide +kernel
theorem dX11_independent_70 : decode cX11_independent 70 = .ok (.istore 4, 2) := by decide +kernel
theorem dX11_independent_72 : decode cX11_independent 72 = .ok (.iload 4, 2) := by decide +kernel
theorem dX11_independent_74 : decode cX11_independent 74 = .ok (.bipush 10, 2) := by decide +kernel
theorem dX11_independent_76 : decode cX11_independent 76 = .ok (.if_icmp .ge 42, 3) := by decide +kernel
theorem dX11_independent_79 : decode cX11_independent 79 = .ok (.aload_n 0, 1) := by decide +kernel
theorem dX11_independent_80 : decode cX11_independent 80 = .ok (.iload_n 1, 1) := by decide +kernel
theorem dX11_independent_81 : decode cX11_independent 81 = .ok (.iload_n 3, 1) := by decide +kernel
theorem dX11_independent_82 : decode cX11_independent 82 = .ok (.iload_n 2, 1) := by decide +kernel
theorem dX11_independent_83 : decode cX11_independent 83 = .ok (.iload 4, 2) := by decide +kernel
theorem dX11_independent_85 : decode cX11_independent 85 = .ok (.invokevirtual 357, 3) := by decide +kernel
theorem dX11_independent_88 : decode cX11_independent 88 = .ok (.aload_n 0, 1) := by decide +kernel
theorem dX11_independent_89 : decode cX11_independent 89 = .ok (.iload_n 1, 1) := by decide +kernel
theorem dX11_independent_90 : decode cX11_independent 90 = .ok (.iload_n 3, 1) := by decide +kernel
theorem dX11_independent_91 : decode cX11_independent 91 = .ok (.invokevirtual 367, 3) := by decide +kernel
theorem dX11_independent_94 : decode cX11_independent 94 = .ok (.aload_n 0, 1) := by decide +kernel
