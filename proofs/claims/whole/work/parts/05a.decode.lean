theorem dX0_init_0 : decode cX0_init 0 = .ok (.aload_n 0, 1) := by decide +kernel
theorem dX0_init_1 : decode cX0_init 1 = .ok (.invokespecial 3, 3) := by decide +kernel
theorem dX0_init_4 : decode cX0_init 4 = .ok (.aload_n 0, 1) := by decide +kernel
theorem dX0_init_5 : decode cX0_init 5 = .ok (.bipush 12, 2) := by decide +kernel
theorem dX0_init_7 : decode cX0_init 7 = .ok (.newarray .int, 2) := by decide +kernel
theorem dX0_init_9 : decode cX0_init 9 = .ok (.putfield 9, 3) := by decide +kernel
theorem dX0_init_12 : decode cX0_init 12 = .ok (.aload_n 0, 1) := by decide +kernel
theorem dX0_init_13 : decode cX0_init 13 = .ok (.bipush 12, 2) := by decide +kernel
theorem dX0_init_15 : decode cX0_init 15 = .ok (.newarray .int, 2) := by decide +kernel
theorem dX0_init_17 : decode cX0_init 17 = .ok (.putfield 15, 3) := by decide +kernel
theorem dX0_init_20 : decode cX0_init 20 = .ok (.return_, 1) := by decide +kernel
theorem dX0_keep_0 : decode cX0_keep 0 = .ok (.aload_n 0, 1) := by decide +kernel
theorem dX0_keep_1 : decode cX0_keep 1 = .ok (.getfield 18, 3) := by decide +kernel
theorem dX0_keep_4 : decode cX0_keep 4 = .ok (.bipush 12, 2) := by decide +kernel
theorem dX0_keep_6 : decode cX0_keep 6 = .ok (.if_icmp .ne 43, 3) := by decide +kernel
theorem dX0_keep_9 : decode cX0_keep 9 = .ok (.aload_n 0, 1) := by decide +kernel
theorem dX0_keep_10 : decode cX0_keep 10 = .ok (.getfield 9, 3) := by decide +kernel
theorem dX0_keep_13 : decode cX0_keep 13 = .ok (.iconst 1, 1) := by decide +kernel
theorem dX0_keep_14 : decode cX0_keep 14 = .ok (.aload_n 0, 1) := by decide +kernel
theorem dX0_keep_15 : decode cX0_keep 15 = .ok (.getfield 9, 3) := by decide +kernel
theorem dX0_keep_18 : decode cX0_keep 18 = .ok (.iconst 0, 1) := by decide +kernel
theorem dX0_keep_19 : decode cX0_keep 19 = .ok (.bipush 11, 2) := by decide +kernel
theorem dX0_keep_21 : decode cX0_keep 21 = .ok (.invokestatic 22, 3) := by decide +kernel
theorem dX0_keep_24 : decode cX0_keep 24 = .ok (.aload_n 0, 1) := by decide +kernel
theorem dX0_keep_25 : decode cX0_keep 25 = .ok (.getfield 15, 3) := by decide +kernel
theorem dX0_keep_28 : decode cX0_keep 28 = .ok (.iconst 1, 1) := by decide +kernel
theorem dX0_keep_29 : decode cX0_keep 29 = .ok (.aload_n 0, 1) := by decide +kernel
theorem dX0_keep_30 : decode cX0_keep 30 = .ok (.getfield 15, 3) := by decide +kernel
theorem dX0_keep_33 : decode cX0_keep 33 = .ok (.iconst 0, 1) := by decide +kernel
theorem dX0_keep_34 : decode cX0_keep 34 = .ok (.bipush 11, 2) := by decide +kernel
theorem dX0_keep_36 : decode cX0_keep 36 = .ok (.invokestatic 22, 3) := by decide +kernel
theorem dX0_keep_39 : decode cX0_keep 39 = .ok (.aload_n 0, 1) := by decide +kernel
theorem dX0_keep_40 : decode cX0_keep 40 = .ok (.dup, 1) := by decide +kernel
theorem dX0_keep_41 : decode cX0_keep 41 = .ok (.getfield 18, 3) := by decide +kernel
theorem dX0_keep_44 : decode cX0_keep 44 = .ok (.iconst 1, 1) := by decide +kernel
theorem dX0_keep_45 : decode cX0_keep 45 = .ok (.isub, 1) := by decide +kernel
theorem dX0_keep_46 : decode cX0_keep 46 = .ok (.putfield 18, 3) := by decide +kernel
theorem dX0_keep_49 : decode cX0_keep 49 = .ok (.aload_n 0, 1) := by decide +kernel
theorem dX0_keep_50 : decode cX0_keep 50 = .ok (.getfield 9, 3) := by decide +kernel
theorem dX0_keep_53 : decode cX0_keep 53 = .ok (.aload_n 0, 1) := by decide +kernel
theorem dX0_keep_54 : decode cX0_keep 54 = .ok (.getfield 18, 3) := by decide +kernel
theorem dX0_keep_57 : decode cX0_keep 57 = .ok (.iload_n 1, 1) := by decide +kernel
theorem dX0_keep_58 : decode cX0_keep 58 = .ok (.iastore, 1) := by decide +kernel
theorem dX0_keep_59 : decode cX0_keep 59 = .ok (.aload_n 0, 1) := by decide +kernel
theorem dX0_keep_60 : decode cX0_keep 60 = .ok (.getfield 15, 3) := by decide +kernel
theorem dX0_keep_63 : decode cX0_keep 63 = .ok (.aload_n 0, 1) := by decide +kernel
theorem dX0_keep_64 : decode cX0_keep 64 = .ok (.getfield 18, 3) := by decide +kernel
theorem dX0_keep_67 : decode cX0_keep 67 = .ok (.iload_n 2, 1) := by decide +kernel
theorem dX0_keep_68 : decode cX0_keep 68 = .ok (.iastore, 1) := by decide +kernel
theorem dX0_keep_69 : decode cX0_keep 69 = .ok (.aload_n 0, 1) := by decide +kernel
theorem dX0_keep_70 : decode cX0_keep 70 = .ok (.dup, 1) := by decide +kernel
theorem dX0_keep_71 : decode cX0_keep 71 = .ok (.getfield 18, 3) := by decide +kernel
theorem dX0_keep_74 : decode cX0_keep 74 = .ok (.iconst 1, 1) := by decide +kernel
theorem dX0_keep_75 : decode cX0_keep 75 = .ok (.iadd, 1) := by decide +kernel
theorem dX0_keep_76 : decode cX0_keep 76 = .ok (.putfield 18, 3) := by decide +kernel
theorem dX0_keep_79 : decode cX0_keep 79 = .ok (.return_, 1) := by decide +kernel
theorem dX0_latestWhere_0 : decode cX0_latestWhere 0 = .ok (.aload_n 0, 1) := by decide +kernel
theorem dX0_latestWhere_1 : decode cX0_latestWhere 1 = .ok (.getfield 18, 3) := by decide +kernel
theorem dX0_latestWhere_4 : decode cX0_latestWhere 4 = .ok (.ifCond .le 17, 3) := by decide +kernel
theorem dX0_latestWhere_7 : decode cX0_latestWhere 7 = .ok (.aload_n 0, 1) := by decide +kernel
theorem dX0_latestWhere_8 : decode cX0_latestWhere 8 = .ok (.getfield 9, 3) := by decide +kernel
theorem dX0_latestWhere_11 : decode cX0_latestWhere 11 = .ok (.aload_n 0, 1) := by decide +kernel
theorem dX0_latestWhere_12 : decode cX0_latestWhere 12 = .ok (.getfield 18, 3) := by decide +kernel
theorem dX0_latestWhere_15 : decode cX0_latestWhere 15 = .ok (.iconst 1, 1) := by decide +kernel
theorem dX0_latestWhere_16 : decode cX0_latestWhere 16 = .ok (.isub, 1) := by decide +kernel
theorem dX0_latestWhere_17 : decode cX0_latestWhere 17 = .ok (.iaload, 1) := by decide +kernel
theorem dX0_latestWhere_18 : decode cX0_latestWhere 18 = .ok (.goto 4, 3) := by decide +kernel
theorem dX0_latestWhere_21 : decode cX0_latestWhere 21 = .ok (.iconst 0, 1) := by decide +kernel
theorem dX0_latestWhere_22 : decode cX0_latestWhere 22 = .ok (.ireturn, 1) := by decide +kernel
theorem dX0_latestWas_0 : decode cX0_latestWas 0 = .ok (.aload_n 0, 1) := by decide +kernel
theorem dX0_latestWas_1 : decode cX0_latestWas 1 = .ok (.getfield 18, 3) := by decide +kernel
theorem dX0_latestWas_4 : decode cX0_latestWas 4 = .ok (.ifCond .le 17, 3) := by decide +kernel
theorem dX0_latestWas_7 : decode cX0_latestWas 7 = .ok (.aload_n 0, 1) := by decide +kernel
theorem dX0_latestWas_8 : decode cX0_latestWas 8 = .ok (.getfield 15, 3) := by decide +kernel
theorem dX0_latestWas_11 : decode cX0_latestWas 11 = .ok (.aload_n 0, 1) := by decide +kernel
theorem dX0_latestWas_12 : decode cX0_latestWas 12 = .ok (.getfield 18, 3) := by decide +kernel
theorem dX0_latestWas_15 : decode cX0_latestWas 15 = .ok (.iconst 1, 1) := by decide +kernel
theorem dX0_latestWas_16 : decode cX0_latestWas 16 = .ok (.isub, 1) := by decide +kernel
theorem dX0_latestWas_17 : decode cX0_latestWas 17 = .ok (.iaload, 1) := by decide +kernel
theorem dX0_latestWas_18 : decode cX0_latestWas 18 = .ok (.goto 4, 3) := by decide +kernel
theorem dX0_latestWas_21 : decode cX0_latestWas 21 = .ok (.iconst 0, 1) := by decide +kernel
theorem dX0_latestWas_22 : decode cX0_latestWas 22 = .ok (.ireturn, 1) := by decide +kernel
theorem dX0_drop_0 : decode cX0_drop 0 = .ok (.aload_n 0, 1) := by decide +kernel
theorem dX0_drop_1 : decode cX0_drop 1 = .ok (.getfield 18, 3) := by decide +kernel
theorem dX0_drop_4 : decode cX0_drop 4 = .ok (.ifCond .le 13, 3) := by decide +kernel
theorem dX0_drop_7 : decode cX0_drop 7 = .ok (.aload_n 0, 1) := by decide +kernel
theorem dX0_drop_8 : decode cX0_drop 8 = .ok (.dup, 1) := by decide +kernel
theorem dX0_drop_9 : decode cX0_drop 9 = .ok (.getfield 18, 3) := by decide +kernel
theorem dX0_drop_12 : decode cX0_drop 12 = .ok (.iconst 1, 1) := by decide +kernel
theorem dX0_drop_13 : decode cX0_drop 13 = .ok (.isub, 1) := by decide +kernel
theorem dX0_drop_14 : decode cX0_drop 14 = .ok (.putfield 18, 3) := by decide +kernel
theorem dX0_drop_17 : decode cX0_drop 17 = .ok (.return_, 1) := by decide +kernel
theorem dX0_clear_0 : decode cX0_clear 0 = .ok (.aload_n 0, 1) := by decide +kernel
theorem dX0_clear_1 : decode cX0_clear 1 = .ok (.iconst 0, 1) := by decide +kernel
theorem dX0_clear_2 : decode cX0_clear 2 = .ok (.putfield 18, 3) := by decide +kernel
theorem dX0_clear_5 : decode cX0_clear 5 = .ok (.return_, 1) := by decide +kernel
theorem dX1_get_0 : decode cX1_get 0 = .ok (.iload_n 1, 1) := by decide +kernel
theorem dX1_get_1 : decode cX1_get 1 = .ok (.ifCond .lt 22, 3) := by decide +kernel
theorem dX1_get_4 : decode cX1_get 4 = .ok (.iload_n 1, 1) := by decide +kernel
theorem dX1_get_5 : decode cX1_get 5 = .ok (.bipush 6, 2) := by decide +kernel
theorem dX1_get_7 : decode cX1_get 7 = .ok (.if_icmp .ge 16, 3) := by decide +kernel
theorem dX1_get_10 : decode cX1_get 10 = .ok (.iload_n 0, 1) := by decide +kernel
theorem dX1_get_11 : decode cX1_get 11 = .ok (.getstatic 9, 3) := by decide +kernel
theorem dX1_get_14 : decode cX1_get 14 = .ok (.iload_n 1, 1) := by decide +kernel
theorem dX1_get_15 : decode cX1_get 15 = .ok (.iaload, 1) := by decide +kernel
theorem dX1_get_16 : decode cX1_get 16 = .ok (.idiv, 1) := by decide +kernel
theorem dX1_get_17 : decode cX1_get 17 = .ok (.bipush 10, 2) := by decide +kernel
theorem dX1_get_19 : decode cX1_get 19 = .ok (.irem, 1) := by decide +kernel
theorem dX1_get_20 : decode cX1_get 20 = .ok (.goto 4, 3) := by decide +kernel
theorem dX1_get_23 : decode cX1_get 23 = .ok (.iconst 0, 1) := by decide +kernel
theorem dX1_get_24 : decode cX1_get 24 = .ok (.ireturn, 1) := by decide +kernel
theorem dX1_put_0 : decode cX1_put 0 = .ok (.iload_n 1, 1) := by decide +kernel
theorem dX1_put_1 : decode cX1_put 1 = .ok (.ifCond .lt 27, 3) := by decide +kernel
theorem dX1_put_4 : decode cX1_put 4 = .ok (.iload_n 1, 1) := by decide +kernel
theorem dX1_put_5 : decode cX1_put 5 = .ok (.bipush 6, 2) := by decide +kernel
theorem dX1_put_7 : decode cX1_put 7 = .ok (.if_icmp .ge 21, 3) := by decide +kernel
theorem dX1_put_10 : decode cX1_put 10 = .ok (.iload_n 0, 1) := by decide +kernel
theorem dX1_put_11 : decode cX1_put 11 = .ok (.iload_n 2, 1) := by decide +kernel
theorem dX1_put_12 : decode cX1_put 12 = .ok (.iload_n 0, 1) := by decide +kernel
theorem dX1_put_13 : decode cX1_put 13 = .ok (.iload_n 1, 1) := by decide +kernel
theorem dX1_put_14 : decode cX1_put 14 = .ok (.invokestatic 15, 3) := by decide +kernel
theorem dX1_put_17 : decode cX1_put 17 = .ok (.isub, 1) := by decide +kernel
theorem dX1_put_18 : decode cX1_put 18 = .ok (.getstatic 9, 3) := by decide +kernel
theorem dX1_put_21 : decode cX1_put 21 = .ok (.iload_n 1, 1) := by decide +kernel
theorem dX1_put_22 : decode cX1_put 22 = .ok (.iaload, 1) := by decide +kernel
theorem dX1_put_23 : decode cX1_put 23 = .ok (.imul, 1) := by decide +kernel
theorem dX1_put_24 : decode cX1_put 24 = .ok (.iadd, 1) := by decide +kernel
theorem dX1_put_25 : decode cX1_put 25 = .ok (.goto 4, 3) := by decide +kernel
theorem dX1_put_28 : decode cX1_put 28 = .ok (.iload_n 0, 1) := by decide +kernel
theorem dX1_put_29 : decode cX1_put 29 = .ok (.ireturn, 1) := by decide +kernel
theorem dX2_init_0 : decode cX2_init 0 = .ok (.aload_n 0, 1) := by decide +kernel
theorem dX2_init_1 : decode cX2_init 1 = .ok (.invokespecial 3, 3) := by decide +kernel
theorem dX2_init_4 : decode cX2_init 4 = .ok (.aload_n 0, 1) := by decide +kernel
theorem dX2_init_5 : decode cX2_init 5 = .ok (.sipush 200, 3) := by decide +kernel
theorem dX2_init_8 : decode cX2_init 8 = .ok (.newarray .int, 2) := by decide +kernel
theorem dX2_init_10 : decode cX2_init 10 = .ok (.putfield 9, 3) := by decide +kernel
theorem dX2_init_13 : decode cX2_init 13 = .ok (.aload_n 0, 1) := by decide +kernel
theorem dX2_init_14 : decode cX2_init 14 = .ok (.sipush 200, 3) := by decide +kernel
theorem dX2_init_17 : decode cX2_init 17 = .ok (.newarray .int, 2) := by decide +kernel
theorem dX2_init_19 : decode cX2_init 19 = .ok (.putfield 15, 3) := by decide +kernel
theorem dX2_init_22 : decode cX2_init 22 = .ok (.aload_n 0, 1) := by decide +kernel
theorem dX2_init_23 : decode cX2_init 23 = .ok (.sipush 200, 3) := by decide +kernel
theorem dX2_init_26 : decode cX2_init 26 = .ok (.newarray .int, 2) := by decide +kernel
theorem dX2_init_28 : decode cX2_init 28 = .ok (.putfield 18, 3) := by decide +kernel
theorem dX2_init_31 : decode cX2_init 31 = .ok (.aload_n 0, 1) := by decide +kernel
theorem dX2_init_32 : decode cX2_init 32 = .ok (.sipush 200, 3) := by decide +kernel
theorem dX2_init_35 : decode cX2_init 35 = .ok (.newarray .int, 2) := by decide +kernel
theorem dX2_init_37 : decode cX2_init 37 = .ok (.putfield 21, 3) := by decide +kernel
theorem dX2_init_40 : decode cX2_init 40 = .ok (.aload_n 0, 1) := by decide +kernel
theorem dX2_init_41 : decode cX2_init 41 = .ok (.sipush 201, 3) := by decide +kernel
theorem dX2_init_44 : decode cX2_init 44 = .ok (.newarray .int, 2) := by decide +kernel
theorem dX2_init_46 : decode cX2_init 46 = .ok (.putfield 24, 3) := by decide +kernel
theorem dX2_init_49 : decode cX2_init 49 = .ok (.aload_n 0, 1) := by decide +kernel
theorem dX2_init_50 : decode cX2_init 50 = .ok (.bipush 100, 2) := by decide +kernel
theorem dX2_init_52 : decode cX2_init 52 = .ok (.newarray .int, 2) := by decide +kernel
theorem dX2_init_54 : decode cX2_init 54 = .ok (.putfield 27, 3) := by decide +kernel
theorem dX2_init_57 : decode cX2_init 57 = .ok (.aload_n 0, 1) := by decide +kernel
theorem dX2_init_58 : decode cX2_init 58 = .ok (.bipush 10, 2) := by decide +kernel
theorem dX2_init_60 : decode cX2_init 60 = .ok (.newarray .int, 2) := by decide +kernel
theorem dX2_init_62 : decode cX2_init 62 = .ok (.putfield 30, 3) := by decide +kernel
theorem dX2_init_65 : decode cX2_init 65 = .ok (.aload_n 0, 1) := by decide +kernel
theorem dX2_init_66 : decode cX2_init 66 = .ok (.bipush 10, 2) := by decide +kernel
theorem dX2_init_68 : decode cX2_init 68 = .ok (.newarray .int, 2) := by decide +kernel
theorem dX2_init_70 : decode cX2_init 70 = .ok (.putfield 33, 3) := by decide +kernel
theorem dX2_init_73 : decode cX2_init 73 = .ok (.aload_n 0, 1) := by decide +kernel
theorem dX2_init_74 : decode cX2_init 74 = .ok (.ldc 36, 2) := by decide +kernel
theorem dX2_init_76 : decode cX2_init 76 = .ok (.newarray .int, 2) := by decide +kernel
theorem dX2_init_78 : decode cX2_init 78 = .ok (.putfield 37, 3) := by decide +kernel
theorem dX2_init_81 : decode cX2_init 81 = .ok (.return_, 1) := by decide +kernel
theorem dX2_solve_0 : decode cX2_solve 0 = .ok (.aload_n 0, 1) := by decide +kernel
theorem dX2_solve_1 : decode cX2_solve 1 = .ok (.getfield 40, 3) := by decide +kernel
theorem dX2_solve_4 : decode cX2_solve 4 = .ok (.aload_n 1, 1) := by decide +kernel
theorem dX2_solve_5 : decode cX2_solve 5 = .ok (.getfield 44, 3) := by decide +kernel
theorem dX2_solve_8 : decode cX2_solve 8 = .ok (.if_icmp .eq 45, 3) := by decide +kernel
theorem dX2_solve_11 : decode cX2_solve 11 = .ok (.aload_n 0, 1) := by decide +kernel
theorem dX2_solve_12 : decode cX2_solve 12 = .ok (.aload_n 1, 1) := by decide +kernel
theorem dX2_solve_13 : decode cX2_solve 13 = .ok (.getfield 44, 3) := by decide +kernel
theorem dX2_solve_16 : decode cX2_solve 16 = .ok (.putfield 40, 3) := by decide +kernel
theorem dX2_solve_19 : decode cX2_solve 19 = .ok (.aload_n 0, 1) := by decide +kernel
theorem dX2_solve_20 : decode cX2_solve 20 = .ok (.aload_n 1, 1) := by decide +kernel
theorem dX2_solve_21 : decode cX2_solve 21 = .ok (.invokevirtual 47, 3) := by decide +kernel
theorem dX2_solve_24 : decode cX2_solve 24 = .ok (.aload_n 0, 1) := by decide +kernel
theorem dX2_solve_25 : decode cX2_solve 25 = .ok (.aload_n 0, 1) := by decide +kernel
theorem dX2_solve_26 : decode cX2_solve 26 = .ok (.invokevirtual 51, 3) := by decide +kernel
theorem dX2_solve_29 : decode cX2_solve 29 = .ok (.putfield 55, 3) := by decide +kernel
theorem dX2_solve_32 : decode cX2_solve 32 = .ok (.aload_n 0, 1) := by decide +kernel
theorem dX2_solve_33 : decode cX2_solve 33 = .ok (.getfield 55, 3) := by decide +kernel
theorem dX2_solve_36 : decode cX2_solve 36 = .ok (.ifCond .eq 17, 3) := by decide +kernel
theorem dX2_solve_39 : decode cX2_solve 39 = .ok (.aload_n 0, 1) := by decide +kernel
theorem dX2_solve_40 : decode cX2_solve 40 = .ok (.invokevirtual 59, 3) := by decide +kernel
theorem dX2_solve_43 : decode cX2_solve 43 = .ok (.aload_n 0, 1) := by decide +kernel
theorem dX2_solve_44 : decode cX2_solve 44 = .ok (.aload_n 1, 1) := by decide +kernel
theorem dX2_solve_45 : decode cX2_solve 45 = .ok (.invokevirtual 62, 3) := by decide +kernel
theorem dX2_solve_48 : decode cX2_solve 48 = .ok (.aload_n 0, 1) := by decide +kernel
theorem dX2_solve_49 : decode cX2_solve 49 = .ok (.aload_n 1, 1) := by decide +kernel
theorem dX2_solve_50 : decode cX2_solve 50 = .ok (.invokevirtual 65, 3) := by decide +kernel
theorem dX2_solve_53 : decode cX2_solve 53 = .ok (.aload_n 0, 1) := by decide +kernel
theorem dX2_solve_54 : decode cX2_solve 54 = .ok (.getfield 55, 3) := by decide +kernel
theorem dX2_solve_57 : decode cX2_solve 57 = .ok (.ireturn, 1) := by decide +kernel
theorem dX2_canDivide_0 : decode cX2_canDivide 0 = .ok (.aload_n 0, 1) := by decide +kernel
theorem dX2_canDivide_1 : decode cX2_canDivide 1 = .ok (.aload_n 1, 1) := by decide +kernel
theorem dX2_canDivide_2 : decode cX2_canDivide 2 = .ok (.invokevirtual 68, 3) := by decide +kernel
theorem dX2_canDivide_5 : decode cX2_canDivide 5 = .ok (.ifCond .eq 14, 3) := by decide +kernel
theorem dX2_canDivide_8 : decode cX2_canDivide 8 = .ok (.aload_n 0, 1) := by decide +kernel
theorem dX2_canDivide_9 : decode cX2_canDivide 9 = .ok (.getfield 72, 3) := by decide +kernel
theorem dX2_canDivide_12 : decode cX2_canDivide 12 = .ok (.ifCond .eq 7, 3) := by decide +kernel
theorem dX2_canDivide_15 : decode cX2_canDivide 15 = .ok (.iconst 1, 1) := by decide +kernel
theorem dX2_canDivide_16 : decode cX2_canDivide 16 = .ok (.goto 4, 3) := by decide +kernel
theorem dX2_canDivide_19 : decode cX2_canDivide 19 = .ok (.iconst 0, 1) := by decide +kernel
theorem dX2_canDivide_20 : decode cX2_canDivide 20 = .ok (.ireturn, 1) := by decide +kernel
theorem dX2_shareOfEnded_0 : decode cX2_shareOfEnded 0 = .ok (.iload_n 1, 1) := by decide +kernel
theorem dX2_shareOfEnded_1 : decode cX2_shareOfEnded 1 = .ok (.aload_n 0, 1) := by decide +kernel
theorem dX2_shareOfEnded_2 : decode cX2_shareOfEnded 2 = .ok (.getfield 72, 3) := by decide +kernel
theorem dX2_shareOfEnded_5 : decode cX2_shareOfEnded 5 = .ok (.invokestatic 75, 3) := by decide +kernel
theorem dX2_shareOfEnded_8 : decode cX2_shareOfEnded 8 = .ok (.invokestatic 81, 3) := by decide +kernel
theorem dX2_shareOfEnded_11 : decode cX2_shareOfEnded 11 = .ok (.ireturn, 1) := by decide +kernel
theorem dX2_forEver_0 : decode cX2_forEver 0 = .ok (.iconst 1, 1) := by decide +kernel
theorem dX2_forEver_1 : decode cX2_forEver 1 = .ok (.aload_n 0, 1) := by decide +kernel
theorem dX2_forEver_2 : decode cX2_forEver 2 = .ok (.getfield 72, 3) := by decide +kernel
theorem dX2_forEver_5 : decode cX2_forEver 5 = .ok (.invokestatic 85, 3) := by decide +kernel
theorem dX2_forEver_8 : decode cX2_forEver 8 = .ok (.aload_n 0, 1) := by decide +kernel
theorem dX2_forEver_9 : decode cX2_forEver 9 = .ok (.getfield 88, 3) := by decide +kernel
theorem dX2_forEver_12 : decode cX2_forEver 12 = .ok (.invokestatic 85, 3) := by decide +kernel
theorem dX2_forEver_15 : decode cX2_forEver 15 = .ok (.ireturn, 1) := by decide +kernel
theorem dX2_write_0 : decode cX2_write 0 = .ok (.aload_n 0, 1) := by decide +kernel
theorem dX2_write_1 : decode cX2_write 1 = .ok (.iconst 0, 1) := by decide +kernel
theorem dX2_write_2 : decode cX2_write 2 = .ok (.putfield 91, 3) := by decide +kernel
theorem dX2_write_5 : decode cX2_write 5 = .ok (.iconst 0, 1) := by decide +kernel
theorem dX2_write_6 : decode cX2_write 6 = .ok (.istore_n 2, 1) := by decide +kernel
theorem dX2_write_7 : decode cX2_write 7 = .ok (.iload_n 2, 1) := by decide +kernel
theorem dX2_write_8 : decode cX2_write 8 = .ok (.aload_n 1, 1) := by decide +kernel
theorem dX2_write_9 : decode cX2_write 9 = .ok (.getfield 94, 3) := by decide +kernel
theorem dX2_write_12 : decode cX2_write 12 = .ok (.if_icmp .ge 63, 3) := by decide +kernel
theorem dX2_write_15 : decode cX2_write 15 = .ok (.aload_n 0, 1) := by decide +kernel
theorem dX2_write_16 : decode cX2_write 16 = .ok (.getfield 18, 3) := by decide +kernel
theorem dX2_write_19 : decode cX2_write 19 = .ok (.iload_n 2, 1) := by decide +kernel
theorem dX2_write_20 : decode cX2_write 20 = .ok (.iconst (-1), 1) := by decide +kernel
theorem dX2_write_21 : decode cX2_write 21 = .ok (.iastore, 1) := by decide +kernel
theorem dX2_write_22 : decode cX2_write 22 = .ok (.aload_n 1, 1) := by decide +kernel
theorem dX2_write_23 : decode cX2_write 23 = .ok (.getfield 97, 3) := by decide +kernel
theorem dX2_write_26 : decode cX2_write 26 = .ok (.iload_n 2, 1) := by decide +kernel
theorem dX2_write_27 : decode cX2_write 27 = .ok (.baload, 1) := by decide +kernel
theorem dX2_write_28 : decode cX2_write 28 = .ok (.ifCond .ne 41, 3) := by decide +kernel
theorem dX2_write_31 : decode cX2_write 31 = .ok (.aload_n 1, 1) := by decide +kernel
theorem dX2_write_32 : decode cX2_write 32 = .ok (.iload_n 2, 1) := by decide +kernel
theorem dX2_write_33 : decode cX2_write 33 = .ok (.invokevirtual 101, 3) := by decide +kernel
theorem dX2_write_36 : decode cX2_write 36 = .ok (.ifCond .le 33, 3) := by decide +kernel
theorem dX2_write_39 : decode cX2_write 39 = .ok (.aload_n 0, 1) := by decide +kernel
theorem dX2_write_40 : decode cX2_write 40 = .ok (.getfield 18, 3) := by decide +kernel
theorem dX2_write_43 : decode cX2_write 43 = .ok (.iload_n 2, 1) := by decide +kernel
theorem dX2_write_44 : decode cX2_write 44 = .ok (.aload_n 0, 1) := by decide +kernel
theorem dX2_write_45 : decode cX2_write 45 = .ok (.getfield 91, 3) := by decide +kernel
theorem dX2_write_48 : decode cX2_write 48 = .ok (.iastore, 1) := by decide +kernel
theorem dX2_write_49 : decode cX2_write 49 = .ok (.aload_n 0, 1) := by decide +kernel
theorem dX2_write_50 : decode cX2_write 50 = .ok (.getfield 15, 3) := by decide +kernel
theorem dX2_write_53 : decode cX2_write 53 = .ok (.aload_n 0, 1) := by decide +kernel
theorem dX2_write_54 : decode cX2_write 54 = .ok (.getfield 91, 3) := by decide +kernel
theorem dX2_write_57 : decode cX2_write 57 = .ok (.iload_n 2, 1) := by decide +kernel
theorem dX2_write_58 : decode cX2_write 58 = .ok (.iastore, 1) := by decide +kernel
theorem dX2_write_59 : decode cX2_write 59 = .ok (.aload_n 0, 1) := by decide +kernel
theorem dX2_write_60 : decode cX2_write 60 = .ok (.dup, 1) := by decide +kernel
theorem dX2_write_61 : decode cX2_write 61 = .ok (.getfield 91, 3) := by decide +kernel
theorem dX2_write_64 : decode cX2_write 64 = .ok (.iconst 1, 1) := by decide +kernel
theorem dX2_write_65 : decode cX2_write 65 = .ok (.iadd, 1) := by decide +kernel
theorem dX2_write_66 : decode cX2_write 66 = .ok (.putfield 91, 3) := by decide +kernel
theorem dX2_write_69 : decode cX2_write 69 = .ok (.iinc 2 1, 3) := by decide +kernel
theorem dX2_write_72 : decode cX2_write 72 = .ok (.goto (-65), 3) := by decide +kernel
theorem dX2_write_75 : decode cX2_write 75 = .ok (.aload_n 0, 1) := by decide +kernel
theorem dX2_write_76 : decode cX2_write 76 = .ok (.getfield 37, 3) := by decide +kernel
theorem dX2_write_79 : decode cX2_write 79 = .ok (.iconst 0, 1) := by decide +kernel
theorem dX2_write_80 : decode cX2_write 80 = .ok (.aload_n 0, 1) := by decide +kernel
theorem dX2_write_81 : decode cX2_write 81 = .ok (.getfield 91, 3) := by decide +kernel
theorem dX2_write_84 : decode cX2_write 84 = .ok (.aload_n 0, 1) := by decide +kernel
theorem dX2_write_85 : decode cX2_write 85 = .ok (.getfield 91, 3) := by decide +kernel
theorem dX2_write_88 : decode cX2_write 88 = .ok (.iconst 1, 1) := by decide +kernel
theorem dX2_write_89 : decode cX2_write 89 = .ok (.iadd, 1) := by decide +kernel
theorem dX2_write_90 : decode cX2_write 90 = .ok (.imul, 1) := by decide +kernel
theorem dX2_write_91 : decode cX2_write 91 = .ok (.iconst 0, 1) := by decide +kernel
theorem dX2_write_92 : decode cX2_write 92 = .ok (.invokestatic 104, 3) := by decide +kernel
theorem dX2_write_95 : decode cX2_write 95 = .ok (.iconst 0, 1) := by decide +kernel
theorem dX2_write_96 : decode cX2_write 96 = .ok (.istore_n 2, 1) := by decide +kernel
theorem dX2_write_97 : decode cX2_write 97 = .ok (.iload_n 2, 1) := by decide +kernel
theorem dX2_write_98 : decode cX2_write 98 = .ok (.aload_n 0, 1) := by decide +kernel
theorem dX2_write_99 : decode cX2_write 99 = .ok (.getfield 91, 3) := by decide +kernel
theorem dX2_write_102 : decode cX2_write 102 = .ok (.if_icmp .ge 78, 3) := by decide +kernel
theorem dX2_write_105 : decode cX2_write 105 = .ok (.aload_n 0, 1) := by decide +kernel
theorem dX2_write_106 : decode cX2_write 106 = .ok (.getfield 21, 3) := by decide +kernel
theorem dX2_write_109 : decode cX2_write 109 = .ok (.iload_n 2, 1) := by decide +kernel
theorem dX2_write_110 : decode cX2_write 110 = .ok (.iload_n 2, 1) := by decide +kernel
theorem dX2_write_111 : decode cX2_write 111 = .ok (.aload_n 0, 1) := by decide +kernel
theorem dX2_write_112 : decode cX2_write 112 = .ok (.getfield 91, 3) := by decide +kernel
theorem dX2_write_115 : decode cX2_write 115 = .ok (.iconst 1, 1) := by decide +kernel
theorem dX2_write_116 : decode cX2_write 116 = .ok (.iadd, 1) := by decide +kernel
theorem dX2_write_117 : decode cX2_write 117 = .ok (.imul, 1) := by decide +kernel
theorem dX2_write_118 : decode cX2_write 118 = .ok (.iastore, 1) := by decide +kernel
theorem dX2_write_119 : decode cX2_write 119 = .ok (.aload_n 0, 1) := by decide +kernel
theorem dX2_write_120 : decode cX2_write 120 = .ok (.getfield 21, 3) := by decide +kernel
theorem dX2_write_123 : decode cX2_write 123 = .ok (.iload_n 2, 1) := by decide +kernel
theorem dX2_write_124 : decode cX2_write 124 = .ok (.iaload, 1) := by decide +kernel
theorem dX2_write_125 : decode cX2_write 125 = .ok (.iload_n 2, 1) := by decide +kernel
theorem dX2_write_126 : decode cX2_write 126 = .ok (.iadd, 1) := by decide +kernel
theorem dX2_write_127 : decode cX2_write 127 = .ok (.istore_n 3, 1) := by decide +kernel
theorem dX2_write_128 : decode cX2_write 128 = .ok (.aload_n 0, 1) := by decide +kernel
theorem dX2_write_129 : decode cX2_write 129 = .ok (.getfield 37, 3) := by decide +kernel
theorem dX2_write_132 : decode cX2_write 132 = .ok (.iload_n 3, 1) := by decide +kernel
theorem dX2_write_133 : decode cX2_write 133 = .ok (.aload_n 0, 1) := by decide +kernel
theorem dX2_write_134 : decode cX2_write 134 = .ok (.getfield 37, 3) := by decide +kernel
theorem dX2_write_137 : decode cX2_write 137 = .ok (.iload_n 3, 1) := by decide +kernel
theorem dX2_write_138 : decode cX2_write 138 = .ok (.iaload, 1) := by decide +kernel
theorem dX2_write_139 : decode cX2_write 139 = .ok (.iconst 1, 1) := by decide +kernel
theorem dX2_write_140 : decode cX2_write 140 = .ok (.invokestatic 110, 3) := by decide +kernel
theorem dX2_write_143 : decode cX2_write 143 = .ok (.iastore, 1) := by decide +kernel
theorem dX2_write_144 : decode cX2_write 144 = .ok (.aload_n 0, 1) := by decide +kernel
theorem dX2_write_145 : decode cX2_write 145 = .ok (.getfield 37, 3) := by decide +kernel
theorem dX2_write_148 : decode cX2_write 148 = .ok (.aload_n 0, 1) := by decide +kernel
theorem dX2_write_149 : decode cX2_write 149 = .ok (.getfield 21, 3) := by decide +kernel
theorem dX2_write_152 : decode cX2_write 152 = .ok (.iload_n 2, 1) := by decide +kernel
theorem dX2_write_153 : decode cX2_write 153 = .ok (.iaload, 1) := by decide +kernel
theorem dX2_write_154 : decode cX2_write 154 = .ok (.aload_n 0, 1) := by decide +kernel
theorem dX2_write_155 : decode cX2_write 155 = .ok (.getfield 91, 3) := by decide +kernel
theorem dX2_write_158 : decode cX2_write 158 = .ok (.iadd, 1) := by decide +kernel
theorem dX2_write_159 : decode cX2_write 159 = .ok (.aload_n 0, 1) := by decide +kernel
theorem dX2_write_160 : decode cX2_write 160 = .ok (.getfield 15, 3) := by decide +kernel
theorem dX2_write_163 : decode cX2_write 163 = .ok (.iload_n 2, 1) := by decide +kernel
theorem dX2_write_164 : decode cX2_write 164 = .ok (.iaload, 1) := by decide +kernel
theorem dX2_write_165 : decode cX2_write 165 = .ok (.ifCond .ne 7, 3) := by decide +kernel
theorem dX2_write_168 : decode cX2_write 168 = .ok (.iconst 1, 1) := by decide +kernel
theorem dX2_write_169 : decode cX2_write 169 = .ok (.goto 4, 3) := by decide +kernel
theorem dX2_write_172 : decode cX2_write 172 = .ok (.iconst 0, 1) := by decide +kernel
theorem dX2_write_173 : decode cX2_write 173 = .ok (.iastore, 1) := by decide +kernel
theorem dX2_write_174 : decode cX2_write 174 = .ok (.iinc 2 1, 3) := by decide +kernel
theorem dX2_write_177 : decode cX2_write 177 = .ok (.goto (-80), 3) := by decide +kernel
theorem dX2_write_180 : decode cX2_write 180 = .ok (.iconst 0, 1) := by decide +kernel
theorem dX2_write_181 : decode cX2_write 181 = .ok (.istore_n 2, 1) := by decide +kernel
theorem dX2_write_182 : decode cX2_write 182 = .ok (.iload_n 2, 1) := by decide +kernel
theorem dX2_write_183 : decode cX2_write 183 = .ok (.aload_n 0, 1) := by decide +kernel
theorem dX2_write_184 : decode cX2_write 184 = .ok (.getfield 91, 3) := by decide +kernel
theorem dX2_write_187 : decode cX2_write 187 = .ok (.if_icmp .ge 15, 3) := by decide +kernel
theorem dX2_write_190 : decode cX2_write 190 = .ok (.aload_n 0, 1) := by decide +kernel
theorem dX2_write_191 : decode cX2_write 191 = .ok (.aload_n 1, 1) := by decide +kernel
theorem dX2_write_192 : decode cX2_write 192 = .ok (.iload_n 2, 1) := by decide +kernel
theorem dX2_write_193 : decode cX2_write 193 = .ok (.invokevirtual 113, 3) := by decide +kernel
theorem dX2_write_196 : decode cX2_write 196 = .ok (.iinc 2 1, 3) := by decide +kernel
theorem dX2_write_199 : decode cX2_write 199 = .ok (.goto (-17), 3) := by decide +kernel
theorem dX2_write_202 : decode cX2_write 202 = .ok (.return_, 1) := by decide +kernel
theorem dX2_writeArcs_0 : decode cX2_writeArcs 0 = .ok (.aload_n 0, 1) := by decide +kernel
theorem dX2_writeArcs_1 : decode cX2_writeArcs 1 = .ok (.getfield 15, 3) := by decide +kernel
theorem dX2_writeArcs_4 : decode cX2_writeArcs 4 = .ok (.iload_n 2, 1) := by decide +kernel
theorem dX2_writeArcs_5 : decode cX2_writeArcs 5 = .ok (.iaload, 1) := by decide +kernel
theorem dX2_writeArcs_6 : decode cX2_writeArcs 6 = .ok (.istore_n 3, 1) := by decide +kernel
theorem dX2_writeArcs_7 : decode cX2_writeArcs 7 = .ok (.aload_n 1, 1) := by decide +kernel
theorem dX2_writeArcs_8 : decode cX2_writeArcs 8 = .ok (.getfield 117, 3) := by decide +kernel
theorem dX2_writeArcs_11 : decode cX2_writeArcs 11 = .ok (.iload_n 3, 1) := by decide +kernel
theorem dX2_writeArcs_12 : decode cX2_writeArcs 12 = .ok (.iaload, 1) := by decide +kernel
theorem dX2_writeArcs_13 : decode cX2_writeArcs 13 = .ok (.istore 4, 2) := by decide +kernel
theorem dX2_writeArcs_15 : decode cX2_writeArcs 15 = .ok (.iload 4, 2) := by decide +kernel
theorem dX2_writeArcs_17 : decode cX2_writeArcs 17 = .ok (.aload_n 1, 1) := by decide +kernel
theorem dX2_writeArcs_18 : decode cX2_writeArcs 18 = .ok (.getfield 117, 3) := by decide +kernel
theorem dX2_writeArcs_21 : decode cX2_writeArcs 21 = .ok (.iload_n 3, 1) := by decide +kernel
theorem dX2_writeArcs_22 : decode cX2_writeArcs 22 = .ok (.iconst 1, 1) := by decide +kernel
theorem dX2_writeArcs_23 : decode cX2_writeArcs 23 = .ok (.iadd, 1) := by decide +kernel
theorem dX2_writeArcs_24 : decode cX2_writeArcs 24 = .ok (.iaload, 1) := by decide +kernel
theorem dX2_writeArcs_25 : decode cX2_writeArcs 25 = .ok (.if_icmp .ge 67, 3) := by decide +kernel
theorem dX2_writeArcs_28 : decode cX2_writeArcs 28 = .ok (.aload_n 0, 1) := by decide +kernel
theorem dX2_writeArcs_29 : decode cX2_writeArcs 29 = .ok (.getfield 18, 3) := by decide +kernel
theorem dX2_writeArcs_32 : decode cX2_writeArcs 32 = .ok (.aload_n 1, 1) := by decide +kernel
theorem dX2_writeArcs_33 : decode cX2_writeArcs 33 = .ok (.getfield 120, 3) := by decide +kernel
theorem dX2_writeArcs_36 : decode cX2_writeArcs 36 = .ok (.iload 4, 2) := by decide +kernel
theorem dX2_writeArcs_38 : decode cX2_writeArcs 38 = .ok (.iaload, 1) := by decide +kernel
theorem dX2_writeArcs_39 : decode cX2_writeArcs 39 = .ok (.iaload, 1) := by decide +kernel
theorem dX2_writeArcs_40 : decode cX2_writeArcs 40 = .ok (.istore 5, 2) := by decide +kernel
theorem dX2_writeArcs_42 : decode cX2_writeArcs 42 = .ok (.iload 5, 2) := by decide +kernel
theorem dX2_writeArcs_44 : decode cX2_writeArcs 44 = .ok (.iconst (-1), 1) := by decide +kernel
theorem dX2_writeArcs_45 : decode cX2_writeArcs 45 = .ok (.if_icmp .eq 41, 3) := by decide +kernel
theorem dX2_writeArcs_48 : decode cX2_writeArcs 48 = .ok (.aload_n 0, 1) := by decide +kernel
theorem dX2_writeArcs_49 : decode cX2_writeArcs 49 = .ok (.getfield 21, 3) := by decide +kernel
theorem dX2_writeArcs_52 : decode cX2_writeArcs 52 = .ok (.iload 5, 2) := by decide +kernel
theorem dX2_writeArcs_54 : decode cX2_writeArcs 54 = .ok (.iaload, 1) := by decide +kernel
theorem dX2_writeArcs_55 : decode cX2_writeArcs 55 = .ok (.iload_n 2, 1) := by decide +kernel
theorem dX2_writeArcs_56 : decode cX2_writeArcs 56 = .ok (.iadd, 1) := by decide +kernel
theorem dX2_writeArcs_57 : decode cX2_writeArcs 57 = .ok (.istore 6, 2) := by decide +kernel
theorem dX2_writeArcs_59 : decode cX2_writeArcs 59 = .ok (.aload_n 0, 1) := by decide +kernel
theorem dX2_writeArcs_60 : decode cX2_writeArcs 60 = .ok (.getfield 37, 3) := by decide +kernel
theorem dX2_writeArcs_63 : decode cX2_writeArcs 63 = .ok (.iload 6, 2) := by decide +kernel
theorem dX2_writeArcs_65 : decode cX2_writeArcs 65 = .ok (.aload_n 0, 1) := by decide +kernel
theorem dX2_writeArcs_66 : decode cX2_writeArcs 66 = .ok (.getfield 37, 3) := by decide +kernel
theorem dX2_writeArcs_69 : decode cX2_writeArcs 69 = .ok (.iload 6, 2) := by decide +kernel
theorem dX2_writeArcs_71 : decode cX2_writeArcs 71 = .ok (.iaload, 1) := by decide +kernel
theorem dX2_writeArcs_72 : decode cX2_writeArcs 72 = .ok (.aload_n 1, 1) := by decide +kernel
theorem dX2_writeArcs_73 : decode cX2_writeArcs 73 = .ok (.getfield 123, 3) := by decide +kernel
theorem dX2_writeArcs_76 : decode cX2_writeArcs 76 = .ok (.iload 4, 2) := by decide +kernel
theorem dX2_writeArcs_78 : decode cX2_writeArcs 78 = .ok (.iaload, 1) := by decide +kernel
theorem dX2_writeArcs_79 : decode cX2_writeArcs 79 = .ok (.invokestatic 126, 3) := by decide +kernel
theorem dX2_writeArcs_82 : decode cX2_writeArcs 82 = .ok (.invokestatic 85, 3) := by decide +kernel
theorem dX2_writeArcs_85 : decode cX2_writeArcs 85 = .ok (.iastore, 1) := by decide +kernel
theorem dX2_writeArcs_86 : decode cX2_writeArcs 86 = .ok (.iinc 4 1, 3) := by decide +kernel
theorem dX2_writeArcs_89 : decode cX2_writeArcs 89 = .ok (.goto (-74), 3) := by decide +kernel
theorem dX2_writeArcs_92 : decode cX2_writeArcs 92 = .ok (.return_, 1) := by decide +kernel
theorem dX2_eliminate_0 : decode cX2_eliminate 0 = .ok (.iconst 0, 1) := by decide +kernel
theorem dX2_eliminate_1 : decode cX2_eliminate 1 = .ok (.istore_n 1, 1) := by decide +kernel
theorem dX2_eliminate_2 : decode cX2_eliminate 2 = .ok (.iload_n 1, 1) := by decide +kernel
theorem dX2_eliminate_3 : decode cX2_eliminate 3 = .ok (.aload_n 0, 1) := by decide +kernel
theorem dX2_eliminate_4 : decode cX2_eliminate 4 = .ok (.getfield 91, 3) := by decide +kernel
theorem dX2_eliminate_7 : decode cX2_eliminate 7 = .ok (.if_icmp .ge 120, 3) := by decide +kernel
theorem dX2_eliminate_10 : decode cX2_eliminate 10 = .ok (.iload_n 1, 1) := by decide +kernel
theorem dX2_eliminate_11 : decode cX2_eliminate 11 = .ok (.istore_n 2, 1) := by decide +kernel
theorem dX2_eliminate_12 : decode cX2_eliminate 12 = .ok (.iload_n 2, 1) := by decide +kernel
theorem dX2_eliminate_13 : decode cX2_eliminate 13 = .ok (.aload_n 0, 1) := by decide +kernel
theorem dX2_eliminate_14 : decode cX2_eliminate 14 = .ok (.getfield 91, 3) := by decide +kernel
theorem dX2_eliminate_17 : decode cX2_eliminate 17 = .ok (.if_icmp .ge 25, 3) := by decide +kernel
theorem dX2_eliminate_20 : decode cX2_eliminate 20 = .ok (.aload_n 0, 1) := by decide +kernel
theorem dX2_eliminate_21 : decode cX2_eliminate 21 = .ok (.getfield 37, 3) := by decide +kernel
theorem dX2_eliminate_24 : decode cX2_eliminate 24 = .ok (.aload_n 0, 1) := by decide +kernel
theorem dX2_eliminate_25 : decode cX2_eliminate 25 = .ok (.getfield 21, 3) := by decide +kernel
theorem dX2_eliminate_28 : decode cX2_eliminate 28 = .ok (.iload_n 2, 1) := by decide +kernel
theorem dX2_eliminate_29 : decode cX2_eliminate 29 = .ok (.iaload, 1) := by decide +kernel
theorem dX2_eliminate_30 : decode cX2_eliminate 30 = .ok (.iload_n 1, 1) := by decide +kernel
theorem dX2_eliminate_31 : decode cX2_eliminate 31 = .ok (.iadd, 1) := by decide +kernel
theorem dX2_eliminate_32 : decode cX2_eliminate 32 = .ok (.iaload, 1) := by decide +kernel
theorem dX2_eliminate_33 : decode cX2_eliminate 33 = .ok (.ifCond .ne 9, 3) := by decide +kernel
theorem dX2_eliminate_36 : decode cX2_eliminate 36 = .ok (.iinc 2 1, 3) := by decide +kernel
theorem dX2_eliminate_39 : decode cX2_eliminate 39 = .ok (.goto (-27), 3) := by decide +kernel
theorem dX2_eliminate_42 : decode cX2_eliminate 42 = .ok (.iload_n 2, 1) := by decide +kernel
theorem dX2_eliminate_43 : decode cX2_eliminate 43 = .ok (.aload_n 0, 1) := by decide +kernel
theorem dX2_eliminate_44 : decode cX2_eliminate 44 = .ok (.getfield 91, 3) := by decide +kernel
theorem dX2_eliminate_47 : decode cX2_eliminate 47 = .ok (.if_icmp .ne 5, 3) := by decide +kernel
theorem dX2_eliminate_50 : decode cX2_eliminate 50 = .ok (.iconst 0, 1) := by decide +kernel
theorem dX2_eliminate_51 : decode cX2_eliminate 51 = .ok (.ireturn, 1) := by decide +kernel
theorem dX2_eliminate_52 : decode cX2_eliminate 52 = .ok (.aload_n 0, 1) := by decide +kernel
theorem dX2_eliminate_53 : decode cX2_eliminate 53 = .ok (.getfield 21, 3) := by decide +kernel
theorem dX2_eliminate_56 : decode cX2_eliminate 56 = .ok (.iload_n 2, 1) := by decide +kernel
theorem dX2_eliminate_57 : decode cX2_eliminate 57 = .ok (.iaload, 1) := by decide +kernel
theorem dX2_eliminate_58 : decode cX2_eliminate 58 = .ok (.istore_n 3, 1) := by decide +kernel
theorem dX2_eliminate_59 : decode cX2_eliminate 59 = .ok (.aload_n 0, 1) := by decide +kernel
theorem dX2_eliminate_60 : decode cX2_eliminate 60 = .ok (.getfield 21, 3) := by decide +kernel
theorem dX2_eliminate_63 : decode cX2_eliminate 63 = .ok (.iload_n 2, 1) := by decide +kernel
theorem dX2_eliminate_64 : decode cX2_eliminate 64 = .ok (.aload_n 0, 1) := by decide +kernel
theorem dX2_eliminate_65 : decode cX2_eliminate 65 = .ok (.getfield 21, 3) := by decide +kernel
theorem dX2_eliminate_68 : decode cX2_eliminate 68 = .ok (.iload_n 1, 1) := by decide +kernel
theorem dX2_eliminate_69 : decode cX2_eliminate 69 = .ok (.iaload, 1) := by decide +kernel
theorem dX2_eliminate_70 : decode cX2_eliminate 70 = .ok (.iastore, 1) := by decide +kernel
theorem dX2_eliminate_71 : decode cX2_eliminate 71 = .ok (.aload_n 0, 1) := by decide +kernel
theorem dX2_eliminate_72 : decode cX2_eliminate 72 = .ok (.getfield 21, 3) := by decide +kernel
theorem dX2_eliminate_75 : decode cX2_eliminate 75 = .ok (.iload_n 1, 1) := by decide +kernel
theorem dX2_eliminate_76 : decode cX2_eliminate 76 = .ok (.iload_n 3, 1) := by decide +kernel
theorem dX2_eliminate_77 : decode cX2_eliminate 77 = .ok (.iastore, 1) := by decide +kernel
theorem dX2_eliminate_78 : decode cX2_eliminate 78 = .ok (.aload_n 0, 1) := by decide +kernel
theorem dX2_eliminate_79 : decode cX2_eliminate 79 = .ok (.iload_n 3, 1) := by decide +kernel
theorem dX2_eliminate_80 : decode cX2_eliminate 80 = .ok (.iload_n 1, 1) := by decide +kernel
theorem dX2_eliminate_81 : decode cX2_eliminate 81 = .ok (.invokevirtual 129, 3) := by decide +kernel
theorem dX2_eliminate_84 : decode cX2_eliminate 84 = .ok (.istore 4, 2) := by decide +kernel
theorem dX2_eliminate_86 : decode cX2_eliminate 86 = .ok (.iload_n 1, 1) := by decide +kernel
theorem dX2_eliminate_87 : decode cX2_eliminate 87 = .ok (.iconst 1, 1) := by decide +kernel
theorem dX2_eliminate_88 : decode cX2_eliminate 88 = .ok (.iadd, 1) := by decide +kernel
theorem dX2_eliminate_89 : decode cX2_eliminate 89 = .ok (.istore 5, 2) := by decide +kernel
theorem dX2_eliminate_91 : decode cX2_eliminate 91 = .ok (.iload 5, 2) := by decide +kernel
theorem dX2_eliminate_93 : decode cX2_eliminate 93 = .ok (.aload_n 0, 1) := by decide +kernel
theorem dX2_eliminate_94 : decode cX2_eliminate 94 = .ok (.getfield 91, 3) := by decide +kernel
theorem dX2_eliminate_97 : decode cX2_eliminate 97 = .ok (.if_icmp .ge 24, 3) := by decide +kernel
theorem dX2_eliminate_100 : decode cX2_eliminate 100 = .ok (.aload_n 0, 1) := by decide +kernel
theorem dX2_eliminate_101 : decode cX2_eliminate 101 = .ok (.iload_n 3, 1) := by decide +kernel
theorem dX2_eliminate_102 : decode cX2_eliminate 102 = .ok (.aload_n 0, 1) := by decide +kernel
theorem dX2_eliminate_103 : decode cX2_eliminate 103 = .ok (.getfield 21, 3) := by decide +kernel
theorem dX2_eliminate_106 : decode cX2_eliminate 106 = .ok (.iload 5, 2) := by decide +kernel
theorem dX2_eliminate_108 : decode cX2_eliminate 108 = .ok (.iaload, 1) := by decide +kernel
theorem dX2_eliminate_109 : decode cX2_eliminate 109 = .ok (.iload_n 1, 1) := by decide +kernel
theorem dX2_eliminate_110 : decode cX2_eliminate 110 = .ok (.iload 4, 2) := by decide +kernel
theorem dX2_eliminate_112 : decode cX2_eliminate 112 = .ok (.invokevirtual 132, 3) := by decide +kernel
theorem dX2_eliminate_115 : decode cX2_eliminate 115 = .ok (.iinc 5 1, 3) := by decide +kernel
theorem dX2_eliminate_118 : decode cX2_eliminate 118 = .ok (.goto (-27), 3) := by decide +kernel
theorem dX2_eliminate_121 : decode cX2_eliminate 121 = .ok (.iinc 1 1, 3) := by decide +kernel
theorem dX2_eliminate_124 : decode cX2_eliminate 124 = .ok (.goto (-122), 3) := by decide +kernel
theorem dX2_eliminate_127 : decode cX2_eliminate 127 = .ok (.iconst 1, 1) := by decide +kernel
theorem dX2_eliminate_128 : decode cX2_eliminate 128 = .ok (.ireturn, 1) := by decide +kernel
theorem dX2_normalise_0 : decode cX2_normalise 0 = .ok (.aload_n 0, 1) := by decide +kernel
theorem dX2_normalise_1 : decode cX2_normalise 1 = .ok (.getfield 37, 3) := by decide +kernel
theorem dX2_normalise_4 : decode cX2_normalise 4 = .ok (.iload_n 1, 1) := by decide +kernel
theorem dX2_normalise_5 : decode cX2_normalise 5 = .ok (.iload_n 2, 1) := by decide +kernel
theorem dX2_normalise_6 : decode cX2_normalise 6 = .ok (.iadd, 1) := by decide +kernel
theorem dX2_normalise_7 : decode cX2_normalise 7 = .ok (.iaload, 1) := by decide +kernel
theorem dX2_normalise_8 : decode cX2_normalise 8 = .ok (.iconst 1, 1) := by decide +kernel
theorem dX2_normalise_9 : decode cX2_normalise 9 = .ok (.if_icmp .ne 7, 3) := by decide +kernel
theorem dX2_normalise_12 : decode cX2_normalise 12 = .ok (.iconst 1, 1) := by decide +kernel
theorem dX2_normalise_13 : decode cX2_normalise 13 = .ok (.goto 14, 3) := by decide +kernel
theorem dX2_normalise_16 : decode cX2_normalise 16 = .ok (.aload_n 0, 1) := by decide +kernel
theorem dX2_normalise_17 : decode cX2_normalise 17 = .ok (.getfield 37, 3) := by decide +kernel
theorem dX2_normalise_20 : decode cX2_normalise 20 = .ok (.iload_n 1, 1) := by decide +kernel
theorem dX2_normalise_21 : decode cX2_normalise 21 = .ok (.iload_n 2, 1) := by decide +kernel
theorem dX2_normalise_22 : decode cX2_normalise 22 = .ok (.iadd, 1) := by decide +kernel
theorem dX2_normalise_23 : decode cX2_normalise 23 = .ok (.iaload, 1) := by decide +kernel
theorem dX2_normalise_24 : decode cX2_normalise 24 = .ok (.invokestatic 75, 3) := by decide +kernel
theorem dX2_normalise_27 : decode cX2_normalise 27 = .ok (.istore_n 3, 1) := by decide +kernel
theorem dX2_normalise_28 : decode cX2_normalise 28 = .ok (.iconst 0, 1) := by decide +kernel
theorem dX2_normalise_29 : decode cX2_normalise 29 = .ok (.istore 4, 2) := by decide +kernel
theorem dX2_normalise_31 : decode cX2_normalise 31 = .ok (.iload_n 2, 1) := by decide +kernel
theorem dX2_normalise_32 : decode cX2_normalise 32 = .ok (.istore 5, 2) := by decide +kernel
theorem dX2_normalise_34 : decode cX2_normalise 34 = .ok (.iload 5, 2) := by decide +kernel
theorem dX2_normalise_36 : decode cX2_normalise 36 = .ok (.aload_n 0, 1) := by decide +kernel
theorem dX2_normalise_37 : decode cX2_normalise 37 = .ok (.getfield 91, 3) := by decide +kernel
theorem dX2_normalise_40 : decode cX2_normalise 40 = .ok (.if_icmp .gt 55, 3) := by decide +kernel
theorem dX2_normalise_43 : decode cX2_normalise 43 = .ok (.aload_n 0, 1) := by decide +kernel
theorem dX2_normalise_44 : decode cX2_normalise 44 = .ok (.getfield 37, 3) := by decide +kernel
theorem dX2_normalise_47 : decode cX2_normalise 47 = .ok (.iload_n 1, 1) := by decide +kernel
theorem dX2_normalise_48 : decode cX2_normalise 48 = .ok (.iload 5, 2) := by decide +kernel
theorem dX2_normalise_50 : decode cX2_normalise 50 = .ok (.iadd, 1) := by decide +kernel
theorem dX2_normalise_51 : decode cX2_normalise 51 = .ok (.iaload, 1) := by decide +kernel
theorem dX2_normalise_52 : decode cX2_normalise 52 = .ok (.ifCond .eq 37, 3) := by decide +kernel
theorem dX2_normalise_55 : decode cX2_normalise 55 = .ok (.aload_n 0, 1) := by decide +kernel
theorem dX2_normalise_56 : decode cX2_normalise 56 = .ok (.getfield 37, 3) := by decide +kernel
theorem dX2_normalise_59 : decode cX2_normalise 59 = .ok (.iload_n 1, 1) := by decide +kernel
theorem dX2_normalise_60 : decode cX2_normalise 60 = .ok (.iload 5, 2) := by decide +kernel
theorem dX2_normalise_62 : decode cX2_normalise 62 = .ok (.iadd, 1) := by decide +kernel
theorem dX2_normalise_63 : decode cX2_normalise 63 = .ok (.aload_n 0, 1) := by decide +kernel
theorem dX2_normalise_64 : decode cX2_normalise 64 = .ok (.getfield 37, 3) := by decide +kernel
theorem dX2_normalise_67 : decode cX2_normalise 67 = .ok (.iload_n 1, 1) := by decide +kernel
theorem dX2_normalise_68 : decode cX2_normalise 68 = .ok (.iload 5, 2) := by decide +kernel
theorem dX2_normalise_70 : decode cX2_normalise 70 = .ok (.iadd, 1) := by decide +kernel
theorem dX2_normalise_71 : decode cX2_normalise 71 = .ok (.iaload, 1) := by decide +kernel
theorem dX2_normalise_72 : decode cX2_normalise 72 = .ok (.iload_n 3, 1) := by decide +kernel
theorem dX2_normalise_73 : decode cX2_normalise 73 = .ok (.invokestatic 81, 3) := by decide +kernel
theorem dX2_normalise_76 : decode cX2_normalise 76 = .ok (.iastore, 1) := by decide +kernel
theorem dX2_normalise_77 : decode cX2_normalise 77 = .ok (.aload_n 0, 1) := by decide +kernel
theorem dX2_normalise_78 : decode cX2_normalise 78 = .ok (.getfield 24, 3) := by decide +kernel
theorem dX2_normalise_81 : decode cX2_normalise 81 = .ok (.iload 4, 2) := by decide +kernel
theorem dX2_normalise_83 : decode cX2_normalise 83 = .ok (.iload 5, 2) := by decide +kernel
theorem dX2_normalise_85 : decode cX2_normalise 85 = .ok (.iastore, 1) := by decide +kernel
theorem dX2_normalise_86 : decode cX2_normalise 86 = .ok (.iinc 4 1, 3) := by decide +kernel
theorem dX2_normalise_89 : decode cX2_normalise 89 = .ok (.iinc 5 1, 3) := by decide +kernel
theorem dX2_normalise_92 : decode cX2_normalise 92 = .ok (.goto (-58), 3) := by decide +kernel
theorem dX2_normalise_95 : decode cX2_normalise 95 = .ok (.iload 4, 2) := by decide +kernel
theorem dX2_normalise_97 : decode cX2_normalise 97 = .ok (.ireturn, 1) := by decide +kernel
theorem dX2_takeAway_0 : decode cX2_takeAway 0 = .ok (.aload_n 0, 1) := by decide +kernel
theorem dX2_takeAway_1 : decode cX2_takeAway 1 = .ok (.getfield 37, 3) := by decide +kernel
theorem dX2_takeAway_4 : decode cX2_takeAway 4 = .ok (.iload_n 2, 1) := by decide +kernel
theorem dX2_takeAway_5 : decode cX2_takeAway 5 = .ok (.iload_n 3, 1) := by decide +kernel
theorem dX2_takeAway_6 : decode cX2_takeAway 6 = .ok (.iadd, 1) := by decide +kernel
theorem dX2_takeAway_7 : decode cX2_takeAway 7 = .ok (.iaload, 1) := by decide +kernel
theorem dX2_takeAway_8 : decode cX2_takeAway 8 = .ok (.istore 5, 2) := by decide +kernel
theorem dX2_takeAway_10 : decode cX2_takeAway 10 = .ok (.iload 5, 2) := by decide +kernel
theorem dX2_takeAway_12 : decode cX2_takeAway 12 = .ok (.ifCond .ne 4, 3) := by decide +kernel
theorem dX2_takeAway_15 : decode cX2_takeAway 15 = .ok (.return_, 1) := by decide +kernel
theorem dX2_takeAway_16 : decode cX2_takeAway 16 = .ok (.iconst 0, 1) := by decide +kernel
theorem dX2_takeAway_17 : decode cX2_takeAway 17 = .ok (.istore 6, 2) := by decide +kernel
theorem dX2_takeAway_19 : decode cX2_takeAway 19 = .ok (.iload 6, 2) := by decide +kernel
theorem dX2_takeAway_21 : decode cX2_takeAway 21 = .ok (.iload 4, 2) := by decide +kernel
theorem dX2_takeAway_23 : decode cX2_takeAway 23 = .ok (.if_icmp .ge 53, 3) := by decide +kernel
theorem dX2_takeAway_26 : decode cX2_takeAway 26 = .ok (.aload_n 0, 1) := by decide +kernel
theorem dX2_takeAway_27 : decode cX2_takeAway 27 = .ok (.getfield 24, 3) := by decide +kernel
theorem dX2_takeAway_30 : decode cX2_takeAway 30 = .ok (.iload 6, 2) := by decide +kernel
theorem dX2_takeAway_32 : decode cX2_takeAway 32 = .ok (.iaload, 1) := by decide +kernel
theorem dX2_takeAway_33 : decode cX2_takeAway 33 = .ok (.istore 7, 2) := by decide +kernel
theorem dX2_takeAway_35 : decode cX2_takeAway 35 = .ok (.aload_n 0, 1) := by decide +kernel
theorem dX2_takeAway_36 : decode cX2_takeAway 36 = .ok (.getfield 37, 3) := by decide +kernel
theorem dX2_takeAway_39 : decode cX2_takeAway 39 = .ok (.iload_n 2, 1) := by decide +kernel
theorem dX2_takeAway_40 : decode cX2_takeAway 40 = .ok (.iload 7, 2) := by decide +kernel
theorem dX2_takeAway_42 : decode cX2_takeAway 42 = .ok (.iadd, 1) := by decide +kernel
theorem dX2_takeAway_43 : decode cX2_takeAway 43 = .ok (.aload_n 0, 1) := by decide +kernel
theorem dX2_takeAway_44 : decode cX2_takeAway 44 = .ok (.getfield 37, 3) := by decide +kernel
theorem dX2_takeAway_47 : decode cX2_takeAway 47 = .ok (.iload_n 2, 1) := by decide +kernel
theorem dX2_takeAway_48 : decode cX2_takeAway 48 = .ok (.iload 7, 2) := by decide +kernel
theorem dX2_takeAway_50 : decode cX2_takeAway 50 = .ok (.iadd, 1) := by decide +kernel
theorem dX2_takeAway_51 : decode cX2_takeAway 51 = .ok (.iaload, 1) := by decide +kernel
theorem dX2_takeAway_52 : decode cX2_takeAway 52 = .ok (.iload 5, 2) := by decide +kernel
theorem dX2_takeAway_54 : decode cX2_takeAway 54 = .ok (.aload_n 0, 1) := by decide +kernel
theorem dX2_takeAway_55 : decode cX2_takeAway 55 = .ok (.getfield 37, 3) := by decide +kernel
theorem dX2_takeAway_58 : decode cX2_takeAway 58 = .ok (.iload_n 1, 1) := by decide +kernel
theorem dX2_takeAway_59 : decode cX2_takeAway 59 = .ok (.iload 7, 2) := by decide +kernel
theorem dX2_takeAway_61 : decode cX2_takeAway 61 = .ok (.iadd, 1) := by decide +kernel
theorem dX2_takeAway_62 : decode cX2_takeAway 62 = .ok (.iaload, 1) := by decide +kernel
theorem dX2_takeAway_63 : decode cX2_takeAway 63 = .ok (.invokestatic 81, 3) := by decide +kernel
theorem dX2_takeAway_66 : decode cX2_takeAway 66 = .ok (.invokestatic 85, 3) := by decide +kernel
theorem dX2_takeAway_69 : decode cX2_takeAway 69 = .ok (.iastore, 1) := by decide +kernel
theorem dX2_takeAway_70 : decode cX2_takeAway 70 = .ok (.iinc 6 1, 3) := by decide +kernel
theorem dX2_takeAway_73 : decode cX2_takeAway 73 = .ok (.goto (-54), 3) := by decide +kernel
theorem dX2_takeAway_76 : decode cX2_takeAway 76 = .ok (.return_, 1) := by decide +kernel
theorem dX2_substitute_0 : decode cX2_substitute 0 = .ok (.aload_n 0, 1) := by decide +kernel
theorem dX2_substitute_1 : decode cX2_substitute 1 = .ok (.getfield 91, 3) := by decide +kernel
theorem dX2_substitute_4 : decode cX2_substitute 4 = .ok (.iconst 1, 1) := by decide +kernel
theorem dX2_substitute_5 : decode cX2_substitute 5 = .ok (.isub, 1) := by decide +kernel
theorem dX2_substitute_6 : decode cX2_substitute 6 = .ok (.istore_n 1, 1) := by decide +kernel
theorem dX2_substitute_7 : decode cX2_substitute 7 = .ok (.iload_n 1, 1) := by decide +kernel
theorem dX2_substitute_8 : decode cX2_substitute 8 = .ok (.ifCond .lt 97, 3) := by decide +kernel
theorem dX2_substitute_11 : decode cX2_substitute 11 = .ok (.aload_n 0, 1) := by decide +kernel
theorem dX2_substitute_12 : decode cX2_substitute 12 = .ok (.getfield 37, 3) := by decide +kernel
theorem dX2_substitute_15 : decode cX2_substitute 15 = .ok (.aload_n 0, 1) := by decide +kernel
theorem dX2_substitute_16 : decode cX2_substitute 16 = .ok (.getfield 21, 3) := by decide +kernel
theorem dX2_substitute_19 : decode cX2_substitute 19 = .ok (.iload_n 1, 1) := by decide +kernel
theorem dX2_substitute_20 : decode cX2_substitute 20 = .ok (.iaload, 1) := by decide +kernel
theorem dX2_substitute_21 : decode cX2_substitute 21 = .ok (.aload_n 0, 1) := by decide +kernel
theorem dX2_substitute_22 : decode cX2_substitute 22 = .ok (.getfield 91, 3) := by decide +kernel
theorem dX2_substitute_25 : decode cX2_substitute 25 = .ok (.iadd, 1) := by decide +kernel
theorem dX2_substitute_26 : decode cX2_substitute 26 = .ok (.iaload, 1) := by decide +kernel
theorem dX2_substitute_27 : decode cX2_substitute 27 = .ok (.istore_n 2, 1) := by decide +kernel
theorem dX2_substitute_28 : decode cX2_substitute 28 = .ok (.iload_n 1, 1) := by decide +kernel
theorem dX2_substitute_29 : decode cX2_substitute 29 = .ok (.iconst 1, 1) := by decide +kernel
theorem dX2_substitute_30 : decode cX2_substitute 30 = .ok (.iadd, 1) := by decide +kernel
theorem dX2_substitute_31 : decode cX2_substitute 31 = .ok (.istore_n 3, 1) := by decide +kernel
theorem dX2_substitute_32 : decode cX2_substitute 32 = .ok (.iload_n 3, 1) := by decide +kernel
theorem dX2_substitute_33 : decode cX2_substitute 33 = .ok (.aload_n 0, 1) := by decide +kernel
theorem dX2_substitute_34 : decode cX2_substitute 34 = .ok (.getfield 91, 3) := by decide +kernel
theorem dX2_substitute_37 : decode cX2_substitute 37 = .ok (.if_icmp .ge 50, 3) := by decide +kernel
theorem dX2_substitute_40 : decode cX2_substitute 40 = .ok (.aload_n 0, 1) := by decide +kernel
theorem dX2_substitute_41 : decode cX2_substitute 41 = .ok (.getfield 37, 3) := by decide +kernel
theorem dX2_substitute_44 : decode cX2_substitute 44 = .ok (.aload_n 0, 1) := by decide +kernel
theorem dX2_substitute_45 : decode cX2_substitute 45 = .ok (.getfield 21, 3) := by decide +kernel
theorem dX2_substitute_48 : decode cX2_substitute 48 = .ok (.iload_n 1, 1) := by decide +kernel
theorem dX2_substitute_49 : decode cX2_substitute 49 = .ok (.iaload, 1) := by decide +kernel
theorem dX2_substitute_50 : decode cX2_substitute 50 = .ok (.iload_n 3, 1) := by decide +kernel
theorem dX2_substitute_51 : decode cX2_substitute 51 = .ok (.iadd, 1) := by decide +kernel
theorem dX2_substitute_52 : decode cX2_substitute 52 = .ok (.iaload, 1) := by decide +kernel
theorem dX2_substitute_53 : decode cX2_substitute 53 = .ok (.istore 4, 2) := by decide +kernel
theorem dX2_substitute_55 : decode cX2_substitute 55 = .ok (.iload 4, 2) := by decide +kernel
theorem dX2_substitute_57 : decode cX2_substitute 57 = .ok (.ifCond .eq 24, 3) := by decide +kernel
theorem dX2_substitute_60 : decode cX2_substitute 60 = .ok (.iload_n 2, 1) := by decide +kernel
theorem dX2_substitute_61 : decode cX2_substitute 61 = .ok (.iload 4, 2) := by decide +kernel
theorem dX2_substitute_63 : decode cX2_substitute 63 = .ok (.aload_n 0, 1) := by decide +kernel
theorem dX2_substitute_64 : decode cX2_substitute 64 = .ok (.getfield 9, 3) := by decide +kernel
theorem dX2_substitute_67 : decode cX2_substitute 67 = .ok (.aload_n 0, 1) := by decide +kernel
theorem dX2_substitute_68 : decode cX2_substitute 68 = .ok (.getfield 15, 3) := by decide +kernel
theorem dX2_substitute_71 : decode cX2_substitute 71 = .ok (.iload_n 3, 1) := by decide +kernel
theorem dX2_substitute_72 : decode cX2_substitute 72 = .ok (.iaload, 1) := by decide +kernel
theorem dX2_substitute_73 : decode cX2_substitute 73 = .ok (.iaload, 1) := by decide +kernel
theorem dX2_substitute_74 : decode cX2_substitute 74 = .ok (.invokestatic 81, 3) := by decide +kernel
theorem dX2_substitute_77 : decode cX2_substitute 77 = .ok (.invokestatic 85, 3) := by decide +kernel
theorem dX2_substitute_80 : decode cX2_substitute 80 = .ok (.istore_n 2, 1) := by decide +kernel
theorem dX2_substitute_81 : decode cX2_substitute 81 = .ok (.iinc 3 1, 3) := by decide +kernel
theorem dX2_substitute_84 : decode cX2_substitute 84 = .ok (.goto (-52), 3) := by decide +kernel
theorem dX2_substitute_87 : decode cX2_substitute 87 = .ok (.aload_n 0, 1) := by decide +kernel
theorem dX2_substitute_88 : decode cX2_substitute 88 = .ok (.getfield 9, 3) := by decide +kernel
theorem dX2_substitute_91 : decode cX2_substitute 91 = .ok (.aload_n 0, 1) := by decide +kernel
theorem dX2_substitute_92 : decode cX2_substitute 92 = .ok (.getfield 15, 3) := by decide +kernel
theorem dX2_substitute_95 : decode cX2_substitute 95 = .ok (.iload_n 1, 1) := by decide +kernel
theorem dX2_substitute_96 : decode cX2_substitute 96 = .ok (.iaload, 1) := by decide +kernel
theorem dX2_substitute_97 : decode cX2_substitute 97 = .ok (.iload_n 2, 1) := by decide +kernel
theorem dX2_substitute_98 : decode cX2_substitute 98 = .ok (.iastore, 1) := by decide +kernel
theorem dX2_substitute_99 : decode cX2_substitute 99 = .ok (.iinc 1 (-1), 3) := by decide +kernel
theorem dX2_substitute_102 : decode cX2_substitute 102 = .ok (.goto (-95), 3) := by decide +kernel
theorem dX2_substitute_105 : decode cX2_substitute 105 = .ok (.return_, 1) := by decide +kernel
theorem dX2_passOn_0 : decode cX2_passOn 0 = .ok (.iconst 0, 1) := by decide +kernel
theorem dX2_passOn_1 : decode cX2_passOn 1 = .ok (.istore_n 2, 1) := by decide +kernel
theorem dX2_passOn_2 : decode cX2_passOn 2 = .ok (.iload_n 2, 1) := by decide +kernel
theorem dX2_passOn_3 : decode cX2_passOn 3 = .ok (.aload_n 1, 1) := by decide +kernel
theorem dX2_passOn_4 : decode cX2_passOn 4 = .ok (.getfield 94, 3) := by decide +kernel
theorem dX2_passOn_7 : decode cX2_passOn 7 = .ok (.if_icmp .ge 43, 3) := by decide +kernel
theorem dX2_passOn_10 : decode cX2_passOn 10 = .ok (.aload_n 0, 1) := by decide +kernel
theorem dX2_passOn_11 : decode cX2_passOn 11 = .ok (.getfield 18, 3) := by decide +kernel
theorem dX2_passOn_14 : decode cX2_passOn 14 = .ok (.iload_n 2, 1) := by decide +kernel
theorem dX2_passOn_15 : decode cX2_passOn 15 = .ok (.iaload, 1) := by decide +kernel
theorem dX2_passOn_16 : decode cX2_passOn 16 = .ok (.iconst (-1), 1) := by decide +kernel
theorem dX2_passOn_17 : decode cX2_passOn 17 = .ok (.if_icmp .ne 27, 3) := by decide +kernel
theorem dX2_passOn_20 : decode cX2_passOn 20 = .ok (.aload_n 0, 1) := by decide +kernel
theorem dX2_passOn_21 : decode cX2_passOn 21 = .ok (.getfield 9, 3) := by decide +kernel
theorem dX2_passOn_24 : decode cX2_passOn 24 = .ok (.iload_n 2, 1) := by decide +kernel
theorem dX2_passOn_25 : decode cX2_passOn 25 = .ok (.iload_n 2, 1) := by decide +kernel
theorem dX2_passOn_26 : decode cX2_passOn 26 = .ok (.ifCond .ne 16, 3) := by decide +kernel
theorem dX2_passOn_29 : decode cX2_passOn 29 = .ok (.aload_n 1, 1) := by decide +kernel
theorem dX2_passOn_30 : decode cX2_passOn 30 = .ok (.getfield 97, 3) := by decide +kernel
theorem dX2_passOn_33 : decode cX2_passOn 33 = .ok (.iconst 0, 1) := by decide +kernel
theorem dX2_passOn_34 : decode cX2_passOn 34 = .ok (.baload, 1) := by decide +kernel
theorem dX2_passOn_35 : decode cX2_passOn 35 = .ok (.ifCond .ne 7, 3) := by decide +kernel
theorem dX2_passOn_38 : decode cX2_passOn 38 = .ok (.iconst 1, 1) := by decide +kernel
theorem dX2_passOn_39 : decode cX2_passOn 39 = .ok (.goto 4, 3) := by decide +kernel
theorem dX2_passOn_42 : decode cX2_passOn 42 = .ok (.iconst 0, 1) := by decide +kernel
theorem dX2_passOn_43 : decode cX2_passOn 43 = .ok (.iastore, 1) := by decide +kernel
theorem dX2_passOn_44 : decode cX2_passOn 44 = .ok (.iinc 2 1, 3) := by decide +kernel
theorem dX2_passOn_47 : decode cX2_passOn 47 = .ok (.goto (-45), 3) := by decide +kernel
theorem dX2_passOn_50 : decode cX2_passOn 50 = .ok (.iconst 0, 1) := by decide +kernel
theorem dX2_passOn_51 : decode cX2_passOn 51 = .ok (.istore_n 2, 1) := by decide +kernel
theorem dX2_passOn_52 : decode cX2_passOn 52 = .ok (.iload_n 2, 1) := by decide +kernel
theorem dX2_passOn_53 : decode cX2_passOn 53 = .ok (.aload_n 0, 1) := by decide +kernel
theorem dX2_passOn_54 : decode cX2_passOn 54 = .ok (.getfield 91, 3) := by decide +kernel
theorem dX2_passOn_57 : decode cX2_passOn 57 = .ok (.if_icmp .ge 113, 3) := by decide +kernel
theorem dX2_passOn_60 : decode cX2_passOn 60 = .ok (.aload_n 0, 1) := by decide +kernel
theorem dX2_passOn_61 : decode cX2_passOn 61 = .ok (.getfield 15, 3) := by decide +kernel
theorem dX2_passOn_64 : decode cX2_passOn 64 = .ok (.iload_n 2, 1) := by decide +kernel
theorem dX2_passOn_65 : decode cX2_passOn 65 = .ok (.iaload, 1) := by decide +kernel
theorem dX2_passOn_66 : decode cX2_passOn 66 = .ok (.istore_n 3, 1) := by decide +kernel
theorem dX2_passOn_67 : decode cX2_passOn 67 = .ok (.aload_n 0, 1) := by decide +kernel
theorem dX2_passOn_68 : decode cX2_passOn 68 = .ok (.getfield 9, 3) := by decide +kernel
theorem dX2_passOn_71 : decode cX2_passOn 71 = .ok (.iload_n 3, 1) := by decide +kernel
theorem dX2_passOn_72 : decode cX2_passOn 72 = .ok (.iaload, 1) := by decide +kernel
theorem dX2_passOn_73 : decode cX2_passOn 73 = .ok (.invokestatic 126, 3) := by decide +kernel
theorem dX2_passOn_76 : decode cX2_passOn 76 = .ok (.istore 4, 2) := by decide +kernel
theorem dX2_passOn_78 : decode cX2_passOn 78 = .ok (.aload_n 1, 1) := by decide +kernel
theorem dX2_passOn_79 : decode cX2_passOn 79 = .ok (.getfield 117, 3) := by decide +kernel
theorem dX2_passOn_82 : decode cX2_passOn 82 = .ok (.iload_n 3, 1) := by decide +kernel
theorem dX2_passOn_83 : decode cX2_passOn 83 = .ok (.iaload, 1) := by decide +kernel
theorem dX2_passOn_84 : decode cX2_passOn 84 = .ok (.istore 5, 2) := by decide +kernel
theorem dX2_passOn_86 : decode cX2_passOn 86 = .ok (.iload 5, 2) := by decide +kernel
theorem dX2_passOn_88 : decode cX2_passOn 88 = .ok (.aload_n 1, 1) := by decide +kernel
theorem dX2_passOn_89 : decode cX2_passOn 89 = .ok (.getfield 117, 3) := by decide +kernel
theorem dX2_passOn_92 : decode cX2_passOn 92 = .ok (.iload_n 3, 1) := by decide +kernel
theorem dX2_passOn_93 : decode cX2_passOn 93 = .ok (.iconst 1, 1) := by decide +kernel
theorem dX2_passOn_94 : decode cX2_passOn 94 = .ok (.iadd, 1) := by decide +kernel
theorem dX2_passOn_95 : decode cX2_passOn 95 = .ok (.iaload, 1) := by decide +kernel
theorem dX2_passOn_96 : decode cX2_passOn 96 = .ok (.if_icmp .ge 68, 3) := by decide +kernel
theorem dX2_passOn_99 : decode cX2_passOn 99 = .ok (.aload_n 1, 1) := by decide +kernel
theorem dX2_passOn_100 : decode cX2_passOn 100 = .ok (.getfield 120, 3) := by decide +kernel
theorem dX2_passOn_103 : decode cX2_passOn 103 = .ok (.iload 5, 2) := by decide +kernel
theorem dX2_passOn_105 : decode cX2_passOn 105 = .ok (.iaload, 1) := by decide +kernel
theorem dX2_passOn_106 : decode cX2_passOn 106 = .ok (.istore 6, 2) := by decide +kernel
theorem dX2_passOn_108 : decode cX2_passOn 108 = .ok (.aload_n 1, 1) := by decide +kernel
theorem dX2_passOn_109 : decode cX2_passOn 109 = .ok (.getfield 97, 3) := by decide +kernel
theorem dX2_passOn_112 : decode cX2_passOn 112 = .ok (.iload 6, 2) := by decide +kernel
theorem dX2_passOn_114 : decode cX2_passOn 114 = .ok (.baload, 1) := by decide +kernel
theorem dX2_passOn_115 : decode cX2_passOn 115 = .ok (.ifCond .ne 43, 3) := by decide +kernel
theorem dX2_passOn_118 : decode cX2_passOn 118 = .ok (.aload_n 0, 1) := by decide +kernel
theorem dX2_passOn_119 : decode cX2_passOn 119 = .ok (.getfield 18, 3) := by decide +kernel
theorem dX2_passOn_122 : decode cX2_passOn 122 = .ok (.iload 6, 2) := by decide +kernel
theorem dX2_passOn_124 : decode cX2_passOn 124 = .ok (.iaload, 1) := by decide +kernel
theorem dX2_passOn_125 : decode cX2_passOn 125 = .ok (.iconst (-1), 1) := by decide +kernel
theorem dX2_passOn_126 : decode cX2_passOn 126 = .ok (.if_icmp .ne 32, 3) := by decide +kernel
theorem dX2_passOn_129 : decode cX2_passOn 129 = .ok (.aload_n 0, 1) := by decide +kernel
theorem dX2_passOn_130 : decode cX2_passOn 130 = .ok (.getfield 9, 3) := by decide +kernel
theorem dX2_passOn_133 : decode cX2_passOn 133 = .ok (.iload 6, 2) := by decide +kernel
theorem dX2_passOn_135 : decode cX2_passOn 135 = .ok (.aload_n 0, 1) := by decide +kernel
theorem dX2_passOn_136 : decode cX2_passOn 136 = .ok (.getfield 9, 3) := by decide +kernel
theorem dX2_passOn_139 : decode cX2_passOn 139 = .ok (.iload 6, 2) := by decide +kernel
theorem dX2_passOn_141 : decode cX2_passOn 141 = .ok (.iaload, 1) := by decide +kernel
theorem dX2_passOn_142 : decode cX2_passOn 142 = .ok (.iload 4, 2) := by decide +kernel
theorem dX2_passOn_144 : decode cX2_passOn 144 = .ok (.aload_n 1, 1) := by decide +kernel
theorem dX2_passOn_145 : decode cX2_passOn 145 = .ok (.getfield 123, 3) := by decide +kernel
theorem dX2_passOn_148 : decode cX2_passOn 148 = .ok (.iload 5, 2) := by decide +kernel
theorem dX2_passOn_150 : decode cX2_passOn 150 = .ok (.iaload, 1) := by decide +kernel
theorem dX2_passOn_151 : decode cX2_passOn 151 = .ok (.invokestatic 81, 3) := by decide +kernel
theorem dX2_passOn_154 : decode cX2_passOn 154 = .ok (.invokestatic 110, 3) := by decide +kernel
theorem dX2_passOn_157 : decode cX2_passOn 157 = .ok (.iastore, 1) := by decide +kernel
theorem dX2_passOn_158 : decode cX2_passOn 158 = .ok (.iinc 5 1, 3) := by decide +kernel
theorem dX2_passOn_161 : decode cX2_passOn 161 = .ok (.goto (-75), 3) := by decide +kernel
theorem dX2_passOn_164 : decode cX2_passOn 164 = .ok (.iinc 2 1, 3) := by decide +kernel
theorem dX2_passOn_167 : decode cX2_passOn 167 = .ok (.goto (-115), 3) := by decide +kernel
theorem dX2_passOn_170 : decode cX2_passOn 170 = .ok (.return_, 1) := by decide +kernel
theorem dX2_addUp_0 : decode cX2_addUp 0 = .ok (.aload_n 0, 1) := by decide +kernel
theorem dX2_addUp_1 : decode cX2_addUp 1 = .ok (.iconst 0, 1) := by decide +kernel
theorem dX2_addUp_2 : decode cX2_addUp 2 = .ok (.putfield 72, 3) := by decide +kernel
theorem dX2_addUp_5 : decode cX2_addUp 5 = .ok (.aload_n 0, 1) := by decide +kernel
theorem dX2_addUp_6 : decode cX2_addUp 6 = .ok (.iconst 0, 1) := by decide +kernel
theorem dX2_addUp_7 : decode cX2_addUp 7 = .ok (.putfield 88, 3) := by decide +kernel
theorem dX2_addUp_10 : decode cX2_addUp 10 = .ok (.aload_n 0, 1) := by decide +kernel
theorem dX2_addUp_11 : decode cX2_addUp 11 = .ok (.iconst 0, 1) := by decide +kernel
theorem dX2_addUp_12 : decode cX2_addUp 12 = .ok (.putfield 136, 3) := by decide +kernel
theorem dX2_addUp_15 : decode cX2_addUp 15 = .ok (.iconst 0, 1) := by decide +kernel
theorem dX2_addUp_16 : decode cX2_addUp 16 = .ok (.istore_n 2, 1) := by decide +kernel
theorem dX2_addUp_17 : decode cX2_addUp 17 = .ok (.iload_n 2, 1) := by decide +kernel
theorem dX2_addUp_18 : decode cX2_addUp 18 = .ok (.aload_n 1, 1) := by decide +kernel
theorem dX2_addUp_19 : decode cX2_addUp 19 = .ok (.getfield 94, 3) := by decide +kernel
theorem dX2_addUp_22 : decode cX2_addUp 22 = .ok (.if_icmp .ge 82, 3) := by decide +kernel
theorem dX2_addUp_25 : decode cX2_addUp 25 = .ok (.aload_n 1, 1) := by decide +kernel
theorem dX2_addUp_26 : decode cX2_addUp 26 = .ok (.iload_n 2, 1) := by decide +kernel
theorem dX2_addUp_27 : decode cX2_addUp 27 = .ok (.invokevirtual 139, 3) := by decide +kernel
theorem dX2_addUp_30 : decode cX2_addUp 30 = .ok (.ifCond .eq 23, 3) := by decide +kernel
theorem dX2_addUp_33 : decode cX2_addUp 33 = .ok (.aload_n 0, 1) := by decide +kernel
theorem dX2_addUp_34 : decode cX2_addUp 34 = .ok (.aload_n 0, 1) := by decide +kernel
theorem dX2_addUp_35 : decode cX2_addUp 35 = .ok (.getfield 72, 3) := by decide +kernel
theorem dX2_addUp_38 : decode cX2_addUp 38 = .ok (.aload_n 0, 1) := by decide +kernel
theorem dX2_addUp_39 : decode cX2_addUp 39 = .ok (.getfield 9, 3) := by decide +kernel
theorem dX2_addUp_42 : decode cX2_addUp 42 = .ok (.iload_n 2, 1) := by decide +kernel
theorem dX2_addUp_43 : decode cX2_addUp 43 = .ok (.iaload, 1) := by decide +kernel
theorem dX2_addUp_44 : decode cX2_addUp 44 = .ok (.invokestatic 110, 3) := by decide +kernel
theorem dX2_addUp_47 : decode cX2_addUp 47 = .ok (.putfield 72, 3) := by decide +kernel
theorem dX2_addUp_50 : decode cX2_addUp 50 = .ok (.goto 48, 3) := by decide +kernel
theorem dX2_addUp_53 : decode cX2_addUp 53 = .ok (.aload_n 1, 1) := by decide +kernel
theorem dX2_addUp_54 : decode cX2_addUp 54 = .ok (.iload_n 2, 1) := by decide +kernel
theorem dX2_addUp_55 : decode cX2_addUp 55 = .ok (.invokevirtual 143, 3) := by decide +kernel
theorem dX2_addUp_58 : decode cX2_addUp 58 = .ok (.ifCond .eq 23, 3) := by decide +kernel
theorem dX2_addUp_61 : decode cX2_addUp 61 = .ok (.aload_n 0, 1) := by decide +kernel
theorem dX2_addUp_62 : decode cX2_addUp 62 = .ok (.aload_n 0, 1) := by decide +kernel
theorem dX2_addUp_63 : decode cX2_addUp 63 = .ok (.getfield 88, 3) := by decide +kernel
theorem dX2_addUp_66 : decode cX2_addUp 66 = .ok (.aload_n 0, 1) := by decide +kernel
theorem dX2_addUp_67 : decode cX2_addUp 67 = .ok (.getfield 9, 3) := by decide +kernel
theorem dX2_addUp_70 : decode cX2_addUp 70 = .ok (.iload_n 2, 1) := by decide +kernel
theorem dX2_addUp_71 : decode cX2_addUp 71 = .ok (.iaload, 1) := by decide +kernel
theorem dX2_addUp_72 : decode cX2_addUp 72 = .ok (.invokestatic 110, 3) := by decide +kernel
theorem dX2_addUp_75 : decode cX2_addUp 75 = .ok (.putfield 88, 3) := by decide +kernel
theorem dX2_addUp_78 : decode cX2_addUp 78 = .ok (.goto 20, 3) := by decide +kernel
theorem dX2_addUp_81 : decode cX2_addUp 81 = .ok (.aload_n 0, 1) := by decide +kernel
theorem dX2_addUp_82 : decode cX2_addUp 82 = .ok (.aload_n 0, 1) := by decide +kernel
theorem dX2_addUp_83 : decode cX2_addUp 83 = .ok (.getfield 136, 3) := by decide +kernel
theorem dX2_addUp_86 : decode cX2_addUp 86 = .ok (.aload_n 0, 1) := by decide +kernel
theorem dX2_addUp_87 : decode cX2_addUp 87 = .ok (.getfield 9, 3) := by decide +kernel
theorem dX2_addUp_90 : decode cX2_addUp 90 = .ok (.iload_n 2, 1) := by decide +kernel
theorem dX2_addUp_91 : decode cX2_addUp 91 = .ok (.iaload, 1) := by decide +kernel
theorem dX2_addUp_92 : decode cX2_addUp 92 = .ok (.invokestatic 110, 3) := by decide +kernel
theorem dX2_addUp_95 : decode cX2_addUp 95 = .ok (.putfield 136, 3) := by decide +kernel
theorem dX2_addUp_98 : decode cX2_addUp 98 = .ok (.iinc 2 1, 3) := by decide +kernel
theorem dX2_addUp_101 : decode cX2_addUp 101 = .ok (.goto (-84), 3) := by decide +kernel
theorem dX2_addUp_104 : decode cX2_addUp 104 = .ok (.return_, 1) := by decide +kernel
theorem dX2_coupleTogether_0 : decode cX2_coupleTogether 0 = .ok (.iconst 0, 1) := by decide +kernel
theorem dX2_coupleTogether_1 : decode cX2_coupleTogether 1 = .ok (.istore 6, 2) := by decide +kernel
theorem dX2_coupleTogether_3 : decode cX2_coupleTogether 3 = .ok (.iconst 0, 1) := by decide +kernel
theorem dX2_coupleTogether_4 : decode cX2_coupleTogether 4 = .ok (.istore 7, 2) := by decide +kernel
theorem dX2_coupleTogether_6 : decode cX2_coupleTogether 6 = .ok (.iload 7, 2) := by decide +kernel
theorem dX2_coupleTogether_8 : decode cX2_coupleTogether 8 = .ok (.aload_n 1, 1) := by decide +kernel
theorem dX2_coupleTogether_9 : decode cX2_coupleTogether 9 = .ok (.getfield 94, 3) := by decide +kernel
theorem dX2_coupleTogether_12 : decode cX2_coupleTogether 12 = .ok (.if_icmp .ge 64, 3) := by decide +kernel
theorem dX2_coupleTogether_15 : decode cX2_coupleTogether 15 = .ok (.aload_n 1, 1) := by decide +kernel
theorem dX2_coupleTogether_16 : decode cX2_coupleTogether 16 = .ok (.iload 7, 2) := by decide +kernel
theorem dX2_coupleTogether_18 : decode cX2_coupleTogether 18 = .ok (.invokevirtual 139, 3) := by decide +kernel
theorem dX2_coupleTogether_21 : decode cX2_coupleTogether 21 = .ok (.ifCond .eq 49, 3) := by decide +kernel
theorem dX2_coupleTogether_24 : decode cX2_coupleTogether 24 = .ok (.aload_n 1, 1) := by decide +kernel
theorem dX2_coupleTogether_25 : decode cX2_coupleTogether 25 = .ok (.getfield 146, 3) := by decide +kernel
theorem dX2_coupleTogether_28 : decode cX2_coupleTogether 28 = .ok (.iload 7, 2) := by decide +kernel
theorem dX2_coupleTogether_30 : decode cX2_coupleTogether 30 = .ok (.iaload, 1) := by decide +kernel
theorem dX2_coupleTogether_31 : decode cX2_coupleTogether 31 = .ok (.iload_n 2, 1) := by decide +kernel
theorem dX2_coupleTogether_32 : decode cX2_coupleTogether 32 = .ok (.invokestatic 149, 3) := by decide +kernel
theorem dX2_coupleTogether_35 : decode cX2_coupleTogether 35 = .ok (.iload_n 3, 1) := by decide +kernel
theorem dX2_coupleTogether_36 : decode cX2_coupleTogether 36 = .ok (.if_icmp .ne 34, 3) := by decide +kernel
theorem dX2_coupleTogether_39 : decode cX2_coupleTogether 39 = .ok (.aload_n 1, 1) := by decide +kernel
theorem dX2_coupleTogether_40 : decode cX2_coupleTogether 40 = .ok (.getfield 146, 3) := by decide +kernel
theorem dX2_coupleTogether_43 : decode cX2_coupleTogether 43 = .ok (.iload 7, 2) := by decide +kernel
theorem dX2_coupleTogether_45 : decode cX2_coupleTogether 45 = .ok (.iaload, 1) := by decide +kernel
theorem dX2_coupleTogether_46 : decode cX2_coupleTogether 46 = .ok (.iload 4, 2) := by decide +kernel
theorem dX2_coupleTogether_48 : decode cX2_coupleTogether 48 = .ok (.invokestatic 149, 3) := by decide +kernel
theorem dX2_coupleTogether_51 : decode cX2_coupleTogether 51 = .ok (.iload 5, 2) := by decide +kernel
theorem dX2_coupleTogether_53 : decode cX2_coupleTogether 53 = .ok (.if_icmp .ne 17, 3) := by decide +kernel
theorem dX2_coupleTogether_56 : decode cX2_coupleTogether 56 = .ok (.iload 6, 2) := by decide +kernel
theorem dX2_coupleTogether_58 : decode cX2_coupleTogether 58 = .ok (.aload_n 0, 1) := by decide +kernel
theorem dX2_coupleTogether_59 : decode cX2_coupleTogether 59 = .ok (.getfield 9, 3) := by decide +kernel
theorem dX2_coupleTogether_62 : decode cX2_coupleTogether 62 = .ok (.iload 7, 2) := by decide +kernel
theorem dX2_coupleTogether_64 : decode cX2_coupleTogether 64 = .ok (.iaload, 1) := by decide +kernel
theorem dX2_coupleTogether_65 : decode cX2_coupleTogether 65 = .ok (.invokestatic 110, 3) := by decide +kernel
theorem dX2_coupleTogether_68 : decode cX2_coupleTogether 68 = .ok (.istore 6, 2) := by decide +kernel
theorem dX2_coupleTogether_70 : decode cX2_coupleTogether 70 = .ok (.iinc 7 1, 3) := by decide +kernel
theorem dX2_coupleTogether_73 : decode cX2_coupleTogether 73 = .ok (.goto (-67), 3) := by decide +kernel
theorem dX2_coupleTogether_76 : decode cX2_coupleTogether 76 = .ok (.iload 6, 2) := by decide +kernel
theorem dX2_coupleTogether_78 : decode cX2_coupleTogether 78 = .ok (.ireturn, 1) := by decide +kernel
theorem dX2_valuesTogether_0 : decode cX2_valuesTogether 0 = .ok (.iconst 0, 1) := by decide +kernel
theorem dX2_valuesTogether_1 : decode cX2_valuesTogether 1 = .ok (.istore_n 3, 1) := by decide +kernel
theorem dX2_valuesTogether_2 : decode cX2_valuesTogether 2 = .ok (.iconst 0, 1) := by decide +kernel
theorem dX2_valuesTogether_3 : decode cX2_valuesTogether 3 = .ok (.istore 4, 2) := by decide +kernel
theorem dX2_valuesTogether_5 : decode cX2_valuesTogether 5 = .ok (.iload 4, 2) := by decide +kernel
theorem dX2_valuesTogether_7 : decode cX2_valuesTogether 7 = .ok (.aload_n 1, 1) := by decide +kernel
theorem dX2_valuesTogether_8 : decode cX2_valuesTogether 8 = .ok (.getfield 94, 3) := by decide +kernel
theorem dX2_valuesTogether_11 : decode cX2_valuesTogether 11 = .ok (.if_icmp .ge 44, 3) := by decide +kernel
theorem dX2_valuesTogether_14 : decode cX2_valuesTogether 14 = .ok (.aload_n 1, 1) := by decide +kernel
theorem dX2_valuesTogether_15 : decode cX2_valuesTogether 15 = .ok (.iload 4, 2) := by decide +kernel
theorem dX2_valuesTogether_17 : decode cX2_valuesTogether 17 = .ok (.invokevirtual 139, 3) := by decide +kernel
theorem dX2_valuesTogether_20 : decode cX2_valuesTogether 20 = .ok (.ifCond .eq 29, 3) := by decide +kernel
theorem dX2_valuesTogether_23 : decode cX2_valuesTogether 23 = .ok (.iload_n 3, 1) := by decide +kernel
theorem dX2_valuesTogether_24 : decode cX2_valuesTogether 24 = .ok (.aload_n 1, 1) := by decide +kernel
theorem dX2_valuesTogether_25 : decode cX2_valuesTogether 25 = .ok (.getfield 146, 3) := by decide +kernel
theorem dX2_valuesTogether_28 : decode cX2_valuesTogether 28 = .ok (.iload 4, 2) := by decide +kernel
theorem dX2_valuesTogether_30 : decode cX2_valuesTogether 30 = .ok (.iaload, 1) := by decide +kernel
theorem dX2_valuesTogether_31 : decode cX2_valuesTogether 31 = .ok (.iload_n 2, 1) := by decide +kernel
theorem dX2_valuesTogether_32 : decode cX2_valuesTogether 32 = .ok (.invokestatic 149, 3) := by decide +kernel
theorem dX2_valuesTogether_35 : decode cX2_valuesTogether 35 = .ok (.aload_n 0, 1) := by decide +kernel
theorem dX2_valuesTogether_36 : decode cX2_valuesTogether 36 = .ok (.getfield 9, 3) := by decide +kernel
theorem dX2_valuesTogether_39 : decode cX2_valuesTogether 39 = .ok (.iload 4, 2) := by decide +kernel
theorem dX2_valuesTogether_41 : decode cX2_valuesTogether 41 = .ok (.iaload, 1) := by decide +kernel
theorem dX2_valuesTogether_42 : decode cX2_valuesTogether 42 = .ok (.invokestatic 81, 3) := by decide +kernel
theorem dX2_valuesTogether_45 : decode cX2_valuesTogether 45 = .ok (.invokestatic 110, 3) := by decide +kernel
theorem dX2_valuesTogether_48 : decode cX2_valuesTogether 48 = .ok (.istore_n 3, 1) := by decide +kernel
theorem dX2_valuesTogether_49 : decode cX2_valuesTogether 49 = .ok (.iinc 4 1, 3) := by decide +kernel
theorem dX2_valuesTogether_52 : decode cX2_valuesTogether 52 = .ok (.goto (-47), 3) := by decide +kernel
theorem dX2_valuesTogether_55 : decode cX2_valuesTogether 55 = .ok (.iload_n 3, 1) := by decide +kernel
theorem dX2_valuesTogether_56 : decode cX2_valuesTogether 56 = .ok (.ireturn, 1) := by decide +kernel
theorem dX2_areIndependent_0 : decode cX2_areIndependent 0 = .ok (.aload_n 0, 1) := by decide +kernel
theorem dX2_areIndependent_1 : decode cX2_areIndependent 1 = .ok (.getfield 27, 3) := by decide +kernel
theorem dX2_areIndependent_4 : decode cX2_areIndependent 4 = .ok (.iconst 0, 1) := by decide +kernel
theorem dX2_areIndependent_5 : decode cX2_areIndependent 5 = .ok (.invokestatic 154, 3) := by decide +kernel
theorem dX2_areIndependent_8 : decode cX2_areIndependent 8 = .ok (.aload_n 0, 1) := by decide +kernel
theorem dX2_areIndependent_9 : decode cX2_areIndependent 9 = .ok (.getfield 30, 3) := by decide +kernel
theorem dX2_areIndependent_12 : decode cX2_areIndependent 12 = .ok (.iconst 0, 1) := by decide +kernel
theorem dX2_areIndependent_13 : decode cX2_areIndependent 13 = .ok (.invokestatic 154, 3) := by decide +kernel
theorem dX2_areIndependent_16 : decode cX2_areIndependent 16 = .ok (.aload_n 0, 1) := by decide +kernel
theorem dX2_areIndependent_17 : decode cX2_areIndependent 17 = .ok (.getfield 33, 3) := by decide +kernel
theorem dX2_areIndependent_20 : decode cX2_areIndependent 20 = .ok (.iconst 0, 1) := by decide +kernel
theorem dX2_areIndependent_21 : decode cX2_areIndependent 21 = .ok (.invokestatic 154, 3) := by decide +kernel
theorem dX2_areIndependent_24 : decode cX2_areIndependent 24 = .ok (.iconst 0, 1) := by decide +kernel
theorem dX2_areIndependent_25 : decode cX2_areIndependent 25 = .ok (.istore 4, 2) := by decide +kernel
theorem dX2_areIndependent_27 : decode cX2_areIndependent 27 = .ok (.iload 4, 2) := by decide +kernel
theorem dX2_areIndependent_29 : decode cX2_areIndependent 29 = .ok (.aload_n 1, 1) := by decide +kernel
theorem dX2_areIndependent_30 : decode cX2_areIndependent 30 = .ok (.getfield 94, 3) := by decide +kernel
theorem dX2_areIndependent_33 : decode cX2_areIndependent 33 = .ok (.if_icmp .ge 128, 3) := by decide +kernel
theorem dX2_areIndependent_36 : decode cX2_areIndependent 36 = .ok (.aload_n 1, 1) := by decide +kernel
theorem dX2_areIndependent_37 : decode cX2_areIndependent 37 = .ok (.iload 4, 2) := by decide +kernel
theorem dX2_areIndependent_39 : decode cX2_areIndependent 39 = .ok (.invokevirtual 139, 3) := by decide +kernel
theorem dX2_areIndependent_42 : decode cX2_areIndependent 42 = .ok (.ifCond .eq 113, 3) := by decide +kernel
theorem dX2_areIndependent_45 : decode cX2_areIndependent 45 = .ok (.aload_n 1, 1) := by decide +kernel
theorem dX2_areIndependent_46 : decode cX2_areIndependent 46 = .ok (.getfield 146, 3) := by decide +kernel
theorem dX2_areIndependent_49 : decode cX2_areIndependent 49 = .ok (.iload 4, 2) := by decide +kernel
theorem dX2_areIndependent_51 : decode cX2_areIndependent 51 = .ok (.iaload, 1) := by decide +kernel
theorem dX2_areIndependent_52 : decode cX2_areIndependent 52 = .ok (.iload_n 2, 1) := by decide +kernel
theorem dX2_areIndependent_53 : decode cX2_areIndependent 53 = .ok (.invokestatic 149, 3) := by decide +kernel
theorem dX2_areIndependent_56 : decode cX2_areIndependent 56 = .ok (.istore 5, 2) := by decide +kernel
theorem dX2_areIndependent_58 : decode cX2_areIndependent 58 = .ok (.aload_n 1, 1) := by decide +kernel
theorem dX2_areIndependent_59 : decode cX2_areIndependent 59 = .ok (.getfield 146, 3) := by decide +kernel
theorem dX2_areIndependent_62 : decode cX2_areIndependent 62 = .ok (.iload 4, 2) := by decide +kernel
theorem dX2_areIndependent_64 : decode cX2_areIndependent 64 = .ok (.iaload, 1) := by decide +kernel
theorem dX2_areIndependent_65 : decode cX2_areIndependent 65 = .ok (.iload_n 3, 1) := by decide +kernel
theorem dX2_areIndependent_66 : decode cX2_areIndependent 66 = .ok (.invokestatic 149, 3) := by decide +kernel
theorem dX2_areIndependent_69 : decode cX2_areIndependent 69 = .ok (.istore 6, 2) := by decide +kernel
theorem dX2_areIndependent_71 : decode cX2_areIndependent 71 = .ok (.aload_n 0, 1) := by decide +kernel
theorem dX2_areIndependent_72 : decode cX2_areIndependent 72 = .ok (.getfield 27, 3) := by decide +kernel
theorem dX2_areIndependent_75 : decode cX2_areIndependent 75 = .ok (.bipush 10, 2) := by decide +kernel
theorem dX2_areIndependent_77 : decode cX2_areIndependent 77 = .ok (.iload 5, 2) := by decide +kernel
theorem dX2_areIndependent_79 : decode cX2_areIndependent 79 = .ok (.imul, 1) := by decide +kernel
theorem dX2_areIndependent_80 : decode cX2_areIndependent 80 = .ok (.iload 6, 2) := by decide +kernel
theorem dX2_areIndependent_82 : decode cX2_areIndependent 82 = .ok (.iadd, 1) := by decide +kernel
theorem dX2_areIndependent_83 : decode cX2_areIndependent 83 = .ok (.aload_n 0, 1) := by decide +kernel
theorem dX2_areIndependent_84 : decode cX2_areIndependent 84 = .ok (.getfield 27, 3) := by decide +kernel
theorem dX2_areIndependent_87 : decode cX2_areIndependent 87 = .ok (.bipush 10, 2) := by decide +kernel
theorem dX2_areIndependent_89 : decode cX2_areIndependent 89 = .ok (.iload 5, 2) := by decide +kernel
theorem dX2_areIndependent_91 : decode cX2_areIndependent 91 = .ok (.imul, 1) := by decide +kernel
theorem dX2_areIndependent_92 : decode cX2_areIndependent 92 = .ok (.iload 6, 2) := by decide +kernel
theorem dX2_areIndependent_94 : decode cX2_areIndependent 94 = .ok (.iadd, 1) := by decide +kernel
theorem dX2_areIndependent_95 : decode cX2_areIndependent 95 = .ok (.iaload, 1) := by decide +kernel
theorem dX2_areIndependent_96 : decode cX2_areIndependent 96 = .ok (.aload_n 0, 1) := by decide +kernel
theorem dX2_areIndependent_97 : decode cX2_areIndependent 97 = .ok (.getfield 9, 3) := by decide +kernel
theorem dX2_areIndependent_100 : decode cX2_areIndependent 100 = .ok (.iload 4, 2) := by decide +kernel
theorem dX2_areIndependent_102 : decode cX2_areIndependent 102 = .ok (.iaload, 1) := by decide +kernel
theorem dX2_areIndependent_103 : decode cX2_areIndependent 103 = .ok (.invokestatic 110, 3) := by decide +kernel
theorem dX2_areIndependent_106 : decode cX2_areIndependent 106 = .ok (.iastore, 1) := by decide +kernel
theorem dX2_areIndependent_107 : decode cX2_areIndependent 107 = .ok (.aload_n 0, 1) := by decide +kernel
theorem dX2_areIndependent_108 : decode cX2_areIndependent 108 = .ok (.getfield 30, 3) := by decide +kernel
theorem dX2_areIndependent_111 : decode cX2_areIndependent 111 = .ok (.iload 5, 2) := by decide +kernel
theorem dX2_areIndependent_113 : decode cX2_areIndependent 113 = .ok (.aload_n 0, 1) := by decide +kernel
theorem dX2_areIndependent_114 : decode cX2_areIndependent 114 = .ok (.getfield 30, 3) := by decide +kernel
theorem dX2_areIndependent_117 : decode cX2_areIndependent 117 = .ok (.iload 5, 2) := by decide +kernel
theorem dX2_areIndependent_119 : decode cX2_areIndependent 119 = .ok (.iaload, 1) := by decide +kernel
theorem dX2_areIndependent_120 : decode cX2_areIndependent 120 = .ok (.aload_n 0, 1) := by decide +kernel
theorem dX2_areIndependent_121 : decode cX2_areIndependent 121 = .ok (.getfield 9, 3) := by decide +kernel
theorem dX2_areIndependent_124 : decode cX2_areIndependent 124 = .ok (.iload 4, 2) := by decide +kernel
theorem dX2_areIndependent_126 : decode cX2_areIndependent 126 = .ok (.iaload, 1) := by decide +kernel
theorem dX2_areIndependent_127 : decode cX2_areIndependent 127 = .ok (.invokestatic 110, 3) := by decide +kernel
theorem dX2_areIndependent_130 : decode cX2_areIndependent 130 = .ok (.iastore, 1) := by decide +kernel
theorem dX2_areIndependent_131 : decode cX2_areIndependent 131 = .ok (.aload_n 0, 1) := by decide +kernel
theorem dX2_areIndependent_132 : decode cX2_areIndependent 132 = .ok (.getfield 33, 3) := by decide +kernel
theorem dX2_areIndependent_135 : decode cX2_areIndependent 135 = .ok (.iload 6, 2) := by decide +kernel
theorem dX2_areIndependent_137 : decode cX2_areIndependent 137 = .ok (.aload_n 0, 1) := by decide +kernel
theorem dX2_areIndependent_138 : decode cX2_areIndependent 138 = .ok (.getfield 33, 3) := by decide +kernel
theorem dX2_areIndependent_141 : decode cX2_areIndependent 141 = .ok (.iload 6, 2) := by decide +kernel
theorem dX2_areIndependent_143 : decode cX2_areIndependent 143 = .ok (.iaload, 1) := by decide +kernel
theorem dX2_areIndependent_144 : decode cX2_areIndependent 144 = .ok (.aload_n 0, 1) := by decide +kernel
theorem dX2_areIndependent_145 : decode cX2_areIndependent 145 = .ok (.getfield 9, 3) := by decide +kernel
theorem dX2_areIndependent_148 : decode cX2_areIndependent 148 = .ok (.iload 4, 2) := by decide +kernel
theorem dX2_areIndependent_150 : decode cX2_areIndependent 150 = .ok (.iaload, 1) := by decide +kernel
theorem dX2_areIndependent_151 : decode cX2_areIndependent 151 = .ok (.invokestatic 110, 3) := by decide +kernel
theorem dX2_areIndependent_154 : decode cX2_areIndependent 154 = .ok (.iastore, 1) := by decide +kernel
theorem dX2_areIndependent_155 : decode cX2_areIndependent 155 = .ok (.iinc 4 1, 3) := by decide +kernel
theorem dX2_areIndependent_158 : decode cX2_areIndependent 158 = .ok (.goto (-131), 3) := by decide +kernel
theorem dX2_areIndependent_161 : decode cX2_areIndependent 161 = .ok (.iconst 0, 1) := by decide +kernel
theorem dX2_areIndependent_162 : decode cX2_areIndependent 162 = .ok (.istore 4, 2) := by decide +kernel
theorem dX2_areIndependent_164 : decode cX2_areIndependent 164 = .ok (.iload 4, 2) := by decide +kernel
theorem dX2_areIndependent_166 : decode cX2_areIndependent 166 = .ok (.bipush 100, 2) := by decide +kernel
theorem dX2_areIndependent_168 : decode cX2_areIndependent 168 = .ok (.if_icmp .ge 51, 3) := by decide +kernel
theorem dX2_areIndependent_171 : decode cX2_areIndependent 171 = .ok (.aload_n 0, 1) := by decide +kernel
theorem dX2_areIndependent_172 : decode cX2_areIndependent 172 = .ok (.getfield 27, 3) := by decide +kernel
theorem dX2_areIndependent_175 : decode cX2_areIndependent 175 = .ok (.iload 4, 2) := by decide +kernel
theorem dX2_areIndependent_177 : decode cX2_areIndependent 177 = .ok (.iaload, 1) := by decide +kernel
theorem dX2_areIndependent_178 : decode cX2_areIndependent 178 = .ok (.aload_n 0, 1) := by decide +kernel
theorem dX2_areIndependent_179 : decode cX2_areIndependent 179 = .ok (.getfield 72, 3) := by decide +kernel
theorem dX2_areIndependent_182 : decode cX2_areIndependent 182 = .ok (.invokestatic 81, 3) := by decide +kernel
theorem dX2_areIndependent_185 : decode cX2_areIndependent 185 = .ok (.aload_n 0, 1) := by decide +kernel
theorem dX2_areIndependent_186 : decode cX2_areIndependent 186 = .ok (.getfield 30, 3) := by decide +kernel
theorem dX2_areIndependent_189 : decode cX2_areIndependent 189 = .ok (.iload 4, 2) := by decide +kernel
theorem dX2_areIndependent_191 : decode cX2_areIndependent 191 = .ok (.bipush 10, 2) := by decide +kernel
theorem dX2_areIndependent_193 : decode cX2_areIndependent 193 = .ok (.idiv, 1) := by decide +kernel
theorem dX2_areIndependent_194 : decode cX2_areIndependent 194 = .ok (.iaload, 1) := by decide +kernel
theorem dX2_areIndependent_195 : decode cX2_areIndependent 195 = .ok (.aload_n 0, 1) := by decide +kernel
theorem dX2_areIndependent_196 : decode cX2_areIndependent 196 = .ok (.getfield 33, 3) := by decide +kernel
theorem dX2_areIndependent_199 : decode cX2_areIndependent 199 = .ok (.iload 4, 2) := by decide +kernel
theorem dX2_areIndependent_201 : decode cX2_areIndependent 201 = .ok (.bipush 10, 2) := by decide +kernel
theorem dX2_areIndependent_203 : decode cX2_areIndependent 203 = .ok (.irem, 1) := by decide +kernel
theorem dX2_areIndependent_204 : decode cX2_areIndependent 204 = .ok (.iaload, 1) := by decide +kernel
theorem dX2_areIndependent_205 : decode cX2_areIndependent 205 = .ok (.invokestatic 81, 3) := by decide +kernel
theorem dX2_areIndependent_208 : decode cX2_areIndependent 208 = .ok (.if_icmp .eq 5, 3) := by decide +kernel
theorem dX2_areIndependent_211 : decode cX2_areIndependent 211 = .ok (.iconst 0, 1) := by decide +kernel
theorem dX2_areIndependent_212 : decode cX2_areIndependent 212 = .ok (.ireturn, 1) := by decide +kernel
theorem dX2_areIndependent_213 : decode cX2_areIndependent 213 = .ok (.iinc 4 1, 3) := by decide +kernel
theorem dX2_areIndependent_216 : decode cX2_areIndependent 216 = .ok (.goto (-52), 3) := by decide +kernel
theorem dX2_areIndependent_219 : decode cX2_areIndependent 219 = .ok (.iconst 1, 1) := by decide +kernel
theorem dX2_areIndependent_220 : decode cX2_areIndependent 220 = .ok (.ireturn, 1) := by decide +kernel
theorem dX3_plus_0 : decode cX3_plus 0 = .ok (.iload_n 0, 1) := by decide +kernel
theorem dX3_plus_1 : decode cX3_plus 1 = .ok (.iload_n 1, 1) := by decide +kernel
theorem dX3_plus_2 : decode cX3_plus 2 = .ok (.iadd, 1) := by decide +kernel
theorem dX3_plus_3 : decode cX3_plus 3 = .ok (.istore_n 2, 1) := by decide +kernel
theorem dX3_plus_4 : decode cX3_plus 4 = .ok (.iload_n 2, 1) := by decide +kernel
theorem dX3_plus_5 : decode cX3_plus 5 = .ok (.ldc 11, 2) := by decide +kernel
theorem dX3_plus_7 : decode cX3_plus 7 = .ok (.if_icmp .lt 10, 3) := by decide +kernel
theorem dX3_plus_10 : decode cX3_plus 10 = .ok (.iload_n 2, 1) := by decide +kernel
theorem dX3_plus_11 : decode cX3_plus 11 = .ok (.ldc 11, 2) := by decide +kernel
theorem dX3_plus_13 : decode cX3_plus 13 = .ok (.isub, 1) := by decide +kernel
theorem dX3_plus_14 : decode cX3_plus 14 = .ok (.goto 4, 3) := by decide +kernel
theorem dX3_plus_17 : decode cX3_plus 17 = .ok (.iload_n 2, 1) := by decide +kernel
theorem dX3_plus_18 : decode cX3_plus 18 = .ok (.ireturn, 1) := by decide +kernel
theorem dX3_less_0 : decode cX3_less 0 = .ok (.iload_n 0, 1) := by decide +kernel
theorem dX3_less_1 : decode cX3_less 1 = .ok (.iload_n 1, 1) := by decide +kernel
theorem dX3_less_2 : decode cX3_less 2 = .ok (.if_icmp .lt 9, 3) := by decide +kernel
theorem dX3_less_5 : decode cX3_less 5 = .ok (.iload_n 0, 1) := by decide +kernel
theorem dX3_less_6 : decode cX3_less 6 = .ok (.iload_n 1, 1) := by decide +kernel
theorem dX3_less_7 : decode cX3_less 7 = .ok (.isub, 1) := by decide +kernel
theorem dX3_less_8 : decode cX3_less 8 = .ok (.goto 9, 3) := by decide +kernel
theorem dX3_less_11 : decode cX3_less 11 = .ok (.iload_n 0, 1) := by decide +kernel
theorem dX3_less_12 : decode cX3_less 12 = .ok (.iload_n 1, 1) := by decide +kernel
theorem dX3_less_13 : decode cX3_less 13 = .ok (.isub, 1) := by decide +kernel
theorem dX3_less_14 : decode cX3_less 14 = .ok (.ldc 11, 2) := by decide +kernel
theorem dX3_less_16 : decode cX3_less 16 = .ok (.iadd, 1) := by decide +kernel
theorem dX3_less_17 : decode cX3_less 17 = .ok (.ireturn, 1) := by decide +kernel
theorem dX3_times_0 : decode cX3_times 0 = .ok (.iload_n 0, 1) := by decide +kernel
theorem dX3_times_1 : decode cX3_times 1 = .ok (.i2l, 1) := by decide +kernel
theorem dX3_times_2 : decode cX3_times 2 = .ok (.iload_n 1, 1) := by decide +kernel
theorem dX3_times_3 : decode cX3_times 3 = .ok (.i2l, 1) := by decide +kernel
theorem dX3_times_4 : decode cX3_times 4 = .ok (.lmul, 1) := by decide +kernel
theorem dX3_times_5 : decode cX3_times 5 = .ok (.ldc2_w 12, 3) := by decide +kernel
theorem dX3_times_8 : decode cX3_times 8 = .ok (.lrem, 1) := by decide +kernel
theorem dX3_times_9 : decode cX3_times 9 = .ok (.l2i, 1) := by decide +kernel
theorem dX3_times_10 : decode cX3_times 10 = .ok (.ireturn, 1) := by decide +kernel
theorem dX3_sixtieth_0 : decode cX3_sixtieth 0 = .ok (.iload_n 0, 1) := by decide +kernel
theorem dX3_sixtieth_1 : decode cX3_sixtieth 1 = .ok (.ldc 14, 2) := by decide +kernel
theorem dX3_sixtieth_3 : decode cX3_sixtieth 3 = .ok (.invokestatic 15, 3) := by decide +kernel
theorem dX3_sixtieth_6 : decode cX3_sixtieth 6 = .ok (.ireturn, 1) := by decide +kernel
theorem dX3_inverse_0 : decode cX3_inverse 0 = .ok (.iload_n 0, 1) := by decide +kernel
theorem dX3_inverse_1 : decode cX3_inverse 1 = .ok (.istore_n 1, 1) := by decide +kernel
theorem dX3_inverse_2 : decode cX3_inverse 2 = .ok (.iconst 1, 1) := by decide +kernel
theorem dX3_inverse_3 : decode cX3_inverse 3 = .ok (.istore_n 2, 1) := by decide +kernel
theorem dX3_inverse_4 : decode cX3_inverse 4 = .ok (.ldc 19, 2) := by decide +kernel
theorem dX3_inverse_6 : decode cX3_inverse 6 = .ok (.istore_n 3, 1) := by decide +kernel
theorem dX3_inverse_7 : decode cX3_inverse 7 = .ok (.iload_n 3, 1) := by decide +kernel
theorem dX3_inverse_8 : decode cX3_inverse 8 = .ok (.ifCond .le 29, 3) := by decide +kernel
theorem dX3_inverse_11 : decode cX3_inverse 11 = .ok (.iload_n 3, 1) := by decide +kernel
theorem dX3_inverse_12 : decode cX3_inverse 12 = .ok (.iconst 1, 1) := by decide +kernel
theorem dX3_inverse_13 : decode cX3_inverse 13 = .ok (.iand, 1) := by decide +kernel
theorem dX3_inverse_14 : decode cX3_inverse 14 = .ok (.iconst 1, 1) := by decide +kernel
theorem dX3_inverse_15 : decode cX3_inverse 15 = .ok (.if_icmp .ne 9, 3) := by decide +kernel
theorem dX3_inverse_18 : decode cX3_inverse 18 = .ok (.iload_n 2, 1) := by decide +kernel
theorem dX3_inverse_19 : decode cX3_inverse 19 = .ok (.iload_n 1, 1) := by decide +kernel
theorem dX3_inverse_20 : decode cX3_inverse 20 = .ok (.invokestatic 15, 3) := by decide +kernel
theorem dX3_inverse_23 : decode cX3_inverse 23 = .ok (.istore_n 2, 1) := by decide +kernel
theorem dX3_inverse_24 : decode cX3_inverse 24 = .ok (.iload_n 1, 1) := by decide +kernel
theorem dX3_inverse_25 : decode cX3_inverse 25 = .ok (.iload_n 1, 1) := by decide +kernel
theorem dX3_inverse_26 : decode cX3_inverse 26 = .ok (.invokestatic 15, 3) := by decide +kernel
theorem dX3_inverse_29 : decode cX3_inverse 29 = .ok (.istore_n 1, 1) := by decide +kernel
theorem dX3_inverse_30 : decode cX3_inverse 30 = .ok (.iload_n 3, 1) := by decide +kernel
theorem dX3_inverse_31 : decode cX3_inverse 31 = .ok (.iconst 1, 1) := by decide +kernel
theorem dX3_inverse_32 : decode cX3_inverse 32 = .ok (.ishr, 1) := by decide +kernel
theorem dX3_inverse_33 : decode cX3_inverse 33 = .ok (.istore_n 3, 1) := by decide +kernel
theorem dX3_inverse_34 : decode cX3_inverse 34 = .ok (.goto (-27), 3) := by decide +kernel
theorem dX3_inverse_37 : decode cX3_inverse 37 = .ok (.iload_n 2, 1) := by decide +kernel
theorem dX3_inverse_38 : decode cX3_inverse 38 = .ok (.ireturn, 1) := by decide +kernel
theorem dX3_inForm_0 : decode cX3_inForm 0 = .ok (.iload_n 1, 1) := by decide +kernel
theorem dX3_inForm_1 : decode cX3_inForm 1 = .ok (.ifCond .ne 5, 3) := by decide +kernel
theorem dX3_inForm_4 : decode cX3_inForm 4 = .ok (.iload_n 0, 1) := by decide +kernel
theorem dX3_inForm_5 : decode cX3_inForm 5 = .ok (.ireturn, 1) := by decide +kernel
theorem dX3_inForm_6 : decode cX3_inForm 6 = .ok (.ldc2_w 12, 3) := by decide +kernel
theorem dX3_inForm_9 : decode cX3_inForm 9 = .ok (.lstore_n 2, 1) := by decide +kernel
theorem dX3_inForm_10 : decode cX3_inForm 10 = .ok (.iload_n 0, 1) := by decide +kernel
theorem dX3_inForm_11 : decode cX3_inForm 11 = .ok (.i2l, 1) := by decide +kernel
theorem dX3_inForm_12 : decode cX3_inForm 12 = .ok (.lstore 4, 2) := by decide +kernel
theorem dX3_inForm_14 : decode cX3_inForm 14 = .ok (.lconst 0, 1) := by decide +kernel
theorem dX3_inForm_15 : decode cX3_inForm 15 = .ok (.lstore 6, 2) := by decide +kernel
theorem dX3_inForm_17 : decode cX3_inForm 17 = .ok (.lconst 1, 1) := by decide +kernel
theorem dX3_inForm_18 : decode cX3_inForm 18 = .ok (.lstore 8, 2) := by decide +kernel
theorem dX3_inForm_20 : decode cX3_inForm 20 = .ok (.iconst 0, 1) := by decide +kernel
theorem dX3_inForm_21 : decode cX3_inForm 21 = .ok (.istore 10, 2) := by decide +kernel
theorem dX3_inForm_23 : decode cX3_inForm 23 = .ok (.iload 10, 2) := by decide +kernel
theorem dX3_inForm_25 : decode cX3_inForm 25 = .ok (.bipush 64, 2) := by decide +kernel
theorem dX3_inForm_27 : decode cX3_inForm 27 = .ok (.if_icmp .ge 58, 3) := by decide +kernel
theorem dX3_inForm_30 : decode cX3_inForm 30 = .ok (.lload 4, 2) := by decide +kernel
theorem dX3_inForm_32 : decode cX3_inForm 32 = .ok (.ldc2_w 20, 3) := by decide +kernel
theorem dX3_inForm_35 : decode cX3_inForm 35 = .ok (.lcmp, 1) := by decide +kernel
theorem dX3_inForm_36 : decode cX3_inForm 36 = .ok (.ifCond .le 49, 3) := by decide +kernel
theorem dX3_inForm_39 : decode cX3_inForm 39 = .ok (.lload_n 2, 1) := by decide +kernel
theorem dX3_inForm_40 : decode cX3_inForm 40 = .ok (.lload 4, 2) := by decide +kernel
theorem dX3_inForm_42 : decode cX3_inForm 42 = .ok (.ldiv, 1) := by decide +kernel
theorem dX3_inForm_43 : decode cX3_inForm 43 = .ok (.lstore 11, 2) := by decide +kernel
theorem dX3_inForm_45 : decode cX3_inForm 45 = .ok (.lload_n 2, 1) := by decide +kernel
theorem dX3_inForm_46 : decode cX3_inForm 46 = .ok (.lload 11, 2) := by decide +kernel
theorem dX3_inForm_48 : decode cX3_inForm 48 = .ok (.lload 4, 2) := by decide +kernel
theorem dX3_inForm_50 : decode cX3_inForm 50 = .ok (.lmul, 1) := by decide +kernel
theorem dX3_inForm_51 : decode cX3_inForm 51 = .ok (.lsub, 1) := by decide +kernel
theorem dX3_inForm_52 : decode cX3_inForm 52 = .ok (.lstore 13, 2) := by decide +kernel
theorem dX3_inForm_54 : decode cX3_inForm 54 = .ok (.lload 6, 2) := by decide +kernel
theorem dX3_inForm_56 : decode cX3_inForm 56 = .ok (.lload 11, 2) := by decide +kernel
theorem dX3_inForm_58 : decode cX3_inForm 58 = .ok (.lload 8, 2) := by decide +kernel
theorem dX3_inForm_60 : decode cX3_inForm 60 = .ok (.lmul, 1) := by decide +kernel
theorem dX3_inForm_61 : decode cX3_inForm 61 = .ok (.lsub, 1) := by decide +kernel
theorem dX3_inForm_62 : decode cX3_inForm 62 = .ok (.lstore 15, 2) := by decide +kernel
theorem dX3_inForm_64 : decode cX3_inForm 64 = .ok (.lload 4, 2) := by decide +kernel
theorem dX3_inForm_66 : decode cX3_inForm 66 = .ok (.lstore_n 2, 1) := by decide +kernel
theorem dX3_inForm_67 : decode cX3_inForm 67 = .ok (.lload 13, 2) := by decide +kernel
theorem dX3_inForm_69 : decode cX3_inForm 69 = .ok (.lstore 4, 2) := by decide +kernel
theorem dX3_inForm_71 : decode cX3_inForm 71 = .ok (.lload 8, 2) := by decide +kernel
theorem dX3_inForm_73 : decode cX3_inForm 73 = .ok (.lstore 6, 2) := by decide +kernel
theorem dX3_inForm_75 : decode cX3_inForm 75 = .ok (.lload 15, 2) := by decide +kernel
theorem dX3_inForm_77 : decode cX3_inForm 77 = .ok (.lstore 8, 2) := by decide +kernel
theorem dX3_inForm_79 : decode cX3_inForm 79 = .ok (.iinc 10 1, 3) := by decide +kernel
theorem dX3_inForm_82 : decode cX3_inForm 82 = .ok (.goto (-59), 3) := by decide +kernel
theorem dX3_inForm_85 : decode cX3_inForm 85 = .ok (.lload 8, 2) := by decide +kernel
theorem dX3_inForm_87 : decode cX3_inForm 87 = .ok (.lconst 1, 1) := by decide +kernel
theorem dX3_inForm_88 : decode cX3_inForm 88 = .ok (.lcmp, 1) := by decide +kernel
theorem dX3_inForm_89 : decode cX3_inForm 89 = .ok (.ifCond .lt 12, 3) := by decide +kernel
theorem dX3_inForm_92 : decode cX3_inForm 92 = .ok (.lload 8, 2) := by decide +kernel
theorem dX3_inForm_94 : decode cX3_inForm 94 = .ok (.ldc2_w 20, 3) := by decide +kernel
theorem dX3_inForm_97 : decode cX3_inForm 97 = .ok (.lcmp, 1) := by decide +kernel
theorem dX3_inForm_98 : decode cX3_inForm 98 = .ok (.ifCond .le 5, 3) := by decide +kernel
theorem dX3_inForm_101 : decode cX3_inForm 101 = .ok (.iconst (-1), 1) := by decide +kernel
theorem dX3_inForm_102 : decode cX3_inForm 102 = .ok (.ireturn, 1) := by decide +kernel
theorem dX3_inForm_103 : decode cX3_inForm 103 = .ok (.iload_n 1, 1) := by decide +kernel
theorem dX3_inForm_104 : decode cX3_inForm 104 = .ok (.iconst 1, 1) := by decide +kernel
theorem dX3_inForm_105 : decode cX3_inForm 105 = .ok (.if_icmp .ne 8, 3) := by decide +kernel
theorem dX3_inForm_108 : decode cX3_inForm 108 = .ok (.lload 4, 2) := by decide +kernel
theorem dX3_inForm_110 : decode cX3_inForm 110 = .ok (.goto 5, 3) := by decide +kernel
theorem dX3_inForm_113 : decode cX3_inForm 113 = .ok (.lload 8, 2) := by decide +kernel
theorem dX3_inForm_115 : decode cX3_inForm 115 = .ok (.l2i, 1) := by decide +kernel
theorem dX3_inForm_116 : decode cX3_inForm 116 = .ok (.ireturn, 1) := by decide +kernel
theorem dX4_init_0 : decode cX4_init 0 = .ok (.aload_n 0, 1) := by decide +kernel
theorem dX4_init_1 : decode cX4_init 1 = .ok (.invokespecial 3, 3) := by decide +kernel
theorem dX4_init_4 : decode cX4_init 4 = .ok (.aload_n 0, 1) := by decide +kernel
theorem dX4_init_5 : decode cX4_init 5 = .ok (.sipush 200, 3) := by decide +kernel
theorem dX4_init_8 : decode cX4_init 8 = .ok (.newarray .int, 2) := by decide +kernel
theorem dX4_init_10 : decode cX4_init 10 = .ok (.putfield 9, 3) := by decide +kernel
theorem dX4_init_13 : decode cX4_init 13 = .ok (.aload_n 0, 1) := by decide +kernel
theorem dX4_init_14 : decode cX4_init 14 = .ok (.sipush 200, 3) := by decide +kernel
theorem dX4_init_17 : decode cX4_init 17 = .ok (.newarray .int, 2) := by decide +kernel
theorem dX4_init_19 : decode cX4_init 19 = .ok (.putfield 15, 3) := by decide +kernel
theorem dX4_init_22 : decode cX4_init 22 = .ok (.aload_n 0, 1) := by decide +kernel
theorem dX4_init_23 : decode cX4_init 23 = .ok (.sipush 200, 3) := by decide +kernel
theorem dX4_init_26 : decode cX4_init 26 = .ok (.newarray .int, 2) := by decide +kernel
theorem dX4_init_28 : decode cX4_init 28 = .ok (.putfield 18, 3) := by decide +kernel
theorem dX4_init_31 : decode cX4_init 31 = .ok (.aload_n 0, 1) := by decide +kernel
theorem dX4_init_32 : decode cX4_init 32 = .ok (.sipush 200, 3) := by decide +kernel
theorem dX4_init_35 : decode cX4_init 35 = .ok (.newarray .boolean, 2) := by decide +kernel
theorem dX4_init_37 : decode cX4_init 37 = .ok (.putfield 21, 3) := by decide +kernel
theorem dX4_init_40 : decode cX4_init 40 = .ok (.aload_n 0, 1) := by decide +kernel
theorem dX4_init_41 : decode cX4_init 41 = .ok (.sipush 201, 3) := by decide +kernel
theorem dX4_init_44 : decode cX4_init 44 = .ok (.newarray .int, 2) := by decide +kernel
theorem dX4_init_46 : decode cX4_init 46 = .ok (.putfield 25, 3) := by decide +kernel
theorem dX4_init_49 : decode cX4_init 49 = .ok (.aload_n 0, 1) := by decide +kernel
theorem dX4_init_50 : decode cX4_init 50 = .ok (.sipush 2000, 3) := by decide +kernel
theorem dX4_init_53 : decode cX4_init 53 = .ok (.newarray .int, 2) := by decide +kernel
theorem dX4_init_55 : decode cX4_init 55 = .ok (.putfield 28, 3) := by decide +kernel
theorem dX4_init_58 : decode cX4_init 58 = .ok (.aload_n 0, 1) := by decide +kernel
theorem dX4_init_59 : decode cX4_init 59 = .ok (.sipush 2000, 3) := by decide +kernel
theorem dX4_init_62 : decode cX4_init 62 = .ok (.newarray .int, 2) := by decide +kernel
theorem dX4_init_64 : decode cX4_init 64 = .ok (.putfield 31, 3) := by decide +kernel
theorem dX4_init_67 : decode cX4_init 67 = .ok (.aload_n 0, 1) := by decide +kernel
theorem dX4_init_68 : decode cX4_init 68 = .ok (.sipush 512, 3) := by decide +kernel
theorem dX4_init_71 : decode cX4_init 71 = .ok (.newarray .int, 2) := by decide +kernel
theorem dX4_init_73 : decode cX4_init 73 = .ok (.putfield 34, 3) := by decide +kernel
theorem dX4_init_76 : decode cX4_init 76 = .ok (.return_, 1) := by decide +kernel
theorem dX4_forget_0 : decode cX4_forget 0 = .ok (.aload_n 0, 1) := by decide +kernel
theorem dX4_forget_1 : decode cX4_forget 1 = .ok (.iconst 0, 1) := by decide +kernel
theorem dX4_forget_2 : decode cX4_forget 2 = .ok (.putfield 37, 3) := by decide +kernel
theorem dX4_forget_5 : decode cX4_forget 5 = .ok (.return_, 1) := by decide +kernel
theorem dX4_explore_0 : decode cX4_explore 0 = .ok (.aload_n 0, 1) := by decide +kernel
theorem dX4_explore_1 : decode cX4_explore 1 = .ok (.getfield 37, 3) := by decide +kernel
theorem dX4_explore_4 : decode cX4_explore 4 = .ok (.ifCond .eq 4, 3) := by decide +kernel
theorem dX4_explore_7 : decode cX4_explore 7 = .ok (.return_, 1) := by decide +kernel
theorem dX4_explore_8 : decode cX4_explore 8 = .ok (.aload_n 0, 1) := by decide +kernel
theorem dX4_explore_9 : decode cX4_explore 9 = .ok (.iconst 1, 1) := by decide +kernel
theorem dX4_explore_10 : decode cX4_explore 10 = .ok (.putfield 37, 3) := by decide +kernel
theorem dX4_explore_13 : decode cX4_explore 13 = .ok (.aload_n 0, 1) := by decide +kernel
theorem dX4_explore_14 : decode cX4_explore 14 = .ok (.dup, 1) := by decide +kernel
theorem dX4_explore_15 : decode cX4_explore 15 = .ok (.getfield 41, 3) := by decide +kernel
theorem dX4_explore_18 : decode cX4_explore 18 = .ok (.iconst 1, 1) := by decide +kernel
theorem dX4_explore_19 : decode cX4_explore 19 = .ok (.iadd, 1) := by decide +kernel
theorem dX4_explore_20 : decode cX4_explore 20 = .ok (.putfield 41, 3) := by decide +kernel
theorem dX4_explore_23 : decode cX4_explore 23 = .ok (.aload_n 0, 1) := by decide +kernel
theorem dX4_explore_24 : decode cX4_explore 24 = .ok (.iconst 0, 1) := by decide +kernel
theorem dX4_explore_25 : decode cX4_explore 25 = .ok (.putfield 45, 3) := by decide +kernel
theorem dX4_explore_28 : decode cX4_explore 28 = .ok (.aload_n 0, 1) := by decide +kernel
theorem dX4_explore_29 : decode cX4_explore 29 = .ok (.iconst 0, 1) := by decide +kernel
theorem dX4_explore_30 : decode cX4_explore 30 = .ok (.putfield 48, 3) := by decide +kernel
theorem dX4_explore_33 : decode cX4_explore 33 = .ok (.aload_n 0, 1) := by decide +kernel
theorem dX4_explore_34 : decode cX4_explore 34 = .ok (.iconst 0, 1) := by decide +kernel
theorem dX4_explore_35 : decode cX4_explore 35 = .ok (.putfield 51, 3) := by decide +kernel
theorem dX4_explore_38 : decode cX4_explore 38 = .ok (.aload_n 0, 1) := by decide +kernel
theorem dX4_explore_39 : decode cX4_explore 39 = .ok (.aload_n 1, 1) := by decide +kernel
theorem dX4_explore_40 : decode cX4_explore 40 = .ok (.getfield 54, 3) := by decide +kernel
theorem dX4_explore_43 : decode cX4_explore 43 = .ok (.putfield 57, 3) := by decide +kernel
theorem dX4_explore_46 : decode cX4_explore 46 = .ok (.aload_n 0, 1) := by decide +kernel
theorem dX4_explore_47 : decode cX4_explore 47 = .ok (.getfield 34, 3) := by decide +kernel
theorem dX4_explore_50 : decode cX4_explore 50 = .ok (.iconst 0, 1) := by decide +kernel
theorem dX4_explore_51 : decode cX4_explore 51 = .ok (.invokestatic 60, 3) := by decide +kernel
theorem dX4_explore_54 : decode cX4_explore 54 = .ok (.aload_n 0, 1) := by decide +kernel
theorem dX4_explore_55 : decode cX4_explore 55 = .ok (.iconst 0, 1) := by decide +kernel
theorem dX4_explore_56 : decode cX4_explore 56 = .ok (.iload_n 2, 1) := by decide +kernel
theorem dX4_explore_57 : decode cX4_explore 57 = .ok (.iconst 0, 1) := by decide +kernel
theorem dX4_explore_58 : decode cX4_explore 58 = .ok (.invokevirtual 66, 3) := by decide +kernel
theorem dX4_explore_61 : decode cX4_explore 61 = .ok (.pop, 1) := by decide +kernel
theorem dX4_explore_62 : decode cX4_explore 62 = .ok (.iconst 0, 1) := by decide +kernel
theorem dX4_explore_63 : decode cX4_explore 63 = .ok (.istore_n 3, 1) := by decide +kernel
theorem dX4_explore_64 : decode cX4_explore 64 = .ok (.iload_n 3, 1) := by decide +kernel
theorem dX4_explore_65 : decode cX4_explore 65 = .ok (.aload_n 0, 1) := by decide +kernel
theorem dX4_explore_66 : decode cX4_explore 66 = .ok (.getfield 45, 3) := by decide +kernel
theorem dX4_explore_69 : decode cX4_explore 69 = .ok (.if_icmp .ge 51, 3) := by decide +kernel
theorem dX4_explore_72 : decode cX4_explore 72 = .ok (.iload_n 3, 1) := by decide +kernel
theorem dX4_explore_73 : decode cX4_explore 73 = .ok (.sipush 200, 3) := by decide +kernel
theorem dX4_explore_76 : decode cX4_explore 76 = .ok (.if_icmp .ge 44, 3) := by decide +kernel
theorem dX4_explore_79 : decode cX4_explore 79 = .ok (.aload_n 0, 1) := by decide +kernel
theorem dX4_explore_80 : decode cX4_explore 80 = .ok (.getfield 51, 3) := by decide +kernel
theorem dX4_explore_83 : decode cX4_explore 83 = .ok (.ifCond .ne 37, 3) := by decide +kernel
theorem dX4_explore_86 : decode cX4_explore 86 = .ok (.aload_n 0, 1) := by decide +kernel
theorem dX4_explore_87 : decode cX4_explore 87 = .ok (.getfield 25, 3) := by decide +kernel
theorem dX4_explore_90 : decode cX4_explore 90 = .ok (.iload_n 3, 1) := by decide +kernel
theorem dX4_explore_91 : decode cX4_explore 91 = .ok (.aload_n 0, 1) := by decide +kernel
theorem dX4_explore_92 : decode cX4_explore 92 = .ok (.getfield 48, 3) := by decide +kernel
theorem dX4_explore_95 : decode cX4_explore 95 = .ok (.iastore, 1) := by decide +kernel
theorem dX4_explore_96 : decode cX4_explore 96 = .ok (.aload_n 0, 1) := by decide +kernel
theorem dX4_explore_97 : decode cX4_explore 97 = .ok (.aload_n 1, 1) := by decide +kernel
theorem dX4_explore_98 : decode cX4_explore 98 = .ok (.iload_n 3, 1) := by decide +kernel
theorem dX4_explore_99 : decode cX4_explore 99 = .ok (.invokevirtual 70, 3) := by decide +kernel
theorem dX4_explore_102 : decode cX4_explore 102 = .ok (.aload_n 0, 1) := by decide +kernel
theorem dX4_explore_103 : decode cX4_explore 103 = .ok (.getfield 25, 3) := by decide +kernel
theorem dX4_explore_106 : decode cX4_explore 106 = .ok (.iload_n 3, 1) := by decide +kernel
theorem dX4_explore_107 : decode cX4_explore 107 = .ok (.iconst 1, 1) := by decide +kernel
theorem dX4_explore_108 : decode cX4_explore 108 = .ok (.iadd, 1) := by decide +kernel
theorem dX4_explore_109 : decode cX4_explore 109 = .ok (.aload_n 0, 1) := by decide +kernel
theorem dX4_explore_110 : decode cX4_explore 110 = .ok (.getfield 48, 3) := by decide +kernel
theorem dX4_explore_113 : decode cX4_explore 113 = .ok (.iastore, 1) := by decide +kernel
theorem dX4_explore_114 : decode cX4_explore 114 = .ok (.iinc 3 1, 3) := by decide +kernel
theorem dX4_explore_117 : decode cX4_explore 117 = .ok (.goto (-53), 3) := by decide +kernel
theorem dX4_explore_120 : decode cX4_explore 120 = .ok (.aload_n 0, 1) := by decide +kernel
theorem dX4_explore_121 : decode cX4_explore 121 = .ok (.iconst 0, 1) := by decide +kernel
theorem dX4_explore_122 : decode cX4_explore 122 = .ok (.putfield 74, 3) := by decide +kernel
theorem dX4_explore_125 : decode cX4_explore 125 = .ok (.iconst 0, 1) := by decide +kernel
theorem dX4_explore_126 : decode cX4_explore 126 = .ok (.istore_n 3, 1) := by decide +kernel
theorem dX4_explore_127 : decode cX4_explore 127 = .ok (.iload_n 3, 1) := by decide +kernel
theorem dX4_explore_128 : decode cX4_explore 128 = .ok (.aload_n 0, 1) := by decide +kernel
theorem dX4_explore_129 : decode cX4_explore 129 = .ok (.getfield 45, 3) := by decide +kernel
theorem dX4_explore_132 : decode cX4_explore 132 = .ok (.if_icmp .ge 31, 3) := by decide +kernel
theorem dX4_explore_135 : decode cX4_explore 135 = .ok (.aload_n 0, 1) := by decide +kernel
theorem dX4_explore_136 : decode cX4_explore 136 = .ok (.dup, 1) := by decide +kernel
theorem dX4_explore_137 : decode cX4_explore 137 = .ok (.getfield 74, 3) := by decide +kernel
theorem dX4_explore_140 : decode cX4_explore 140 = .ok (.aload_n 0, 1) := by decide +kernel
theorem dX4_explore_141 : decode cX4_explore 141 = .ok (.iload_n 3, 1) := by decide +kernel
theorem dX4_explore_142 : decode cX4_explore 142 = .ok (.invokevirtual 77, 3) := by decide +kernel
theorem dX4_explore_145 : decode cX4_explore 145 = .ok (.ifCond .eq 7, 3) := by decide +kernel
theorem dX4_explore_148 : decode cX4_explore 148 = .ok (.iconst 1, 1) := by decide +kernel
theorem dX4_explore_149 : decode cX4_explore 149 = .ok (.goto 4, 3) := by decide +kernel
theorem dX4_explore_152 : decode cX4_explore 152 = .ok (.iconst 0, 1) := by decide +kernel
theorem dX4_explore_153 : decode cX4_explore 153 = .ok (.iadd, 1) := by decide +kernel
theorem dX4_explore_154 : decode cX4_explore 154 = .ok (.putfield 74, 3) := by decide +kernel
theorem dX4_explore_157 : decode cX4_explore 157 = .ok (.iinc 3 1, 3) := by decide +kernel
theorem dX4_explore_160 : decode cX4_explore 160 = .ok (.goto (-33), 3) := by decide +kernel
theorem dX4_explore_163 : decode cX4_explore 163 = .ok (.aload_n 0, 1) := by decide +kernel
theorem dX4_explore_164 : decode cX4_explore 164 = .ok (.getfield 51, 3) := by decide +kernel
theorem dX4_explore_167 : decode cX4_explore 167 = .ok (.ifCond .ne 7, 3) := by decide +kernel
theorem dX4_explore_170 : decode cX4_explore 170 = .ok (.aload_n 0, 1) := by decide +kernel
theorem dX4_explore_171 : decode cX4_explore 171 = .ok (.invokevirtual 81, 3) := by decide +kernel
theorem dX4_explore_174 : decode cX4_explore 174 = .ok (.return_, 1) := by decide +kernel
theorem dX4_isEnd_0 : decode cX4_isEnd 0 = .ok (.aload_n 0, 1) := by decide +kernel
theorem dX4_isEnd_1 : decode cX4_isEnd 1 = .ok (.getfield 9, 3) := by decide +kernel
theorem dX4_isEnd_4 : decode cX4_isEnd 4 = .ok (.iload_n 1, 1) := by decide +kernel
theorem dX4_isEnd_5 : decode cX4_isEnd 5 = .ok (.iaload, 1) := by decide +kernel
theorem dX4_isEnd_6 : decode cX4_isEnd 6 = .ok (.aload_n 0, 1) := by decide +kernel
theorem dX4_isEnd_7 : decode cX4_isEnd 7 = .ok (.getfield 57, 3) := by decide +kernel
theorem dX4_isEnd_10 : decode cX4_isEnd 10 = .ok (.if_icmp .ne 7, 3) := by decide +kernel
theorem dX4_isEnd_13 : decode cX4_isEnd 13 = .ok (.iconst 1, 1) := by decide +kernel
theorem dX4_isEnd_14 : decode cX4_isEnd 14 = .ok (.goto 4, 3) := by decide +kernel
theorem dX4_isEnd_17 : decode cX4_isEnd 17 = .ok (.iconst 0, 1) := by decide +kernel
theorem dX4_isEnd_18 : decode cX4_isEnd 18 = .ok (.ireturn, 1) := by decide +kernel
theorem dX4_isBroken_0 : decode cX4_isBroken 0 = .ok (.aload_n 0, 1) := by decide +kernel
theorem dX4_isBroken_1 : decode cX4_isBroken 1 = .ok (.getfield 9, 3) := by decide +kernel
theorem dX4_isBroken_4 : decode cX4_isBroken 4 = .ok (.iload_n 1, 1) := by decide +kernel
theorem dX4_isBroken_5 : decode cX4_isBroken 5 = .ok (.iaload, 1) := by decide +kernel
theorem dX4_isBroken_6 : decode cX4_isBroken 6 = .ok (.aload_n 0, 1) := by decide +kernel
theorem dX4_isBroken_7 : decode cX4_isBroken 7 = .ok (.getfield 57, 3) := by decide +kernel
theorem dX4_isBroken_10 : decode cX4_isBroken 10 = .ok (.if_icmp .le 7, 3) := by decide +kernel
theorem dX4_isBroken_13 : decode cX4_isBroken 13 = .ok (.iconst 1, 1) := by decide +kernel
theorem dX4_isBroken_14 : decode cX4_isBroken 14 = .ok (.goto 4, 3) := by decide +kernel
theorem dX4_isBroken_17 : decode cX4_isBroken 17 = .ok (.iconst 0, 1) := by decide +kernel
theorem dX4_isBroken_18 : decode cX4_isBroken 18 = .ok (.ireturn, 1) := by decide +kernel
theorem dX4_arcsOf_0 : decode cX4_arcsOf 0 = .ok (.aload_n 0, 1) := by decide +kernel
theorem dX4_arcsOf_1 : decode cX4_arcsOf 1 = .ok (.getfield 25, 3) := by decide +kernel
theorem dX4_arcsOf_4 : decode cX4_arcsOf 4 = .ok (.iload_n 1, 1) := by decide +kernel
theorem dX4_arcsOf_5 : decode cX4_arcsOf 5 = .ok (.iconst 1, 1) := by decide +kernel
theorem dX4_arcsOf_6 : decode cX4_arcsOf 6 = .ok (.iadd, 1) := by decide +kernel
theorem dX4_arcsOf_7 : decode cX4_arcsOf 7 = .ok (.iaload, 1) := by decide +kernel
theorem dX4_arcsOf_8 : decode cX4_arcsOf 8 = .ok (.aload_n 0, 1) := by decide +kernel
theorem dX4_arcsOf_9 : decode cX4_arcsOf 9 = .ok (.getfield 25, 3) := by decide +kernel
theorem dX4_arcsOf_12 : decode cX4_arcsOf 12 = .ok (.iload_n 1, 1) := by decide +kernel
theorem dX4_arcsOf_13 : decode cX4_arcsOf 13 = .ok (.iaload, 1) := by decide +kernel
theorem dX4_arcsOf_14 : decode cX4_arcsOf 14 = .ok (.isub, 1) := by decide +kernel
theorem dX4_arcsOf_15 : decode cX4_arcsOf 15 = .ok (.ireturn, 1) := by decide +kernel
theorem dX4_greatestLevel_0 : decode cX4_greatestLevel 0 = .ok (.aload_n 0, 1) := by decide +kernel
theorem dX4_greatestLevel_1 : decode cX4_greatestLevel 1 = .ok (.getfield 45, 3) := by decide +kernel
theorem dX4_greatestLevel_4 : decode cX4_greatestLevel 4 = .ok (.ifCond .le 17, 3) := by decide +kernel
theorem dX4_greatestLevel_7 : decode cX4_greatestLevel 7 = .ok (.aload_n 0, 1) := by decide +kernel
theorem dX4_greatestLevel_8 : decode cX4_greatestLevel 8 = .ok (.getfield 18, 3) := by decide +kernel
theorem dX4_greatestLevel_11 : decode cX4_greatestLevel 11 = .ok (.aload_n 0, 1) := by decide +kernel
theorem dX4_greatestLevel_12 : decode cX4_greatestLevel 12 = .ok (.getfield 45, 3) := by decide +kernel
theorem dX4_greatestLevel_15 : decode cX4_greatestLevel 15 = .ok (.iconst 1, 1) := by decide +kernel
theorem dX4_greatestLevel_16 : decode cX4_greatestLevel 16 = .ok (.isub, 1) := by decide +kernel
theorem dX4_greatestLevel_17 : decode cX4_greatestLevel 17 = .ok (.iaload, 1) := by decide +kernel
theorem dX4_greatestLevel_18 : decode cX4_greatestLevel 18 = .ok (.goto 4, 3) := by decide +kernel
theorem dX4_greatestLevel_21 : decode cX4_greatestLevel 21 = .ok (.iconst 0, 1) := by decide +kernel
theorem dX4_greatestLevel_22 : decode cX4_greatestLevel 22 = .ok (.ireturn, 1) := by decide +kernel
theorem dX4_leave_0 : decode cX4_leave 0 = .ok (.aload_n 0, 1) := by decide +kernel
theorem dX4_leave_1 : decode cX4_leave 1 = .ok (.getfield 9, 3) := by decide +kernel
theorem dX4_leave_4 : decode cX4_leave 4 = .ok (.iload_n 2, 1) := by decide +kernel
theorem dX4_leave_5 : decode cX4_leave 5 = .ok (.iaload, 1) := by decide +kernel
theorem dX4_leave_6 : decode cX4_leave 6 = .ok (.istore_n 3, 1) := by decide +kernel
theorem dX4_leave_7 : decode cX4_leave 7 = .ok (.iload_n 3, 1) := by decide +kernel
theorem dX4_leave_8 : decode cX4_leave 8 = .ok (.aload_n 1, 1) := by decide +kernel
theorem dX4_leave_9 : decode cX4_leave 9 = .ok (.getfield 54, 3) := by decide +kernel
theorem dX4_leave_12 : decode cX4_leave 12 = .ok (.if_icmp .lt 4, 3) := by decide +kernel
theorem dX4_leave_15 : decode cX4_leave 15 = .ok (.return_, 1) := by decide +kernel
theorem dX4_leave_16 : decode cX4_leave 16 = .ok (.aload_n 0, 1) := by decide +kernel
theorem dX4_leave_17 : decode cX4_leave 17 = .ok (.getfield 15, 3) := by decide +kernel
theorem dX4_leave_20 : decode cX4_leave 20 = .ok (.iload_n 2, 1) := by decide +kernel
theorem dX4_leave_21 : decode cX4_leave 21 = .ok (.iaload, 1) := by decide +kernel
theorem dX4_leave_22 : decode cX4_leave 22 = .ok (.istore 4, 2) := by decide +kernel
theorem dX4_leave_24 : decode cX4_leave 24 = .ok (.aload_n 1, 1) := by decide +kernel
theorem dX4_leave_25 : decode cX4_leave 25 = .ok (.getfield 84, 3) := by decide +kernel
theorem dX4_leave_28 : decode cX4_leave 28 = .ok (.iload_n 3, 1) := by decide +kernel
theorem dX4_leave_29 : decode cX4_leave 29 = .ok (.iaload, 1) := by decide +kernel
theorem dX4_leave_30 : decode cX4_leave 30 = .ok (.istore 5, 2) := by decide +kernel
theorem dX4_leave_32 : decode cX4_leave 32 = .ok (.aload_n 1, 1) := by decide +kernel
theorem dX4_leave_33 : decode cX4_leave 33 = .ok (.getfield 87, 3) := by decide +kernel
theorem dX4_leave_36 : decode cX4_leave 36 = .ok (.iload_n 3, 1) := by decide +kernel
theorem dX4_leave_37 : decode cX4_leave 37 = .ok (.iaload, 1) := by decide +kernel
theorem dX4_leave_38 : decode cX4_leave 38 = .ok (.tableswitch 178 0 6 #[42, 76, 124, 178, 178, 178, 160], 42) := by decide +kernel
theorem dX4_leave_80 : decode cX4_leave 80 = .ok (.aload_n 0, 1) := by decide +kernel
theorem dX4_leave_81 : decode cX4_leave 81 = .ok (.iload_n 2, 1) := by decide +kernel
theorem dX4_leave_82 : decode cX4_leave 82 = .ok (.aload_n 1, 1) := by decide +kernel
theorem dX4_leave_83 : decode cX4_leave 83 = .ok (.getfield 90, 3) := by decide +kernel
theorem dX4_leave_86 : decode cX4_leave 86 = .ok (.iload_n 3, 1) := by decide +kernel
theorem dX4_leave_87 : decode cX4_leave 87 = .ok (.iaload, 1) := by decide +kernel
theorem dX4_leave_88 : decode cX4_leave 88 = .ok (.iload 4, 2) := by decide +kernel
theorem dX4_leave_90 : decode cX4_leave 90 = .ok (.aload_n 1, 1) := by decide +kernel
theorem dX4_leave_91 : decode cX4_leave 91 = .ok (.getfield 93, 3) := by decide +kernel
theorem dX4_leave_94 : decode cX4_leave 94 = .ok (.iload_n 3, 1) := by decide +kernel
theorem dX4_leave_95 : decode cX4_leave 95 = .ok (.iaload, 1) := by decide +kernel
theorem dX4_leave_96 : decode cX4_leave 96 = .ok (.aload_n 1, 1) := by decide +kernel
theorem dX4_leave_97 : decode cX4_leave 97 = .ok (.iload_n 3, 1) := by decide +kernel
theorem dX4_leave_98 : decode cX4_leave 98 = .ok (.iload 4, 2) := by decide +kernel
theorem dX4_leave_100 : decode cX4_leave 100 = .ok (.invokevirtual 96, 3) := by decide +kernel
theorem dX4_leave_103 : decode cX4_leave 103 = .ok (.invokestatic 100, 3) := by decide +kernel
theorem dX4_leave_106 : decode cX4_leave 106 = .ok (.bipush 60, 2) := by decide +kernel
theorem dX4_leave_108 : decode cX4_leave 108 = .ok (.invokevirtual 105, 3) := by decide +kernel
theorem dX4_leave_111 : decode cX4_leave 111 = .ok (.goto 139, 3) := by decide +kernel
theorem dX4_leave_114 : decode cX4_leave 114 = .ok (.iconst 0, 1) := by decide +kernel
theorem dX4_leave_115 : decode cX4_leave 115 = .ok (.istore 6, 2) := by decide +kernel
theorem dX4_leave_117 : decode cX4_leave 117 = .ok (.iload 6, 2) := by decide +kernel
theorem dX4_leave_119 : decode cX4_leave 119 = .ok (.iload 5, 2) := by decide +kernel
theorem dX4_leave_121 : decode cX4_leave 121 = .ok (.if_icmp .ge 38, 3) := by decide +kernel
theorem dX4_leave_124 : decode cX4_leave 124 = .ok (.aload_n 0, 1) := by decide +kernel
theorem dX4_leave_125 : decode cX4_leave 125 = .ok (.iload_n 2, 1) := by decide +kernel
theorem dX4_leave_126 : decode cX4_leave 126 = .ok (.aload_n 1, 1) := by decide +kernel
theorem dX4_leave_127 : decode cX4_leave 127 = .ok (.getfield 90, 3) := by decide +kernel
theorem dX4_leave_130 : decode cX4_leave 130 = .ok (.iload_n 3, 1) := by decide +kernel
theorem dX4_leave_131 : decode cX4_leave 131 = .ok (.iaload, 1) := by decide +kernel
theorem dX4_leave_132 : decode cX4_leave 132 = .ok (.iload 4, 2) := by decide +kernel
theorem dX4_leave_134 : decode cX4_leave 134 = .ok (.aload_n 1, 1) := by decide +kernel
theorem dX4_leave_135 : decode cX4_leave 135 = .ok (.getfield 93, 3) := by decide +kernel
theorem dX4_leave_138 : decode cX4_leave 138 = .ok (.iload_n 3, 1) := by decide +kernel
theorem dX4_leave_139 : decode cX4_leave 139 = .ok (.iaload, 1) := by decide +kernel
theorem dX4_leave_140 : decode cX4_leave 140 = .ok (.iload 6, 2) := by decide +kernel
theorem dX4_leave_142 : decode cX4_leave 142 = .ok (.invokestatic 100, 3) := by decide +kernel
theorem dX4_leave_145 : decode cX4_leave 145 = .ok (.bipush 60, 2) := by decide +kernel
theorem dX4_leave_147 : decode cX4_leave 147 = .ok (.iload 5, 2) := by decide +kernel
theorem dX4_leave_149 : decode cX4_leave 149 = .ok (.idiv, 1) := by decide +kernel
theorem dX4_leave_150 : decode cX4_leave 150 = .ok (.invokevirtual 105, 3) := by decide +kernel
theorem dX4_leave_153 : decode cX4_leave 153 = .ok (.iinc 6 1, 3) := by decide +kernel
theorem dX4_leave_156 : decode cX4_leave 156 = .ok (.goto (-39), 3) := by decide +kernel
theorem dX4_leave_159 : decode cX4_leave 159 = .ok (.goto 91, 3) := by decide +kernel
theorem dX4_leave_162 : decode cX4_leave 162 = .ok (.aload_n 0, 1) := by decide +kernel
theorem dX4_leave_163 : decode cX4_leave 163 = .ok (.iload_n 2, 1) := by decide +kernel
theorem dX4_leave_164 : decode cX4_leave 164 = .ok (.aload_n 1, 1) := by decide +kernel
theorem dX4_leave_165 : decode cX4_leave 165 = .ok (.getfield 90, 3) := by decide +kernel
theorem dX4_leave_168 : decode cX4_leave 168 = .ok (.iload_n 3, 1) := by decide +kernel
theorem dX4_leave_169 : decode cX4_leave 169 = .ok (.iaload, 1) := by decide +kernel
theorem dX4_leave_170 : decode cX4_leave 170 = .ok (.iload 4, 2) := by decide +kernel
theorem dX4_leave_172 : decode cX4_leave 172 = .ok (.iload 5, 2) := by decide +kernel
theorem dX4_leave_174 : decode cX4_leave 174 = .ok (.invokevirtual 105, 3) := by decide +kernel
theorem dX4_leave_177 : decode cX4_leave 177 = .ok (.aload_n 0, 1) := by decide +kernel
theorem dX4_leave_178 : decode cX4_leave 178 = .ok (.iload_n 2, 1) := by decide +kernel
theorem dX4_leave_179 : decode cX4_leave 179 = .ok (.aload_n 1, 1) := by decide +kernel
theorem dX4_leave_180 : decode cX4_leave 180 = .ok (.getfield 109, 3) := by decide +kernel
theorem dX4_leave_183 : decode cX4_leave 183 = .ok (.iload_n 3, 1) := by decide +kernel
theorem dX4_leave_184 : decode cX4_leave 184 = .ok (.iaload, 1) := by decide +kernel
theorem dX4_leave_185 : decode cX4_leave 185 = .ok (.iload 4, 2) := by decide +kernel
theorem dX4_leave_187 : decode cX4_leave 187 = .ok (.bipush 60, 2) := by decide +kernel
theorem dX4_leave_189 : decode cX4_leave 189 = .ok (.iload 5, 2) := by decide +kernel
theorem dX4_leave_191 : decode cX4_leave 191 = .ok (.isub, 1) := by decide +kernel
theorem dX4_leave_192 : decode cX4_leave 192 = .ok (.invokevirtual 105, 3) := by decide +kernel
theorem dX4_leave_195 : decode cX4_leave 195 = .ok (.goto 55, 3) := by decide +kernel
theorem dX4_leave_198 : decode cX4_leave 198 = .ok (.aload_n 0, 1) := by decide +kernel
theorem dX4_leave_199 : decode cX4_leave 199 = .ok (.iload_n 2, 1) := by decide +kernel
theorem dX4_leave_200 : decode cX4_leave 200 = .ok (.aload_n 1, 1) := by decide +kernel
theorem dX4_leave_201 : decode cX4_leave 201 = .ok (.getfield 90, 3) := by decide +kernel
theorem dX4_leave_204 : decode cX4_leave 204 = .ok (.iload_n 3, 1) := by decide +kernel
theorem dX4_leave_205 : decode cX4_leave 205 = .ok (.iaload, 1) := by decide +kernel
theorem dX4_leave_206 : decode cX4_leave 206 = .ok (.iload 4, 2) := by decide +kernel
theorem dX4_leave_208 : decode cX4_leave 208 = .ok (.bipush 60, 2) := by decide +kernel
theorem dX4_leave_210 : decode cX4_leave 210 = .ok (.invokevirtual 105, 3) := by decide +kernel
theorem dX4_leave_213 : decode cX4_leave 213 = .ok (.goto 37, 3) := by decide +kernel
theorem dX4_leave_216 : decode cX4_leave 216 = .ok (.aload_n 0, 1) := by decide +kernel
theorem dX4_leave_217 : decode cX4_leave 217 = .ok (.iload_n 2, 1) := by decide +kernel
theorem dX4_leave_218 : decode cX4_leave 218 = .ok (.aload_n 1, 1) := by decide +kernel
theorem dX4_leave_219 : decode cX4_leave 219 = .ok (.iload_n 3, 1) := by decide +kernel
theorem dX4_leave_220 : decode cX4_leave 220 = .ok (.iload 4, 2) := by decide +kernel
theorem dX4_leave_222 : decode cX4_leave 222 = .ok (.invokevirtual 112, 3) := by decide +kernel
theorem dX4_leave_225 : decode cX4_leave 225 = .ok (.ifCond .eq 12, 3) := by decide +kernel
theorem dX4_leave_228 : decode cX4_leave 228 = .ok (.aload_n 1, 1) := by decide +kernel
theorem dX4_leave_229 : decode cX4_leave 229 = .ok (.getfield 90, 3) := by decide +kernel
theorem dX4_leave_232 : decode cX4_leave 232 = .ok (.iload_n 3, 1) := by decide +kernel
theorem dX4_leave_233 : decode cX4_leave 233 = .ok (.iaload, 1) := by decide +kernel
theorem dX4_leave_234 : decode cX4_leave 234 = .ok (.goto 9, 3) := by decide +kernel
theorem dX4_leave_237 : decode cX4_leave 237 = .ok (.aload_n 1, 1) := by decide +kernel
theorem dX4_leave_238 : decode cX4_leave 238 = .ok (.getfield 109, 3) := by decide +kernel
theorem dX4_leave_241 : decode cX4_leave 241 = .ok (.iload_n 3, 1) := by decide +kernel
theorem dX4_leave_242 : decode cX4_leave 242 = .ok (.iaload, 1) := by decide +kernel
theorem dX4_leave_243 : decode cX4_leave 243 = .ok (.iload 4, 2) := by decide +kernel
theorem dX4_leave_245 : decode cX4_leave 245 = .ok (.bipush 60, 2) := by decide +kernel
theorem dX4_leave_247 : decode cX4_leave 247 = .ok (.invokevirtual 105, 3) := by decide +kernel
theorem dX4_leave_250 : decode cX4_leave 250 = .ok (.return_, 1) := by decide +kernel
theorem dX4_lead_0 : decode cX4_lead 0 = .ok (.iload 4, 2) := by decide +kernel
theorem dX4_lead_2 : decode cX4_lead 2 = .ok (.ifCond .eq 10, 3) := by decide +kernel
theorem dX4_lead_5 : decode cX4_lead 5 = .ok (.aload_n 0, 1) := by decide +kernel
theorem dX4_lead_6 : decode cX4_lead 6 = .ok (.getfield 51, 3) := by decide +kernel
theorem dX4_lead_9 : decode cX4_lead 9 = .ok (.ifCond .eq 4, 3) := by decide +kernel
theorem dX4_lead_12 : decode cX4_lead 12 = .ok (.return_, 1) := by decide +kernel
theorem dX4_lead_13 : decode cX4_lead 13 = .ok (.aload_n 0, 1) := by decide +kernel
theorem dX4_lead_14 : decode cX4_lead 14 = .ok (.iload_n 2, 1) := by decide +kernel
theorem dX4_lead_15 : decode cX4_lead 15 = .ok (.iload_n 2, 1) := by decide +kernel
theorem dX4_lead_16 : decode cX4_lead 16 = .ok (.aload_n 0, 1) := by decide +kernel
theorem dX4_lead_17 : decode cX4_lead 17 = .ok (.getfield 57, 3) := by decide +kernel
theorem dX4_lead_20 : decode cX4_lead 20 = .ok (.if_icmp .le 7, 3) := by decide +kernel
theorem dX4_lead_23 : decode cX4_lead 23 = .ok (.iconst 0, 1) := by decide +kernel
theorem dX4_lead_24 : decode cX4_lead 24 = .ok (.goto 4, 3) := by decide +kernel
theorem dX4_lead_27 : decode cX4_lead 27 = .ok (.iload_n 3, 1) := by decide +kernel
theorem dX4_lead_28 : decode cX4_lead 28 = .ok (.aload_n 0, 1) := by decide +kernel
theorem dX4_lead_29 : decode cX4_lead 29 = .ok (.getfield 18, 3) := by decide +kernel
theorem dX4_lead_32 : decode cX4_lead 32 = .ok (.iload_n 1, 1) := by decide +kernel
theorem dX4_lead_33 : decode cX4_lead 33 = .ok (.iaload, 1) := by decide +kernel
theorem dX4_lead_34 : decode cX4_lead 34 = .ok (.iconst 1, 1) := by decide +kernel
theorem dX4_lead_35 : decode cX4_lead 35 = .ok (.iadd, 1) := by decide +kernel
theorem dX4_lead_36 : decode cX4_lead 36 = .ok (.invokevirtual 66, 3) := by decide +kernel
theorem dX4_lead_39 : decode cX4_lead 39 = .ok (.istore 5, 2) := by decide +kernel
theorem dX4_lead_41 : decode cX4_lead 41 = .ok (.iload 5, 2) := by decide +kernel
theorem dX4_lead_43 : decode cX4_lead 43 = .ok (.iconst (-1), 1) := by decide +kernel
theorem dX4_lead_44 : decode cX4_lead 44 = .ok (.if_icmp .eq 13, 3) := by decide +kernel
theorem dX4_lead_47 : decode cX4_lead 47 = .ok (.aload_n 0, 1) := by decide +kernel
theorem dX4_lead_48 : decode cX4_lead 48 = .ok (.getfield 48, 3) := by decide +kernel
theorem dX4_lead_51 : decode cX4_lead 51 = .ok (.sipush 2000, 3) := by decide +kernel
theorem dX4_lead_54 : decode cX4_lead 54 = .ok (.if_icmp .lt 9, 3) := by decide +kernel
theorem dX4_lead_57 : decode cX4_lead 57 = .ok (.aload_n 0, 1) := by decide +kernel
theorem dX4_lead_58 : decode cX4_lead 58 = .ok (.iconst 1, 1) := by decide +kernel
theorem dX4_lead_59 : decode cX4_lead 59 = .ok (.putfield 51, 3) := by decide +kernel
theorem dX4_lead_62 : decode cX4_lead 62 = .ok (.return_, 1) := by decide +kernel
theorem dX4_lead_63 : decode cX4_lead 63 = .ok (.aload_n 0, 1) := by decide +kernel
theorem dX4_lead_64 : decode cX4_lead 64 = .ok (.getfield 28, 3) := by decide +kernel
theorem dX4_lead_67 : decode cX4_lead 67 = .ok (.aload_n 0, 1) := by decide +kernel
theorem dX4_lead_68 : decode cX4_lead 68 = .ok (.getfield 48, 3) := by decide +kernel
theorem dX4_lead_71 : decode cX4_lead 71 = .ok (.iload 5, 2) := by decide +kernel
theorem dX4_lead_73 : decode cX4_lead 73 = .ok (.iastore, 1) := by decide +kernel
theorem dX4_lead_74 : decode cX4_lead 74 = .ok (.aload_n 0, 1) := by decide +kernel
theorem dX4_lead_75 : decode cX4_lead 75 = .ok (.getfield 31, 3) := by decide +kernel
theorem dX4_lead_78 : decode cX4_lead 78 = .ok (.aload_n 0, 1) := by decide +kernel
theorem dX4_lead_79 : decode cX4_lead 79 = .ok (.getfield 48, 3) := by decide +kernel
theorem dX4_lead_82 : decode cX4_lead 82 = .ok (.iload 4, 2) := by decide +kernel
theorem dX4_lead_84 : decode cX4_lead 84 = .ok (.iastore, 1) := by decide +kernel
theorem dX4_lead_85 : decode cX4_lead 85 = .ok (.aload_n 0, 1) := by decide +kernel
theorem dX4_lead_86 : decode cX4_lead 86 = .ok (.dup, 1) := by decide +kernel
theorem dX4_lead_87 : decode cX4_lead 87 = .ok (.getfield 48, 3) := by decide +kernel
theorem dX4_lead_90 : decode cX4_lead 90 = .ok (.iconst 1, 1) := by decide +kernel
theorem dX4_lead_91 : decode cX4_lead 91 = .ok (.iadd, 1) := by decide +kernel
theorem dX4_lead_92 : decode cX4_lead 92 = .ok (.putfield 48, 3) := by decide +kernel
theorem dX4_lead_95 : decode cX4_lead 95 = .ok (.return_, 1) := by decide +kernel
theorem dX4_stateAt_0 : decode cX4_stateAt 0 = .ok (.ldc 116, 2) := by decide +kernel
theorem dX4_stateAt_2 : decode cX4_stateAt 2 = .ok (.iload_n 1, 1) := by decide +kernel
theorem dX4_stateAt_3 : decode cX4_stateAt 3 = .ok (.imul, 1) := by decide +kernel
theorem dX4_stateAt_4 : decode cX4_stateAt 4 = .ok (.iload_n 2, 1) := by decide +kernel
theorem dX4_stateAt_5 : decode cX4_stateAt 5 = .ok (.iadd, 1) := by decide +kernel
theorem dX4_stateAt_6 : decode cX4_stateAt 6 = .ok (.ldc 117, 2) := by decide +kernel
theorem dX4_stateAt_8 : decode cX4_stateAt 8 = .ok (.imul, 1) := by decide +kernel
theorem dX4_stateAt_9 : decode cX4_stateAt 9 = .ok (.bipush 23, 2) := by decide +kernel
theorem dX4_stateAt_11 : decode cX4_stateAt 11 = .ok (.iushr, 1) := by decide +kernel
theorem dX4_stateAt_12 : decode cX4_stateAt 12 = .ok (.istore 4, 2) := by decide +kernel
theorem dX4_stateAt_14 : decode cX4_stateAt 14 = .ok (.iconst 0, 1) := by decide +kernel
theorem dX4_stateAt_15 : decode cX4_stateAt 15 = .ok (.istore 5, 2) := by decide +kernel
theorem dX4_stateAt_17 : decode cX4_stateAt 17 = .ok (.iload 5, 2) := by decide +kernel
theorem dX4_stateAt_19 : decode cX4_stateAt 19 = .ok (.sipush 512, 3) := by decide +kernel
theorem dX4_stateAt_22 : decode cX4_stateAt 22 = .ok (.if_icmp .ge 65, 3) := by decide +kernel
theorem dX4_stateAt_25 : decode cX4_stateAt 25 = .ok (.aload_n 0, 1) := by decide +kernel
theorem dX4_stateAt_26 : decode cX4_stateAt 26 = .ok (.getfield 34, 3) := by decide +kernel
theorem dX4_stateAt_29 : decode cX4_stateAt 29 = .ok (.iload 4, 2) := by decide +kernel
theorem dX4_stateAt_31 : decode cX4_stateAt 31 = .ok (.iaload, 1) := by decide +kernel
theorem dX4_stateAt_32 : decode cX4_stateAt 32 = .ok (.ifCond .eq 55, 3) := by decide +kernel
theorem dX4_stateAt_35 : decode cX4_stateAt 35 = .ok (.aload_n 0, 1) := by decide +kernel
theorem dX4_stateAt_36 : decode cX4_stateAt 36 = .ok (.getfield 34, 3) := by decide +kernel
theorem dX4_stateAt_39 : decode cX4_stateAt 39 = .ok (.iload 4, 2) := by decide +kernel
theorem dX4_stateAt_41 : decode cX4_stateAt 41 = .ok (.iaload, 1) := by decide +kernel
theorem dX4_stateAt_42 : decode cX4_stateAt 42 = .ok (.iconst 1, 1) := by decide +kernel
theorem dX4_stateAt_43 : decode cX4_stateAt 43 = .ok (.isub, 1) := by decide +kernel
theorem dX4_stateAt_44 : decode cX4_stateAt 44 = .ok (.istore 6, 2) := by decide +kernel
theorem dX4_stateAt_46 : decode cX4_stateAt 46 = .ok (.aload_n 0, 1) := by decide +kernel
theorem dX4_stateAt_47 : decode cX4_stateAt 47 = .ok (.getfield 9, 3) := by decide +kernel
theorem dX4_stateAt_50 : decode cX4_stateAt 50 = .ok (.iload 6, 2) := by decide +kernel
theorem dX4_stateAt_52 : decode cX4_stateAt 52 = .ok (.iaload, 1) := by decide +kernel
theorem dX4_stateAt_53 : decode cX4_stateAt 53 = .ok (.iload_n 1, 1) := by decide +kernel
theorem dX4_stateAt_54 : decode cX4_stateAt 54 = .ok (.if_icmp .ne 17, 3) := by decide +kernel
theorem dX4_stateAt_57 : decode cX4_stateAt 57 = .ok (.aload_n 0, 1) := by decide +kernel
theorem dX4_stateAt_58 : decode cX4_stateAt 58 = .ok (.getfield 15, 3) := by decide +kernel
theorem dX4_stateAt_61 : decode cX4_stateAt 61 = .ok (.iload 6, 2) := by decide +kernel
theorem dX4_stateAt_63 : decode cX4_stateAt 63 = .ok (.iaload, 1) := by decide +kernel
theorem dX4_stateAt_64 : decode cX4_stateAt 64 = .ok (.iload_n 2, 1) := by decide +kernel
theorem dX4_stateAt_65 : decode cX4_stateAt 65 = .ok (.if_icmp .ne 6, 3) := by decide +kernel
theorem dX4_stateAt_68 : decode cX4_stateAt 68 = .ok (.iload 6, 2) := by decide +kernel
theorem dX4_stateAt_70 : decode cX4_stateAt 70 = .ok (.ireturn, 1) := by decide +kernel
theorem dX4_stateAt_71 : decode cX4_stateAt 71 = .ok (.iload 4, 2) := by decide +kernel
theorem dX4_stateAt_73 : decode cX4_stateAt 73 = .ok (.iconst 1, 1) := by decide +kernel
theorem dX4_stateAt_74 : decode cX4_stateAt 74 = .ok (.iadd, 1) := by decide +kernel
theorem dX4_stateAt_75 : decode cX4_stateAt 75 = .ok (.sipush 512, 3) := by decide +kernel
theorem dX4_stateAt_78 : decode cX4_stateAt 78 = .ok (.irem, 1) := by decide +kernel
theorem dX4_stateAt_79 : decode cX4_stateAt 79 = .ok (.istore 4, 2) := by decide +kernel
theorem dX4_stateAt_81 : decode cX4_stateAt 81 = .ok (.iinc 5 1, 3) := by decide +kernel
theorem dX4_stateAt_84 : decode cX4_stateAt 84 = .ok (.goto (-67), 3) := by decide +kernel
theorem dX4_stateAt_87 : decode cX4_stateAt 87 = .ok (.aload_n 0, 1) := by decide +kernel
theorem dX4_stateAt_88 : decode cX4_stateAt 88 = .ok (.getfield 45, 3) := by decide +kernel
theorem dX4_stateAt_91 : decode cX4_stateAt 91 = .ok (.sipush 200, 3) := by decide +kernel
theorem dX4_stateAt_94 : decode cX4_stateAt 94 = .ok (.if_icmp .lt 5, 3) := by decide +kernel
theorem dX4_stateAt_97 : decode cX4_stateAt 97 = .ok (.iconst (-1), 1) := by decide +kernel
theorem dX4_stateAt_98 : decode cX4_stateAt 98 = .ok (.ireturn, 1) := by decide +kernel
theorem dX4_stateAt_99 : decode cX4_stateAt 99 = .ok (.aload_n 0, 1) := by decide +kernel
theorem dX4_stateAt_100 : decode cX4_stateAt 100 = .ok (.getfield 9, 3) := by decide +kernel
theorem dX4_stateAt_103 : decode cX4_stateAt 103 = .ok (.aload_n 0, 1) := by decide +kernel
theorem dX4_stateAt_104 : decode cX4_stateAt 104 = .ok (.getfield 45, 3) := by decide +kernel
theorem dX4_stateAt_107 : decode cX4_stateAt 107 = .ok (.iload_n 1, 1) := by decide +kernel
theorem dX4_stateAt_108 : decode cX4_stateAt 108 = .ok (.iastore, 1) := by decide +kernel
theorem dX4_stateAt_109 : decode cX4_stateAt 109 = .ok (.aload_n 0, 1) := by decide +kernel
theorem dX4_stateAt_110 : decode cX4_stateAt 110 = .ok (.getfield 15, 3) := by decide +kernel
theorem dX4_stateAt_113 : decode cX4_stateAt 113 = .ok (.aload_n 0, 1) := by decide +kernel
theorem dX4_stateAt_114 : decode cX4_stateAt 114 = .ok (.getfield 45, 3) := by decide +kernel
theorem dX4_stateAt_117 : decode cX4_stateAt 117 = .ok (.iload_n 2, 1) := by decide +kernel
theorem dX4_stateAt_118 : decode cX4_stateAt 118 = .ok (.iastore, 1) := by decide +kernel
theorem dX4_stateAt_119 : decode cX4_stateAt 119 = .ok (.aload_n 0, 1) := by decide +kernel
theorem dX4_stateAt_120 : decode cX4_stateAt 120 = .ok (.getfield 18, 3) := by decide +kernel
theorem dX4_stateAt_123 : decode cX4_stateAt 123 = .ok (.aload_n 0, 1) := by decide +kernel
theorem dX4_stateAt_124 : decode cX4_stateAt 124 = .ok (.getfield 45, 3) := by decide +kernel
theorem dX4_stateAt_127 : decode cX4_stateAt 127 = .ok (.iload_n 3, 1) := by decide +kernel
theorem dX4_stateAt_128 : decode cX4_stateAt 128 = .ok (.iastore, 1) := by decide +kernel
theorem dX4_stateAt_129 : decode cX4_stateAt 129 = .ok (.aload_n 0, 1) := by decide +kernel
theorem dX4_stateAt_130 : decode cX4_stateAt 130 = .ok (.dup, 1) := by decide +kernel
theorem dX4_stateAt_131 : decode cX4_stateAt 131 = .ok (.getfield 45, 3) := by decide +kernel
theorem dX4_stateAt_134 : decode cX4_stateAt 134 = .ok (.iconst 1, 1) := by decide +kernel
theorem dX4_stateAt_135 : decode cX4_stateAt 135 = .ok (.iadd, 1) := by decide +kernel
theorem dX4_stateAt_136 : decode cX4_stateAt 136 = .ok (.putfield 45, 3) := by decide +kernel
theorem dX4_stateAt_139 : decode cX4_stateAt 139 = .ok (.aload_n 0, 1) := by decide +kernel
theorem dX4_stateAt_140 : decode cX4_stateAt 140 = .ok (.getfield 34, 3) := by decide +kernel
theorem dX4_stateAt_143 : decode cX4_stateAt 143 = .ok (.iload 4, 2) := by decide +kernel
theorem dX4_stateAt_145 : decode cX4_stateAt 145 = .ok (.aload_n 0, 1) := by decide +kernel
theorem dX4_stateAt_146 : decode cX4_stateAt 146 = .ok (.getfield 45, 3) := by decide +kernel
theorem dX4_stateAt_149 : decode cX4_stateAt 149 = .ok (.iastore, 1) := by decide +kernel
theorem dX4_stateAt_150 : decode cX4_stateAt 150 = .ok (.aload_n 0, 1) := by decide +kernel
theorem dX4_stateAt_151 : decode cX4_stateAt 151 = .ok (.getfield 45, 3) := by decide +kernel
theorem dX4_stateAt_154 : decode cX4_stateAt 154 = .ok (.iconst 1, 1) := by decide +kernel
theorem dX4_stateAt_155 : decode cX4_stateAt 155 = .ok (.isub, 1) := by decide +kernel
theorem dX4_stateAt_156 : decode cX4_stateAt 156 = .ok (.ireturn, 1) := by decide +kernel
theorem dX4_findTrapped_0 : decode cX4_findTrapped 0 = .ok (.aload_n 0, 1) := by decide +kernel
theorem dX4_findTrapped_1 : decode cX4_findTrapped 1 = .ok (.iconst 0, 1) := by decide +kernel
theorem dX4_findTrapped_2 : decode cX4_findTrapped 2 = .ok (.putfield 118, 3) := by decide +kernel
theorem dX4_findTrapped_5 : decode cX4_findTrapped 5 = .ok (.iconst 0, 1) := by decide +kernel
theorem dX4_findTrapped_6 : decode cX4_findTrapped 6 = .ok (.istore_n 1, 1) := by decide +kernel
theorem dX4_findTrapped_7 : decode cX4_findTrapped 7 = .ok (.iload_n 1, 1) := by decide +kernel
theorem dX4_findTrapped_8 : decode cX4_findTrapped 8 = .ok (.aload_n 0, 1) := by decide +kernel
theorem dX4_findTrapped_9 : decode cX4_findTrapped 9 = .ok (.getfield 45, 3) := by decide +kernel
theorem dX4_findTrapped_12 : decode cX4_findTrapped 12 = .ok (.if_icmp .ge 56, 3) := by decide +kernel
theorem dX4_findTrapped_15 : decode cX4_findTrapped 15 = .ok (.aload_n 0, 1) := by decide +kernel
theorem dX4_findTrapped_16 : decode cX4_findTrapped 16 = .ok (.getfield 21, 3) := by decide +kernel
theorem dX4_findTrapped_19 : decode cX4_findTrapped 19 = .ok (.iload_n 1, 1) := by decide +kernel
theorem dX4_findTrapped_20 : decode cX4_findTrapped 20 = .ok (.aload_n 0, 1) := by decide +kernel
theorem dX4_findTrapped_21 : decode cX4_findTrapped 21 = .ok (.getfield 9, 3) := by decide +kernel
theorem dX4_findTrapped_24 : decode cX4_findTrapped 24 = .ok (.iload_n 1, 1) := by decide +kernel
theorem dX4_findTrapped_25 : decode cX4_findTrapped 25 = .ok (.iaload, 1) := by decide +kernel
theorem dX4_findTrapped_26 : decode cX4_findTrapped 26 = .ok (.aload_n 0, 1) := by decide +kernel
theorem dX4_findTrapped_27 : decode cX4_findTrapped 27 = .ok (.getfield 57, 3) := by decide +kernel
theorem dX4_findTrapped_30 : decode cX4_findTrapped 30 = .ok (.if_icmp .ge 7, 3) := by decide +kernel
theorem dX4_findTrapped_33 : decode cX4_findTrapped 33 = .ok (.iconst 1, 1) := by decide +kernel
theorem dX4_findTrapped_34 : decode cX4_findTrapped 34 = .ok (.goto 4, 3) := by decide +kernel
theorem dX4_findTrapped_37 : decode cX4_findTrapped 37 = .ok (.iconst 0, 1) := by decide +kernel
theorem dX4_findTrapped_38 : decode cX4_findTrapped 38 = .ok (.bastore, 1) := by decide +kernel
theorem dX4_findTrapped_39 : decode cX4_findTrapped 39 = .ok (.aload_n 0, 1) := by decide +kernel
theorem dX4_findTrapped_40 : decode cX4_findTrapped 40 = .ok (.dup, 1) := by decide +kernel
theorem dX4_findTrapped_41 : decode cX4_findTrapped 41 = .ok (.getfield 118, 3) := by decide +kernel
theorem dX4_findTrapped_44 : decode cX4_findTrapped 44 = .ok (.aload_n 0, 1) := by decide +kernel
theorem dX4_findTrapped_45 : decode cX4_findTrapped 45 = .ok (.getfield 21, 3) := by decide +kernel
theorem dX4_findTrapped_48 : decode cX4_findTrapped 48 = .ok (.iload_n 1, 1) := by decide +kernel
theorem dX4_findTrapped_49 : decode cX4_findTrapped 49 = .ok (.baload, 1) := by decide +kernel
theorem dX4_findTrapped_50 : decode cX4_findTrapped 50 = .ok (.ifCond .eq 7, 3) := by decide +kernel
theorem dX4_findTrapped_53 : decode cX4_findTrapped 53 = .ok (.iconst 1, 1) := by decide +kernel
theorem dX4_findTrapped_54 : decode cX4_findTrapped 54 = .ok (.goto 4, 3) := by decide +kernel
theorem dX4_findTrapped_57 : decode cX4_findTrapped 57 = .ok (.iconst 0, 1) := by decide +kernel
theorem dX4_findTrapped_58 : decode cX4_findTrapped 58 = .ok (.iadd, 1) := by decide +kernel
theorem dX4_findTrapped_59 : decode cX4_findTrapped 59 = .ok (.putfield 118, 3) := by decide +kernel
theorem dX4_findTrapped_62 : decode cX4_findTrapped 62 = .ok (.iinc 1 1, 3) := by decide +kernel
theorem dX4_findTrapped_65 : decode cX4_findTrapped 65 = .ok (.goto (-58), 3) := by decide +kernel
theorem dX4_findTrapped_68 : decode cX4_findTrapped 68 = .ok (.iconst 1, 1) := by decide +kernel
theorem dX4_findTrapped_69 : decode cX4_findTrapped 69 = .ok (.istore_n 1, 1) := by decide +kernel
theorem dX4_findTrapped_70 : decode cX4_findTrapped 70 = .ok (.iconst 0, 1) := by decide +kernel
theorem dX4_findTrapped_71 : decode cX4_findTrapped 71 = .ok (.istore_n 2, 1) := by decide +kernel
theorem dX4_findTrapped_72 : decode cX4_findTrapped 72 = .ok (.iload_n 2, 1) := by decide +kernel
theorem dX4_findTrapped_73 : decode cX4_findTrapped 73 = .ok (.sipush 200, 3) := by decide +kernel
theorem dX4_findTrapped_76 : decode cX4_findTrapped 76 = .ok (.if_icmp .ge 68, 3) := by decide +kernel
theorem dX4_findTrapped_79 : decode cX4_findTrapped 79 = .ok (.iload_n 1, 1) := by decide +kernel
theorem dX4_findTrapped_80 : decode cX4_findTrapped 80 = .ok (.ifCond .eq 64, 3) := by decide +kernel
theorem dX4_findTrapped_83 : decode cX4_findTrapped 83 = .ok (.iconst 0, 1) := by decide +kernel
