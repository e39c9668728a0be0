theorem dX10_refuseState_7 : decode cX10_refuseState 7 = .ok (.iconst 1, 1) := by decide +kernel
theorem dX10_refuseState_8 : decode cX10_refuseState 8 = .ok (.iadd, 1) := by decide +kernel
theorem dX10_refuseState_9 : decode cX10_refuseState 9 = .ok (.iastore, 1) := by decide +kernel
theorem dX10_refuseState_10 : decode cX10_refuseState 10 = .ok (.new 304, 3) := by decide +kernel
theorem dX10_refuseState_13 : decode cX10_refuseState 13 = .ok (.dup, 1) := by decide +kernel
theorem dX10_refuseState_14 : decode cX10_refuseState 14 = .ok (.ldc_w 306, 3) := by decide +kernel
theorem dX10_refuseState_17 : decode cX10_refuseState 17 = .ok (.invokespecial 308, 3) := by decide +kernel
theorem dX10_refuseState_20 : decode cX10_refuseState 20 = .ok (.athrow, 1) := by decide +kernel
theorem dX10_coupleInForm_0 : decode cX10_coupleInForm 0 = .ok (.aload_n 0, 1) := by decide +kernel
theorem dX10_coupleInForm_1 : decode cX10_coupleInForm 1 = .ok (.getfield 44, 3) := by decide +kernel
theorem dX10_coupleInForm_4 : decode cX10_coupleInForm 4 = .ok (.aload_n 0, 1) := by decide +kernel
theorem dX10_coupleInForm_5 : decode cX10_coupleInForm 5 = .ok (.getfield 37, 3) := by decide +kernel
theorem dX10_coupleInForm_8 : decode cX10_coupleInForm 8 = .ok (.invokevirtual 237, 3) := by decide +kernel
theorem dX10_coupleInForm_11 : decode cX10_coupleInForm 11 = .ok (.ifCond .ne 6, 3) := by decide +kernel
theorem dX10_coupleInForm_14 : decode cX10_coupleInForm 14 = .ok (.bipush (-3), 2) := by decide +kernel
theorem dX10_coupleInForm_16 : decode cX10_coupleInForm 16 = .ok (.ireturn, 1) := by decide +kernel
theorem dX10_coupleInForm_17 : decode cX10_coupleInForm 17 = .ok (.aload_n 0, 1) := by decide +kernel
theorem dX10_coupleInForm_18 : decode cX10_coupleInForm 18 = .ok (.getfield 44, 3) := by decide +kernel
theorem dX10_coupleInForm_21 : decode cX10_coupleInForm 21 = .ok (.aload_n 0, 1) := by decide +kernel
theorem dX10_coupleInForm_22 : decode cX10_coupleInForm 22 = .ok (.getfield 44, 3) := by decide +kernel
theorem dX10_coupleInForm_25 : decode cX10_coupleInForm 25 = .ok (.aload_n 0, 1) := by decide +kernel
theorem dX10_coupleInForm_26 : decode cX10_coupleInForm 26 = .ok (.getfield 37, 3) := by decide +kernel
theorem dX10_coupleInForm_29 : decode cX10_coupleInForm 29 = .ok (.iload_n 1, 1) := by decide +kernel
theorem dX10_coupleInForm_30 : decode cX10_coupleInForm 30 = .ok (.iload_n 2, 1) := by decide +kernel
theorem dX10_coupleInForm_31 : decode cX10_coupleInForm 31 = .ok (.iload_n 3, 1) := by decide +kernel
theorem dX10_coupleInForm_32 : decode cX10_coupleInForm 32 = .ok (.iload 4, 2) := by decide +kernel
theorem dX10_coupleInForm_34 : decode cX10_coupleInForm 34 = .ok (.invokevirtual 309, 3) := by decide +kernel
theorem dX10_coupleInForm_37 : decode cX10_coupleInForm 37 = .ok (.invokevirtual 244, 3) := by decide +kernel
theorem dX10_coupleInForm_40 : decode cX10_coupleInForm 40 = .ok (.iload 5, 2) := by decide +kernel
theorem dX10_coupleInForm_42 : decode cX10_coupleInForm 42 = .ok (.invokestatic 219, 3) := by decide +kernel
theorem dX10_coupleInForm_45 : decode cX10_coupleInForm 45 = .ok (.ireturn, 1) := by decide +kernel
theorem dX11_thrown_0 : decode cX11_thrown 0 = .ok (.aload_n 0, 1) := by decide +kernel
theorem dX11_thrown_1 : decode cX11_thrown 1 = .ok (.getfield 1, 3) := by decide +kernel
theorem dX11_thrown_4 : decode cX11_thrown 4 = .ok (.ireturn, 1) := by decide +kernel
theorem dX11_isFine_0 : decode cX11_isFine 0 = .ok (.iload_n 1, 1) := by decide +kernel
theorem dX11_isFine_1 : decode cX11_isFine 1 = .ok (.ifCond .ne 25, 3) := by decide +kernel
theorem dX11_isFine_4 : decode cX11_isFine 4 = .ok (.aload_n 0, 1) := by decide +kernel
theorem dX11_isFine_5 : decode cX11_isFine 5 = .ok (.getfield 1, 3) := by decide +kernel
theorem dX11_isFine_8 : decode cX11_isFine 8 = .ok (.ifCond .ne 18, 3) := by decide +kernel
theorem dX11_isFine_11 : decode cX11_isFine 11 = .ok (.aload_n 0, 1) := by decide +kernel
theorem dX11_isFine_12 : decode cX11_isFine 12 = .ok (.iload_n 2, 1) := by decide +kernel
theorem dX11_isFine_13 : decode cX11_isFine 13 = .ok (.putfield 1, 3) := by decide +kernel
theorem dX11_isFine_16 : decode cX11_isFine 16 = .ok (.aload_n 0, 1) := by decide +kernel
theorem dX11_isFine_17 : decode cX11_isFine 17 = .ok (.getfield 7, 3) := by decide +kernel
theorem dX11_isFine_20 : decode cX11_isFine 20 = .ok (.iload_n 3, 1) := by decide +kernel
theorem dX11_isFine_21 : decode cX11_isFine 21 = .ok (.dup2, 1) := by decide +kernel
theorem dX11_isFine_22 : decode cX11_isFine 22 = .ok (.iaload, 1) := by decide +kernel
theorem dX11_isFine_23 : decode cX11_isFine 23 = .ok (.iconst 1, 1) := by decide +kernel
theorem dX11_isFine_24 : decode cX11_isFine 24 = .ok (.iadd, 1) := by decide +kernel
theorem dX11_isFine_25 : decode cX11_isFine 25 = .ok (.iastore, 1) := by decide +kernel
theorem dX11_isFine_26 : decode cX11_isFine 26 = .ok (.aload_n 0, 1) := by decide +kernel
theorem dX11_isFine_27 : decode cX11_isFine 27 = .ok (.getfield 1, 3) := by decide +kernel
theorem dX11_isFine_30 : decode cX11_isFine 30 = .ok (.ifCond .ne 7, 3) := by decide +kernel
theorem dX11_isFine_33 : decode cX11_isFine 33 = .ok (.iconst 1, 1) := by decide +kernel
theorem dX11_isFine_34 : decode cX11_isFine 34 = .ok (.goto 4, 3) := by decide +kernel
theorem dX11_isFine_37 : decode cX11_isFine 37 = .ok (.iconst 0, 1) := by decide +kernel
theorem dX11_isFine_38 : decode cX11_isFine 38 = .ok (.ireturn, 1) := by decide +kernel
theorem dX11_lies_0 : decode cX11_lies 0 = .ok (.lload_n 0, 1) := by decide +kernel
theorem dX11_lies_1 : decode cX11_lies 1 = .ok (.lload_n 2, 1) := by decide +kernel
theorem dX11_lies_2 : decode cX11_lies 2 = .ok (.lcmp, 1) := by decide +kernel
theorem dX11_lies_3 : decode cX11_lies 3 = .ok (.ifCond .lt 14, 3) := by decide +kernel
theorem dX11_lies_6 : decode cX11_lies 6 = .ok (.lload_n 0, 1) := by decide +kernel
theorem dX11_lies_7 : decode cX11_lies 7 = .ok (.lload 4, 2) := by decide +kernel
theorem dX11_lies_9 : decode cX11_lies 9 = .ok (.lcmp, 1) := by decide +kernel
theorem dX11_lies_10 : decode cX11_lies 10 = .ok (.ifCond .gt 7, 3) := by decide +kernel
theorem dX11_lies_13 : decode cX11_lies 13 = .ok (.iconst 1, 1) := by decide +kernel
theorem dX11_lies_14 : decode cX11_lies 14 = .ok (.goto 4, 3) := by decide +kernel
theorem dX11_lies_17 : decode cX11_lies 17 = .ok (.iconst 0, 1) := by decide +kernel
theorem dX11_lies_18 : decode cX11_lies 18 = .ok (.ireturn, 1) := by decide +kernel
theorem dX11_of_0 : decode cX11_of 0 = .ok (.aload_n 0, 1) := by decide +kernel
theorem dX11_of_1 : decode cX11_of 1 = .ok (.getfield 11, 3) := by decide +kernel
theorem dX11_of_4 : decode cX11_of 4 = .ok (.bipush 12, 2) := by decide +kernel
theorem dX11_of_6 : decode cX11_of 6 = .ok (.iload_n 1, 1) := by decide +kernel
theorem dX11_of_7 : decode cX11_of 7 = .ok (.imul, 1) := by decide +kernel
theorem dX11_of_8 : decode cX11_of 8 = .ok (.iload_n 2, 1) := by decide +kernel
theorem dX11_of_9 : decode cX11_of 9 = .ok (.iadd, 1) := by decide +kernel
theorem dX11_of_10 : decode cX11_of 10 = .ok (.iaload, 1) := by decide +kernel
theorem dX11_of_11 : decode cX11_of 11 = .ok (.ireturn, 1) := by decide +kernel
theorem dX11_feed_0 : decode cX11_feed 0 = .ok (.aload_n 0, 1) := by decide +kernel
theorem dX11_feed_1 : decode cX11_feed 1 = .ok (.iconst 0, 1) := by decide +kernel
theorem dX11_feed_2 : decode cX11_feed 2 = .ok (.putfield 1, 3) := by decide +kernel
theorem dX11_feed_5 : decode cX11_feed 5 = .ok (.aload_n 0, 1) := by decide +kernel
theorem dX11_feed_6 : decode cX11_feed 6 = .ok (.getfield 14, 3) := by decide +kernel
theorem dX11_feed_9 : decode cX11_feed 9 = .ok (.bipush 20, 2) := by decide +kernel
theorem dX11_feed_11 : decode cX11_feed 11 = .ok (.iadd, 1) := by decide +kernel
theorem dX11_feed_12 : decode cX11_feed 12 = .ok (.sipush 400, 3) := by decide +kernel
theorem dX11_feed_15 : decode cX11_feed 15 = .ok (.if_icmp .le 5, 3) := by decide +kernel
theorem dX11_feed_18 : decode cX11_feed 18 = .ok (.iconst (-1), 1) := by decide +kernel
theorem dX11_feed_19 : decode cX11_feed 19 = .ok (.ireturn, 1) := by decide +kernel
theorem dX11_feed_20 : decode cX11_feed 20 = .ok (.aload_n 0, 1) := by decide +kernel
theorem dX11_feed_21 : decode cX11_feed 21 = .ok (.iload_n 1, 1) := by decide +kernel
theorem dX11_feed_22 : decode cX11_feed 22 = .ok (.invokevirtual 17, 3) := by decide +kernel
theorem dX11_feed_25 : decode cX11_feed 25 = .ok (.aload_n 0, 1) := by decide +kernel
theorem dX11_feed_26 : decode cX11_feed 26 = .ok (.iload_n 2, 1) := by decide +kernel
theorem dX11_feed_27 : decode cX11_feed 27 = .ok (.invokevirtual 17, 3) := by decide +kernel
theorem dX11_feed_30 : decode cX11_feed 30 = .ok (.aload_n 0, 1) := by decide +kernel
theorem dX11_feed_31 : decode cX11_feed 31 = .ok (.iload_n 3, 1) := by decide +kernel
theorem dX11_feed_32 : decode cX11_feed 32 = .ok (.invokevirtual 17, 3) := by decide +kernel
theorem dX11_feed_35 : decode cX11_feed 35 = .ok (.aload_n 0, 1) := by decide +kernel
theorem dX11_feed_36 : decode cX11_feed 36 = .ok (.iload 4, 2) := by decide +kernel
theorem dX11_feed_38 : decode cX11_feed 38 = .ok (.invokevirtual 17, 3) := by decide +kernel
theorem dX11_feed_41 : decode cX11_feed 41 = .ok (.aload_n 0, 1) := by decide +kernel
theorem dX11_feed_42 : decode cX11_feed 42 = .ok (.iload 5, 2) := by decide +kernel
theorem dX11_feed_44 : decode cX11_feed 44 = .ok (.invokevirtual 17, 3) := by decide +kernel
theorem dX11_feed_47 : decode cX11_feed 47 = .ok (.aload_n 0, 1) := by decide +kernel
theorem dX11_feed_48 : decode cX11_feed 48 = .ok (.getfield 14, 3) := by decide +kernel
theorem dX11_feed_51 : decode cX11_feed 51 = .ok (.ireturn, 1) := by decide +kernel
theorem dX11_puts_0 : decode cX11_puts 0 = .ok (.bipush 24, 2) := by decide +kernel
theorem dX11_puts_2 : decode cX11_puts 2 = .ok (.istore_n 2, 1) := by decide +kernel
theorem dX11_puts_3 : decode cX11_puts 3 = .ok (.iload_n 2, 1) := by decide +kernel
theorem dX11_puts_4 : decode cX11_puts 4 = .ok (.ifCond .lt 32, 3) := by decide +kernel
theorem dX11_puts_7 : decode cX11_puts 7 = .ok (.aload_n 0, 1) := by decide +kernel
theorem dX11_puts_8 : decode cX11_puts 8 = .ok (.getfield 21, 3) := by decide +kernel
theorem dX11_puts_11 : decode cX11_puts 11 = .ok (.aload_n 0, 1) := by decide +kernel
theorem dX11_puts_12 : decode cX11_puts 12 = .ok (.getfield 14, 3) := by decide +kernel
theorem dX11_puts_15 : decode cX11_puts 15 = .ok (.iload_n 1, 1) := by decide +kernel
theorem dX11_puts_16 : decode cX11_puts 16 = .ok (.iload_n 2, 1) := by decide +kernel
theorem dX11_puts_17 : decode cX11_puts 17 = .ok (.ishr, 1) := by decide +kernel
theorem dX11_puts_18 : decode cX11_puts 18 = .ok (.i2b, 1) := by decide +kernel
theorem dX11_puts_19 : decode cX11_puts 19 = .ok (.bastore, 1) := by decide +kernel
theorem dX11_puts_20 : decode cX11_puts 20 = .ok (.aload_n 0, 1) := by decide +kernel
theorem dX11_puts_21 : decode cX11_puts 21 = .ok (.dup, 1) := by decide +kernel
theorem dX11_puts_22 : decode cX11_puts 22 = .ok (.getfield 14, 3) := by decide +kernel
theorem dX11_puts_25 : decode cX11_puts 25 = .ok (.iconst 1, 1) := by decide +kernel
theorem dX11_puts_26 : decode cX11_puts 26 = .ok (.iadd, 1) := by decide +kernel
theorem dX11_puts_27 : decode cX11_puts 27 = .ok (.putfield 14, 3) := by decide +kernel
theorem dX11_puts_30 : decode cX11_puts 30 = .ok (.iinc 2 (-8), 3) := by decide +kernel
theorem dX11_puts_33 : decode cX11_puts 33 = .ok (.goto (-30), 3) := by decide +kernel
theorem dX11_puts_36 : decode cX11_puts 36 = .ok (.return_, 1) := by decide +kernel
theorem dX11_wrong_0 : decode cX11_wrong 0 = .ok (.aload_n 0, 1) := by decide +kernel
theorem dX11_wrong_1 : decode cX11_wrong 1 = .ok (.getfield 25, 3) := by decide +kernel
theorem dX11_wrong_4 : decode cX11_wrong 4 = .ok (.ifCond .le 4, 3) := by decide +kernel
theorem dX11_wrong_7 : decode cX11_wrong 7 = .ok (.return_, 1) := by decide +kernel
theorem dX11_wrong_8 : decode cX11_wrong 8 = .ok (.aload_n 0, 1) := by decide +kernel
theorem dX11_wrong_9 : decode cX11_wrong 9 = .ok (.iload_n 1, 1) := by decide +kernel
theorem dX11_wrong_10 : decode cX11_wrong 10 = .ok (.putfield 25, 3) := by decide +kernel
theorem dX11_wrong_13 : decode cX11_wrong 13 = .ok (.aload_n 0, 1) := by decide +kernel
theorem dX11_wrong_14 : decode cX11_wrong 14 = .ok (.iload_n 2, 1) := by decide +kernel
theorem dX11_wrong_15 : decode cX11_wrong 15 = .ok (.putfield 28, 3) := by decide +kernel
theorem dX11_wrong_18 : decode cX11_wrong 18 = .ok (.return_, 1) := by decide +kernel
theorem dX11_sign_0 : decode cX11_sign 0 = .ok (.aload_n 0, 1) := by decide +kernel
theorem dX11_sign_1 : decode cX11_sign 1 = .ok (.getfield 31, 3) := by decide +kernel
theorem dX11_sign_4 : decode cX11_sign 4 = .ok (.aload_n 0, 1) := by decide +kernel
theorem dX11_sign_5 : decode cX11_sign 5 = .ok (.getfield 34, 3) := by decide +kernel
theorem dX11_sign_8 : decode cX11_sign 8 = .ok (.if_icmp .ge 30, 3) := by decide +kernel
theorem dX11_sign_11 : decode cX11_sign 11 = .ok (.aload_n 0, 1) := by decide +kernel
theorem dX11_sign_12 : decode cX11_sign 12 = .ok (.getfield 37, 3) := by decide +kernel
theorem dX11_sign_15 : decode cX11_sign 15 = .ok (.aload_n 0, 1) := by decide +kernel
theorem dX11_sign_16 : decode cX11_sign 16 = .ok (.getfield 31, 3) := by decide +kernel
theorem dX11_sign_19 : decode cX11_sign 19 = .ok (.baload, 1) := by decide +kernel
theorem dX11_sign_20 : decode cX11_sign 20 = .ok (.bipush 32, 2) := by decide +kernel
theorem dX11_sign_22 : decode cX11_sign 22 = .ok (.if_icmp .ne 16, 3) := by decide +kernel
theorem dX11_sign_25 : decode cX11_sign 25 = .ok (.aload_n 0, 1) := by decide +kernel
theorem dX11_sign_26 : decode cX11_sign 26 = .ok (.dup, 1) := by decide +kernel
theorem dX11_sign_27 : decode cX11_sign 27 = .ok (.getfield 31, 3) := by decide +kernel
theorem dX11_sign_30 : decode cX11_sign 30 = .ok (.iconst 1, 1) := by decide +kernel
theorem dX11_sign_31 : decode cX11_sign 31 = .ok (.iadd, 1) := by decide +kernel
theorem dX11_sign_32 : decode cX11_sign 32 = .ok (.putfield 31, 3) := by decide +kernel
theorem dX11_sign_35 : decode cX11_sign 35 = .ok (.goto (-35), 3) := by decide +kernel
theorem dX11_sign_38 : decode cX11_sign 38 = .ok (.aload_n 0, 1) := by decide +kernel
theorem dX11_sign_39 : decode cX11_sign 39 = .ok (.getfield 31, 3) := by decide +kernel
theorem dX11_sign_42 : decode cX11_sign 42 = .ok (.aload_n 0, 1) := by decide +kernel
theorem dX11_sign_43 : decode cX11_sign 43 = .ok (.getfield 34, 3) := by decide +kernel
theorem dX11_sign_46 : decode cX11_sign 46 = .ok (.if_icmp .ge 15, 3) := by decide +kernel
theorem dX11_sign_49 : decode cX11_sign 49 = .ok (.aload_n 0, 1) := by decide +kernel
theorem dX11_sign_50 : decode cX11_sign 50 = .ok (.getfield 37, 3) := by decide +kernel
theorem dX11_sign_53 : decode cX11_sign 53 = .ok (.aload_n 0, 1) := by decide +kernel
theorem dX11_sign_54 : decode cX11_sign 54 = .ok (.getfield 31, 3) := by decide +kernel
theorem dX11_sign_57 : decode cX11_sign 57 = .ok (.baload, 1) := by decide +kernel
theorem dX11_sign_58 : decode cX11_sign 58 = .ok (.goto 4, 3) := by decide +kernel
theorem dX11_sign_61 : decode cX11_sign 61 = .ok (.iconst 0, 1) := by decide +kernel
theorem dX11_sign_62 : decode cX11_sign 62 = .ok (.ireturn, 1) := by decide +kernel
theorem dX11_isSmall_0 : decode cX11_isSmall 0 = .ok (.iload_n 1, 1) := by decide +kernel
theorem dX11_isSmall_1 : decode cX11_isSmall 1 = .ok (.aload_n 0, 1) := by decide +kernel
theorem dX11_isSmall_2 : decode cX11_isSmall 2 = .ok (.getfield 34, 3) := by decide +kernel
theorem dX11_isSmall_5 : decode cX11_isSmall 5 = .ok (.if_icmp .ge 29, 3) := by decide +kernel
theorem dX11_isSmall_8 : decode cX11_isSmall 8 = .ok (.aload_n 0, 1) := by decide +kernel
theorem dX11_isSmall_9 : decode cX11_isSmall 9 = .ok (.getfield 37, 3) := by decide +kernel
theorem dX11_isSmall_12 : decode cX11_isSmall 12 = .ok (.iload_n 1, 1) := by decide +kernel
theorem dX11_isSmall_13 : decode cX11_isSmall 13 = .ok (.baload, 1) := by decide +kernel
theorem dX11_isSmall_14 : decode cX11_isSmall 14 = .ok (.bipush 97, 2) := by decide +kernel
theorem dX11_isSmall_16 : decode cX11_isSmall 16 = .ok (.if_icmp .lt 18, 3) := by decide +kernel
theorem dX11_isSmall_19 : decode cX11_isSmall 19 = .ok (.aload_n 0, 1) := by decide +kernel
theorem dX11_isSmall_20 : decode cX11_isSmall 20 = .ok (.getfield 37, 3) := by decide +kernel
theorem dX11_isSmall_23 : decode cX11_isSmall 23 = .ok (.iload_n 1, 1) := by decide +kernel
theorem dX11_isSmall_24 : decode cX11_isSmall 24 = .ok (.baload, 1) := by decide +kernel
theorem dX11_isSmall_25 : decode cX11_isSmall 25 = .ok (.bipush 122, 2) := by decide +kernel
theorem dX11_isSmall_27 : decode cX11_isSmall 27 = .ok (.if_icmp .gt 7, 3) := by decide +kernel
theorem dX11_isSmall_30 : decode cX11_isSmall 30 = .ok (.iconst 1, 1) := by decide +kernel
theorem dX11_isSmall_31 : decode cX11_isSmall 31 = .ok (.goto 4, 3) := by decide +kernel
theorem dX11_isSmall_34 : decode cX11_isSmall 34 = .ok (.iconst 0, 1) := by decide +kernel
theorem dX11_isSmall_35 : decode cX11_isSmall 35 = .ok (.ireturn, 1) := by decide +kernel
theorem dX11_isHere_0 : decode cX11_isHere 0 = .ok (.aload_n 0, 1) := by decide +kernel
theorem dX11_isHere_1 : decode cX11_isHere 1 = .ok (.invokevirtual 40, 3) := by decide +kernel
theorem dX11_isHere_4 : decode cX11_isHere 4 = .ok (.pop, 1) := by decide +kernel
theorem dX11_isHere_5 : decode cX11_isHere 5 = .ok (.iconst 0, 1) := by decide +kernel
theorem dX11_isHere_6 : decode cX11_isHere 6 = .ok (.istore_n 2, 1) := by decide +kernel
theorem dX11_isHere_7 : decode cX11_isHere 7 = .ok (.iload_n 2, 1) := by decide +kernel
theorem dX11_isHere_8 : decode cX11_isHere 8 = .ok (.aload_n 1, 1) := by decide +kernel
theorem dX11_isHere_9 : decode cX11_isHere 9 = .ok (.invokevirtual 44, 3) := by decide +kernel
theorem dX11_isHere_12 : decode cX11_isHere 12 = .ok (.if_icmp .ge 43, 3) := by decide +kernel
theorem dX11_isHere_15 : decode cX11_isHere 15 = .ok (.aload_n 0, 1) := by decide +kernel
theorem dX11_isHere_16 : decode cX11_isHere 16 = .ok (.aload_n 0, 1) := by decide +kernel
theorem dX11_isHere_17 : decode cX11_isHere 17 = .ok (.getfield 31, 3) := by decide +kernel
theorem dX11_isHere_20 : decode cX11_isHere 20 = .ok (.iload_n 2, 1) := by decide +kernel
theorem dX11_isHere_21 : decode cX11_isHere 21 = .ok (.iadd, 1) := by decide +kernel
theorem dX11_isHere_22 : decode cX11_isHere 22 = .ok (.invokevirtual 49, 3) := by decide +kernel
theorem dX11_isHere_25 : decode cX11_isHere 25 = .ok (.ifCond .eq 22, 3) := by decide +kernel
theorem dX11_isHere_28 : decode cX11_isHere 28 = .ok (.aload_n 0, 1) := by decide +kernel
theorem dX11_isHere_29 : decode cX11_isHere 29 = .ok (.getfield 37, 3) := by decide +kernel
theorem dX11_isHere_32 : decode cX11_isHere 32 = .ok (.aload_n 0, 1) := by decide +kernel
theorem dX11_isHere_33 : decode cX11_isHere 33 = .ok (.getfield 31, 3) := by decide +kernel
theorem dX11_isHere_36 : decode cX11_isHere 36 = .ok (.iload_n 2, 1) := by decide +kernel
theorem dX11_isHere_37 : decode cX11_isHere 37 = .ok (.iadd, 1) := by decide +kernel
theorem dX11_isHere_38 : decode cX11_isHere 38 = .ok (.baload, 1) := by decide +kernel
theorem dX11_isHere_39 : decode cX11_isHere 39 = .ok (.aload_n 1, 1) := by decide +kernel
theorem dX11_isHere_40 : decode cX11_isHere 40 = .ok (.iload_n 2, 1) := by decide +kernel
theorem dX11_isHere_41 : decode cX11_isHere 41 = .ok (.invokevirtual 53, 3) := by decide +kernel
theorem dX11_isHere_44 : decode cX11_isHere 44 = .ok (.if_icmp .eq 5, 3) := by decide +kernel
theorem dX11_isHere_47 : decode cX11_isHere 47 = .ok (.iconst 0, 1) := by decide +kernel
theorem dX11_isHere_48 : decode cX11_isHere 48 = .ok (.ireturn, 1) := by decide +kernel
theorem dX11_isHere_49 : decode cX11_isHere 49 = .ok (.iinc 2 1, 3) := by decide +kernel
theorem dX11_isHere_52 : decode cX11_isHere 52 = .ok (.goto (-45), 3) := by decide +kernel
theorem dX11_isHere_55 : decode cX11_isHere 55 = .ok (.aload_n 0, 1) := by decide +kernel
theorem dX11_isHere_56 : decode cX11_isHere 56 = .ok (.aload_n 0, 1) := by decide +kernel
theorem dX11_isHere_57 : decode cX11_isHere 57 = .ok (.getfield 31, 3) := by decide +kernel
theorem dX11_isHere_60 : decode cX11_isHere 60 = .ok (.aload_n 1, 1) := by decide +kernel
theorem dX11_isHere_61 : decode cX11_isHere 61 = .ok (.invokevirtual 44, 3) := by decide +kernel
theorem dX11_isHere_64 : decode cX11_isHere 64 = .ok (.iadd, 1) := by decide +kernel
theorem dX11_isHere_65 : decode cX11_isHere 65 = .ok (.invokevirtual 49, 3) := by decide +kernel
theorem dX11_isHere_68 : decode cX11_isHere 68 = .ok (.ifCond .ne 7, 3) := by decide +kernel
theorem dX11_isHere_71 : decode cX11_isHere 71 = .ok (.iconst 1, 1) := by decide +kernel
theorem dX11_isHere_72 : decode cX11_isHere 72 = .ok (.goto 4, 3) := by decide +kernel
theorem dX11_isHere_75 : decode cX11_isHere 75 = .ok (.iconst 0, 1) := by decide +kernel
theorem dX11_isHere_76 : decode cX11_isHere 76 = .ok (.ireturn, 1) := by decide +kernel
theorem dX11_passes_0 : decode cX11_passes 0 = .ok (.aload_n 0, 1) := by decide +kernel
theorem dX11_passes_1 : decode cX11_passes 1 = .ok (.getfield 25, 3) := by decide +kernel
theorem dX11_passes_4 : decode cX11_passes 4 = .ok (.ifCond .gt 11, 3) := by decide +kernel
theorem dX11_passes_7 : decode cX11_passes 7 = .ok (.aload_n 0, 1) := by decide +kernel
theorem dX11_passes_8 : decode cX11_passes 8 = .ok (.aload_n 1, 1) := by decide +kernel
theorem dX11_passes_9 : decode cX11_passes 9 = .ok (.invokevirtual 57, 3) := by decide +kernel
theorem dX11_passes_12 : decode cX11_passes 12 = .ok (.ifCond .ne 5, 3) := by decide +kernel
theorem dX11_passes_15 : decode cX11_passes 15 = .ok (.iconst 0, 1) := by decide +kernel
theorem dX11_passes_16 : decode cX11_passes 16 = .ok (.ireturn, 1) := by decide +kernel
theorem dX11_passes_17 : decode cX11_passes 17 = .ok (.aload_n 0, 1) := by decide +kernel
theorem dX11_passes_18 : decode cX11_passes 18 = .ok (.dup, 1) := by decide +kernel
theorem dX11_passes_19 : decode cX11_passes 19 = .ok (.getfield 31, 3) := by decide +kernel
theorem dX11_passes_22 : decode cX11_passes 22 = .ok (.aload_n 1, 1) := by decide +kernel
theorem dX11_passes_23 : decode cX11_passes 23 = .ok (.invokevirtual 44, 3) := by decide +kernel
theorem dX11_passes_26 : decode cX11_passes 26 = .ok (.iadd, 1) := by decide +kernel
theorem dX11_passes_27 : decode cX11_passes 27 = .ok (.putfield 31, 3) := by decide +kernel
theorem dX11_passes_30 : decode cX11_passes 30 = .ok (.iconst 1, 1) := by decide +kernel
theorem dX11_passes_31 : decode cX11_passes 31 = .ok (.ireturn, 1) := by decide +kernel
theorem dX11_takes_0 : decode cX11_takes 0 = .ok (.aload_n 0, 1) := by decide +kernel
theorem dX11_takes_1 : decode cX11_takes 1 = .ok (.getfield 25, 3) := by decide +kernel
theorem dX11_takes_4 : decode cX11_takes 4 = .ok (.ifCond .gt 22, 3) := by decide +kernel
theorem dX11_takes_7 : decode cX11_takes 7 = .ok (.aload_n 0, 1) := by decide +kernel
theorem dX11_takes_8 : decode cX11_takes 8 = .ok (.invokevirtual 40, 3) := by decide +kernel
theorem dX11_takes_11 : decode cX11_takes 11 = .ok (.iload_n 1, 1) := by decide +kernel
theorem dX11_takes_12 : decode cX11_takes 12 = .ok (.if_icmp .ne 14, 3) := by decide +kernel
theorem dX11_takes_15 : decode cX11_takes 15 = .ok (.aload_n 0, 1) := by decide +kernel
theorem dX11_takes_16 : decode cX11_takes 16 = .ok (.getfield 31, 3) := by decide +kernel
theorem dX11_takes_19 : decode cX11_takes 19 = .ok (.aload_n 0, 1) := by decide +kernel
theorem dX11_takes_20 : decode cX11_takes 20 = .ok (.getfield 34, 3) := by decide +kernel
theorem dX11_takes_23 : decode cX11_takes 23 = .ok (.if_icmp .lt 5, 3) := by decide +kernel
theorem dX11_takes_26 : decode cX11_takes 26 = .ok (.iconst 0, 1) := by decide +kernel
theorem dX11_takes_27 : decode cX11_takes 27 = .ok (.ireturn, 1) := by decide +kernel
theorem dX11_takes_28 : decode cX11_takes 28 = .ok (.aload_n 0, 1) := by decide +kernel
theorem dX11_takes_29 : decode cX11_takes 29 = .ok (.dup, 1) := by decide +kernel
theorem dX11_takes_30 : decode cX11_takes 30 = .ok (.getfield 31, 3) := by decide +kernel
theorem dX11_takes_33 : decode cX11_takes 33 = .ok (.iconst 1, 1) := by decide +kernel
theorem dX11_takes_34 : decode cX11_takes 34 = .ok (.iadd, 1) := by decide +kernel
theorem dX11_takes_35 : decode cX11_takes 35 = .ok (.putfield 31, 3) := by decide +kernel
theorem dX11_takes_38 : decode cX11_takes 38 = .ok (.iconst 1, 1) := by decide +kernel
theorem dX11_takes_39 : decode cX11_takes 39 = .ok (.ireturn, 1) := by decide +kernel
theorem dX11_needs_0 : decode cX11_needs 0 = .ok (.aload_n 0, 1) := by decide +kernel
theorem dX11_needs_1 : decode cX11_needs 1 = .ok (.getfield 25, 3) := by decide +kernel
theorem dX11_needs_4 : decode cX11_needs 4 = .ok (.ifCond .ne 20, 3) := by decide +kernel
theorem dX11_needs_7 : decode cX11_needs 7 = .ok (.aload_n 0, 1) := by decide +kernel
theorem dX11_needs_8 : decode cX11_needs 8 = .ok (.iload_n 1, 1) := by decide +kernel
theorem dX11_needs_9 : decode cX11_needs 9 = .ok (.invokevirtual 61, 3) := by decide +kernel
theorem dX11_needs_12 : decode cX11_needs 12 = .ok (.ifCond .ne 12, 3) := by decide +kernel
theorem dX11_needs_15 : decode cX11_needs 15 = .ok (.aload_n 0, 1) := by decide +kernel
theorem dX11_needs_16 : decode cX11_needs 16 = .ok (.iconst 1, 1) := by decide +kernel
theorem dX11_needs_17 : decode cX11_needs 17 = .ok (.aload_n 0, 1) := by decide +kernel
theorem dX11_needs_18 : decode cX11_needs 18 = .ok (.getfield 31, 3) := by decide +kernel
theorem dX11_needs_21 : decode cX11_needs 21 = .ok (.invokevirtual 64, 3) := by decide +kernel
theorem dX11_needs_24 : decode cX11_needs 24 = .ok (.return_, 1) := by decide +kernel
theorem dX11_isNameHere_0 : decode cX11_isNameHere 0 = .ok (.aload_n 0, 1) := by decide +kernel
theorem dX11_isNameHere_1 : decode cX11_isNameHere 1 = .ok (.invokevirtual 40, 3) := by decide +kernel
theorem dX11_isNameHere_4 : decode cX11_isNameHere 4 = .ok (.bipush 97, 2) := by decide +kernel
theorem dX11_isNameHere_6 : decode cX11_isNameHere 6 = .ok (.if_icmp .lt 40, 3) := by decide +kernel
theorem dX11_isNameHere_9 : decode cX11_isNameHere 9 = .ok (.aload_n 0, 1) := by decide +kernel
theorem dX11_isNameHere_10 : decode cX11_isNameHere 10 = .ok (.invokevirtual 40, 3) := by decide +kernel
theorem dX11_isNameHere_13 : decode cX11_isNameHere 13 = .ok (.bipush 102, 2) := by decide +kernel
theorem dX11_isNameHere_15 : decode cX11_isNameHere 15 = .ok (.if_icmp .gt 31, 3) := by decide +kernel
theorem dX11_isNameHere_18 : decode cX11_isNameHere 18 = .ok (.aload_n 0, 1) := by decide +kernel
theorem dX11_isNameHere_19 : decode cX11_isNameHere 19 = .ok (.getfield 31, 3) := by decide +kernel
theorem dX11_isNameHere_22 : decode cX11_isNameHere 22 = .ok (.aload_n 0, 1) := by decide +kernel
theorem dX11_isNameHere_23 : decode cX11_isNameHere 23 = .ok (.getfield 34, 3) := by decide +kernel
theorem dX11_isNameHere_26 : decode cX11_isNameHere 26 = .ok (.if_icmp .ge 20, 3) := by decide +kernel
theorem dX11_isNameHere_29 : decode cX11_isNameHere 29 = .ok (.aload_n 0, 1) := by decide +kernel
theorem dX11_isNameHere_30 : decode cX11_isNameHere 30 = .ok (.aload_n 0, 1) := by decide +kernel
theorem dX11_isNameHere_31 : decode cX11_isNameHere 31 = .ok (.getfield 31, 3) := by decide +kernel
theorem dX11_isNameHere_34 : decode cX11_isNameHere 34 = .ok (.iconst 1, 1) := by decide +kernel
theorem dX11_isNameHere_35 : decode cX11_isNameHere 35 = .ok (.iadd, 1) := by decide +kernel
theorem dX11_isNameHere_36 : decode cX11_isNameHere 36 = .ok (.invokevirtual 49, 3) := by decide +kernel
theorem dX11_isNameHere_39 : decode cX11_isNameHere 39 = .ok (.ifCond .ne 7, 3) := by decide +kernel
theorem dX11_isNameHere_42 : decode cX11_isNameHere 42 = .ok (.iconst 1, 1) := by decide +kernel
theorem dX11_isNameHere_43 : decode cX11_isNameHere 43 = .ok (.goto 4, 3) := by decide +kernel
theorem dX11_isNameHere_46 : decode cX11_isNameHere 46 = .ok (.iconst 0, 1) := by decide +kernel
theorem dX11_isNameHere_47 : decode cX11_isNameHere 47 = .ok (.ireturn, 1) := by decide +kernel
theorem dX11_name_0 : decode cX11_name 0 = .ok (.aload_n 0, 1) := by decide +kernel
theorem dX11_name_1 : decode cX11_name 1 = .ok (.getfield 25, 3) := by decide +kernel
theorem dX11_name_4 : decode cX11_name 4 = .ok (.ifCond .ne 19, 3) := by decide +kernel
theorem dX11_name_7 : decode cX11_name 7 = .ok (.aload_n 0, 1) := by decide +kernel
theorem dX11_name_8 : decode cX11_name 8 = .ok (.invokevirtual 68, 3) := by decide +kernel
theorem dX11_name_11 : decode cX11_name 11 = .ok (.ifCond .ne 12, 3) := by decide +kernel
theorem dX11_name_14 : decode cX11_name 14 = .ok (.aload_n 0, 1) := by decide +kernel
theorem dX11_name_15 : decode cX11_name 15 = .ok (.iconst 1, 1) := by decide +kernel
theorem dX11_name_16 : decode cX11_name 16 = .ok (.aload_n 0, 1) := by decide +kernel
theorem dX11_name_17 : decode cX11_name 17 = .ok (.getfield 31, 3) := by decide +kernel
theorem dX11_name_20 : decode cX11_name 20 = .ok (.invokevirtual 64, 3) := by decide +kernel
theorem dX11_name_23 : decode cX11_name 23 = .ok (.aload_n 0, 1) := by decide +kernel
theorem dX11_name_24 : decode cX11_name 24 = .ok (.getfield 25, 3) := by decide +kernel
theorem dX11_name_27 : decode cX11_name 27 = .ok (.ifCond .le 5, 3) := by decide +kernel
theorem dX11_name_30 : decode cX11_name 30 = .ok (.iconst 0, 1) := by decide +kernel
theorem dX11_name_31 : decode cX11_name 31 = .ok (.ireturn, 1) := by decide +kernel
theorem dX11_name_32 : decode cX11_name 32 = .ok (.aload_n 0, 1) := by decide +kernel
theorem dX11_name_33 : decode cX11_name 33 = .ok (.dup, 1) := by decide +kernel
theorem dX11_name_34 : decode cX11_name 34 = .ok (.getfield 31, 3) := by decide +kernel
theorem dX11_name_37 : decode cX11_name 37 = .ok (.iconst 1, 1) := by decide +kernel
theorem dX11_name_38 : decode cX11_name 38 = .ok (.iadd, 1) := by decide +kernel
theorem dX11_name_39 : decode cX11_name 39 = .ok (.putfield 31, 3) := by decide +kernel
theorem dX11_name_42 : decode cX11_name 42 = .ok (.aload_n 0, 1) := by decide +kernel
theorem dX11_name_43 : decode cX11_name 43 = .ok (.getfield 37, 3) := by decide +kernel
theorem dX11_name_46 : decode cX11_name 46 = .ok (.aload_n 0, 1) := by decide +kernel
theorem dX11_name_47 : decode cX11_name 47 = .ok (.getfield 31, 3) := by decide +kernel
theorem dX11_name_50 : decode cX11_name 50 = .ok (.iconst 1, 1) := by decide +kernel
theorem dX11_name_51 : decode cX11_name 51 = .ok (.isub, 1) := by decide +kernel
theorem dX11_name_52 : decode cX11_name 52 = .ok (.baload, 1) := by decide +kernel
theorem dX11_name_53 : decode cX11_name 53 = .ok (.bipush 97, 2) := by decide +kernel
theorem dX11_name_55 : decode cX11_name 55 = .ok (.isub, 1) := by decide +kernel
theorem dX11_name_56 : decode cX11_name 56 = .ok (.ireturn, 1) := by decide +kernel
theorem dX11_isDigit_0 : decode cX11_isDigit 0 = .ok (.aload_n 0, 1) := by decide +kernel
theorem dX11_isDigit_1 : decode cX11_isDigit 1 = .ok (.invokevirtual 40, 3) := by decide +kernel
theorem dX11_isDigit_4 : decode cX11_isDigit 4 = .ok (.bipush 48, 2) := by decide +kernel
theorem dX11_isDigit_6 : decode cX11_isDigit 6 = .ok (.if_icmp .lt 27, 3) := by decide +kernel
theorem dX11_isDigit_9 : decode cX11_isDigit 9 = .ok (.aload_n 0, 1) := by decide +kernel
theorem dX11_isDigit_10 : decode cX11_isDigit 10 = .ok (.invokevirtual 40, 3) := by decide +kernel
theorem dX11_isDigit_13 : decode cX11_isDigit 13 = .ok (.bipush 57, 2) := by decide +kernel
theorem dX11_isDigit_15 : decode cX11_isDigit 15 = .ok (.if_icmp .gt 18, 3) := by decide +kernel
theorem dX11_isDigit_18 : decode cX11_isDigit 18 = .ok (.aload_n 0, 1) := by decide +kernel
theorem dX11_isDigit_19 : decode cX11_isDigit 19 = .ok (.getfield 31, 3) := by decide +kernel
theorem dX11_isDigit_22 : decode cX11_isDigit 22 = .ok (.aload_n 0, 1) := by decide +kernel
theorem dX11_isDigit_23 : decode cX11_isDigit 23 = .ok (.getfield 34, 3) := by decide +kernel
theorem dX11_isDigit_26 : decode cX11_isDigit 26 = .ok (.if_icmp .ge 7, 3) := by decide +kernel
theorem dX11_isDigit_29 : decode cX11_isDigit 29 = .ok (.iconst 1, 1) := by decide +kernel
theorem dX11_isDigit_30 : decode cX11_isDigit 30 = .ok (.goto 4, 3) := by decide +kernel
theorem dX11_isDigit_33 : decode cX11_isDigit 33 = .ok (.iconst 0, 1) := by decide +kernel
theorem dX11_isDigit_34 : decode cX11_isDigit 34 = .ok (.ireturn, 1) := by decide +kernel
theorem dX11_number_0 : decode cX11_number 0 = .ok (.aload_n 0, 1) := by decide +kernel
theorem dX11_number_1 : decode cX11_number 1 = .ok (.getfield 25, 3) := by decide +kernel
theorem dX11_number_4 : decode cX11_number 4 = .ok (.ifCond .ne 19, 3) := by decide +kernel
theorem dX11_number_7 : decode cX11_number 7 = .ok (.aload_n 0, 1) := by decide +kernel
theorem dX11_number_8 : decode cX11_number 8 = .ok (.invokevirtual 72, 3) := by decide +kernel
theorem dX11_number_11 : decode cX11_number 11 = .ok (.ifCond .ne 12, 3) := by decide +kernel
theorem dX11_number_14 : decode cX11_number 14 = .ok (.aload_n 0, 1) := by decide +kernel
theorem dX11_number_15 : decode cX11_number 15 = .ok (.iconst 1, 1) := by decide +kernel
theorem dX11_number_16 : decode cX11_number 16 = .ok (.aload_n 0, 1) := by decide +kernel
theorem dX11_number_17 : decode cX11_number 17 = .ok (.getfield 31, 3) := by decide +kernel
theorem dX11_number_20 : decode cX11_number 20 = .ok (.invokevirtual 64, 3) := by decide +kernel
theorem dX11_number_23 : decode cX11_number 23 = .ok (.aload_n 0, 1) := by decide +kernel
theorem dX11_number_24 : decode cX11_number 24 = .ok (.getfield 25, 3) := by decide +kernel
theorem dX11_number_27 : decode cX11_number 27 = .ok (.ifCond .le 5, 3) := by decide +kernel
theorem dX11_number_30 : decode cX11_number 30 = .ok (.iconst 0, 1) := by decide +kernel
theorem dX11_number_31 : decode cX11_number 31 = .ok (.ireturn, 1) := by decide +kernel
theorem dX11_number_32 : decode cX11_number 32 = .ok (.aload_n 0, 1) := by decide +kernel
theorem dX11_number_33 : decode cX11_number 33 = .ok (.aload_n 0, 1) := by decide +kernel
theorem dX11_number_34 : decode cX11_number 34 = .ok (.getfield 31, 3) := by decide +kernel
theorem dX11_number_37 : decode cX11_number 37 = .ok (.putfield 75, 3) := by decide +kernel
theorem dX11_number_40 : decode cX11_number 40 = .ok (.iconst 0, 1) := by decide +kernel
theorem dX11_number_41 : decode cX11_number 41 = .ok (.istore_n 1, 1) := by decide +kernel
theorem dX11_number_42 : decode cX11_number 42 = .ok (.aload_n 0, 1) := by decide +kernel
theorem dX11_number_43 : decode cX11_number 43 = .ok (.getfield 31, 3) := by decide +kernel
theorem dX11_number_46 : decode cX11_number 46 = .ok (.aload_n 0, 1) := by decide +kernel
theorem dX11_number_47 : decode cX11_number 47 = .ok (.getfield 34, 3) := by decide +kernel
theorem dX11_number_50 : decode cX11_number 50 = .ok (.if_icmp .ge 67, 3) := by decide +kernel
theorem dX11_number_53 : decode cX11_number 53 = .ok (.aload_n 0, 1) := by decide +kernel
theorem dX11_number_54 : decode cX11_number 54 = .ok (.getfield 37, 3) := by decide +kernel
theorem dX11_number_57 : decode cX11_number 57 = .ok (.aload_n 0, 1) := by decide +kernel
theorem dX11_number_58 : decode cX11_number 58 = .ok (.getfield 31, 3) := by decide +kernel
theorem dX11_number_61 : decode cX11_number 61 = .ok (.baload, 1) := by decide +kernel
theorem dX11_number_62 : decode cX11_number 62 = .ok (.bipush 48, 2) := by decide +kernel
theorem dX11_number_64 : decode cX11_number 64 = .ok (.if_icmp .lt 53, 3) := by decide +kernel
theorem dX11_number_67 : decode cX11_number 67 = .ok (.aload_n 0, 1) := by decide +kernel
theorem dX11_number_68 : decode cX11_number 68 = .ok (.getfield 37, 3) := by decide +kernel
theorem dX11_number_71 : decode cX11_number 71 = .ok (.aload_n 0, 1) := by decide +kernel
theorem dX11_number_72 : decode cX11_number 72 = .ok (.getfield 31, 3) := by decide +kernel
theorem dX11_number_75 : decode cX11_number 75 = .ok (.baload, 1) := by decide +kernel
theorem dX11_number_76 : decode cX11_number 76 = .ok (.bipush 57, 2) := by decide +kernel
theorem dX11_number_78 : decode cX11_number 78 = .ok (.if_icmp .gt 39, 3) := by decide +kernel
theorem dX11_number_81 : decode cX11_number 81 = .ok (.bipush 10, 2) := by decide +kernel
theorem dX11_number_83 : decode cX11_number 83 = .ok (.iload_n 1, 1) := by decide +kernel
theorem dX11_number_84 : decode cX11_number 84 = .ok (.imul, 1) := by decide +kernel
theorem dX11_number_85 : decode cX11_number 85 = .ok (.aload_n 0, 1) := by decide +kernel
theorem dX11_number_86 : decode cX11_number 86 = .ok (.getfield 37, 3) := by decide +kernel
theorem dX11_number_89 : decode cX11_number 89 = .ok (.aload_n 0, 1) := by decide +kernel
theorem dX11_number_90 : decode cX11_number 90 = .ok (.getfield 31, 3) := by decide +kernel
theorem dX11_number_93 : decode cX11_number 93 = .ok (.baload, 1) := by decide +kernel
theorem dX11_number_94 : decode cX11_number 94 = .ok (.iadd, 1) := by decide +kernel
theorem dX11_number_95 : decode cX11_number 95 = .ok (.bipush 48, 2) := by decide +kernel
theorem dX11_number_97 : decode cX11_number 97 = .ok (.isub, 1) := by decide +kernel
theorem dX11_number_98 : decode cX11_number 98 = .ok (.ldc 78, 2) := by decide +kernel
theorem dX11_number_100 : decode cX11_number 100 = .ok (.invokestatic 79, 3) := by decide +kernel
theorem dX11_number_103 : decode cX11_number 103 = .ok (.istore_n 1, 1) := by decide +kernel
theorem dX11_number_104 : decode cX11_number 104 = .ok (.aload_n 0, 1) := by decide +kernel
theorem dX11_number_105 : decode cX11_number 105 = .ok (.dup, 1) := by decide +kernel
theorem dX11_number_106 : decode cX11_number 106 = .ok (.getfield 31, 3) := by decide +kernel
theorem dX11_number_109 : decode cX11_number 109 = .ok (.iconst 1, 1) := by decide +kernel
theorem dX11_number_110 : decode cX11_number 110 = .ok (.iadd, 1) := by decide +kernel
theorem dX11_number_111 : decode cX11_number 111 = .ok (.putfield 31, 3) := by decide +kernel
theorem dX11_number_114 : decode cX11_number 114 = .ok (.goto (-72), 3) := by decide +kernel
theorem dX11_number_117 : decode cX11_number 117 = .ok (.iload_n 1, 1) := by decide +kernel
theorem dX11_number_118 : decode cX11_number 118 = .ok (.ireturn, 1) := by decide +kernel
theorem dX11_numberTo_0 : decode cX11_numberTo 0 = .ok (.aload_n 0, 1) := by decide +kernel
theorem dX11_numberTo_1 : decode cX11_numberTo 1 = .ok (.invokevirtual 85, 3) := by decide +kernel
theorem dX11_numberTo_4 : decode cX11_numberTo 4 = .ok (.istore_n 2, 1) := by decide +kernel
theorem dX11_numberTo_5 : decode cX11_numberTo 5 = .ok (.aload_n 0, 1) := by decide +kernel
theorem dX11_numberTo_6 : decode cX11_numberTo 6 = .ok (.getfield 25, 3) := by decide +kernel
theorem dX11_numberTo_9 : decode cX11_numberTo 9 = .ok (.ifCond .ne 17, 3) := by decide +kernel
theorem dX11_numberTo_12 : decode cX11_numberTo 12 = .ok (.iload_n 2, 1) := by decide +kernel
theorem dX11_numberTo_13 : decode cX11_numberTo 13 = .ok (.iload_n 1, 1) := by decide +kernel
theorem dX11_numberTo_14 : decode cX11_numberTo 14 = .ok (.if_icmp .le 12, 3) := by decide +kernel
theorem dX11_numberTo_17 : decode cX11_numberTo 17 = .ok (.aload_n 0, 1) := by decide +kernel
theorem dX11_numberTo_18 : decode cX11_numberTo 18 = .ok (.iconst 2, 1) := by decide +kernel
theorem dX11_numberTo_19 : decode cX11_numberTo 19 = .ok (.aload_n 0, 1) := by decide +kernel
theorem dX11_numberTo_20 : decode cX11_numberTo 20 = .ok (.getfield 75, 3) := by decide +kernel
theorem dX11_numberTo_23 : decode cX11_numberTo 23 = .ok (.invokevirtual 64, 3) := by decide +kernel
theorem dX11_numberTo_26 : decode cX11_numberTo 26 = .ok (.iload_n 2, 1) := by decide +kernel
theorem dX11_numberTo_27 : decode cX11_numberTo 27 = .ok (.ireturn, 1) := by decide +kernel
theorem dX11_term_0 : decode cX11_term 0 = .ok (.aload_n 0, 1) := by decide +kernel
theorem dX11_term_1 : decode cX11_term 1 = .ok (.invokevirtual 72, 3) := by decide +kernel
theorem dX11_term_4 : decode cX11_term 4 = .ok (.ifCond .eq 15, 3) := by decide +kernel
theorem dX11_term_7 : decode cX11_term 7 = .ok (.aload_n 0, 1) := by decide +kernel
theorem dX11_term_8 : decode cX11_term 8 = .ok (.bipush 9, 2) := by decide +kernel
theorem dX11_term_10 : decode cX11_term 10 = .ok (.invokevirtual 88, 3) := by decide +kernel
theorem dX11_term_13 : decode cX11_term 13 = .ok (.bipush 10, 2) := by decide +kernel
theorem dX11_term_15 : decode cX11_term 15 = .ok (.isub, 1) := by decide +kernel
theorem dX11_term_16 : decode cX11_term 16 = .ok (.goto 7, 3) := by decide +kernel
theorem dX11_term_19 : decode cX11_term 19 = .ok (.aload_n 0, 1) := by decide +kernel
theorem dX11_term_20 : decode cX11_term 20 = .ok (.invokevirtual 92, 3) := by decide +kernel
theorem dX11_term_23 : decode cX11_term 23 = .ok (.ireturn, 1) := by decide +kernel
theorem dX11_sum_0 : decode cX11_sum 0 = .ok (.aload_n 0, 1) := by decide +kernel
theorem dX11_sum_1 : decode cX11_sum 1 = .ok (.getfield 95, 3) := by decide +kernel
theorem dX11_sum_4 : decode cX11_sum 4 = .ok (.iload_n 1, 1) := by decide +kernel
theorem dX11_sum_5 : decode cX11_sum 5 = .ok (.aload_n 0, 1) := by decide +kernel
theorem dX11_sum_6 : decode cX11_sum 6 = .ok (.invokevirtual 98, 3) := by decide +kernel
theorem dX11_sum_9 : decode cX11_sum 9 = .ok (.iastore, 1) := by decide +kernel
theorem dX11_sum_10 : decode cX11_sum 10 = .ok (.aload_n 0, 1) := by decide +kernel
theorem dX11_sum_11 : decode cX11_sum 11 = .ok (.bipush 43, 2) := by decide +kernel
theorem dX11_sum_13 : decode cX11_sum 13 = .ok (.invokevirtual 61, 3) := by decide +kernel
theorem dX11_sum_16 : decode cX11_sum 16 = .ok (.istore_n 2, 1) := by decide +kernel
theorem dX11_sum_17 : decode cX11_sum 17 = .ok (.iload_n 2, 1) := by decide +kernel
theorem dX11_sum_18 : decode cX11_sum 18 = .ok (.ifCond .ne 16, 3) := by decide +kernel
theorem dX11_sum_21 : decode cX11_sum 21 = .ok (.aload_n 0, 1) := by decide +kernel
theorem dX11_sum_22 : decode cX11_sum 22 = .ok (.bipush 45, 2) := by decide +kernel
theorem dX11_sum_24 : decode cX11_sum 24 = .ok (.invokevirtual 61, 3) := by decide +kernel
theorem dX11_sum_27 : decode cX11_sum 27 = .ok (.ifCond .eq 7, 3) := by decide +kernel
theorem dX11_sum_30 : decode cX11_sum 30 = .ok (.iconst 1, 1) := by decide +kernel
theorem dX11_sum_31 : decode cX11_sum 31 = .ok (.goto 4, 3) := by decide +kernel
theorem dX11_sum_34 : decode cX11_sum 34 = .ok (.iconst 0, 1) := by decide +kernel
theorem dX11_sum_35 : decode cX11_sum 35 = .ok (.istore_n 3, 1) := by decide +kernel
theorem dX11_sum_36 : decode cX11_sum 36 = .ok (.aload_n 0, 1) := by decide +kernel
theorem dX11_sum_37 : decode cX11_sum 37 = .ok (.getfield 95, 3) := by decide +kernel
theorem dX11_sum_40 : decode cX11_sum 40 = .ok (.iload_n 1, 1) := by decide +kernel
theorem dX11_sum_41 : decode cX11_sum 41 = .ok (.iconst 2, 1) := by decide +kernel
theorem dX11_sum_42 : decode cX11_sum 42 = .ok (.iadd, 1) := by decide +kernel
theorem dX11_sum_43 : decode cX11_sum 43 = .ok (.iload_n 2, 1) := by decide +kernel
theorem dX11_sum_44 : decode cX11_sum 44 = .ok (.ifCond .eq 7, 3) := by decide +kernel
theorem dX11_sum_47 : decode cX11_sum 47 = .ok (.iconst 1, 1) := by decide +kernel
theorem dX11_sum_48 : decode cX11_sum 48 = .ok (.goto 12, 3) := by decide +kernel
theorem dX11_sum_51 : decode cX11_sum 51 = .ok (.iload_n 3, 1) := by decide +kernel
theorem dX11_sum_52 : decode cX11_sum 52 = .ok (.ifCond .eq 7, 3) := by decide +kernel
theorem dX11_sum_55 : decode cX11_sum 55 = .ok (.iconst (-1), 1) := by decide +kernel
theorem dX11_sum_56 : decode cX11_sum 56 = .ok (.goto 4, 3) := by decide +kernel
theorem dX11_sum_59 : decode cX11_sum 59 = .ok (.iconst 0, 1) := by decide +kernel
theorem dX11_sum_60 : decode cX11_sum 60 = .ok (.iastore, 1) := by decide +kernel
theorem dX11_sum_61 : decode cX11_sum 61 = .ok (.aload_n 0, 1) := by decide +kernel
theorem dX11_sum_62 : decode cX11_sum 62 = .ok (.getfield 95, 3) := by decide +kernel
theorem dX11_sum_65 : decode cX11_sum 65 = .ok (.iload_n 1, 1) := by decide +kernel
theorem dX11_sum_66 : decode cX11_sum 66 = .ok (.iconst 1, 1) := by decide +kernel
theorem dX11_sum_67 : decode cX11_sum 67 = .ok (.iadd, 1) := by decide +kernel
theorem dX11_sum_68 : decode cX11_sum 68 = .ok (.iload_n 2, 1) := by decide +kernel
theorem dX11_sum_69 : decode cX11_sum 69 = .ok (.ifCond .ne 7, 3) := by decide +kernel
theorem dX11_sum_72 : decode cX11_sum 72 = .ok (.iload_n 3, 1) := by decide +kernel
theorem dX11_sum_73 : decode cX11_sum 73 = .ok (.ifCond .eq 10, 3) := by decide +kernel
theorem dX11_sum_76 : decode cX11_sum 76 = .ok (.aload_n 0, 1) := by decide +kernel
theorem dX11_sum_77 : decode cX11_sum 77 = .ok (.invokevirtual 98, 3) := by decide +kernel
theorem dX11_sum_80 : decode cX11_sum 80 = .ok (.goto 5, 3) := by decide +kernel
theorem dX11_sum_83 : decode cX11_sum 83 = .ok (.bipush (-10), 2) := by decide +kernel
theorem dX11_sum_85 : decode cX11_sum 85 = .ok (.iastore, 1) := by decide +kernel
theorem dX11_sum_86 : decode cX11_sum 86 = .ok (.return_, 1) := by decide +kernel
theorem dX11_test_0 : decode cX11_test 0 = .ok (.aload_n 0, 1) := by decide +kernel
theorem dX11_test_1 : decode cX11_test 1 = .ok (.bipush 12, 2) := by decide +kernel
theorem dX11_test_3 : decode cX11_test 3 = .ok (.iload_n 1, 1) := by decide +kernel
theorem dX11_test_4 : decode cX11_test 4 = .ok (.imul, 1) := by decide +kernel
theorem dX11_test_5 : decode cX11_test 5 = .ok (.iconst 5, 1) := by decide +kernel
theorem dX11_test_6 : decode cX11_test 6 = .ok (.iadd, 1) := by decide +kernel
theorem dX11_test_7 : decode cX11_test 7 = .ok (.invokevirtual 101, 3) := by decide +kernel
theorem dX11_test_10 : decode cX11_test 10 = .ok (.aload_n 0, 1) := by decide +kernel
theorem dX11_test_11 : decode cX11_test 11 = .ok (.getfield 25, 3) := by decide +kernel
theorem dX11_test_14 : decode cX11_test 14 = .ok (.ifCond .ne 10, 3) := by decide +kernel
theorem dX11_test_17 : decode cX11_test 17 = .ok (.aload_n 0, 1) := by decide +kernel
theorem dX11_test_18 : decode cX11_test 18 = .ok (.invokevirtual 40, 3) := by decide +kernel
theorem dX11_test_21 : decode cX11_test 21 = .ok (.goto 4, 3) := by decide +kernel
theorem dX11_test_24 : decode cX11_test 24 = .ok (.iconst 0, 1) := by decide +kernel
theorem dX11_test_25 : decode cX11_test 25 = .ok (.istore_n 2, 1) := by decide +kernel
theorem dX11_test_26 : decode cX11_test 26 = .ok (.iload_n 2, 1) := by decide +kernel
theorem dX11_test_27 : decode cX11_test 27 = .ok (.bipush 61, 2) := by decide +kernel
theorem dX11_test_29 : decode cX11_test 29 = .ok (.if_icmp .eq 15, 3) := by decide +kernel
theorem dX11_test_32 : decode cX11_test 32 = .ok (.iload_n 2, 1) := by decide +kernel
theorem dX11_test_33 : decode cX11_test 33 = .ok (.bipush 60, 2) := by decide +kernel
theorem dX11_test_35 : decode cX11_test 35 = .ok (.if_icmp .eq 9, 3) := by decide +kernel
theorem dX11_test_38 : decode cX11_test 38 = .ok (.iload_n 2, 1) := by decide +kernel
theorem dX11_test_39 : decode cX11_test 39 = .ok (.bipush 35, 2) := by decide +kernel
theorem dX11_test_41 : decode cX11_test 41 = .ok (.if_icmp .ne 14, 3) := by decide +kernel
theorem dX11_test_44 : decode cX11_test 44 = .ok (.aload_n 0, 1) := by decide +kernel
theorem dX11_test_45 : decode cX11_test 45 = .ok (.getfield 31, 3) := by decide +kernel
theorem dX11_test_48 : decode cX11_test 48 = .ok (.aload_n 0, 1) := by decide +kernel
theorem dX11_test_49 : decode cX11_test 49 = .ok (.getfield 34, 3) := by decide +kernel
theorem dX11_test_52 : decode cX11_test 52 = .ok (.if_icmp .lt 12, 3) := by decide +kernel
theorem dX11_test_55 : decode cX11_test 55 = .ok (.aload_n 0, 1) := by decide +kernel
theorem dX11_test_56 : decode cX11_test 56 = .ok (.iconst 1, 1) := by decide +kernel
theorem dX11_test_57 : decode cX11_test 57 = .ok (.aload_n 0, 1) := by decide +kernel
theorem dX11_test_58 : decode cX11_test 58 = .ok (.getfield 31, 3) := by decide +kernel
theorem dX11_test_61 : decode cX11_test 61 = .ok (.invokevirtual 64, 3) := by decide +kernel
theorem dX11_test_64 : decode cX11_test 64 = .ok (.aload_n 0, 1) := by decide +kernel
theorem dX11_test_65 : decode cX11_test 65 = .ok (.getfield 95, 3) := by decide +kernel
theorem dX11_test_68 : decode cX11_test 68 = .ok (.bipush 12, 2) := by decide +kernel
theorem dX11_test_70 : decode cX11_test 70 = .ok (.iload_n 1, 1) := by decide +kernel
theorem dX11_test_71 : decode cX11_test 71 = .ok (.imul, 1) := by decide +kernel
theorem dX11_test_72 : decode cX11_test 72 = .ok (.bipush 11, 2) := by decide +kernel
theorem dX11_test_74 : decode cX11_test 74 = .ok (.iadd, 1) := by decide +kernel
theorem dX11_test_75 : decode cX11_test 75 = .ok (.iload_n 2, 1) := by decide +kernel
theorem dX11_test_76 : decode cX11_test 76 = .ok (.iastore, 1) := by decide +kernel
theorem dX11_test_77 : decode cX11_test 77 = .ok (.aload_n 0, 1) := by decide +kernel
theorem dX11_test_78 : decode cX11_test 78 = .ok (.dup, 1) := by decide +kernel
theorem dX11_test_79 : decode cX11_test 79 = .ok (.getfield 31, 3) := by decide +kernel
theorem dX11_test_82 : decode cX11_test 82 = .ok (.iconst 1, 1) := by decide +kernel
theorem dX11_test_83 : decode cX11_test 83 = .ok (.iadd, 1) := by decide +kernel
theorem dX11_test_84 : decode cX11_test 84 = .ok (.putfield 31, 3) := by decide +kernel
theorem dX11_test_87 : decode cX11_test 87 = .ok (.aload_n 0, 1) := by decide +kernel
theorem dX11_test_88 : decode cX11_test 88 = .ok (.bipush 12, 2) := by decide +kernel
theorem dX11_test_90 : decode cX11_test 90 = .ok (.iload_n 1, 1) := by decide +kernel
theorem dX11_test_91 : decode cX11_test 91 = .ok (.imul, 1) := by decide +kernel
theorem dX11_test_92 : decode cX11_test 92 = .ok (.bipush 8, 2) := by decide +kernel
theorem dX11_test_94 : decode cX11_test 94 = .ok (.iadd, 1) := by decide +kernel
theorem dX11_test_95 : decode cX11_test 95 = .ok (.invokevirtual 101, 3) := by decide +kernel
theorem dX11_test_98 : decode cX11_test 98 = .ok (.return_, 1) := by decide +kernel
theorem dX11_isChance_0 : decode cX11_isChance 0 = .ok (.iload_n 0, 1) := by decide +kernel
theorem dX11_isChance_1 : decode cX11_isChance 1 = .ok (.iconst 2, 1) := by decide +kernel
theorem dX11_isChance_2 : decode cX11_isChance 2 = .ok (.if_icmp .lt 9, 3) := by decide +kernel
theorem dX11_isChance_5 : decode cX11_isChance 5 = .ok (.iload_n 0, 1) := by decide +kernel
theorem dX11_isChance_6 : decode cX11_isChance 6 = .ok (.bipush 6, 2) := by decide +kernel
theorem dX11_isChance_8 : decode cX11_isChance 8 = .ok (.if_icmp .le 9, 3) := by decide +kernel
theorem dX11_isChance_11 : decode cX11_isChance 11 = .ok (.iload_n 0, 1) := by decide +kernel
theorem dX11_isChance_12 : decode cX11_isChance 12 = .ok (.bipush 10, 2) := by decide +kernel
theorem dX11_isChance_14 : decode cX11_isChance 14 = .ok (.if_icmp .ne 7, 3) := by decide +kernel
theorem dX11_isChance_17 : decode cX11_isChance 17 = .ok (.iconst 1, 1) := by decide +kernel
theorem dX11_isChance_18 : decode cX11_isChance 18 = .ok (.goto 4, 3) := by decide +kernel
theorem dX11_isChance_21 : decode cX11_isChance 21 = .ok (.iconst 0, 1) := by decide +kernel
theorem dX11_isChance_22 : decode cX11_isChance 22 = .ok (.ireturn, 1) := by decide +kernel
theorem dX11_begins_0 : decode cX11_begins 0 = .ok (.aload_n 0, 1) := by decide +kernel
theorem dX11_begins_1 : decode cX11_begins 1 = .ok (.invokevirtual 68, 3) := by decide +kernel
theorem dX11_begins_4 : decode cX11_begins 4 = .ok (.ifCond .ne 57, 3) := by decide +kernel
theorem dX11_begins_7 : decode cX11_begins 7 = .ok (.aload_n 0, 1) := by decide +kernel
theorem dX11_begins_8 : decode cX11_begins 8 = .ok (.ldc 104, 2) := by decide +kernel
theorem dX11_begins_10 : decode cX11_begins 10 = .ok (.invokevirtual 57, 3) := by decide +kernel
theorem dX11_begins_13 : decode cX11_begins 13 = .ok (.ifCond .ne 48, 3) := by decide +kernel
theorem dX11_begins_16 : decode cX11_begins 16 = .ok (.aload_n 0, 1) := by decide +kernel
theorem dX11_begins_17 : decode cX11_begins 17 = .ok (.ldc 106, 2) := by decide +kernel
theorem dX11_begins_19 : decode cX11_begins 19 = .ok (.invokevirtual 57, 3) := by decide +kernel
theorem dX11_begins_22 : decode cX11_begins 22 = .ok (.ifCond .ne 39, 3) := by decide +kernel
theorem dX11_begins_25 : decode cX11_begins 25 = .ok (.aload_n 0, 1) := by decide +kernel
theorem dX11_begins_26 : decode cX11_begins 26 = .ok (.ldc 108, 2) := by decide +kernel
theorem dX11_begins_28 : decode cX11_begins 28 = .ok (.invokevirtual 57, 3) := by decide +kernel
theorem dX11_begins_31 : decode cX11_begins 31 = .ok (.ifCond .ne 30, 3) := by decide +kernel
theorem dX11_begins_34 : decode cX11_begins 34 = .ok (.aload_n 0, 1) := by decide +kernel
theorem dX11_begins_35 : decode cX11_begins 35 = .ok (.ldc 110, 2) := by decide +kernel
theorem dX11_begins_37 : decode cX11_begins 37 = .ok (.invokevirtual 57, 3) := by decide +kernel
theorem dX11_begins_40 : decode cX11_begins 40 = .ok (.ifCond .ne 21, 3) := by decide +kernel
theorem dX11_begins_43 : decode cX11_begins 43 = .ok (.aload_n 0, 1) := by decide +kernel
theorem dX11_begins_44 : decode cX11_begins 44 = .ok (.ldc 112, 2) := by decide +kernel
theorem dX11_begins_46 : decode cX11_begins 46 = .ok (.invokevirtual 57, 3) := by decide +kernel
theorem dX11_begins_49 : decode cX11_begins 49 = .ok (.ifCond .ne 12, 3) := by decide +kernel
theorem dX11_begins_52 : decode cX11_begins 52 = .ok (.aload_n 0, 1) := by decide +kernel
theorem dX11_begins_53 : decode cX11_begins 53 = .ok (.ldc 114, 2) := by decide +kernel
theorem dX11_begins_55 : decode cX11_begins 55 = .ok (.invokevirtual 57, 3) := by decide +kernel
theorem dX11_begins_58 : decode cX11_begins 58 = .ok (.ifCond .eq 7, 3) := by decide +kernel
theorem dX11_begins_61 : decode cX11_begins 61 = .ok (.iconst 1, 1) := by decide +kernel
theorem dX11_begins_62 : decode cX11_begins 62 = .ok (.goto 4, 3) := by decide +kernel
theorem dX11_begins_65 : decode cX11_begins 65 = .ok (.iconst 0, 1) := by decide +kernel
theorem dX11_begins_66 : decode cX11_begins 66 = .ok (.ireturn, 1) := by decide +kernel
theorem dX11_row_0 : decode cX11_row 0 = .ok (.iconst (-1), 1) := by decide +kernel
theorem dX11_row_1 : decode cX11_row 1 = .ok (.istore_n 2, 1) := by decide +kernel
theorem dX11_row_2 : decode cX11_row 2 = .ok (.iconst (-1), 1) := by decide +kernel
theorem dX11_row_3 : decode cX11_row 3 = .ok (.istore_n 3, 1) := by decide +kernel
theorem dX11_row_4 : decode cX11_row 4 = .ok (.aload_n 0, 1) := by decide +kernel
theorem dX11_row_5 : decode cX11_row 5 = .ok (.getfield 25, 3) := by decide +kernel
theorem dX11_row_8 : decode cX11_row 8 = .ok (.ifCond .ne 80, 3) := by decide +kernel
theorem dX11_row_11 : decode cX11_row 11 = .ok (.aload_n 0, 1) := by decide +kernel
theorem dX11_row_12 : decode cX11_row 12 = .ok (.invokevirtual 116, 3) := by decide +kernel
theorem dX11_row_15 : decode cX11_row 15 = .ok (.ifCond .eq 73, 3) := by decide +kernel
theorem dX11_row_18 : decode cX11_row 18 = .ok (.aload_n 0, 1) := by decide +kernel
theorem dX11_row_19 : decode cX11_row 19 = .ok (.getfield 119, 3) := by decide +kernel
theorem dX11_row_22 : decode cX11_row 22 = .ok (.istore 4, 2) := by decide +kernel
theorem dX11_row_24 : decode cX11_row 24 = .ok (.iload 4, 2) := by decide +kernel
theorem dX11_row_26 : decode cX11_row 26 = .ok (.bipush 40, 2) := by decide +kernel
theorem dX11_row_28 : decode cX11_row 28 = .ok (.if_icmp .ne 14, 3) := by decide +kernel
theorem dX11_row_31 : decode cX11_row 31 = .ok (.aload_n 0, 1) := by decide +kernel
theorem dX11_row_32 : decode cX11_row 32 = .ok (.iconst 3, 1) := by decide +kernel
theorem dX11_row_33 : decode cX11_row 33 = .ok (.aload_n 0, 1) := by decide +kernel
theorem dX11_row_34 : decode cX11_row 34 = .ok (.getfield 31, 3) := by decide +kernel
theorem dX11_row_37 : decode cX11_row 37 = .ok (.invokevirtual 64, 3) := by decide +kernel
theorem dX11_row_40 : decode cX11_row 40 = .ok (.iconst 0, 1) := by decide +kernel
theorem dX11_row_41 : decode cX11_row 41 = .ok (.ireturn, 1) := by decide +kernel
theorem dX11_row_42 : decode cX11_row 42 = .ok (.aload_n 0, 1) := by decide +kernel
theorem dX11_row_43 : decode cX11_row 43 = .ok (.dup, 1) := by decide +kernel
theorem dX11_row_44 : decode cX11_row 44 = .ok (.getfield 119, 3) := by decide +kernel
theorem dX11_row_47 : decode cX11_row 47 = .ok (.iconst 1, 1) := by decide +kernel
theorem dX11_row_48 : decode cX11_row 48 = .ok (.iadd, 1) := by decide +kernel
theorem dX11_row_49 : decode cX11_row 49 = .ok (.putfield 119, 3) := by decide +kernel
theorem dX11_row_52 : decode cX11_row 52 = .ok (.iload_n 3, 1) := by decide +kernel
theorem dX11_row_53 : decode cX11_row 53 = .ok (.iconst (-1), 1) := by decide +kernel
theorem dX11_row_54 : decode cX11_row 54 = .ok (.if_icmp .eq 10, 3) := by decide +kernel
theorem dX11_row_57 : decode cX11_row 57 = .ok (.aload_n 0, 1) := by decide +kernel
theorem dX11_row_58 : decode cX11_row 58 = .ok (.iload_n 3, 1) := by decide +kernel
theorem dX11_row_59 : decode cX11_row 59 = .ok (.iload 4, 2) := by decide +kernel
theorem dX11_row_61 : decode cX11_row 61 = .ok (.invokevirtual 122, 3) := by decide +kernel
theorem dX11_row_64 : decode cX11_row 64 = .ok (.iload_n 2, 1) := by decide +kernel
theorem dX11_row_65 : decode cX11_row 65 = .ok (.iconst (-1), 1) := by decide +kernel
theorem dX11_row_66 : decode cX11_row 66 = .ok (.if_icmp .ne 8, 3) := by decide +kernel
theorem dX11_row_69 : decode cX11_row 69 = .ok (.iload 4, 2) := by decide +kernel
theorem dX11_row_71 : decode cX11_row 71 = .ok (.goto 4, 3) := by decide +kernel
theorem dX11_row_74 : decode cX11_row 74 = .ok (.iload_n 2, 1) := by decide +kernel
theorem dX11_row_75 : decode cX11_row 75 = .ok (.istore_n 2, 1) := by decide +kernel
theorem dX11_row_76 : decode cX11_row 76 = .ok (.aload_n 0, 1) := by decide +kernel
theorem dX11_row_77 : decode cX11_row 77 = .ok (.iload 4, 2) := by decide +kernel
theorem dX11_row_79 : decode cX11_row 79 = .ok (.invokevirtual 125, 3) := by decide +kernel
theorem dX11_row_82 : decode cX11_row 82 = .ok (.iload 4, 2) := by decide +kernel
theorem dX11_row_84 : decode cX11_row 84 = .ok (.istore_n 3, 1) := by decide +kernel
theorem dX11_row_85 : decode cX11_row 85 = .ok (.goto (-81), 3) := by decide +kernel
theorem dX11_row_88 : decode cX11_row 88 = .ok (.iload_n 3, 1) := by decide +kernel
theorem dX11_row_89 : decode cX11_row 89 = .ok (.iconst (-1), 1) := by decide +kernel
theorem dX11_row_90 : decode cX11_row 90 = .ok (.if_icmp .eq 9, 3) := by decide +kernel
theorem dX11_row_93 : decode cX11_row 93 = .ok (.aload_n 0, 1) := by decide +kernel
theorem dX11_row_94 : decode cX11_row 94 = .ok (.iload_n 3, 1) := by decide +kernel
theorem dX11_row_95 : decode cX11_row 95 = .ok (.iload_n 1, 1) := by decide +kernel
theorem dX11_row_96 : decode cX11_row 96 = .ok (.invokevirtual 122, 3) := by decide +kernel
theorem dX11_row_99 : decode cX11_row 99 = .ok (.iload_n 2, 1) := by decide +kernel
theorem dX11_row_100 : decode cX11_row 100 = .ok (.iconst (-1), 1) := by decide +kernel
theorem dX11_row_101 : decode cX11_row 101 = .ok (.if_icmp .ne 7, 3) := by decide +kernel
theorem dX11_row_104 : decode cX11_row 104 = .ok (.iload_n 1, 1) := by decide +kernel
theorem dX11_row_105 : decode cX11_row 105 = .ok (.goto 4, 3) := by decide +kernel
theorem dX11_row_108 : decode cX11_row 108 = .ok (.iload_n 2, 1) := by decide +kernel
theorem dX11_row_109 : decode cX11_row 109 = .ok (.ireturn, 1) := by decide +kernel
theorem dX11_behind_0 : decode cX11_behind 0 = .ok (.bipush (-100), 2) := by decide +kernel
theorem dX11_behind_2 : decode cX11_behind 2 = .ok (.iload_n 1, 1) := by decide +kernel
theorem dX11_behind_3 : decode cX11_behind 3 = .ok (.isub, 1) := by decide +kernel
theorem dX11_behind_4 : decode cX11_behind 4 = .ok (.ireturn, 1) := by decide +kernel
theorem dX11_joins_0 : decode cX11_joins 0 = .ok (.iconst 0, 1) := by decide +kernel
theorem dX11_joins_1 : decode cX11_joins 1 = .ok (.istore_n 3, 1) := by decide +kernel
theorem dX11_joins_2 : decode cX11_joins 2 = .ok (.iload_n 3, 1) := by decide +kernel
theorem dX11_joins_3 : decode cX11_joins 3 = .ok (.aload_n 0, 1) := by decide +kernel
theorem dX11_joins_4 : decode cX11_joins 4 = .ok (.getfield 119, 3) := by decide +kernel
theorem dX11_joins_7 : decode cX11_joins 7 = .ok (.if_icmp .ge 71, 3) := by decide +kernel
theorem dX11_joins_10 : decode cX11_joins 10 = .ok (.aload_n 0, 1) := by decide +kernel
theorem dX11_joins_11 : decode cX11_joins 11 = .ok (.getfield 95, 3) := by decide +kernel
theorem dX11_joins_14 : decode cX11_joins 14 = .ok (.bipush 12, 2) := by decide +kernel
theorem dX11_joins_16 : decode cX11_joins 16 = .ok (.iload_n 3, 1) := by decide +kernel
theorem dX11_joins_17 : decode cX11_joins 17 = .ok (.imul, 1) := by decide +kernel
theorem dX11_joins_18 : decode cX11_joins 18 = .ok (.iconst 3, 1) := by decide +kernel
theorem dX11_joins_19 : decode cX11_joins 19 = .ok (.iadd, 1) := by decide +kernel
theorem dX11_joins_20 : decode cX11_joins 20 = .ok (.iaload, 1) := by decide +kernel
theorem dX11_joins_21 : decode cX11_joins 21 = .ok (.aload_n 0, 1) := by decide +kernel
theorem dX11_joins_22 : decode cX11_joins 22 = .ok (.iload_n 1, 1) := by decide +kernel
theorem dX11_joins_23 : decode cX11_joins 23 = .ok (.invokevirtual 128, 3) := by decide +kernel
theorem dX11_joins_26 : decode cX11_joins 26 = .ok (.if_icmp .ne 15, 3) := by decide +kernel
theorem dX11_joins_29 : decode cX11_joins 29 = .ok (.aload_n 0, 1) := by decide +kernel
theorem dX11_joins_30 : decode cX11_joins 30 = .ok (.getfield 95, 3) := by decide +kernel
theorem dX11_joins_33 : decode cX11_joins 33 = .ok (.bipush 12, 2) := by decide +kernel
theorem dX11_joins_35 : decode cX11_joins 35 = .ok (.iload_n 3, 1) := by decide +kernel
theorem dX11_joins_36 : decode cX11_joins 36 = .ok (.imul, 1) := by decide +kernel
theorem dX11_joins_37 : decode cX11_joins 37 = .ok (.iconst 3, 1) := by decide +kernel
theorem dX11_joins_38 : decode cX11_joins 38 = .ok (.iadd, 1) := by decide +kernel
theorem dX11_joins_39 : decode cX11_joins 39 = .ok (.iload_n 2, 1) := by decide +kernel
theorem dX11_joins_40 : decode cX11_joins 40 = .ok (.iastore, 1) := by decide +kernel
theorem dX11_joins_41 : decode cX11_joins 41 = .ok (.aload_n 0, 1) := by decide +kernel
theorem dX11_joins_42 : decode cX11_joins 42 = .ok (.getfield 95, 3) := by decide +kernel
theorem dX11_joins_45 : decode cX11_joins 45 = .ok (.bipush 12, 2) := by decide +kernel
theorem dX11_joins_47 : decode cX11_joins 47 = .ok (.iload_n 3, 1) := by decide +kernel
theorem dX11_joins_48 : decode cX11_joins 48 = .ok (.imul, 1) := by decide +kernel
theorem dX11_joins_49 : decode cX11_joins 49 = .ok (.iconst 4, 1) := by decide +kernel
theorem dX11_joins_50 : decode cX11_joins 50 = .ok (.iadd, 1) := by decide +kernel
theorem dX11_joins_51 : decode cX11_joins 51 = .ok (.iaload, 1) := by decide +kernel
theorem dX11_joins_52 : decode cX11_joins 52 = .ok (.aload_n 0, 1) := by decide +kernel
theorem dX11_joins_53 : decode cX11_joins 53 = .ok (.iload_n 1, 1) := by decide +kernel
theorem dX11_joins_54 : decode cX11_joins 54 = .ok (.invokevirtual 128, 3) := by decide +kernel
theorem dX11_joins_57 : decode cX11_joins 57 = .ok (.if_icmp .ne 15, 3) := by decide +kernel
theorem dX11_joins_60 : decode cX11_joins 60 = .ok (.aload_n 0, 1) := by decide +kernel
theorem dX11_joins_61 : decode cX11_joins 61 = .ok (.getfield 95, 3) := by decide +kernel
theorem dX11_joins_64 : decode cX11_joins 64 = .ok (.bipush 12, 2) := by decide +kernel
theorem dX11_joins_66 : decode cX11_joins 66 = .ok (.iload_n 3, 1) := by decide +kernel
theorem dX11_joins_67 : decode cX11_joins 67 = .ok (.imul, 1) := by decide +kernel
theorem dX11_joins_68 : decode cX11_joins 68 = .ok (.iconst 4, 1) := by decide +kernel
theorem dX11_joins_69 : decode cX11_joins 69 = .ok (.iadd, 1) := by decide +kernel
theorem dX11_joins_70 : decode cX11_joins 70 = .ok (.iload_n 2, 1) := by decide +kernel
theorem dX11_joins_71 : decode cX11_joins 71 = .ok (.iastore, 1) := by decide +kernel
theorem dX11_joins_72 : decode cX11_joins 72 = .ok (.iinc 3 1, 3) := by decide +kernel
theorem dX11_joins_75 : decode cX11_joins 75 = .ok (.goto (-73), 3) := by decide +kernel
theorem dX11_joins_78 : decode cX11_joins 78 = .ok (.return_, 1) := by decide +kernel
theorem dX11_block_0 : decode cX11_block 0 = .ok (.aload_n 0, 1) := by decide +kernel
theorem dX11_block_1 : decode cX11_block 1 = .ok (.getfield 25, 3) := by decide +kernel
theorem dX11_block_4 : decode cX11_block 4 = .ok (.ifCond .ne 41, 3) := by decide +kernel
theorem dX11_block_7 : decode cX11_block 7 = .ok (.aload_n 0, 1) := by decide +kernel
theorem dX11_block_8 : decode cX11_block 8 = .ok (.invokevirtual 40, 3) := by decide +kernel
theorem dX11_block_11 : decode cX11_block 11 = .ok (.bipush 123, 2) := by decide +kernel
theorem dX11_block_13 : decode cX11_block 13 = .ok (.if_icmp .ne 32, 3) := by decide +kernel
theorem dX11_block_16 : decode cX11_block 16 = .ok (.aload_n 0, 1) := by decide +kernel
theorem dX11_block_17 : decode cX11_block 17 = .ok (.getfield 31, 3) := by decide +kernel
theorem dX11_block_20 : decode cX11_block 20 = .ok (.aload_n 0, 1) := by decide +kernel
theorem dX11_block_21 : decode cX11_block 21 = .ok (.getfield 34, 3) := by decide +kernel
theorem dX11_block_24 : decode cX11_block 24 = .ok (.if_icmp .ge 21, 3) := by decide +kernel
theorem dX11_block_27 : decode cX11_block 27 = .ok (.aload_n 0, 1) := by decide +kernel
theorem dX11_block_28 : decode cX11_block 28 = .ok (.getfield 131, 3) := by decide +kernel
theorem dX11_block_31 : decode cX11_block 31 = .ok (.bipush 6, 2) := by decide +kernel
theorem dX11_block_33 : decode cX11_block 33 = .ok (.if_icmp .ne 12, 3) := by decide +kernel
theorem dX11_block_36 : decode cX11_block 36 = .ok (.aload_n 0, 1) := by decide +kernel
theorem dX11_block_37 : decode cX11_block 37 = .ok (.iconst 3, 1) := by decide +kernel
theorem dX11_block_38 : decode cX11_block 38 = .ok (.aload_n 0, 1) := by decide +kernel
theorem dX11_block_39 : decode cX11_block 39 = .ok (.getfield 31, 3) := by decide +kernel
theorem dX11_block_42 : decode cX11_block 42 = .ok (.invokevirtual 64, 3) := by decide +kernel
theorem dX11_block_45 : decode cX11_block 45 = .ok (.aload_n 0, 1) := by decide +kernel
theorem dX11_block_46 : decode cX11_block 46 = .ok (.bipush 123, 2) := by decide +kernel
theorem dX11_block_48 : decode cX11_block 48 = .ok (.invokevirtual 134, 3) := by decide +kernel
theorem dX11_block_51 : decode cX11_block 51 = .ok (.aload_n 0, 1) := by decide +kernel
theorem dX11_block_52 : decode cX11_block 52 = .ok (.dup, 1) := by decide +kernel
theorem dX11_block_53 : decode cX11_block 53 = .ok (.getfield 131, 3) := by decide +kernel
theorem dX11_block_56 : decode cX11_block 56 = .ok (.iconst 1, 1) := by decide +kernel
theorem dX11_block_57 : decode cX11_block 57 = .ok (.iadd, 1) := by decide +kernel
theorem dX11_block_58 : decode cX11_block 58 = .ok (.putfield 131, 3) := by decide +kernel
theorem dX11_block_61 : decode cX11_block 61 = .ok (.aload_n 0, 1) := by decide +kernel
theorem dX11_block_62 : decode cX11_block 62 = .ok (.iload_n 1, 1) := by decide +kernel
theorem dX11_block_63 : decode cX11_block 63 = .ok (.invokevirtual 137, 3) := by decide +kernel
theorem dX11_block_66 : decode cX11_block 66 = .ok (.istore_n 2, 1) := by decide +kernel
theorem dX11_block_67 : decode cX11_block 67 = .ok (.aload_n 0, 1) := by decide +kernel
theorem dX11_block_68 : decode cX11_block 68 = .ok (.bipush 125, 2) := by decide +kernel
theorem dX11_block_70 : decode cX11_block 70 = .ok (.invokevirtual 134, 3) := by decide +kernel
theorem dX11_block_73 : decode cX11_block 73 = .ok (.aload_n 0, 1) := by decide +kernel
theorem dX11_block_74 : decode cX11_block 74 = .ok (.dup, 1) := by decide +kernel
theorem dX11_block_75 : decode cX11_block 75 = .ok (.getfield 131, 3) := by decide +kernel
theorem dX11_block_78 : decode cX11_block 78 = .ok (.iconst 1, 1) := by decide +kernel
theorem dX11_block_79 : decode cX11_block 79 = .ok (.isub, 1) := by decide +kernel
theorem dX11_block_80 : decode cX11_block 80 = .ok (.putfield 131, 3) := by decide +kernel
theorem dX11_block_83 : decode cX11_block 83 = .ok (.iload_n 2, 1) := by decide +kernel
theorem dX11_block_84 : decode cX11_block 84 = .ok (.ireturn, 1) := by decide +kernel
theorem dX11_reads_0 : decode cX11_reads 0 = .ok (.bipush 12, 2) := by decide +kernel
theorem dX11_reads_2 : decode cX11_reads 2 = .ok (.iload_n 1, 1) := by decide +kernel
theorem dX11_reads_3 : decode cX11_reads 3 = .ok (.imul, 1) := by decide +kernel
theorem dX11_reads_4 : decode cX11_reads 4 = .ok (.istore_n 2, 1) := by decide +kernel
theorem dX11_reads_5 : decode cX11_reads 5 = .ok (.iconst 0, 1) := by decide +kernel
theorem dX11_reads_6 : decode cX11_reads 6 = .ok (.istore_n 3, 1) := by decide +kernel
theorem dX11_reads_7 : decode cX11_reads 7 = .ok (.iload_n 3, 1) := by decide +kernel
theorem dX11_reads_8 : decode cX11_reads 8 = .ok (.bipush 12, 2) := by decide +kernel
theorem dX11_reads_10 : decode cX11_reads 10 = .ok (.if_icmp .ge 18, 3) := by decide +kernel
theorem dX11_reads_13 : decode cX11_reads 13 = .ok (.aload_n 0, 1) := by decide +kernel
theorem dX11_reads_14 : decode cX11_reads 14 = .ok (.getfield 95, 3) := by decide +kernel
theorem dX11_reads_17 : decode cX11_reads 17 = .ok (.iload_n 2, 1) := by decide +kernel
theorem dX11_reads_18 : decode cX11_reads 18 = .ok (.iload_n 3, 1) := by decide +kernel
theorem dX11_reads_19 : decode cX11_reads 19 = .ok (.iadd, 1) := by decide +kernel
theorem dX11_reads_20 : decode cX11_reads 20 = .ok (.iconst (-1), 1) := by decide +kernel
theorem dX11_reads_21 : decode cX11_reads 21 = .ok (.iastore, 1) := by decide +kernel
theorem dX11_reads_22 : decode cX11_reads 22 = .ok (.iinc 3 1, 3) := by decide +kernel
theorem dX11_reads_25 : decode cX11_reads 25 = .ok (.goto (-18), 3) := by decide +kernel
theorem dX11_reads_28 : decode cX11_reads 28 = .ok (.aload_n 0, 1) := by decide +kernel
theorem dX11_reads_29 : decode cX11_reads 29 = .ok (.getfield 95, 3) := by decide +kernel
theorem dX11_reads_32 : decode cX11_reads 32 = .ok (.iload_n 2, 1) := by decide +kernel
theorem dX11_reads_33 : decode cX11_reads 33 = .ok (.iconst 3, 1) := by decide +kernel
theorem dX11_reads_34 : decode cX11_reads 34 = .ok (.iadd, 1) := by decide +kernel
theorem dX11_reads_35 : decode cX11_reads 35 = .ok (.aload_n 0, 1) := by decide +kernel
theorem dX11_reads_36 : decode cX11_reads 36 = .ok (.iload_n 1, 1) := by decide +kernel
theorem dX11_reads_37 : decode cX11_reads 37 = .ok (.invokevirtual 128, 3) := by decide +kernel
theorem dX11_reads_40 : decode cX11_reads 40 = .ok (.iastore, 1) := by decide +kernel
theorem dX11_reads_41 : decode cX11_reads 41 = .ok (.aload_n 0, 1) := by decide +kernel
theorem dX11_reads_42 : decode cX11_reads 42 = .ok (.invokevirtual 68, 3) := by decide +kernel
theorem dX11_reads_45 : decode cX11_reads 45 = .ok (.ifCond .eq 46, 3) := by decide +kernel
theorem dX11_reads_48 : decode cX11_reads 48 = .ok (.aload_n 0, 1) := by decide +kernel
theorem dX11_reads_49 : decode cX11_reads 49 = .ok (.getfield 95, 3) := by decide +kernel
theorem dX11_reads_52 : decode cX11_reads 52 = .ok (.iload_n 2, 1) := by decide +kernel
theorem dX11_reads_53 : decode cX11_reads 53 = .ok (.iconst 0, 1) := by decide +kernel
theorem dX11_reads_54 : decode cX11_reads 54 = .ok (.iadd, 1) := by decide +kernel
theorem dX11_reads_55 : decode cX11_reads 55 = .ok (.iconst 0, 1) := by decide +kernel
theorem dX11_reads_56 : decode cX11_reads 56 = .ok (.iastore, 1) := by decide +kernel
theorem dX11_reads_57 : decode cX11_reads 57 = .ok (.aload_n 0, 1) := by decide +kernel
theorem dX11_reads_58 : decode cX11_reads 58 = .ok (.getfield 95, 3) := by decide +kernel
theorem dX11_reads_61 : decode cX11_reads 61 = .ok (.iload_n 2, 1) := by decide +kernel
theorem dX11_reads_62 : decode cX11_reads 62 = .ok (.iconst 1, 1) := by decide +kernel
theorem dX11_reads_63 : decode cX11_reads 63 = .ok (.iadd, 1) := by decide +kernel
theorem dX11_reads_64 : decode cX11_reads 64 = .ok (.aload_n 0, 1) := by decide +kernel
theorem dX11_reads_65 : decode cX11_reads 65 = .ok (.invokevirtual 92, 3) := by decide +kernel
theorem dX11_reads_68 : decode cX11_reads 68 = .ok (.iastore, 1) := by decide +kernel
theorem dX11_reads_69 : decode cX11_reads 69 = .ok (.aload_n 0, 1) := by decide +kernel
theorem dX11_reads_70 : decode cX11_reads 70 = .ok (.bipush 61, 2) := by decide +kernel
theorem dX11_reads_72 : decode cX11_reads 72 = .ok (.invokevirtual 134, 3) := by decide +kernel
theorem dX11_reads_75 : decode cX11_reads 75 = .ok (.aload_n 0, 1) := by decide +kernel
theorem dX11_reads_76 : decode cX11_reads 76 = .ok (.iload_n 2, 1) := by decide +kernel
theorem dX11_reads_77 : decode cX11_reads 77 = .ok (.iconst 5, 1) := by decide +kernel
theorem dX11_reads_78 : decode cX11_reads 78 = .ok (.iadd, 1) := by decide +kernel
theorem dX11_reads_79 : decode cX11_reads 79 = .ok (.invokevirtual 101, 3) := by decide +kernel
theorem dX11_reads_82 : decode cX11_reads 82 = .ok (.aload_n 0, 1) := by decide +kernel
theorem dX11_reads_83 : decode cX11_reads 83 = .ok (.bipush 59, 2) := by decide +kernel
theorem dX11_reads_85 : decode cX11_reads 85 = .ok (.invokevirtual 134, 3) := by decide +kernel
theorem dX11_reads_88 : decode cX11_reads 88 = .ok (.goto 282, 3) := by decide +kernel
theorem dX11_reads_91 : decode cX11_reads 91 = .ok (.aload_n 0, 1) := by decide +kernel
theorem dX11_reads_92 : decode cX11_reads 92 = .ok (.ldc 104, 2) := by decide +kernel
theorem dX11_reads_94 : decode cX11_reads 94 = .ok (.invokevirtual 140, 3) := by decide +kernel
theorem dX11_reads_97 : decode cX11_reads 97 = .ok (.ifCond .eq 75, 3) := by decide +kernel
theorem dX11_reads_100 : decode cX11_reads 100 = .ok (.aload_n 0, 1) := by decide +kernel
theorem dX11_reads_101 : decode cX11_reads 101 = .ok (.getfield 95, 3) := by decide +kernel
theorem dX11_reads_104 : decode cX11_reads 104 = .ok (.iload_n 2, 1) := by decide +kernel
theorem dX11_reads_105 : decode cX11_reads 105 = .ok (.iconst 0, 1) := by decide +kernel
theorem dX11_reads_106 : decode cX11_reads 106 = .ok (.iadd, 1) := by decide +kernel
theorem dX11_reads_107 : decode cX11_reads 107 = .ok (.iconst 1, 1) := by decide +kernel
theorem dX11_reads_108 : decode cX11_reads 108 = .ok (.iastore, 1) := by decide +kernel
theorem dX11_reads_109 : decode cX11_reads 109 = .ok (.aload_n 0, 1) := by decide +kernel
theorem dX11_reads_110 : decode cX11_reads 110 = .ok (.getfield 95, 3) := by decide +kernel
theorem dX11_reads_113 : decode cX11_reads 113 = .ok (.iload_n 2, 1) := by decide +kernel
theorem dX11_reads_114 : decode cX11_reads 114 = .ok (.iconst 1, 1) := by decide +kernel
theorem dX11_reads_115 : decode cX11_reads 115 = .ok (.iadd, 1) := by decide +kernel
theorem dX11_reads_116 : decode cX11_reads 116 = .ok (.aload_n 0, 1) := by decide +kernel
theorem dX11_reads_117 : decode cX11_reads 117 = .ok (.invokevirtual 92, 3) := by decide +kernel
theorem dX11_reads_120 : decode cX11_reads 120 = .ok (.iastore, 1) := by decide +kernel
theorem dX11_reads_121 : decode cX11_reads 121 = .ok (.aload_n 0, 1) := by decide +kernel
theorem dX11_reads_122 : decode cX11_reads 122 = .ok (.getfield 95, 3) := by decide +kernel
theorem dX11_reads_125 : decode cX11_reads 125 = .ok (.iload_n 2, 1) := by decide +kernel
theorem dX11_reads_126 : decode cX11_reads 126 = .ok (.iconst 2, 1) := by decide +kernel
theorem dX11_reads_127 : decode cX11_reads 127 = .ok (.iadd, 1) := by decide +kernel
theorem dX11_reads_128 : decode cX11_reads 128 = .ok (.aload_n 0, 1) := by decide +kernel
theorem dX11_reads_129 : decode cX11_reads 129 = .ok (.invokevirtual 85, 3) := by decide +kernel
theorem dX11_reads_132 : decode cX11_reads 132 = .ok (.iastore, 1) := by decide +kernel
theorem dX11_reads_133 : decode cX11_reads 133 = .ok (.aload_n 0, 1) := by decide +kernel
theorem dX11_reads_134 : decode cX11_reads 134 = .ok (.getfield 25, 3) := by decide +kernel
theorem dX11_reads_137 : decode cX11_reads 137 = .ok (.ifCond .ne 26, 3) := by decide +kernel
theorem dX11_reads_140 : decode cX11_reads 140 = .ok (.aload_n 0, 1) := by decide +kernel
theorem dX11_reads_141 : decode cX11_reads 141 = .ok (.getfield 95, 3) := by decide +kernel
theorem dX11_reads_144 : decode cX11_reads 144 = .ok (.iload_n 2, 1) := by decide +kernel
theorem dX11_reads_145 : decode cX11_reads 145 = .ok (.iconst 2, 1) := by decide +kernel
theorem dX11_reads_146 : decode cX11_reads 146 = .ok (.iadd, 1) := by decide +kernel
theorem dX11_reads_147 : decode cX11_reads 147 = .ok (.iaload, 1) := by decide +kernel
theorem dX11_reads_148 : decode cX11_reads 148 = .ok (.invokestatic 143, 3) := by decide +kernel
theorem dX11_reads_151 : decode cX11_reads 151 = .ok (.ifCond .ne 12, 3) := by decide +kernel
theorem dX11_reads_154 : decode cX11_reads 154 = .ok (.aload_n 0, 1) := by decide +kernel
theorem dX11_reads_155 : decode cX11_reads 155 = .ok (.iconst 2, 1) := by decide +kernel
theorem dX11_reads_156 : decode cX11_reads 156 = .ok (.aload_n 0, 1) := by decide +kernel
theorem dX11_reads_157 : decode cX11_reads 157 = .ok (.getfield 75, 3) := by decide +kernel
theorem dX11_reads_160 : decode cX11_reads 160 = .ok (.invokevirtual 64, 3) := by decide +kernel
theorem dX11_reads_163 : decode cX11_reads 163 = .ok (.aload_n 0, 1) := by decide +kernel
theorem dX11_reads_164 : decode cX11_reads 164 = .ok (.bipush 59, 2) := by decide +kernel
theorem dX11_reads_166 : decode cX11_reads 166 = .ok (.invokevirtual 134, 3) := by decide +kernel
theorem dX11_reads_169 : decode cX11_reads 169 = .ok (.goto 201, 3) := by decide +kernel
theorem dX11_reads_172 : decode cX11_reads 172 = .ok (.aload_n 0, 1) := by decide +kernel
theorem dX11_reads_173 : decode cX11_reads 173 = .ok (.ldc 106, 2) := by decide +kernel
theorem dX11_reads_175 : decode cX11_reads 175 = .ok (.invokevirtual 140, 3) := by decide +kernel
theorem dX11_reads_178 : decode cX11_reads 178 = .ok (.ifCond .eq 34, 3) := by decide +kernel
theorem dX11_reads_181 : decode cX11_reads 181 = .ok (.aload_n 0, 1) := by decide +kernel
theorem dX11_reads_182 : decode cX11_reads 182 = .ok (.getfield 95, 3) := by decide +kernel
theorem dX11_reads_185 : decode cX11_reads 185 = .ok (.iload_n 2, 1) := by decide +kernel
theorem dX11_reads_186 : decode cX11_reads 186 = .ok (.iconst 0, 1) := by decide +kernel
theorem dX11_reads_187 : decode cX11_reads 187 = .ok (.iadd, 1) := by decide +kernel
theorem dX11_reads_188 : decode cX11_reads 188 = .ok (.iconst 2, 1) := by decide +kernel
theorem dX11_reads_189 : decode cX11_reads 189 = .ok (.iastore, 1) := by decide +kernel
theorem dX11_reads_190 : decode cX11_reads 190 = .ok (.aload_n 0, 1) := by decide +kernel
theorem dX11_reads_191 : decode cX11_reads 191 = .ok (.getfield 95, 3) := by decide +kernel
theorem dX11_reads_194 : decode cX11_reads 194 = .ok (.iload_n 2, 1) := by decide +kernel
theorem dX11_reads_195 : decode cX11_reads 195 = .ok (.iconst 2, 1) := by decide +kernel
theorem dX11_reads_196 : decode cX11_reads 196 = .ok (.iadd, 1) := by decide +kernel
theorem dX11_reads_197 : decode cX11_reads 197 = .ok (.aload_n 0, 1) := by decide +kernel
theorem dX11_reads_198 : decode cX11_reads 198 = .ok (.bipush 60, 2) := by decide +kernel
theorem dX11_reads_200 : decode cX11_reads 200 = .ok (.invokevirtual 88, 3) := by decide +kernel
theorem dX11_reads_203 : decode cX11_reads 203 = .ok (.iastore, 1) := by decide +kernel
theorem dX11_reads_204 : decode cX11_reads 204 = .ok (.aload_n 0, 1) := by decide +kernel
theorem dX11_reads_205 : decode cX11_reads 205 = .ok (.iload_n 1, 1) := by decide +kernel
theorem dX11_reads_206 : decode cX11_reads 206 = .ok (.invokevirtual 146, 3) := by decide +kernel
theorem dX11_reads_209 : decode cX11_reads 209 = .ok (.goto 161, 3) := by decide +kernel
theorem dX11_reads_212 : decode cX11_reads 212 = .ok (.aload_n 0, 1) := by decide +kernel
theorem dX11_reads_213 : decode cX11_reads 213 = .ok (.ldc 108, 2) := by decide +kernel
theorem dX11_reads_215 : decode cX11_reads 215 = .ok (.invokevirtual 140, 3) := by decide +kernel
theorem dX11_reads_218 : decode cX11_reads 218 = .ok (.ifCond .eq 25, 3) := by decide +kernel
theorem dX11_reads_221 : decode cX11_reads 221 = .ok (.aload_n 0, 1) := by decide +kernel
theorem dX11_reads_222 : decode cX11_reads 222 = .ok (.getfield 95, 3) := by decide +kernel
theorem dX11_reads_225 : decode cX11_reads 225 = .ok (.iload_n 2, 1) := by decide +kernel
theorem dX11_reads_226 : decode cX11_reads 226 = .ok (.iconst 0, 1) := by decide +kernel
theorem dX11_reads_227 : decode cX11_reads 227 = .ok (.iadd, 1) := by decide +kernel
theorem dX11_reads_228 : decode cX11_reads 228 = .ok (.iconst 3, 1) := by decide +kernel
theorem dX11_reads_229 : decode cX11_reads 229 = .ok (.iastore, 1) := by decide +kernel
theorem dX11_reads_230 : decode cX11_reads 230 = .ok (.aload_n 0, 1) := by decide +kernel
theorem dX11_reads_231 : decode cX11_reads 231 = .ok (.iload_n 1, 1) := by decide +kernel
theorem dX11_reads_232 : decode cX11_reads 232 = .ok (.invokevirtual 149, 3) := by decide +kernel
theorem dX11_reads_235 : decode cX11_reads 235 = .ok (.aload_n 0, 1) := by decide +kernel
theorem dX11_reads_236 : decode cX11_reads 236 = .ok (.iload_n 1, 1) := by decide +kernel
theorem dX11_reads_237 : decode cX11_reads 237 = .ok (.invokevirtual 146, 3) := by decide +kernel
theorem dX11_reads_240 : decode cX11_reads 240 = .ok (.goto 130, 3) := by decide +kernel
theorem dX11_reads_243 : decode cX11_reads 243 = .ok (.aload_n 0, 1) := by decide +kernel
theorem dX11_reads_244 : decode cX11_reads 244 = .ok (.ldc 110, 2) := by decide +kernel
theorem dX11_reads_246 : decode cX11_reads 246 = .ok (.invokevirtual 140, 3) := by decide +kernel
theorem dX11_reads_249 : decode cX11_reads 249 = .ok (.ifCond .eq 46, 3) := by decide +kernel
theorem dX11_reads_252 : decode cX11_reads 252 = .ok (.aload_n 0, 1) := by decide +kernel
theorem dX11_reads_253 : decode cX11_reads 253 = .ok (.getfield 95, 3) := by decide +kernel
theorem dX11_reads_256 : decode cX11_reads 256 = .ok (.iload_n 2, 1) := by decide +kernel
theorem dX11_reads_257 : decode cX11_reads 257 = .ok (.iconst 0, 1) := by decide +kernel
theorem dX11_reads_258 : decode cX11_reads 258 = .ok (.iadd, 1) := by decide +kernel
theorem dX11_reads_259 : decode cX11_reads 259 = .ok (.iconst 4, 1) := by decide +kernel
theorem dX11_reads_260 : decode cX11_reads 260 = .ok (.iastore, 1) := by decide +kernel
theorem dX11_reads_261 : decode cX11_reads 261 = .ok (.aload_n 0, 1) := by decide +kernel
theorem dX11_reads_262 : decode cX11_reads 262 = .ok (.iload_n 1, 1) := by decide +kernel
theorem dX11_reads_263 : decode cX11_reads 263 = .ok (.invokevirtual 149, 3) := by decide +kernel
theorem dX11_reads_266 : decode cX11_reads 266 = .ok (.aload_n 0, 1) := by decide +kernel
theorem dX11_reads_267 : decode cX11_reads 267 = .ok (.getfield 95, 3) := by decide +kernel
theorem dX11_reads_270 : decode cX11_reads 270 = .ok (.iload_n 2, 1) := by decide +kernel
theorem dX11_reads_271 : decode cX11_reads 271 = .ok (.iconst 4, 1) := by decide +kernel
theorem dX11_reads_272 : decode cX11_reads 272 = .ok (.iadd, 1) := by decide +kernel
theorem dX11_reads_273 : decode cX11_reads 273 = .ok (.aload_n 0, 1) := by decide +kernel
theorem dX11_reads_274 : decode cX11_reads 274 = .ok (.iload_n 1, 1) := by decide +kernel
theorem dX11_reads_275 : decode cX11_reads 275 = .ok (.invokevirtual 128, 3) := by decide +kernel
theorem dX11_reads_278 : decode cX11_reads 278 = .ok (.iastore, 1) := by decide +kernel
theorem dX11_reads_279 : decode cX11_reads 279 = .ok (.aload_n 0, 1) := by decide +kernel
theorem dX11_reads_280 : decode cX11_reads 280 = .ok (.getfield 95, 3) := by decide +kernel
theorem dX11_reads_283 : decode cX11_reads 283 = .ok (.iload_n 2, 1) := by decide +kernel
theorem dX11_reads_284 : decode cX11_reads 284 = .ok (.iconst 3, 1) := by decide +kernel
theorem dX11_reads_285 : decode cX11_reads 285 = .ok (.iadd, 1) := by decide +kernel
theorem dX11_reads_286 : decode cX11_reads 286 = .ok (.aload_n 0, 1) := by decide +kernel
theorem dX11_reads_287 : decode cX11_reads 287 = .ok (.iload_n 1, 1) := by decide +kernel
theorem dX11_reads_288 : decode cX11_reads 288 = .ok (.invokevirtual 152, 3) := by decide +kernel
theorem dX11_reads_291 : decode cX11_reads 291 = .ok (.iastore, 1) := by decide +kernel
theorem dX11_reads_292 : decode cX11_reads 292 = .ok (.goto 78, 3) := by decide +kernel
theorem dX11_reads_295 : decode cX11_reads 295 = .ok (.aload_n 0, 1) := by decide +kernel
theorem dX11_reads_296 : decode cX11_reads 296 = .ok (.ldc 112, 2) := by decide +kernel
theorem dX11_reads_298 : decode cX11_reads 298 = .ok (.invokevirtual 140, 3) := by decide +kernel
theorem dX11_reads_301 : decode cX11_reads 301 = .ok (.ifCond .eq 36, 3) := by decide +kernel
theorem dX11_reads_304 : decode cX11_reads 304 = .ok (.aload_n 0, 1) := by decide +kernel
theorem dX11_reads_305 : decode cX11_reads 305 = .ok (.getfield 95, 3) := by decide +kernel
theorem dX11_reads_308 : decode cX11_reads 308 = .ok (.iload_n 2, 1) := by decide +kernel
theorem dX11_reads_309 : decode cX11_reads 309 = .ok (.iconst 0, 1) := by decide +kernel
theorem dX11_reads_310 : decode cX11_reads 310 = .ok (.iadd, 1) := by decide +kernel
theorem dX11_reads_311 : decode cX11_reads 311 = .ok (.iconst 5, 1) := by decide +kernel
theorem dX11_reads_312 : decode cX11_reads 312 = .ok (.iastore, 1) := by decide +kernel
theorem dX11_reads_313 : decode cX11_reads 313 = .ok (.aload_n 0, 1) := by decide +kernel
theorem dX11_reads_314 : decode cX11_reads 314 = .ok (.iload_n 1, 1) := by decide +kernel
theorem dX11_reads_315 : decode cX11_reads 315 = .ok (.invokevirtual 149, 3) := by decide +kernel
theorem dX11_reads_318 : decode cX11_reads 318 = .ok (.aload_n 0, 1) := by decide +kernel
theorem dX11_reads_319 : decode cX11_reads 319 = .ok (.getfield 95, 3) := by decide +kernel
theorem dX11_reads_322 : decode cX11_reads 322 = .ok (.iload_n 2, 1) := by decide +kernel
theorem dX11_reads_323 : decode cX11_reads 323 = .ok (.iconst 4, 1) := by decide +kernel
theorem dX11_reads_324 : decode cX11_reads 324 = .ok (.iadd, 1) := by decide +kernel
theorem dX11_reads_325 : decode cX11_reads 325 = .ok (.bipush (-2), 2) := by decide +kernel
theorem dX11_reads_327 : decode cX11_reads 327 = .ok (.iastore, 1) := by decide +kernel
theorem dX11_reads_328 : decode cX11_reads 328 = .ok (.aload_n 0, 1) := by decide +kernel
theorem dX11_reads_329 : decode cX11_reads 329 = .ok (.bipush 59, 2) := by decide +kernel
theorem dX11_reads_331 : decode cX11_reads 331 = .ok (.invokevirtual 134, 3) := by decide +kernel
theorem dX11_reads_334 : decode cX11_reads 334 = .ok (.goto 36, 3) := by decide +kernel
theorem dX11_reads_337 : decode cX11_reads 337 = .ok (.aload_n 0, 1) := by decide +kernel
theorem dX11_reads_338 : decode cX11_reads 338 = .ok (.ldc 114, 2) := by decide +kernel
theorem dX11_reads_340 : decode cX11_reads 340 = .ok (.invokevirtual 140, 3) := by decide +kernel
theorem dX11_reads_343 : decode cX11_reads 343 = .ok (.pop, 1) := by decide +kernel
theorem dX11_reads_344 : decode cX11_reads 344 = .ok (.aload_n 0, 1) := by decide +kernel
theorem dX11_reads_345 : decode cX11_reads 345 = .ok (.getfield 95, 3) := by decide +kernel
theorem dX11_reads_348 : decode cX11_reads 348 = .ok (.iload_n 2, 1) := by decide +kernel
theorem dX11_reads_349 : decode cX11_reads 349 = .ok (.iconst 0, 1) := by decide +kernel
theorem dX11_reads_350 : decode cX11_reads 350 = .ok (.iadd, 1) := by decide +kernel
theorem dX11_reads_351 : decode cX11_reads 351 = .ok (.bipush 6, 2) := by decide +kernel
theorem dX11_reads_353 : decode cX11_reads 353 = .ok (.iastore, 1) := by decide +kernel
theorem dX11_reads_354 : decode cX11_reads 354 = .ok (.aload_n 0, 1) := by decide +kernel
theorem dX11_reads_355 : decode cX11_reads 355 = .ok (.getfield 95, 3) := by decide +kernel
theorem dX11_reads_358 : decode cX11_reads 358 = .ok (.iload_n 2, 1) := by decide +kernel
theorem dX11_reads_359 : decode cX11_reads 359 = .ok (.iconst 3, 1) := by decide +kernel
theorem dX11_reads_360 : decode cX11_reads 360 = .ok (.iadd, 1) := by decide +kernel
theorem dX11_reads_361 : decode cX11_reads 361 = .ok (.bipush (-3), 2) := by decide +kernel
theorem dX11_reads_363 : decode cX11_reads 363 = .ok (.iastore, 1) := by decide +kernel
theorem dX11_reads_364 : decode cX11_reads 364 = .ok (.aload_n 0, 1) := by decide +kernel
theorem dX11_reads_365 : decode cX11_reads 365 = .ok (.bipush 59, 2) := by decide +kernel
theorem dX11_reads_367 : decode cX11_reads 367 = .ok (.invokevirtual 134, 3) := by decide +kernel
theorem dX11_reads_370 : decode cX11_reads 370 = .ok (.return_, 1) := by decide +kernel
theorem dX11_forks_0 : decode cX11_forks 0 = .ok (.aload_n 0, 1) := by decide +kernel
theorem dX11_forks_1 : decode cX11_forks 1 = .ok (.getfield 95, 3) := by decide +kernel
theorem dX11_forks_4 : decode cX11_forks 4 = .ok (.bipush 12, 2) := by decide +kernel
theorem dX11_forks_6 : decode cX11_forks 6 = .ok (.iload_n 1, 1) := by decide +kernel
theorem dX11_forks_7 : decode cX11_forks 7 = .ok (.imul, 1) := by decide +kernel
theorem dX11_forks_8 : decode cX11_forks 8 = .ok (.iconst 4, 1) := by decide +kernel
theorem dX11_forks_9 : decode cX11_forks 9 = .ok (.iadd, 1) := by decide +kernel
theorem dX11_forks_10 : decode cX11_forks 10 = .ok (.aload_n 0, 1) := by decide +kernel
theorem dX11_forks_11 : decode cX11_forks 11 = .ok (.iload_n 1, 1) := by decide +kernel
theorem dX11_forks_12 : decode cX11_forks 12 = .ok (.invokevirtual 128, 3) := by decide +kernel
theorem dX11_forks_15 : decode cX11_forks 15 = .ok (.iastore, 1) := by decide +kernel
theorem dX11_forks_16 : decode cX11_forks 16 = .ok (.aload_n 0, 1) := by decide +kernel
theorem dX11_forks_17 : decode cX11_forks 17 = .ok (.aload_n 0, 1) := by decide +kernel
theorem dX11_forks_18 : decode cX11_forks 18 = .ok (.iload_n 1, 1) := by decide +kernel
theorem dX11_forks_19 : decode cX11_forks 19 = .ok (.invokevirtual 128, 3) := by decide +kernel
theorem dX11_forks_22 : decode cX11_forks 22 = .ok (.invokevirtual 152, 3) := by decide +kernel
theorem dX11_forks_25 : decode cX11_forks 25 = .ok (.istore_n 2, 1) := by decide +kernel
theorem dX11_forks_26 : decode cX11_forks 26 = .ok (.aload_n 0, 1) := by decide +kernel
theorem dX11_forks_27 : decode cX11_forks 27 = .ok (.getfield 95, 3) := by decide +kernel
theorem dX11_forks_30 : decode cX11_forks 30 = .ok (.bipush 12, 2) := by decide +kernel
theorem dX11_forks_32 : decode cX11_forks 32 = .ok (.iload_n 1, 1) := by decide +kernel
theorem dX11_forks_33 : decode cX11_forks 33 = .ok (.imul, 1) := by decide +kernel
theorem dX11_forks_34 : decode cX11_forks 34 = .ok (.iconst 3, 1) := by decide +kernel
theorem dX11_forks_35 : decode cX11_forks 35 = .ok (.iadd, 1) := by decide +kernel
theorem dX11_forks_36 : decode cX11_forks 36 = .ok (.iload_n 2, 1) := by decide +kernel
theorem dX11_forks_37 : decode cX11_forks 37 = .ok (.iastore, 1) := by decide +kernel
theorem dX11_forks_38 : decode cX11_forks 38 = .ok (.aload_n 0, 1) := by decide +kernel
theorem dX11_forks_39 : decode cX11_forks 39 = .ok (.ldc 155, 2) := by decide +kernel
theorem dX11_forks_41 : decode cX11_forks 41 = .ok (.invokevirtual 140, 3) := by decide +kernel
theorem dX11_forks_44 : decode cX11_forks 44 = .ok (.ifCond .ne 4, 3) := by decide +kernel
theorem dX11_forks_47 : decode cX11_forks 47 = .ok (.return_, 1) := by decide +kernel
theorem dX11_forks_48 : decode cX11_forks 48 = .ok (.aload_n 0, 1) := by decide +kernel
theorem dX11_forks_49 : decode cX11_forks 49 = .ok (.aload_n 0, 1) := by decide +kernel
theorem dX11_forks_50 : decode cX11_forks 50 = .ok (.iload_n 1, 1) := by decide +kernel
theorem dX11_forks_51 : decode cX11_forks 51 = .ok (.invokevirtual 128, 3) := by decide +kernel
theorem dX11_forks_54 : decode cX11_forks 54 = .ok (.invokevirtual 152, 3) := by decide +kernel
theorem dX11_forks_57 : decode cX11_forks 57 = .ok (.istore_n 3, 1) := by decide +kernel
theorem dX11_forks_58 : decode cX11_forks 58 = .ok (.aload_n 0, 1) := by decide +kernel
theorem dX11_forks_59 : decode cX11_forks 59 = .ok (.getfield 95, 3) := by decide +kernel
theorem dX11_forks_62 : decode cX11_forks 62 = .ok (.bipush 12, 2) := by decide +kernel
theorem dX11_forks_64 : decode cX11_forks 64 = .ok (.iload_n 1, 1) := by decide +kernel
theorem dX11_forks_65 : decode cX11_forks 65 = .ok (.imul, 1) := by decide +kernel
theorem dX11_forks_66 : decode cX11_forks 66 = .ok (.iconst 4, 1) := by decide +kernel
theorem dX11_forks_67 : decode cX11_forks 67 = .ok (.iadd, 1) := by decide +kernel
theorem dX11_forks_68 : decode cX11_forks 68 = .ok (.iload_n 3, 1) := by decide +kernel
theorem dX11_forks_69 : decode cX11_forks 69 = .ok (.iastore, 1) := by decide +kernel
theorem dX11_forks_70 : decode cX11_forks 70 = .ok (.return_, 1) := by decide +kernel
theorem dX11_text_0 : decode cX11_text 0 = .ok (.aload_n 0, 1) := by decide +kernel
theorem dX11_text_1 : decode cX11_text 1 = .ok (.iconst 0, 1) := by decide +kernel
theorem dX11_text_2 : decode cX11_text 2 = .ok (.putfield 1, 3) := by decide +kernel
theorem dX11_text_5 : decode cX11_text 5 = .ok (.aload_n 0, 1) := by decide +kernel
theorem dX11_text_6 : decode cX11_text 6 = .ok (.iload_n 1, 1) := by decide +kernel
theorem dX11_text_7 : decode cX11_text 7 = .ok (.i2l, 1) := by decide +kernel
theorem dX11_text_8 : decode cX11_text 8 = .ok (.lconst 0, 1) := by decide +kernel
theorem dX11_text_9 : decode cX11_text 9 = .ok (.aload_n 0, 1) := by decide +kernel
theorem dX11_text_10 : decode cX11_text 10 = .ok (.getfield 14, 3) := by decide +kernel
theorem dX11_text_13 : decode cX11_text 13 = .ok (.i2l, 1) := by decide +kernel
theorem dX11_text_14 : decode cX11_text 14 = .ok (.invokestatic 157, 3) := by decide +kernel
theorem dX11_text_17 : decode cX11_text 17 = .ok (.iconst 1, 1) := by decide +kernel
theorem dX11_text_18 : decode cX11_text 18 = .ok (.iconst 1, 1) := by decide +kernel
theorem dX11_text_19 : decode cX11_text 19 = .ok (.invokevirtual 161, 3) := by decide +kernel
theorem dX11_text_22 : decode cX11_text 22 = .ok (.ifCond .ne 5, 3) := by decide +kernel
theorem dX11_text_25 : decode cX11_text 25 = .ok (.iconst 0, 1) := by decide +kernel
theorem dX11_text_26 : decode cX11_text 26 = .ok (.ireturn, 1) := by decide +kernel
theorem dX11_text_27 : decode cX11_text 27 = .ok (.iconst 0, 1) := by decide +kernel
theorem dX11_text_28 : decode cX11_text 28 = .ok (.istore_n 2, 1) := by decide +kernel
theorem dX11_text_29 : decode cX11_text 29 = .ok (.iload_n 2, 1) := by decide +kernel
theorem dX11_text_30 : decode cX11_text 30 = .ok (.iload_n 1, 1) := by decide +kernel
theorem dX11_text_31 : decode cX11_text 31 = .ok (.if_icmp .ge 21, 3) := by decide +kernel
theorem dX11_text_34 : decode cX11_text 34 = .ok (.aload_n 0, 1) := by decide +kernel
theorem dX11_text_35 : decode cX11_text 35 = .ok (.getfield 37, 3) := by decide +kernel
theorem dX11_text_38 : decode cX11_text 38 = .ok (.iload_n 2, 1) := by decide +kernel
theorem dX11_text_39 : decode cX11_text 39 = .ok (.aload_n 0, 1) := by decide +kernel
theorem dX11_text_40 : decode cX11_text 40 = .ok (.getfield 21, 3) := by decide +kernel
theorem dX11_text_43 : decode cX11_text 43 = .ok (.iload_n 2, 1) := by decide +kernel
theorem dX11_text_44 : decode cX11_text 44 = .ok (.baload, 1) := by decide +kernel
theorem dX11_text_45 : decode cX11_text 45 = .ok (.bastore, 1) := by decide +kernel
theorem dX11_text_46 : decode cX11_text 46 = .ok (.iinc 2 1, 3) := by decide +kernel
theorem dX11_text_49 : decode cX11_text 49 = .ok (.goto (-20), 3) := by decide +kernel
theorem dX11_text_52 : decode cX11_text 52 = .ok (.aload_n 0, 1) := by decide +kernel
theorem dX11_text_53 : decode cX11_text 53 = .ok (.iconst 0, 1) := by decide +kernel
theorem dX11_text_54 : decode cX11_text 54 = .ok (.putfield 14, 3) := by decide +kernel
theorem dX11_text_57 : decode cX11_text 57 = .ok (.aload_n 0, 1) := by decide +kernel
theorem dX11_text_58 : decode cX11_text 58 = .ok (.iload_n 1, 1) := by decide +kernel
theorem dX11_text_59 : decode cX11_text 59 = .ok (.putfield 34, 3) := by decide +kernel
theorem dX11_text_62 : decode cX11_text 62 = .ok (.aload_n 0, 1) := by decide +kernel
theorem dX11_text_63 : decode cX11_text 63 = .ok (.iconst 0, 1) := by decide +kernel
theorem dX11_text_64 : decode cX11_text 64 = .ok (.putfield 31, 3) := by decide +kernel
theorem dX11_text_67 : decode cX11_text 67 = .ok (.aload_n 0, 1) := by decide +kernel
theorem dX11_text_68 : decode cX11_text 68 = .ok (.iconst 0, 1) := by decide +kernel
theorem dX11_text_69 : decode cX11_text 69 = .ok (.putfield 131, 3) := by decide +kernel
theorem dX11_text_72 : decode cX11_text 72 = .ok (.aload_n 0, 1) := by decide +kernel
theorem dX11_text_73 : decode cX11_text 73 = .ok (.iconst 0, 1) := by decide +kernel
theorem dX11_text_74 : decode cX11_text 74 = .ok (.putfield 119, 3) := by decide +kernel
theorem dX11_text_77 : decode cX11_text 77 = .ok (.aload_n 0, 1) := by decide +kernel
theorem dX11_text_78 : decode cX11_text 78 = .ok (.iconst 0, 1) := by decide +kernel
theorem dX11_text_79 : decode cX11_text 79 = .ok (.putfield 25, 3) := by decide +kernel
theorem dX11_text_82 : decode cX11_text 82 = .ok (.aload_n 0, 1) := by decide +kernel
theorem dX11_text_83 : decode cX11_text 83 = .ok (.bipush (-3), 2) := by decide +kernel
theorem dX11_text_85 : decode cX11_text 85 = .ok (.invokevirtual 137, 3) := by decide +kernel
theorem dX11_text_88 : decode cX11_text 88 = .ok (.pop, 1) := by decide +kernel
theorem dX11_text_89 : decode cX11_text 89 = .ok (.aload_n 0, 1) := by decide +kernel
theorem dX11_text_90 : decode cX11_text 90 = .ok (.getfield 25, 3) := by decide +kernel
theorem dX11_text_93 : decode cX11_text 93 = .ok (.ifCond .ne 30, 3) := by decide +kernel
theorem dX11_text_96 : decode cX11_text 96 = .ok (.aload_n 0, 1) := by decide +kernel
theorem dX11_text_97 : decode cX11_text 97 = .ok (.invokevirtual 40, 3) := by decide +kernel
theorem dX11_text_100 : decode cX11_text 100 = .ok (.ifCond .ne 14, 3) := by decide +kernel
theorem dX11_text_103 : decode cX11_text 103 = .ok (.aload_n 0, 1) := by decide +kernel
theorem dX11_text_104 : decode cX11_text 104 = .ok (.getfield 31, 3) := by decide +kernel
theorem dX11_text_107 : decode cX11_text 107 = .ok (.aload_n 0, 1) := by decide +kernel
theorem dX11_text_108 : decode cX11_text 108 = .ok (.getfield 34, 3) := by decide +kernel
theorem dX11_text_111 : decode cX11_text 111 = .ok (.if_icmp .ge 12, 3) := by decide +kernel
theorem dX11_text_114 : decode cX11_text 114 = .ok (.aload_n 0, 1) := by decide +kernel
theorem dX11_text_115 : decode cX11_text 115 = .ok (.iconst 1, 1) := by decide +kernel
theorem dX11_text_116 : decode cX11_text 116 = .ok (.aload_n 0, 1) := by decide +kernel
theorem dX11_text_117 : decode cX11_text 117 = .ok (.getfield 31, 3) := by decide +kernel
theorem dX11_text_120 : decode cX11_text 120 = .ok (.invokevirtual 64, 3) := by decide +kernel
theorem dX11_text_123 : decode cX11_text 123 = .ok (.aload_n 0, 1) := by decide +kernel
theorem dX11_text_124 : decode cX11_text 124 = .ok (.aload_n 0, 1) := by decide +kernel
theorem dX11_text_125 : decode cX11_text 125 = .ok (.getfield 25, 3) := by decide +kernel
theorem dX11_text_128 : decode cX11_text 128 = .ok (.ifCond .le 10, 3) := by decide +kernel
theorem dX11_text_131 : decode cX11_text 131 = .ok (.aload_n 0, 1) := by decide +kernel
theorem dX11_text_132 : decode cX11_text 132 = .ok (.getfield 28, 3) := by decide +kernel
theorem dX11_text_135 : decode cX11_text 135 = .ok (.goto 4, 3) := by decide +kernel
theorem dX11_text_138 : decode cX11_text 138 = .ok (.iconst (-1), 1) := by decide +kernel
theorem dX11_text_139 : decode cX11_text 139 = .ok (.putfield 165, 3) := by decide +kernel
theorem dX11_text_142 : decode cX11_text 142 = .ok (.aload_n 0, 1) := by decide +kernel
theorem dX11_text_143 : decode cX11_text 143 = .ok (.getfield 25, 3) := by decide +kernel
theorem dX11_text_146 : decode cX11_text 146 = .ok (.ifCond .le 11, 3) := by decide +kernel
theorem dX11_text_149 : decode cX11_text 149 = .ok (.aload_n 0, 1) := by decide +kernel
theorem dX11_text_150 : decode cX11_text 150 = .ok (.getfield 25, 3) := by decide +kernel
theorem dX11_text_153 : decode cX11_text 153 = .ok (.bipush 10, 2) := by decide +kernel
theorem dX11_text_155 : decode cX11_text 155 = .ok (.isub, 1) := by decide +kernel
theorem dX11_text_156 : decode cX11_text 156 = .ok (.ireturn, 1) := by decide +kernel
theorem dX11_text_157 : decode cX11_text 157 = .ok (.aload_n 0, 1) := by decide +kernel
theorem dX11_text_158 : decode cX11_text 158 = .ok (.invokevirtual 168, 3) := by decide +kernel
theorem dX11_text_161 : decode cX11_text 161 = .ok (.aload_n 0, 1) := by decide +kernel
theorem dX11_text_162 : decode cX11_text 162 = .ok (.getfield 172, 3) := by decide +kernel
theorem dX11_text_165 : decode cX11_text 165 = .ok (.ireturn, 1) := by decide +kernel
theorem dX11_stands_0 : decode cX11_stands 0 = .ok (.aload_n 0, 1) := by decide +kernel
theorem dX11_stands_1 : decode cX11_stands 1 = .ok (.aload_n 0, 1) := by decide +kernel
theorem dX11_stands_2 : decode cX11_stands 2 = .ok (.getfield 119, 3) := by decide +kernel
theorem dX11_stands_5 : decode cX11_stands 5 = .ok (.putfield 172, 3) := by decide +kernel
theorem dX11_stands_8 : decode cX11_stands 8 = .ok (.iconst 0, 1) := by decide +kernel
theorem dX11_stands_9 : decode cX11_stands 9 = .ok (.istore_n 1, 1) := by decide +kernel
theorem dX11_stands_10 : decode cX11_stands 10 = .ok (.iload_n 1, 1) := by decide +kernel
theorem dX11_stands_11 : decode cX11_stands 11 = .ok (.bipush 12, 2) := by decide +kernel
theorem dX11_stands_13 : decode cX11_stands 13 = .ok (.aload_n 0, 1) := by decide +kernel
theorem dX11_stands_14 : decode cX11_stands 14 = .ok (.getfield 119, 3) := by decide +kernel
theorem dX11_stands_17 : decode cX11_stands 17 = .ok (.imul, 1) := by decide +kernel
theorem dX11_stands_18 : decode cX11_stands 18 = .ok (.if_icmp .ge 21, 3) := by decide +kernel
theorem dX11_stands_21 : decode cX11_stands 21 = .ok (.aload_n 0, 1) := by decide +kernel
theorem dX11_stands_22 : decode cX11_stands 22 = .ok (.getfield 11, 3) := by decide +kernel
theorem dX11_stands_25 : decode cX11_stands 25 = .ok (.iload_n 1, 1) := by decide +kernel
theorem dX11_stands_26 : decode cX11_stands 26 = .ok (.aload_n 0, 1) := by decide +kernel
theorem dX11_stands_27 : decode cX11_stands 27 = .ok (.getfield 95, 3) := by decide +kernel
theorem dX11_stands_30 : decode cX11_stands 30 = .ok (.iload_n 1, 1) := by decide +kernel
theorem dX11_stands_31 : decode cX11_stands 31 = .ok (.iaload, 1) := by decide +kernel
theorem dX11_stands_32 : decode cX11_stands 32 = .ok (.iastore, 1) := by decide +kernel
theorem dX11_stands_33 : decode cX11_stands 33 = .ok (.iinc 1 1, 3) := by decide +kernel
theorem dX11_stands_36 : decode cX11_stands 36 = .ok (.goto (-26), 3) := by decide +kernel
theorem dX11_stands_39 : decode cX11_stands 39 = .ok (.iconst 0, 1) := by decide +kernel
theorem dX11_stands_40 : decode cX11_stands 40 = .ok (.istore_n 1, 1) := by decide +kernel
theorem dX11_stands_41 : decode cX11_stands 41 = .ok (.iload_n 1, 1) := by decide +kernel
theorem dX11_stands_42 : decode cX11_stands 42 = .ok (.aload_n 0, 1) := by decide +kernel
theorem dX11_stands_43 : decode cX11_stands 43 = .ok (.getfield 119, 3) := by decide +kernel
theorem dX11_stands_46 : decode cX11_stands 46 = .ok (.if_icmp .ge 89, 3) := by decide +kernel
theorem dX11_stands_49 : decode cX11_stands 49 = .ok (.aload_n 0, 1) := by decide +kernel
theorem dX11_stands_50 : decode cX11_stands 50 = .ok (.iload_n 1, 1) := by decide +kernel
theorem dX11_stands_51 : decode cX11_stands 51 = .ok (.iconst 3, 1) := by decide +kernel
theorem dX11_stands_52 : decode cX11_stands 52 = .ok (.invokevirtual 175, 3) := by decide +kernel
theorem dX11_stands_55 : decode cX11_stands 55 = .ok (.bipush (-3), 2) := by decide +kernel
theorem dX11_stands_57 : decode cX11_stands 57 = .ok (.if_icmp .ne 18, 3) := by decide +kernel
theorem dX11_stands_60 : decode cX11_stands 60 = .ok (.aload_n 0, 1) := by decide +kernel
theorem dX11_stands_61 : decode cX11_stands 61 = .ok (.getfield 11, 3) := by decide +kernel
theorem dX11_stands_64 : decode cX11_stands 64 = .ok (.bipush 12, 2) := by decide +kernel
theorem dX11_stands_66 : decode cX11_stands 66 = .ok (.iload_n 1, 1) := by decide +kernel
theorem dX11_stands_67 : decode cX11_stands 67 = .ok (.imul, 1) := by decide +kernel
theorem dX11_stands_68 : decode cX11_stands 68 = .ok (.iconst 3, 1) := by decide +kernel
theorem dX11_stands_69 : decode cX11_stands 69 = .ok (.iadd, 1) := by decide +kernel
theorem dX11_stands_70 : decode cX11_stands 70 = .ok (.aload_n 0, 1) := by decide +kernel
theorem dX11_stands_71 : decode cX11_stands 71 = .ok (.getfield 119, 3) := by decide +kernel
theorem dX11_stands_74 : decode cX11_stands 74 = .ok (.iastore, 1) := by decide +kernel
theorem dX11_stands_75 : decode cX11_stands 75 = .ok (.aload_n 0, 1) := by decide +kernel
theorem dX11_stands_76 : decode cX11_stands 76 = .ok (.iload_n 1, 1) := by decide +kernel
theorem dX11_stands_77 : decode cX11_stands 77 = .ok (.iconst 4, 1) := by decide +kernel
theorem dX11_stands_78 : decode cX11_stands 78 = .ok (.invokevirtual 175, 3) := by decide +kernel
theorem dX11_stands_81 : decode cX11_stands 81 = .ok (.bipush (-3), 2) := by decide +kernel
theorem dX11_stands_83 : decode cX11_stands 83 = .ok (.if_icmp .ne 18, 3) := by decide +kernel
theorem dX11_stands_86 : decode cX11_stands 86 = .ok (.aload_n 0, 1) := by decide +kernel
theorem dX11_stands_87 : decode cX11_stands 87 = .ok (.getfield 11, 3) := by decide +kernel
theorem dX11_stands_90 : decode cX11_stands 90 = .ok (.bipush 12, 2) := by decide +kernel
theorem dX11_stands_92 : decode cX11_stands 92 = .ok (.iload_n 1, 1) := by decide +kernel
theorem dX11_stands_93 : decode cX11_stands 93 = .ok (.imul, 1) := by decide +kernel
theorem dX11_stands_94 : decode cX11_stands 94 = .ok (.iconst 4, 1) := by decide +kernel
theorem dX11_stands_95 : decode cX11_stands 95 = .ok (.iadd, 1) := by decide +kernel
theorem dX11_stands_96 : decode cX11_stands 96 = .ok (.aload_n 0, 1) := by decide +kernel
theorem dX11_stands_97 : decode cX11_stands 97 = .ok (.getfield 119, 3) := by decide +kernel
theorem dX11_stands_100 : decode cX11_stands 100 = .ok (.iastore, 1) := by decide +kernel
theorem dX11_stands_101 : decode cX11_stands 101 = .ok (.aload_n 0, 1) := by decide +kernel
theorem dX11_stands_102 : decode cX11_stands 102 = .ok (.iload_n 1, 1) := by decide +kernel
theorem dX11_stands_103 : decode cX11_stands 103 = .ok (.iconst 4, 1) := by decide +kernel
theorem dX11_stands_104 : decode cX11_stands 104 = .ok (.invokevirtual 175, 3) := by decide +kernel
theorem dX11_stands_107 : decode cX11_stands 107 = .ok (.bipush (-2), 2) := by decide +kernel
theorem dX11_stands_109 : decode cX11_stands 109 = .ok (.if_icmp .ne 20, 3) := by decide +kernel
theorem dX11_stands_112 : decode cX11_stands 112 = .ok (.aload_n 0, 1) := by decide +kernel
theorem dX11_stands_113 : decode cX11_stands 113 = .ok (.getfield 11, 3) := by decide +kernel
theorem dX11_stands_116 : decode cX11_stands 116 = .ok (.bipush 12, 2) := by decide +kernel
theorem dX11_stands_118 : decode cX11_stands 118 = .ok (.iload_n 1, 1) := by decide +kernel
theorem dX11_stands_119 : decode cX11_stands 119 = .ok (.imul, 1) := by decide +kernel
theorem dX11_stands_120 : decode cX11_stands 120 = .ok (.iconst 4, 1) := by decide +kernel
theorem dX11_stands_121 : decode cX11_stands 121 = .ok (.iadd, 1) := by decide +kernel
theorem dX11_stands_122 : decode cX11_stands 122 = .ok (.aload_n 0, 1) := by decide +kernel
theorem dX11_stands_123 : decode cX11_stands 123 = .ok (.getfield 119, 3) := by decide +kernel
theorem dX11_stands_126 : decode cX11_stands 126 = .ok (.iconst 1, 1) := by decide +kernel
theorem dX11_stands_127 : decode cX11_stands 127 = .ok (.iadd, 1) := by decide +kernel
theorem dX11_stands_128 : decode cX11_stands 128 = .ok (.iastore, 1) := by decide +kernel
theorem dX11_stands_129 : decode cX11_stands 129 = .ok (.iinc 1 1, 3) := by decide +kernel
theorem dX11_stands_132 : decode cX11_stands 132 = .ok (.goto (-91), 3) := by decide +kernel
theorem dX11_stands_135 : decode cX11_stands 135 = .ok (.iconst 0, 1) := by decide +kernel
theorem dX11_stands_136 : decode cX11_stands 136 = .ok (.istore_n 1, 1) := by decide +kernel
theorem dX11_stands_137 : decode cX11_stands 137 = .ok (.iload_n 1, 1) := by decide +kernel
theorem dX11_stands_138 : decode cX11_stands 138 = .ok (.bipush 6, 2) := by decide +kernel
theorem dX11_stands_140 : decode cX11_stands 140 = .ok (.if_icmp .ge 16, 3) := by decide +kernel
theorem dX11_stands_143 : decode cX11_stands 143 = .ok (.aload_n 0, 1) := by decide +kernel
theorem dX11_stands_144 : decode cX11_stands 144 = .ok (.getfield 178, 3) := by decide +kernel
theorem dX11_stands_147 : decode cX11_stands 147 = .ok (.iload_n 1, 1) := by decide +kernel
theorem dX11_stands_148 : decode cX11_stands 148 = .ok (.iconst 0, 1) := by decide +kernel
theorem dX11_stands_149 : decode cX11_stands 149 = .ok (.iastore, 1) := by decide +kernel
theorem dX11_stands_150 : decode cX11_stands 150 = .ok (.iinc 1 1, 3) := by decide +kernel
theorem dX11_stands_153 : decode cX11_stands 153 = .ok (.goto (-16), 3) := by decide +kernel
theorem dX11_stands_156 : decode cX11_stands 156 = .ok (.aload_n 0, 1) := by decide +kernel
theorem dX11_stands_157 : decode cX11_stands 157 = .ok (.iconst 0, 1) := by decide +kernel
theorem dX11_stands_158 : decode cX11_stands 158 = .ok (.putfield 181, 3) := by decide +kernel
theorem dX11_stands_161 : decode cX11_stands 161 = .ok (.aload_n 0, 1) := by decide +kernel
theorem dX11_stands_162 : decode cX11_stands 162 = .ok (.invokevirtual 184, 3) := by decide +kernel
theorem dX11_stands_165 : decode cX11_stands 165 = .ok (.return_, 1) := by decide +kernel
theorem dX11_fault_0 : decode cX11_fault 0 = .ok (.aload_n 0, 1) := by decide +kernel
theorem dX11_fault_1 : decode cX11_fault 1 = .ok (.iconst 0, 1) := by decide +kernel
theorem dX11_fault_2 : decode cX11_fault 2 = .ok (.putfield 1, 3) := by decide +kernel
theorem dX11_fault_5 : decode cX11_fault 5 = .ok (.aload_n 0, 1) := by decide +kernel
theorem dX11_fault_6 : decode cX11_fault 6 = .ok (.getfield 165, 3) := by decide +kernel
theorem dX11_fault_9 : decode cX11_fault 9 = .ok (.ireturn, 1) := by decide +kernel
theorem dX11_changes_0 : decode cX11_changes 0 = .ok (.aload_n 0, 1) := by decide +kernel
theorem dX11_changes_1 : decode cX11_changes 1 = .ok (.getfield 181, 3) := by decide +kernel
theorem dX11_changes_4 : decode cX11_changes 4 = .ok (.bipush 12, 2) := by decide +kernel
theorem dX11_changes_6 : decode cX11_changes 6 = .ok (.if_icmp .ne 55, 3) := by decide +kernel
theorem dX11_changes_9 : decode cX11_changes 9 = .ok (.iconst 1, 1) := by decide +kernel
theorem dX11_changes_10 : decode cX11_changes 10 = .ok (.istore_n 3, 1) := by decide +kernel
theorem dX11_changes_11 : decode cX11_changes 11 = .ok (.iload_n 3, 1) := by decide +kernel
theorem dX11_changes_12 : decode cX11_changes 12 = .ok (.bipush 12, 2) := by decide +kernel
theorem dX11_changes_14 : decode cX11_changes 14 = .ok (.if_icmp .ge 37, 3) := by decide +kernel
theorem dX11_changes_17 : decode cX11_changes 17 = .ok (.aload_n 0, 1) := by decide +kernel
theorem dX11_changes_18 : decode cX11_changes 18 = .ok (.getfield 187, 3) := by decide +kernel
theorem dX11_changes_21 : decode cX11_changes 21 = .ok (.iload_n 3, 1) := by decide +kernel
theorem dX11_changes_22 : decode cX11_changes 22 = .ok (.iconst 1, 1) := by decide +kernel
theorem dX11_changes_23 : decode cX11_changes 23 = .ok (.isub, 1) := by decide +kernel
theorem dX11_changes_24 : decode cX11_changes 24 = .ok (.aload_n 0, 1) := by decide +kernel
theorem dX11_changes_25 : decode cX11_changes 25 = .ok (.getfield 187, 3) := by decide +kernel
theorem dX11_changes_28 : decode cX11_changes 28 = .ok (.iload_n 3, 1) := by decide +kernel
theorem dX11_changes_29 : decode cX11_changes 29 = .ok (.iaload, 1) := by decide +kernel
theorem dX11_changes_30 : decode cX11_changes 30 = .ok (.iastore, 1) := by decide +kernel
theorem dX11_changes_31 : decode cX11_changes 31 = .ok (.aload_n 0, 1) := by decide +kernel
theorem dX11_changes_32 : decode cX11_changes 32 = .ok (.getfield 190, 3) := by decide +kernel
theorem dX11_changes_35 : decode cX11_changes 35 = .ok (.iload_n 3, 1) := by decide +kernel
theorem dX11_changes_36 : decode cX11_changes 36 = .ok (.iconst 1, 1) := by decide +kernel
theorem dX11_changes_37 : decode cX11_changes 37 = .ok (.isub, 1) := by decide +kernel
theorem dX11_changes_38 : decode cX11_changes 38 = .ok (.aload_n 0, 1) := by decide +kernel
theorem dX11_changes_39 : decode cX11_changes 39 = .ok (.getfield 190, 3) := by decide +kernel
theorem dX11_changes_42 : decode cX11_changes 42 = .ok (.iload_n 3, 1) := by decide +kernel
theorem dX11_changes_43 : decode cX11_changes 43 = .ok (.iaload, 1) := by decide +kernel
theorem dX11_changes_44 : decode cX11_changes 44 = .ok (.iastore, 1) := by decide +kernel
theorem dX11_changes_45 : decode cX11_changes 45 = .ok (.iinc 3 1, 3) := by decide +kernel
theorem dX11_changes_48 : decode cX11_changes 48 = .ok (.goto (-37), 3) := by decide +kernel
theorem dX11_changes_51 : decode cX11_changes 51 = .ok (.aload_n 0, 1) := by decide +kernel
theorem dX11_changes_52 : decode cX11_changes 52 = .ok (.dup, 1) := by decide +kernel
theorem dX11_changes_53 : decode cX11_changes 53 = .ok (.getfield 181, 3) := by decide +kernel
theorem dX11_changes_56 : decode cX11_changes 56 = .ok (.iconst 1, 1) := by decide +kernel
theorem dX11_changes_57 : decode cX11_changes 57 = .ok (.isub, 1) := by decide +kernel
theorem dX11_changes_58 : decode cX11_changes 58 = .ok (.putfield 181, 3) := by decide +kernel
theorem dX11_changes_61 : decode cX11_changes 61 = .ok (.aload_n 0, 1) := by decide +kernel
theorem dX11_changes_62 : decode cX11_changes 62 = .ok (.getfield 187, 3) := by decide +kernel
theorem dX11_changes_65 : decode cX11_changes 65 = .ok (.aload_n 0, 1) := by decide +kernel
theorem dX11_changes_66 : decode cX11_changes 66 = .ok (.getfield 181, 3) := by decide +kernel
theorem dX11_changes_69 : decode cX11_changes 69 = .ok (.iload_n 1, 1) := by decide +kernel
theorem dX11_changes_70 : decode cX11_changes 70 = .ok (.iastore, 1) := by decide +kernel
theorem dX11_changes_71 : decode cX11_changes 71 = .ok (.aload_n 0, 1) := by decide +kernel
theorem dX11_changes_72 : decode cX11_changes 72 = .ok (.getfield 190, 3) := by decide +kernel
theorem dX11_changes_75 : decode cX11_changes 75 = .ok (.aload_n 0, 1) := by decide +kernel
theorem dX11_changes_76 : decode cX11_changes 76 = .ok (.getfield 181, 3) := by decide +kernel
theorem dX11_changes_79 : decode cX11_changes 79 = .ok (.iload_n 2, 1) := by decide +kernel
theorem dX11_changes_80 : decode cX11_changes 80 = .ok (.iastore, 1) := by decide +kernel
theorem dX11_changes_81 : decode cX11_changes 81 = .ok (.aload_n 0, 1) := by decide +kernel
theorem dX11_changes_82 : decode cX11_changes 82 = .ok (.dup, 1) := by decide +kernel
theorem dX11_changes_83 : decode cX11_changes 83 = .ok (.getfield 181, 3) := by decide +kernel
theorem dX11_changes_86 : decode cX11_changes 86 = .ok (.iconst 1, 1) := by decide +kernel
theorem dX11_changes_87 : decode cX11_changes 87 = .ok (.iadd, 1) := by decide +kernel
theorem dX11_changes_88 : decode cX11_changes 88 = .ok (.putfield 181, 3) := by decide +kernel
theorem dX11_changes_91 : decode cX11_changes 91 = .ok (.aload_n 0, 1) := by decide +kernel
theorem dX11_changes_92 : decode cX11_changes 92 = .ok (.invokevirtual 184, 3) := by decide +kernel
theorem dX11_changes_95 : decode cX11_changes 95 = .ok (.iload_n 2, 1) := by decide +kernel
theorem dX11_changes_96 : decode cX11_changes 96 = .ok (.ireturn, 1) := by decide +kernel
theorem dX11_isName_0 : decode cX11_isName 0 = .ok (.iload_n 1, 1) := by decide +kernel
theorem dX11_isName_1 : decode cX11_isName 1 = .ok (.i2l, 1) := by decide +kernel
theorem dX11_isName_2 : decode cX11_isName 2 = .ok (.lconst 0, 1) := by decide +kernel
theorem dX11_isName_3 : decode cX11_isName 3 = .ok (.ldc2_w 193, 3) := by decide +kernel
theorem dX11_isName_6 : decode cX11_isName 6 = .ok (.invokestatic 157, 3) := by decide +kernel
theorem dX11_isName_9 : decode cX11_isName 9 = .ok (.ireturn, 1) := by decide +kernel
theorem dX11_isStatement_0 : decode cX11_isStatement 0 = .ok (.iload_n 1, 1) := by decide +kernel
theorem dX11_isStatement_1 : decode cX11_isStatement 1 = .ok (.i2l, 1) := by decide +kernel
theorem dX11_isStatement_2 : decode cX11_isStatement 2 = .ok (.lconst 0, 1) := by decide +kernel
theorem dX11_isStatement_3 : decode cX11_isStatement 3 = .ok (.aload_n 0, 1) := by decide +kernel
theorem dX11_isStatement_4 : decode cX11_isStatement 4 = .ok (.getfield 172, 3) := by decide +kernel
theorem dX11_isStatement_7 : decode cX11_isStatement 7 = .ok (.iconst 1, 1) := by decide +kernel
theorem dX11_isStatement_8 : decode cX11_isStatement 8 = .ok (.isub, 1) := by decide +kernel
theorem dX11_isStatement_9 : decode cX11_isStatement 9 = .ok (.i2l, 1) := by decide +kernel
theorem dX11_isStatement_10 : decode cX11_isStatement 10 = .ok (.invokestatic 157, 3) := by decide +kernel
theorem dX11_isStatement_13 : decode cX11_isStatement 13 = .ok (.ireturn, 1) := by decide +kernel
theorem dX11_first_0 : decode cX11_first 0 = .ok (.aload_n 0, 1) := by decide +kernel
theorem dX11_first_1 : decode cX11_first 1 = .ok (.iconst 0, 1) := by decide +kernel
theorem dX11_first_2 : decode cX11_first 2 = .ok (.putfield 1, 3) := by decide +kernel
theorem dX11_first_5 : decode cX11_first 5 = .ok (.aload_n 0, 1) := by decide +kernel
theorem dX11_first_6 : decode cX11_first 6 = .ok (.aload_n 0, 1) := by decide +kernel
theorem dX11_first_7 : decode cX11_first 7 = .ok (.iload_n 1, 1) := by decide +kernel
theorem dX11_first_8 : decode cX11_first 8 = .ok (.invokevirtual 195, 3) := by decide +kernel
theorem dX11_first_11 : decode cX11_first 11 = .ok (.iconst 1, 1) := by decide +kernel
theorem dX11_first_12 : decode cX11_first 12 = .ok (.iconst 0, 1) := by decide +kernel
theorem dX11_first_13 : decode cX11_first 13 = .ok (.invokevirtual 161, 3) := by decide +kernel
theorem dX11_first_16 : decode cX11_first 16 = .ok (.ifCond .eq 21, 3) := by decide +kernel
theorem dX11_first_19 : decode cX11_first 19 = .ok (.aload_n 0, 1) := by decide +kernel
theorem dX11_first_20 : decode cX11_first 20 = .ok (.iload_n 2, 1) := by decide +kernel
theorem dX11_first_21 : decode cX11_first 21 = .ok (.i2l, 1) := by decide +kernel
theorem dX11_first_22 : decode cX11_first 22 = .ok (.lconst 0, 1) := by decide +kernel
theorem dX11_first_23 : decode cX11_first 23 = .ok (.ldc2_w 198, 3) := by decide +kernel
theorem dX11_first_26 : decode cX11_first 26 = .ok (.invokestatic 157, 3) := by decide +kernel
theorem dX11_first_29 : decode cX11_first 29 = .ok (.iconst 2, 1) := by decide +kernel
theorem dX11_first_30 : decode cX11_first 30 = .ok (.iconst 1, 1) := by decide +kernel
theorem dX11_first_31 : decode cX11_first 31 = .ok (.invokevirtual 161, 3) := by decide +kernel
theorem dX11_first_34 : decode cX11_first 34 = .ok (.ifCond .ne 5, 3) := by decide +kernel
theorem dX11_first_37 : decode cX11_first 37 = .ok (.iconst 0, 1) := by decide +kernel
theorem dX11_first_38 : decode cX11_first 38 = .ok (.ireturn, 1) := by decide +kernel
theorem dX11_first_39 : decode cX11_first 39 = .ok (.aload_n 0, 1) := by decide +kernel
theorem dX11_first_40 : decode cX11_first 40 = .ok (.getfield 178, 3) := by decide +kernel
theorem dX11_first_43 : decode cX11_first 43 = .ok (.iload_n 1, 1) := by decide +kernel
theorem dX11_first_44 : decode cX11_first 44 = .ok (.iaload, 1) := by decide +kernel
theorem dX11_first_45 : decode cX11_first 45 = .ok (.istore_n 3, 1) := by decide +kernel
theorem dX11_first_46 : decode cX11_first 46 = .ok (.aload_n 0, 1) := by decide +kernel
theorem dX11_first_47 : decode cX11_first 47 = .ok (.getfield 178, 3) := by decide +kernel
theorem dX11_first_50 : decode cX11_first 50 = .ok (.iload_n 1, 1) := by decide +kernel
theorem dX11_first_51 : decode cX11_first 51 = .ok (.iload_n 2, 1) := by decide +kernel
theorem dX11_first_52 : decode cX11_first 52 = .ok (.iastore, 1) := by decide +kernel
theorem dX11_first_53 : decode cX11_first 53 = .ok (.aload_n 0, 1) := by decide +kernel
theorem dX11_first_54 : decode cX11_first 54 = .ok (.iload_n 1, 1) := by decide +kernel
theorem dX11_first_55 : decode cX11_first 55 = .ok (.iload_n 3, 1) := by decide +kernel
theorem dX11_first_56 : decode cX11_first 56 = .ok (.invokevirtual 200, 3) := by decide +kernel
theorem dX11_first_59 : decode cX11_first 59 = .ok (.ireturn, 1) := by decide +kernel
theorem dX11_chance_0 : decode cX11_chance 0 = .ok (.aload_n 0, 1) := by decide +kernel
theorem dX11_chance_1 : decode cX11_chance 1 = .ok (.iconst 0, 1) := by decide +kernel
theorem dX11_chance_2 : decode cX11_chance 2 = .ok (.putfield 1, 3) := by decide +kernel
theorem dX11_chance_5 : decode cX11_chance 5 = .ok (.aload_n 0, 1) := by decide +kernel
theorem dX11_chance_6 : decode cX11_chance 6 = .ok (.aload_n 0, 1) := by decide +kernel
theorem dX11_chance_7 : decode cX11_chance 7 = .ok (.iload_n 1, 1) := by decide +kernel
theorem dX11_chance_8 : decode cX11_chance 8 = .ok (.invokevirtual 203, 3) := by decide +kernel
theorem dX11_chance_11 : decode cX11_chance 11 = .ok (.iconst 1, 1) := by decide +kernel
theorem dX11_chance_12 : decode cX11_chance 12 = .ok (.iconst 0, 1) := by decide +kernel
theorem dX11_chance_13 : decode cX11_chance 13 = .ok (.invokevirtual 161, 3) := by decide +kernel
theorem dX11_chance_16 : decode cX11_chance 16 = .ok (.ifCond .eq 39, 3) := by decide +kernel
theorem dX11_chance_19 : decode cX11_chance 19 = .ok (.aload_n 0, 1) := by decide +kernel
theorem dX11_chance_20 : decode cX11_chance 20 = .ok (.aload_n 0, 1) := by decide +kernel
theorem dX11_chance_21 : decode cX11_chance 21 = .ok (.iload_n 1, 1) := by decide +kernel
theorem dX11_chance_22 : decode cX11_chance 22 = .ok (.iconst 0, 1) := by decide +kernel
theorem dX11_chance_23 : decode cX11_chance 23 = .ok (.invokevirtual 175, 3) := by decide +kernel
theorem dX11_chance_26 : decode cX11_chance 26 = .ok (.iconst 2, 1) := by decide +kernel
theorem dX11_chance_27 : decode cX11_chance 27 = .ok (.if_icmp .ne 19, 3) := by decide +kernel
theorem dX11_chance_30 : decode cX11_chance 30 = .ok (.iload_n 2, 1) := by decide +kernel
theorem dX11_chance_31 : decode cX11_chance 31 = .ok (.i2l, 1) := by decide +kernel
theorem dX11_chance_32 : decode cX11_chance 32 = .ok (.lconst 0, 1) := by decide +kernel
theorem dX11_chance_33 : decode cX11_chance 33 = .ok (.ldc2_w 206, 3) := by decide +kernel
theorem dX11_chance_36 : decode cX11_chance 36 = .ok (.invokestatic 157, 3) := by decide +kernel
theorem dX11_chance_39 : decode cX11_chance 39 = .ok (.ifCond .eq 7, 3) := by decide +kernel
theorem dX11_chance_42 : decode cX11_chance 42 = .ok (.iconst 1, 1) := by decide +kernel
theorem dX11_chance_43 : decode cX11_chance 43 = .ok (.goto 4, 3) := by decide +kernel
theorem dX11_chance_46 : decode cX11_chance 46 = .ok (.iconst 0, 1) := by decide +kernel
theorem dX11_chance_47 : decode cX11_chance 47 = .ok (.iconst 2, 1) := by decide +kernel
theorem dX11_chance_48 : decode cX11_chance 48 = .ok (.iconst 1, 1) := by decide +kernel
theorem dX11_chance_49 : decode cX11_chance 49 = .ok (.invokevirtual 161, 3) := by decide +kernel
theorem dX11_chance_52 : decode cX11_chance 52 = .ok (.ifCond .ne 5, 3) := by decide +kernel
theorem dX11_chance_55 : decode cX11_chance 55 = .ok (.iconst 0, 1) := by decide +kernel
theorem dX11_chance_56 : decode cX11_chance 56 = .ok (.ireturn, 1) := by decide +kernel
theorem dX11_chance_57 : decode cX11_chance 57 = .ok (.aload_n 0, 1) := by decide +kernel
theorem dX11_chance_58 : decode cX11_chance 58 = .ok (.iload_n 1, 1) := by decide +kernel
theorem dX11_chance_59 : decode cX11_chance 59 = .ok (.iconst 2, 1) := by decide +kernel
theorem dX11_chance_60 : decode cX11_chance 60 = .ok (.invokevirtual 175, 3) := by decide +kernel
theorem dX11_chance_63 : decode cX11_chance 63 = .ok (.istore_n 3, 1) := by decide +kernel
theorem dX11_chance_64 : decode cX11_chance 64 = .ok (.aload_n 0, 1) := by decide +kernel
theorem dX11_chance_65 : decode cX11_chance 65 = .ok (.getfield 11, 3) := by decide +kernel
theorem dX11_chance_68 : decode cX11_chance 68 = .ok (.bipush 12, 2) := by decide +kernel
theorem dX11_chance_70 : decode cX11_chance 70 = .ok (.iload_n 1, 1) := by decide +kernel
theorem dX11_chance_71 : decode cX11_chance 71 = .ok (.imul, 1) := by decide +kernel
theorem dX11_chance_72 : decode cX11_chance 72 = .ok (.iconst 2, 1) := by decide +kernel
theorem dX11_chance_73 : decode cX11_chance 73 = .ok (.iadd, 1) := by decide +kernel
theorem dX11_chance_74 : decode cX11_chance 74 = .ok (.iload_n 2, 1) := by decide +kernel
theorem dX11_chance_75 : decode cX11_chance 75 = .ok (.iastore, 1) := by decide +kernel
theorem dX11_chance_76 : decode cX11_chance 76 = .ok (.aload_n 0, 1) := by decide +kernel
theorem dX11_chance_77 : decode cX11_chance 77 = .ok (.bipush 6, 2) := by decide +kernel
theorem dX11_chance_79 : decode cX11_chance 79 = .ok (.iload_n 1, 1) := by decide +kernel
theorem dX11_chance_80 : decode cX11_chance 80 = .ok (.iadd, 1) := by decide +kernel
theorem dX11_chance_81 : decode cX11_chance 81 = .ok (.iload_n 3, 1) := by decide +kernel
theorem dX11_chance_82 : decode cX11_chance 82 = .ok (.invokevirtual 200, 3) := by decide +kernel
theorem dX11_chance_85 : decode cX11_chance 85 = .ok (.ireturn, 1) := by decide +kernel
theorem dX11_undo_0 : decode cX11_undo 0 = .ok (.aload_n 0, 1) := by decide +kernel
theorem dX11_undo_1 : decode cX11_undo 1 = .ok (.iconst 0, 1) := by decide +kernel
theorem dX11_undo_2 : decode cX11_undo 2 = .ok (.putfield 1, 3) := by decide +kernel
theorem dX11_undo_5 : decode cX11_undo 5 = .ok (.aload_n 0, 1) := by decide +kernel
theorem dX11_undo_6 : decode cX11_undo 6 = .ok (.getfield 181, 3) := by decide +kernel
theorem dX11_undo_9 : decode cX11_undo 9 = .ok (.ifCond .ne 5, 3) := by decide +kernel
theorem dX11_undo_12 : decode cX11_undo 12 = .ok (.iconst (-1), 1) := by decide +kernel
theorem dX11_undo_13 : decode cX11_undo 13 = .ok (.ireturn, 1) := by decide +kernel
theorem dX11_undo_14 : decode cX11_undo 14 = .ok (.aload_n 0, 1) := by decide +kernel
theorem dX11_undo_15 : decode cX11_undo 15 = .ok (.dup, 1) := by decide +kernel
theorem dX11_undo_16 : decode cX11_undo 16 = .ok (.getfield 181, 3) := by decide +kernel
theorem dX11_undo_19 : decode cX11_undo 19 = .ok (.iconst 1, 1) := by decide +kernel
theorem dX11_undo_20 : decode cX11_undo 20 = .ok (.isub, 1) := by decide +kernel
theorem dX11_undo_21 : decode cX11_undo 21 = .ok (.putfield 181, 3) := by decide +kernel
theorem dX11_undo_24 : decode cX11_undo 24 = .ok (.aload_n 0, 1) := by decide +kernel
theorem dX11_undo_25 : decode cX11_undo 25 = .ok (.getfield 187, 3) := by decide +kernel
theorem dX11_undo_28 : decode cX11_undo 28 = .ok (.aload_n 0, 1) := by decide +kernel
theorem dX11_undo_29 : decode cX11_undo 29 = .ok (.getfield 181, 3) := by decide +kernel
theorem dX11_undo_32 : decode cX11_undo 32 = .ok (.iaload, 1) := by decide +kernel
theorem dX11_undo_33 : decode cX11_undo 33 = .ok (.istore_n 1, 1) := by decide +kernel
theorem dX11_undo_34 : decode cX11_undo 34 = .ok (.iload_n 1, 1) := by decide +kernel
theorem dX11_undo_35 : decode cX11_undo 35 = .ok (.bipush 6, 2) := by decide +kernel
theorem dX11_undo_37 : decode cX11_undo 37 = .ok (.if_icmp .ge 21, 3) := by decide +kernel
theorem dX11_undo_40 : decode cX11_undo 40 = .ok (.aload_n 0, 1) := by decide +kernel
theorem dX11_undo_41 : decode cX11_undo 41 = .ok (.getfield 178, 3) := by decide +kernel
theorem dX11_undo_44 : decode cX11_undo 44 = .ok (.iload_n 1, 1) := by decide +kernel
theorem dX11_undo_45 : decode cX11_undo 45 = .ok (.aload_n 0, 1) := by decide +kernel
theorem dX11_undo_46 : decode cX11_undo 46 = .ok (.getfield 190, 3) := by decide +kernel
theorem dX11_undo_49 : decode cX11_undo 49 = .ok (.aload_n 0, 1) := by decide +kernel
theorem dX11_undo_50 : decode cX11_undo 50 = .ok (.getfield 181, 3) := by decide +kernel
theorem dX11_undo_53 : decode cX11_undo 53 = .ok (.iaload, 1) := by decide +kernel
theorem dX11_undo_54 : decode cX11_undo 54 = .ok (.iastore, 1) := by decide +kernel
theorem dX11_undo_55 : decode cX11_undo 55 = .ok (.goto 26, 3) := by decide +kernel
theorem dX11_undo_58 : decode cX11_undo 58 = .ok (.aload_n 0, 1) := by decide +kernel
theorem dX11_undo_59 : decode cX11_undo 59 = .ok (.getfield 11, 3) := by decide +kernel
theorem dX11_undo_62 : decode cX11_undo 62 = .ok (.bipush 12, 2) := by decide +kernel
theorem dX11_undo_64 : decode cX11_undo 64 = .ok (.iload_n 1, 1) := by decide +kernel
theorem dX11_undo_65 : decode cX11_undo 65 = .ok (.bipush 6, 2) := by decide +kernel
theorem dX11_undo_67 : decode cX11_undo 67 = .ok (.isub, 1) := by decide +kernel
theorem dX11_undo_68 : decode cX11_undo 68 = .ok (.imul, 1) := by decide +kernel
theorem dX11_undo_69 : decode cX11_undo 69 = .ok (.iconst 2, 1) := by decide +kernel
theorem dX11_undo_70 : decode cX11_undo 70 = .ok (.iadd, 1) := by decide +kernel
theorem dX11_undo_71 : decode cX11_undo 71 = .ok (.aload_n 0, 1) := by decide +kernel
theorem dX11_undo_72 : decode cX11_undo 72 = .ok (.getfield 190, 3) := by decide +kernel
theorem dX11_undo_75 : decode cX11_undo 75 = .ok (.aload_n 0, 1) := by decide +kernel
theorem dX11_undo_76 : decode cX11_undo 76 = .ok (.getfield 181, 3) := by decide +kernel
theorem dX11_undo_79 : decode cX11_undo 79 = .ok (.iaload, 1) := by decide +kernel
theorem dX11_undo_80 : decode cX11_undo 80 = .ok (.iastore, 1) := by decide +kernel
theorem dX11_undo_81 : decode cX11_undo 81 = .ok (.aload_n 0, 1) := by decide +kernel
theorem dX11_undo_82 : decode cX11_undo 82 = .ok (.invokevirtual 184, 3) := by decide +kernel
theorem dX11_undo_85 : decode cX11_undo 85 = .ok (.aload_n 0, 1) := by decide +kernel
theorem dX11_undo_86 : decode cX11_undo 86 = .ok (.getfield 181, 3) := by decide +kernel
theorem dX11_undo_89 : decode cX11_undo 89 = .ok (.ireturn, 1) := by decide +kernel
theorem dX11_isOther_0 : decode cX11_isOther 0 = .ok (.aload_n 0, 1) := by decide +kernel
theorem dX11_isOther_1 : decode cX11_isOther 1 = .ok (.iconst 0, 1) := by decide +kernel
theorem dX11_isOther_2 : decode cX11_isOther 2 = .ok (.putfield 208, 3) := by decide +kernel
theorem dX11_isOther_5 : decode cX11_isOther 5 = .ok (.aload_n 0, 1) := by decide +kernel
theorem dX11_isOther_6 : decode cX11_isOther 6 = .ok (.iconst 0, 1) := by decide +kernel
theorem dX11_isOther_7 : decode cX11_isOther 7 = .ok (.putfield 212, 3) := by decide +kernel
theorem dX11_isOther_10 : decode cX11_isOther 10 = .ok (.return_, 1) := by decide +kernel
theorem dX11_valueIn_0 : decode cX11_valueIn 0 = .ok (.iload_n 1, 1) := by decide +kernel
theorem dX11_valueIn_1 : decode cX11_valueIn 1 = .ok (.aload_n 0, 1) := by decide +kernel
theorem dX11_valueIn_2 : decode cX11_valueIn 2 = .ok (.getfield 215, 3) := by decide +kernel
theorem dX11_valueIn_5 : decode cX11_valueIn 5 = .ok (.iload_n 2, 1) := by decide +kernel
theorem dX11_valueIn_6 : decode cX11_valueIn 6 = .ok (.iaload, 1) := by decide +kernel
theorem dX11_valueIn_7 : decode cX11_valueIn 7 = .ok (.idiv, 1) := by decide +kernel
theorem dX11_valueIn_8 : decode cX11_valueIn 8 = .ok (.bipush 10, 2) := by decide +kernel
theorem dX11_valueIn_10 : decode cX11_valueIn 10 = .ok (.irem, 1) := by decide +kernel
theorem dX11_valueIn_11 : decode cX11_valueIn 11 = .ok (.ireturn, 1) := by decide +kernel
theorem dX11_with_0 : decode cX11_with 0 = .ok (.iload_n 1, 1) := by decide +kernel
theorem dX11_with_1 : decode cX11_with 1 = .ok (.iload_n 3, 1) := by decide +kernel
theorem dX11_with_2 : decode cX11_with 2 = .ok (.aload_n 0, 1) := by decide +kernel
theorem dX11_with_3 : decode cX11_with 3 = .ok (.iload_n 1, 1) := by decide +kernel
theorem dX11_with_4 : decode cX11_with 4 = .ok (.iload_n 2, 1) := by decide +kernel
theorem dX11_with_5 : decode cX11_with 5 = .ok (.invokevirtual 218, 3) := by decide +kernel
theorem dX11_with_8 : decode cX11_with 8 = .ok (.isub, 1) := by decide +kernel
theorem dX11_with_9 : decode cX11_with 9 = .ok (.aload_n 0, 1) := by decide +kernel
theorem dX11_with_10 : decode cX11_with 10 = .ok (.getfield 215, 3) := by decide +kernel
theorem dX11_with_13 : decode cX11_with 13 = .ok (.iload_n 2, 1) := by decide +kernel
theorem dX11_with_14 : decode cX11_with 14 = .ok (.iaload, 1) := by decide +kernel
theorem dX11_with_15 : decode cX11_with 15 = .ok (.imul, 1) := by decide +kernel
theorem dX11_with_16 : decode cX11_with 16 = .ok (.iadd, 1) := by decide +kernel
theorem dX11_with_17 : decode cX11_with 17 = .ok (.ireturn, 1) := by decide +kernel
theorem dX11_termIn_0 : decode cX11_termIn 0 = .ok (.iload_n 2, 1) := by decide +kernel
theorem dX11_termIn_1 : decode cX11_termIn 1 = .ok (.ifCond .ge 10, 3) := by decide +kernel
theorem dX11_termIn_4 : decode cX11_termIn 4 = .ok (.iload_n 2, 1) := by decide +kernel
theorem dX11_termIn_5 : decode cX11_termIn 5 = .ok (.bipush 10, 2) := by decide +kernel
theorem dX11_termIn_7 : decode cX11_termIn 7 = .ok (.iadd, 1) := by decide +kernel
theorem dX11_termIn_8 : decode cX11_termIn 8 = .ok (.goto 9, 3) := by decide +kernel
theorem dX11_termIn_11 : decode cX11_termIn 11 = .ok (.aload_n 0, 1) := by decide +kernel
theorem dX11_termIn_12 : decode cX11_termIn 12 = .ok (.iload_n 1, 1) := by decide +kernel
theorem dX11_termIn_13 : decode cX11_termIn 13 = .ok (.iload_n 2, 1) := by decide +kernel
theorem dX11_termIn_14 : decode cX11_termIn 14 = .ok (.invokevirtual 218, 3) := by decide +kernel
theorem dX11_termIn_17 : decode cX11_termIn 17 = .ok (.ireturn, 1) := by decide +kernel
theorem dX11_sumIn_0 : decode cX11_sumIn 0 = .ok (.aload_n 0, 1) := by decide +kernel
theorem dX11_sumIn_1 : decode cX11_sumIn 1 = .ok (.iload_n 1, 1) := by decide +kernel
theorem dX11_sumIn_2 : decode cX11_sumIn 2 = .ok (.aload_n 0, 1) := by decide +kernel
theorem dX11_sumIn_3 : decode cX11_sumIn 3 = .ok (.getfield 11, 3) := by decide +kernel
theorem dX11_sumIn_6 : decode cX11_sumIn 6 = .ok (.iload_n 2, 1) := by decide +kernel
theorem dX11_sumIn_7 : decode cX11_sumIn 7 = .ok (.iaload, 1) := by decide +kernel
theorem dX11_sumIn_8 : decode cX11_sumIn 8 = .ok (.invokevirtual 221, 3) := by decide +kernel
theorem dX11_sumIn_11 : decode cX11_sumIn 11 = .ok (.aload_n 0, 1) := by decide +kernel
theorem dX11_sumIn_12 : decode cX11_sumIn 12 = .ok (.getfield 11, 3) := by decide +kernel
theorem dX11_sumIn_15 : decode cX11_sumIn 15 = .ok (.iload_n 2, 1) := by decide +kernel
theorem dX11_sumIn_16 : decode cX11_sumIn 16 = .ok (.iconst 2, 1) := by decide +kernel
theorem dX11_sumIn_17 : decode cX11_sumIn 17 = .ok (.iadd, 1) := by decide +kernel
theorem dX11_sumIn_18 : decode cX11_sumIn 18 = .ok (.iaload, 1) := by decide +kernel
theorem dX11_sumIn_19 : decode cX11_sumIn 19 = .ok (.aload_n 0, 1) := by decide +kernel
theorem dX11_sumIn_20 : decode cX11_sumIn 20 = .ok (.iload_n 1, 1) := by decide +kernel
theorem dX11_sumIn_21 : decode cX11_sumIn 21 = .ok (.aload_n 0, 1) := by decide +kernel
theorem dX11_sumIn_22 : decode cX11_sumIn 22 = .ok (.getfield 11, 3) := by decide +kernel
theorem dX11_sumIn_25 : decode cX11_sumIn 25 = .ok (.iload_n 2, 1) := by decide +kernel
theorem dX11_sumIn_26 : decode cX11_sumIn 26 = .ok (.iconst 1, 1) := by decide +kernel
theorem dX11_sumIn_27 : decode cX11_sumIn 27 = .ok (.iadd, 1) := by decide +kernel
theorem dX11_sumIn_28 : decode cX11_sumIn 28 = .ok (.iaload, 1) := by decide +kernel
theorem dX11_sumIn_29 : decode cX11_sumIn 29 = .ok (.invokevirtual 221, 3) := by decide +kernel
theorem dX11_sumIn_32 : decode cX11_sumIn 32 = .ok (.imul, 1) := by decide +kernel
theorem dX11_sumIn_33 : decode cX11_sumIn 33 = .ok (.iadd, 1) := by decide +kernel
theorem dX11_sumIn_34 : decode cX11_sumIn 34 = .ok (.bipush 10, 2) := by decide +kernel
theorem dX11_sumIn_36 : decode cX11_sumIn 36 = .ok (.iadd, 1) := by decide +kernel
theorem dX11_sumIn_37 : decode cX11_sumIn 37 = .ok (.bipush 10, 2) := by decide +kernel
theorem dX11_sumIn_39 : decode cX11_sumIn 39 = .ok (.irem, 1) := by decide +kernel
theorem dX11_sumIn_40 : decode cX11_sumIn 40 = .ok (.ireturn, 1) := by decide +kernel
theorem dX11_holds_0 : decode cX11_holds 0 = .ok (.aload_n 0, 1) := by decide +kernel
theorem dX11_holds_1 : decode cX11_holds 1 = .ok (.iload_n 1, 1) := by decide +kernel
theorem dX11_holds_2 : decode cX11_holds 2 = .ok (.bipush 12, 2) := by decide +kernel
theorem dX11_holds_4 : decode cX11_holds 4 = .ok (.iload_n 2, 1) := by decide +kernel
theorem dX11_holds_5 : decode cX11_holds 5 = .ok (.imul, 1) := by decide +kernel
theorem dX11_holds_6 : decode cX11_holds 6 = .ok (.iconst 5, 1) := by decide +kernel
theorem dX11_holds_7 : decode cX11_holds 7 = .ok (.iadd, 1) := by decide +kernel
theorem dX11_holds_8 : decode cX11_holds 8 = .ok (.invokevirtual 224, 3) := by decide +kernel
theorem dX11_holds_11 : decode cX11_holds 11 = .ok (.istore_n 3, 1) := by decide +kernel
theorem dX11_holds_12 : decode cX11_holds 12 = .ok (.aload_n 0, 1) := by decide +kernel
theorem dX11_holds_13 : decode cX11_holds 13 = .ok (.iload_n 1, 1) := by decide +kernel
theorem dX11_holds_14 : decode cX11_holds 14 = .ok (.bipush 12, 2) := by decide +kernel
theorem dX11_holds_16 : decode cX11_holds 16 = .ok (.iload_n 2, 1) := by decide +kernel
theorem dX11_holds_17 : decode cX11_holds 17 = .ok (.imul, 1) := by decide +kernel
theorem dX11_holds_18 : decode cX11_holds 18 = .ok (.bipush 8, 2) := by decide +kernel
theorem dX11_holds_20 : decode cX11_holds 20 = .ok (.iadd, 1) := by decide +kernel
theorem dX11_holds_21 : decode cX11_holds 21 = .ok (.invokevirtual 224, 3) := by decide +kernel
theorem dX11_holds_24 : decode cX11_holds 24 = .ok (.istore 4, 2) := by decide +kernel
theorem dX11_holds_26 : decode cX11_holds 26 = .ok (.aload_n 0, 1) := by decide +kernel
theorem dX11_holds_27 : decode cX11_holds 27 = .ok (.iload_n 2, 1) := by decide +kernel
theorem dX11_holds_28 : decode cX11_holds 28 = .ok (.bipush 11, 2) := by decide +kernel
theorem dX11_holds_30 : decode cX11_holds 30 = .ok (.invokevirtual 175, 3) := by decide +kernel
theorem dX11_holds_33 : decode cX11_holds 33 = .ok (.istore 5, 2) := by decide +kernel
theorem dX11_holds_35 : decode cX11_holds 35 = .ok (.iload 5, 2) := by decide +kernel
theorem dX11_holds_37 : decode cX11_holds 37 = .ok (.bipush 61, 2) := by decide +kernel
theorem dX11_holds_39 : decode cX11_holds 39 = .ok (.if_icmp .ne 17, 3) := by decide +kernel
theorem dX11_holds_42 : decode cX11_holds 42 = .ok (.iload_n 3, 1) := by decide +kernel
theorem dX11_holds_43 : decode cX11_holds 43 = .ok (.iload 4, 2) := by decide +kernel
theorem dX11_holds_45 : decode cX11_holds 45 = .ok (.if_icmp .ne 7, 3) := by decide +kernel
theorem dX11_holds_48 : decode cX11_holds 48 = .ok (.iconst 1, 1) := by decide +kernel
theorem dX11_holds_49 : decode cX11_holds 49 = .ok (.goto 39, 3) := by decide +kernel
theorem dX11_holds_52 : decode cX11_holds 52 = .ok (.iconst 0, 1) := by decide +kernel
theorem dX11_holds_53 : decode cX11_holds 53 = .ok (.goto 35, 3) := by decide +kernel
theorem dX11_holds_56 : decode cX11_holds 56 = .ok (.iload 5, 2) := by decide +kernel
theorem dX11_holds_58 : decode cX11_holds 58 = .ok (.bipush 60, 2) := by decide +kernel
theorem dX11_holds_60 : decode cX11_holds 60 = .ok (.if_icmp .ne 17, 3) := by decide +kernel
theorem dX11_holds_63 : decode cX11_holds 63 = .ok (.iload_n 3, 1) := by decide +kernel
theorem dX11_holds_64 : decode cX11_holds 64 = .ok (.iload 4, 2) := by decide +kernel
theorem dX11_holds_66 : decode cX11_holds 66 = .ok (.if_icmp .ge 7, 3) := by decide +kernel
theorem dX11_holds_69 : decode cX11_holds 69 = .ok (.iconst 1, 1) := by decide +kernel
theorem dX11_holds_70 : decode cX11_holds 70 = .ok (.goto 18, 3) := by decide +kernel
theorem dX11_holds_73 : decode cX11_holds 73 = .ok (.iconst 0, 1) := by decide +kernel
theorem dX11_holds_74 : decode cX11_holds 74 = .ok (.goto 14, 3) := by decide +kernel
theorem dX11_holds_77 : decode cX11_holds 77 = .ok (.iload_n 3, 1) := by decide +kernel
theorem dX11_holds_78 : decode cX11_holds 78 = .ok (.iload 4, 2) := by decide +kernel
theorem dX11_holds_80 : decode cX11_holds 80 = .ok (.if_icmp .eq 7, 3) := by decide +kernel
theorem dX11_holds_83 : decode cX11_holds 83 = .ok (.iconst 1, 1) := by decide +kernel
theorem dX11_holds_84 : decode cX11_holds 84 = .ok (.goto 4, 3) := by decide +kernel
theorem dX11_holds_87 : decode cX11_holds 87 = .ok (.iconst 0, 1) := by decide +kernel
theorem dX11_holds_88 : decode cX11_holds 88 = .ok (.ireturn, 1) := by decide +kernel
theorem dX11_stateFor_0 : decode cX11_stateFor 0 = .ok (.iload_n 1, 1) := by decide +kernel
theorem dX11_stateFor_1 : decode cX11_stateFor 1 = .ok (.aload_n 0, 1) := by decide +kernel
theorem dX11_stateFor_2 : decode cX11_stateFor 2 = .ok (.getfield 172, 3) := by decide +kernel
theorem dX11_stateFor_5 : decode cX11_stateFor 5 = .ok (.iconst 1, 1) := by decide +kernel
theorem dX11_stateFor_6 : decode cX11_stateFor 6 = .ok (.iadd, 1) := by decide +kernel
theorem dX11_stateFor_7 : decode cX11_stateFor 7 = .ok (.if_icmp .ne 7, 3) := by decide +kernel
theorem dX11_stateFor_10 : decode cX11_stateFor 10 = .ok (.iconst 0, 1) := by decide +kernel
theorem dX11_stateFor_11 : decode cX11_stateFor 11 = .ok (.goto 4, 3) := by decide +kernel
theorem dX11_stateFor_14 : decode cX11_stateFor 14 = .ok (.iload_n 2, 1) := by decide +kernel
theorem dX11_stateFor_15 : decode cX11_stateFor 15 = .ok (.istore_n 3, 1) := by decide +kernel
theorem dX11_stateFor_16 : decode cX11_stateFor 16 = .ok (.iconst 0, 1) := by decide +kernel
theorem dX11_stateFor_17 : decode cX11_stateFor 17 = .ok (.istore 4, 2) := by decide +kernel
theorem dX11_stateFor_19 : decode cX11_stateFor 19 = .ok (.iload 4, 2) := by decide +kernel
theorem dX11_stateFor_21 : decode cX11_stateFor 21 = .ok (.aload_n 0, 1) := by decide +kernel
theorem dX11_stateFor_22 : decode cX11_stateFor 22 = .ok (.getfield 227, 3) := by decide +kernel
theorem dX11_stateFor_25 : decode cX11_stateFor 25 = .ok (.if_icmp .ge 34, 3) := by decide +kernel
theorem dX11_stateFor_28 : decode cX11_stateFor 28 = .ok (.aload_n 0, 1) := by decide +kernel
theorem dX11_stateFor_29 : decode cX11_stateFor 29 = .ok (.getfield 230, 3) := by decide +kernel
theorem dX11_stateFor_32 : decode cX11_stateFor 32 = .ok (.iload 4, 2) := by decide +kernel
theorem dX11_stateFor_34 : decode cX11_stateFor 34 = .ok (.iaload, 1) := by decide +kernel
theorem dX11_stateFor_35 : decode cX11_stateFor 35 = .ok (.iload_n 1, 1) := by decide +kernel
theorem dX11_stateFor_36 : decode cX11_stateFor 36 = .ok (.if_icmp .ne 17, 3) := by decide +kernel
theorem dX11_stateFor_39 : decode cX11_stateFor 39 = .ok (.aload_n 0, 1) := by decide +kernel
theorem dX11_stateFor_40 : decode cX11_stateFor 40 = .ok (.getfield 233, 3) := by decide +kernel
